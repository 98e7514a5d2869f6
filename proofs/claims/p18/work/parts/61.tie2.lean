theorem lt64 {x y : Int32} : x.toInt64 < y.toInt64 ↔ x < y := by
  rw [Int64.lt_iff_toInt_lt, Int32.toInt_toInt64, Int32.toInt_toInt64, i32_lt]
theorem neg64 {x : Int32} (h : -1 ≤ x) : x.toInt64 < 0 ↔ x = -1 := by
  rw [Int64.lt_iff_toInt_lt, Int32.toInt_toInt64, i32_eq, i32_nm1]
  rw [i32_le, i32_nm1] at h
  show x.toInt < 0 ↔ _
  omega
theorem neg32 {x : Int32} (h : -1 ≤ x) : x < 0 ↔ x = -1 := by
  rw [i32_eq, i32_nm1, i32_lt, i32_n0]
  rw [i32_le, i32_nm1] at h
  omega
theorem dif_eq {f d u w : Int32} (hf : rgV f) (hd : rgV d) : difM f d u w = diffS f d u w := by
  have bf := hf
  have bd := hd
  unfold rgV at bf bd
  simp only [i32_le, i32_nm1, i32_n1000000] at bf bd
  have hsub : ∀ a b : Int32, -1 ≤ a.toInt ∧ a.toInt ≤ 1000000 → -1 ≤ b.toInt ∧ b.toInt ≤ 1000000 → (0 < a.toInt64 - b.toInt64 ↔ b < a) := fun a b ha hb => by
    rw [Int64.lt_iff_toInt_lt, Int64.toInt_sub, Int32.toInt_toInt64, Int32.toInt_toInt64, i32_lt, Int.bmod_eq_of_le (by omega) (by omega)]
    show 0 < _ ↔ _
    omega
  unfold difM diffS absL
  by_cases h0 : f = -1 ∨ d = -1
  · rw [if_pos h0, if_pos (h0.elim (fun h => Or.inl ((neg64 hf.1).mpr h)) (fun h => Or.inr ((neg64 hd.1).mpr h)))]
  · rw [if_neg h0, if_neg (fun h => h0 (h.elim (fun h => Or.inl ((neg64 hf.1).mp h)) (fun h => Or.inr ((neg64 hd.1).mp h))))]
    by_cases hlt : d < f
    · have h64 := lt64.mpr hlt
      have hs := (hsub f d bf bd).mpr hlt
      simp only [if_pos h64, if_pos hlt, if_pos hs]
      rw [Int64.mul_comm 1000, show (2 : Int64) * (d.toInt64 * u.toInt64) = d.toInt64 * u.toInt64 + d.toInt64 * u.toInt64 by grind]
    · have h64 : ¬ d.toInt64 < f.toInt64 := fun h => hlt (lt64.mp h)
      have hs : ¬ 0 < f.toInt64 - d.toInt64 := fun h => hlt ((hsub f d bf bd).mp h)
      simp only [if_neg h64, if_neg hlt, if_neg hs]
      rw [show (1000 : Int64) * (d.toInt64 - f.toInt64) = -(f.toInt64 - d.toInt64) * 1000 by grind, show (2 : Int64) * (d.toInt64 * w.toInt64) = d.toInt64 * w.toInt64 + d.toInt64 * w.toInt64 by grind]
section T3
variable {σ τ u u' : Nat → Nat → Int32} {n nm : Nat} {p0 p1 p2 p3 r r' k : Int32}
theorem dS_eq (hT : TT σ τ n nm) {i : Nat} (hi : i < nm) : dS τ i = σ 30 i ∧ ∃ d, d < 10 ∧ σ 30 i = nI d := by
  have hn : n ≤ 30 := hT.1.2.2.2.1
  obtain ⟨-, -, hI, -, hV, -, -, -, -, -, hS, -⟩ := hT
  obtain ⟨⟨j, hj, e1, e2⟩, -⟩ := hS.1 i hi
  have e3 := (hI j hj).1
  obtain ⟨⟨d, hd, e4⟩, -⟩ := hV j hj
  refine ⟨?_, d, hd, e2.trans e4⟩
  unfold dS
  rw [e1, nI_clamp (by omega), e3, e2]
theorem df_eq (hT : TT σ τ n nm) {i q : Nat} (hi : i < nm) (hq : q < 4) : dfM τ i q = dfS σ i q := by
  obtain ⟨e1, d, hd, e2⟩ := dS_eq hT hi
  obtain ⟨-, -, -, -, -, -, -, -, hD, hU, -, hB, -⟩ := hT
  unfold dfM dfS
  rw [e1, e2, nI_clamp (by omega), (hB.1 i q hi hq).1, (hD d q hd hq).1, (hU q hq).1, (hU q hq).2.1]
  exact dif_eq (hB.1 i q hi hq).2.1 (hD d q hd hq).2
theorem gr_q (hT : TT σ τ n nm) {p b : Int32} {i : Nat} (hi : i < nm) : ∀ q, q ≤ 4 → grM τ p b (4 * i + q) = grM τ p b (4 * i) + (if σ 30 i = p then cntM σ b i q else 0)
  | 0, _ => by
    rw [show 4 * i + 0 = 4 * i from rfl]
    by_cases h : σ 30 i = p
    · rw [if_pos h]
      exact (add_z0 _).symm
    · rw [if_neg h]
      exact (add_z0 _).symm
  | q + 1, hq => by
    have ih := gr_q hT (p := p) (b := b) hi q (by omega)
    have e1 : (4 * i + q) / 4 = i := by omega
    have e2 : (4 * i + q) % 4 = q := by omega
    have e3 := (dS_eq hT hi).1
    have e4 := df_eq hT hi (q := q) (by omega)
    have e5 := (hT.2.2.2.2.2.2.2.2.2.2.2.1.1 i q hi (by omega)).2.2.1
    show grM τ p b (4 * i + q) + (if dS τ ((4 * i + q) / 4) = p ∧ dfM τ ((4 * i + q) / 4) ((4 * i + q) % 4) = 2 ∧ (¬ b = 0 ∨ τ 22 (4 * i + q) = 0) then 1 else 0) = _
    rw [ih, e1, e2, e3, e4, e5]
    by_cases h : σ 30 i = p
    · rw [if_pos h, if_pos h]
      by_cases h2 : (¬ b = 0 ∨ σ (2000 + i) q = 0) ∧ dfS σ i q = 2
      · rw [if_pos ⟨h, h2.2, h2.1⟩, show cntM σ b i (q + 1) = cntM σ b i q + 1 from if_pos h2, Int32.add_assoc]
      · rw [if_neg (fun h9 => h2 ⟨h9.2.2, h9.2.1⟩), show cntM σ b i (q + 1) = cntM σ b i q from if_neg h2, add_z0]
    · rw [if_neg h, if_neg h, if_neg (fun h9 => h h9.1), add_z0, add_z0]
theorem gr_eq (hT : TT σ τ n nm) {p b : Int32} : ∀ z, z ≤ nm → grM τ p b (4 * z) = cntS σ p b z
  | 0, _ => rfl
  | z + 1, hz => by
    have h := gr_q hT (p := p) (b := b) (i := z) (by omega) 4 (by omega)
    rw [show 4 * (z + 1) = 4 * z + 4 by omega, h, gr_eq hT z (by omega)]
    show _ = if σ 30 z = p then cntS σ p b z + cntM σ b z 4 else cntS σ p b z
    by_cases h2 : σ 30 z = p
    · rw [if_pos h2, if_pos h2]
    · rw [if_neg h2, if_neg h2, add_z0]
theorem le3 {x : Int32} : 3 ≤ x ↔ 2 < x := by
  simp only [i32_le, i32_lt, i32_n2, i32_n3]
  omega
theorem tt_plan (hT : TT σ τ n nm) (hc : cr_plan σ n nm p0 p1 p2 p3 k r u) (hm : mr_plan τ n nm p0 p1 p2 p3 r' u') : u' 0 0 = k ∧ (k = 0 → r' = r) ∧ TT u u' n nm := by
  have hn : n ≤ 30 := hT.1.2.2.2.1
  have hI := hT.2.2.1
  have hA := hT.2.2.2.1
  have e3 : τ 0 3 = σ 0 0 := hT.1.2.2.1
  unfold mr_plan at hm
  rw [e3] at hm
  rcases hm with ⟨hno, rfl, rfl⟩ | ⟨i, hi, rfl, h1, h2, h3, h4, hm⟩
  · rcases hc with ⟨rfl, j, hj, rfl, hp, -⟩ | ⟨rfl, -, rfl⟩
    · exact absurd ⟨⟨nI_pos' (by omega), nI_lt hj (by omega)⟩, hp⟩ hno
    · exact ⟨rfl, fun h => absurd h (by decide), tt_thr hT⟩
  · rcases hc with ⟨rfl, j, hj, e, hp, hc⟩ | ⟨rfl, hno, rfl⟩
    · have := nI_jn (by omega) (by omega) e
      subst this
      have e8 : τ 8 i = σ 23 i := (hI i hi).2.2.2.1
      have hiff : (∃ j, j < n ∧ (τ 8 j = 1 ∨ τ 8 j = 2) ∧ τ 10 j = p1 ∧ τ 11 j < p3 ∧ p2 < τ 12 j) ↔ (∃ j, j < n ∧ (σ 23 j = 1 ∨ σ 23 j = 2) ∧ σ 25 j = p1 ∧ σ 26 j < p3 ∧ p2 < σ 27 j) := by
        constructor
        · rintro ⟨j, hj, hs, h5, h6, h7⟩
          rw [(hI j hj).2.2.2.1] at hs
          obtain ⟨a1, a2, a3⟩ := hA j hj hs
          exact ⟨j, hj, hs, a1 ▸ h5, a2 ▸ h6, a3 ▸ h7⟩
        · rintro ⟨j, hj, hs, h5, h6, h7⟩
          obtain ⟨a1, a2, a3⟩ := hA j hj hs
          exact ⟨j, hj, by rw [(hI j hj).2.2.2.1]; exact hs, a1 ▸ h5, a2 ▸ h6, a3 ▸ h7⟩
      rw [e8, hiff] at hm
      rcases hm with ⟨h5, rfl, rfl⟩ | ⟨h5, rfl, rfl⟩
      · rcases hc with ⟨h6, -, -⟩ | ⟨-, rfl, rfl⟩
        · exact absurd h6 h5
        · exact ⟨rfl, fun _ => rfl, tt_thr hT⟩
      · rcases hc with ⟨-, rfl, rfl⟩ | ⟨h6, -, -⟩
        · refine ⟨rfl, fun _ => rfl, ?_⟩
          obtain ⟨hN, hR, hI, hA, hV, hF, hQ, hH, hD, hU, hS, hB, hC, hK⟩ := tt_thr (x := 0) hT
          refine ⟨hN, hR, fun j hj => ?_, fun j hj hc => ?_, hV, fun j h1 h2 => ?_, hQ, hH, TTd_su (TTd_su (TTd_su (TTd_su hD (by omega)) (by omega)) (by omega)) (by omega), hU, hS, TTb_su (TTb_su (TTb_su (TTb_su hB (by decide)) (by decide)) (by decide)) (by decide), TTc_rw hC rfl, TTk_rw hK rfl rfl rfl rfl⟩
          · obtain ⟨h1, h2, h3, h4, h5, h6⟩ := hI j hj
            refine ⟨h1, h2, h3, ?_, h5, h6⟩
            show su (su τ 0 0 0) 8 i 1 8 j = su σ 23 i 1 23 j
            by_cases e : j = i
            · subst e
              rw [su_at, su_at]
            · rw [su_nj e, su_nj e]
              exact h4
          · by_cases e : j = i
            · subst e
              exact ⟨by show su _ 10 j p1 10 j = su _ 25 j p1 25 j; rw [su_at, su_at], by show su _ 11 j p2 11 j = su _ 26 j p2 26 j; rw [su_at, su_at], by rw [su_at, su_at]⟩
            · have hc' : su σ 23 i 1 23 j = 1 ∨ su σ 23 i 1 23 j = 2 := hc
              rw [su_nj e] at hc'
              obtain ⟨a1, a2, a3⟩ := hA j hj hc'
              refine ⟨?_, ?_, ?_⟩
              · simp only [su_nj e]
                exact a1
              · simp only [su_nj e]
                exact a2
              · simp only [su_nj e]
                exact a3
          · have e : j ≠ i := by omega
            show su (su τ 0 0 0) 8 i 1 8 j = 0 ∧ _
            rw [su_nj e]
            exact hF j h1 h2
        · exact absurd h5 h6
    · exact absurd ⟨⟨i, hi, rfl⟩, h1, h2, h3, h4⟩ hno
theorem tt_brk {d : Nat} (hT : TT σ τ n nm) : TT (su σ 2 d (-1)) (su τ 16 d 1) n nm := by
  obtain ⟨hN, hR, hI, hA, hV, hF, hQ, hH, hD, hU, hS, hB, hC, hK⟩ := hT
  refine ⟨hN, hR, hI, hA, hV, hF, fun j hj => ?_, hH, TTd_su hD (by omega), hU, hS, TTb_su hB (by decide), TTc_rw hC rfl, TTk_rw hK rfl rfl rfl rfl⟩
  by_cases e : j = d
  · subst e
    rw [su_at, su_at]
    exact ⟨(b2i_t rfl).symm, fun h => absurd rfl h⟩
  · rw [su_nj e, su_nj e]
    exact hQ j hj
theorem tt_seal (hT : TT σ τ n nm) (hc : cr_seal σ n nm p0 p1 p2 p3 k r u) (hm : mr_seal τ n nm p0 p1 p2 p3 r' u') : u' 0 0 = k ∧ (k = 0 → r' = r) ∧ TT u u' n nm := by
  have hn : n ≤ 30 := hT.1.2.2.2.1
  have hI := hT.2.2.1
  rcases hm with ⟨hno, rfl, rfl⟩ | ⟨a, b, d, ha, hb, hd, rfl, rfl, rfl, h1, h2, hm⟩
  · rcases hc with ⟨rfl, hp, -⟩ | ⟨rfl, -, rfl⟩
    · exact absurd ⟨n9_10.mp hp.1, hp.2.2.2.1, n9_10.mp hp.2.1, n9_10.mp hp.2.2.1, hp.2.2.2.2⟩ hno
    · exact ⟨rfl, fun h => absurd h (by decide), tt_thr hT⟩
  · have g9 : ∀ x : Nat, x < 10 → 0 ≤ nI x ∧ nI x ≤ 9 := fun x hx => ⟨nI_pos' (by omega), nI_le (b := 9) (by omega) (by decide)⟩
    rcases hc with ⟨rfl, hp, hc⟩ | ⟨rfl, hno, rfl⟩
    · have b5 : ∀ x : Nat, x < 10 → (¬ τ 4 (6 * x + 5) = 0 ↔ ((0 ≤ nI x ∧ nI x ≤ 9) ∧ σ 1 (nI x).toNatClampNeg >>> (5 &&& 31) &&& 1 = 1)) := fun x hx => by
        rw [(hT.2.1 x hx).2 5 (by omega), nI_clamp (by omega)]
        constructor
        · intro h
          exact ⟨g9 x hx, Classical.not_not.mp (fun h9 => h (b2i_f h9))⟩
        · intro h h9
          exact (b2i_eq0.mp h9) h.2
      have hiff : (∃ j, j < n ∧ (τ 5 j = nI a ∧ 2 < τ 6 j ∧ τ 8 j = 2)) ↔ (∃ j, j < n ∧ σ 20 j = nI a ∧ 3 ≤ σ 21 j ∧ σ 23 j = 2) := by
        constructor
        · rintro ⟨j, hj, h5, h6, h7⟩
          obtain ⟨a1, a2, a3, a4, -⟩ := hI j hj
          exact ⟨j, hj, a1 ▸ h5, le3.mpr (a2 ▸ h6), a4 ▸ h7⟩
        · rintro ⟨j, hj, h5, h6, h7⟩
          obtain ⟨a1, a2, a3, a4, -⟩ := hI j hj
          exact ⟨j, hj, by rw [a1]; exact h5, by rw [a2]; exact le3.mp h6, by rw [a4]; exact h7⟩
      have hq := hT.2.2.2.2.2.2.1 a ha
      have h16 : ¬ τ 16 a = 0 ↔ σ 2 a = -1 := by
        rw [hq.1]
        exact ⟨fun h => Classical.not_not.mp (fun h9 => h (b2i_f h9)), fun h h9 => (b2i_eq0.mp h9) h⟩
      have hok : (¬ τ 16 a = 0 ∧ ¬ τ 4 (6 * b + 5) = 0 ∧ ¬ τ 4 (6 * d + 5) = 0 ∧ ¬ ∃ j, j < n ∧ (τ 5 j = nI a ∧ 2 < τ 6 j ∧ τ 8 j = 2)) ↔ (σ 2 (nI a).toNatClampNeg = -1 ∧ (¬ ∃ j, j < n ∧ σ 20 j = nI a ∧ 3 ≤ σ 21 j ∧ σ 23 j = 2) ∧ ((0 ≤ nI b ∧ nI b ≤ 9) ∧ σ 1 (nI b).toNatClampNeg >>> (5 &&& 31) &&& 1 = 1) ∧ ((0 ≤ nI d ∧ nI d ≤ 9) ∧ σ 1 (nI d).toNatClampNeg >>> (5 &&& 31) &&& 1 = 1)) := by
        rw [h16, b5 b hb, b5 d hd, hiff, nI_clamp (n := a) (by omega)]
        exact ⟨fun h => ⟨h.1, h.2.2.2, h.2.1, h.2.2.1⟩, fun h => ⟨h.1, h.2.2.1, h.2.2.2, h.2.1⟩⟩
      rw [hok] at hm
      rcases hm with ⟨h5, rfl, rfl⟩ | ⟨h5, rfl, rfl⟩
      · rcases hc with ⟨h6, -, -⟩ | ⟨-, rfl, rfl⟩
        · exact absurd h6 h5
        · exact ⟨rfl, fun _ => rfl, tt_thr hT⟩
      · rcases hc with ⟨-, rfl, rfl⟩ | ⟨h6, -, -⟩
        · refine ⟨rfl, fun _ => rfl, ?_⟩
          rw [nI_clamp (by omega)]
          obtain ⟨hN, hR, hI, hA, hV, hF, hQ, hH, hD, hU, hS, hB, hC, hK⟩ := tt_thr (x := 0) hT
          refine ⟨hN, hR, hI, hA, hV, hF, fun j hj => ?_, hH, TTd_su hD (by omega), hU, hS, TTb_su hB (by decide), TTc_rw hC rfl, TTk_rw hK rfl rfl rfl rfl⟩
          by_cases e : j = a
          · subst e
            rw [su_at, su_at]
            have h9 : ¬ p1 = -1 := by
              intro e9
              rw [e9] at h1
              exact absurd h1.1 (by decide)
            refine ⟨?_, fun _ => rfl⟩
            rw [b2i_f h9]
            show su _ 16 j 0 16 j = 0
            rw [su_at]
          · simp only [su_nj e]
            exact hQ j hj
        · exact absurd h5 h6
    · exact absurd ⟨g9 a ha, g9 b hb, g9 d hd, h1, h2⟩ hno
theorem co_inc {i : Nat} {p : Int32} : ∀ z, coM (su τ 14 i (τ 14 i + 1)) nm p z = coM τ nm p z + (if i < z ∧ τ 5 i = p then 100 * (τ 6 i + 1) else 0)
  | 0 => by
    rw [if_neg (fun h => absurd h.1 (Nat.not_lt_zero _))]
    exact (add_z0 _).symm
  | z + 1 => by
    have ih := co_inc (i := i) (p := p) z
    show coM (su τ 14 i (τ 14 i + 1)) nm p z + (if τ 5 z = p then 100 * (τ 6 z + 1) * su τ 14 i (τ 14 i + 1) 14 z + 50 * smM (su τ 14 i (τ 14 i + 1)) (nI z) nm else 0) = (coM τ nm p z + (if τ 5 z = p then 100 * (τ 6 z + 1) * τ 14 z + 50 * smM τ (nI z) nm else 0)) + _
    rw [ih, smM_row (τ := τ) (su_row (by decide))]
    by_cases e : z = i
    · subst e
      rw [su_at, if_neg (fun h => absurd h.1 (Nat.lt_irrefl _))]
      by_cases h : τ 5 z = p
      · rw [if_pos h, if_pos h, if_pos ⟨by omega, h⟩]
        grind
      · rw [if_neg h, if_neg h, if_neg (fun h9 => h h9.2)]
    · rw [su_nj e]
      by_cases h : i < z ∧ τ 5 i = p
      · have h' : i < z + 1 ∧ τ 5 i = p := ⟨by omega, h.2⟩
        rw [if_pos h, if_pos h']
        grind
      · have h' : ¬ (i < z + 1 ∧ τ 5 i = p) := fun h9 => h ⟨by omega, h9.2⟩
        rw [if_neg h, if_neg h']
        grind
theorem tt_cost {i : Nat} (hT : TT σ τ n nm) (hi : i < n) : TT (su σ 4 (σ 20 i).toNatClampNeg (σ 4 (σ 20 i).toNatClampNeg + 100 * (σ 21 i + 1))) (su τ 14 i (τ 14 i + 1)) n nm := by
  obtain ⟨hN, hR, hI, hA, hV, hF, hQ, hH, hD, hU, hS, hB, hC, hK⟩ := hT
  obtain ⟨⟨d, hd, ed⟩, -⟩ := hV i hi
  rw [ed, nI_clamp (by omega)]
  refine ⟨hN, hR, hI, hA, hV, fun j h1 h2 => ?_, hQ, hH, TTd_su hD (by omega), hU, hS, TTb_su hB (by decide), TTc_rw hC rfl, fun j hj => ?_⟩
  · have e : j ≠ i := by omega
    obtain ⟨a1, a2, a3⟩ := hF j h1 h2
    refine ⟨a1, a2, ?_⟩
    rw [su_nj e]
    exact a3
  · rw [co_inc]
    have e5 : τ 5 i = nI d := (hI i hi).1.trans ed
    have e6 : τ 6 i = σ 21 i := (hI i hi).2.1
    by_cases e : j = d
    · subst e
      rw [su_at, if_pos ⟨hi, e5⟩, e6, hK j hj]
    · rw [su_nj e, if_neg (fun h => e (nI_jn (by omega) (by omega) (h.2.symm.trans e5))), add_z0]
      exact hK j hj
theorem tt_begin (hT : TT σ τ n nm) (hc : cr_begin σ n nm p0 p1 k r u) (hm : mr_begin τ n nm p0 p1 r' u') : u' 0 0 = k ∧ (k = 0 → r' = r) ∧ TT u u' n nm := by
  have hn : n ≤ 30 := hT.1.2.2.2.1
  have hI := hT.2.2.1
  have hA := hT.2.2.2.1
  have e3 : τ 0 3 = σ 0 0 := hT.1.2.2.1
  unfold mr_begin at hm
  rw [e3] at hm
  rcases hm with ⟨hno, rfl, rfl⟩ | ⟨i, a, q, hi, ha, hq, rfl, rfl, eq, hm⟩
  · rcases hc with ⟨rfl, j, hj, rfl, hp, -⟩ | ⟨rfl, -, rfl⟩
    · exact absurd ⟨⟨nI_pos' (by omega), nI_lt hj (by omega)⟩, n9_10.mp hp⟩ hno
    · exact ⟨rfl, fun h => absurd h (by decide), tt_thr hT⟩
  · have g9 : 0 ≤ nI a ∧ nI a ≤ 9 := ⟨nI_pos' (by omega), nI_le (b := 9) (by omega) (by decide)⟩
    rcases hc with ⟨rfl, j, hj, e, hp, hc⟩ | ⟨rfl, hno, rfl⟩
    · have := nI_jn (by omega) (by omega) e
      subst this
      obtain ⟨a1, a2, a3, a4, a5, a6⟩ := hI i hi
      have ek : σ 21 i = nI q := a2.symm.trans eq
      have hbit : ¬ τ 4 (6 * a + q) = 0 ↔ σ 1 (nI a).toNatClampNeg >>> (σ 21 i &&& 31) &&& 1 = 1 := by
        rw [(hT.2.1 a ha).2 q (by omega), nI_clamp (by omega), ek]
        exact ⟨fun h => Classical.not_not.mp (fun h9 => h (b2i_f h9)), fun h h9 => (b2i_eq0.mp h9) h⟩
      have hok : (τ 8 i = 1 ∧ τ 11 i ≤ σ 0 0 ∧ σ 0 0 ≤ τ 12 i ∧ ¬ τ 4 (6 * a + q) = 0) ↔ ((σ 23 i = 1 ∧ σ 26 i ≤ σ 0 0 ∧ σ 0 0 ≤ σ 27 i) ∧ (0 ≤ nI a ∧ nI a ≤ 9) ∧ σ 1 (nI a).toNatClampNeg >>> (σ 21 i &&& 31) &&& 1 = 1) := by
        rw [hbit, a4]
        constructor
        · rintro ⟨h1, h2, h3, h4⟩
          obtain ⟨b1, b2, b3⟩ := hA i hi (Or.inl h1)
          exact ⟨⟨h1, b2 ▸ h2, b3 ▸ h3⟩, g9, h4⟩
        · rintro ⟨⟨h1, h2, h3⟩, -, h4⟩
          obtain ⟨b1, b2, b3⟩ := hA i hi (Or.inl h1)
          exact ⟨h1, by rw [b2]; exact h2, by rw [b3]; exact h3, h4⟩
      rw [hok] at hm
      rcases hm with ⟨h5, rfl, rfl⟩ | ⟨h5, rfl, rfl⟩
      · rcases hc with ⟨h6, -, -⟩ | ⟨-, rfl, rfl⟩
        · exact absurd h6 h5
        · exact ⟨rfl, fun _ => rfl, tt_thr hT⟩
      · rcases hc with ⟨-, rfl, hc⟩ | ⟨h6, -, -⟩
        · have hT1 := tt_cost (tt_by (x := nI a) (tt_st (x := 2) (tt_thr (x := 0) hT) hi (fun _ => hA i hi (Or.inl h5.1.1))) hi) hi
          have hT2 : TT (su (su (su σ 23 i 2) 28 i (nI a)) 4 (σ 20 i).toNatClampNeg (σ 4 (σ 20 i).toNatClampNeg + 100 * (σ 21 i + 1))) (su (su (su (su τ 0 0 0) 8 i 2) 13 i (nI a)) 14 i (τ 14 i + 1)) n nm := hT1
          rcases hc with ⟨h6, rfl⟩ | ⟨h6, rfl⟩
          · have h7 : 2 < τ 6 i := by rw [a2]; exact le3.mp h6
            rw [if_pos h7]
            refine ⟨rfl, fun _ => rfl, ?_⟩
            rw [a1]
            exact tt_brk hT2
          · have h7 : ¬ 2 < τ 6 i := fun h => h6 (le3.mpr (a2 ▸ h))
            rw [if_neg h7]
            exact ⟨rfl, fun _ => rfl, hT2⟩
        · exact absurd h5 h6
    · exact absurd ⟨⟨i, hi, rfl⟩, g9⟩ hno
end T3
