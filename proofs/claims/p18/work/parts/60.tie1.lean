theorem xor_bit : ∀ h : Nat, h < 64 → ∀ k : Nat, k < 6 → ∀ q : Nat, q < 6 → ((nI h ^^^ 1 <<< (nI k &&& 31)) >>> (nI q &&& 31) &&& 1 = 1 ↔ (if q = k then ¬ (nI h >>> (nI q &&& 31) &&& 1 = 1) else (nI h >>> (nI q &&& 31) &&& 1 = 1))) := by decide +kernel
theorem xor_rg : ∀ h : Nat, h < 64 → ∀ k : Nat, k < 6 → 0 ≤ (nI h ^^^ 1 <<< (nI k &&& 31)).toInt ∧ (nI h ^^^ 1 <<< (nI k &&& 31)).toInt < 64 := by decide +kernel
theorem xor_ho : ∀ h : Nat, h < 256 → ∀ k : Nat, k < 8 → (nI h ^^^ 1 <<< (nI k &&& 31)) = (if nI h >>> (nI k &&& 31) &&& 1 = 1 then nI h + -(1 <<< (nI k &&& 31)) else nI h + 1 <<< (nI k &&& 31)) ∧ 0 ≤ (nI h ^^^ 1 <<< (nI k &&& 31)).toInt ∧ (nI h ^^^ 1 <<< (nI k &&& 31)).toInt < 256 := by decide +kernel
theorem at_rg {x : Int32} {N : Nat} (h : 0 ≤ x.toInt ∧ x.toInt < N) : ∃ a, a < N ∧ x = nI a := by
  obtain ⟨q, hq, e⟩ := nI_of (x := x) (fun h9 => by rw [i32_lt, i32_n0] at h9; omega)
  subst e
  rw [nI_toInt hq] at h
  exact ⟨q, by omega, rfl⟩
theorem TTc_rw {n nm : Nat} {s29 : Nat → Int32} {τ τ' : Nat → Nat → Int32} (hT : TTc n nm s29 τ) (h : τ' 19 = τ 19) : TTc n nm s29 τ' := TTc_row h hT
theorem TTk_rw {n nm : Nat} {s4 : Nat → Int32} {τ τ' : Nat → Nat → Int32} (hT : TTk n nm s4 τ) (h5 : τ' 5 = τ 5) (h6 : τ' 6 = τ 6) (h14 : τ' 14 = τ 14) (h19 : τ' 19 = τ 19) : TTk n nm s4 τ' := TTk_row h5 h6 h14 h19 hT
section T1
variable {σ τ : Nat → Nat → Int32} {n nm : Nat}
theorem tt_thr {x : Int32} (hT : TT σ τ n nm) : TT σ (su τ 0 0 x) n nm := by
  obtain ⟨hN, hR, hI, hA, hV, hF, hQ, hH, hD, hU, hS, hB, hC, hK⟩ := hT
  exact ⟨hN, hR, hI, hA, hV, hF, hQ, hH, hD, hU, hS, hB, TTc_rw hC rfl, TTk_rw hK rfl rfl rfl rfl⟩
theorem tt_st {i : Nat} {x : Int32} (hT : TT σ τ n nm) (hi : i < n) (hx : (x = 1 ∨ x = 2) → τ 10 i = σ 25 i ∧ τ 11 i = σ 26 i ∧ τ 12 i = σ 27 i) : TT (su σ 23 i x) (su τ 8 i x) n nm := by
  obtain ⟨hN, hR, hI, hA, hV, hF, hQ, hH, hD, hU, hS, hB, hC, hK⟩ := hT
  refine ⟨hN, hR, fun j hj => ?_, fun j hj hc => ?_, hV, fun j h1 h2 => ?_, hQ, hH, TTd_su hD (by omega), hU, hS, TTb_su hB (by decide), TTc_rw hC rfl, TTk_rw hK rfl rfl rfl rfl⟩
  · obtain ⟨h1, h2, h3, h4, h5, h6⟩ := hI j hj
    refine ⟨h1, h2, h3, ?_, h5, h6⟩
    by_cases e : j = i
    · subst e
      rw [su_at, su_at]
    · rw [su_nj e, su_nj e]
      exact h4
  · by_cases e : j = i
    · subst e
      rw [su_at] at hc
      exact hx hc
    · rw [su_nj e] at hc
      exact hA j hj hc
  · have e : j ≠ i := by omega
    rw [su_nj e]
    exact hF j h1 h2
theorem tt_by {i : Nat} {x : Int32} (hT : TT σ τ n nm) (hi : i < n) : TT (su σ 28 i x) (su τ 13 i x) n nm := by
  obtain ⟨hN, hR, hI, hA, hV, hF, hQ, hH, hD, hU, hS, hB, hC, hK⟩ := hT
  refine ⟨hN, hR, fun j hj => ?_, hA, hV, hF, hQ, hH, TTd_su hD (by omega), hU, hS, TTb_su hB (by decide), TTc_rw hC rfl, TTk_rw hK rfl rfl rfl rfl⟩
  obtain ⟨h1, h2, h3, h4, h5, h6⟩ := hI j hj
  refine ⟨h1, h2, h3, h4, h5, ?_⟩
  by_cases e : j = i
  · subst e
    rw [su_at, su_at]
  · rw [su_nj e, su_nj e]
    exact h6
end T1
section T2
variable {σ τ u u' : Nat → Nat → Int32} {n nm : Nat} {p0 p1 p2 p3 r r' k : Int32}
theorem n9_10 {p : Int32} : (0 ≤ p ∧ p ≤ 9) ↔ (0 ≤ p ∧ p < 10) := by
  simp only [i32_le, i32_lt, i32_n0, i32_n9, i32_n10]
  omega
theorem tt_giveUp (hT : TT σ τ n nm) (hc : cr_giveUp σ n nm p0 r u) (hm : mr_giveUp τ n nm p0 r' u') : r = r' ∧ TT u u' n nm := by
  have hn : n ≤ 30 := hT.1.2.2.2.1
  have hI := hT.2.2.1
  rcases hm with ⟨hno, rfl, rfl⟩ | ⟨i, hi, rfl, hm⟩
  · rcases hc with ⟨j, hj, rfl, -⟩ | ⟨-, rfl, rfl⟩
    · exact absurd ⟨nI_pos' (by omega), nI_lt hj (by omega)⟩ hno
    · exact ⟨rfl, tt_thr hT⟩
  · have e8 : τ 8 i = σ 23 i := (hI i hi).2.2.2.1
    rw [e8] at hm
    rcases hc with ⟨j, hj, e, hs, rfl, rfl⟩ | ⟨hno, rfl, rfl⟩
    · have := nI_jn (by omega) (by omega) e
      subst this
      rcases hm with ⟨h1, -, -⟩ | ⟨-, rfl, rfl⟩
      · exact absurd hs h1
      · exact ⟨rfl, tt_st (tt_thr hT) hi (fun h => absurd h (by decide))⟩
    · rcases hm with ⟨-, rfl, rfl⟩ | ⟨hs, -, -⟩
      · exact ⟨rfl, tt_thr hT⟩
      · exact absurd ⟨i, hi, rfl, hs⟩ hno
theorem tt_end (hT : TT σ τ n nm) (hc : cr_end σ n nm p0 p1 p2 k r u) (hm : mr_end τ n nm p0 p1 p2 r' u') : u' 0 0 = k ∧ (k = 0 → r' = r) ∧ TT u u' n nm := by
  have hn : n ≤ 30 := hT.1.2.2.2.1
  have hI := hT.2.2.1
  rcases hm with ⟨hno, rfl, rfl⟩ | ⟨i, hi, rfl, hp, hm⟩
  · rcases hc with ⟨rfl, j, hj, rfl, hp1, -⟩ | ⟨rfl, -, rfl⟩
    · exact absurd ⟨⟨nI_pos' (by omega), nI_lt hj (by omega)⟩, n9_10.mp hp1⟩ hno
    · exact ⟨rfl, fun h => absurd h (by decide), tt_thr hT⟩
  · have e8 : τ 8 i = σ 23 i := (hI i hi).2.2.2.1
    have e13 : τ 13 i = σ 28 i := (hI i hi).2.2.2.2.2
    rw [e8, e13] at hm
    rcases hc with ⟨rfl, j, hj, e, hp1, hc⟩ | ⟨rfl, hno, rfl⟩
    · have := nI_jn (by omega) (by omega) e
      subst this
      rcases hm with ⟨h1, rfl, rfl⟩ | ⟨h1, rfl, rfl⟩
      · rcases hc with ⟨h2, h3, -, -⟩ | ⟨-, rfl, rfl⟩
        · exact absurd ⟨h2, h3⟩ h1
        · exact ⟨rfl, fun _ => rfl, tt_thr hT⟩
      · rcases hc with ⟨-, -, rfl, rfl⟩ | ⟨h2, -, -⟩
        · refine ⟨rfl, fun _ => rfl, tt_st (tt_thr hT) hi (fun h => ?_)⟩
          exfalso
          by_cases h0 : p2 = 0
          · rw [if_pos h0] at h
            exact absurd h (by decide)
          · rw [if_neg h0] at h
            exact absurd h (by decide)
        · exact absurd h1 h2
    · exact absurd ⟨⟨i, hi, rfl⟩, n9_10.mpr hp⟩ hno
theorem tt_tolerance (hT : TT σ τ n nm) (hc : cr_tolerance σ n nm p0 p1 p2 r u) (hm : mr_tolerance τ n nm p0 p1 p2 r' u') : r = r' ∧ TT u u' n nm := by
  rcases hm with ⟨hno, rfl, rfl⟩ | ⟨b, hb, rfl, h1, h2, rfl, rfl⟩
  · rcases hc with ⟨h, -, -⟩ | ⟨-, rfl, rfl⟩
    · exact absurd h hno
    · exact ⟨rfl, tt_thr hT⟩
  · have hb0 : 0 ≤ nI b ∧ nI b ≤ 3 := ⟨nI_pos' (by omega), nI_le (b := 3) (by omega) (by decide)⟩
    rcases hc with ⟨-, rfl, rfl⟩ | ⟨h, -, -⟩
    · refine ⟨rfl, ?_⟩
      rw [nI_clamp (by omega)]
      obtain ⟨hN, hR, hI, hA, hV, hF, hQ, hH, hD, hU, hS, hB, hC, hK⟩ := tt_thr (x := 0) hT
      refine ⟨hN, hR, hI, hA, hV, hF, hQ, hH, TTd_su (TTd_su hD (by omega)) (by omega), fun q hq => ?_, hS, TTb_su (TTb_su hB (by decide)) (by decide), TTc_rw hC rfl, TTk_rw hK rfl rfl rfl rfl⟩
      obtain ⟨g1, g2, g3, g4⟩ := hU q hq
      have a1 : su (su (su τ 0 0 0) 23 b p1) 24 b p2 23 q = su (su τ 0 0 0) 23 b p1 23 q := su_ne (by decide)
      have a2 : su (su σ 5 b p1) 6 b p2 5 q = su σ 5 b p1 5 q := su_ne (by decide)
      rw [a1, a2]
      by_cases e : q = b
      · subst e
        rw [su_at, su_at, su_at, su_at]
        exact ⟨rfl, rfl, h1, h2⟩
      · simp only [su_nj e]
        exact ⟨g1, g2, g3, g4⟩
    · exact absurd ⟨hb0, h1, h2⟩ h
theorem tt_declared (hT : TT σ τ n nm) (hc : cr_declared σ n nm p0 p1 p2 r u) (hm : mr_declared τ n nm p0 p1 p2 r' u') : r = r' ∧ TT u u' n nm := by
  rcases hm with ⟨hno, rfl, rfl⟩ | ⟨a, b, ha, hb, rfl, rfl, h2, rfl, rfl⟩
  · rcases hc with ⟨h, -, -⟩ | ⟨-, rfl, rfl⟩
    · exact absurd ⟨n9_10.mp h.1, h.2⟩ hno
    · exact ⟨rfl, tt_thr hT⟩
  · have ha0 : 0 ≤ nI a ∧ nI a ≤ 9 := ⟨nI_pos' (by omega), nI_le (b := 9) (by omega) (by decide)⟩
    have hb0 : 0 ≤ nI b ∧ nI b ≤ 3 := ⟨nI_pos' (by omega), nI_le (b := 3) (by omega) (by decide)⟩
    rcases hc with ⟨-, rfl, rfl⟩ | ⟨h, -, -⟩
    · refine ⟨rfl, ?_⟩
      rw [nI_clamp (by omega), nI_clamp (by omega)]
      obtain ⟨hN, hR, hI, hA, hV, hF, hQ, hH, hD, hU, hS, hB, hC, hK⟩ := tt_thr (x := 0) hT
      have k0 : ∀ k j, k < 10 ∨ 20 ≤ k → su σ (10 + a) b p2 k j = σ k j := fun k j h => su_ne (by omega)
      have kr : ∀ k, k < 10 ∨ 20 ≤ k → su σ (10 + a) b p2 k = σ k := fun k h => funext fun j => k0 k j h
      unfold TT
      rw [kr 0 (by omega), kr 1 (by omega), kr 2 (by omega), kr 3 (by omega), kr 4 (by omega), kr 5 (by omega), kr 6 (by omega), kr 20 (by omega), kr 21 (by omega), kr 22 (by omega), kr 23 (by omega), kr 24 (by omega), kr 25 (by omega), kr 26 (by omega), kr 27 (by omega), kr 28 (by omega), kr 29 (by omega), kr 30 (by omega), kr 31 (by omega)]
      refine ⟨hN, hR, hI, hA, hV, hF, hQ, hH, fun d q hd hq => ?_, hU, hS, TTb_su hB (by omega), TTc_rw hC rfl, TTk_rw hK rfl rfl rfl rfl⟩
      by_cases e : d = a ∧ q = b
      · obtain ⟨rfl, rfl⟩ := e
        rw [su_at, su_at]
        refine ⟨rfl, ?_⟩
        have := h2
        unfold rgV
        simp only [i32_le, i32_n0, i32_nm1, i32_n1000000] at this ⊢
        omega
      · rw [su_nj (by omega)]
        have h9 : su σ (10 + a) b p2 (10 + d) q = σ (10 + d) q := by
          unfold su
          exact if_neg (by omega)
        rw [h9]
        exact hD d q hd hq
    · exact absurd ⟨ha0, hb0, h2⟩ h
theorem tt_right (hT : TT σ τ n nm) (hb2 : p2 = 0 ∨ p2 = 1) (hc : cr_right σ n nm p0 p1 p2 r u) (hm : mr_right τ n nm p0 p1 p2 r' u') : r = r' ∧ TT u u' n nm := by
  rcases hm with ⟨hno, rfl, rfl⟩ | ⟨a, b, ha, hb, rfl, rfl, hm⟩
  · rcases hc with ⟨h, -, -⟩ | ⟨-, rfl, rfl⟩
    · exact absurd ⟨n9_10.mp h.1, h.2.1⟩ hno
    · exact ⟨rfl, tt_thr hT⟩
  · have ha0 : 0 ≤ nI a ∧ nI a ≤ 9 := ⟨nI_pos' (by omega), nI_le (b := 9) (by omega) (by decide)⟩
    have hb0 : 0 ≤ nI b ∧ nI b ≤ 5 := ⟨nI_pos' (by omega), nI_le (b := 5) (by omega) (by decide)⟩
    obtain ⟨⟨h, hh, eh⟩, hbit⟩ := hT.2.1 a ha
    have e1 : τ 4 (6 * a + b) = b2i (σ 1 a >>> (nI b &&& 31) &&& 1 = 1) := hbit b hb
    have e2 : b2i ((0 ≤ nI a ∧ nI a ≤ 9) ∧ σ 1 (nI a).toNatClampNeg >>> (nI b &&& 31) &&& 1 = 1) = b2i (σ 1 a >>> (nI b &&& 31) &&& 1 = 1) := by
      rw [nI_clamp (by omega)]
      exact b2i_iff ⟨fun h => h.2, fun h => ⟨ha0, h⟩⟩
    unfold cr_right at hc
    rw [e2] at hc
    rw [e1] at hm
    rcases hm with ⟨h1, rfl, rfl⟩ | ⟨h1, rfl, rfl⟩
    · rcases hc with ⟨⟨-, -, h2⟩, -, -⟩ | ⟨-, rfl, rfl⟩
      · exact absurd h1 h2
      · exact ⟨rfl, tt_thr hT⟩
    · rcases hc with ⟨-, rfl, rfl⟩ | ⟨h2, -, -⟩
      · refine ⟨rfl, ?_⟩
        rw [nI_clamp (by omega)]
        obtain ⟨hN, hR, hI, hA, hV, hF, hQ, hH, hD, hU, hS, hB, hC, hK⟩ := tt_thr (x := 0) hT
        refine ⟨hN, fun p hp => ?_, hI, hA, hV, hF, hQ, hH, TTd_su hD (by omega), hU, hS, TTb_su hB (by decide), TTc_rw hC rfl, TTk_rw hK rfl rfl rfl rfl⟩
        obtain ⟨hp1, hp2⟩ := hR p hp
        by_cases e : p = a
        · subst e
          refine ⟨?_, fun q hq => ?_⟩
          · rw [su_at, eh]
            exact at_rg (xor_rg h hh b hb)
          · have hx := xor_bit h hh b hb q hq
            rw [su_at]
            by_cases eq : q = b
            · subst eq
              rw [su_at, eh, b2i_iff hx, if_pos rfl]
              rw [eh] at h1
              by_cases hy : nI h >>> (nI q &&& 31) &&& 1 = 1
              · rw [b2i_t hy] at h1
                rw [b2i_f (fun h9 => h9 hy)]
                rcases hb2 with h9 | h9
                · exact h9
                · exact absurd h9.symm h1
              · rw [b2i_f hy] at h1
                rw [b2i_t hy]
                rcases hb2 with h9 | h9
                · exact absurd h9.symm h1
                · exact h9
            · rw [if_neg eq] at hx
              rw [su_nj (by omega), eh, b2i_iff hx, ← eh]
              exact hp2 q hq
        · rw [su_nj e]
          refine ⟨hp1, fun q hq => ?_⟩
          rw [su_nj (by omega)]
          exact hp2 q hq
      · exact absurd ⟨ha0, hb0, h1⟩ h2
theorem tt_hold (hT : TT σ τ n nm) (hb2 : p2 = 0 ∨ p2 = 1) (hc : cr_hold σ n nm p0 p1 p2 r u) (hm : mr_hold τ n nm p0 p1 p2 r' u') : r = r' ∧ TT u u' n nm := by
  rcases hm with ⟨hno, rfl, rfl⟩ | ⟨a, b, ha, hb, rfl, rfl, hm⟩
  · rcases hc with ⟨h, -, -⟩ | ⟨-, rfl, rfl⟩
    · exact absurd ⟨n9_10.mp h.1, h.2.1⟩ hno
    · exact ⟨rfl, tt_thr hT⟩
  · have ha0 : 0 ≤ nI a ∧ nI a ≤ 9 := ⟨nI_pos' (by omega), nI_le (b := 9) (by omega) (by decide)⟩
    have hb0 : 0 ≤ nI b ∧ nI b ≤ 7 := ⟨nI_pos' (by omega), nI_le (b := 7) (by omega) (by decide)⟩
    obtain ⟨e1, h, hh, eh⟩ := hT.2.2.2.2.2.2.2.1 a ha
    unfold cr_hold at hc
    rw [nI_clamp (by omega)] at hc
    rw [e1] at hm
    rcases hm with ⟨h1, rfl, rfl⟩ | ⟨h1, rfl, rfl⟩
    · rcases hc with ⟨⟨-, -, h2⟩, -, -⟩ | ⟨-, rfl, rfl⟩
      · exact absurd h1 h2
      · exact ⟨rfl, tt_thr hT⟩
    · rcases hc with ⟨-, rfl, rfl⟩ | ⟨h2, -, -⟩
      · refine ⟨rfl, ?_⟩
        obtain ⟨hN, hR, hI, hA, hV, hF, hQ, hH, hD, hU, hS, hB, hC, hK⟩ := tt_thr (x := 0) hT
        refine ⟨hN, hR, hI, hA, hV, hF, hQ, fun d hd => ?_, TTd_su hD (by omega), hU, hS, TTb_su hB (by decide), TTc_rw hC rfl, TTk_rw hK rfl rfl rfl rfl⟩
        by_cases e : d = a
        · subst e
          rw [su_at, su_at]
          obtain ⟨hx1, hx2⟩ := xor_ho h hh b hb
          rw [eh] at h1 ⊢
          refine ⟨?_, at_rg hx2⟩
          rw [hx1]
          by_cases hy : nI h >>> (nI b &&& 31) &&& 1 = 1
          · rw [b2i_t hy] at h1
            have : p2 = 0 := hb2.elim id (fun h9 => absurd h9.symm h1)
            rw [if_pos hy, if_pos this]
          · rw [b2i_f hy] at h1
            have : ¬ p2 = 0 := fun h9 => h1 h9.symm
            rw [if_neg hy, if_neg this]
        · rw [su_nj e, su_nj e]
          exact hH d hd
      · exact absurd ⟨ha0, hb0, h1⟩ h2
end T2
