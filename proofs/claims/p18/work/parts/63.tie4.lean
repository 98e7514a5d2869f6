section T5
variable {σ τ τ' u u' : Nat → Nat → Int32} {n nm ci cj : Nat} {ad : Nat → Nat} {p0 p1 p2 p3 r r' k : Int32}
theorem sm_cong {p : Int32} : ∀ z : Nat, (∀ i, i < z → τ' 19 i = τ 19 i) → smM τ' p z = smM τ p z
  | 0, _ => rfl
  | z + 1, h => by
    show smM τ' p z + (if τ' 19 z = p then 1 else 0) = smM τ p z + (if τ 19 z = p then 1 else 0)
    rw [sm_cong z (fun i hi => h i (by omega)), h z (by omega)]
theorem sm_zero {p : Int32} : ∀ z : Nat, (∀ i, i < z → ¬ τ 19 i = p) → smM τ p z = 0
  | 0, _ => rfl
  | z + 1, h => by
    show smM τ p z + (if τ 19 z = p then 1 else 0) = 0
    rw [sm_zero z (fun i hi => h i (by omega)), if_neg (h z (by omega))]
    rfl
theorem co_cong {p : Int32} (h19 : τ' 19 = τ 19) : ∀ z : Nat, (∀ i, i < z → τ' 5 i = τ 5 i ∧ τ' 6 i = τ 6 i ∧ τ' 14 i = τ 14 i) → coM τ' nm p z = coM τ nm p z
  | 0, _ => rfl
  | z + 1, h => by
    show coM τ' nm p z + (if τ' 5 z = p then 100 * (τ' 6 z + 1) * τ' 14 z + 50 * smM τ' (nI z) nm else 0) = coM τ nm p z + (if τ 5 z = p then 100 * (τ 6 z + 1) * τ 14 z + 50 * smM τ (nI z) nm else 0)
    rw [co_cong h19 z (fun i hi => h i (by omega)), (h z (by omega)).1, (h z (by omega)).2.1, (h z (by omega)).2.2, smM_row h19]
theorem tt_inspection {v : (Nat → Nat) × Nat × (Nat → Nat → Int32) × Nat} (hT : TT σ τ n nm) (hc : cr_inspection ad σ n nm ci cj p0 p1 p2 k r v) (hm : mr_inspection τ n nm p0 p1 p2 r' u') : u' 0 0 = k ∧ (k = 0 → r' = r) ∧ TT v.2.2.1 u' v.2.2.2 nm := by
  have hn : n ≤ 30 := hT.1.2.2.2.1
  have e3 : τ 0 3 = σ 0 0 := hT.1.2.2.1
  have hca : ((0 ≤ p0 ∧ p0 < 10) ∧ (0 ≤ p1 ∧ p1 ≤ 4) ∧ (τ 0 3 ≤ p2 ∧ p2 ≤ 100000)) ↔ ((0 ≤ p0 ∧ p0 ≤ 9) ∧ (0 ≤ p1 ∧ p1 ≤ 4) ∧ (σ 0 0 ≤ p2 ∧ p2 ≤ 100000)) := by rw [e3, n9_10]
  unfold mr_inspection at hm
  rw [hca] at hm
  rcases hm with ⟨hno, rfl, rfl⟩ | ⟨hok, hn30, rfl, rfl⟩ | ⟨hok, hn30, rfl, rfl⟩
  · rcases hc with ⟨rfl, hp, -⟩ | ⟨⟨rfl, -⟩ | ⟨rfl, hp, -⟩, rfl⟩
    · exact absurd hp hno
    · exact ⟨rfl, fun h => absurd h (by decide), tt_thr hT⟩
    · exact absurd hp hno
  · rcases hc with ⟨rfl, -, h, -⟩ | ⟨⟨rfl, hp⟩ | ⟨rfl, -, -⟩, rfl⟩
    · omega
    · exact absurd hok hp
    · exact ⟨rfl, fun h => absurd h (by decide), tt_thr hT⟩
  · rcases hc with ⟨rfl, -, -, rfl, -, -, -, e1, e2⟩ | ⟨⟨rfl, hp⟩ | ⟨rfl, -, hp⟩, rfl⟩
    · refine ⟨rfl, fun _ => rfl, ?_⟩
      rw [e1, e2]
      obtain ⟨hN, hR, hI, hA, hV, hF, hQ, hH, hD, hU, hS, hB, hC, hK⟩ := hT
      obtain ⟨d, hd, ed⟩ := at10 (n9_10.mp hok.1)
      obtain ⟨q, hq, eq⟩ := atN (M := 4) (N := 4) (by decide) hok.2.1
      obtain ⟨w, hw, ew⟩ := hN.2.2.2.2.2
      have hw2 := hok.2.2
      rw [ew] at hw2
      obtain ⟨t, ht, et⟩ := atN (M := 100000) (N := 100000) (by decide) ⟨Int32.le_trans (nI_pos' (by omega)) hw2.1, hw2.2⟩
      have kr : ∀ k, ¬ (20 ≤ k ∧ k ≤ 29) → k ≠ 7 → nwI σ n p0 p1 p2 k = σ k := fun k h h' => nwI_k h h'
      have ko : ∀ k j, 20 ≤ k ∧ k ≤ 29 → j ≠ n → nwI σ n p0 p1 p2 k j = σ k j := fun k j hk hj => nwI_o hj k hk
      have hz : smM τ (nI n) nm = 0 := sm_zero nm (fun i hi => by
        obtain ⟨⟨j, hj, e, -⟩, -⟩ := hS.1 i hi
        rw [e]
        intro h
        have := nI_jn (by omega) (by omega) h
        omega)
      have hsm : ∀ p, smM (su (su (su (su (su (su τ 0 0 0) 5 n p0) 6 n p1) 7 n p2) 13 n (-1)) 0 1 (nI (n + 1))) p nm = smM τ p nm := fun p => smM_row (τ := τ) (τ' := su (su (su (su (su (su τ 0 0 0) 5 n p0) 6 n p1) 7 n p2) 13 n (-1)) 0 1 (nI (n + 1))) rfl nm
      unfold TT
      rw [kr 0 (by omega) (by omega), kr 1 (by omega) (by omega), kr 2 (by omega) (by omega), kr 3 (by omega) (by omega), kr 4 (by omega) (by omega), kr 5 (by omega) (by omega), kr 6 (by omega) (by omega), kr 30 (by omega) (by omega), kr 31 (by omega) (by omega)]
      refine ⟨⟨rfl, hN.2.1, hN.2.2.1, by omega, hN.2.2.2.2.1, w, hw, ew⟩, hR, fun j hj => ?_, fun j hj hs => ?_, fun j hj => ?_, fun i h1 h2 => hF i (by omega) h2, hQ, hH, fun d q hd hq => ?_, hU, ⟨fun i hi => ?_, hS.2⟩, ⟨fun i q hi hq => ?_, hB.2⟩, fun j hj => ?_, fun d' hd' => ?_⟩
      · by_cases e : j = n
        · subst e
          simp [su, nwI]
          exact ⟨(hF j (Nat.le_refl _) (by omega)).1, (hF j (Nat.le_refl _) (by omega)).2.1⟩
        · rw [ko 20 j (by omega) e, ko 21 j (by omega) e, ko 22 j (by omega) e, ko 23 j (by omega) e, ko 24 j (by omega) e, ko 28 j (by omega) e]
          have h9 := hI j (by omega)
          simp [su, e]
          exact h9
      · by_cases e : j = n
        · subst e
          exfalso
          simp [nwI] at hs
        · rw [ko 23 j (by omega) e] at hs
          rw [ko 25 j (by omega) e, ko 26 j (by omega) e, ko 27 j (by omega) e]
          exact hA j (by omega) hs
      · by_cases e : j = n
        · subst e
          refine ⟨⟨d, hd, ?_⟩, ⟨q, by omega, ?_⟩, ⟨t, by omega, ?_⟩, 0, by omega, ?_⟩
          · simp [nwI, ed]
          · simp [nwI, eq]
          · simp [nwI, et]
          · simp [nwI, nI_0]
        · rw [ko 20 j (by omega) e, ko 21 j (by omega) e, ko 22 j (by omega) e, ko 24 j (by omega) e]
          exact hV j (by omega)
      · rw [kr (10 + d) (by omega) (by omega)]
        exact hD d q hd hq
      · obtain ⟨⟨j, hj, e1, e2⟩, e3⟩ := hS.1 i hi
        exact ⟨⟨j, by omega, e1, by rw [ko 20 j (by omega) (by omega)]; exact e2⟩, e3⟩
      · rw [kr (1000 + i) (by omega) (by omega), kr (2000 + i) (by omega) (by omega)]
        exact hB.1 i q hi hq
      · rw [hsm]
        by_cases e : j = n
        · subst e
          rw [hz]
          simp [nwI]
        · rw [ko 29 j (by omega) e]
          exact hC j (by omega)
      · have hco := co_cong (τ := τ) (τ' := su (su (su (su (su (su τ 0 0 0) 5 n p0) 6 n p1) 7 n p2) 13 n (-1)) 0 1 (nI (n + 1))) (nm := nm) (p := nI d') rfl n (fun i hi => by
          have e : i ≠ n := by omega
          simp [su, e])
        have h14 : su (su (su (su (su (su τ 0 0 0) 5 n p0) 6 n p1) 7 n p2) 13 n (-1)) 0 1 (nI (n + 1)) 14 n = 0 := (hF n (Nat.le_refl _) (by omega)).2.2
        have hlast : coM (su (su (su (su (su (su τ 0 0 0) 5 n p0) 6 n p1) 7 n p2) 13 n (-1)) 0 1 (nI (n + 1))) nm (nI d') (n + 1) = coM τ nm (nI d') n := by
          show coM _ nm (nI d') n + (if _ = nI d' then 100 * (_ + 1) * (su (su (su (su (su (su τ 0 0 0) 5 n p0) 6 n p1) 7 n p2) 13 n (-1)) 0 1 (nI (n + 1)) 14 n) + 50 * smM _ (nI n) nm else 0) = _
          rw [hco, h14, hsm, hz]
          by_cases h : su (su (su (su (su (su τ 0 0 0) 5 n p0) 6 n p1) 7 n p2) 13 n (-1)) 0 1 (nI (n + 1)) 5 n = nI d'
          · rw [if_pos h]
            grind
          · rw [if_neg h, add_z0]
        rw [hlast]
        exact hK d' hd'
    · exact absurd hok hp
    · omega
theorem sm_sam {i : Nat} {p : Int32} : smM (su (su (su (su τ 0 0 0) 19 nm (nI i)) 20 nm p1) 0 2 (nI (nm + 1))) p (nm + 1) = smM τ p nm + (if nI i = p then 1 else 0) := by
  show smM _ p nm + (if su (su (su (su τ 0 0 0) 19 nm (nI i)) 20 nm p1) 0 2 (nI (nm + 1)) 19 nm = p then 1 else 0) = _
  rw [sm_cong (τ := τ) nm (fun j hj => by have e : j ≠ nm := by omega
                                          simp [su, e])]
  have e : su (su (su (su τ 0 0 0) 19 nm (nI i)) 20 nm p1) 0 2 (nI (nm + 1)) 19 nm = nI i := by simp [su]
  rw [e]
theorem co_sam {i : Nat} {p : Int32} (hi : i < 30) : ∀ z : Nat, z ≤ 30 → coM (su (su (su (su τ 0 0 0) 19 nm (nI i)) 20 nm p1) 0 2 (nI (nm + 1))) (nm + 1) p z = coM τ nm p z + (if i < z ∧ τ 5 i = p then 50 else 0)
  | 0, _ => by
    rw [if_neg (fun h => absurd h.1 (Nat.not_lt_zero _))]
    exact (add_z0 _).symm
  | z + 1, hz => by
    have ih := co_sam (i := i) (p := p) hi z (by omega)
    show coM _ (nm + 1) p z + (if τ 5 z = p then 100 * (τ 6 z + 1) * τ 14 z + 50 * smM (su (su (su (su τ 0 0 0) 19 nm (nI i)) 20 nm p1) 0 2 (nI (nm + 1))) (nI z) (nm + 1) else 0) = (coM τ nm p z + (if τ 5 z = p then 100 * (τ 6 z + 1) * τ 14 z + 50 * smM τ (nI z) nm else 0)) + _
    rw [ih, sm_sam]
    by_cases e : z = i
    · subst e
      rw [if_neg (c := z < z ∧ τ 5 z = p) (fun h => absurd h.1 (Nat.lt_irrefl _)), if_pos (c := nI z = nI z) rfl]
      by_cases h : τ 5 z = p
      · have h' : z < z + 1 ∧ τ 5 z = p := ⟨by omega, h⟩
        rw [if_pos h, if_pos h, if_pos h']
        grind
      · have h' : ¬ (z < z + 1 ∧ τ 5 z = p) := fun h9 => h h9.2
        rw [if_neg h, if_neg h, if_neg h']
    · have hne : ¬ nI i = nI z := fun h => e (nI_jn (by omega) (by omega) h).symm
      rw [if_neg hne]
      by_cases h : i < z ∧ τ 5 i = p
      · have h' : i < z + 1 ∧ τ 5 i = p := ⟨by omega, h.2⟩
        rw [if_pos h, if_pos h']
        grind
      · have h' : ¬ (i < z + 1 ∧ τ 5 i = p) := fun h9 => h ⟨by omega, h9.2⟩
        rw [if_neg h, if_neg h']
        grind
theorem tt_sample {v : (Nat → Nat) × Nat × Nat × (Nat → Nat → Int32)} (hT : TT σ τ n nm) (hc : cr_sample ad σ n nm ci cj p0 p1 k r v) (hm : mr_sample τ n nm p0 p1 r' u') : u' 0 0 = k ∧ (k = 0 → r' = r) ∧ TT v.2.2.2 u' n v.2.1 := by
  have hn : n ≤ 30 := hT.1.2.2.2.1
  rcases hm with ⟨hno, rfl, rfl⟩ | ⟨⟨i, hi, rfl, hp1⟩, h40, rfl, rfl⟩ | ⟨i, hi, rfl, hp1, h40, hm⟩
  · rcases hc with ⟨rfl, j, hj, rfl, hp, -⟩ | ⟨⟨rfl, -⟩ | ⟨rfl, ⟨⟨j, hj, rfl⟩, hp⟩, -⟩, rfl⟩
    · exact absurd ⟨⟨nI_pos' (by omega), nI_lt hj (by omega)⟩, hp⟩ hno
    · exact ⟨rfl, fun h => absurd h (by decide), tt_thr hT⟩
    · exact absurd ⟨⟨nI_pos' (by omega), nI_lt hj (by omega)⟩, hp⟩ hno
  · rcases hc with ⟨rfl, j, hj, -, -, h, -⟩ | ⟨⟨rfl, hp⟩ | ⟨rfl, -, -⟩, rfl⟩
    · omega
    · exact absurd ⟨⟨i, hi, rfl⟩, hp1⟩ hp
    · exact ⟨rfl, fun h => absurd h (by decide), tt_thr hT⟩
  · rcases hc with ⟨rfl, j, hj, e, -, -, -, hc⟩ | ⟨⟨rfl, hp⟩ | ⟨rfl, -, hp⟩, -⟩
    · have := nI_jn (by omega) (by omega) e
      subst this
      have hok : ((2 < τ 6 i ∧ τ 8 i = 2) ∧ slM τ p1 nm < 0) ↔ (3 ≤ σ 21 i ∧ σ 23 i = 2 ∧ ¬ ∃ j, j < nm ∧ σ 31 j = p1) := by
        obtain ⟨a1, a2, a3, a4, -⟩ := hT.2.2.1 i hi
        rw [slM_neg hT, a2, a4, le3]
        exact ⟨fun h => ⟨h.1.1, h.1.2, h.2⟩, fun h => ⟨⟨h.1, h.2.1⟩, h.2.2⟩⟩
      rw [hok] at hm
      rcases hm with ⟨h5, rfl, rfl⟩ | ⟨h5, rfl, rfl⟩
      · rcases hc with ⟨h6, -⟩ | ⟨-, rfl, rfl⟩
        · exact absurd h6 h5
        · exact ⟨rfl, fun _ => rfl, tt_thr hT⟩
      · rcases hc with ⟨-, rfl, e1, -, -, e2⟩ | ⟨h6, -, -⟩
        · refine ⟨rfl, fun _ => rfl, ?_⟩
          rw [e1, e2]
          obtain ⟨hN, hR, hI, hA, hV, hF, hQ, hH, hD, hU, hS, hB, hC, hK⟩ := hT
          obtain ⟨⟨d, hd, ed⟩, -⟩ := hV i hi
          have k20 : nwS σ nm (σ 20 i) p1 20 = σ 20 := nwS_k (by omega) (by omega) (by omega) (by omega) (by omega)
          have k29 : nwS σ nm (σ 20 i) p1 29 = σ 29 := nwS_k (by omega) (by omega) (by omega) (by omega) (by omega)
          have k4 : nwS σ nm (σ 20 i) p1 4 = σ 4 := nwS_k (by omega) (by omega) (by omega) (by omega) (by omega)
          unfold saT
          rw [k20, k29, k4, ed, nI_clamp (by omega)]
          have kr : ∀ k, k ≠ 29 → k ≠ 4 → k ≠ 7 → k ≠ 30 → k ≠ 31 → k ≠ 1000 + nm → k ≠ 2000 + nm → su (su (nwS σ nm (nI d) p1) 29 i (σ 29 i + 1)) 4 d (σ 4 d + 50) k = σ k := fun k h1 h2 h3 h4 h5 h6 h7 => by rw [su_row h2, su_row h1, nwS_k h3 h4 h5 h6 h7]
          have kq : ∀ k j, k ≠ 29 → k ≠ 4 → su (su (nwS σ nm (nI d) p1) 29 i (σ 29 i + 1)) 4 d (σ 4 d + 50) k j = nwS σ nm (nI d) p1 k j := fun k j h1 h2 => by rw [su_ne h2, su_ne h1]
          unfold TT
          rw [kr 0 (by omega) (by omega) (by omega) (by omega) (by omega) (by omega) (by omega), kr 1 (by omega) (by omega) (by omega) (by omega) (by omega) (by omega) (by omega), kr 2 (by omega) (by omega) (by omega) (by omega) (by omega) (by omega) (by omega), kr 3 (by omega) (by omega) (by omega) (by omega) (by omega) (by omega) (by omega), kr 5 (by omega) (by omega) (by omega) (by omega) (by omega) (by omega) (by omega), kr 6 (by omega) (by omega) (by omega) (by omega) (by omega) (by omega) (by omega), kr 20 (by omega) (by omega) (by omega) (by omega) (by omega) (by omega) (by omega), kr 21 (by omega) (by omega) (by omega) (by omega) (by omega) (by omega) (by omega), kr 22 (by omega) (by omega) (by omega) (by omega) (by omega) (by omega) (by omega), kr 23 (by omega) (by omega) (by omega) (by omega) (by omega) (by omega) (by omega), kr 24 (by omega) (by omega) (by omega) (by omega) (by omega) (by omega) (by omega), kr 25 (by omega) (by omega) (by omega) (by omega) (by omega) (by omega) (by omega), kr 26 (by omega) (by omega) (by omega) (by omega) (by omega) (by omega) (by omega), kr 27 (by omega) (by omega) (by omega) (by omega) (by omega) (by omega) (by omega), kr 28 (by omega) (by omega) (by omega) (by omega) (by omega) (by omega) (by omega)]
          have t19 : ∀ s, s ≠ nm → su (su (su (su τ 0 0 0) 19 nm (nI i)) 20 nm p1) 0 2 (nI (nm + 1)) 19 s = τ 19 s := fun s h => by simp [su, h]
          have t20 : ∀ s, s ≠ nm → su (su (su (su τ 0 0 0) 19 nm (nI i)) 20 nm p1) 0 2 (nI (nm + 1)) 20 s = τ 20 s := fun s h => by simp [su, h]
          refine ⟨⟨hN.1, rfl, hN.2.2.1, hN.2.2.2.1, by omega, hN.2.2.2.2.2⟩, hR, hI, hA, hV, hF, hQ, hH, fun d' q hd' hq => ?_, hU, ⟨fun s hs => ?_, fun s s' hs hs' h => ?_⟩, ⟨fun s q hs hq => ?_, fun k h1 h2 => hB.2 k (by omega) h2⟩, fun j hj => ?_, fun d' hd' => ?_⟩
          · rw [kr (10 + d') (by omega) (by omega) (by omega) (by omega) (by omega) (by omega) (by omega)]
            exact hD d' q hd' hq
          · rw [kq 30 s (by omega) (by omega), kq 31 s (by omega) (by omega)]
            by_cases e : s = nm
            · subst e
              rw [nwS_30, nwS_31]
              refine ⟨⟨i, hi, by simp [su], ed.symm⟩, by simp [su]⟩
            · rw [nwS_o (Or.inl rfl) e, nwS_o (Or.inr rfl) e, t19 s e, t20 s e]
              exact hS.1 s (by omega)
          · rw [kq 31 s (by omega) (by omega), kq 31 s' (by omega) (by omega)] at h
            by_cases e : s = nm
            · by_cases e' : s' = nm
              · omega
              · subst e
                rw [nwS_31, nwS_o (Or.inr rfl) e'] at h
                exact absurd ⟨s', by omega, h.symm⟩ h5.2.2
            · by_cases e' : s' = nm
              · subst e'
                rw [nwS_31, nwS_o (Or.inr rfl) e] at h
                exact absurd ⟨s, by omega, h⟩ h5.2.2
              · rw [nwS_o (Or.inr rfl) e, nwS_o (Or.inr rfl) e'] at h
                exact hS.2 s s' (by omega) (by omega) h
          · rw [kq (1000 + s) q (by omega) (by omega), kq (2000 + s) q (by omega) (by omega)]
            by_cases e : s = nm
            · subst e
              rw [nwS_f, nwS_s (by omega)]
              obtain ⟨f1, f2⟩ := hB.2 (4 * s + q) (by omega) (by omega)
              refine ⟨f1.trans (if_pos hq).symm, ?_, f2, Or.inl rfl⟩
              rw [show flF (fun _ => 0) (-1) 4 q = -1 from if_pos hq]
              unfold rgV
              decide
            · rw [nwS_k (by omega) (by omega) (by omega) (by omega) (by omega), nwS_k (by omega) (by omega) (by omega) (by omega) (by omega)]
              exact hB.1 s q (by omega) hq
          · rw [sm_sam, show su (su (nwS σ nm (nI d) p1) 29 i (σ 29 i + 1)) 4 d (σ 4 d + 50) 29 j = su (nwS σ nm (nI d) p1) 29 i (σ 29 i + 1) 29 j from su_ne (by decide)]
            have k29' : nwS σ nm (nI d) p1 29 j = σ 29 j := by rw [nwS_k (by omega) (by omega) (by omega) (by omega) (by omega)]
            by_cases e : j = i
            · subst e
              rw [su_at, if_pos rfl, hC j hj]
            · rw [su_nj e, k29', if_neg (fun h => e (nI_jn (by omega) (by omega) h).symm), add_z0]
              exact hC j hj
          · rw [co_sam (by omega) n hn]
            have e5 : τ 5 i = nI d := (hI i hi).1.trans ed
            by_cases e : d' = d
            · subst e
              have h' : i < n ∧ τ 5 i = nI d' := ⟨hi, e5⟩
              rw [su_at, if_pos h', hK d' hd']
            · have h' : ¬ (i < n ∧ τ 5 i = nI d') := fun h => e (nI_jn (by omega) (by omega) (h.2.symm.trans e5))
              rw [su_nj e, if_neg h', add_z0, su_ne (by decide), nwS_k (by omega) (by omega) (by omega) (by omega) (by omega)]
              exact hK d' hd'
        · exact absurd h5 h6
    · exact absurd ⟨⟨i, hi, rfl⟩, hp1⟩ hp
    · omega
end T5
