/-! how often something is late: in natural numbers -/
def cN (D t : Nat) : Nat := if t ≤ D then 0 else (t - D - 1) / 100 + 1
theorem cN_s (D t : Nat) : cN D (t + 1) = cN D t + (if D < t + 1 ∧ (t + 1 - D) % 100 = 1 then 1 else 0) := by
  unfold cN
  by_cases h1 : t + 1 ≤ D
  · rw [if_pos h1, if_pos (by omega), if_neg (by omega)]
  · rw [if_neg h1]
    by_cases h2 : t ≤ D
    · have e : t = D := by omega
      subst e
      rw [if_pos (Nat.le_refl _), if_pos (by omega)]
      omega
    · rw [if_neg h2]
      by_cases h3 : (t + 1 - D) % 100 = 1
      · rw [if_pos ⟨by omega, h3⟩]
        omega
      · rw [if_neg (fun h => h3 h.2)]
        omega
theorem cN_mono (D w : Nat) : ∀ k : Nat, cN D w ≤ cN D (w + k)
  | 0 => Nat.le_refl _
  | k + 1 => Nat.le_trans (cN_mono D w k) (by rw [show w + (k + 1) = w + k + 1 by omega, cN_s]; omega)
/-- the level behind k days -/
def lvN (st : Int32) (V D w k : Nat) : Nat := if ¬ st = 3 ∧ ¬ st = 5 then min 3 (V + (cN D (w + k) - cN D w)) else V
theorem lvN_0 {st : Int32} {V D w : Nat} (h : V ≤ 3) : lvN st V D w 0 = V := by
  unfold lvN
  by_cases h1 : ¬ st = 3 ∧ ¬ st = 5
  · rw [if_pos h1, show w + 0 = w from rfl]
    omega
  · rw [if_neg h1]
theorem lvN_s {st : Int32} {V D w k : Nat} (h : V ≤ 3) : lvN st V D w (k + 1) = lvN st V D w k + (if D < w + 1 + k ∧ (w + 1 + k - D) % 100 = 1 ∧ lvN st V D w k < 3 ∧ ¬ st = 3 ∧ ¬ st = 5 then 1 else 0) := by
  have hm := cN_mono D w k
  have hs := cN_s D (w + k)
  unfold lvN
  by_cases h1 : ¬ st = 3 ∧ ¬ st = 5
  · rw [if_pos h1, if_pos h1, show w + (k + 1) = w + k + 1 by omega, show w + 1 + k = w + k + 1 by omega, hs]
    by_cases h2 : D < w + k + 1 ∧ (w + k + 1 - D) % 100 = 1
    · rw [if_pos h2]
      by_cases h3 : min 3 (V + (cN D (w + k) - cN D w)) < 3
      · rw [if_pos ⟨h2.1, h2.2, h3, h1⟩]
        omega
      · rw [if_neg (fun h9 => h3 h9.2.2.1)]
        omega
    · rw [if_neg h2, if_neg (fun h9 => h2 ⟨h9.1, h9.2.1⟩)]
      omega
  · rw [if_neg h1, if_neg h1, if_neg (fun h9 => h1 h9.2.2.2), Nat.add_zero]
theorem lvN_le {st : Int32} {V D w k : Nat} (h : V ≤ 3) : V ≤ lvN st V D w k ∧ lvN st V D w k ≤ 3 := by
  unfold lvN
  by_cases h1 : ¬ st = 3 ∧ ¬ st = 5
  · rw [if_pos h1]
    omega
  · rw [if_neg h1]
    omega
def sumN (f : Nat → Nat) : Nat → Nat
  | 0 => 0
  | z + 1 => sumN f z + f z
theorem sumN_add {f g h : Nat → Nat} : ∀ z : Nat, (∀ i, i < z → f i + g i = h i) → sumN f z + sumN g z = sumN h z
  | 0, _ => rfl
  | z + 1, H => by
    have ih := sumN_add z (fun i hi => H i (by omega))
    have h1 := H z (by omega)
    show sumN f z + f z + (sumN g z + g z) = sumN h z + h z
    omega
theorem sumN_z {f : Nat → Nat} : ∀ z : Nat, (∀ i, i < z → f i = 0) → sumN f z = 0
  | 0, _ => rfl
  | z + 1, H => by
    have ih := sumN_z (f := f) z (fun i hi => H i (by omega))
    have h1 := H z (by omega)
    show sumN f z + f z = 0
    omega
theorem nI_sub {a b : Nat} (h : b ≤ a) (ha : a < 2 ^ 31) : nI a - nI b = nI (a - b) := by
  rw [i32_eq, Int32.toInt_sub, nI_toInt ha, nI_toInt (by omega), nI_toInt (by omega), Int.bmod_eq_of_le (by omega) (by omega)]
  omega
theorem id100 (a : Nat) (ha : a < 2 ^ 31) : nI a / 100 = nI (a / 100) := by
  rw [i32_eq, nI_toInt (by omega), Int32.toInt_div, nI_toInt ha, i32_n100, Int.tdiv_eq_ediv_of_nonneg (by omega), Int.bmod_eq_of_le (by omega) (by omega)]
  omega
theorem im100 (a : Nat) (ha : a < 2 ^ 31) : nI a - nI a / 100 * 100 = nI (a % 100) := by
  rw [id100 a ha, show (100 : Int32) = nI 100 from rfl, nI_mul, nI_sub (by omega) ha]
  congr 1
  omega
theorem late_eq {D t : Nat} (hD : D ≤ 100000) (ht : t ≤ 100000) : lateF (nI D) (nI t) = nI (cN D t) := by
  unfold lateF cN
  by_cases h : t ≤ D
  · rw [if_pos (nI_le h (by omega)), if_pos h]
    rfl
  · have h2 : ¬ nI t ≤ nI D := fun h9 => h ((nI_leI (by omega) (by omega)).mp h9)
    rw [if_neg h2, if_neg h, nI_sub (by omega) (by omega), show (1 : Int32) = nI 1 from rfl, nI_sub (by omega) (by omega), id100 _ (by omega), nI_add]
theorem min_eq {a b : Nat} (ha : a < 2 ^ 31) (hb : b < 2 ^ 31) : minF (nI a) (nI b) = nI (min a b) := by
  unfold minF
  by_cases h : b < a
  · rw [if_pos (nI_lt h ha)]
    congr 1
    omega
  · rw [if_neg (fun h9 => h ((nI_ltI hb ha).mp h9))]
    congr 1
    omega
theorem cN_le {D t : Nat} (ht : t ≤ 100000) : cN D t ≤ 1001 := by
  unfold cN
  by_cases h : t ≤ D
  · rw [if_pos h]
    omega
  · rw [if_neg h]
    omega
theorem pu_eq {st : Int32} {D V w T : Nat} (hD : D ≤ 100000) (hV : V ≤ 3) (hw : w ≤ T) (hT : T ≤ 100000) : puF (nI D) st (nI V) (nI w) (nI T) = nI (lvN st V D w (T - w) - V) ∧ puL (nI D) st (nI V) (nI w) (nI T) = nI (lvN st V D w (T - w)) := by
  have hm := cN_mono D w (T - w)
  rw [show w + (T - w) = T by omega] at hm
  have hc := cN_le (D := D) hT
  have e1 : minF (lateF (nI D) (nI T) - lateF (nI D) (nI w)) (3 - nI V) = nI (min (cN D T - cN D w) (3 - V)) := by
    rw [late_eq hD hT, late_eq hD (by omega), nI_sub hm (by omega), show (3 : Int32) = nI 3 from rfl, nI_sub hV (by decide), min_eq (by omega) (by omega)]
  unfold puF puL lvN
  rw [show w + (T - w) = T by omega]
  by_cases h : ¬ st = 3 ∧ ¬ st = 5
  · rw [ifP_t h, ifP_t h, if_pos h, e1, nI_add]
    constructor
    · congr 1
      omega
    · congr 1
      omega
  · rw [ifP_f h, ifP_f h, if_neg h]
    constructor
    · rw [Nat.sub_self]
      rfl
    · rfl
theorem lt3 {a : Nat} (h : a < 2 ^ 31) : nI a < 3 ↔ a < 3 := nI_ltI (b := 3) h (by decide)
section TK
variable {σ τ u u' : Nat → Nat → Int32} {n nm w : Nat} {p0 r r' k : Int32}
theorem tsM_hi {b : Nat} (h : n ≤ b) : ∀ k : Nat, tsM τ w n k 9 b = τ 9 b
  | 0 => rfl
  | k + 1 => by
    show dyM (tsM τ w n k) (nI (w + 1 + k)) n 9 b = _
    rw [show dyM (tsM τ w n k) (nI (w + 1 + k)) n 9 b = tsM τ w n k 9 b from if_neg (fun q => absurd q.2.1 (by omega)), tsM_hi h k]
theorem late_iff {S : Nat → Nat → Int32} {D L w k i : Nat} (h7 : S 7 i = nI D) (h9 : S 9 i = nI L) (hD : D ≤ 100000) (hL : L ≤ 3) (hk : w + 1 + k ≤ 100000) : lateM S (nI (w + 1 + k)) i ↔ (D < w + 1 + k ∧ (w + 1 + k - D) % 100 = 1 ∧ L < 3 ∧ ¬ S 8 i = 3 ∧ ¬ S 8 i = 5) := by
  unfold lateM
  rw [h7, h9, nI_ltI (by omega) (by omega), lt3 (by omega)]
  by_cases h : D < w + 1 + k
  · rw [nI_sub (by omega) (by omega), im100 _ (by omega), show (nI ((w + 1 + k - D) % 100) = 1 ↔ (w + 1 + k - D) % 100 = 1) from nI_eq (b := 1) (by omega) (by decide)]
  · exact ⟨fun h9 => absurd h9.1 h, fun h9 => absurd h9.1 h⟩
/-- what is known of the inspections, in natural numbers -/
theorem tk_lv {D V : Nat → Nat} (h7 : ∀ i, i < n → τ 7 i = nI (D i) ∧ D i ≤ 100000) (h9 : ∀ i, i < n → τ 9 i = nI (V i) ∧ V i ≤ 3) : ∀ k : Nat, w + k ≤ 100000 → ∀ i, i < n → tsM τ w n k 9 i = nI (lvN (τ 8 i) (V i) (D i) w k)
  | 0, _, i, hi => by
    rw [lvN_0 (h9 i hi).2]
    exact (h9 i hi).1
  | k + 1, hk, i, hi => by
    have ih := tk_lv h7 h9 k (by omega) i hi
    have hl := lvN_le (st := τ 8 i) (D := D i) (w := w) (k := k) (h9 i hi).2
    have e7 : tsM τ w n k 7 i = nI (D i) := (tsM_n (by decide) k).trans (h7 i hi).1
    have e8 : tsM τ w n k 8 i = τ 8 i := tsM_n (by decide) k
    have hiff := late_iff (S := tsM τ w n k) (w := w) (k := k) e7 ih (h7 i hi).2 hl.2 (by omega)
    rw [e8] at hiff
    show dyM (tsM τ w n k) (nI (w + 1 + k)) n 9 i = _
    rw [lvN_s (h9 i hi).2]
    unfold dyM
    by_cases hlate : lateM (tsM τ w n k) (nI (w + 1 + k)) i
    · rw [if_pos ⟨rfl, hi, hlate⟩, if_pos (hiff.mp hlate), ih, nI_1]
    · rw [if_neg (fun q => hlate q.2.2), if_neg (fun q => hlate (hiff.mpr q)), ih, Nat.add_zero]
theorem tk_dc {D V : Nat → Nat} (h7 : ∀ i, i < n → τ 7 i = nI (D i) ∧ D i ≤ 100000) (h9 : ∀ i, i < n → τ 9 i = nI (V i) ∧ V i ≤ 3) {k : Nat} (hk : w + 1 + k ≤ 100000) : ∀ z : Nat, z ≤ n → dcM (tsM τ w n k) (nI (w + 1 + k)) z = nI (sumN (fun i => lvN (τ 8 i) (V i) (D i) w (k + 1) - lvN (τ 8 i) (V i) (D i) w k) z)
  | 0, _ => rfl
  | z + 1, hz => by
    have ih := tk_dc h7 h9 hk z (by omega)
    have hi : z < n := by omega
    have hl := lvN_le (st := τ 8 z) (D := D z) (w := w) (k := k) (h9 z hi).2
    have e7 : tsM τ w n k 7 z = nI (D z) := (tsM_n (by decide) k).trans (h7 z hi).1
    have e8 : tsM τ w n k 8 z = τ 8 z := tsM_n (by decide) k
    have hiff := late_iff (S := tsM τ w n k) (w := w) (k := k) e7 (tk_lv h7 h9 k (by omega) z hi) (h7 z hi).2 hl.2 (by omega)
    rw [e8] at hiff
    show dcM (tsM τ w n k) (nI (w + 1 + k)) z + (if lateM (tsM τ w n k) (nI (w + 1 + k)) z then 1 else 0) = nI (sumN _ z + (lvN (τ 8 z) (V z) (D z) w (k + 1) - lvN (τ 8 z) (V z) (D z) w k))
    rw [ih, lvN_s (h9 z hi).2]
    by_cases hlate : lateM (tsM τ w n k) (nI (w + 1 + k)) z
    · rw [if_pos hlate, if_pos (hiff.mp hlate), nI_1]
      congr 1
      omega
    · rw [if_neg hlate, if_neg (fun q => hlate (hiff.mpr q)), add_z0]
      congr 1
      omega
theorem tk_tc {D V : Nat → Nat} (h7 : ∀ i, i < n → τ 7 i = nI (D i) ∧ D i ≤ 100000) (h9 : ∀ i, i < n → τ 9 i = nI (V i) ∧ V i ≤ 3) : ∀ k : Nat, w + k ≤ 100000 → tcM τ w n k = nI (sumN (fun i => lvN (τ 8 i) (V i) (D i) w k - V i) n)
  | 0, _ => by
    rw [sumN_z n (fun i hi => by rw [lvN_0 (h9 i hi).2]; omega)]
    rfl
  | k + 1, hk => by
    show tcM τ w n k + dcM (tsM τ w n k) (nI (w + 1 + k)) n = _
    rw [tk_tc h7 h9 k (by omega), tk_dc h7 h9 (by omega) n (Nat.le_refl _), nI_add]
    congr 1
    refine sumN_add n (fun i hi => ?_)
    have h1 := lvN_le (st := τ 8 i) (D := D i) (w := w) (k := k) (h9 i hi).2
    have h2 := lvN_s (st := τ 8 i) (D := D i) (w := w) (k := k) (h9 i hi).2
    omega
theorem tk_cl {D V : Nat → Nat} {T : Nat} (h7 : ∀ i, i < n → σ 22 i = nI (D i) ∧ D i ≤ 100000) (h9 : ∀ i, i < n → σ 24 i = nI (V i) ∧ V i ≤ 3) (hw : σ 0 0 = nI w) (hwT : w ≤ T) (hT : T ≤ 100000) : ∀ z : Nat, z ≤ n → tkN σ (nI T) z = nI (sumN (fun i => lvN (σ 23 i) (V i) (D i) w (T - w) - V i) z)
  | 0, _ => rfl
  | z + 1, hz => by
    have hi : z < n := by omega
    show tkN σ (nI T) z + puF (σ 22 z) (σ 23 z) (σ 24 z) (σ 0 0) (nI T) = nI (sumN _ z + _)
    rw [tk_cl h7 h9 hw hwT hT z (by omega), (h7 z hi).1, (h9 z hi).1, hw, (pu_eq (h7 z hi).2 (h9 z hi).2 hwT hT).1, nI_add]
theorem tt_tick (hT : TT σ τ n nm) (hw9 : w ≤ 100000) (hw : τ 0 3 = nI w) (hc : cr_tick σ n nm p0 k r u) (hm : mr_tick τ n nm w p0 r' u') : u' 0 0 = k ∧ (k = 0 → r' = r) ∧ TT u u' n nm := by
  have hn : n ≤ 30 := hT.1.2.2.2.1
  have e3 : τ 0 3 = σ 0 0 := hT.1.2.2.1
  unfold mr_tick at hm
  rw [e3] at hm
  rcases hm with ⟨hno, rfl, rfl⟩ | ⟨T, rfl, hwT, hT9, rfl, rfl⟩
  · rcases hc with ⟨rfl, hp, -⟩ | ⟨rfl, -, rfl⟩
    · exact absurd hp hno
    · exact ⟨rfl, fun h => absurd h (by decide), tt_thr hT⟩
  · have hw' : σ 0 0 = nI w := e3.symm.trans hw
    have hp : σ 0 0 ≤ nI T ∧ nI T ≤ 100000 := ⟨by rw [hw']; exact nI_le hwT (by omega), nI_le (b := 100000) hT9 (by decide)⟩
    rcases hc with ⟨rfl, -, rfl, rfl⟩ | ⟨rfl, hno, -⟩
    · obtain ⟨hN, hR, hI, hA, hV, hF, hQ, hH, hD, hU, hS, hB, hC, hK⟩ := tt_thr (x := 0) hT
      have s7 : ∀ i, i < n → σ 22 i = nI (σ 22 i).toNatClampNeg ∧ (σ 22 i).toNatClampNeg ≤ 100000 := fun i hi => by
        obtain ⟨-, -, ⟨d, hd, ed⟩, -⟩ := hV i hi
        rw [ed, nI_clamp (by omega)]
        exact ⟨rfl, hd⟩
      have s9 : ∀ i, i < n → σ 24 i = nI (σ 24 i).toNatClampNeg ∧ (σ 24 i).toNatClampNeg ≤ 3 := fun i hi => by
        obtain ⟨-, -, -, ⟨d, hd, ed⟩⟩ := hV i hi
        rw [ed, nI_clamp (by omega)]
        exact ⟨rfl, hd⟩
      have t7 : ∀ i, i < n → su τ 0 0 0 7 i = nI (σ 22 i).toNatClampNeg ∧ (σ 22 i).toNatClampNeg ≤ 100000 := fun i hi => ⟨(hI i hi).2.2.1.trans (s7 i hi).1, (s7 i hi).2⟩
      have t9 : ∀ i, i < n → su τ 0 0 0 9 i = nI (σ 24 i).toNatClampNeg ∧ (σ 24 i).toNatClampNeg ≤ 3 := fun i hi => ⟨(hI i hi).2.2.2.2.1.trans (s9 i hi).1, (s9 i hi).2⟩
      have t8 : ∀ i, i < n → su τ 0 0 0 8 i = σ 23 i := fun i hi => (hI i hi).2.2.2.1
      have hlv := tk_lv (τ := su τ 0 0 0) (w := w) (n := n) t7 t9 (T - w) (by omega)
      have kt : ∀ a, a ≠ 9 → tsM (su τ 0 0 0) w n (T - w) a = su τ 0 0 0 a := fun a h => funext fun b => tsM_n h (T - w)
      have ks : ∀ a, a ≠ 24 → tkS σ (nI T) n a = σ a := fun a h => funext fun b => if_neg (fun q => h q.1)
      have kt' : ∀ a, a ≠ 9 → a ≠ 0 → su (tsM (su τ 0 0 0) w n (T - w)) 0 3 (nI T) a = su τ 0 0 0 a := fun a h h0 => by rw [su_row h0, kt a h]
      have ks' : ∀ a, a ≠ 24 → a ≠ 0 → su (tkS σ (nI T) n) 0 0 (nI T) a = σ a := fun a h h0 => by rw [su_row h0, ks a h]
      refine ⟨?_, fun _ => ?_, ?_⟩
      · show tsM (su τ 0 0 0) w n (T - w) 0 0 = 0
        rw [kt 0 (by omega)]
        rfl
      · rw [tk_tc (τ := su τ 0 0 0) (w := w) (n := n) t7 t9 (T - w) (by omega), tk_cl s7 s9 hw' hwT hT9 n (Nat.le_refl _)]
        congr 1
        have e : ∀ z, z ≤ n → sumN (fun i => lvN (su τ 0 0 0 8 i) (σ 24 i).toNatClampNeg (σ 22 i).toNatClampNeg w (T - w) - (σ 24 i).toNatClampNeg) z = sumN (fun i => lvN (σ 23 i) (σ 24 i).toNatClampNeg (σ 22 i).toNatClampNeg w (T - w) - (σ 24 i).toNatClampNeg) z := by
          intro z
          induction z with
          | zero => intro _; rfl
          | succ z ih =>
            intro hz
            show sumN _ z + _ = sumN _ z + _
            rw [ih (by omega)]
            simp only [t8 z (by omega)]
        exact e n (Nat.le_refl _)
      · unfold TT
        rw [kt' 4 (by omega) (by omega), kt' 5 (by omega) (by omega), kt' 6 (by omega) (by omega), kt' 7 (by omega) (by omega), kt' 8 (by omega) (by omega), kt' 10 (by omega) (by omega), kt' 11 (by omega) (by omega), kt' 12 (by omega) (by omega), kt' 13 (by omega) (by omega), kt' 14 (by omega) (by omega), kt' 15 (by omega) (by omega), kt' 16 (by omega) (by omega), kt' 17 (by omega) (by omega), kt' 18 (by omega) (by omega), kt' 19 (by omega) (by omega), kt' 20 (by omega) (by omega), kt' 21 (by omega) (by omega), kt' 22 (by omega) (by omega), kt' 23 (by omega) (by omega), kt' 24 (by omega) (by omega), ks' 1 (by omega) (by omega), ks' 2 (by omega) (by omega), ks' 3 (by omega) (by omega), ks' 4 (by omega) (by omega), ks' 5 (by omega) (by omega), ks' 6 (by omega) (by omega), ks' 20 (by omega) (by omega), ks' 21 (by omega) (by omega), ks' 22 (by omega) (by omega), ks' 23 (by omega) (by omega), ks' 25 (by omega) (by omega), ks' 26 (by omega) (by omega), ks' 27 (by omega) (by omega), ks' 28 (by omega) (by omega), ks' 29 (by omega) (by omega), ks' 30 (by omega) (by omega), ks' 31 (by omega) (by omega), su_row (a := 9) (by decide), su_row (a := 24) (by decide)]
        have n24 : ∀ i, i < n → tkS σ (nI T) n 24 i = nI (lvN (σ 23 i) (σ 24 i).toNatClampNeg (σ 22 i).toNatClampNeg w (T - w)) := fun i hi => by
          have h1 : tkS σ (nI T) n 24 i = puL (σ 22 i) (σ 23 i) (σ 24 i) (σ 0 0) (nI T) := if_pos ⟨rfl, hi⟩
          have h2 := (pu_eq (st := σ 23 i) (s7 i hi).2 (s9 i hi).2 hwT hT9).2
          rw [← (s7 i hi).1, ← (s9 i hi).1, ← hw'] at h2
          exact h1.trans h2
        refine ⟨⟨?_, ?_, ?_, hN.2.2.2.1, hN.2.2.2.2.1, T, hT9, ?_⟩, hR, fun i hi => ?_, hA, fun i hi => ?_, fun i h1 h2 => ?_, hQ, hH, fun d q hd hq => ?_, hU, hS, ⟨fun i q hi hq => ?_, hB.2⟩, TTc_rw hC (kt' 19 (by omega) (by omega)), TTk_rw hK (kt' 5 (by omega) (by omega)) (kt' 6 (by omega) (by omega)) (kt' 14 (by omega) (by omega)) (kt' 19 (by omega) (by omega))⟩
        · rw [su_nj (by decide), kt 0 (by omega)]
          exact hN.1
        · rw [su_nj (by decide), kt 0 (by omega)]
          exact hN.2.1
        · rw [su_at, su_at]
        · rw [su_at]
        · obtain ⟨a1, a2, a3, a4, a5, a6⟩ := hI i hi
          refine ⟨a1, a2, a3, a4, ?_, a6⟩
          rw [hlv i hi, n24 i hi, t8 i hi]
        · obtain ⟨a1, a2, a3, -⟩ := hV i hi
          refine ⟨a1, a2, a3, _, ?_, n24 i hi⟩
          exact (lvN_le (s9 i hi).2).2
        · obtain ⟨a1, a2, a3⟩ := hF i h1 h2
          refine ⟨a1, ?_, a3⟩
          rw [tsM_hi h1]
          exact a2
        · rw [ks' (10 + d) (by omega) (by omega)]
          exact hD d q hd hq
        · rw [ks' (1000 + i) (by omega) (by omega), ks' (2000 + i) (by omega) (by omega)]
          exact hB.1 i q hi hq
    · exact absurd hp hno
end TK
