theorem lcmp_gt {x y : Int64} : 0 < lg_cmp x y ↔ y < x := by
  unfold lg_cmp
  by_cases h : y < x
  · simp [h]
  · by_cases h2 : x = y
    · simp [h2]
    · simp [h, h2]
theorem lcmp_le {x y : Int64} : lg_cmp x y ≤ 0 ↔ ¬ y < x := by
  unfold lg_cmp
  by_cases h : y < x
  · simp [h]
  · by_cases h2 : x = y
    · simp [h2]
    · simp [h, h2]
theorem lcmp_ge {x y : Int64} : 0 ≤ lg_cmp x y ↔ ¬ x < y := by
  unfold lg_cmp
  by_cases h : y < x
  · have : ¬ x < y := by
      rw [Int64.lt_iff_toInt_lt] at h ⊢
      omega
    simp [h, this]
  · by_cases h2 : x = y
    · subst h2
      simp
    · have : x < y := by
        rw [Int64.lt_iff_toInt_lt] at h ⊢
        have : x.toInt ≠ y.toInt := fun q => h2 (Int64.toInt_inj.mp q)
        omega
      simp [h, h2, this]
def absL (x : Int64) : Int64 := if 0 < x then x else -x
def diffS (f d u w : Int32) : Int32 := if f = -1 ∨ d = -1 then 0 else if d.toInt64 * (if d < f then u else w).toInt64 < absL (f.toInt64 - d.toInt64) * 1000 then (if 2 * (d.toInt64 * (if d < f then u else w).toInt64) < absL (f.toInt64 - d.toInt64) * 1000 then 2 else 1) else 0
/-- how the result of sample i in measure q differs -/
def dfS (σ : Nat → Nat → Int32) (i q : Nat) : Int32 := diffS (σ (1000 + i) q) (σ (10 + (σ 30 i).toNatClampNeg) q) (σ 5 q) (σ 6 q)
def cntM (σ : Nat → Nat → Int32) (b : Int32) (i : Nat) : Nat → Int32
  | 0 => 0
  | k + 1 => if (¬ b = 0 ∨ σ (2000 + i) k = 0) ∧ dfS σ i k = 2 then cntM σ b i k + 1 else cntM σ b i k
def cntS (σ : Nat → Nat → Int32) (d b : Int32) : Nat → Int32
  | 0 => 0
  | k + 1 => if σ 30 k = d then cntS σ d b k + cntM σ b k 4 else cntS σ d b k
/-- the declarations of inspections and samples are declarations, their kinds kinds -/
def Jv (σ : Nat → Nat → Int32) (n nm : Nat) : Prop := (∀ i, i < n → vp_in (σ 20 i) 10 ∧ vp_in (σ 21 i) 5) ∧ ∀ i, i < nm → vp_in (σ 30 i) 10
section RL2
variable {p : Program} {l : Launch} {e : Env} {R : Room} {s : State} {m : MethodId} {args : Array Value} {below : List Frame} {meth : Method} {c : Code} {H : Heap} {locs : List Loc} {cells slots : Nat} {Q : State → Prop}
variable {cc : ByteArray} {pc : Nat} {ls : Array Slot} {rest : List Value} {D : va_G} {cl : List vw_C} {tys : List (ClassId × FieldType)} {Rl : List Nat} {ad : Nat → Nat} {g : Nat → va_E}
theorem rl_aldA (hexec : p.tables.exec = Jvm.exec) (hb : c.code = cc) (hK : va_K D cl tys s) (hP : va_P D cl (rl_w Rl ad g) H) {r : Nat} (hr : r ∈ Rl) (t0 : Nat) {cA : ClassId} {ty : FieldType} {n : Nat} {f : Nat → Option Nat} (hg : g r = .inl (cA, n, .inr (.inr (.inr (.inr f))))) (ht : tys[t0]? = some (cA, .array ty)) {i : Int32} (hin : vp_in i n) {v : Value} (hv : va_rf (f i.toNatClampNeg) = v) (hdg : decode cc pc = .ok (.aaload, 1))
    (kk : W p l e R s m args below meth c H locs cells slots Q (F0 m (pc + 1) ls (v :: rest))) : W p l e R s m args below meth c H locs cells slots Q (F0 m pc ls (.int i :: .ref (ad r) :: rest)) := by
  obtain ⟨j, hj, hj'⟩ := rl_at (ad := ad) (g := g) hr
  rw [hg] at hj'
  subst hv
  have hlt : i.toNatClampNeg < n := Nat.not_le.mp fun q => hin (Or.inr q)
  exact W.aald (v := va_rf (f i.toNatClampNeg)) (ty := .array ty) hexec hb (hP j _ hj') ((hK.2 t0 _ ht).1 n (fun j => va_rf (f j))) rfl (fun q => by cases q) (by show ¬ (i < 0 ∨ (arrV _ _ _).slots.size ≤ _); rw [arrV_size]; exact hin) (by show (arrV _ _ _).slots[_]? = _; rw [arrV_read _ _ hlt]) rfl rfl hdg kk
end RL2
theorem ka_abs : (Cond.code Lib.MathLoose.abs_long.x Lib.MathLoose.abs_long.code 2 (some .long)) ∈ GW := kw_180
theorem ka_min : (Cond.code Lib.Math.min.name Lib.Math.min.code 2 (some .int)) ∈ GW := kw_376
theorem ka_max : (Cond.code Lib.Math.max.name Lib.Math.max.code 2 (some .int)) ∈ GW := kw_348
