/-! A world by roles: a role r has the address ad r and the cell g r. -/
def rl_w (Rl : List Nat) (ad : Nat → Nat) (g : Nat → va_E) : va_W := Rl.map (fun r => (ad r, g r))
theorem rl_at {Rl : List Nat} {ad : Nat → Nat} {g : Nat → va_E} {r : Nat} (h : r ∈ Rl) : ∃ k : Nat, Rl[k]? = some r ∧ (rl_w Rl ad g)[k]? = some (ad r, g r) := by
  obtain ⟨k, hk⟩ := List.getElem?_of_mem h
  exact ⟨k, hk, by simp [rl_w, hk]⟩
theorem rl_set {A : Nat → Prop} {Rl : List Nat} {ad : Nat → Nat} {g : Nat → va_E} {r k : Nat} {e : va_E} (hD : va_D A (rl_w Rl ad g)) (hr : Rl[k]? = some r) : (rl_w Rl ad g).set k (ad r, e) = rl_w Rl ad (va_up g r e) := by
  have hk : (rl_w Rl ad g)[k]? = some (ad r, g r) := by simp [rl_w, hr]
  apply List.ext_getElem?
  intro j
  by_cases hj : j = k
  · subst hj
    have hl : j < (rl_w Rl ad g).length := (List.getElem?_eq_some_iff.mp hk).1
    rw [List.getElem?_set_self hl]
    simp [rl_w, hr, va_up]
  · rw [List.getElem?_set_ne (Ne.symm hj)]
    simp only [rl_w, List.getElem?_map]
    cases hb : Rl[j]? with
    | none => rfl
    | some b =>
      have hba : b ≠ r := by
        intro q
        subst q
        have h2 : (rl_w Rl ad g)[j]? = some (ad b, g b) := by simp [rl_w, hb]
        exact hj (hD.1 j k _ _ h2 hk rfl)
      simp [va_up, hba]
theorem rl_push {Rl : List Nat} {ad : Nat → Nat} {g : Nat → va_E} {r a : Nat} {e : va_E} (h : r ∉ Rl) : rl_w Rl ad g ++ [(a, e)] = rl_w (Rl ++ [r]) (va_up ad r a) (va_up g r e) := by
  simp only [rl_w, List.map_append, List.map_cons, List.map_nil, va_up_self]
  congr 1
  apply List.map_congr_left
  intro b hb
  have : b ≠ r := fun q => h (q ▸ hb)
  rw [va_up_ne _ _ this, va_up_ne _ _ this]
theorem rl_congr {Rl : List Nat} {ad : Nat → Nat} {g g' : Nat → va_E} (h : ∀ r ∈ Rl, g r = g' r) : rl_w Rl ad g = rl_w Rl ad g' := by
  simp only [rl_w]
  apply List.map_congr_left
  intro b hb
  rw [h b hb]
theorem rl_ne {A : Nat → Prop} {Rl : List Nat} {ad : Nat → Nat} {g : Nat → va_E} {r q : Nat} (hD : va_D A (rl_w Rl ad g)) (hr : r ∈ Rl) (hq : q ∈ Rl) (h : r ≠ q) : ad r ≠ ad q := by
  intro e
  obtain ⟨k, hk, hk'⟩ := rl_at (ad := ad) (g := g) hr
  obtain ⟨j, hj, hj'⟩ := rl_at (ad := ad) (g := g) hq
  have := hD.1 k j _ _ hk' hj' e
  subst this
  rw [hk] at hj
  exact h (Option.some.inj hj)
/-- all that a callee with this whole world may write lies in the caller's part -/
theorem rl_free {A0 : Nat → Prop} {ws : va_W} {H0 H : Heap} {locs : List Loc} (hD : va_D A0 ws) (hS : va_S A0 H0 H locs) (hA : ∀ q, H0.size ≤ q → A0 q) : ∀ q, va_A ws H.size q → A0 q := by
  intro q h
  rcases h with ⟨k, e, hk⟩ | h
  · exact hD.2 k _ hk
  · exact hA q (Nat.le_trans hS.1 h)
section RL
variable {p : Program} {l : Launch} {e : Env} {R : Room} {s : State} {m : MethodId} {args : Array Value} {below : List Frame} {meth : Method} {c : Code} {H : Heap} {locs : List Loc} {cells slots : Nat} {Q : State → Prop}
variable {cc : ByteArray} {pc : Nat} {ls : Array Slot} {rest : List Value} {D : va_G} {cl : List vw_C} {A : Nat → Prop} {tys : List (ClassId × FieldType)} {H0 : Heap} {Rl : List Nat} {ad : Nat → Nat} {g : Nat → va_E}
theorem rl_get (hexec : p.tables.exec = Jvm.exec) (hb : c.code = cc) {own ref C : String} {T : u_T} {N ci index r : Nat} {Ts : List Cond} (hts : ∀ w ∈ Ts, w.before args s = true) (hin : ∀ w ∈ u_ws C T N, w ∈ Ts) (hown : s.vm.findClass own = some m.cls) (hK : va_K D cl tys s) (hP : va_P D cl (rl_w Rl ad g) H) (hr : r ∈ Rl) {fs : List Value} (hg : g r = .inr (ci, fs)) (hc : cl[ci]? = some (C, T, N)) (k : Nat) (hk : k < N) (hlink : (Cond.fieldLink own index ref (T k).2.1 (T k).2.2.1) ∈ Ts) (hsame : ∀ x, s.fieldFound? (T k).1 (T k).2.1 (T k).2.2.1 = some x → s.fieldFound? ref (T k).2.1 (T k).2.2.1 = some x) {v : Value} (hv : fs[k]? = some v) (hdg : decode cc pc = .ok (.getfield index, 3))
    (kk : W p l e R s m args below meth c H locs cells slots Q (F0 m (pc + 3) ls (v :: rest))) : W p l e R s m args below meth c H locs cells slots Q (F0 m pc ls (.ref (ad r) :: rest)) := by
  obtain ⟨j, hj, hj'⟩ := rl_at (ad := ad) (g := g) hr
  rw [hg] at hj'
  exact va_get hexec hb hts hin hown hK hP j hj' hc k hk (hts _ hlink) hsame hv hdg kk
theorem rl_put (hexec : p.tables.exec = Jvm.exec) (hb : c.code = cc) {own ref C : String} {T : u_T} {N ci index r : Nat} {Ts : List Cond} (hts : ∀ w ∈ Ts, w.before args s = true) (hin : ∀ w ∈ u_ws C T N, w ∈ Ts) (ty0 : Nat → FieldType) (hty : ∀ k, k < N → parseFieldDescriptor (T k).2.2.1 = some (ty0 k)) (hnm : ∀ a, a < N → ∀ b, b < N → a ≠ b → (T a).2.1 ≠ (T b).2.1) (hown : s.vm.findClass own = some m.cls) (hK : va_K D cl tys s) (hP : va_P D cl (rl_w Rl ad g) H) (hD : va_D A (rl_w Rl ad g)) (hS0 : va_S A H0 H locs) (hr : r ∈ Rl) {fs : List Value} (hg : g r = .inr (ci, fs)) (hc : cl[ci]? = some (C, T, N)) (k : Nat) (hk : k < N) (hlink : (Cond.fieldLink own index ref (T k).2.1 (T k).2.2.1) ∈ Ts) (hsame : ∀ x, s.fieldFound? (T k).1 (T k).2.1 (T k).2.2.1 = some x → s.fieldFound? ref (T k).2.1 (T k).2.2.1 = some x) (hfin : (T k).2.2.2 = false) {ty : FieldType} {v : Value} (hd : parseFieldDescriptor (T k).2.2.1 = some ty) (hn : narrow ty v = v) (hfit : fits ty v = true) (hl : k < fs.length) (hdg : decode cc pc = .ok (.putfield index, 3))
    (kk : ∀ (H1 : Heap) (locs1 : List Loc), va_P D cl (rl_w Rl ad (va_up g r (.inr (ci, fs.set k v)))) H1 → va_D A (rl_w Rl ad (va_up g r (.inr (ci, fs.set k v)))) → va_S A H0 H1 locs1 → W p l e R s m args below meth c H1 locs1 cells slots Q (F0 m (pc + 3) ls rest)) : W p l e R s m args below meth c H locs cells slots Q (F0 m pc ls (v :: .ref (ad r) :: rest)) := by
  obtain ⟨j, hj, hj'⟩ := rl_at (ad := ad) (g := g) hr
  rw [hg] at hj'
  refine va_put hexec hb hts hin ty0 hty hnm hown hK hP hD hS0 j hj' hc k hk (hts _ hlink) hsame hfin hd hn hfit hl hdg (fun H1 l1 h1 h2 h3 => ?_)
  rw [rl_set hD hj] at h1 h2
  exact kk H1 l1 h1 h2 h3
theorem rl_putF (hexec : p.tables.exec = Jvm.exec) (hb : c.code = cc) {own ref C : String} {T : u_T} {N ci index r : Nat} {Ts : List Cond} (hts : ∀ w ∈ Ts, w.before args s = true) (hin : ∀ w ∈ u_ws C T N, w ∈ Ts) (ty0 : Nat → FieldType) (hty : ∀ k, k < N → parseFieldDescriptor (T k).2.2.1 = some (ty0 k)) (hnm : ∀ a, a < N → ∀ b, b < N → a ≠ b → (T a).2.1 ≠ (T b).2.1) (hown : s.vm.findClass own = some m.cls) (hK : va_K D cl tys s) (hP : va_P D cl (rl_w Rl ad g) H) (hD : va_D A (rl_w Rl ad g)) (hS0 : va_S A H0 H locs) (hr : r ∈ Rl) {fs : List Value} (hg : g r = .inr (ci, fs)) (hc : cl[ci]? = some (C, T, N)) (k : Nat) (hk : k < N) (hlink : (Cond.fieldLink own index ref (T k).2.1 (T k).2.2.1) ∈ Ts) (hsame : ∀ x, s.fieldFound? (T k).1 (T k).2.1 (T k).2.2.1 = some x → s.fieldFound? ref (T k).2.1 (T k).2.2.1 = some x) (hfin : (T k).2.2.2 = true) (hin2 : meth.name = "<init>") (hdecl : (T k).1 = own) {ty : FieldType} {v : Value} (hd : parseFieldDescriptor (T k).2.2.1 = some ty) (hn : narrow ty v = v) (hfit : fits ty v = true) (hl : k < fs.length) (hdg : decode cc pc = .ok (.putfield index, 3))
    (kk : ∀ (H1 : Heap) (locs1 : List Loc), va_P D cl (rl_w Rl ad (va_up g r (.inr (ci, fs.set k v)))) H1 → va_D A (rl_w Rl ad (va_up g r (.inr (ci, fs.set k v)))) → va_S A H0 H1 locs1 → W p l e R s m args below meth c H1 locs1 cells slots Q (F0 m (pc + 3) ls rest)) : W p l e R s m args below meth c H locs cells slots Q (F0 m pc ls (v :: .ref (ad r) :: rest)) := by
  obtain ⟨j, hj, hj'⟩ := rl_at (ad := ad) (g := g) hr
  rw [hg] at hj'
  refine va_putF hexec hb hts hin ty0 hty hnm hown hK hP hD hS0 j hj' hc k hk (hts _ hlink) hsame hfin hin2 hdecl hd hn hfit hl hdg (fun H1 l1 h1 h2 h3 => ?_)
  rw [rl_set hD hj] at h1 h2
  exact kk H1 l1 h1 h2 h3
theorem rl_iald (hexec : p.tables.exec = Jvm.exec) (hb : c.code = cc) (hK : va_K D cl tys s) (hP : va_P D cl (rl_w Rl ad g) H) {r : Nat} (hr : r ∈ Rl) (t0 : Nat) {cA : ClassId} {n : Nat} {f : Nat → Int32} (hg : g r = .inl (cA, n, .inl f)) (ht : tys[t0]? = some (cA, .int)) {i : Int32} (hin : vp_in i n) (hdg : decode cc pc = .ok (.iaload, 1))
    (kk : W p l e R s m args below meth c H locs cells slots Q (F0 m (pc + 1) ls (.int (f i.toNatClampNeg) :: rest))) : W p l e R s m args below meth c H locs cells slots Q (F0 m pc ls (.int i :: .ref (ad r) :: rest)) := by
  obtain ⟨j, hj, hj'⟩ := rl_at (ad := ad) (g := g) hr
  rw [hg] at hj'
  exact va_iald hexec hb hK hP j t0 hj' ht hin hdg kk
theorem rl_zald (hexec : p.tables.exec = Jvm.exec) (hb : c.code = cc) (hK : va_K D cl tys s) (hP : va_P D cl (rl_w Rl ad g) H) {r : Nat} (hr : r ∈ Rl) (t0 : Nat) {cA : ClassId} {n : Nat} {f : Nat → Int32} (hg : g r = .inl (cA, n, .inl f)) (ht : tys[t0]? = some (cA, .boolean)) {i : Int32} (hin : vp_in i n) (hdg : decode cc pc = .ok (.baload, 1))
    (kk : W p l e R s m args below meth c H locs cells slots Q (F0 m (pc + 1) ls (.int (f i.toNatClampNeg) :: rest))) : W p l e R s m args below meth c H locs cells slots Q (F0 m pc ls (.int i :: .ref (ad r) :: rest)) := by
  obtain ⟨j, hj, hj'⟩ := rl_at (ad := ad) (g := g) hr
  rw [hg] at hj'
  exact va_zald hexec hb hK hP j t0 hj' ht hin hdg kk
theorem rl_aldq (hexec : p.tables.exec = Jvm.exec) (hb : c.code = cc) (hK : va_K D cl tys s) (hP : va_P D cl (rl_w Rl ad g) H) {r : Nat} (hr : r ∈ Rl) (t0 : Nat) {cA : ClassId} {C : String} {n : Nat} {f : Nat → Option Nat} (hg : g r = .inl (cA, n, .inr (.inr (.inr (.inr f))))) (ht : tys[t0]? = some (cA, .object C)) {i : Int32} (hin : vp_in i n) (hdg : decode cc pc = .ok (.aaload, 1))
    (kk : W p l e R s m args below meth c H locs cells slots Q (F0 m (pc + 1) ls (va_rf (f i.toNatClampNeg) :: rest))) : W p l e R s m args below meth c H locs cells slots Q (F0 m pc ls (.int i :: .ref (ad r) :: rest)) := by
  obtain ⟨j, hj, hj'⟩ := rl_at (ad := ad) (g := g) hr
  rw [hg] at hj'
  exact va_aldq hexec hb hK hP j t0 hj' ht hin hdg kk
theorem rl_alen (hexec : p.tables.exec = Jvm.exec) (hb : c.code = cc) (hK : va_K D cl tys s) (hP : va_P D cl (rl_w Rl ad g) H) {r : Nat} (hr : r ∈ Rl) (t0 : Nat) {cA : ClassId} {x : vp_A} (hg : g r = .inl (cA, x)) {ty : FieldType} (ht : tys[t0]? = some (cA, ty)) {v : Int32} (hv : Int32.ofNat x.1 = v) (hdg : decode cc pc = .ok (.arraylength, 1))
    (kk : W p l e R s m args below meth c H locs cells slots Q (F0 m (pc + 1) ls (.int v :: rest))) : W p l e R s m args below meth c H locs cells slots Q (F0 m pc ls (.ref (ad r) :: rest)) := by
  obtain ⟨j, hj, hj'⟩ := rl_at (ad := ad) (g := g) hr
  rw [hg] at hj'
  exact va_alen hexec hb hK hP j t0 hj' ht hv hdg kk
theorem rl_iast (hexec : p.tables.exec = Jvm.exec) (hb : c.code = cc) (hK : va_K D cl tys s) (hP : va_P D cl (rl_w Rl ad g) H) (hD : va_D A (rl_w Rl ad g)) (hS : va_S A H0 H locs) {r : Nat} (hr : r ∈ Rl) (t0 : Nat) {cA : ClassId} {n : Nat} {f : Nat → Int32} (hg : g r = .inl (cA, n, .inl f)) (ht : tys[t0]? = some (cA, .int)) {i x : Int32} (hin : vp_in i n) (hdg : decode cc pc = .ok (.iastore, 1))
    (kk : ∀ (H1 : Heap) (locs1 : List Loc), va_P D cl (rl_w Rl ad (va_up g r (.inl (cA, n, .inl (upd f i.toNatClampNeg x))))) H1 → va_D A (rl_w Rl ad (va_up g r (.inl (cA, n, .inl (upd f i.toNatClampNeg x))))) → va_S A H0 H1 locs1 → W p l e R s m args below meth c H1 locs1 cells slots Q (F0 m (pc + 1) ls rest)) : W p l e R s m args below meth c H locs cells slots Q (F0 m pc ls (.int x :: .int i :: .ref (ad r) :: rest)) := by
  obtain ⟨j, hj, hj'⟩ := rl_at (ad := ad) (g := g) hr
  rw [hg] at hj'
  refine va_iast hexec hb hK hP hD hS j t0 hj' ht hin hdg (fun H1 l1 h1 h2 h3 => ?_)
  rw [rl_set hD hj] at h1 h2
  exact kk H1 l1 h1 h2 h3
theorem rl_zast (hexec : p.tables.exec = Jvm.exec) (hb : c.code = cc) (hK : va_K D cl tys s) (hP : va_P D cl (rl_w Rl ad g) H) (hD : va_D A (rl_w Rl ad g)) (hS : va_S A H0 H locs) {r : Nat} (hr : r ∈ Rl) (t0 : Nat) {cA : ClassId} {n : Nat} {f : Nat → Int32} (hg : g r = .inl (cA, n, .inl f)) (ht : tys[t0]? = some (cA, .boolean)) {i x : Int32} (hin : vp_in i n) (hdg : decode cc pc = .ok (.bastore, 1))
    (kk : ∀ (H1 : Heap) (locs1 : List Loc), va_P D cl (rl_w Rl ad (va_up g r (.inl (cA, n, .inl (upd f i.toNatClampNeg (vp_nar .boolean x)))))) H1 → va_D A (rl_w Rl ad (va_up g r (.inl (cA, n, .inl (upd f i.toNatClampNeg (vp_nar .boolean x)))))) → va_S A H0 H1 locs1 → W p l e R s m args below meth c H1 locs1 cells slots Q (F0 m (pc + 1) ls rest)) : W p l e R s m args below meth c H locs cells slots Q (F0 m pc ls (.int x :: .int i :: .ref (ad r) :: rest)) := by
  obtain ⟨j, hj, hj'⟩ := rl_at (ad := ad) (g := g) hr
  rw [hg] at hj'
  refine va_zast hexec hb hK hP hD hS j t0 hj' ht hin hdg (fun H1 l1 h1 h2 h3 => ?_)
  rw [rl_set hD hj] at h1 h2
  exact kk H1 l1 h1 h2 h3
theorem rl_astq (hexec : p.tables.exec = Jvm.exec) (hb : c.code = cc) (hK : va_K D cl tys s) (hP : va_P D cl (rl_w Rl ad g) H) (hD : va_D A (rl_w Rl ad g)) (hS : va_S A H0 H locs) {r : Nat} (hr : r ∈ Rl) (t0 : Nat) {E : String} {cA : ClassId} {n v : Nat} {f : Nat → Option Nat} (hg : g r = .inl (cA, n, .inr (.inr (.inr (.inr f))))) (ht : tys[t0]? = some (cA, .object E)) (hv : va_Any E s H v) {i : Int32} (hin : vp_in i n) (hdg : decode cc pc = .ok (.aastore, 1))
    (kk : ∀ (H1 : Heap) (locs1 : List Loc), va_P D cl (rl_w Rl ad (va_up g r (.inl (cA, n, .inr (.inr (.inr (.inr (va_up f i.toNatClampNeg (some v))))))))) H1 → va_D A (rl_w Rl ad (va_up g r (.inl (cA, n, .inr (.inr (.inr (.inr (va_up f i.toNatClampNeg (some v))))))))) → va_S A H0 H1 locs1 → W p l e R s m args below meth c H1 locs1 cells slots Q (F0 m (pc + 1) ls rest)) : W p l e R s m args below meth c H locs cells slots Q (F0 m pc ls (.ref v :: .int i :: .ref (ad r) :: rest)) := by
  obtain ⟨j, hj, hj'⟩ := rl_at (ad := ad) (g := g) hr
  rw [hg] at hj'
  refine va_astqM hexec hb hK hP hD hS j t0 hj' ht hv hin hdg (fun H1 l1 h1 h2 h3 => ?_)
  rw [rl_set hD hj] at h1 h2
  exact kk H1 l1 h1 h2 h3
theorem rl_recv {ci r : Nat} {q : vw_C} {fs : List Value} (hK : va_K D cl tys s) (hP : va_P D cl (rl_w Rl ad g) H) (hr : r ∈ Rl) (hg : g r = .inr (ci, fs)) (hc : cl[ci]? = some q) : ∃ cell : Cell, H[ad r]? = some cell ∧ cell.vm.isStatics = false ∧ s.vm.findClass q.1 = some cell.cls := by
  obtain ⟨j, hj, hj'⟩ := rl_at (ad := ad) (g := g) hr
  rw [hg] at hj'
  exact va_recv hK hP hc hj'
theorem rl_new {c0 : Code} (hexec : p.tables.exec = Jvm.exec) (hb : c0.code = cc) {own C : String} {T : u_T} {N ci index r : Nat} {Ts : List Cond} (hts : ∀ w ∈ Ts, w.before args s = true) (hin : ∀ w ∈ u_ws C T N, w ∈ Ts) (ty : Nat → FieldType) (hty : ∀ k, k < N → parseFieldDescriptor (T k).2.2.1 = some (ty k)) (hown : s.vm.findClass own = some m.cls) (hcl : (Cond.classLink own index C) ∈ Ts) (hinst : (Cond.instantiable C N) ∈ Ts) (hini : (Cond.initialized C) ∈ Ts)
    (hK : va_K D cl tys s) (hP : va_P D cl (rl_w Rl ad g) H) (hD : va_D A (rl_w Rl ad g)) (hS : va_S A H0 H locs) (hA : ∀ q, H0.size ≤ q → A q) (hc : cl[ci]? = some (C, T, N)) (hr : r ∉ Rl) {fs : List Value} (hfs : ∀ j, j < N → defaultValue (ty j) = vp_V fs j) (hcells : cells + 1 ≤ R.cells) (hslots : slots + N ≤ R.slots) (hdg : decode cc pc = .ok (.new index, 3))
    (kk : ∀ (q : Nat) (H1 : Heap), va_P D cl (rl_w (Rl ++ [r]) (va_up ad r q) (va_up g r (.inr (ci, fs)))) H1 → va_D A (rl_w (Rl ++ [r]) (va_up ad r q) (va_up g r (.inr (ci, fs)))) → va_S A H0 H1 locs →
      W p l e R s m args below meth c0 H1 locs (cells + 1) (slots + N) Q (F0 m (pc + 3) ls (.ref q :: rest))) : W p l e R s m args below meth c0 H locs cells slots Q (F0 m pc ls rest) := by
  refine va_new hexec hb hts hin ty hty hown (hts _ hcl) (hts _ hinst) (hts _ hini) hK hP hD hS hA hc hfs hcells hslots hdg (fun q H1 h1 h2 h3 => ?_)
  rw [rl_push hr] at h1 h2
  exact kk q H1 h1 h2 h3
end RL
