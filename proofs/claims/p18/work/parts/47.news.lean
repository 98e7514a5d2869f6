/-- a callee with the part B has run: the kept roles, the new ones -/
theorem rl_step {D : va_G} {cl : List vw_C} {Rl Rl' : List Nat} {ad ad' : Nat → Nat} {g g' : Nat → va_E} {A B : Nat → Prop} {H H1 : Heap} (K : Nat → Prop) (hP : va_P D cl (rl_w Rl ad g) H) (hD : va_D A (rl_w Rl ad g)) (hk : ∀ x : Nat, x < H.size → ¬ B x → H1[x]? = H[x]?) (hnd : Rl'.Nodup)
    (hK : ∀ r, r ∈ Rl' → K r → r ∈ Rl ∧ ad' r = ad r ∧ g' r = g r ∧ ¬ B (ad r)) (hN : ∀ r, r ∈ Rl' → ¬ K r → va_at D cl (ad' r, g' r) H1 ∧ B (ad' r)) (hNN : ∀ r, r ∈ Rl' → ∀ r', r' ∈ Rl' → ¬ K r → ¬ K r' → ad' r = ad' r' → r = r') (hB : ∀ x, B x → A x) : va_P D cl (rl_w Rl' ad' g') H1 ∧ va_D A (rl_w Rl' ad' g') := by
  constructor
  · refine rl_P_iff.mpr (fun r hr => ?_)
    by_cases h : K r
    · obtain ⟨h1, h2, h3, h4⟩ := hK r hr h
      have hat := rl_P_iff.mp hP r h1
      rw [h2, h3]
      exact hat.kept (hk _ hat.lt h4)
    · exact (hN r hr h).1
  · refine rl_D_of hnd (fun r hr r' hr' e => ?_) (fun r hr => ?_)
    · by_cases h : K r
      · obtain ⟨h1, h2, h3, h4⟩ := hK r hr h
        by_cases h' : K r'
        · obtain ⟨h1', h2', h3', h4'⟩ := hK r' hr' h'
          exact rl_D_inj hD h1 h1' (by rw [← h2, ← h2']; exact e)
        · have := (hN r' hr' h').2
          rw [← e, h2] at this
          exact absurd this h4
      · by_cases h' : K r'
        · obtain ⟨h1', h2', h3', h4'⟩ := hK r' hr' h'
          have := (hN r hr h).2
          rw [e, h2'] at this
          exact absurd this h4'
        · exact hNN r hr r' hr' h h' e
    · by_cases h : K r
      · obtain ⟨h1, h2, h3, h4⟩ := hK r hr h
        rw [h2]
        exact rl_D_in hD h1
      · exact hB _ (hN r hr h).2
/-- the state with a new sample nm of declaration d -/
def nwS (σ : Nat → Nat → Int32) (nm : Nat) (d x : Int32) : Nat → Nat → Int32 := fun k j => if k = 30 ∧ j = nm then d else if k = 31 ∧ j = nm then x else if k = 1000 + nm then flF (fun _ => 0) (-1) 4 j else if k = 2000 + nm then 0 else if k = 7 ∧ j = 1 then σ 7 1 + 1 else σ k j
section NWS
variable {σ : Nat → Nat → Int32} {nm : Nat} {d x : Int32}
theorem nwS_30 : nwS σ nm d x 30 nm = d := if_pos ⟨rfl, rfl⟩
theorem nwS_31 : nwS σ nm d x 31 nm = x := by
  unfold nwS
  rw [if_neg (by omega), if_pos ⟨rfl, rfl⟩]
theorem nwS_f : nwS σ nm d x (1000 + nm) = flF (fun _ => 0) (-1) 4 := funext fun j => by
  unfold nwS
  rw [if_neg (by omega), if_neg (by omega), if_pos rfl]
theorem nwS_s (h : nm < 100) : nwS σ nm d x (2000 + nm) = fun _ => 0 := funext fun j => by
  unfold nwS
  rw [if_neg (by omega), if_neg (by omega), if_neg (by omega), if_pos rfl]
theorem nwS_71 : nwS σ nm d x 7 1 = σ 7 1 + 1 := by
  unfold nwS
  rw [if_neg (by omega), if_neg (by omega), if_neg (by omega), if_neg (by omega), if_pos ⟨rfl, rfl⟩]
theorem nwS_70 : nwS σ nm d x 7 0 = σ 7 0 := by
  unfold nwS
  rw [if_neg (by omega), if_neg (by omega), if_neg (by omega), if_neg (by omega), if_neg (by omega)]
theorem nwS_k {k : Nat} (h7 : k ≠ 7) (h30 : k ≠ 30) (h31 : k ≠ 31) (h1 : k ≠ 1000 + nm) (h2 : k ≠ 2000 + nm) : nwS σ nm d x k = σ k := funext fun j => by
  unfold nwS
  rw [if_neg (by omega), if_neg (by omega), if_neg (by omega), if_neg (by omega), if_neg (by omega)]
theorem nwS_o {k j : Nat} (hk : k = 30 ∨ k = 31) (h : j ≠ nm) : nwS σ nm d x k j = σ k j := by
  unfold nwS
  rw [if_neg (by omega), if_neg (by omega), if_neg (by omega), if_neg (by omega), if_neg (by omega)]
end NWS
theorem RC_newS {n nm : Nat} (hn : n ≤ 30) (hm : nm < 40) : 200 + nm ∉ RC n nm ∧ 300 + nm ∉ RC n nm ∧ 400 + nm ∉ RC n nm := by
  refine ⟨fun hr => ?_, fun hr => ?_, fun hr => ?_⟩ <;> (rcases RC_is hr with h | ⟨d, hd, h⟩ | ⟨-, h⟩ | ⟨-, h⟩ | ⟨i, hi, h⟩ | ⟨i, hi, h⟩ | ⟨i, hi, h⟩ | ⟨i, hi, h⟩ <;> first | omega | (simp only [List.mem_cons, List.not_mem_nil, or_false] at h; omega))
abbrev RS (n nm : Nat) : List Nat := RC n nm ++ [200 + nm, 300 + nm, 400 + nm]
theorem RS_nodup {n nm : Nat} (hn : n ≤ 30) (hm : nm < 40) : (RS n nm).Nodup := by
  have h := RC_newS hn hm
  refine List.nodup_append.mpr ⟨RC_nodup hn (by omega), ?_, fun a ha b hb e => ?_⟩
  · simp
  · simp only [List.mem_cons, List.not_mem_nil, or_false] at hb
    rcases hb with rfl | rfl | rfl
    · exact h.1 (e ▸ ha)
    · exact h.2.1 (e ▸ ha)
    · exact h.2.2 (e ▸ ha)
def adS (ad : Nat → Nat) (nm q q1 q2 : Nat) : Nat → Nat := va_up (va_up (va_up ad (200 + nm) q) (300 + nm) q1) (400 + nm) q2
theorem adS_o {ad : Nat → Nat} {nm q q1 q2 r : Nat} (h1 : r ≠ 200 + nm) (h2 : r ≠ 300 + nm) (h3 : r ≠ 400 + nm) : adS ad nm q q1 q2 r = ad r := by
  unfold adS
  rw [va_up_ne _ _ h3, va_up_ne _ _ h2, va_up_ne _ _ h1]
theorem adS_2 {ad : Nat → Nat} {nm q q1 q2 : Nat} : adS ad nm q q1 q2 (200 + nm) = q := by
  unfold adS
  rw [va_up_ne _ _ (by omega), va_up_ne _ _ (by omega), va_up_self]
theorem adS_3 {ad : Nat → Nat} {nm q q1 q2 : Nat} : adS ad nm q q1 q2 (300 + nm) = q1 := by
  unfold adS
  rw [va_up_ne _ _ (by omega), va_up_self]
theorem adS_4 {ad : Nat → Nat} {nm q q1 q2 : Nat} : adS ad nm q q1 q2 (400 + nm) = q2 := by
  unfold adS
  rw [va_up_self]
def gS (cs : Nat → ClassId) (g : Nat → va_E) (nm q1 q2 : Nat) (d x : Int32) : Nat → va_E := va_up (va_up (va_up g (200 + nm) (.inr (3, [.int d, .int x, .ref q1, .ref q2]))) (300 + nm) (arI (cs 0) 4 (flF (fun _ => 0) (-1) 4))) (400 + nm) (arI (cs 1) 4 (fun _ => 0))
theorem gS_o {cs : Nat → ClassId} {g : Nat → va_E} {nm q1 q2 r : Nat} {d x : Int32} (h1 : r ≠ 200 + nm) (h2 : r ≠ 300 + nm) (h3 : r ≠ 400 + nm) : gS cs g nm q1 q2 d x r = g r := by
  unfold gS
  rw [va_up_ne _ _ h3, va_up_ne _ _ h2, va_up_ne _ _ h1]
theorem gS_2 {cs : Nat → ClassId} {g : Nat → va_E} {nm q1 q2 : Nat} {d x : Int32} : gS cs g nm q1 q2 d x (200 + nm) = .inr (3, [.int d, .int x, .ref q1, .ref q2]) := by
  unfold gS
  rw [va_up_ne _ _ (by omega), va_up_ne _ _ (by omega), va_up_self]
theorem gS_3 {cs : Nat → ClassId} {g : Nat → va_E} {nm q1 q2 : Nat} {d x : Int32} : gS cs g nm q1 q2 d x (300 + nm) = arI (cs 0) 4 (flF (fun _ => 0) (-1) 4) := by
  unfold gS
  rw [va_up_ne _ _ (by omega), va_up_self]
theorem gS_4 {cs : Nat → ClassId} {g : Nat → va_E} {nm q1 q2 : Nat} {d x : Int32} : gS cs g nm q1 q2 d x (400 + nm) = arI (cs 1) 4 (fun _ => 0) := by
  unfold gS
  rw [va_up_self]
theorem A1_in {a x sz : Nat} {c : va_E} (h : va_A [(a, c)] sz x) : x = a ∨ sz ≤ x := by
  rcases h with ⟨i, y, h⟩ | h
  · have h3 := (List.getElem?_eq_some_iff.mp h).1
    simp at h3
    subst h3
    cases h
    exact Or.inl rfl
  · exact Or.inr h
section ADS
variable {D : va_G} {cs : Nat → ClassId} {ad : Nat → Nat} {σ : Nat → Nat → Int32} {n nm ci cj E : Nat} {A : Nat → Prop} {H H1 : Heap} {q q1 q2 e' cap' : Nat} {d x : Int32} {Z : va_E}
/-- behind Sample's constructor -/
theorem wS_init (hn : n ≤ 30) (hm : nm < 40) (hP : va_P D cls_ (rl_w (RC n nm ++ [200 + nm]) (va_up ad (200 + nm) q) (va_up (gC cs ad σ n nm ci cj E) (200 + nm) Z)) H) (hD : va_D A (rl_w (RC n nm ++ [200 + nm]) (va_up ad (200 + nm) q) (va_up (gC cs ad σ n nm ci cj E) (200 + nm) Z)))
    (hk : ∀ y : Nat, y < H.size → ¬ va_A [(q, Z)] H.size y → H1[y]? = H[y]?)
    (hP1 : va_P D cls_ [(q, .inr (3, [.int d, .int x, .ref q1, .ref q2])), (q1, arI (cs 0) 4 (flF (fun _ => 0) (-1) 4)), (q2, arI (cs 1) 4 (fun _ => 0))] H1) (hD1 : va_D (va_A [(q, Z)] H.size) [(q, .inr (3, [.int d, .int x, .ref q1, .ref q2])), (q1, arI (cs 0) 4 (flF (fun _ => 0) (-1) 4)), (q2, arI (cs 1) 4 (fun _ => 0))]) (hB : ∀ y, va_A [(q, Z)] H.size y → A y) :
    va_P D cls_ (rl_w (RS n nm) (adS ad nm q q1 q2) (gS cs (gC cs ad σ n nm ci cj E) nm q1 q2 d x)) H1 ∧ va_D A (rl_w (RS n nm) (adS ad nm q q1 q2) (gS cs (gC cs ad σ n nm ci cj E) nm q1 q2 d x)) := by
  have hnew := RC_newS hn hm
  have inq : 200 + nm ∈ RC n nm ++ [200 + nm] := List.mem_append_right _ (List.mem_singleton.mpr rfl)
  refine rl_step (fun r => r ∈ RC n nm) hP hD hk (RS_nodup hn hm) (fun r hr hK => ?_) (fun r hr hK => ?_) (fun r hr r' hr' hK hK' e => ?_) hB
  · have h2 : r ≠ 200 + nm := fun z => hnew.1 (z ▸ hK)
    have h3 : r ≠ 300 + nm := fun z => hnew.2.1 (z ▸ hK)
    have h4 : r ≠ 400 + nm := fun z => hnew.2.2 (z ▸ hK)
    have hin := List.mem_append_left [200 + nm] hK
    refine ⟨hin, ?_, ?_, fun hb => ?_⟩
    · rw [adS_o h2 h3 h4, va_up_ne _ _ h2]
    · rw [gS_o h2 h3 h4, va_up_ne _ _ h2]
    · rcases A1_in hb with h | h
      · exact h2 (rl_D_inj hD hin inq (by rw [va_up_self]; exact h))
      · exact absurd (rl_P_iff.mp hP r hin).lt (Nat.not_lt.mpr h)
  · rcases List.mem_append.mp hr with h | h
    · exact absurd h hK
    · simp only [List.mem_cons, List.not_mem_nil, or_false] at h
      rcases h with rfl | rfl | rfl
      · rw [adS_2, gS_2]
        exact ⟨hP1 0 _ rfl, hD1.2 0 _ rfl⟩
      · rw [adS_3, gS_3]
        exact ⟨hP1 1 _ rfl, hD1.2 1 _ rfl⟩
      · rw [adS_4, gS_4]
        exact ⟨hP1 2 _ rfl, hD1.2 2 _ rfl⟩
  · have c1 : r = 200 + nm ∨ r = 300 + nm ∨ r = 400 + nm := by
      rcases List.mem_append.mp hr with h | h
      · exact absurd h hK
      · simpa using h
    have c2 : r' = 200 + nm ∨ r' = 300 + nm ∨ r' = 400 + nm := by
      rcases List.mem_append.mp hr' with h | h
      · exact absurd h hK'
      · simpa using h
    rcases c1 with rfl | rfl | rfl <;> rcases c2 with rfl | rfl | rfl <;> first | rfl | (rw [adS_2, adS_3] at e; have := hD1.1 0 1 _ _ rfl rfl e; omega) | (rw [adS_2, adS_4] at e; have := hD1.1 0 2 _ _ rfl rfl e; omega) | (rw [adS_3, adS_2] at e; have := hD1.1 1 0 _ _ rfl rfl e; omega) | (rw [adS_3, adS_4] at e; have := hD1.1 1 2 _ _ rfl rfl e; omega) | (rw [adS_4, adS_2] at e; have := hD1.1 2 0 _ _ rfl rfl e; omega) | (rw [adS_4, adS_3] at e; have := hD1.1 2 1 _ _ rfl rfl e; omega)
theorem gC_newS (hn : n ≤ 30) (hm : nm < 40) {r : Nat} (hr : r ∈ RC n (nm + 1)) (h2 : r ≠ 2) (h4 : r ≠ 4) : gC cs (va_up (adS ad nm q q1 q2) 4 e') (nwS σ nm d x) n (nm + 1) ci cap' E r = gS cs (gC cs ad σ n nm ci cj E) nm q1 q2 d x r := by
  have hu : ∀ y, y ≠ 4 → y ≠ 200 + nm → y ≠ 300 + nm → y ≠ 400 + nm → va_up (adS ad nm q q1 q2) 4 e' y = ad y := fun y h h1 h2 h3 => by rw [va_up_ne _ _ h, adS_o h1 h2 h3]
  rcases RC_is hr with h | ⟨d', hd, rfl⟩ | ⟨-, rfl⟩ | ⟨-, rfl⟩ | ⟨i, hi, rfl⟩ | ⟨i, hi, rfl⟩ | ⟨i, hi, rfl⟩ | ⟨i, hi, rfl⟩
  · have hs : r ≠ 200 + nm ∧ r ≠ 300 + nm ∧ r ≠ 400 + nm := by
      simp only [List.mem_cons, List.not_mem_nil, or_false] at h
      omega
    rw [gS_o hs.1 hs.2.1 hs.2.2]
    simp only [List.mem_cons, List.not_mem_nil, or_false] at h
    rcases h with rfl | rfl | rfl | rfl | rfl | rfl | rfl | rfl | rfl | rfl
    · rw [gC_0, gC_0, nwS_k (by omega) (by omega) (by omega) (by omega) (by omega), hu 1 (by omega) (by omega) (by omega) (by omega), hu 2 (by omega) (by omega) (by omega) (by omega), hu 5 (by omega) (by omega) (by omega) (by omega), hu 6 (by omega) (by omega) (by omega) (by omega), hu 7 (by omega) (by omega) (by omega) (by omega), hu 8 (by omega) (by omega) (by omega) (by omega), hu 9 (by omega) (by omega) (by omega) (by omega), hu 10 (by omega) (by omega) (by omega) (by omega), hu 11 (by omega) (by omega) (by omega) (by omega)]
    · rw [gC_1', gC_1', hu 3 (by omega) (by omega) (by omega) (by omega), nwS_70]
    · exact absurd rfl h2
    · rw [gC_5, gC_5, nwS_k (by omega) (by omega) (by omega) (by omega) (by omega)]
    · rw [gC_6, gC_6, nwS_k (by omega) (by omega) (by omega) (by omega) (by omega)]
    · rw [gC_7, gC_7, nwS_k (by omega) (by omega) (by omega) (by omega) (by omega)]
    · rw [gC_8, gC_8, nwS_k (by omega) (by omega) (by omega) (by omega) (by omega)]
    · rw [gC_9, gC_9, rowsF_o (fun j hj => hu _ (by omega) (by omega) (by omega) (by omega))]
    · rw [gC_10, gC_10, nwS_k (by omega) (by omega) (by omega) (by omega) (by omega)]
    · rw [gC_11, gC_11, nwS_k (by omega) (by omega) (by omega) (by omega) (by omega)]
  · rw [gS_o (by omega) (by omega) (by omega), gC_row hd, gC_row hd, nwS_k (by omega) (by omega) (by omega) (by omega) (by omega)]
  · rw [gS_o (by omega) (by omega) (by omega), gC_3, gC_3, rowsF_o (fun j hj => hu _ (by omega) (by omega) (by omega) (by omega))]
  · exact absurd rfl h4
  · rw [gS_o (by omega) (by omega) (by omega), gC_ins (by omega), gC_ins (by omega)]
    simp only [insF]
    rw [nwS_k (k := 20) (by omega) (by omega) (by omega) (by omega) (by omega), nwS_k (k := 21) (by omega) (by omega) (by omega) (by omega) (by omega), nwS_k (k := 22) (by omega) (by omega) (by omega) (by omega) (by omega), nwS_k (k := 23) (by omega) (by omega) (by omega) (by omega) (by omega), nwS_k (k := 24) (by omega) (by omega) (by omega) (by omega) (by omega), nwS_k (k := 25) (by omega) (by omega) (by omega) (by omega) (by omega), nwS_k (k := 26) (by omega) (by omega) (by omega) (by omega) (by omega), nwS_k (k := 27) (by omega) (by omega) (by omega) (by omega) (by omega), nwS_k (k := 28) (by omega) (by omega) (by omega) (by omega) (by omega), nwS_k (k := 29) (by omega) (by omega) (by omega) (by omega) (by omega)]
  · rw [gC_sam (by omega)]
    by_cases e : i = nm
    · subst e
      rw [gS_2]
      simp only [samF]
      rw [nwS_30, nwS_31, va_up_ne _ _ (by omega), va_up_ne _ _ (by omega), adS_3, adS_4]
    · rw [gS_o (by omega) (by omega) (by omega), gC_sam (by omega)]
      simp only [samF]
      rw [nwS_o (Or.inl rfl) e, nwS_o (Or.inr rfl) e, hu _ (by omega) (by omega) (by omega) (by omega), hu _ (by omega) (by omega) (by omega) (by omega)]
  · rw [gC_fou (by omega)]
    by_cases e : i = nm
    · subst e
      rw [gS_3, nwS_f]
    · rw [gS_o (by omega) (by omega) (by omega), gC_fou (by omega), nwS_k (by omega) (by omega) (by omega) (by omega) (by omega)]
  · rw [gC_set (by omega)]
    by_cases e : i = nm
    · subst e
      rw [gS_4, nwS_s (by omega)]
    · rw [gS_o (by omega) (by omega) (by omega), gC_set (by omega), nwS_k (by omega) (by omega) (by omega) (by omega) (by omega)]
theorem RS_of (hn : n ≤ 30) (hm : nm < 40) {r : Nat} (hr : r ∈ RC n (nm + 1)) (h4 : r ≠ 4) : r ∈ RS n nm := by
  rcases RC_is hr with h | ⟨d, hd, rfl⟩ | ⟨h0, rfl⟩ | ⟨-, rfl⟩ | ⟨i, hi, rfl⟩ | ⟨i, hi, rfl⟩ | ⟨i, hi, rfl⟩ | ⟨i, hi, rfl⟩
  · exact List.mem_append_left _ (RC_f h)
  · exact List.mem_append_left _ (RC_row hd)
  · exact List.mem_append_left _ (RC_3 (by omega))
  · exact absurd rfl h4
  · exact List.mem_append_left _ (RC_ins hi)
  · by_cases e : i = nm
    · subst e
      exact List.mem_append_right _ (by simp)
    · exact List.mem_append_left _ (RC_sam (by omega))
  · by_cases e : i = nm
    · subst e
      exact List.mem_append_right _ (by simp)
    · exact List.mem_append_left _ (RC_fou (by omega))
  · by_cases e : i = nm
    · subst e
      exact List.mem_append_right _ (by simp)
    · exact List.mem_append_left _ (RC_set (by omega))
/-- behind the list's add -/
theorem wC_addS (hn : n ≤ 30) (hm : nm < 40)
    (hP : va_P D cls_ (rl_w (RS n nm) (adS ad nm q q1 q2) (gS cs (gC cs ad σ n nm ci cj E) nm q1 q2 d x)) H) (hD : va_D A (rl_w (RS n nm) (adS ad nm q q1 q2) (gS cs (gC cs ad σ n nm ci cj E) nm q1 q2 d x)))
    (hk : ∀ y : Nat, y < H.size → ¬ va_A (adW cs (ad 2) (ad 4) nm cj E (σ 7 1) (rowsF 200 nm ad)) H.size y → H1[y]? = H[y]?)
    (hP1 : va_P D cls_ [(ad 2, .inr (0, [.ref e', .int (nI (nm + 1)), .int (σ 7 1 + 1)])), (e', ar_O cs cap' (va_up (rowsF 200 nm ad) nm (some q)))] H1)
    (hD1 : va_D (va_A (adW cs (ad 2) (ad 4) nm cj E (σ 7 1) (rowsF 200 nm ad)) H.size) [(ad 2, .inr (0, [.ref e', .int (nI (nm + 1)), .int (σ 7 1 + 1)])), (e', ar_O cs cap' (va_up (rowsF 200 nm ad) nm (some q)))])
    (hFc : ∀ y, va_A (adW cs (ad 2) (ad 4) nm cj E (σ 7 1) (rowsF 200 nm ad)) H.size y → A y) :
    va_P D cls_ (wC cs (va_up (adS ad nm q q1 q2) 4 e') (nwS σ nm d x) n (nm + 1) ci cap' E) H1 ∧ va_D A (wC cs (va_up (adS ad nm q q1 q2) 4 e') (nwS σ nm d x) n (nm + 1) ci cap' E) := by
  have o : ∀ y, y < 100 → adS ad nm q q1 q2 y = ad y := fun y h => adS_o (by omega) (by omega) (by omega)
  have m2 : (2 : Nat) ∈ RS n nm := List.mem_append_left _ (RC_f (by decide))
  have m4 : ¬ nm = 0 → (4 : Nat) ∈ RS n nm := fun h => List.mem_append_left _ (RC_4 (by omega))
  refine rl_step (fun r => r ≠ 2 ∧ r ≠ 4) hP hD hk (RC_nodup hn (by omega)) (fun r hr hK => ?_) (fun r hr hK => ?_) (fun r hr r' hr' hK hK' e => ?_) hFc
  · have hin := RS_of hn hm hr hK.2
    refine ⟨hin, va_up_ne _ _ hK.2, gC_newS hn hm hr hK.1 hK.2, fun hb => ?_⟩
    rcases adW_in hb with h | ⟨h0, h⟩ | h
    · exact hK.1 (rl_D_inj hD hin m2 (by rw [o 2 (by omega)]; exact h))
    · exact hK.2 (rl_D_inj hD hin (m4 h0) (by rw [o 4 (by omega)]; exact h))
    · exact absurd (rl_P_iff.mp hP r hin).lt (Nat.not_lt.mpr h)
  · have hc : r = 2 ∨ r = 4 := by
      by_cases h2 : r = 2
      · exact Or.inl h2
      · exact Or.inr (Classical.not_not.mp (fun h4 => hK ⟨h2, h4⟩))
    rcases hc with rfl | rfl
    · rw [va_up_ne _ _ (by omega), o 2 (by omega), gC_2 (by omega), nwS_71, va_up_self]
      exact ⟨hP1 0 _ rfl, hD1.2 0 _ rfl⟩
    · rw [va_up_self, gC_4, show rowsF 200 (nm + 1) (va_up (adS ad nm q q1 q2) 4 e') = va_up (rowsF 200 nm ad) nm (some q) from by
        rw [rowsF_up (n := nm) (q := q) (ad := ad) 4 e' (fun j hj => by omega)]
        refine rowsF_o (fun j hj => ?_)
        rw [va_up_ne _ _ (by omega), va_up_ne _ _ (by omega)]
        unfold adS
        rw [va_up_ne _ _ (by omega), va_up_ne _ _ (by omega)]]
      exact ⟨hP1 1 _ rfl, hD1.2 1 _ rfl⟩
  · have hc : r = 2 ∨ r = 4 := by
      by_cases h2 : r = 2
      · exact Or.inl h2
      · exact Or.inr (Classical.not_not.mp (fun h4 => hK ⟨h2, h4⟩))
    have hc' : r' = 2 ∨ r' = 4 := by
      by_cases h2 : r' = 2
      · exact Or.inl h2
      · exact Or.inr (Classical.not_not.mp (fun h4 => hK' ⟨h2, h4⟩))
    have e2 : va_up (adS ad nm q q1 q2) 4 e' 2 = ad 2 := by rw [va_up_ne _ _ (by omega), o 2 (by omega)]
    have e4 : va_up (adS ad nm q q1 q2) 4 e' 4 = e' := va_up_self _ _ _
    rcases hc with rfl | rfl <;> rcases hc' with rfl | rfl
    · rfl
    · rw [e2, e4] at e
      have := hD1.1 0 1 _ _ rfl rfl e
      omega
    · rw [e2, e4] at e
      have := hD1.1 1 0 _ _ rfl rfl e
      omega
    · rfl
theorem adS_pre {H0 : Heap} {locs : List Loc} {s : State} (hn : n ≤ 30) (hm : nm < 40) (hK : va_K D cls_ (tys_ cs) s) (hg : va_Nw (.castable R_S ob_N) s)
    (hP : va_P D cls_ (rl_w (RS n nm) (adS ad nm q q1 q2) (gS cs (gC cs ad σ n nm ci cj E) nm q1 q2 d x)) H) (hD : va_D A (rl_w (RS n nm) (adS ad nm q q1 q2) (gS cs (gC cs ad σ n nm ci cj E) nm q1 q2 d x))) (hS : va_S A H0 H locs) (hA : ∀ y, H0.size ≤ y → A y) :
    va_P D cls_ (adW cs (ad 2) (ad 4) nm cj E (σ 7 1) (rowsF 200 nm ad)) H ∧ va_D (fun _ => True) (adW cs (ad 2) (ad 4) nm cj E (σ 7 1) (rowsF 200 nm ad)) ∧ (∀ y, va_A (adW cs (ad 2) (ad 4) nm cj E (σ 7 1) (rowsF 200 nm ad)) H.size y → A y) ∧ (q ≠ ad 2 ∧ (¬ nm = 0 → q ≠ ad 4) ∧ va_Any ob_N s H q) ∧ ∀ i y, i < nm → rowsF 200 nm ad i = some y → y ≠ ad 4 ∧ y ≠ ad 2 ∧ va_Any ob_N s H y := by
  have hPm := rl_P_iff.mp hP
  have hnew := RC_newS hn hm
  have ns : ∀ r, r ∈ RC n nm → r ≠ 200 + nm ∧ r ≠ 300 + nm ∧ r ≠ 400 + nm := fun r hr => ⟨fun z => hnew.1 (z ▸ hr), fun z => hnew.2.1 (z ▸ hr), fun z => hnew.2.2 (z ▸ hr)⟩
  have adr : ∀ r, r ∈ RC n nm → adS ad nm q q1 q2 r = ad r := fun r hr => adS_o (ns r hr).1 (ns r hr).2.1 (ns r hr).2.2
  have inl : ∀ r, r ∈ RC n nm → r ∈ RS n nm := fun r hr => List.mem_append_left _ hr
  have inr : 200 + nm ∈ RS n nm := List.mem_append_right _ (by simp)
  have hat : ∀ r, r ∈ RC n nm → va_at D cls_ (ad r, gC cs ad σ n nm ci cj E r) H := fun r hr => by
    have h := hPm r (inl r hr)
    rw [adr r hr, gS_o (ns r hr).1 (ns r hr).2.1 (ns r hr).2.2] at h
    exact h
  have hatq : va_at D cls_ (q, .inr (3, [.int d, .int x, .ref q1, .ref q2])) H := by
    have h := hPm _ inr
    rw [adS_2, gS_2] at h
    exact h
  have hinj : ∀ r, r ∈ RC n nm → ∀ r', r' ∈ RC n nm → ad r = ad r' → r = r' := fun r hr r' hr' e => rl_D_inj hD (inl r hr) (inl r' hr') (by rw [adr r hr, adr r' hr']; exact e)
  have hqne : ∀ r, r ∈ RC n nm → q ≠ ad r := fun r hr e => (ns r hr).1 (rl_D_inj hD (inl r hr) inr (by rw [adr r hr, adS_2]; exact e.symm))
  have r2 : (2 : Nat) ∈ RC n nm := RC_f (by decide)
  have hA2 : A (ad 2) := by
    have := rl_D_in hD (inl 2 r2)
    rw [adr 2 r2] at this
    exact this
  have h1 := hat 2 r2
  rw [gC_2'] at h1
  refine ⟨?_, ?_, ?_, ⟨hqne 2 r2, fun h0 => hqne 4 (RC_4 (by omega)), obj_Any hK hatq rfl hg⟩, fun i y hi hy => ?_⟩
  · by_cases h0 : nm = 0
    · subst h0
      rw [adW_0]
      intro k z hk
      have h3 := (List.getElem?_eq_some_iff.mp hk).1
      simp at h3
      subst h3
      cases hk
      exact h1
    · rw [adW_p h0]
      have h3 := hat 4 (RC_4 (by omega))
      rw [gC_4] at h3
      rw [if_neg h0] at h1
      intro k z hk
      match k, hk with
      | 0, hk => cases hk; exact h1
      | 1, hk => cases hk; exact h3
      | _ + 2, hk => cases hk
  · by_cases h0 : nm = 0
    · subst h0
      rw [adW_0]
      exact va_D1
    · rw [adW_p h0]
      refine ⟨fun i j y z hx hy e => ?_, fun _ _ _ => trivial⟩
      match i, hx, j, hy with
      | 0, hx, 0, hy => rfl
      | 1, hx, 1, hy => rfl
      | 0, hx, 1, hy =>
        cases hx
        cases hy
        have := hinj 2 r2 4 (RC_4 (by omega)) e
        omega
      | 1, hx, 0, hy =>
        cases hx
        cases hy
        have := hinj 4 (RC_4 (by omega)) 2 r2 e
        omega
      | _ + 2, hx, _, _ => cases hx
      | _, _, _ + 2, hy => cases hy
  · intro y hy
    rcases adW_in hy with h | ⟨h0, h⟩ | h
    · rw [h]
      exact hA2
    · rw [h]
      have := rl_D_in hD (inl 4 (RC_4 (by omega)))
      rw [adr 4 (RC_4 (by omega))] at this
      exact this
    · exact hA y (Nat.le_trans hS.1 h)
  · have hm9 : 200 + i ∈ RC n nm := RC_sam hi
    rw [show rowsF 200 nm ad i = some (ad (200 + i)) from if_pos hi] at hy
    cases hy
    have h9 := hat _ hm9
    rw [gC_sam (by omega)] at h9
    refine ⟨fun e => ?_, fun e => ?_, obj_Any hK h9 rfl hg⟩
    · have := hinj _ hm9 4 (RC_4 (by omega)) e
      omega
    · have := hinj _ hm9 2 r2 e
      omega
end ADS
