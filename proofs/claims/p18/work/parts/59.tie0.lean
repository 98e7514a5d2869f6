def mr_right (τ : Nat → Nat → Int32) (n nm : Nat) (p0 p1 p2 r : Int32) (u : Nat → Nat → Int32) : Prop := (¬ ((0 ≤ p0 ∧ p0 < 10) ∧ (0 ≤ p1 ∧ p1 ≤ 5)) ∧ r = 0 ∧ u = su τ 0 0 0) ∨ ∃ a b, a < 10 ∧ b < 6 ∧ p0 = nI a ∧ p1 = nI b ∧ ((τ 4 (6 * a + b) = p2 ∧ r = 0 ∧ u = su τ 0 0 0) ∨ (¬ τ 4 (6 * a + b) = p2 ∧ r = 1 ∧ u = su (su τ 0 0 0) 4 (6 * a + b) p2))
def mr_inspection (τ : Nat → Nat → Int32) (n nm : Nat) (p0 p1 p2 r : Int32) (u : Nat → Nat → Int32) : Prop := (¬ ((0 ≤ p0 ∧ p0 < 10) ∧ (0 ≤ p1 ∧ p1 ≤ 4) ∧ (τ 0 3 ≤ p2 ∧ p2 ≤ 100000)) ∧ r = 0 ∧ u = su τ 0 0 1) ∨ (((0 ≤ p0 ∧ p0 < 10) ∧ (0 ≤ p1 ∧ p1 ≤ 4) ∧ (τ 0 3 ≤ p2 ∧ p2 ≤ 100000)) ∧ n = 30 ∧ r = 0 ∧ u = su τ 0 0 2) ∨ (((0 ≤ p0 ∧ p0 < 10) ∧ (0 ≤ p1 ∧ p1 ≤ 4) ∧ (τ 0 3 ≤ p2 ∧ p2 ≤ 100000)) ∧ n < 30 ∧ r = nI n ∧ u = su (su (su (su (su (su τ 0 0 0) 5 n p0) 6 n p1) 7 n p2) 13 n (-1)) 0 1 (nI (n + 1)))
def mr_plan (τ : Nat → Nat → Int32) (n nm : Nat) (p0 p1 p2 p3 r : Int32) (u : Nat → Nat → Int32) : Prop := (¬ ((0 ≤ p0 ∧ p0 < nI n) ∧ (0 ≤ p1 ∧ p1 ≤ 3) ∧ (τ 0 3 ≤ p2 ∧ p2 ≤ 100000) ∧ (τ 0 3 ≤ p3 ∧ p3 ≤ 100000) ∧ p2 < p3) ∧ r = 0 ∧ u = su τ 0 0 1) ∨ ∃ i, i < n ∧ p0 = nI i ∧ (0 ≤ p1 ∧ p1 ≤ 3) ∧ (τ 0 3 ≤ p2 ∧ p2 ≤ 100000) ∧ (τ 0 3 ≤ p3 ∧ p3 ≤ 100000) ∧ p2 < p3 ∧ ((¬ ((τ 8 i = 0 ∨ τ 8 i = 4) ∧ ¬ ∃ j, j < n ∧ ((τ 8 j = 1 ∨ τ 8 j = 2) ∧ τ 10 j = p1 ∧ τ 11 j < p3 ∧ p2 < τ 12 j)) ∧ r = 0 ∧ u = su τ 0 0 0) ∨ (((τ 8 i = 0 ∨ τ 8 i = 4) ∧ ¬ ∃ j, j < n ∧ ((τ 8 j = 1 ∨ τ 8 j = 2) ∧ τ 10 j = p1 ∧ τ 11 j < p3 ∧ p2 < τ 12 j)) ∧ r = 1 ∧ u = su (su (su (su (su τ 0 0 0) 8 i 1) 10 i p1) 11 i p2) 12 i p3))
def mr_begin (τ : Nat → Nat → Int32) (n nm : Nat) (p0 p1 r : Int32) (u : Nat → Nat → Int32) : Prop := (¬ ((0 ≤ p0 ∧ p0 < nI n) ∧ (0 ≤ p1 ∧ p1 < 10)) ∧ r = 0 ∧ u = su τ 0 0 1) ∨ ∃ i a k, i < n ∧ a < 10 ∧ k < 5 ∧ p0 = nI i ∧ p1 = nI a ∧ τ 6 i = nI k ∧ ((¬ (τ 8 i = 1 ∧ τ 11 i ≤ τ 0 3 ∧ τ 0 3 ≤ τ 12 i ∧ ¬ τ 4 (6 * a + k) = 0) ∧ r = 0 ∧ u = su τ 0 0 0) ∨ ((τ 8 i = 1 ∧ τ 11 i ≤ τ 0 3 ∧ τ 0 3 ≤ τ 12 i ∧ ¬ τ 4 (6 * a + k) = 0) ∧ r = 1 ∧ u = if 2 < τ 6 i then su (su (su (su (su τ 0 0 0) 8 i 2) 13 i p1) 14 i (τ 14 i + 1)) 16 (τ 5 i).toNatClampNeg 1 else su (su (su (su τ 0 0 0) 8 i 2) 13 i p1) 14 i (τ 14 i + 1)))
def mr_end (τ : Nat → Nat → Int32) (n nm : Nat) (p0 p1 p2 r : Int32) (u : Nat → Nat → Int32) : Prop := (¬ ((0 ≤ p0 ∧ p0 < nI n) ∧ (0 ≤ p1 ∧ p1 < 10)) ∧ r = 0 ∧ u = su τ 0 0 1) ∨ ∃ i, i < n ∧ p0 = nI i ∧ (0 ≤ p1 ∧ p1 < 10) ∧ ((¬ (τ 8 i = 2 ∧ τ 13 i = p1) ∧ r = 0 ∧ u = su τ 0 0 0) ∨ ((τ 8 i = 2 ∧ τ 13 i = p1) ∧ r = 1 ∧ u = su (su τ 0 0 0) 8 i (if p2 = 0 then 4 else 3)))
def mr_giveUp (τ : Nat → Nat → Int32) (n nm : Nat) (p0 r : Int32) (u : Nat → Nat → Int32) : Prop := (¬ (0 ≤ p0 ∧ p0 < nI n) ∧ r = 0 ∧ u = su τ 0 0 0) ∨ ∃ i, i < n ∧ p0 = nI i ∧ ((¬ (τ 8 i = 0 ∨ τ 8 i = 1 ∨ τ 8 i = 4) ∧ r = 0 ∧ u = su τ 0 0 0) ∨ ((τ 8 i = 0 ∨ τ 8 i = 1 ∨ τ 8 i = 4) ∧ r = 1 ∧ u = su (su τ 0 0 0) 8 i 5))
def mr_seal (τ : Nat → Nat → Int32) (n nm : Nat) (p0 p1 p2 p3 r : Int32) (u : Nat → Nat → Int32) : Prop := (¬ ((0 ≤ p0 ∧ p0 < 10) ∧ (1 ≤ p1 ∧ p1 ≤ 1000000) ∧ (0 ≤ p2 ∧ p2 < 10) ∧ (0 ≤ p3 ∧ p3 < 10) ∧ ¬ p2 = p3) ∧ r = 0 ∧ u = su τ 0 0 1) ∨ ∃ a b k, a < 10 ∧ b < 10 ∧ k < 10 ∧ p0 = nI a ∧ p2 = nI b ∧ p3 = nI k ∧ (1 ≤ p1 ∧ p1 ≤ 1000000) ∧ ¬ nI b = nI k ∧ ((¬ (¬ τ 16 a = 0 ∧ ¬ τ 4 (6 * b + 5) = 0 ∧ ¬ τ 4 (6 * k + 5) = 0 ∧ ¬ ∃ j, j < n ∧ (τ 5 j = nI a ∧ 2 < τ 6 j ∧ τ 8 j = 2)) ∧ r = 0 ∧ u = su τ 0 0 0) ∨ ((¬ τ 16 a = 0 ∧ ¬ τ 4 (6 * b + 5) = 0 ∧ ¬ τ 4 (6 * k + 5) = 0 ∧ ¬ ∃ j, j < n ∧ (τ 5 j = nI a ∧ 2 < τ 6 j ∧ τ 8 j = 2)) ∧ r = 1 ∧ u = su (su (su τ 0 0 0) 16 a 0) 15 a p1))
def mr_sample (τ : Nat → Nat → Int32) (n nm : Nat) (p0 p1 r : Int32) (u : Nat → Nat → Int32) : Prop := (¬ ((0 ≤ p0 ∧ p0 < nI n) ∧ (1 ≤ p1 ∧ p1 ≤ 1000000)) ∧ r = 0 ∧ u = su τ 0 0 1) ∨ ((∃ i, i < n ∧ p0 = nI i ∧ (1 ≤ p1 ∧ p1 ≤ 1000000)) ∧ nm = 40 ∧ r = 0 ∧ u = su τ 0 0 2) ∨ ∃ i, i < n ∧ p0 = nI i ∧ (1 ≤ p1 ∧ p1 ≤ 1000000) ∧ nm < 40 ∧ ((¬ ((2 < τ 6 i ∧ τ 8 i = 2) ∧ slM τ p1 nm < 0) ∧ r = -1 ∧ u = su τ 0 0 0) ∨ (((2 < τ 6 i ∧ τ 8 i = 2) ∧ slM τ p1 nm < 0) ∧ r = nI nm ∧ u = su (su (su (su τ 0 0 0) 19 nm (nI i)) 20 nm p1) 0 2 (nI (nm + 1))))
def mr_result (τ : Nat → Nat → Int32) (n nm : Nat) (p0 p1 p2 p3 r : Int32) (u : Nat → Nat → Int32) : Prop := (¬ ((0 ≤ p0 ∧ p0 < nI nm) ∧ (1 ≤ p1 ∧ p1 ≤ 1000000) ∧ (0 ≤ p2 ∧ p2 ≤ 3) ∧ (0 ≤ p3 ∧ p3 ≤ 1000000)) ∧ r = 0 ∧ u = su τ 0 0 1) ∨ ∃ i q, i < nm ∧ q < 4 ∧ p0 = nI i ∧ p2 = nI q ∧ (1 ≤ p1 ∧ p1 ≤ 1000000) ∧ (0 ≤ p3 ∧ p3 ≤ 1000000) ∧ ((¬ slM τ p1 nm = nI i ∧ r = (if slM τ p1 nm < 0 then -3 else -2) ∧ u = su τ 0 0 0) ∨ (slM τ p1 nm = nI i ∧ ¬ τ 21 (4 * i + q) < 0 ∧ r = -1 ∧ u = su τ 0 0 0) ∨ (slM τ p1 nm = nI i ∧ τ 21 (4 * i + q) < 0 ∧ r = dfM (su (su τ 0 0 0) 21 (4 * i + q) p3) i q ∧ u = su (su τ 0 0 0) 21 (4 * i + q) p3))
def mr_declared (τ : Nat → Nat → Int32) (n nm : Nat) (p0 p1 p2 r : Int32) (u : Nat → Nat → Int32) : Prop := (¬ ((0 ≤ p0 ∧ p0 < 10) ∧ (0 ≤ p1 ∧ p1 ≤ 3) ∧ (0 ≤ p2 ∧ p2 ≤ 1000000)) ∧ r = 0 ∧ u = su τ 0 0 0) ∨ ∃ a b, a < 10 ∧ b < 4 ∧ p0 = nI a ∧ p1 = nI b ∧ (0 ≤ p2 ∧ p2 ≤ 1000000) ∧ r = 1 ∧ u = su (su τ 0 0 0) 18 (4 * a + b) p2
def mr_tolerance (τ : Nat → Nat → Int32) (n nm : Nat) (p0 p1 p2 r : Int32) (u : Nat → Nat → Int32) : Prop := (¬ ((0 ≤ p0 ∧ p0 ≤ 3) ∧ (0 ≤ p1 ∧ p1 ≤ 1000) ∧ (0 ≤ p2 ∧ p2 ≤ 1000)) ∧ r = 0 ∧ u = su τ 0 0 0) ∨ ∃ b, b < 4 ∧ p0 = nI b ∧ (0 ≤ p1 ∧ p1 ≤ 1000) ∧ (0 ≤ p2 ∧ p2 ≤ 1000) ∧ r = 1 ∧ u = su (su (su τ 0 0 0) 23 b p1) 24 b p2
def mr_hold (τ : Nat → Nat → Int32) (n nm : Nat) (p0 p1 p2 r : Int32) (u : Nat → Nat → Int32) : Prop := (¬ ((0 ≤ p0 ∧ p0 < 10) ∧ (0 ≤ p1 ∧ p1 ≤ 7)) ∧ r = 0 ∧ u = su τ 0 0 0) ∨ ∃ a b, a < 10 ∧ b < 8 ∧ p0 = nI a ∧ p1 = nI b ∧ ((b2i (τ 17 a >>> (nI b &&& 31) &&& 1 = 1) = p2 ∧ r = 0 ∧ u = su τ 0 0 0) ∨ (¬ b2i (τ 17 a >>> (nI b &&& 31) &&& 1 = 1) = p2 ∧ r = 1 ∧ u = su (su τ 0 0 0) 17 a (τ 17 a + (if p2 = 0 then -(1 <<< (nI b &&& 31)) else 1 <<< (nI b &&& 31)))))
def mr_settle (τ : Nat → Nat → Int32) (n nm : Nat) (p0 r : Int32) (u : Nat → Nat → Int32) : Prop := (¬ (0 ≤ p0 ∧ p0 < 10) ∧ r = 0 ∧ u = su τ 0 0 1) ∨ ∃ a, a < 10 ∧ p0 = nI a ∧ r = grM τ (nI a) 0 (4 * nm) ∧ u = stM (su τ 0 0 0) (nI a) (4 * nm)
def mr_tick (τ : Nat → Nat → Int32) (n nm w : Nat) (p0 r : Int32) (u : Nat → Nat → Int32) : Prop := (¬ (τ 0 3 ≤ p0 ∧ p0 ≤ 100000) ∧ r = 0 ∧ u = su τ 0 0 1) ∨ ∃ T, p0 = nI T ∧ w ≤ T ∧ T ≤ 100000 ∧ r = tcM (su τ 0 0 0) w n (T - w) ∧ u = su (tsM (su τ 0 0 0) w n (T - w)) 0 3 (nI T)
def mr_release (τ : Nat → Nat → Int32) (n nm : Nat) (p0 r : Int32) (u : Nat → Nat → Int32) : Prop := (¬ (0 ≤ p0 ∧ p0 < 10) ∧ r = 0 ∧ u = su τ 0 0 1) ∨ ∃ a, a < 10 ∧ p0 = nI a ∧ r = ifP (∃ j, j < n ∧ τ 5 j = nI a ∧ ¬ τ 8 j = 3 ∧ ¬ τ 8 j = 5) 1 (ifP (¬ τ 16 a = 0) 2 (ifP (¬ τ 17 a = 0) 3 (ifP (∃ j, j < nm ∧ dS τ j = nI a ∧ (τ 21 (4 * j) < 0 ∧ τ 21 (4 * j + 1) < 0 ∧ τ 21 (4 * j + 2) < 0 ∧ τ 21 (4 * j + 3) < 0)) 4 (ifP (0 < grM τ (nI a) 0 (4 * nm)) 5 0)))) ∧ u = su τ 0 0 0
def mr_look (τ : Nat → Nat → Int32) (n nm : Nat) (p0 p1 r : Int32) (u : Nat → Nat → Int32) : Prop := (¬ ((0 ≤ p0 ∧ p0 < nI n) ∧ (0 ≤ p1 ∧ p1 ≤ 8)) ∧ r = 0 ∧ u = su τ 0 0 1) ∨ ∃ i, i < n ∧ p0 = nI i ∧ (0 ≤ p1 ∧ p1 ≤ 8) ∧ r = lkM τ nm i p1 ∧ u = su τ 0 0 0
def mr_count (τ : Nat → Nat → Int32) (n nm : Nat) (p0 r : Int32) (u : Nat → Nat → Int32) : Prop := r = cnM τ n nm p0 ∧ u = su τ 0 0 0
def rgV (x : Int32) : Prop := -1 ≤ x ∧ x ≤ 1000000
def TTn (t0 s0 : Nat → Int32) (n nm : Nat) : Prop := t0 1 = nI n ∧ t0 2 = nI nm ∧ t0 3 = s0 0 ∧ n ≤ 30 ∧ nm ≤ 40 ∧ ∃ w, w ≤ 100000 ∧ s0 0 = nI w
def TTr (s1 t4 : Nat → Int32) : Prop := ∀ p, p < 10 → (∃ h, h < 64 ∧ s1 p = nI h) ∧ ∀ k, k < 6 → t4 (6 * p + k) = b2i (s1 p >>> (nI k &&& 31) &&& 1 = 1)
def TTi (n : Nat) (s20 s21 s22 s23 s24 s28 t5 t6 t7 t8 t9 t13 : Nat → Int32) : Prop := ∀ i, i < n → t5 i = s20 i ∧ t6 i = s21 i ∧ t7 i = s22 i ∧ t8 i = s23 i ∧ t9 i = s24 i ∧ t13 i = s28 i
def TTa (n : Nat) (s23 s25 s26 s27 t10 t11 t12 : Nat → Int32) : Prop := ∀ i, i < n → (s23 i = 1 ∨ s23 i = 2) → t10 i = s25 i ∧ t11 i = s26 i ∧ t12 i = s27 i
def TTv (n : Nat) (s20 s21 s22 s24 : Nat → Int32) : Prop := ∀ i, i < n → (∃ d, d < 10 ∧ s20 i = nI d) ∧ (∃ k, k < 5 ∧ s21 i = nI k) ∧ (∃ w, w ≤ 100000 ∧ s22 i = nI w) ∧ ∃ v, v ≤ 3 ∧ s24 i = nI v
def TTf (n : Nat) (t8 t9 t14 : Nat → Int32) : Prop := ∀ i, n ≤ i → i < 30 → t8 i = 0 ∧ t9 i = 0 ∧ t14 i = 0
def TTq (s2 t15 t16 : Nat → Int32) : Prop := ∀ d, d < 10 → t16 d = b2i (s2 d = -1) ∧ (¬ s2 d = -1 → t15 d = s2 d)
def TTh (s3 t17 : Nat → Int32) : Prop := ∀ d, d < 10 → t17 d = s3 d ∧ ∃ h, h < 256 ∧ s3 d = nI h
def TTd (σ : Nat → Nat → Int32) (t18 : Nat → Int32) : Prop := ∀ d q, d < 10 → q < 4 → t18 (4 * d + q) = σ (10 + d) q ∧ rgV (σ (10 + d) q)
def TTu (s5 s6 t23 t24 : Nat → Int32) : Prop := ∀ q, q < 4 → t23 q = s5 q ∧ t24 q = s6 q ∧ (0 ≤ s5 q ∧ s5 q ≤ 1000) ∧ (0 ≤ s6 q ∧ s6 q ≤ 1000)
def TTs (n nm : Nat) (s20 s30 s31 t19 t20 : Nat → Int32) : Prop := (∀ i, i < nm → (∃ j, j < n ∧ t19 i = nI j ∧ s30 i = s20 j) ∧ t20 i = s31 i) ∧ ∀ i j, i < nm → j < nm → s31 i = s31 j → i = j
def TTb (nm : Nat) (σ : Nat → Nat → Int32) (t21 t22 : Nat → Int32) : Prop := (∀ i q, i < nm → q < 4 → t21 (4 * i + q) = σ (1000 + i) q ∧ rgV (σ (1000 + i) q) ∧ t22 (4 * i + q) = σ (2000 + i) q ∧ (σ (2000 + i) q = 0 ∨ σ (2000 + i) q = 1)) ∧ ∀ k, 4 * nm ≤ k → k < 160 → t21 k = -1 ∧ t22 k = 0
def TTc (n nm : Nat) (s29 : Nat → Int32) (τ : Nat → Nat → Int32) : Prop := ∀ i, i < n → s29 i = smM τ (nI i) nm
def TTk (n nm : Nat) (s4 : Nat → Int32) (τ : Nat → Nat → Int32) : Prop := ∀ d, d < 10 → s4 d = coM τ nm (nI d) n
def TT (σ τ : Nat → Nat → Int32) (n nm : Nat) : Prop := TTn (τ 0) (σ 0) n nm ∧ TTr (σ 1) (τ 4) ∧ TTi n (σ 20) (σ 21) (σ 22) (σ 23) (σ 24) (σ 28) (τ 5) (τ 6) (τ 7) (τ 8) (τ 9) (τ 13) ∧ TTa n (σ 23) (σ 25) (σ 26) (σ 27) (τ 10) (τ 11) (τ 12) ∧ TTv n (σ 20) (σ 21) (σ 22) (σ 24) ∧ TTf n (τ 8) (τ 9) (τ 14) ∧ TTq (σ 2) (τ 15) (τ 16) ∧ TTh (σ 3) (τ 17) ∧ TTd σ (τ 18) ∧ TTu (σ 5) (σ 6) (τ 23) (τ 24) ∧ TTs n nm (σ 20) (σ 30) (σ 31) (τ 19) (τ 20) ∧ TTb nm σ (τ 21) (τ 22) ∧ TTc n nm (σ 29) τ ∧ TTk n nm (σ 4) τ
theorem smM_row {τ τ' : Nat → Nat → Int32} {p : Int32} (h : τ' 19 = τ 19) : ∀ k : Nat, smM τ' p k = smM τ p k
  | 0 => rfl
  | k + 1 => by
    show smM τ' p k + (if τ' 19 k = p then 1 else 0) = smM τ p k + (if τ 19 k = p then 1 else 0)
    rw [smM_row h k, h]
theorem coM_row {τ τ' : Nat → Nat → Int32} {nm : Nat} {p : Int32} (h5 : τ' 5 = τ 5) (h6 : τ' 6 = τ 6) (h14 : τ' 14 = τ 14) (h19 : τ' 19 = τ 19) : ∀ k : Nat, coM τ' nm p k = coM τ nm p k
  | 0 => rfl
  | k + 1 => by
    show coM τ' nm p k + (if τ' 5 k = p then 100 * (τ' 6 k + 1) * τ' 14 k + 50 * smM τ' (nI k) nm else 0) = coM τ nm p k + (if τ 5 k = p then 100 * (τ 6 k + 1) * τ 14 k + 50 * smM τ (nI k) nm else 0)
    rw [coM_row h5 h6 h14 h19 k, h5, h6, h14, smM_row h19]
theorem TTc_row {n nm : Nat} {s29 : Nat → Int32} {τ τ' : Nat → Nat → Int32} (h : τ' 19 = τ 19) (hT : TTc n nm s29 τ) : TTc n nm s29 τ' := fun i hi => by rw [hT i hi, smM_row h]
theorem TTk_row {n nm : Nat} {s4 : Nat → Int32} {τ τ' : Nat → Nat → Int32} (h5 : τ' 5 = τ 5) (h6 : τ' 6 = τ 6) (h14 : τ' 14 = τ 14) (h19 : τ' 19 = τ 19) (hT : TTk n nm s4 τ) : TTk n nm s4 τ' := fun i hi => by rw [hT i hi, coM_row h5 h6 h14 h19]
theorem TTd_su {σ : Nat → Nat → Int32} {t : Nat → Int32} {k j : Nat} {x : Int32} (h : TTd σ t) (hk : ∀ d, d < 10 → 10 + d ≠ k) : TTd (su σ k j x) t := fun d q hd hq => by
  rw [su_ne (hk d hd)]
  exact h d q hd hq
theorem TTb_su {nm : Nat} {σ : Nat → Nat → Int32} {t t' : Nat → Int32} {k j : Nat} {x : Int32} (h : TTb nm σ t t') (hk : k < 1000) : TTb nm (su σ k j x) t t' := ⟨fun i q hi hq => by
  rw [su_ne (by omega), su_ne (by omega)]
  exact h.1 i q hi hq, h.2⟩
theorem TT.jv {σ τ : Nat → Nat → Int32} {n nm : Nat} (h : TT σ τ n nm) : Jv σ n nm := by
  obtain ⟨-, -, -, -, hv, -, -, -, -, -, hs, -⟩ := h
  refine ⟨fun i hi => ?_, fun i hi => ?_⟩
  · obtain ⟨⟨d, hd, e⟩, ⟨k, hk, e2⟩, -⟩ := hv i hi
    rw [e, e2]
    exact ⟨vp_in_nI hd (by decide), vp_in_nI hk (by decide)⟩
  · obtain ⟨⟨j, hj, -, e⟩, -⟩ := hs.1 i hi
    obtain ⟨⟨d, hd, e2⟩, -⟩ := hv j hj
    rw [e, e2]
    exact vp_in_nI hd (by decide)
theorem TT.mv {σ τ : Nat → Nat → Int32} {n nm : Nat} (h : TT σ τ n nm) : Mv τ n nm := by
  obtain ⟨hn, -, hi, -, hv, -, -, -, -, -, hs, -⟩ := h
  refine ⟨hn.1, hn.2.1, hn.2.2.2.1, hn.2.2.2.2.1, fun i h => ?_, fun i h => ?_⟩
  · rw [(hi i h).1, (hi i h).2.1]
    obtain ⟨⟨d, hd, e⟩, ⟨k, hk, e2⟩, -⟩ := hv i h
    rw [e, e2]
    exact ⟨vp_in_nI hd (by decide), vp_in_nI hk (by decide)⟩
  · obtain ⟨⟨j, hj, e, -⟩, -⟩ := hs.1 i h
    rw [e]
    exact vp_in_nI hj (by have := hn.2.2.2.1; omega)
theorem b2i_01 (P : Prop) : b2i P = 0 ∨ b2i P = 1 := by
  by_cases h : P
  · exact Or.inr (b2i_t h)
  · exact Or.inl (b2i_f h)
theorem TT.hz {σ τ : Nat → Nat → Int32} {n nm : Nat} (h : TT σ τ n nm) : ∀ k, k < 60 → τ 4 k = 0 ∨ τ 4 k = 1 := fun k hk => by
  have h1 := (h.2.1 (k / 6) (by omega)).2 (k % 6) (by omega)
  rw [show 6 * (k / 6) + k % 6 = k by omega] at h1
  rw [h1]
  exact b2i_01 _
theorem nI_jn {a b : Nat} (ha : a < 2 ^ 31) (hb : b < 2 ^ 31) (h : nI a = nI b) : a = b := (nI_eq ha hb).mp h
/-- the new objects are tied -/
theorem tt_start : TT s0 m0 0 0 := by
  refine ⟨⟨rfl, rfl, rfl, by decide, by decide, 0, by decide, rfl⟩, fun p hp => ⟨⟨0, by decide, rfl⟩, fun k hk => ?_⟩, fun i hi => absurd hi (Nat.not_lt_zero _), fun i hi => absurd hi (Nat.not_lt_zero _), fun i hi => absurd hi (Nat.not_lt_zero _), fun i _ _ => ⟨rfl, rfl, rfl⟩, fun d hd => ⟨(b2i_f (by show ¬ ((0 : Int32) = -1); decide)).symm, fun _ => rfl⟩, fun d hd => ⟨rfl, 0, by decide, rfl⟩, fun d q hd hq => ?_, fun q hq => ⟨rfl, rfl, by show (0 : Int32) ≤ 0 ∧ (0 : Int32) ≤ 1000; decide, by show (0 : Int32) ≤ 0 ∧ (0 : Int32) ≤ 1000; decide⟩, ⟨fun i hi => absurd hi (Nat.not_lt_zero _), fun i j hi => absurd hi (Nat.not_lt_zero _)⟩, ⟨fun i q hi => absurd hi (Nat.not_lt_zero _), fun k _ hk => ?_⟩, fun i hi => absurd hi (Nat.not_lt_zero _), fun d hd => rfl⟩
  · have h : ¬ ((0 : Int32) >>> (nI k &&& 31) &&& 1 = 1) := by
      have : k = 0 ∨ k = 1 ∨ k = 2 ∨ k = 3 ∨ k = 4 ∨ k = 5 := by omega
      rcases this with rfl | rfl | rfl | rfl | rfl | rfl <;> decide
    exact (b2i_f h).symm
  · have e : s0 (10 + d) q = -1 := by
      unfold s0
      rw [if_pos ⟨by omega, by omega⟩]
      exact if_pos hq
    rw [e]
    refine ⟨?_, by unfold rgV; decide⟩
    show fiM (fiM (fun _ _ => 0) 18 40) 21 160 18 (4 * d + q) = -1
    unfold fiM
    rw [if_neg (by omega), if_pos ⟨rfl, by omega⟩]
  · constructor
    · show fiM (fiM (fun _ _ => 0) 18 40) 21 160 21 k = -1
      unfold fiM
      rw [if_pos ⟨rfl, by omega⟩]
    · show fiM (fiM (fun _ _ => 0) 18 40) 21 160 22 k = 0
      unfold fiM
      rw [if_neg (by omega), if_neg (by omega)]
