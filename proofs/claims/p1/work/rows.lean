section
-- ===== PART A: goes FIRST, ahead of the names: the tables' words, and 'selects' of the private methods out of them =====
/-- a private method of a class that the tables say can be made, by its rows of tables_1 -/
def lw_okq (q : MethodName × Nat) : Prop := (q.1.cls ≠ "java/lang/invoke/MethodHandle" ∧ q.1.cls ≠ "java/lang/invoke/VarHandle") ∧ Cond.instantiable q.1.cls q.2 ∈ tables_1 ∧ Cond.privateMethod q.1 ∈ tables_1 ∧ Cond.instanceMethod q.1 ∈ tables_1
theorem lw_p0 : lw_okq (⟨"InspectSteps", "mayDo", "(II)Z"⟩, 10) := ⟨⟨by decide +kernel, by decide +kernel⟩, List.mem_of_getElem? (i := 21) (by decide +kernel), List.mem_of_getElem? (i := 102) (by decide +kernel), List.mem_of_getElem? (i := 103) (by decide +kernel)⟩
theorem lw_p1 : lw_okq (⟨"InspectSteps", "isInspection", "(I)Z"⟩, 10) := ⟨⟨by decide +kernel, by decide +kernel⟩, List.mem_of_getElem? (i := 21) (by decide +kernel), List.mem_of_getElem? (i := 113) (by decide +kernel), List.mem_of_getElem? (i := 114) (by decide +kernel)⟩
theorem lw_p2 : lw_okq (⟨"InspectSteps", "countOf", "(II)I"⟩, 10) := ⟨⟨by decide +kernel, by decide +kernel⟩, List.mem_of_getElem? (i := 21) (by decide +kernel), List.mem_of_getElem? (i := 166) (by decide +kernel), List.mem_of_getElem? (i := 167) (by decide +kernel)⟩
theorem lw_p3 : lw_okq (⟨"InspectSteps", "muchDifferent", "(IZ)I"⟩, 10) := ⟨⟨by decide +kernel, by decide +kernel⟩, List.mem_of_getElem? (i := 21) (by decide +kernel), List.mem_of_getElem? (i := 170) (by decide +kernel), List.mem_of_getElem? (i := 171) (by decide +kernel)⟩
theorem lw_p4 : lw_okq (⟨"InspectSteps", "difference", "(LInspectSteps$Sample;I)I"⟩, 10) := ⟨⟨by decide +kernel, by decide +kernel⟩, List.mem_of_getElem? (i := 21) (by decide +kernel), List.mem_of_getElem? (i := 175) (by decide +kernel), List.mem_of_getElem? (i := 176) (by decide +kernel)⟩
theorem lw_p5 : lw_okq (⟨"java/lang/Throwable", "fillInStackTrace", "(I)Ljava/lang/Throwable;"⟩, 6) := ⟨⟨by decide +kernel, by decide +kernel⟩, List.mem_of_getElem? (i := 231) (by decide +kernel), List.mem_of_getElem? (i := 229) (by decide +kernel), List.mem_of_getElem? (i := 230) (by decide +kernel)⟩
theorem lw_p6 : lw_okq (⟨"InspectSteps", "isTimeToCome", "(I)Z"⟩, 10) := ⟨⟨by decide +kernel, by decide +kernel⟩, List.mem_of_getElem? (i := 21) (by decide +kernel), List.mem_of_getElem? (i := 261) (by decide +kernel), List.mem_of_getElem? (i := 262) (by decide +kernel)⟩
theorem lw_p7 : lw_okq (⟨"java/util/ArrayList", "add", "(Ljava/lang/Object;[Ljava/lang/Object;I)V"⟩, 3) := ⟨⟨by decide +kernel, by decide +kernel⟩, List.mem_of_getElem? (i := 29) (by decide +kernel), List.mem_of_getElem? (i := 332) (by decide +kernel), List.mem_of_getElem? (i := 333) (by decide +kernel)⟩
theorem lw_p8 : lw_okq (⟨"java/util/ArrayList", "grow", "()[Ljava/lang/Object;"⟩, 3) := ⟨⟨by decide +kernel, by decide +kernel⟩, List.mem_of_getElem? (i := 29) (by decide +kernel), List.mem_of_getElem? (i := 336) (by decide +kernel), List.mem_of_getElem? (i := 337) (by decide +kernel)⟩
theorem lw_p9 : lw_okq (⟨"java/util/ArrayList", "grow", "(I)[Ljava/lang/Object;"⟩, 3) := ⟨⟨by decide +kernel, by decide +kernel⟩, List.mem_of_getElem? (i := 29) (by decide +kernel), List.mem_of_getElem? (i := 340) (by decide +kernel), List.mem_of_getElem? (i := 341) (by decide +kernel)⟩
theorem lw_p10 : lw_okq (⟨"InspectSteps", "isTaken", "(III)Z"⟩, 10) := ⟨⟨by decide +kernel, by decide +kernel⟩, List.mem_of_getElem? (i := 21) (by decide +kernel), List.mem_of_getElem? (i := 396) (by decide +kernel), List.mem_of_getElem? (i := 397) (by decide +kernel)⟩
theorem lw_p11 : lw_okq (⟨"InspectSteps", "isBeingOpened", "(I)Z"⟩, 10) := ⟨⟨by decide +kernel, by decide +kernel⟩, List.mem_of_getElem? (i := 21) (by decide +kernel), List.mem_of_getElem? (i := 447) (by decide +kernel), List.mem_of_getElem? (i := 448) (by decide +kernel)⟩
theorem lw_p12 : lw_okq (⟨"InspectSteps", "isSealOfSample", "(I)Z"⟩, 10) := ⟨⟨by decide +kernel, by decide +kernel⟩, List.mem_of_getElem? (i := 21) (by decide +kernel), List.mem_of_getElem? (i := 460) (by decide +kernel), List.mem_of_getElem? (i := 461) (by decide +kernel)⟩
theorem lw_p13 : lw_okq (⟨"InspectSteps$Inspection", "lateTimes", "(I)I"⟩, 10) := ⟨⟨by decide +kernel, by decide +kernel⟩, List.mem_of_getElem? (i := 282) (by decide +kernel), List.mem_of_getElem? (i := 525) (by decide +kernel), List.mem_of_getElem? (i := 526) (by decide +kernel)⟩
theorem lw_p14 : lw_okq (⟨"InspectSteps", "hasPendingInspection", "(I)Z"⟩, 10) := ⟨⟨by decide +kernel, by decide +kernel⟩, List.mem_of_getElem? (i := 21) (by decide +kernel), List.mem_of_getElem? (i := 537) (by decide +kernel), List.mem_of_getElem? (i := 538) (by decide +kernel)⟩
theorem lw_p15 : lw_okq (⟨"InspectSteps", "hasSampleWithoutResult", "(I)Z"⟩, 10) := ⟨⟨by decide +kernel, by decide +kernel⟩, List.mem_of_getElem? (i := 21) (by decide +kernel), List.mem_of_getElem? (i := 542) (by decide +kernel), List.mem_of_getElem? (i := 543) (by decide +kernel)⟩
def lw_privs_1 : List (MethodName × Nat) := [(⟨"InspectSteps", "mayDo", "(II)Z"⟩, 10), (⟨"InspectSteps", "isInspection", "(I)Z"⟩, 10), (⟨"InspectSteps", "countOf", "(II)I"⟩, 10), (⟨"InspectSteps", "muchDifferent", "(IZ)I"⟩, 10), (⟨"InspectSteps", "difference", "(LInspectSteps$Sample;I)I"⟩, 10), (⟨"java/lang/Throwable", "fillInStackTrace", "(I)Ljava/lang/Throwable;"⟩, 6), (⟨"InspectSteps", "isTimeToCome", "(I)Z"⟩, 10), (⟨"java/util/ArrayList", "add", "(Ljava/lang/Object;[Ljava/lang/Object;I)V"⟩, 3), (⟨"java/util/ArrayList", "grow", "()[Ljava/lang/Object;"⟩, 3), (⟨"java/util/ArrayList", "grow", "(I)[Ljava/lang/Object;"⟩, 3), (⟨"InspectSteps", "isTaken", "(III)Z"⟩, 10), (⟨"InspectSteps", "isBeingOpened", "(I)Z"⟩, 10), (⟨"InspectSteps", "isSealOfSample", "(I)Z"⟩, 10), (⟨"InspectSteps$Inspection", "lateTimes", "(I)I"⟩, 10), (⟨"InspectSteps", "hasPendingInspection", "(I)Z"⟩, 10), (⟨"InspectSteps", "hasSampleWithoutResult", "(I)Z"⟩, 10)]
theorem lw_r1 : ∀ q ∈ lw_privs_1, lw_okq q := List.forall_mem_cons.mpr ⟨lw_p0, List.forall_mem_cons.mpr ⟨lw_p1, List.forall_mem_cons.mpr ⟨lw_p2, List.forall_mem_cons.mpr ⟨lw_p3, List.forall_mem_cons.mpr ⟨lw_p4, List.forall_mem_cons.mpr ⟨lw_p5, List.forall_mem_cons.mpr ⟨lw_p6, List.forall_mem_cons.mpr ⟨lw_p7, List.forall_mem_cons.mpr ⟨lw_p8, List.forall_mem_cons.mpr ⟨lw_p9, List.forall_mem_cons.mpr ⟨lw_p10, List.forall_mem_cons.mpr ⟨lw_p11, List.forall_mem_cons.mpr ⟨lw_p12, List.forall_mem_cons.mpr ⟨lw_p13, List.forall_mem_cons.mpr ⟨lw_p14, List.forall_mem_cons.mpr ⟨lw_p15, fun _ h => absurd h List.not_mem_nil⟩⟩⟩⟩⟩⟩⟩⟩⟩⟩⟩⟩⟩⟩⟩⟩
theorem lw_p16 : lw_okq (⟨"InspectStepsModel", "may", "(II)Z"⟩, 25) := ⟨⟨by decide +kernel, by decide +kernel⟩, List.mem_of_getElem? (i := 576) (by decide +kernel), List.mem_of_getElem? (i := 672) (by decide +kernel), List.mem_of_getElem? (i := 673) (by decide +kernel)⟩
theorem lw_p17 : lw_okq (⟨"InspectStepsModel", "isTime", "(I)Z"⟩, 25) := ⟨⟨by decide +kernel, by decide +kernel⟩, List.mem_of_getElem? (i := 576) (by decide +kernel), List.mem_of_getElem? (i := 680) (by decide +kernel), List.mem_of_getElem? (i := 681) (by decide +kernel)⟩
theorem lw_p18 : lw_okq (⟨"InspectStepsModel", "isOne", "(I)Z"⟩, 25) := ⟨⟨by decide +kernel, by decide +kernel⟩, List.mem_of_getElem? (i := 576) (by decide +kernel), List.mem_of_getElem? (i := 689) (by decide +kernel), List.mem_of_getElem? (i := 690) (by decide +kernel)⟩
theorem lw_p19 : lw_okq (⟨"InspectStepsModel", "takesPlace", "(I)Z"⟩, 25) := ⟨⟨by decide +kernel, by decide +kernel⟩, List.mem_of_getElem? (i := 576) (by decide +kernel), List.mem_of_getElem? (i := 693) (by decide +kernel), List.mem_of_getElem? (i := 694) (by decide +kernel)⟩
theorem lw_p20 : lw_okq (⟨"InspectStepsModel", "isOpened", "(I)Z"⟩, 25) := ⟨⟨by decide +kernel, by decide +kernel⟩, List.mem_of_getElem? (i := 576) (by decide +kernel), List.mem_of_getElem? (i := 714) (by decide +kernel), List.mem_of_getElem? (i := 715) (by decide +kernel)⟩
theorem lw_p21 : lw_okq (⟨"InspectStepsModel", "sealed", "(I)I"⟩, 25) := ⟨⟨by decide +kernel, by decide +kernel⟩, List.mem_of_getElem? (i := 576) (by decide +kernel), List.mem_of_getElem? (i := 722) (by decide +kernel), List.mem_of_getElem? (i := 723) (by decide +kernel)⟩
theorem lw_p22 : lw_okq (⟨"InspectStepsModel", "differs", "(II)I"⟩, 25) := ⟨⟨by decide +kernel, by decide +kernel⟩, List.mem_of_getElem? (i := 576) (by decide +kernel), List.mem_of_getElem? (i := 730) (by decide +kernel), List.mem_of_getElem? (i := 731) (by decide +kernel)⟩
theorem lw_p23 : lw_okq (⟨"InspectStepsModel", "great", "(IZ)I"⟩, 25) := ⟨⟨by decide +kernel, by decide +kernel⟩, List.mem_of_getElem? (i := 576) (by decide +kernel), List.mem_of_getElem? (i := 751) (by decide +kernel), List.mem_of_getElem? (i := 752) (by decide +kernel)⟩
theorem lw_p24 : lw_okq (⟨"InspectStepsModel", "isOf", "(II)Z"⟩, 25) := ⟨⟨by decide +kernel, by decide +kernel⟩, List.mem_of_getElem? (i := 576) (by decide +kernel), List.mem_of_getElem? (i := 755) (by decide +kernel), List.mem_of_getElem? (i := 756) (by decide +kernel)⟩
theorem lw_p25 : lw_okq (⟨"InspectStepsModel", "hasNoResult", "(I)Z"⟩, 25) := ⟨⟨by decide +kernel, by decide +kernel⟩, List.mem_of_getElem? (i := 576) (by decide +kernel), List.mem_of_getElem? (i := 767) (by decide +kernel), List.mem_of_getElem? (i := 768) (by decide +kernel)⟩
theorem lw_p26 : lw_okq (⟨"InspectStepsModel", "samplesOf", "(I)I"⟩, 25) := ⟨⟨by decide +kernel, by decide +kernel⟩, List.mem_of_getElem? (i := 576) (by decide +kernel), List.mem_of_getElem? (i := 775) (by decide +kernel), List.mem_of_getElem? (i := 776) (by decide +kernel)⟩
theorem lw_p27 : lw_okq (⟨"InspectStepsModel", "costsOf", "(I)I"⟩, 25) := ⟨⟨by decide +kernel, by decide +kernel⟩, List.mem_of_getElem? (i := 576) (by decide +kernel), List.mem_of_getElem? (i := 783) (by decide +kernel), List.mem_of_getElem? (i := 784) (by decide +kernel)⟩
def lw_privs_2 : List (MethodName × Nat) := [(⟨"InspectStepsModel", "may", "(II)Z"⟩, 25), (⟨"InspectStepsModel", "isTime", "(I)Z"⟩, 25), (⟨"InspectStepsModel", "isOne", "(I)Z"⟩, 25), (⟨"InspectStepsModel", "takesPlace", "(I)Z"⟩, 25), (⟨"InspectStepsModel", "isOpened", "(I)Z"⟩, 25), (⟨"InspectStepsModel", "sealed", "(I)I"⟩, 25), (⟨"InspectStepsModel", "differs", "(II)I"⟩, 25), (⟨"InspectStepsModel", "great", "(IZ)I"⟩, 25), (⟨"InspectStepsModel", "isOf", "(II)Z"⟩, 25), (⟨"InspectStepsModel", "hasNoResult", "(I)Z"⟩, 25), (⟨"InspectStepsModel", "samplesOf", "(I)I"⟩, 25), (⟨"InspectStepsModel", "costsOf", "(I)I"⟩, 25)]
theorem lw_r2 : ∀ q ∈ lw_privs_2, lw_okq q := List.forall_mem_cons.mpr ⟨lw_p16, List.forall_mem_cons.mpr ⟨lw_p17, List.forall_mem_cons.mpr ⟨lw_p18, List.forall_mem_cons.mpr ⟨lw_p19, List.forall_mem_cons.mpr ⟨lw_p20, List.forall_mem_cons.mpr ⟨lw_p21, List.forall_mem_cons.mpr ⟨lw_p22, List.forall_mem_cons.mpr ⟨lw_p23, List.forall_mem_cons.mpr ⟨lw_p24, List.forall_mem_cons.mpr ⟨lw_p25, List.forall_mem_cons.mpr ⟨lw_p26, List.forall_mem_cons.mpr ⟨lw_p27, fun _ h => absurd h List.not_mem_nil⟩⟩⟩⟩⟩⟩⟩⟩⟩⟩⟩⟩
def lw_privs : List (MethodName × Nat) := lw_privs_1 ++ (lw_privs_2)
def lw_tbl : List Cond := k2_sels lw_privs ++ tables_1
theorem lw_privs_ok : ∀ q ∈ lw_privs, lw_okq q := by
  show ∀ q ∈ lw_privs_1 ++ (lw_privs_2), lw_okq q
  exact List.forall_mem_append.mpr ⟨lw_r1, lw_r2⟩
-- ===== end of PART A; then your names; then what follows =====
end
section
/-! ===== BEGIN words of one list among another's, by their places ===== -/
theorem goodIn_r {big : List Cond} (ws : List Cond) (ps : List Nat) (hp : ws = ps.filterMap (fun i => big[i]?)) (h : ws.all goodWord = true) : GoodIn big ws := by
  intro w hw
  have h1 := List.all_eq_true.mp h w hw
  rw [hp] at hw
  obtain ⟨i, -, hi⟩ := List.mem_filterMap.mp hw
  have hm : w ∈ big := by first | exact List.mem_of_getElem? hi | exact List.getElem?_mem hi
  exact ⟨hm, good_of_word h1⟩
theorem goodIn_app {big a b : List Cond} (ha : GoodIn big a) (hb : GoodIn big b) : GoodIn big (a ++ b) := fun w h => (List.mem_append.mp h).elim (ha w) (hb w)
theorem goodIn_ca {big a b : List Cond} {c : Cond} (ha : GoodIn big (c :: a)) (hb : GoodIn big b) : GoodIn big (c :: (a ++ b)) := fun w h => (List.mem_cons.mp h).elim (fun e => ha w (List.mem_cons.mpr (Or.inl e))) (fun h => (List.mem_append.mp h).elim (fun h => ha w (List.mem_cons.mpr (Or.inr h))) (hb w))
theorem goodIn_sub {big ws : List Cond} (hm : ∀ w ∈ ws, w ∈ big) (h : ws.all goodWord = true) : GoodIn big ws := fun w hw => ⟨hm w hw, good_of_word (List.all_eq_true.mp h w hw)⟩
/-! ===== END ===== -/

/-! ===== BEGIN exceptions that leave a method, and their catching by the caller (launches without stack traces) ===== -/
section VXA
/-! The laws vx_back, vx_callV, vx_callS, vx_callSW, vx_throw0, vx_throwS follow proofs of the library, with one case more: JvmDerived/Free/Laws.lean (Back.of_free), Shelf42/LK1.lean (callV, callS), Shelf/KitTraced.lean (throwNew0V, throwNewS). -/

/-- where a method has thrown q: the class by its name, the cell, what was written, the world -/
def vx_T (XC : String → State → State → Prop) (st : State) (q : Addr) (t : State) (mc ms : Nat) (free : Addr → Prop) : Prop :=
  ∃ (E : String) (ce : Cell) (L : List Loc), XC E st t ∧ t.heap[q]? = some ce ∧ ce.vm = .none ∧ st.vm.findClass E = some ce.cls ∧ st.WarmedH t.vm ∧ st.sameButNew ({ t with vm := st.vm } : State) L mc ms ∧ ∀ z ∈ L, free z.base
def vx_Q (Qc : Array Value → State → Outcome → State → Prop) (XC : String → State → State → Prop) (mc ms : Nat) (free : Addr → Prop) : Array Value → State → Outcome → State → Prop := fun a st o t =>
  (Qc a st o t ∧ ∃ L, FrameEnd st o t L mc ms ∧ ∀ q ∈ L, free q.base) ∨ ∃ q, o = .threw q ∧ vx_T XC st q t mc ms free
/-- a callee that returns or throws -/
def vx_Met (l : Launch) (y : MethodName) (ws : List Cond) (rm : Room) (Pc : Array Value → State → Prop) (Qc : Array Value → State → Outcome → State → Prop) (XC : String → State → State → Prop) (mc ms : Nat) (free : Addr → Prop) : Prop :=
  MetFree l y (headSpec ws rm) Pc (fun _ _ _ _ _ => True) (vx_Q Qc XC mc ms free)
def vx_Post (XC : String → State → State → Prop) (mc ms : Nat) (free : Addr → Prop) : Pt → Array Value → Addr → Pt → Prop := fun A a q B =>
  ∃ (g : JFrame) (mk : MethodId) (t : State) (L : List Loc) (E : String) (ce : Cell), B.U.heap = t.heap ∧ B.U.vm = t.vm ∧ XC E (A.U.calling g mk a) t ∧ t.heap[q]? = some ce ∧ ce.vm = .none ∧ A.U.vm.findClass E = some ce.cls ∧ B.locs = A.locs ++ L ∧ (∀ z ∈ L, free z.base) ∧ B.cells = A.cells + mc ∧ B.slots = A.slots + ms
def vx_Back (l : Launch) (R : Room) (p : Program) (e : Env) (below : List Frame) (s : State) (sargs : Array Value) (y : MethodName) (len W9 : Nat)
    (Pre : Pt → Array Value → Prop) (Post : Pt → Array Value → Option Value → Pt → Prop) (PostX : Pt → Array Value → Addr → Pt → Prop) : Prop :=
  ∀ (m : MethodId) (meth : Method) (c : Code) (A : Pt) (g : JFrame) (ig : Instr) (mk : MethodId) (a : Array Value),
    Stand p l e R s m sargs below meth c A.U A.locs A.cells A.slots → g.method = m → g.locals.size = c.maxLocals → decode c.code g.pc = .ok (ig, len) →
    2 * g.monitorRoom + (g.stack.map fun v => v.category).sum ≤ W9 → A.U.methodNamed? y = some mk → Pre A a →
    (∃ (v : Option Value) (B : Pt), Stand p l e R s m sargs below meth c B.U B.locs B.cells B.slots ∧ Post A a v B ∧
      Steps p.tables e below (doInvoke e (A.U.setTop g) [] mk a).1 (B.U.setTop { g with pc := g.pc + len, stack := v.toList ++ g.stack })) ∨
    (∃ (q : Addr) (B : Pt), Stand p l e R s m sargs below meth c B.U B.locs B.cells B.slots ∧ PostX A a q B ∧
      Steps p.tables e below (doInvoke e (A.U.setTop g) [] mk a).1 ((B.U.setTop g).pushFrame (.throwing q)))
section Payer
variable {l : Launch} {R : Room} {p : Program} {e : Env} {below : List Frame} {s : State} {sargs : Array Value} {y : MethodName} {len W9 : Nat}
theorem vx_back {ws : List Cond} {rm : Room} {Pc : Array Value → State → Prop} {Qc : Array Value → State → Outcome → State → Prop} {XC : String → State → State → Prop} {mc ms : Nat} {free : Addr → Prop} {bytes : ByteArray} {maxL : Nat} {ret : Option FieldType}
    (hM : vx_Met l y ws rm Pc Qc XC mc ms free) (hblind : FrameBlind Pc) (hrc : rm.cells = mc) (hrs : rm.slots = ms)
    (hframes : rm.frames + 1 ≤ R.frames) (hlocals : W9 + (maxL + 11) + rm.locals ≤ R.locals)
    (hws : ∀ w ∈ ws, ∀ a' U, s.WarmedH U.vm → w.before a' U = true) (hcode : Cond.code y bytes maxL ret ∈ ws) (hinit : ∀ a' U, s.WarmedH U.vm → (Cond.initialized y.cls).before a' U = true) :
    vx_Back l R p e below s sargs y len W9 (PreOf R mc ms Pc) (PostOf Qc mc ms free) (vx_Post XC mc ms free) := by
  intro m meth c A g ig mk a X hg hsize hdg hW hn hp
  have h1 : (headSpec ws rm).pre.before a A.U = true := atoms_intro fun w hw => hws w hw _ _ X.warmed
  have h2 : (Cond.code y bytes maxL ret).before a A.U = true := hws _ hcode _ _ X.warmed
  have h3 : (Cond.initialized y.cls).before a A.U = true := hinit _ _ X.warmed
  have h4 : A.cells + (headSpec ws rm).room.cells ≤ R.cells := by rw [show (headSpec ws rm).room.cells = mc from hrc]; exact hp.1
  have h5 : A.slots + (headSpec ws rm).room.slots ≤ R.slots := by rw [show (headSpec ws rm).room.slots = ms from hrs]; exact hp.2.1
  have hPc : Pc a (A.U.calling g mk a) := hblind _ _ _ _ hp.2.2
  obtain ⟨U, Ls, c0, s0⟩ := A
  dsimp only [Pt.U, Pt.locs, Pt.cells, Pt.slots] at h1 h2 h3 h4 h5 X hn hPc ⊢
  obtain ⟨methY, cY, hmY, hcY, -, hlY, -, -, -, -⟩ := Cond.code_spec hn h2
  obtain ⟨kY, hkY, -⟩ := className_of_methodNamed hn
  have hinitY : kY.init = .initialized := Cond.initialized_spec (findClass_of_methodNamed hn) hkY h3
  have h : At U g.method c below := by rw [hg]; exact X.here
  have hlocals9 : W9 + (maxL + 11) + (headSpec ws rm).room.locals ≤ R.locals := hlocals
  have happ : (headSpec ws rm).appliesLoose y e.platform (U.calling g mk a) = true :=
    Spec.appliesLoose_calling (g := g) h hdg hn hkY hinitY
      (X.room_calling (g := g) (R' := (headSpec ws rm).room) hsize hmY hcY hframes (by rw [hlY]; omega) h4 h5) h1
  obtain ⟨mid, hmid⟩ := h.above
  have hfr : (U.setTop g).frames = (.java g :: mid) ++ below := by rw [State.frames_setTop' g h.top, hmid]; rfl
  obtain ⟨o, s₂, hsteps, -, hend, hq⟩ := Steps.callFree hM p X.admits X.cas X.clock (acts := []) hfr happ hPc trivial
  have hq' : vx_Q Qc XC mc ms free a (U.calling g mk a) o s₂ := hq
  rw [State.frames_setTop' g h.top] at hend
  obtain ⟨g₀, hg0⟩ := Option.isSome_iff_exists.mp h.top
  obtain ⟨r, hr⟩ := State.topJava?_eq_some.mp hg0
  have hr' : (({ U with heap := s₂.heap, slotsUsed := s₂.slotsUsed } : State).setVm s₂.vm).frames = .java g₀ :: r := hr
  rcases hq' with ⟨hqc, L, hfe, hL⟩ | ⟨q, rfl, E, ce, L, hx, hce, hcv, hcl, hW₂, hsm, hL⟩
  · obtain ⟨⟨v, rfl⟩, hW₂, e2, q2, q3, q4, q5, q6⟩ := id hfe
    have e3 : s₂ = ({ (U.calling g mk a).setFrames s₂.frames with heap := s₂.heap, slotsUsed := s₂.slotsUsed } : State).setVm s₂.vm := by
      have : s₂ = ({ s₂ with vm := (U.calling g mk a).vm } : State).setVm s₂.vm := rfl
      rw [e2] at this
      exact this
    obtain ⟨c₂, i₂, len₂, hc₂, hd₂, hf₂⟩ := hend
    have hW' : U.WarmedH s₂.vm := hW₂
    have hcc : c₂ = c := by
      have h1 : s₂.code? g.method = U.code? g.method := by
        rw [State.code?_eq, State.code?_eq, hW'.alike.method?]
      exact Option.some.inj (hc₂.symm.trans (h1.trans h.code))
    subst hcc
    have hlen : len₂ = len := by rw [hdg] at hd₂; cases hd₂; rfl
    subst hlen
    have hs₂ : s₂ = (({ U with heap := s₂.heap, slotsUsed := s₂.slotsUsed } : State).setVm s₂.vm).setTop { g with pc := g.pc + len₂, stack := v.toList ++ g.stack } := by
      refine e3.trans ?_
      rw [hf₂, State.calling_eq h.top, State.setFrames_setFrames, State.setTop_of_frames _ hr', hr]
      rfl
    have hsame : U.sameButNew ({ U with heap := s₂.heap, slotsUsed := s₂.slotsUsed } : State) L mc ms := by
      refine ⟨?_, q2, q3, q4, q5, q6⟩
      obtain ⟨t, ht, -⟩ := State.frames_cons hr
      show ({ U with heap := s₂.heap, slotsUsed := s₂.slotsUsed } : State) = { U.setFrames U.frames with heap := s₂.heap, slotsUsed := s₂.slotsUsed }
      rw [State.setFrames_self ht]
    subst hg
    refine Or.inl ⟨v, ⟨(({ U with heap := s₂.heap, slotsUsed := s₂.slotsUsed } : State).setVm s₂.vm), Ls ++ L, c0 + mc, s0 + ms⟩,
      ⟨X.admits, X.cas, X.clock, X.frames, X.room, X.hears, X.method, X.code, (X.here.setHeapUsed s₂.heap s₂.slotsUsed).setVm hW'.alike, X.tail, State.WarmedH.trans X.warmed hW', X.limits, X.bytes, X.same.trans (hsame.setVm s.vm)⟩,
      ⟨g, mk, s₂, L, rfl, rfl, hqc, rfl, hL, rfl, rfl⟩, ?_⟩
    show Steps p.tables e below _ ((({ U with heap := s₂.heap, slotsUsed := s₂.slotsUsed } : State).setVm s₂.vm).setTop { g with pc := g.pc + len₂, stack := v.toList ++ g.stack })
    rw [← hs₂]
    exact hsteps
  · obtain ⟨e2, q2, q3, q4, q5, q6⟩ := id hsm
    have e3 : s₂ = ({ (U.calling g mk a).setFrames s₂.frames with heap := s₂.heap, slotsUsed := s₂.slotsUsed } : State).setVm s₂.vm := by
      have : s₂ = ({ s₂ with vm := (U.calling g mk a).vm } : State).setVm s₂.vm := rfl
      rw [e2] at this
      exact this
    have hf₂ : s₂.frames = .throwing q :: .java g :: U.frames.tail := hend
    have hW' : U.WarmedH s₂.vm := hW₂
    have hs₂ : s₂ = ((({ U with heap := s₂.heap, slotsUsed := s₂.slotsUsed } : State).setVm s₂.vm).setTop g).pushFrame (.throwing q) := by
      refine e3.trans ?_
      rw [hf₂, State.calling_eq h.top, State.setFrames_setFrames, State.pushFrame, State.frames_setTop _ hr', State.setTop_of_frames _ hr', State.setFrames_setFrames, hr]
      rfl
    have hsame : U.sameButNew ({ U with heap := s₂.heap, slotsUsed := s₂.slotsUsed } : State) L mc ms := by
      refine ⟨?_, q2, q3, q4, q5, q6⟩
      obtain ⟨t, ht, -⟩ := State.frames_cons hr
      show ({ U with heap := s₂.heap, slotsUsed := s₂.slotsUsed } : State) = { U.setFrames U.frames with heap := s₂.heap, slotsUsed := s₂.slotsUsed }
      rw [State.setFrames_self ht]
    subst hg
    refine Or.inr ⟨q, ⟨(({ U with heap := s₂.heap, slotsUsed := s₂.slotsUsed } : State).setVm s₂.vm), Ls ++ L, c0 + mc, s0 + ms⟩,
      ⟨X.admits, X.cas, X.clock, X.frames, X.room, X.hears, X.method, X.code, (X.here.setHeapUsed s₂.heap s₂.slotsUsed).setVm hW'.alike, X.tail, State.WarmedH.trans X.warmed hW', X.limits, X.bytes, X.same.trans (hsame.setVm s.vm)⟩,
      ⟨g, mk, s₂, L, E, ce, rfl, rfl, hx, hce, hcv, hcl, rfl, hL, rfl, rfl⟩, ?_⟩
    show Steps p.tables e below _ (((({ U with heap := s₂.heap, slotsUsed := s₂.slotsUsed } : State).setVm s₂.vm).setTop g).pushFrame (.throwing q))
    rw [← hs₂]
    exact hsteps
end Payer
section Calls
variable {p : Program} {l : Launch} {e : Env} {R : Room} {s : State} {m : MethodId} {args : Array Value} {below : List Frame} {meth : Method} {c : Code} {T : State} {locs : List Loc} {cells slots : Nat}
theorem vx_callV (X : Stand p l e R s m args below meth c T locs cells slots) (hexec : p.tables.exec = Jvm.exec) {own C : String} {index : Nat} {y : MethodName} {bytes : ByteArray} {maxL : Nat} {ret : Option FieldType}
    (hown : s.vm.findClass own = some m.cls) (hlink : (Cond.methodLink own index y).before args s = true) (hinst : (Cond.instanceMethod y).before args s = true) (hsel : (Cond.selects C y y).before args s = true)
    (hcode : (Cond.code y bytes maxL ret).before args s = true) (hy : y.cls ≠ "java/lang/invoke/MethodHandle" ∧ y.cls ≠ "java/lang/invoke/VarHandle")
    {W9 : Nat} {Pre : Pt → Array Value → Prop} {Post : Pt → Array Value → Option Value → Pt → Prop} {PostX : Pt → Array Value → Addr → Pt → Prop} (hK : vx_Back l R p e below s args y 3 W9 Pre Post PostX)
    {b : Addr} {cellB : Cell} (hcell : T.heap[b]? = some cellB) (hobj : cellB.vm.isStatics = false) (hcls : s.vm.findClass C = some cellB.cls)
    {g : JFrame} (hg : g.method = m) (hsize : g.locals.size = c.maxLocals) {argsL rest : List Value} (hlen : ∀ sig, parseMethodDescriptor y.desc = some sig → argsL.length = sig.parameters.length)
    (hstack : g.stack = argsL.reverse ++ .ref b :: rest) (hW : 2 * g.monitorRoom + (rest.map fun v => v.category).sum ≤ W9) (hdg : decode c.code g.pc = .ok (.invokevirtual index, 3))
    (hpre : ∀ vm₁, s.WarmedH vm₁ → Pre ⟨T.setVm vm₁, locs, cells, slots⟩ (Value.ref b :: argsL).toArray) :
    (∃ (v : Option Value) (vm₁ : Vm) (B : Pt), s.WarmedH vm₁ ∧ Stand p l e R s m args below meth c B.U B.locs B.cells B.slots ∧ Post ⟨T.setVm vm₁, locs, cells, slots⟩ (Value.ref b :: argsL).toArray v B ∧
      ∀ target, Steps p.tables e below (B.U.setTop { g with pc := g.pc + 3, stack := v.toList ++ rest }) target → Steps p.tables e below (T.setTop g) target) ∨
    (∃ (q : Addr) (vm₁ : Vm) (B : Pt), s.WarmedH vm₁ ∧ Stand p l e R s m args below meth c B.U B.locs B.cells B.slots ∧ PostX ⟨T.setVm vm₁, locs, cells, slots⟩ (Value.ref b :: argsL).toArray q B ∧
      Steps p.tables e below (T.setTop g) ((B.U.setTop { g with stack := rest }).pushFrame (.throwing q))) := by
  obtain ⟨mk, methM, hnamed, hmethM, hstM, habM⟩ := Cond.instanceMethod_spec hinst
  obtain ⟨methM', cM, hmethM', -, -, -, -, -, -, hsigM⟩ := Cond.code_spec hnamed hcode
  cases hmethM.symm.trans hmethM'
  obtain ⟨c2, r2, m2, q1, q2, q3, q4, kP, hkP, hkPi⟩ := Cond.selects_spec hsel
  cases hcls.symm.trans q1
  cases (State.methodFound?_of_named hnamed hy).symm.trans q2
  cases hnamed.symm.trans q3
  have hselP : selectMethod e.platform s.vm cellB.cls mk = .method mk := by rw [Launch.admits_selectMethod X.admits]; exact q4
  obtain ⟨vm₁, X₁, hstep₁⟩ := X.invokevirtual hexec hown hlink hnamed hmethM hstM hkP hkPi hy (a := b) (cell := cellB) hcell
    (fun z h => by rw [h] at hobj; cases hobj) hselP hmethM habM hkP hkPi (g := g) hg (argsL := argsL) (rest := rest) (hlen _ hsigM) hstack hdg
  rcases hK m meth c ⟨T.setVm vm₁, locs, cells, slots⟩ { g with stack := rest } (.invokevirtual index) mk (Value.ref b :: argsL).toArray X₁ hg hsize hdg hW (X₁.named hnamed) (hpre vm₁ X₁.warmed) with ⟨v, B, X', hpost, hsteps⟩ | ⟨q, B, X', hpost, hsteps⟩
  · exact Or.inl ⟨v, vm₁, B, X₁.warmed, X', hpost, fun target h => hstep₁ _ fun acts => by rw [doInvoke_state]; exact hsteps.trans h⟩
  · exact Or.inr ⟨q, vm₁, B, X₁.warmed, X', hpost, hstep₁ _ fun acts => by rw [doInvoke_state]; exact hsteps⟩
theorem vx_callS (X : Stand p l e R s m args below meth c T locs cells slots) (hexec : p.tables.exec = Jvm.exec) {own : String} {index : Nat} {y : MethodName} {bytes : ByteArray} {maxL : Nat} {ret : Option FieldType}
    (hown : s.vm.findClass own = some m.cls) (hlink : (Cond.methodLink own index y).before args s = true) (hstat : (Cond.static y).before args s = true) (hinit : (Cond.initialized y.cls).before args s = true)
    (hcode : (Cond.code y bytes maxL ret).before args s = true) (hy : y.cls ≠ "java/lang/invoke/MethodHandle" ∧ y.cls ≠ "java/lang/invoke/VarHandle")
    {W9 : Nat} {Pre : Pt → Array Value → Prop} {Post : Pt → Array Value → Option Value → Pt → Prop} {PostX : Pt → Array Value → Addr → Pt → Prop} (hK : vx_Back l R p e below s args y 3 W9 Pre Post PostX)
    {g : JFrame} (hg : g.method = m) (hsize : g.locals.size = c.maxLocals) {argsL rest : List Value} (hlen : ∀ sig, parseMethodDescriptor y.desc = some sig → argsL.length = sig.parameters.length)
    (hstack : g.stack = argsL.reverse ++ rest) (hW : 2 * g.monitorRoom + (rest.map fun v => v.category).sum ≤ W9) (hdg : decode c.code g.pc = .ok (.invokestatic index, 3))
    (hpre : ∀ vm₁, s.WarmedH vm₁ → Pre ⟨T.setVm vm₁, locs, cells, slots⟩ argsL.toArray) :
    (∃ (v : Option Value) (vm₁ : Vm) (B : Pt), s.WarmedH vm₁ ∧ Stand p l e R s m args below meth c B.U B.locs B.cells B.slots ∧ Post ⟨T.setVm vm₁, locs, cells, slots⟩ argsL.toArray v B ∧
      ∀ target, Steps p.tables e below (B.U.setTop { g with pc := g.pc + 3, stack := v.toList ++ rest }) target → Steps p.tables e below (T.setTop g) target) ∨
    (∃ (q : Addr) (vm₁ : Vm) (B : Pt), s.WarmedH vm₁ ∧ Stand p l e R s m args below meth c B.U B.locs B.cells B.slots ∧ PostX ⟨T.setVm vm₁, locs, cells, slots⟩ argsL.toArray q B ∧
      Steps p.tables e below (T.setTop g) ((B.U.setTop { g with stack := rest }).pushFrame (.throwing q))) := by
  obtain ⟨mk, hnamed⟩ := Cond.code_named hcode
  obtain ⟨methM, cM, hmethM, -, -, -, -, -, -, hsigM⟩ := Cond.code_spec hnamed hcode
  have hstatic : methM.isStatic = true := Cond.static_spec hnamed hmethM hstat
  obtain ⟨kP, hkP, -⟩ := className_of_methodNamed hnamed
  have hinitP : kP.init = .initialized := Cond.initialized_spec (findClass_of_methodNamed hnamed) hkP hinit
  obtain ⟨vm₁, X₁, hstep₁⟩ := X.invokestatic hexec hown hlink hnamed hmethM hstatic hkP hinitP hy (g := g) hg (argsL := argsL) (rest := rest) (hlen _ hsigM) hstack hdg
  rcases hK m meth c ⟨T.setVm vm₁, locs, cells, slots⟩ { g with stack := rest } (.invokestatic index) mk argsL.toArray X₁ hg hsize hdg hW (X₁.named hnamed) (hpre vm₁ X₁.warmed) with ⟨v, B, X', hpost, hsteps⟩ | ⟨q, B, X', hpost, hsteps⟩
  · exact Or.inl ⟨v, vm₁, B, X₁.warmed, X', hpost, fun target h => hstep₁ _ fun acts => by rw [doInvoke_state]; exact hsteps.trans h⟩
  · exact Or.inr ⟨q, vm₁, B, X₁.warmed, X', hpost, hstep₁ _ fun acts => by rw [doInvoke_state]; exact hsteps⟩
end Calls
theorem vx_cls {s : State} {T : State} {vm₁ : Vm} {E : String} {k : ClassId} (hW : s.WarmedH vm₁) (h : (T.setVm vm₁).vm.findClass E = some k) : s.vm.findClass E = some k := by
  have h1 : vm₁.findClass E = some k := h
  rw [hW.alike.findClass] at h1
  exact h1
/-- the method's frame g, with q thrown over it -/
def vx_W (p : Program) (l : Launch) (e : Env) (R : Room) (s : State) (m : MethodId) (args : Array Value) (below : List Frame) (meth : Method) (c : Code) (H : Heap) (locs : List Loc) (cells slots : Nat) (Q : State → Prop) (g : JFrame) (q : Addr) : Prop :=
  ∀ T : State, T.heap = H → Stand p l e R s m args below meth c T locs cells slots → ∃ t, Steps p.tables e below ((T.setTop g).pushFrame (.throwing q)) t ∧ Q t
def vx_Run (p : Program) (l : Launch) (e : Env) (R : Room) (s : State) (m : MethodId) (args : Array Value) (below : List Frame) (meth : Method) (c : Code) (H : Heap) (locs : List Loc) (cells slots mc ms : Nat) (g : JFrame) (rest : List Value) (Qa : State → Outcome → State → Prop) (XC : String → State → State → Prop) (free : Addr → Prop) : Prop :=
  ∀ T : State, T.heap = H → Stand p l e R s m args below meth c T locs cells slots →
    (∃ (v : Option Value) (st₀ t T' : State) (L : List Loc), st₀.heap = H ∧ Stand p l e R s m args below meth c T' (locs ++ L) (cells + mc) (slots + ms) ∧ (∀ q ∈ L, free q.base) ∧ T'.heap = t.heap ∧ T'.vm = t.vm ∧ Qa st₀ (.returned v) t ∧
      Goes p e below T g T' { g with pc := g.pc + 3, stack := v.toList ++ rest }) ∨
    (∃ (q : Addr) (st₀ t T' : State) (L : List Loc) (E : String) (ce : Cell), st₀.heap = H ∧ Stand p l e R s m args below meth c T' (locs ++ L) (cells + mc) (slots + ms) ∧ (∀ z ∈ L, free z.base) ∧ T'.heap = t.heap ∧ T'.vm = t.vm ∧ XC E st₀ t ∧ t.heap[q]? = some ce ∧ ce.vm = .none ∧ s.vm.findClass E = some ce.cls ∧
      Steps p.tables e below (T.setTop g) ((T'.setTop { g with stack := rest }).pushFrame (.throwing q)))
def vx_X {S : Type} (px : S → Prop) (B : String → S → State → Prop) (A : Nat → Prop) : String → State → State → Prop := fun E st t => ∃ u : S, px u ∧ B E u t ∧ va_F A st t
section Runs
variable {p : Program} {l : Launch} {e : Env} {R : Room} {s : State} {m : MethodId} {args : Array Value} {below : List Frame} {meth : Method} {c : Code} {H : Heap} {locs : List Loc} {cells slots : Nat}
variable {y : MethodName} {bytes cc : ByteArray} {maxL nL mc ms n index : Nat} {ret : Option FieldType} {ws : List Cond} {rm : Room} {Pc : Array Value → State → Prop} {Qc : Array Value → State → Outcome → State → Prop} {XC : String → State → State → Prop} {free : Addr → Prop} {Ts : List Cond} {own C : String} {b : Addr} {As rest : List Value} {g : JFrame}
theorem vx_callBack (cb : CallB R s args own index y bytes maxL ret ws rm mc ms n) (hM : vx_Met l y ws rm Pc Qc XC mc ms free) (hbl : FrameBlind Pc) : vx_Back l R p e below s args y 3 8 (PreOf R mc ms Pc) (PostOf Qc mc ms free) (vx_Post XC mc ms free) := by
  obtain ⟨hrc, hrs, hfr, hlo, hws, hcw, -, hini, -⟩ := cb
  exact vx_back (bytes := bytes) (maxL := maxL) (ret := ret) hM hbl hrc hrs hfr hlo hws hcw (fun a' U hW => word_at hW (Or.inl (by first | rfl | simp [Cond.onTables, Cond.keeps, Cond.steady])) hini)
theorem vx_runV (S : CallFix p m c cc nL s args Ts own) (hM : vx_Met l y ws rm Pc Qc XC mc ms free) (cw : CallW R s args own C index y bytes maxL ret ws rm mc ms n) (hp : PreV s H C b Pc As)
    (hg : g.method = m) (hn : As.length = n) (hsize : g.locals.size = nL) (hstack : g.stack = As.reverse ++ .ref b :: rest) (hW : 2 * g.monitorRoom + (rest.map fun v => v.category).sum ≤ 8) (hdg : decode cc g.pc = .ok (.invokevirtual index, 3)) (hf : cells + mc ≤ R.cells ∧ slots + ms ≤ R.slots) :
    vx_Run p l e R s m args below meth c H locs cells slots mc ms g rest (Qc (Value.ref b :: As).toArray) XC free := by
  have hK : vx_Back l R p e below s args y 3 8 (PreOf R mc ms Pc) (PostOf Qc mc ms free) (vx_Post XC mc ms free) := vx_callBack cw.1 hM hp.1
  obtain ⟨⟨-, -, -, -, -, -, hcode, -, hy, hlen, hl⟩, hin, hse⟩ := cw
  obtain ⟨hx, hb, hml, ho, -⟩ := S
  obtain ⟨-, ⟨cellB, hcB, hoB, hclB⟩, hPc⟩ := hp
  intro T hT X
  rcases vx_callV X hx (C := C) (bytes := bytes) (maxL := maxL) (ret := ret) ho hl hin hse hcode hy hK (by rw [hT]; exact hcB) hoB hclB hg (hsize.trans hml.symm) (argsL := As) (rest := rest) (fun sig h => hn.trans (hlen sig h)) hstack hW (by rw [hb]; exact hdg)
    (fun vm₁ hW₁ => ⟨hf.1, hf.2, hPc (T.setVm vm₁) hT hW₁⟩) with ⟨v, vm₁, ⟨U', l2, c2, s2⟩, hW₁, X', ⟨g', mk, t, L, e1, e2, hq, h1, hL, h2, h3⟩, st⟩ | ⟨q, vm₁, ⟨U', l2, c2, s2⟩, hW₁, X', ⟨g', mk, t, L, E, ce, e1, e2, hq, hce, hcv, hcl, h1, hL, h2, h3⟩, st⟩
  · dsimp only [Pt.U, Pt.locs, Pt.cells, Pt.slots] at X' e1 e2 h1 h2 h3 st
    subst h1; subst h2; subst h3
    exact Or.inl ⟨v, (T.setVm vm₁).calling g' mk (Value.ref b :: As).toArray, t, U', L, hT, X', hL, e1, e2, hq, st⟩
  · dsimp only [Pt.U, Pt.locs, Pt.cells, Pt.slots] at X' e1 e2 h1 h2 h3 st hcl
    subst h1; subst h2; subst h3
    exact Or.inr ⟨q, (T.setVm vm₁).calling g' mk (Value.ref b :: As).toArray, t, U', L, E, ce, hT, X', hL, e1, e2, hq, hce, hcv, vx_cls hW₁ hcl, st⟩
theorem vx_runS (S : CallFix p m c cc nL s args Ts own) (hM : vx_Met l y ws rm Pc Qc XC mc ms free) (cw : CallB R s args own index y bytes maxL ret ws rm mc ms n ∧ (Cond.static y).before args s = true) (hp : PreS s H Pc As)
    (hg : g.method = m) (hn : As.length = n) (hsize : g.locals.size = nL) (hstack : g.stack = As.reverse ++ rest) (hW : 2 * g.monitorRoom + (rest.map fun v => v.category).sum ≤ 8) (hdg : decode cc g.pc = .ok (.invokestatic index, 3)) (hf : cells + mc ≤ R.cells ∧ slots + ms ≤ R.slots) :
    vx_Run p l e R s m args below meth c H locs cells slots mc ms g rest (Qc As.toArray) XC free := by
  have hK : vx_Back l R p e below s args y 3 8 (PreOf R mc ms Pc) (PostOf Qc mc ms free) (vx_Post XC mc ms free) := vx_callBack cw.1 hM hp.1
  obtain ⟨⟨-, -, -, -, -, -, hcode, hini, hy, hlen, hl⟩, hstt⟩ := cw
  obtain ⟨hx, hb, hml, ho, -⟩ := S
  intro T hT X
  rcases vx_callS X hx (bytes := bytes) (maxL := maxL) (ret := ret) ho hl hstt hini hcode hy hK hg (hsize.trans hml.symm) (argsL := As) (rest := rest) (fun sig h => hn.trans (hlen sig h)) hstack hW (by rw [hb]; exact hdg)
    (fun vm₁ hW₁ => ⟨hf.1, hf.2, hp.2 (T.setVm vm₁) hT hW₁⟩) with ⟨v, vm₁, ⟨U', l2, c2, s2⟩, hW₁, X', ⟨g', mk, t, L, e1, e2, hq, h1, hL, h2, h3⟩, st⟩ | ⟨q, vm₁, ⟨U', l2, c2, s2⟩, hW₁, X', ⟨g', mk, t, L, E, ce, e1, e2, hq, hce, hcv, hcl, h1, hL, h2, h3⟩, st⟩
  · dsimp only [Pt.U, Pt.locs, Pt.cells, Pt.slots] at X' e1 e2 h1 h2 h3 st
    subst h1; subst h2; subst h3
    exact Or.inl ⟨v, (T.setVm vm₁).calling g' mk As.toArray, t, U', L, hT, X', hL, e1, e2, hq, st⟩
  · dsimp only [Pt.U, Pt.locs, Pt.cells, Pt.slots] at X' e1 e2 h1 h2 h3 st hcl
    subst h1; subst h2; subst h3
    exact Or.inr ⟨q, (T.setVm vm₁).calling g' mk As.toArray, t, U', L, E, ce, hT, X', hL, e1, e2, hq, hce, hcv, vx_cls hW₁ hcl, st⟩
end Runs
section Rows
variable {p : Program} {l : Launch} {e : Env} {R : Room} {s : State} {m : MethodId} {args : Array Value} {below : List Frame} {meth : Method} {c : Code} {H : Heap} {locs : List Loc} {cells slots : Nat} {Q : State → Prop}
variable {mc ms : Nat} {free : Addr → Prop} {A0 A1 : Nat → Prop} {H0 : Heap} {a : Array Value} {pc : Nat} {ls : Array Slot} {st0 rest : List Value}
theorem vx_keep {st₀ t T' : State} {L : List Loc} (h0 : st₀.heap = H) (e1 : T'.heap = t.heap) (hS : va_S A0 H0 H locs) (hA : ∀ q, q < H.size → A1 q → A0 q) (hf : ∀ q, free q → A0 q) (hL : ∀ q ∈ L, free q.base) (hF : va_F A1 st₀ t) :
    H.size ≤ T'.heap.size ∧ (∀ q : Nat, q < H.size → ¬ A1 q → T'.heap[q]? = H[q]?) ∧ va_S A0 H0 T'.heap (locs ++ L) := by
  obtain ⟨hz, hk⟩ := hF
  rw [h0] at hz hk
  exact ⟨by rw [e1]; exact hz, fun q h1 h2 => by rw [e1]; exact hk q h1 h2,
    ⟨Nat.le_trans hS.1 (by rw [e1]; exact hz), fun q h1 h2 => by rw [e1, hk q (Nat.lt_of_lt_of_le h1 hS.1) (fun z => h2 (hA q (Nat.lt_of_lt_of_le h1 hS.1) z))]; exact hS.2.1 q h1 h2, fun q hq => by
      rcases List.mem_append.mp hq with h | h
      · exact hS.2.2 q h
      · exact hf _ (hL q h)⟩⟩
theorem vx_calli {S SX : Type} {post : Int32 → S → Prop} {px : SX → Prop} {B : S → State → Prop} {BX : String → SX → State → Prop} {AX : Nat → Prop} (hr : vx_Run p l e R s m args below meth c H locs cells slots mc ms (F0 m pc ls st0) rest (va_Qi post B A1 a) (vx_X px BX AX) free) (hS : va_S A0 H0 H locs) (hA : ∀ q, q < H.size → A1 q → A0 q) (hf : ∀ q, free q → A0 q) (hAX : ∀ q, q < H.size → AX q → A0 q)
    (kx : ∀ (E : String) (ce : Cell) (q9 : Addr) (u : SX) (t : State) (H1 : Heap) (locs1 : List Loc), t.heap = H1 → s.vm.Alike t.vm → px u → BX E u t → H.size ≤ H1.size → (∀ q : Nat, q < H.size → ¬ AX q → H1[q]? = H[q]?) → va_S A0 H0 H1 locs1 → H1[q9]? = some ce → ce.vm = .none → s.vm.findClass E = some ce.cls → vx_W p l e R s m args below meth c H1 locs1 (cells + mc) (slots + ms) Q (F0 m pc ls rest) q9)
    (kk : ∀ (r : Int32) (u : S) (t : State) (H1 : Heap) (locs1 : List Loc), t.heap = H1 → s.vm.Alike t.vm → post r u → B u t → H.size ≤ H1.size → (∀ q : Nat, q < H.size → ¬ A1 q → H1[q]? = H[q]?) → va_S A0 H0 H1 locs1 → W p l e R s m args below meth c H1 locs1 (cells + mc) (slots + ms) Q (F0 m (pc + 3) ls (.int r :: rest))) : W p l e R s m args below meth c H locs cells slots Q (F0 m pc ls st0) := by
  intro T hT X
  rcases hr T hT X with ⟨v, st₀, t, T', L, h0, X', hL, e1, e2, ⟨⟨r, u, hv, hp, hb⟩, hF⟩, st⟩ | ⟨q, st₀, t, T', L, E, ce, h0, X', hL, e1, e2, ⟨u, hp, hb, hF⟩, hce, hcv, hcl, st⟩
  · cases hv
    obtain ⟨k1, k2, k3⟩ := vx_keep h0 e1 hS hA hf hL hF
    obtain ⟨t2, a1, b1⟩ := kk r u t T'.heap (locs ++ L) e1.symm (by rw [← e2]; exact X'.warmed.alike) hp hb k1 k2 k3 T' rfl X'
    exact ⟨t2, st t2 a1, b1⟩
  · obtain ⟨k1, k2, k3⟩ := vx_keep h0 e1 hS hAX hf hL hF
    obtain ⟨t2, a1, b1⟩ := kx E ce q u t T'.heap (locs ++ L) e1.symm (by rw [← e2]; exact X'.warmed.alike) hp hb k1 k2 k3 (by rw [e1]; exact hce) hcv hcl T' rfl X'
    exact ⟨t2, st.trans a1, b1⟩
theorem vx_calll {S SX : Type} {post : Int64 → S → Prop} {px : SX → Prop} {B : S → State → Prop} {BX : String → SX → State → Prop} {AX : Nat → Prop} (hr : vx_Run p l e R s m args below meth c H locs cells slots mc ms (F0 m pc ls st0) rest (va_Ql post B A1 a) (vx_X px BX AX) free) (hS : va_S A0 H0 H locs) (hA : ∀ q, q < H.size → A1 q → A0 q) (hf : ∀ q, free q → A0 q) (hAX : ∀ q, q < H.size → AX q → A0 q)
    (kx : ∀ (E : String) (ce : Cell) (q9 : Addr) (u : SX) (t : State) (H1 : Heap) (locs1 : List Loc), t.heap = H1 → s.vm.Alike t.vm → px u → BX E u t → H.size ≤ H1.size → (∀ q : Nat, q < H.size → ¬ AX q → H1[q]? = H[q]?) → va_S A0 H0 H1 locs1 → H1[q9]? = some ce → ce.vm = .none → s.vm.findClass E = some ce.cls → vx_W p l e R s m args below meth c H1 locs1 (cells + mc) (slots + ms) Q (F0 m pc ls rest) q9)
    (kk : ∀ (r : Int64) (u : S) (t : State) (H1 : Heap) (locs1 : List Loc), t.heap = H1 → s.vm.Alike t.vm → post r u → B u t → H.size ≤ H1.size → (∀ q : Nat, q < H.size → ¬ A1 q → H1[q]? = H[q]?) → va_S A0 H0 H1 locs1 → W p l e R s m args below meth c H1 locs1 (cells + mc) (slots + ms) Q (F0 m (pc + 3) ls (.long r :: rest))) : W p l e R s m args below meth c H locs cells slots Q (F0 m pc ls st0) := by
  intro T hT X
  rcases hr T hT X with ⟨v, st₀, t, T', L, h0, X', hL, e1, e2, ⟨⟨r, u, hv, hp, hb⟩, hF⟩, st⟩ | ⟨q, st₀, t, T', L, E, ce, h0, X', hL, e1, e2, ⟨u, hp, hb, hF⟩, hce, hcv, hcl, st⟩
  · cases hv
    obtain ⟨k1, k2, k3⟩ := vx_keep h0 e1 hS hA hf hL hF
    obtain ⟨t2, a1, b1⟩ := kk r u t T'.heap (locs ++ L) e1.symm (by rw [← e2]; exact X'.warmed.alike) hp hb k1 k2 k3 T' rfl X'
    exact ⟨t2, st t2 a1, b1⟩
  · obtain ⟨k1, k2, k3⟩ := vx_keep h0 e1 hS hAX hf hL hF
    obtain ⟨t2, a1, b1⟩ := kx E ce q u t T'.heap (locs ++ L) e1.symm (by rw [← e2]; exact X'.warmed.alike) hp hb k1 k2 k3 (by rw [e1]; exact hce) hcv hcl T' rfl X'
    exact ⟨t2, st.trans a1, b1⟩
theorem vx_callf {S SX : Type} {post : UInt32 → S → Prop} {px : SX → Prop} {B : S → State → Prop} {BX : String → SX → State → Prop} {AX : Nat → Prop} (hr : vx_Run p l e R s m args below meth c H locs cells slots mc ms (F0 m pc ls st0) rest (va_Qf post B A1 a) (vx_X px BX AX) free) (hS : va_S A0 H0 H locs) (hA : ∀ q, q < H.size → A1 q → A0 q) (hf : ∀ q, free q → A0 q) (hAX : ∀ q, q < H.size → AX q → A0 q)
    (kx : ∀ (E : String) (ce : Cell) (q9 : Addr) (u : SX) (t : State) (H1 : Heap) (locs1 : List Loc), t.heap = H1 → s.vm.Alike t.vm → px u → BX E u t → H.size ≤ H1.size → (∀ q : Nat, q < H.size → ¬ AX q → H1[q]? = H[q]?) → va_S A0 H0 H1 locs1 → H1[q9]? = some ce → ce.vm = .none → s.vm.findClass E = some ce.cls → vx_W p l e R s m args below meth c H1 locs1 (cells + mc) (slots + ms) Q (F0 m pc ls rest) q9)
    (kk : ∀ (r : UInt32) (u : S) (t : State) (H1 : Heap) (locs1 : List Loc), t.heap = H1 → s.vm.Alike t.vm → post r u → B u t → H.size ≤ H1.size → (∀ q : Nat, q < H.size → ¬ A1 q → H1[q]? = H[q]?) → va_S A0 H0 H1 locs1 → W p l e R s m args below meth c H1 locs1 (cells + mc) (slots + ms) Q (F0 m (pc + 3) ls (.float r :: rest))) : W p l e R s m args below meth c H locs cells slots Q (F0 m pc ls st0) := by
  intro T hT X
  rcases hr T hT X with ⟨v, st₀, t, T', L, h0, X', hL, e1, e2, ⟨⟨r, u, hv, hp, hb⟩, hF⟩, st⟩ | ⟨q, st₀, t, T', L, E, ce, h0, X', hL, e1, e2, ⟨u, hp, hb, hF⟩, hce, hcv, hcl, st⟩
  · cases hv
    obtain ⟨k1, k2, k3⟩ := vx_keep h0 e1 hS hA hf hL hF
    obtain ⟨t2, a1, b1⟩ := kk r u t T'.heap (locs ++ L) e1.symm (by rw [← e2]; exact X'.warmed.alike) hp hb k1 k2 k3 T' rfl X'
    exact ⟨t2, st t2 a1, b1⟩
  · obtain ⟨k1, k2, k3⟩ := vx_keep h0 e1 hS hAX hf hL hF
    obtain ⟨t2, a1, b1⟩ := kx E ce q u t T'.heap (locs ++ L) e1.symm (by rw [← e2]; exact X'.warmed.alike) hp hb k1 k2 k3 (by rw [e1]; exact hce) hcv hcl T' rfl X'
    exact ⟨t2, st.trans a1, b1⟩
theorem vx_calld {S SX : Type} {post : UInt64 → S → Prop} {px : SX → Prop} {B : S → State → Prop} {BX : String → SX → State → Prop} {AX : Nat → Prop} (hr : vx_Run p l e R s m args below meth c H locs cells slots mc ms (F0 m pc ls st0) rest (va_Qd post B A1 a) (vx_X px BX AX) free) (hS : va_S A0 H0 H locs) (hA : ∀ q, q < H.size → A1 q → A0 q) (hf : ∀ q, free q → A0 q) (hAX : ∀ q, q < H.size → AX q → A0 q)
    (kx : ∀ (E : String) (ce : Cell) (q9 : Addr) (u : SX) (t : State) (H1 : Heap) (locs1 : List Loc), t.heap = H1 → s.vm.Alike t.vm → px u → BX E u t → H.size ≤ H1.size → (∀ q : Nat, q < H.size → ¬ AX q → H1[q]? = H[q]?) → va_S A0 H0 H1 locs1 → H1[q9]? = some ce → ce.vm = .none → s.vm.findClass E = some ce.cls → vx_W p l e R s m args below meth c H1 locs1 (cells + mc) (slots + ms) Q (F0 m pc ls rest) q9)
    (kk : ∀ (r : UInt64) (u : S) (t : State) (H1 : Heap) (locs1 : List Loc), t.heap = H1 → s.vm.Alike t.vm → post r u → B u t → H.size ≤ H1.size → (∀ q : Nat, q < H.size → ¬ A1 q → H1[q]? = H[q]?) → va_S A0 H0 H1 locs1 → W p l e R s m args below meth c H1 locs1 (cells + mc) (slots + ms) Q (F0 m (pc + 3) ls (.double r :: rest))) : W p l e R s m args below meth c H locs cells slots Q (F0 m pc ls st0) := by
  intro T hT X
  rcases hr T hT X with ⟨v, st₀, t, T', L, h0, X', hL, e1, e2, ⟨⟨r, u, hv, hp, hb⟩, hF⟩, st⟩ | ⟨q, st₀, t, T', L, E, ce, h0, X', hL, e1, e2, ⟨u, hp, hb, hF⟩, hce, hcv, hcl, st⟩
  · cases hv
    obtain ⟨k1, k2, k3⟩ := vx_keep h0 e1 hS hA hf hL hF
    obtain ⟨t2, a1, b1⟩ := kk r u t T'.heap (locs ++ L) e1.symm (by rw [← e2]; exact X'.warmed.alike) hp hb k1 k2 k3 T' rfl X'
    exact ⟨t2, st t2 a1, b1⟩
  · obtain ⟨k1, k2, k3⟩ := vx_keep h0 e1 hS hAX hf hL hF
    obtain ⟨t2, a1, b1⟩ := kx E ce q u t T'.heap (locs ++ L) e1.symm (by rw [← e2]; exact X'.warmed.alike) hp hb k1 k2 k3 (by rw [e1]; exact hce) hcv hcl T' rfl X'
    exact ⟨t2, st.trans a1, b1⟩
theorem vx_callv {S SX : Type} {post : S → Prop} {px : SX → Prop} {B : S → State → Prop} {BX : String → SX → State → Prop} {AX : Nat → Prop} (hr : vx_Run p l e R s m args below meth c H locs cells slots mc ms (F0 m pc ls st0) rest (va_Qv post B A1 a) (vx_X px BX AX) free) (hS : va_S A0 H0 H locs) (hA : ∀ q, q < H.size → A1 q → A0 q) (hf : ∀ q, free q → A0 q) (hAX : ∀ q, q < H.size → AX q → A0 q)
    (kx : ∀ (E : String) (ce : Cell) (q9 : Addr) (u : SX) (t : State) (H1 : Heap) (locs1 : List Loc), t.heap = H1 → s.vm.Alike t.vm → px u → BX E u t → H.size ≤ H1.size → (∀ q : Nat, q < H.size → ¬ AX q → H1[q]? = H[q]?) → va_S A0 H0 H1 locs1 → H1[q9]? = some ce → ce.vm = .none → s.vm.findClass E = some ce.cls → vx_W p l e R s m args below meth c H1 locs1 (cells + mc) (slots + ms) Q (F0 m pc ls rest) q9)
    (kk : ∀ (u : S) (t : State) (H1 : Heap) (locs1 : List Loc), t.heap = H1 → s.vm.Alike t.vm → post u → B u t → H.size ≤ H1.size → (∀ q : Nat, q < H.size → ¬ A1 q → H1[q]? = H[q]?) → va_S A0 H0 H1 locs1 → W p l e R s m args below meth c H1 locs1 (cells + mc) (slots + ms) Q (F0 m (pc + 3) ls (rest))) : W p l e R s m args below meth c H locs cells slots Q (F0 m pc ls st0) := by
  intro T hT X
  rcases hr T hT X with ⟨v, st₀, t, T', L, h0, X', hL, e1, e2, ⟨⟨u, hv, hp, hb⟩, hF⟩, st⟩ | ⟨q, st₀, t, T', L, E, ce, h0, X', hL, e1, e2, ⟨u, hp, hb, hF⟩, hce, hcv, hcl, st⟩
  · cases hv
    obtain ⟨k1, k2, k3⟩ := vx_keep h0 e1 hS hA hf hL hF
    obtain ⟨t2, a1, b1⟩ := kk u t T'.heap (locs ++ L) e1.symm (by rw [← e2]; exact X'.warmed.alike) hp hb k1 k2 k3 T' rfl X'
    exact ⟨t2, st t2 a1, b1⟩
  · obtain ⟨k1, k2, k3⟩ := vx_keep h0 e1 hS hAX hf hL hF
    obtain ⟨t2, a1, b1⟩ := kx E ce q u t T'.heap (locs ++ L) e1.symm (by rw [← e2]; exact X'.warmed.alike) hp hb k1 k2 k3 (by rw [e1]; exact hce) hcv hcl T' rfl X'
    exact ⟨t2, st.trans a1, b1⟩
/-- caught by the row x of this method's table; the rows ahead don't take it -/
theorem vx_catch {own name : String} {E : String} {ce : Cell} {q : Addr} (hown : s.vm.findClass own = some m.cls) (pre : List ExceptionTableEntry) (x : ExceptionTableEntry) (suf : List ExceptionTableEntry) (hsplit : c.exceptionTable.toList = pre ++ x :: suf)
    (hpass : ∀ z ∈ pre, covers z pc = false ∨ (z.catchType ≠ 0 ∧ ∃ nm : String, (Cond.classLink own z.catchType nm).before args s = true ∧ va_Nc E nm s)) (hx : covers x pc = true) (h0 : x.catchType ≠ 0)
    (hlink : (Cond.classLink own x.catchType name).before args s = true) (hcast : (Cond.castable E name).before args s = true) (hcell : H[q]? = some ce) (hv : ce.vm = .none) (hcl : s.vm.findClass E = some ce.cls)
    (kk : W p l e R s m args below meth c H locs cells slots Q (F0 m x.handlerPc ls [.ref q])) : vx_W p l e R s m args below meth c H locs cells slots Q (F0 m pc ls rest) q := by
  intro T hT X
  have hpl : e.platform.magicAccessors = ({} : Platform).magicAccessors := by rw [X.admits.platform]
  obtain ⟨c3, c4, hc3, hc4, hasg⟩ := Cond.castable_spec hcast
  cases Option.some.inj (hc3.symm.trans hcl)
  obtain ⟨c5, hc5, hcl5⟩ := Cond.classLink_spec hown hlink e.platform hpl
  cases Option.some.inj (hc4.symm.trans hc5)
  obtain ⟨vm', X', st⟩ := X.thenCaughtThrough q (g := F0 m pc ls rest) rfl (Steps.refl _) (by rw [hT]; exact hcell) (by rw [hv]; rfl) (by obtain ⟨k9, h9, -⟩ := Vm.findClass_spec hcl; exact ⟨k9, h9⟩) pre x suf hsplit
    (fun z hz => by
      rcases hpass z hz with h | ⟨hz0, nm, hl1, hn1⟩
      · exact Or.inl h
      · obtain ⟨c6, hc6, hcl6⟩ := Cond.classLink_spec hown hl1 e.platform hpl
        obtain ⟨a8, b8, h1, h2, h3⟩ := hn1
        cases Option.some.inj (h1.symm.trans hcl)
        cases Option.some.inj (h2.symm.trans hc6)
        exact Or.inr ⟨hz0, _, hcl6, h3⟩) hx (Or.inr ⟨h0, c4, hcl5, hasg⟩)
  obtain ⟨t, a1, b1⟩ := kk (T.setVm vm') hT X'
  exact ⟨t, st.trans a1, b1⟩
end Rows
section Ends
variable {p : Program} {l : Launch} {e : Env} {R : Room} {s : State} {m : MethodId} {args : Array Value} {below : List Frame} {meth : Method} {c : Code} {H : Heap} {locs : List Loc} {cells slots : Nat} {Q : State → Prop}
variable {mc ms : Nat} {free : Addr → Prop} {A0 A1 : Nat → Prop} {H0 : Heap} {a : Array Value} {ls : Array Slot} {st0 rest : List Value}
variable {Qc : Array Value → State → Outcome → State → Prop} {XC : String → State → State → Prop}
/-- what a body that may throw owes at its end -/
def vx_MQ (below : List Frame) (Qc : Array Value → State → Outcome → State → Prop) (XC : String → State → State → Prop) (a : Array Value) (s : State) (mc ms : Nat) (free : Addr → Prop) : State → Prop := fun t =>
  ∃ o, t.status = .running ∧ Ended t below o ∧ vx_Q Qc XC mc ms free a s o t
theorem vx_ret {g : JFrame} {mc ms : Nat} (k : W p l e R s m args below meth c H locs cells slots (MQ below Qc args s mc ms free) g) : W p l e R s m args below meth c H locs cells slots (vx_MQ below Qc XC args s mc ms free) g := by
  intro T hT X
  obtain ⟨t, a1, o, b1, b2, b3, b4⟩ := k T hT X
  exact ⟨t, a1, o, b1, b2, Or.inl ⟨b3, b4⟩⟩
/-- not caught here: it goes on to the caller -/
theorem vx_widen {g : JFrame} {q : Addr} {k n : Nat} (h1 : cells ≤ k) (h2 : slots ≤ n) (kk : vx_W p l e R s m args below meth c H locs k n Q g q) : vx_W p l e R s m args below meth c H locs cells slots Q g q := fun T hT X => kk T hT (stand_widen X h1 h2)
theorem vx_out {pc : Nat} {E : String} {ce : Cell} {q : Addr} {mc ms : Nat} (hout : ∀ x ∈ c.exceptionTable.toList, covers x pc = false) (hlocks : meth.locks = false) (hcell : H[q]? = some ce) (hv : ce.vm = .none) (hcl : s.vm.findClass E = some ce.cls)
    (hx : ∀ t : State, t.heap = H → s.vm.Alike t.vm → XC E s t) (hf : ∀ z ∈ locs, free z.base) (hc : cells ≤ mc) (hs : slots ≤ ms) :
    vx_W p l e R s m args below meth c H locs cells slots (vx_MQ below Qc XC args s mc ms free) (F0 m pc ls rest) q := by
  intro T hT X
  obtain ⟨st1, hrun, hend, hW, hsm⟩ := X.leaveThrown q (g := F0 m pc ls rest) rfl rfl rfl hout hlocks
  have hcell9 : (T.setFrames (.throwing q :: below)).heap[q]? = some ce := by
    show T.heap[q]? = some ce
    rw [hT]; exact hcell
  exact ⟨_, st1, .threw q, hrun, hend, Or.inr ⟨q, rfl, E, ce, locs, hx _ hT hW.alike, hcell9, hv, hcl, hW, hsm.mono hc hs, hf⟩⟩
theorem vx_frame {U : State} {k n : Nat} (h : s.sameButNew ({ U with vm := s.vm } : State) locs k n) : s.heap.size ≤ U.heap.size ∧ ∀ q : Nat, q < s.heap.size → (∀ z ∈ locs, z.base ≠ q) → U.heap[q]? = s.heap[q]? := by
  obtain ⟨-, h2, -, -, -, h6⟩ := h
  refine ⟨h2, fun q hq hz => ?_⟩
  obtain ⟨c9, e1, e2, e3, e4⟩ := h6 q _ (Array.getElem?_eq_getElem hq)
  have hs : c9.slots = (s.heap[q]).slots := Array.ext_getElem? fun i => e4 i fun hm => hz _ hm rfl
  have h9 : c9 = s.heap[q] := by
    rw [hs] at e2
    exact e2
  have e5 : U.heap[q]? = some c9 := e1
  rw [e5, h9, Array.getElem?_eq_getElem hq]
/-- the words of a throw but the four that speak of the heap -/
def vx_no (w : Cond) : Bool := decide (w ≠ .isRef (.static Bundle.tN "UNASSIGNED_STACK" Bundle.steD)) && decide (w ≠ .isRef (.static Bundle.tN "SUPPRESSED_SENTINEL" Bundle.listD)) && decide (w ≠ .laysStatic Bundle.tN "UNASSIGNED_STACK" Bundle.steD) && decide (w ≠ .laysStatic Bundle.tN "SUPPRESSED_SENTINEL" Bundle.listD)
def vx_at0 (own : String) (ic : Nat) (X : String) (names : List String) : List Cond := (Bundle.ownAtoms0 own ic X names).filter vx_no
def vx_atS (own : String) (ic : Nat) (X : String) (names : List String) : List Cond := (Bundle.ownAtoms own ic X names).filter vx_no
/-- a word that the tables alone decide, or a good one -/
def vx_ot (w : Cond) : Bool := w.onTables || goodWord w
theorem vx_ot_at {args a' : Array Value} {s U : State} {w : Cond} (hW : s.WarmedH U.vm) (hvm : s.vm = U.vm) (hg : vx_ot w = true) (h : w.before args s = true) : w.before a' U = true := by
  simp only [vx_ot, Bool.or_eq_true] at hg
  rcases hg with hg | hg
  · exact va_tabs hg hvm h
  · exact word_at hW (good_of_word hg) h
/-- a list's words: the good ones out of the method's own list, the others by premises of their own -/
theorem vx_hat {args : Array Value} {s : State} {L B : List Cond} (h1 : ∀ w ∈ L.filter goodWord, w.before args s = true) (h2 : ∀ w ∈ L.filter (fun w => !goodWord w), w ∈ B) (h3 : ∀ w ∈ B, w.before args s = true) : ∀ w ∈ L, w.before args s = true := by
  intro w hw
  by_cases g : goodWord w = true
  · exact h1 w (List.mem_filter.mpr ⟨hw, g⟩)
  · refine h3 w (h2 w (List.mem_filter.mpr ⟨hw, ?_⟩))
    show (!goodWord w) = true
    cases hgw : goodWord w
    · rfl
    · exact absurd hgw g
theorem vx_c {args : Array Value} {s : State} {w : Cond} {B : List Cond} (h : w.before args s = true) (t : ∀ w ∈ B, w.before args s = true) : ∀ w' ∈ w :: B, w'.before args s = true := fun w' h' => (List.mem_cons.mp h').elim (fun e => by rw [e]; exact h) (t w')
theorem vx_n {args : Array Value} {s : State} : ∀ w ∈ ([] : List Cond), w.before args s = true := fun _ h => nomatch h
theorem vx_own {args : Array Value} {s : State} {L : List Cond} (h1 : ∀ w ∈ L.filter vx_no, w.before args s = true)
    (hU : (Cond.isRef (.static Bundle.tN "UNASSIGNED_STACK" Bundle.steD)).before args s = true) (hN : (Cond.isRef (.static Bundle.tN "SUPPRESSED_SENTINEL" Bundle.listD)).before args s = true)
    (lU : (Cond.laysStatic Bundle.tN "UNASSIGNED_STACK" Bundle.steD).before args s = true) (lN : (Cond.laysStatic Bundle.tN "SUPPRESSED_SENTINEL" Bundle.listD).before args s = true) : ∀ w ∈ L, w.before args s = true := by
  intro w hw
  by_cases e1 : w = .isRef (.static Bundle.tN "UNASSIGNED_STACK" Bundle.steD)
  · rw [e1]; exact hU
  · by_cases e2 : w = .isRef (.static Bundle.tN "SUPPRESSED_SENTINEL" Bundle.listD)
    · rw [e2]; exact hN
    · by_cases e3 : w = .laysStatic Bundle.tN "UNASSIGNED_STACK" Bundle.steD
      · rw [e3]; exact lU
      · by_cases e4 : w = .laysStatic Bundle.tN "SUPPRESSED_SENTINEL" Bundle.listD
        · rw [e4]; exact lN
        · exact h1 w (List.mem_filter.mpr ⟨hw, by unfold vx_no; rw [decide_eq_true e1, decide_eq_true e2, decide_eq_true e3, decide_eq_true e4]; rfl⟩)
/-- where a static field lies, its class's statics cell in H -/
def vx_L (C n d : String) (A : Nat → Prop) (U : State) (H : Heap) : Prop := ∃ (c : ClassId) (k : Class) (i : Nat) (f : Field) (a : Nat) (cell : Cell), U.vm.findClass C = some c ∧ U.fieldFound? C n d = some (c, k, i, f) ∧ f.isStatic = true ∧ k.statics = some a ∧ H[a]? = some cell ∧ cell.vm.isStatics = true ∧ cell.cls = c ∧ f.slot < cell.slots.size ∧ k.staticTypes[f.slot]? = some f.type ∧ ¬ A a
theorem vx_L.moved {C n d : String} {A : Nat → Prop} {u U : State} {H : Heap} (hvm : u.vm.Alike U.vm) (h : vx_L C n d A u H) : vx_L C n d A U H := by
  obtain ⟨c, k, i, f, a, cell, h1, h2, h3, h4, h5, h6, h7, h8, h9, h10⟩ := h
  obtain ⟨k', hi', he⟩ := State.fieldFound?_setVm hvm h2
  exact ⟨c, k', i, f, a, cell, by rw [hvm.findClass]; exact h1, hi', h3, by rw [he]; exact h4, h5, h6, h7, h8, by rw [he]; exact h9, h10⟩
theorem vx_L.kept {C n d : String} {A : Nat → Prop} {U : State} {H H1 : Heap} (h : vx_L C n d A U H) (hq : ∀ a : Nat, a < H.size → ¬ A a → H1[a]? = H[a]?) : vx_L C n d A U H1 := by
  obtain ⟨c, k, i, f, a, cell, h1, h2, h3, h4, h5, h6, h7, h8, h9, h10⟩ := h
  exact ⟨c, k, i, f, a, cell, h1, h2, h3, h4, by rw [hq a (Array.getElem?_eq_some_iff.mp h5).1 h10]; exact h5, h6, h7, h8, h9, h10⟩
theorem vx_L.narrow {C n d : String} {A B : Nat → Prop} {U : State} {H : Heap} (h : vx_L C n d A U H) (hAB : ∀ q, B q → A q) : vx_L C n d B U H := by
  obtain ⟨c, k, i, f, a, cell, h1, h2, h3, h4, h5, h6, h7, h8, h9, h10⟩ := h
  exact ⟨c, k, i, f, a, cell, h1, h2, h3, h4, h5, h6, h7, h8, h9, fun z => h10 (hAB _ z)⟩
theorem vx_L.word {C n d : String} {A : Nat → Prop} {s : State} {args : Array Value} (h : vx_L C n d A s s.heap) : (Cond.laysStatic C n d).before args s = true := by
  obtain ⟨c, k, i, f, a, cell, h1, h2, h3, h4, h5, h6, h7, h8, h9, -⟩ := h
  show (Cond.laysStatic C n d).holds args s none s [] = true
  exact Cond.laysStatic_of h1 h2 h3 h4 h5 h6 h7 h8 h9
/-- .. and what it holds: null or some reference -/
def vx_Zq (C n d : String) (A : Nat → Prop) (U : State) (H : Heap) : Prop := va_Zq C n d A U H ∧ vx_L C n d A U H
theorem vx_Zq.moved {C n d : String} {A : Nat → Prop} {u U : State} {H : Heap} (hvm : u.vm.Alike U.vm) (h : vx_Zq C n d A u H) : vx_Zq C n d A U H := ⟨va_Zq.moved hvm h.1, vx_L.moved hvm h.2⟩
theorem vx_Zq.kept {C n d : String} {A : Nat → Prop} {U : State} {H H1 : Heap} (h : vx_Zq C n d A U H) (hq : ∀ a : Nat, a < H.size → ¬ A a → H1[a]? = H[a]?) : vx_Zq C n d A U H1 := ⟨va_Zq.kept h.1 hq, vx_L.kept h.2 hq⟩
theorem vx_Zq.narrow {C n d : String} {A B : Nat → Prop} {U : State} {H : Heap} (h : vx_Zq C n d A U H) (hAB : ∀ q, B q → A q) : vx_Zq C n d B U H := ⟨va_Zq.narrow h.1 hAB, vx_L.narrow h.2 hAB⟩
theorem vx_Zqof {args : Array Value} {s : State} {C n d : String} {A : Nat → Prop} (hl : (Cond.laysStatic C n d).before args s = true) (hini : (Cond.initialized C).before args s = true) (h : (Cond.isRef (.static C n d)).before args s = true) (hA : ∀ a : Nat, a < s.heap.size → ¬ A a) : vx_Zq C n d A s s.heap := by
  refine ⟨va_Zqof hl hini h hA, ?_⟩
  obtain ⟨c, k, i, f, a, cell, h1, h2, h3, h4, h5, h6, h7, h8, h9⟩ := Cond.laysStatic_spec hl
  exact ⟨c, k, i, f, a, cell, h1, h2, h3, h4, h5, h6, h7, h8, h9, hA a (Array.getElem?_eq_some_iff.mp h5).1⟩
theorem vx_isRef {C n d : String} {v : Value} {A : Nat → Prop} {s : State} {args : Array Value} (h : va_Z C n d v A s s.heap) (hv : v.isRef = true) : (Cond.isRef (.static C n d)).before args s = true := by
  obtain ⟨cf, kf, fi, f, a, cell, h1, h2, h3, h4, h5, h6, h7, -⟩ := h
  have he : (Term.static C n d).eval args s none [] s = some v := by
    simp [Term.eval, State.fieldNamed?, h1, h2, h4, h5, h6, h7]
  simp only [Cond.before, Cond.holds, Cond.value, he]
  cases v <;> simp_all [Value.isRef]
theorem vx_isRefq {C n d : String} {A : Nat → Prop} {s : State} {args : Array Value} (h : va_Zq C n d A s s.heap) : (Cond.isRef (.static C n d)).before args s = true := by
  rcases h with h | ⟨t, h⟩
  · exact vx_isRef h rfl
  · exact vx_isRef h rfl
/-- the same frame, seen from here: as if the method were called anew in this heap -/
theorem vx_rebase {T : State} (X : Stand p l e R s m args below meth c T locs cells slots) {R' : Room} (hf : R'.frames ≤ R.frames) (hl : R'.locals ≤ R.locals) (hc : cells + R'.cells ≤ R.cells) (hs : slots + R'.slots ≤ R.slots) :
    Stand p l e R' ((T.setVm s.vm).setFrames (.invoking m args :: below)) m args below meth c T [] 0 0 := by
  have htop : (T.setVm s.vm).topJava?.isSome := X.here.top
  have hF : ((T.setVm s.vm).setFrames (.invoking m args :: below)).frames = .invoking m args :: below := State.frames_setFrames _ (State.cur_lt_of_top htop)
  obtain ⟨g₀, hg0⟩ := Option.isSome_iff_exists.mp htop
  obtain ⟨r, hr⟩ := State.topJava?_eq_some.mp hg0
  have hl9 : e.platform.stackLimits (T.setVm s.vm).me = e.platform.stackLimits s.me := X.limits
  have hb9 : (T.setVm s.vm).me.stackBytes = s.me.stackBytes := X.bytes
  refine ⟨X.admits, X.cas, X.clock, hF, ?_, X.hears, X.method, X.code, X.here, X.tail, X.warmed, ?_, ?_, ?_⟩
  · have h := X.room
    have hU : ((T.setVm s.vm).setFrames (.invoking m args :: below)).localsInUse = s.localsInUse := by
      rw [State.localsInUse_invoking hF (meth := meth) (c := c) X.method X.code, State.localsInUse_invoking X.frames X.method X.code]
    simp only [State.hasRoom, Bool.and_eq_true, decide_eq_true_eq] at h ⊢
    obtain ⟨⟨⟨⟨h1, h2, h3, h4, h5, h6⟩, h7⟩, h8⟩, h9⟩ := h
    rw [X.frames, List.length_cons] at h2 h3
    have q1 := X.heapSize
    have q2 := X.used
    simp only [hF, hU, List.length_cons, State.stackLimits_setFrames, State.stackBytes_setFrames, hl9, hb9]
    refine ⟨⟨⟨⟨by omega, by omega, by omega, by omega, by omega, h6⟩, ?_⟩, ?_⟩, X.book⟩
    · show T.heap.size + R'.cells ≤ e.platform.maxCells
      omega
    · show T.slotsUsed + R'.slots ≤ e.platform.maxSlots
      omega
  · rw [State.stackLimits_setFrames]; rfl
  · rw [State.stackBytes_setFrames]; rfl
  · refine ⟨?_, Nat.le_refl _, Nat.le_refl _, ?_, ?_, fun a c9 h9 => ⟨c9, h9, rfl, rfl, fun _ _ => rfl⟩⟩
    · obtain ⟨t, ht, -⟩ := State.frames_cons hr
      show T.setVm s.vm = { ((T.setVm s.vm).setFrames (.invoking m args :: below)).setFrames (T.setVm s.vm).frames with heap := T.heap, slotsUsed := T.slotsUsed }
      rw [State.setFrames_setFrames, State.setFrames_self ht]
      rfl
    · show T.slotsUsed = T.slotsUsed + ((T.heap.toList.drop T.heap.size).map (·.slots.size)).sum
      rw [List.drop_eq_nil_of_le (Nat.le_of_eq Array.length_toList)]
      rfl
    · show ((T.heap.toList.drop T.heap.size).map (·.slots.size)).sum ≤ 0
      rw [List.drop_eq_nil_of_le (Nat.le_of_eq Array.length_toList)]
      exact Nat.le_refl _
/-- 'throw new E()': new; dup; invokespecial; athrow -/
theorem vx_throw0 {cc : ByteArray} {pc : Nat} (hexec : p.tables.exec = Jvm.exec) (hb : c.code = cc) (hl : l.stackTraces = false) {own cls : String} {names : List String} {ik ic mc ms : Nat} {A : Nat → Prop}
    (hown : s.vm.findClass own = some m.cls) (hcls : Bundle.fit cls = true) (hnames : ∀ n ∈ names, Bundle.fit n = true)
    (hk : (Cond.classLink own ik cls).before args s = true) (hini : (Cond.initialized cls).before args s = true) (hat : ∀ w ∈ vx_at0 own ic cls names, w.before args s = true)
    (hgood : ∀ w ∈ Cond.classLink own ik cls :: Cond.initialized cls :: vx_at0 own ic cls names, vx_ot w = true)
    (hU : vx_Zq Bundle.tN "UNASSIGNED_STACK" Bundle.steD A s s.heap) (hN : vx_Zq Bundle.tN "SUPPRESSED_SENTINEL" Bundle.listD A s s.heap) (hS : va_S A s.heap H locs) (hsize : ls.size = c.maxLocals)
    (d0 : decode cc pc = .ok (.new ik, 3)) (d3 : decode cc (pc + 3) = .ok (.dup, 1)) (d4 : decode cc (pc + 4) = .ok (.invokespecial ic, 3)) (d7 : decode cc (pc + 7) = .ok (.athrow, 1))
    (hout : ∀ x ∈ c.exceptionTable.toList, covers x (pc + 7) = false)
    (hRframes : names.length + 3 < R.frames) (hRlocals : (rest.map fun v => v.category).sum + (13 * (names.length + 1) + 42) ≤ R.locals) (hRcells : cells + 1 ≤ R.cells) (hRslots : slots + 6 ≤ R.slots) (hlocks : meth.locks = false)
    (hx : ∀ t : State, s.vm.Alike t.vm → H.size ≤ t.heap.size → (∀ q : Nat, q < H.size → t.heap[q]? = H[q]?) → XC cls s t)
    (hf : ∀ z ∈ locs, free z.base) (hc : cells + 1 ≤ mc) (hs : slots + 6 ≤ ms) :
    W p l e R s m args below meth c H locs cells slots (vx_MQ below Qc XC args s mc ms free) (F0 m pc ls rest) := by
  intro T hT X
  have htr : e.platform.stackTraces = false := (show e.platform.stackTraces = l.stackTraces by rw [X.admits.platform]).trans hl
  have Y := vx_rebase X (R' := { frames := R.frames, locals := R.locals, cells := 1, slots := 6 }) (Nat.le_refl _) (Nat.le_refl _) hRcells hRslots
  obtain ⟨s', hA⟩ : ∃ z, z = (T.setVm s.vm).setFrames (.invoking m args :: below) := ⟨_, rfl⟩
  rw [← hA] at Y
  have hvm : s'.vm = s.vm := by rw [hA]; rfl
  have hhp : s'.heap = H := by rw [hA]; exact hT
  have hW0 : s.WarmedH s'.vm := by rw [hvm]; exact State.WarmedH.refl s
  have hat' : ∀ w ∈ vx_at0 own ic cls names, w.before args s' = true := fun w hw => vx_ot_at hW0 hvm.symm (hgood w (List.mem_cons_of_mem _ (List.mem_cons_of_mem _ hw))) (hat w hw)
  have hk' : (Cond.classLink own ik cls).before args s' = true := vx_ot_at hW0 hvm.symm (hgood _ List.mem_cons_self) hk
  have hini' : (Cond.initialized cls).before args s' = true := vx_ot_at hW0 hvm.symm (hgood _ (List.mem_cons_of_mem _ List.mem_cons_self)) hini
  have hU' : vx_Zq Bundle.tN "UNASSIGNED_STACK" Bundle.steD A s' s'.heap := by rw [hhp]; exact vx_Zq.moved hW0.alike (hU.kept hS.2.1)
  have hN' : vx_Zq Bundle.tN "SUPPRESSED_SENTINEL" Bundle.listD A s' s'.heap := by rw [hhp]; exact vx_Zq.moved hW0.alike (hN.kept hS.2.1)
  have h : ∀ w ∈ Bundle.ownAtoms0 own ic cls names, w.before args s' = true := vx_own hat' (vx_isRefq hU'.1) (vx_isRefq hN'.1) hU'.2.word hN'.2.word
  have hown' : s'.vm.findClass own = some m.cls := by rw [hvm]; exact hown
  have hins : (Cond.instantiable cls 6).before args s' = true := h _ (by simp [Bundle.ownAtoms0])
  obtain ⟨vm₁, cX, kX, hfX, hkX, -, -, X₁, st1⟩ := Y.newCold hexec (own := own) (C := cls) (index := ik) (n := 6) hown' hk' hins hini'
    (g := F0 m pc ls rest) rfl (by rw [hb]; exact d0) (Nat.le_refl _) (Nat.le_refl _)
  generalize hT1 : (T.setVm vm₁).pushCell { cls := cX, slots := kX.instanceTypes.map defaultValue, vm := .none } = T1 at X₁ st1
  have hcat : (Value.ref T.heap.size).category = 1 := rfl
  have hcellA : T1.heap[T.heap.size]? = some (freshCell cX kX) := by rw [← hT1]; exact State.heap_pushCell_size _ _
  have d3' : decode c.code (pc + 3) = .ok (.dup, 1) := by rw [hb]; exact d3
  obtain ⟨U, hsteps, hrun, hend, hW, hsame, ce, hce, hO⟩ := X₁.ctorThrow0 hexec htr (own := own) (cls := cls) (names := names) (ic := ic) hown' hcls hnames h (fun x hx => nomatch hx) hfX hkX hcellA (by rw [hhp, hT]; exact Nat.le_refl _)
    (g := { method := m, pc := pc + 4, locals := ls, stack := .ref T.heap.size :: .ref T.heap.size :: rest, locked := none }) rfl hsize rfl rfl (rest := rest) rfl
    (by rw [hb]; exact d4) (by rw [hb]; exact d7) hout hRframes (by simp only [List.map_cons, List.sum_cons, hcat]; omega) hlocks
  obtain ⟨f1, f2⟩ := vx_frame hsame
  rw [hhp] at f1 f2
  have hWs : s.WarmedH U.vm := State.WarmedH.trans hW0 hW
  have hcl : s.vm.findClass cls = some ce.cls := by
    have h9 := hO.cls
    rw [hvm] at h9
    exact h9
  have hall : s.sameButNew ({ U with vm := s.vm } : State) locs mc ms := by
    subst hA
    obtain ⟨e1, e2⟩ := hsame
    rw [State.setFrames_setFrames] at e1
    have h2 : (T.setVm s.vm).sameButNew ({ U with vm := s.vm } : State) [] (0 + 1) (0 + 6) := ⟨e1, e2⟩
    have h3 := X.same.trans h2
    rw [List.append_nil] at h3
    exact h3.mono hc hs
  refine ⟨U, ?_, .threw T.heap.size, hrun, hend, Or.inr ⟨T.heap.size, rfl, cls, ce, locs, hx U hWs.alike f1 (fun q hq => f2 q hq (fun z hz => nomatch hz)), hce, hO.vm, hcl, hWs, hall, hf⟩⟩
  refine st1 _ ?_
  show Steps p.tables e below (T1.setTop { method := m, pc := pc + 3, locals := ls, stack := .ref T.heap.size :: rest, locked := none }) _
  jvm_step X₁.here [X₁.here.top, hexec, d3', Value.category]
  exact hsteps
/-- 'throw new E("text")': new; dup; ldc; invokespecial; athrow -/
theorem vx_throwS {cc : ByteArray} {pc : Nat} (hexec : p.tables.exec = Jvm.exec) (hb : c.code = cc) (hl : l.stackTraces = false) {own cls text : String} {names : List String} {ik is ic mc ms sa : Nat} {A : Nat → Prop}
    (hown : s.vm.findClass own = some m.cls) (hcls : Bundle.fit cls = true) (hnames : ∀ n ∈ names, Bundle.fit n = true)
    (hk : (Cond.classLink own ik cls).before args s = true) (hini : (Cond.initialized cls).before args s = true) (hstr : vk_R own is text sa s) (hat : ∀ w ∈ vx_atS own ic cls names, w.before args s = true)
    (hgood : ∀ w ∈ Cond.classLink own ik cls :: Cond.initialized cls :: vx_atS own ic cls names, vx_ot w = true)
    (hU : vx_Zq Bundle.tN "UNASSIGNED_STACK" Bundle.steD A s s.heap) (hN : vx_Zq Bundle.tN "SUPPRESSED_SENTINEL" Bundle.listD A s s.heap) (hS : va_S A s.heap H locs) (hsize : ls.size = c.maxLocals)
    (d0 : decode cc pc = .ok (.new ik, 3)) (d3 : decode cc (pc + 3) = .ok (.dup, 1)) (d4 : decode cc (pc + 4) = .ok (.ldc is, 2)) (d6 : decode cc (pc + 6) = .ok (.invokespecial ic, 3)) (d9 : decode cc (pc + 9) = .ok (.athrow, 1))
    (hout : ∀ x ∈ c.exceptionTable.toList, covers x (pc + 9) = false)
    (hRframes : names.length + 3 < R.frames) (hRlocals : (rest.map fun v => v.category).sum + (13 * (names.length + 1) + 43) ≤ R.locals) (hRcells : cells + 1 ≤ R.cells) (hRslots : slots + 6 ≤ R.slots) (hlocks : meth.locks = false)
    (hx : ∀ t : State, s.vm.Alike t.vm → H.size ≤ t.heap.size → (∀ q : Nat, q < H.size → t.heap[q]? = H[q]?) → XC cls s t)
    (hf : ∀ z ∈ locs, free z.base) (hc : cells + 1 ≤ mc) (hs : slots + 6 ≤ ms) :
    W p l e R s m args below meth c H locs cells slots (vx_MQ below Qc XC args s mc ms free) (F0 m pc ls rest) := by
  intro T hT X
  have htr : e.platform.stackTraces = false := (show e.platform.stackTraces = l.stackTraces by rw [X.admits.platform]).trans hl
  have Y := vx_rebase X (R' := { frames := R.frames, locals := R.locals, cells := 1, slots := 6 }) (Nat.le_refl _) (Nat.le_refl _) hRcells hRslots
  obtain ⟨s', hA⟩ : ∃ z, z = (T.setVm s.vm).setFrames (.invoking m args :: below) := ⟨_, rfl⟩
  rw [← hA] at Y
  have hvm : s'.vm = s.vm := by rw [hA]; rfl
  have hhp : s'.heap = H := by rw [hA]; exact hT
  have hW0 : s.WarmedH s'.vm := by rw [hvm]; exact State.WarmedH.refl s
  have hat' : ∀ w ∈ vx_atS own ic cls names, w.before args s' = true := fun w hw => vx_ot_at hW0 hvm.symm (hgood w (List.mem_cons_of_mem _ (List.mem_cons_of_mem _ hw))) (hat w hw)
  have hk' : (Cond.classLink own ik cls).before args s' = true := vx_ot_at hW0 hvm.symm (hgood _ List.mem_cons_self) hk
  have hini' : (Cond.initialized cls).before args s' = true := vx_ot_at hW0 hvm.symm (hgood _ (List.mem_cons_of_mem _ List.mem_cons_self)) hini
  have hU' : vx_Zq Bundle.tN "UNASSIGNED_STACK" Bundle.steD A s' s'.heap := by rw [hhp]; exact vx_Zq.moved hW0.alike (hU.kept hS.2.1)
  have hN' : vx_Zq Bundle.tN "SUPPRESSED_SENTINEL" Bundle.listD A s' s'.heap := by rw [hhp]; exact vx_Zq.moved hW0.alike (hN.kept hS.2.1)
  have h : ∀ w ∈ Bundle.ownAtoms own ic cls names, w.before args s' = true := vx_own hat' (vx_isRefq hU'.1) (vx_isRefq hN'.1) hU'.2.word hN'.2.word
  have hown' : s'.vm.findClass own = some m.cls := by rw [hvm]; exact hown
  have hins : (Cond.instantiable cls 6).before args s' = true := h _ (by simp [Bundle.ownAtoms])
  obtain ⟨vm₁, cX, kX, hfX, hkX, -, -, X₁, st1⟩ := Y.newCold hexec (own := own) (C := cls) (index := ik) (n := 6) hown' hk' hins hini'
    (g := F0 m pc ls rest) rfl (by rw [hb]; exact d0) (Nat.le_refl _) (Nat.le_refl _)
  generalize hT1 : (T.setVm vm₁).pushCell { cls := cX, slots := kX.instanceTypes.map defaultValue, vm := .none } = T1 at X₁ st1
  have hcat : (Value.ref T.heap.size).category = 1 := rfl
  have hcellA : T1.heap[T.heap.size]? = some (freshCell cX kX) := by rw [← hT1]; exact State.heap_pushCell_size _ _
  have d3' : decode c.code (pc + 3) = .ok (.dup, 1) := by rw [hb]; exact d3
  have d4' : decode c.code (pc + 4) = .ok (.ldc is, 2) := by rw [hb]; exact d4
  have hstr' : vk_R own is text sa s' := vk_R.warm hW0 hstr
  obtain ⟨U, hsteps, hrun, hend, hW, hsame, ce, hce, hO⟩ := X₁.ctorThrowS hexec htr (own := own) (cls := cls) (names := names) (ic := ic) hown' hcls hnames h (fun x hx => nomatch hx) hfX hkX hcellA (by rw [hhp, hT]; exact Nat.le_refl _) (msg := .ref sa) rfl
    (g := { method := m, pc := pc + 6, locals := ls, stack := .ref sa :: .ref T.heap.size :: .ref T.heap.size :: rest, locked := none }) rfl hsize rfl rfl (rest := rest) rfl
    (by rw [hb]; exact d6) (by rw [hb]; exact d9) hout hRframes (by simp only [List.map_cons, List.sum_cons, hcat]; omega) hlocks
  obtain ⟨f1, f2⟩ := vx_frame hsame
  rw [hhp] at f1 f2
  have hWs : s.WarmedH U.vm := State.WarmedH.trans hW0 hW
  have hcl : s.vm.findClass cls = some ce.cls := by
    have h9 := hO.cls
    rw [hvm] at h9
    exact h9
  have hall : s.sameButNew ({ U with vm := s.vm } : State) locs mc ms := by
    subst hA
    obtain ⟨e1, e2⟩ := hsame
    rw [State.setFrames_setFrames] at e1
    have h2 : (T.setVm s.vm).sameButNew ({ U with vm := s.vm } : State) [] (0 + 1) (0 + 6) := ⟨e1, e2⟩
    have h3 := X.same.trans h2
    rw [List.append_nil] at h3
    exact h3.mono hc hs
  refine ⟨U, ?_, .threw T.heap.size, hrun, hend, Or.inr ⟨T.heap.size, rfl, cls, ce, locs, hx U hWs.alike f1 (fun q hq => f2 q hq (fun z hz => nomatch hz)), hce, hO.vm, hcl, hWs, hall, hf⟩⟩
  refine st1 _ ?_
  show Steps p.tables e below (T1.setTop { method := m, pc := pc + 3, locals := ls, stack := .ref T.heap.size :: rest, locked := none }) _
  jvm_step X₁.here [X₁.here.top, hexec, d3', Value.category]
  exact X₁.ldcString hexec (own := own) (text := text) (index := is) (a := sa) hown' hstr'.1 hstr'.2
    (g := { method := m, pc := pc + 4, locals := ls, stack := .ref T.heap.size :: .ref T.heap.size :: rest, locked := none }) rfl d4' _ hsteps
/-- 'throw new E("text")', the text by a wide index -/
theorem vx_throwSW {cc : ByteArray} {pc : Nat} (hexec : p.tables.exec = Jvm.exec) (hb : c.code = cc) (hl : l.stackTraces = false) {own cls text : String} {names : List String} {ik is ic mc ms sa : Nat} {A : Nat → Prop}
    (hown : s.vm.findClass own = some m.cls) (hcls : Bundle.fit cls = true) (hnames : ∀ n ∈ names, Bundle.fit n = true)
    (hk : (Cond.classLink own ik cls).before args s = true) (hini : (Cond.initialized cls).before args s = true) (hstr : vk_R own is text sa s) (hat : ∀ w ∈ vx_atS own ic cls names, w.before args s = true)
    (hgood : ∀ w ∈ Cond.classLink own ik cls :: Cond.initialized cls :: vx_atS own ic cls names, vx_ot w = true)
    (hU : vx_Zq Bundle.tN "UNASSIGNED_STACK" Bundle.steD A s s.heap) (hN : vx_Zq Bundle.tN "SUPPRESSED_SENTINEL" Bundle.listD A s s.heap) (hS : va_S A s.heap H locs) (hsize : ls.size = c.maxLocals)
    (d0 : decode cc pc = .ok (.new ik, 3)) (d3 : decode cc (pc + 3) = .ok (.dup, 1)) (d4 : decode cc (pc + 4) = .ok (.ldc_w is, 3)) (d7 : decode cc (pc + 7) = .ok (.invokespecial ic, 3)) (d10 : decode cc (pc + 10) = .ok (.athrow, 1))
    (hout : ∀ x ∈ c.exceptionTable.toList, covers x (pc + 10) = false)
    (hRframes : names.length + 3 < R.frames) (hRlocals : (rest.map fun v => v.category).sum + (13 * (names.length + 1) + 43) ≤ R.locals) (hRcells : cells + 1 ≤ R.cells) (hRslots : slots + 6 ≤ R.slots) (hlocks : meth.locks = false)
    (hx : ∀ t : State, s.vm.Alike t.vm → H.size ≤ t.heap.size → (∀ q : Nat, q < H.size → t.heap[q]? = H[q]?) → XC cls s t)
    (hf : ∀ z ∈ locs, free z.base) (hc : cells + 1 ≤ mc) (hs : slots + 6 ≤ ms) :
    W p l e R s m args below meth c H locs cells slots (vx_MQ below Qc XC args s mc ms free) (F0 m pc ls rest) := by
  intro T hT X
  have htr : e.platform.stackTraces = false := (show e.platform.stackTraces = l.stackTraces by rw [X.admits.platform]).trans hl
  have Y := vx_rebase X (R' := { frames := R.frames, locals := R.locals, cells := 1, slots := 6 }) (Nat.le_refl _) (Nat.le_refl _) hRcells hRslots
  obtain ⟨s', hA⟩ : ∃ z, z = (T.setVm s.vm).setFrames (.invoking m args :: below) := ⟨_, rfl⟩
  rw [← hA] at Y
  have hvm : s'.vm = s.vm := by rw [hA]; rfl
  have hhp : s'.heap = H := by rw [hA]; exact hT
  have hW0 : s.WarmedH s'.vm := by rw [hvm]; exact State.WarmedH.refl s
  have hat' : ∀ w ∈ vx_atS own ic cls names, w.before args s' = true := fun w hw => vx_ot_at hW0 hvm.symm (hgood w (List.mem_cons_of_mem _ (List.mem_cons_of_mem _ hw))) (hat w hw)
  have hk' : (Cond.classLink own ik cls).before args s' = true := vx_ot_at hW0 hvm.symm (hgood _ List.mem_cons_self) hk
  have hini' : (Cond.initialized cls).before args s' = true := vx_ot_at hW0 hvm.symm (hgood _ (List.mem_cons_of_mem _ List.mem_cons_self)) hini
  have hU' : vx_Zq Bundle.tN "UNASSIGNED_STACK" Bundle.steD A s' s'.heap := by rw [hhp]; exact vx_Zq.moved hW0.alike (hU.kept hS.2.1)
  have hN' : vx_Zq Bundle.tN "SUPPRESSED_SENTINEL" Bundle.listD A s' s'.heap := by rw [hhp]; exact vx_Zq.moved hW0.alike (hN.kept hS.2.1)
  have h : ∀ w ∈ Bundle.ownAtoms own ic cls names, w.before args s' = true := vx_own hat' (vx_isRefq hU'.1) (vx_isRefq hN'.1) hU'.2.word hN'.2.word
  have hown' : s'.vm.findClass own = some m.cls := by rw [hvm]; exact hown
  have hins : (Cond.instantiable cls 6).before args s' = true := h _ (by simp [Bundle.ownAtoms])
  obtain ⟨vm₁, cX, kX, hfX, hkX, -, -, X₁, st1⟩ := Y.newCold hexec (own := own) (C := cls) (index := ik) (n := 6) hown' hk' hins hini'
    (g := F0 m pc ls rest) rfl (by rw [hb]; exact d0) (Nat.le_refl _) (Nat.le_refl _)
  generalize hT1 : (T.setVm vm₁).pushCell { cls := cX, slots := kX.instanceTypes.map defaultValue, vm := .none } = T1 at X₁ st1
  have hcat : (Value.ref T.heap.size).category = 1 := rfl
  have hcellA : T1.heap[T.heap.size]? = some (freshCell cX kX) := by rw [← hT1]; exact State.heap_pushCell_size _ _
  have d3' : decode c.code (pc + 3) = .ok (.dup, 1) := by rw [hb]; exact d3
  have d4' : decode c.code (pc + 4) = .ok (.ldc_w is, 3) := by rw [hb]; exact d4
  have hstr' : vk_R own is text sa s' := vk_R.warm hW0 hstr
  obtain ⟨U, hsteps, hrun, hend, hW, hsame, ce, hce, hO⟩ := X₁.ctorThrowS hexec htr (own := own) (cls := cls) (names := names) (ic := ic) hown' hcls hnames h (fun x hx => nomatch hx) hfX hkX hcellA (by rw [hhp, hT]; exact Nat.le_refl _) (msg := .ref sa) rfl
    (g := { method := m, pc := pc + 7, locals := ls, stack := .ref sa :: .ref T.heap.size :: .ref T.heap.size :: rest, locked := none }) rfl hsize rfl rfl (rest := rest) rfl
    (by rw [hb]; exact d7) (by rw [hb]; exact d10) hout hRframes (by simp only [List.map_cons, List.sum_cons, hcat]; omega) hlocks
  obtain ⟨f1, f2⟩ := vx_frame hsame
  rw [hhp] at f1 f2
  have hWs : s.WarmedH U.vm := State.WarmedH.trans hW0 hW
  have hcl : s.vm.findClass cls = some ce.cls := by
    have h9 := hO.cls
    rw [hvm] at h9
    exact h9
  have hall : s.sameButNew ({ U with vm := s.vm } : State) locs mc ms := by
    subst hA
    obtain ⟨e1, e2⟩ := hsame
    rw [State.setFrames_setFrames] at e1
    have h2 : (T.setVm s.vm).sameButNew ({ U with vm := s.vm } : State) [] (0 + 1) (0 + 6) := ⟨e1, e2⟩
    have h3 := X.same.trans h2
    rw [List.append_nil] at h3
    exact h3.mono hc hs
  refine ⟨U, ?_, .threw T.heap.size, hrun, hend, Or.inr ⟨T.heap.size, rfl, cls, ce, locs, hx U hWs.alike f1 (fun q hq => f2 q hq (fun z hz => nomatch hz)), hce, hO.vm, hcl, hWs, hall, hf⟩⟩
  refine st1 _ ?_
  show Steps p.tables e below (T1.setTop { method := m, pc := pc + 3, locals := ls, stack := .ref T.heap.size :: rest, locked := none }) _
  jvm_step X₁.here [X₁.here.top, hexec, d3', Value.category]
  exact X₁.ldcStringW hexec (own := own) (text := text) (index := is) (a := sa) hown' hstr'.1 hstr'.2
    (g := { method := m, pc := pc + 4, locals := ls, stack := .ref T.heap.size :: .ref T.heap.size :: rest, locked := none }) rfl d4' _ hsteps
end Ends
section Bodies
variable {l : Launch}
theorem vx_ofW {y : MethodName} {ws ws' : List Cond} {rm : Room} {Pc : Array Value → State → Prop} {Qc : Array Value → State → Outcome → State → Prop} {XC : String → State → State → Prop} {mc ms : Nat} {free : Addr → Prop} {cc : ByteArray} {maxL : Nat} {ret : Option FieldType}
    (hy : plainName y.cls = true) (hw : ws = Cond.code y cc maxL ret :: ws')
    (body : ∀ p e s m args below meth c s₁, BodyLoose p l y (headSpec ws rm) cc maxL ret e s m args below meth c s₁ → c.maxLocals = maxL → (∀ x ∈ c.exceptionTable.toList, False) → Pc args s →
      W p l e (headSpec ws rm).room s m args below meth c s.heap [] 0 0 (vx_MQ below Qc XC args s mc ms free) (entryFrame m args maxL)) : vx_Met l y ws rm Pc Qc XC mc ms free := by
  refine MetFree.of_bodyS (code := cc) (maxLocals := maxL) (ret := ret) hy ?_ ?_
  · intro args s m h hn
    obtain ⟨meth, c, h1, h2, h3, h4, h5, h6, -, -⟩ := Cond.code_spec hn (atoms_spec (ws := ws) h _ (by rw [hw]; exact List.mem_cons_self))
    exact ⟨meth, c, h1, h2, h3, h4, h5, h6⟩
  · intro p e s m args below meth c s₁ B hml hP _
    have hh0 : s₁.heap = s.heap := by rw [B.state]; rfl
    have ht : ∀ x ∈ c.exceptionTable.toList, False := by
      obtain ⟨meth9, c9, h1, h2, -, -, -, -, h7, -⟩ := Cond.code_spec B.named (atoms_spec (ws := ws) B.pre _ (by rw [hw]; exact List.mem_cons_self))
      cases Option.some.inj (h1.symm.trans B.method)
      cases Option.some.inj (h2.symm.trans (Stand.of_body B).code)
      intro x hx
      rw [Array.isEmpty_iff.mp h7] at hx
      cases hx
    obtain ⟨t, a1, o, b1, b2, b3⟩ := body p e s m args below meth c s₁ B hml ht hP s₁ hh0 (Stand.of_body B)
    exact ⟨t, o, a1, b1, b2, b3⟩
/-- the table of a body with handlers -/
theorem vx_table {p : Program} {x y : MethodName} {S : Spec} {cc bytes : ByteArray} {maxL maxL' : Nat} {ret ret' : Option FieldType} {e : Env} {s s₁ : State} {m : MethodId} {args : Array Value} {below : List Frame} {meth : Method} {c : Code} {hh : List (Nat × Nat × Nat × Nat)}
    (B : BodyLoose p l y S cc maxL ret e s m args below meth c s₁) (h : (Cond.codeWith y bytes maxL' ret' hh).before args s = true) : c.exceptionTable.toList = tableOf hh := by
  obtain ⟨m9, meth9, c9, hn9, h1, h2, -, -, h6, -⟩ := Cond.codeWith_spec h
  cases Option.some.inj (hn9.symm.trans B.named)
  cases Option.some.inj (h1.symm.trans B.method)
  cases Option.some.inj (h2.symm.trans (Stand.of_body B).code)
  rw [← h6, table_eq]
end Bodies
end VXA
/-! ===== END ===== -/
/-! ===== BEGIN a static call of a method with an exception table ===== -/
section VXS
variable {p : Program} {l : Launch} {e : Env} {R : Room} {s : State} {m : MethodId} {args : Array Value} {below : List Frame} {meth : Method} {c : Code} {T : State} {H : Heap} {locs : List Loc} {cells slots : Nat}
abbrev vx_CSW (R : Room) (s : State) (args : Array Value) (own : String) (index : Nat) (y : MethodName) (bytes : ByteArray) (maxL : Nat) (ret : Option FieldType) (hh : List (Nat × Nat × Nat × Nat)) (ws : List Cond) (rm : Room) (mc ms n : Nat) : Prop :=
  (rm.cells = mc ∧ rm.slots = ms ∧ rm.frames + 1 ≤ R.frames ∧ 8 + (maxL + 11) + rm.locals ≤ R.locals ∧ (∀ w ∈ ws, ∀ (a' : Array Value) (U : State), s.WarmedH U.vm → w.before a' U = true) ∧ Cond.codeWith y bytes maxL ret hh ∈ ws) ∧
  (Cond.codeWith y bytes maxL ret hh).before args s = true ∧ (Cond.initialized y.cls).before args s = true ∧ (y.cls ≠ "java/lang/invoke/MethodHandle" ∧ y.cls ≠ "java/lang/invoke/VarHandle") ∧
  (∀ sig, parseMethodDescriptor y.desc = some sig → n = sig.parameters.length) ∧ (Cond.methodLink own index y).before args s = true ∧ (Cond.static y).before args s = true
theorem vx_cwSW {own : String} {index maxL mc ms : Nat} {y : MethodName} {bytes : ByteArray} {ret : Option FieldType} {hh : List (Nat × Nat × Nat × Nat)} {Ts ws ws' : List Cond} {rm : Room} (n : Nat) (ht : ∀ w ∈ Ts, w.before args s = true) (hT : GoodIn Ts (va_wsS own index y ws)) (hw : ws = Cond.codeWith y bytes maxL ret hh :: ws') (hrc : rm.cells = mc) (hrs : rm.slots = ms)
    (hd : y.cls ≠ "java/lang/invoke/MethodHandle" ∧ y.cls ≠ "java/lang/invoke/VarHandle" ∧ (parseMethodDescriptor y.desc).map (fun d => d.parameters.length) = some n) (hR : rm.frames + 1 ≤ R.frames ∧ 8 + (maxL + 11) + rm.locals ≤ R.locals) :
    vx_CSW R s args own index y bytes maxL ret hh ws rm mc ms n := by
  have ok : ∀ w ∈ va_wsS own index y ws, w.before args s = true := fun w h => ht w (hT w h).1
  have hG : GoodIn Ts ws := fun w h => hT w (by unfold va_wsS; exact List.mem_append_right _ h)
  have hc : Cond.codeWith y bytes maxL ret hh ∈ ws := by rw [hw]; exact List.mem_cons_self
  refine ⟨⟨hrc, hrs, hR.1, hR.2, pay_in ht hG, hc⟩, ht _ (hG _ hc).1, ok _ (by simp [va_wsS]), ⟨hd.1, hd.2.1⟩, fun sig h => ?_, ok _ (by simp [va_wsS]), ok _ (by simp [va_wsS])⟩
  have h2 := hd.2.2
  rw [h] at h2
  exact (Option.some.inj h2).symm
theorem vx_callSW (X : Stand p l e R s m args below meth c T locs cells slots) (hexec : p.tables.exec = Jvm.exec) {own : String} {index : Nat} {y : MethodName} {bytes : ByteArray} {maxL : Nat} {ret : Option FieldType} {hh : List (Nat × Nat × Nat × Nat)}
    (hown : s.vm.findClass own = some m.cls) (hlink : (Cond.methodLink own index y).before args s = true) (hstat : (Cond.static y).before args s = true) (hinit : (Cond.initialized y.cls).before args s = true)
    (hcode : (Cond.codeWith y bytes maxL ret hh).before args s = true) (hy : y.cls ≠ "java/lang/invoke/MethodHandle" ∧ y.cls ≠ "java/lang/invoke/VarHandle")
    {W9 : Nat} {Pre : Pt → Array Value → Prop} {Post : Pt → Array Value → Option Value → Pt → Prop} (hK : Back l R p e below s args y 3 W9 Pre Post)
    {g : JFrame} (hg : g.method = m) (hsize : g.locals.size = c.maxLocals) {argsL rest : List Value} (hlen : ∀ sig, parseMethodDescriptor y.desc = some sig → argsL.length = sig.parameters.length)
    (hstack : g.stack = argsL.reverse ++ rest) (hW : 2 * g.monitorRoom + (rest.map fun v => v.category).sum ≤ W9) (hdg : decode c.code g.pc = .ok (.invokestatic index, 3))
    (hpre : ∀ vm₁, s.WarmedH vm₁ → Pre ⟨T.setVm vm₁, locs, cells, slots⟩ argsL.toArray) :
    ∃ (v : Option Value) (vm₁ : Vm) (B : Pt), s.WarmedH vm₁ ∧ Stand p l e R s m args below meth c B.U B.locs B.cells B.slots ∧ Post ⟨T.setVm vm₁, locs, cells, slots⟩ argsL.toArray v B ∧
      ∀ target, Steps p.tables e below (B.U.setTop { g with pc := g.pc + 3, stack := v.toList ++ rest }) target → Steps p.tables e below (T.setTop g) target := by
  obtain ⟨mk, methM, cM, hnamed, hmethM, -, -, -, -, -, -, hsigM⟩ := Cond.codeWith_spec hcode
  have hstatic : methM.isStatic = true := Cond.static_spec hnamed hmethM hstat
  obtain ⟨kP, hkP, -⟩ := className_of_methodNamed hnamed
  have hinitP : kP.init = .initialized := Cond.initialized_spec (findClass_of_methodNamed hnamed) hkP hinit
  obtain ⟨vm₁, X₁, hstep₁⟩ := X.invokestatic hexec hown hlink hnamed hmethM hstatic hkP hinitP hy (g := g) hg (argsL := argsL) (rest := rest) (hlen _ hsigM) hstack hdg
  obtain ⟨v, B, X', hpost, hsteps⟩ := hK m meth c ⟨T.setVm vm₁, locs, cells, slots⟩ { g with stack := rest } (.invokestatic index) mk argsL.toArray X₁ hg hsize hdg hW (X₁.named hnamed) (hpre vm₁ X₁.warmed)
  exact ⟨v, vm₁, B, X₁.warmed, X', hpost, fun target h => hstep₁ _ fun acts => by rw [doInvoke_state]; exact hsteps.trans h⟩
theorem vx_runSW {y : MethodName} {bytes cc : ByteArray} {maxL nL mc ms n index : Nat} {ret : Option FieldType} {hh : List (Nat × Nat × Nat × Nat)} {ws : List Cond} {rm : Room} {Pc : Array Value → State → Prop} {Qc : Array Value → State → Outcome → State → Prop} {free : Addr → Prop} {Ts : List Cond} {own : String} {As rest : List Value} {g : JFrame}
    (S : CallFix p m c cc nL s args Ts own) (hM : Met l y ws rm Pc Qc mc ms free) (cw : vx_CSW R s args own index y bytes maxL ret hh ws rm mc ms n) (hp : PreS s H Pc As)
    (hg : g.method = m) (hn : As.length = n) (hsize : g.locals.size = nL) (hstack : g.stack = As.reverse ++ rest) (hW : 2 * g.monitorRoom + (rest.map fun v => v.category).sum ≤ 8) (hdg : decode cc g.pc = .ok (.invokestatic index, 3)) (hf : cells + mc ≤ R.cells ∧ slots + ms ≤ R.slots) :
    va_Run p l e R s m args below meth c H locs cells slots mc ms g rest (Qc As.toArray) (free) := by
  obtain ⟨⟨hrc, hrs, hfr, hlo, hws, hcw⟩, hcode, hini, hy, hlen, hl, hstt⟩ := cw
  have hK : Back l R p e below s args y 3 8 (PreOf R mc ms Pc) (PostOf Qc mc ms free) := va_backW (hh := hh) (bytes := bytes) (maxL := maxL) (ret := ret) hM hp.1 hrc hrs hfr hlo hws hcw (fun a' U hW => word_at hW (Or.inl (by first | rfl | simp [Cond.onTables, Cond.keeps, Cond.steady])) hini)
  obtain ⟨hx, hb, hml, ho, -⟩ := S
  intro T hT X
  obtain ⟨v, vm₁, ⟨U', l2, c2, s2⟩, hW₁, X', ⟨g', mk, t, L, e1, e2, hq, h1, hL, h2, h3⟩, st⟩ := vx_callSW X hx (hh := hh) (bytes := bytes) (maxL := maxL) (ret := ret) ho hl hstt hini hcode hy hK hg (hsize.trans hml.symm) (argsL := As) (rest := rest) (fun sig h => hn.trans (hlen sig h)) hstack hW (by rw [hb]; exact hdg)
    (fun vm₁ hW₁ => ⟨hf.1, hf.2, hp.2 (T.setVm vm₁) hT hW₁⟩)
  dsimp only [Pt.U, Pt.locs, Pt.cells, Pt.slots] at X' e1 e2 h1 h2 h3 st
  subst h1; subst h2; subst h3
  exact ⟨v, (T.setVm vm₁).calling g' mk As.toArray, t, U', L, hT, X', hL, e1, e2, hq, st⟩
/-- not caught here, past rows that name other classes: it goes on to the caller -/
theorem vx_outP {p : Program} {l : Launch} {e : Env} {R : Room} {s : State} {m : MethodId} {args : Array Value} {below : List Frame} {meth : Method} {c : Code} {H : Heap} {locs : List Loc} {cells slots : Nat} {free : Addr → Prop} {ls : Array Slot} {rest : List Value} {Qc : Array Value → State → Outcome → State → Prop} {XC : String → State → State → Prop}
    {pc : Nat} {own E : String} {ce : Cell} {q : Addr} {mc ms : Nat} (hown : s.vm.findClass own = some m.cls) (hlocks : meth.locks = false)
    (hpass : ∀ z ∈ c.exceptionTable.toList, covers z pc = false ∨ (z.catchType ≠ 0 ∧ ∃ nm : String, (Cond.classLink own z.catchType nm).before args s = true ∧ va_Nc E nm s)) (hcell : H[q]? = some ce) (hv : ce.vm = .none) (hcl : s.vm.findClass E = some ce.cls)
    (hx : ∀ t : State, t.heap = H → s.vm.Alike t.vm → XC E s t) (hf : ∀ z ∈ locs, free z.base) (hc : cells ≤ mc) (hs : slots ≤ ms) :
    vx_W p l e R s m args below meth c H locs cells slots (vx_MQ below Qc XC args s mc ms free) (F0 m pc ls rest) q := by
  intro T hT X
  have hpl : e.platform.magicAccessors = ({} : Platform).magicAccessors := by rw [X.admits.platform]
  obtain ⟨vm', hW', X', st⟩ := X.outThrough hlocks q (g := F0 m pc ls rest) rfl rfl rfl (cell := ce) (by rw [hT]; exact hcell) (by rw [hv]; rfl)
    (by obtain ⟨k9, h9, -⟩ := Vm.findClass_spec hcl; exact ⟨k9, h9⟩) (fun z hz => by
      rcases hpass z hz with h | ⟨hz0, nm, hl1, hn1⟩
      · exact Or.inl h
      · obtain ⟨c6, hc6, hcl6⟩ := Cond.classLink_spec hown hl1 e.platform hpl
        obtain ⟨a8, b8, h1, h2, h3⟩ := hn1
        cases Option.some.inj (h1.symm.trans hcl)
        cases Option.some.inj (h2.symm.trans hc6)
        exact Or.inr ⟨hz0, _, hcl6, h3⟩)
  obtain ⟨g₀, hfr⟩ := X'.frames_eq
  have hcell9 : ((T.setVm vm').setFrames (.throwing q :: below)).heap[q]? = some ce := by
    show T.heap[q]? = some ce
    rw [hT]; exact hcell
  have hend : Ended ((T.setVm vm').setFrames (.throwing q :: below)) below (.threw q) := State.frames_setFrames _ (State.cur_lt_of_frames hfr)
  refine ⟨(T.setVm vm').setFrames (.throwing q :: below), ?_, .threw q, X'.here.running, hend, Or.inr ⟨q, rfl, E, ce, locs, hx _ hT (X'.ends _).1.alike, hcell9, hv, hcl, (X'.ends _).1, (X'.ends _).2.mono hc hs, hf⟩⟩
  rw [X.pushThrowing_eq]
  exact st
/-- a thing of a world lies in the heap -/
theorem vx_lt {D : va_G} {cl : List vw_C} {ws : va_W} {H1 : Heap} (h : va_P D cl ws H1) {k : Nat} {q : Nat × va_E} (hk : ws[k]? = some q) : q.1 < H1.size := (h k q hk).lt
end VXS
/-! ===== END ===== -/
/-! ===== BEGIN methods with a table of their own: called by a name, returning or throwing ===== -/
section VXH
/-! vx_backW, vx_callVX, vx_callSX, vx_callVW, vx_runVW, vx_runVX, vx_runSX, vx_ofWH follow the same proofs as their sisters above (Free/Laws.lean, Shelf42/LK1.lean); vx_outP calls Shelf42/NT130.lean (outThrough). -/
section
variable {l : Launch} {R : Room} {p : Program} {e : Env} {below : List Frame} {s : State} {sargs : Array Value} {y : MethodName} {len W9 : Nat}
theorem vx_backW {ws : List Cond} {rm : Room} {Pc : Array Value → State → Prop} {Qc : Array Value → State → Outcome → State → Prop} {XC : String → State → State → Prop} {mc ms : Nat} {free : Addr → Prop} {bytes : ByteArray} {maxL : Nat} {ret : Option FieldType} {hh : List (Nat × Nat × Nat × Nat)}
    (hM : vx_Met l y ws rm Pc Qc XC mc ms free) (hblind : FrameBlind Pc) (hrc : rm.cells = mc) (hrs : rm.slots = ms)
    (hframes : rm.frames + 1 ≤ R.frames) (hlocals : W9 + (maxL + 11) + rm.locals ≤ R.locals)
    (hws : ∀ w ∈ ws, ∀ a' U, s.WarmedH U.vm → w.before a' U = true) (hcode : Cond.codeWith y bytes maxL ret hh ∈ ws) (hinit : ∀ a' U, s.WarmedH U.vm → (Cond.initialized y.cls).before a' U = true) :
    vx_Back l R p e below s sargs y len W9 (PreOf R mc ms Pc) (PostOf Qc mc ms free) (vx_Post XC mc ms free) := by
  intro m meth c A g ig mk a X hg hsize hdg hW hn hp
  have h1 : (headSpec ws rm).pre.before a A.U = true := atoms_intro fun w hw => hws w hw _ _ X.warmed
  have h2 : (Cond.codeWith y bytes maxL ret hh).before a A.U = true := hws _ hcode _ _ X.warmed
  have h3 : (Cond.initialized y.cls).before a A.U = true := hinit _ _ X.warmed
  have h4 : A.cells + (headSpec ws rm).room.cells ≤ R.cells := by rw [show (headSpec ws rm).room.cells = mc from hrc]; exact hp.1
  have h5 : A.slots + (headSpec ws rm).room.slots ≤ R.slots := by rw [show (headSpec ws rm).room.slots = ms from hrs]; exact hp.2.1
  have hPc : Pc a (A.U.calling g mk a) := hblind _ _ _ _ hp.2.2
  obtain ⟨U, Ls, c0, s0⟩ := A
  dsimp only [Pt.U, Pt.locs, Pt.cells, Pt.slots] at h1 h2 h3 h4 h5 X hn hPc ⊢
  obtain ⟨m9, methY, cY, hn9, hmY, hcY, -, hlY, -⟩ := Cond.codeWith_spec h2
  cases Option.some.inj (hn9.symm.trans hn)
  obtain ⟨kY, hkY, -⟩ := className_of_methodNamed hn
  have hinitY : kY.init = .initialized := Cond.initialized_spec (findClass_of_methodNamed hn) hkY h3
  have h : At U g.method c below := by rw [hg]; exact X.here
  have hlocals9 : W9 + (maxL + 11) + (headSpec ws rm).room.locals ≤ R.locals := hlocals
  have happ : (headSpec ws rm).appliesLoose y e.platform (U.calling g mk a) = true :=
    Spec.appliesLoose_calling (g := g) h hdg hn hkY hinitY
      (X.room_calling (g := g) (R' := (headSpec ws rm).room) hsize hmY hcY hframes (by rw [hlY]; omega) h4 h5) h1
  obtain ⟨mid, hmid⟩ := h.above
  have hfr : (U.setTop g).frames = (.java g :: mid) ++ below := by rw [State.frames_setTop' g h.top, hmid]; rfl
  obtain ⟨o, s₂, hsteps, -, hend, hq⟩ := Steps.callFree hM p X.admits X.cas X.clock (acts := []) hfr happ hPc trivial
  have hq' : vx_Q Qc XC mc ms free a (U.calling g mk a) o s₂ := hq
  rw [State.frames_setTop' g h.top] at hend
  obtain ⟨g₀, hg0⟩ := Option.isSome_iff_exists.mp h.top
  obtain ⟨r, hr⟩ := State.topJava?_eq_some.mp hg0
  have hr' : (({ U with heap := s₂.heap, slotsUsed := s₂.slotsUsed } : State).setVm s₂.vm).frames = .java g₀ :: r := hr
  rcases hq' with ⟨hqc, L, hfe, hL⟩ | ⟨q, rfl, E, ce, L, hx, hce, hcv, hcl, hW₂, hsm, hL⟩
  · obtain ⟨⟨v, rfl⟩, hW₂, e2, q2, q3, q4, q5, q6⟩ := id hfe
    have e3 : s₂ = ({ (U.calling g mk a).setFrames s₂.frames with heap := s₂.heap, slotsUsed := s₂.slotsUsed } : State).setVm s₂.vm := by
      have : s₂ = ({ s₂ with vm := (U.calling g mk a).vm } : State).setVm s₂.vm := rfl
      rw [e2] at this
      exact this
    obtain ⟨c₂, i₂, len₂, hc₂, hd₂, hf₂⟩ := hend
    have hW' : U.WarmedH s₂.vm := hW₂
    have hcc : c₂ = c := by
      have h1 : s₂.code? g.method = U.code? g.method := by
        rw [State.code?_eq, State.code?_eq, hW'.alike.method?]
      exact Option.some.inj (hc₂.symm.trans (h1.trans h.code))
    subst hcc
    have hlen : len₂ = len := by rw [hdg] at hd₂; cases hd₂; rfl
    subst hlen
    have hs₂ : s₂ = (({ U with heap := s₂.heap, slotsUsed := s₂.slotsUsed } : State).setVm s₂.vm).setTop { g with pc := g.pc + len₂, stack := v.toList ++ g.stack } := by
      refine e3.trans ?_
      rw [hf₂, State.calling_eq h.top, State.setFrames_setFrames, State.setTop_of_frames _ hr', hr]
      rfl
    have hsame : U.sameButNew ({ U with heap := s₂.heap, slotsUsed := s₂.slotsUsed } : State) L mc ms := by
      refine ⟨?_, q2, q3, q4, q5, q6⟩
      obtain ⟨t, ht, -⟩ := State.frames_cons hr
      show ({ U with heap := s₂.heap, slotsUsed := s₂.slotsUsed } : State) = { U.setFrames U.frames with heap := s₂.heap, slotsUsed := s₂.slotsUsed }
      rw [State.setFrames_self ht]
    subst hg
    refine Or.inl ⟨v, ⟨(({ U with heap := s₂.heap, slotsUsed := s₂.slotsUsed } : State).setVm s₂.vm), Ls ++ L, c0 + mc, s0 + ms⟩,
      ⟨X.admits, X.cas, X.clock, X.frames, X.room, X.hears, X.method, X.code, (X.here.setHeapUsed s₂.heap s₂.slotsUsed).setVm hW'.alike, X.tail, State.WarmedH.trans X.warmed hW', X.limits, X.bytes, X.same.trans (hsame.setVm s.vm)⟩,
      ⟨g, mk, s₂, L, rfl, rfl, hqc, rfl, hL, rfl, rfl⟩, ?_⟩
    show Steps p.tables e below _ ((({ U with heap := s₂.heap, slotsUsed := s₂.slotsUsed } : State).setVm s₂.vm).setTop { g with pc := g.pc + len₂, stack := v.toList ++ g.stack })
    rw [← hs₂]
    exact hsteps
  · obtain ⟨e2, q2, q3, q4, q5, q6⟩ := id hsm
    have e3 : s₂ = ({ (U.calling g mk a).setFrames s₂.frames with heap := s₂.heap, slotsUsed := s₂.slotsUsed } : State).setVm s₂.vm := by
      have : s₂ = ({ s₂ with vm := (U.calling g mk a).vm } : State).setVm s₂.vm := rfl
      rw [e2] at this
      exact this
    have hf₂ : s₂.frames = .throwing q :: .java g :: U.frames.tail := hend
    have hW' : U.WarmedH s₂.vm := hW₂
    have hs₂ : s₂ = ((({ U with heap := s₂.heap, slotsUsed := s₂.slotsUsed } : State).setVm s₂.vm).setTop g).pushFrame (.throwing q) := by
      refine e3.trans ?_
      rw [hf₂, State.calling_eq h.top, State.setFrames_setFrames, State.pushFrame, State.frames_setTop _ hr', State.setTop_of_frames _ hr', State.setFrames_setFrames, hr]
      rfl
    have hsame : U.sameButNew ({ U with heap := s₂.heap, slotsUsed := s₂.slotsUsed } : State) L mc ms := by
      refine ⟨?_, q2, q3, q4, q5, q6⟩
      obtain ⟨t, ht, -⟩ := State.frames_cons hr
      show ({ U with heap := s₂.heap, slotsUsed := s₂.slotsUsed } : State) = { U.setFrames U.frames with heap := s₂.heap, slotsUsed := s₂.slotsUsed }
      rw [State.setFrames_self ht]
    subst hg
    refine Or.inr ⟨q, ⟨(({ U with heap := s₂.heap, slotsUsed := s₂.slotsUsed } : State).setVm s₂.vm), Ls ++ L, c0 + mc, s0 + ms⟩,
      ⟨X.admits, X.cas, X.clock, X.frames, X.room, X.hears, X.method, X.code, (X.here.setHeapUsed s₂.heap s₂.slotsUsed).setVm hW'.alike, X.tail, State.WarmedH.trans X.warmed hW', X.limits, X.bytes, X.same.trans (hsame.setVm s.vm)⟩,
      ⟨g, mk, s₂, L, E, ce, rfl, rfl, hx, hce, hcv, hcl, rfl, hL, rfl, rfl⟩, ?_⟩
    show Steps p.tables e below _ (((({ U with heap := s₂.heap, slotsUsed := s₂.slotsUsed } : State).setVm s₂.vm).setTop g).pushFrame (.throwing q))
    rw [← hs₂]
    exact hsteps
end
variable {p : Program} {l : Launch} {e : Env} {R : Room} {s : State} {m : MethodId} {args : Array Value} {below : List Frame} {meth : Method} {c : Code} {T : State} {H : Heap} {locs : List Loc} {cells slots : Nat}
theorem vx_callVX (X : Stand p l e R s m args below meth c T locs cells slots) (hexec : p.tables.exec = Jvm.exec) {own C : String} {index : Nat} {y : MethodName} {bytes : ByteArray} {maxL : Nat} {ret : Option FieldType} {hh : List (Nat × Nat × Nat × Nat)}
    (hown : s.vm.findClass own = some m.cls) (hlink : (Cond.methodLink own index y).before args s = true) (hinst : (Cond.instanceMethod y).before args s = true) (hsel : (Cond.selects C y y).before args s = true)
    (hcode : (Cond.codeWith y bytes maxL ret hh).before args s = true) (hy : y.cls ≠ "java/lang/invoke/MethodHandle" ∧ y.cls ≠ "java/lang/invoke/VarHandle")
    {W9 : Nat} {Pre : Pt → Array Value → Prop} {Post : Pt → Array Value → Option Value → Pt → Prop} {PostX : Pt → Array Value → Addr → Pt → Prop} (hK : vx_Back l R p e below s args y 3 W9 Pre Post PostX)
    {b : Addr} {cellB : Cell} (hcell : T.heap[b]? = some cellB) (hobj : cellB.vm.isStatics = false) (hcls : s.vm.findClass C = some cellB.cls)
    {g : JFrame} (hg : g.method = m) (hsize : g.locals.size = c.maxLocals) {argsL rest : List Value} (hlen : ∀ sig, parseMethodDescriptor y.desc = some sig → argsL.length = sig.parameters.length)
    (hstack : g.stack = argsL.reverse ++ .ref b :: rest) (hW : 2 * g.monitorRoom + (rest.map fun v => v.category).sum ≤ W9) (hdg : decode c.code g.pc = .ok (.invokevirtual index, 3))
    (hpre : ∀ vm₁, s.WarmedH vm₁ → Pre ⟨T.setVm vm₁, locs, cells, slots⟩ (Value.ref b :: argsL).toArray) :
    (∃ (v : Option Value) (vm₁ : Vm) (B : Pt), s.WarmedH vm₁ ∧ Stand p l e R s m args below meth c B.U B.locs B.cells B.slots ∧ Post ⟨T.setVm vm₁, locs, cells, slots⟩ (Value.ref b :: argsL).toArray v B ∧
      ∀ target, Steps p.tables e below (B.U.setTop { g with pc := g.pc + 3, stack := v.toList ++ rest }) target → Steps p.tables e below (T.setTop g) target) ∨
    (∃ (q : Addr) (vm₁ : Vm) (B : Pt), s.WarmedH vm₁ ∧ Stand p l e R s m args below meth c B.U B.locs B.cells B.slots ∧ PostX ⟨T.setVm vm₁, locs, cells, slots⟩ (Value.ref b :: argsL).toArray q B ∧
      Steps p.tables e below (T.setTop g) ((B.U.setTop { g with stack := rest }).pushFrame (.throwing q))) := by
  obtain ⟨mk, methM, hnamed, hmethM, hstM, habM⟩ := Cond.instanceMethod_spec hinst
  obtain ⟨m8, methM', cM, hn8, hmethM', -, -, -, -, -, -, hsigM⟩ := Cond.codeWith_spec hcode
  cases Option.some.inj (hn8.symm.trans hnamed)
  cases hmethM.symm.trans hmethM'
  obtain ⟨c2, r2, m2, q1, q2, q3, q4, kP, hkP, hkPi⟩ := Cond.selects_spec hsel
  cases hcls.symm.trans q1
  cases (State.methodFound?_of_named hnamed hy).symm.trans q2
  cases hnamed.symm.trans q3
  have hselP : selectMethod e.platform s.vm cellB.cls mk = .method mk := by rw [Launch.admits_selectMethod X.admits]; exact q4
  obtain ⟨vm₁, X₁, hstep₁⟩ := X.invokevirtual hexec hown hlink hnamed hmethM hstM hkP hkPi hy (a := b) (cell := cellB) hcell
    (fun z h => by rw [h] at hobj; cases hobj) hselP hmethM habM hkP hkPi (g := g) hg (argsL := argsL) (rest := rest) (hlen _ hsigM) hstack hdg
  rcases hK m meth c ⟨T.setVm vm₁, locs, cells, slots⟩ { g with stack := rest } (.invokevirtual index) mk (Value.ref b :: argsL).toArray X₁ hg hsize hdg hW (X₁.named hnamed) (hpre vm₁ X₁.warmed) with ⟨v, B, X', hpost, hsteps⟩ | ⟨q, B, X', hpost, hsteps⟩
  · exact Or.inl ⟨v, vm₁, B, X₁.warmed, X', hpost, fun target h => hstep₁ _ fun acts => by rw [doInvoke_state]; exact hsteps.trans h⟩
  · exact Or.inr ⟨q, vm₁, B, X₁.warmed, X', hpost, hstep₁ _ fun acts => by rw [doInvoke_state]; exact hsteps⟩
theorem vx_callSX (X : Stand p l e R s m args below meth c T locs cells slots) (hexec : p.tables.exec = Jvm.exec) {own : String} {index : Nat} {y : MethodName} {bytes : ByteArray} {maxL : Nat} {ret : Option FieldType} {hh : List (Nat × Nat × Nat × Nat)}
    (hown : s.vm.findClass own = some m.cls) (hlink : (Cond.methodLink own index y).before args s = true) (hstat : (Cond.static y).before args s = true) (hinit : (Cond.initialized y.cls).before args s = true)
    (hcode : (Cond.codeWith y bytes maxL ret hh).before args s = true) (hy : y.cls ≠ "java/lang/invoke/MethodHandle" ∧ y.cls ≠ "java/lang/invoke/VarHandle")
    {W9 : Nat} {Pre : Pt → Array Value → Prop} {Post : Pt → Array Value → Option Value → Pt → Prop} {PostX : Pt → Array Value → Addr → Pt → Prop} (hK : vx_Back l R p e below s args y 3 W9 Pre Post PostX)
    {g : JFrame} (hg : g.method = m) (hsize : g.locals.size = c.maxLocals) {argsL rest : List Value} (hlen : ∀ sig, parseMethodDescriptor y.desc = some sig → argsL.length = sig.parameters.length)
    (hstack : g.stack = argsL.reverse ++ rest) (hW : 2 * g.monitorRoom + (rest.map fun v => v.category).sum ≤ W9) (hdg : decode c.code g.pc = .ok (.invokestatic index, 3))
    (hpre : ∀ vm₁, s.WarmedH vm₁ → Pre ⟨T.setVm vm₁, locs, cells, slots⟩ argsL.toArray) :
    (∃ (v : Option Value) (vm₁ : Vm) (B : Pt), s.WarmedH vm₁ ∧ Stand p l e R s m args below meth c B.U B.locs B.cells B.slots ∧ Post ⟨T.setVm vm₁, locs, cells, slots⟩ argsL.toArray v B ∧
      ∀ target, Steps p.tables e below (B.U.setTop { g with pc := g.pc + 3, stack := v.toList ++ rest }) target → Steps p.tables e below (T.setTop g) target) ∨
    (∃ (q : Addr) (vm₁ : Vm) (B : Pt), s.WarmedH vm₁ ∧ Stand p l e R s m args below meth c B.U B.locs B.cells B.slots ∧ PostX ⟨T.setVm vm₁, locs, cells, slots⟩ argsL.toArray q B ∧
      Steps p.tables e below (T.setTop g) ((B.U.setTop { g with stack := rest }).pushFrame (.throwing q))) := by
  obtain ⟨mk, methM, cM, hnamed, hmethM, -, -, -, -, -, -, hsigM⟩ := Cond.codeWith_spec hcode
  have hstatic : methM.isStatic = true := Cond.static_spec hnamed hmethM hstat
  obtain ⟨kP, hkP, -⟩ := className_of_methodNamed hnamed
  have hinitP : kP.init = .initialized := Cond.initialized_spec (findClass_of_methodNamed hnamed) hkP hinit
  obtain ⟨vm₁, X₁, hstep₁⟩ := X.invokestatic hexec hown hlink hnamed hmethM hstatic hkP hinitP hy (g := g) hg (argsL := argsL) (rest := rest) (hlen _ hsigM) hstack hdg
  rcases hK m meth c ⟨T.setVm vm₁, locs, cells, slots⟩ { g with stack := rest } (.invokestatic index) mk argsL.toArray X₁ hg hsize hdg hW (X₁.named hnamed) (hpre vm₁ X₁.warmed) with ⟨v, B, X', hpost, hsteps⟩ | ⟨q, B, X', hpost, hsteps⟩
  · exact Or.inl ⟨v, vm₁, B, X₁.warmed, X', hpost, fun target h => hstep₁ _ fun acts => by rw [doInvoke_state]; exact hsteps.trans h⟩
  · exact Or.inr ⟨q, vm₁, B, X₁.warmed, X', hpost, hstep₁ _ fun acts => by rw [doInvoke_state]; exact hsteps⟩
theorem vx_callVW (X : Stand p l e R s m args below meth c T locs cells slots) (hexec : p.tables.exec = Jvm.exec) {own C : String} {index : Nat} {y : MethodName} {bytes : ByteArray} {maxL : Nat} {ret : Option FieldType} {hh : List (Nat × Nat × Nat × Nat)}
    (hown : s.vm.findClass own = some m.cls) (hlink : (Cond.methodLink own index y).before args s = true) (hinst : (Cond.instanceMethod y).before args s = true) (hsel : (Cond.selects C y y).before args s = true)
    (hcode : (Cond.codeWith y bytes maxL ret hh).before args s = true) (hy : y.cls ≠ "java/lang/invoke/MethodHandle" ∧ y.cls ≠ "java/lang/invoke/VarHandle")
    {W9 : Nat} {Pre : Pt → Array Value → Prop} {Post : Pt → Array Value → Option Value → Pt → Prop} (hK : Back l R p e below s args y 3 W9 Pre Post)
    {b : Addr} {cellB : Cell} (hcell : T.heap[b]? = some cellB) (hobj : cellB.vm.isStatics = false) (hcls : s.vm.findClass C = some cellB.cls)
    {g : JFrame} (hg : g.method = m) (hsize : g.locals.size = c.maxLocals) {argsL rest : List Value} (hlen : ∀ sig, parseMethodDescriptor y.desc = some sig → argsL.length = sig.parameters.length)
    (hstack : g.stack = argsL.reverse ++ .ref b :: rest) (hW : 2 * g.monitorRoom + (rest.map fun v => v.category).sum ≤ W9) (hdg : decode c.code g.pc = .ok (.invokevirtual index, 3))
    (hpre : ∀ vm₁, s.WarmedH vm₁ → Pre ⟨T.setVm vm₁, locs, cells, slots⟩ (Value.ref b :: argsL).toArray) :
    ∃ (v : Option Value) (vm₁ : Vm) (B : Pt), s.WarmedH vm₁ ∧ Stand p l e R s m args below meth c B.U B.locs B.cells B.slots ∧ Post ⟨T.setVm vm₁, locs, cells, slots⟩ (Value.ref b :: argsL).toArray v B ∧
      ∀ target, Steps p.tables e below (B.U.setTop { g with pc := g.pc + 3, stack := v.toList ++ rest }) target → Steps p.tables e below (T.setTop g) target := by
  obtain ⟨mk, methM, hnamed, hmethM, hstM, habM⟩ := Cond.instanceMethod_spec hinst
  obtain ⟨m8, methM', cM, hn8, hmethM', -, -, -, -, -, -, hsigM⟩ := Cond.codeWith_spec hcode
  cases Option.some.inj (hn8.symm.trans hnamed)
  cases hmethM.symm.trans hmethM'
  obtain ⟨c2, r2, m2, q1, q2, q3, q4, kP, hkP, hkPi⟩ := Cond.selects_spec hsel
  cases hcls.symm.trans q1
  cases (State.methodFound?_of_named hnamed hy).symm.trans q2
  cases hnamed.symm.trans q3
  have hselP : selectMethod e.platform s.vm cellB.cls mk = .method mk := by rw [Launch.admits_selectMethod X.admits]; exact q4
  obtain ⟨vm₁, X₁, hstep₁⟩ := X.invokevirtual hexec hown hlink hnamed hmethM hstM hkP hkPi hy (a := b) (cell := cellB) hcell
    (fun z h => by rw [h] at hobj; cases hobj) hselP hmethM habM hkP hkPi (g := g) hg (argsL := argsL) (rest := rest) (hlen _ hsigM) hstack hdg
  obtain ⟨v, B, X', hpost, hsteps⟩ := hK m meth c ⟨T.setVm vm₁, locs, cells, slots⟩ { g with stack := rest } (.invokevirtual index) mk (Value.ref b :: argsL).toArray X₁ hg hsize hdg hW (X₁.named hnamed) (hpre vm₁ X₁.warmed)
  exact ⟨v, vm₁, B, X₁.warmed, X', hpost, fun target h => hstep₁ _ fun acts => by rw [doInvoke_state]; exact hsteps.trans h⟩
abbrev vx_CVW (R : Room) (s : State) (args : Array Value) (own C : String) (index : Nat) (y : MethodName) (bytes : ByteArray) (maxL : Nat) (ret : Option FieldType) (hh : List (Nat × Nat × Nat × Nat)) (ws : List Cond) (rm : Room) (mc ms n : Nat) : Prop :=
  (rm.cells = mc ∧ rm.slots = ms ∧ rm.frames + 1 ≤ R.frames ∧ 8 + (maxL + 11) + rm.locals ≤ R.locals ∧ (∀ w ∈ ws, ∀ (a' : Array Value) (U : State), s.WarmedH U.vm → w.before a' U = true) ∧ Cond.codeWith y bytes maxL ret hh ∈ ws) ∧
  (Cond.codeWith y bytes maxL ret hh).before args s = true ∧ (Cond.initialized y.cls).before args s = true ∧ (y.cls ≠ "java/lang/invoke/MethodHandle" ∧ y.cls ≠ "java/lang/invoke/VarHandle") ∧
  (∀ sig, parseMethodDescriptor y.desc = some sig → n = sig.parameters.length) ∧ (Cond.methodLink own index y).before args s = true ∧ (Cond.instanceMethod y).before args s = true ∧ (Cond.selects C y y).before args s = true
theorem vx_cwVW {own C : String} {index maxL mc ms : Nat} {y : MethodName} {bytes : ByteArray} {ret : Option FieldType} {hh : List (Nat × Nat × Nat × Nat)} {Ts ws ws' : List Cond} {rm : Room} (n : Nat) (ht : ∀ w ∈ Ts, w.before args s = true) (hT : GoodIn Ts (wsV own index C y ws)) (hw : ws = Cond.codeWith y bytes maxL ret hh :: ws') (hrc : rm.cells = mc) (hrs : rm.slots = ms)
    (hd : y.cls = C ∧ y.cls ≠ "java/lang/invoke/MethodHandle" ∧ y.cls ≠ "java/lang/invoke/VarHandle" ∧ (parseMethodDescriptor y.desc).map (fun d => d.parameters.length) = some n) (hR : rm.frames + 1 ≤ R.frames ∧ 8 + (maxL + 11) + rm.locals ≤ R.locals) :
    vx_CVW R s args own C index y bytes maxL ret hh ws rm mc ms n := by
  obtain ⟨hC, hd⟩ := hd
  subst hC
  have ok : ∀ w ∈ wsV own index y.cls y ws, w.before args s = true := fun w h => ht w (hT w h).1
  have hG : GoodIn Ts ws := fun w h => hT w (by unfold wsV; exact List.mem_append_right _ h)
  have hc : Cond.codeWith y bytes maxL ret hh ∈ ws := by rw [hw]; exact List.mem_cons_self
  refine ⟨⟨hrc, hrs, hR.1, hR.2, pay_in ht hG, hc⟩, ht _ (hG _ hc).1, ok _ (by simp [wsV]), ⟨hd.1, hd.2.1⟩, fun sig h => ?_, ok _ (by simp [wsV]), ok _ (by simp [wsV]), ok _ (by simp [wsV])⟩
  have h2 := hd.2.2
  rw [h] at h2
  exact (Option.some.inj h2).symm
theorem vx_runVW {y : MethodName} {bytes cc : ByteArray} {maxL nL mc ms n index : Nat} {ret : Option FieldType} {hh : List (Nat × Nat × Nat × Nat)} {ws : List Cond} {rm : Room} {Pc : Array Value → State → Prop} {Qc : Array Value → State → Outcome → State → Prop} {free : Addr → Prop} {Ts : List Cond} {own C : String} {b : Addr} {As rest : List Value} {g : JFrame}
    (S : CallFix p m c cc nL s args Ts own) (hM : Met l y ws rm Pc Qc mc ms free) (cw : vx_CVW R s args own C index y bytes maxL ret hh ws rm mc ms n) (hp : PreV s H C b Pc As)
    (hg : g.method = m) (hn : As.length = n) (hsize : g.locals.size = nL) (hstack : g.stack = As.reverse ++ .ref b :: rest) (hW : 2 * g.monitorRoom + (rest.map fun v => v.category).sum ≤ 8) (hdg : decode cc g.pc = .ok (.invokevirtual index, 3)) (hf : cells + mc ≤ R.cells ∧ slots + ms ≤ R.slots) :
    va_Run p l e R s m args below meth c H locs cells slots mc ms g rest (Qc (Value.ref b :: As).toArray) free := by
  obtain ⟨⟨hrc, hrs, hfr, hlo, hws, hcw⟩, hcode, hini, hy, hlen, hl, hin, hse⟩ := cw
  have hK : Back l R p e below s args y 3 8 (PreOf R mc ms Pc) (PostOf Qc mc ms free) := va_backW (hh := hh) (bytes := bytes) (maxL := maxL) (ret := ret) hM hp.1 hrc hrs hfr hlo hws hcw (fun a' U hW => word_at hW (Or.inl (by first | rfl | simp [Cond.onTables, Cond.keeps, Cond.steady])) hini)
  obtain ⟨hx, hb, hml, ho, -⟩ := S
  obtain ⟨-, ⟨cellB, hcB, hoB, hclB⟩, hPc⟩ := hp
  intro T hT X
  obtain ⟨v, vm₁, ⟨U', l2, c2, s2⟩, hW₁, X', ⟨g', mk, t, L, e1, e2, hq, h1, hL, h2, h3⟩, st⟩ := vx_callVW X hx (C := C) (hh := hh) (bytes := bytes) (maxL := maxL) (ret := ret) ho hl hin hse hcode hy hK (by rw [hT]; exact hcB) hoB hclB hg (hsize.trans hml.symm) (argsL := As) (rest := rest) (fun sig h => hn.trans (hlen sig h)) hstack hW (by rw [hb]; exact hdg)
    (fun vm₁ hW₁ => ⟨hf.1, hf.2, hPc (T.setVm vm₁) hT hW₁⟩)
  dsimp only [Pt.U, Pt.locs, Pt.cells, Pt.slots] at X' e1 e2 h1 h2 h3 st
  subst h1; subst h2; subst h3
  exact ⟨v, (T.setVm vm₁).calling g' mk (Value.ref b :: As).toArray, t, U', L, hT, X', hL, e1, e2, hq, st⟩
section
variable {y : MethodName} {bytes cc : ByteArray} {maxL nL mc ms n index : Nat} {ret : Option FieldType} {ws : List Cond} {rm : Room} {Pc : Array Value → State → Prop} {Qc : Array Value → State → Outcome → State → Prop} {XC : String → State → State → Prop} {free : Addr → Prop} {Ts : List Cond} {own C : String} {b : Addr} {As rest : List Value} {g : JFrame}
theorem vx_runVX {hh : List (Nat × Nat × Nat × Nat)} (S : CallFix p m c cc nL s args Ts own) (hM : vx_Met l y ws rm Pc Qc XC mc ms free) (cw : vx_CVW R s args own C index y bytes maxL ret hh ws rm mc ms n) (hp : PreV s H C b Pc As)
    (hg : g.method = m) (hn : As.length = n) (hsize : g.locals.size = nL) (hstack : g.stack = As.reverse ++ .ref b :: rest) (hW : 2 * g.monitorRoom + (rest.map fun v => v.category).sum ≤ 8) (hdg : decode cc g.pc = .ok (.invokevirtual index, 3)) (hf : cells + mc ≤ R.cells ∧ slots + ms ≤ R.slots) :
    vx_Run p l e R s m args below meth c H locs cells slots mc ms g rest (Qc (Value.ref b :: As).toArray) XC free := by
  obtain ⟨⟨hrc, hrs, hfr, hlo, hws, hcw⟩, hcode, hini, hy, hlen, hl, hin, hse⟩ := cw
  have hK : vx_Back l R p e below s args y 3 8 (PreOf R mc ms Pc) (PostOf Qc mc ms free) (vx_Post XC mc ms free) := vx_backW (hh := hh) (bytes := bytes) (maxL := maxL) (ret := ret) hM hp.1 hrc hrs hfr hlo hws hcw (fun a' U hW => word_at hW (Or.inl (by first | rfl | simp [Cond.onTables, Cond.keeps, Cond.steady])) hini)
  obtain ⟨hx, hb, hml, ho, -⟩ := S
  obtain ⟨-, ⟨cellB, hcB, hoB, hclB⟩, hPc⟩ := hp
  intro T hT X
  rcases vx_callVX X hx (C := C) (hh := hh) (bytes := bytes) (maxL := maxL) (ret := ret) ho hl hin hse hcode hy hK (by rw [hT]; exact hcB) hoB hclB hg (hsize.trans hml.symm) (argsL := As) (rest := rest) (fun sig h => hn.trans (hlen sig h)) hstack hW (by rw [hb]; exact hdg)
    (fun vm₁ hW₁ => ⟨hf.1, hf.2, hPc (T.setVm vm₁) hT hW₁⟩) with ⟨v, vm₁, ⟨U', l2, c2, s2⟩, hW₁, X', ⟨g', mk, t, L, e1, e2, hq, h1, hL, h2, h3⟩, st⟩ | ⟨q, vm₁, ⟨U', l2, c2, s2⟩, hW₁, X', ⟨g', mk, t, L, E, ce, e1, e2, hq, hce, hcv, hcl, h1, hL, h2, h3⟩, st⟩
  · dsimp only [Pt.U, Pt.locs, Pt.cells, Pt.slots] at X' e1 e2 h1 h2 h3 st
    subst h1; subst h2; subst h3
    exact Or.inl ⟨v, (T.setVm vm₁).calling g' mk (Value.ref b :: As).toArray, t, U', L, hT, X', hL, e1, e2, hq, st⟩
  · dsimp only [Pt.U, Pt.locs, Pt.cells, Pt.slots] at X' e1 e2 h1 h2 h3 st hcl
    subst h1; subst h2; subst h3
    exact Or.inr ⟨q, (T.setVm vm₁).calling g' mk (Value.ref b :: As).toArray, t, U', L, E, ce, hT, X', hL, e1, e2, hq, hce, hcv, vx_cls hW₁ hcl, st⟩
theorem vx_runSX {hh : List (Nat × Nat × Nat × Nat)} (S : CallFix p m c cc nL s args Ts own) (hM : vx_Met l y ws rm Pc Qc XC mc ms free) (cw : vx_CSW R s args own index y bytes maxL ret hh ws rm mc ms n) (hp : PreS s H Pc As)
    (hg : g.method = m) (hn : As.length = n) (hsize : g.locals.size = nL) (hstack : g.stack = As.reverse ++ rest) (hW : 2 * g.monitorRoom + (rest.map fun v => v.category).sum ≤ 8) (hdg : decode cc g.pc = .ok (.invokestatic index, 3)) (hf : cells + mc ≤ R.cells ∧ slots + ms ≤ R.slots) :
    vx_Run p l e R s m args below meth c H locs cells slots mc ms g rest (Qc As.toArray) XC free := by
  obtain ⟨⟨hrc, hrs, hfr, hlo, hws, hcw⟩, hcode, hini, hy, hlen, hl, hstt⟩ := cw
  have hK : vx_Back l R p e below s args y 3 8 (PreOf R mc ms Pc) (PostOf Qc mc ms free) (vx_Post XC mc ms free) := vx_backW (hh := hh) (bytes := bytes) (maxL := maxL) (ret := ret) hM hp.1 hrc hrs hfr hlo hws hcw (fun a' U hW => word_at hW (Or.inl (by first | rfl | simp [Cond.onTables, Cond.keeps, Cond.steady])) hini)
  obtain ⟨hx, hb, hml, ho, -⟩ := S
  intro T hT X
  rcases vx_callSX X hx (hh := hh) (bytes := bytes) (maxL := maxL) (ret := ret) ho hl hstt hini hcode hy hK hg (hsize.trans hml.symm) (argsL := As) (rest := rest) (fun sig h => hn.trans (hlen sig h)) hstack hW (by rw [hb]; exact hdg)
    (fun vm₁ hW₁ => ⟨hf.1, hf.2, hp.2 (T.setVm vm₁) hT hW₁⟩) with ⟨v, vm₁, ⟨U', l2, c2, s2⟩, hW₁, X', ⟨g', mk, t, L, e1, e2, hq, h1, hL, h2, h3⟩, st⟩ | ⟨q, vm₁, ⟨U', l2, c2, s2⟩, hW₁, X', ⟨g', mk, t, L, E, ce, e1, e2, hq, hce, hcv, hcl, h1, hL, h2, h3⟩, st⟩
  · dsimp only [Pt.U, Pt.locs, Pt.cells, Pt.slots] at X' e1 e2 h1 h2 h3 st
    subst h1; subst h2; subst h3
    exact Or.inl ⟨v, (T.setVm vm₁).calling g' mk As.toArray, t, U', L, hT, X', hL, e1, e2, hq, st⟩
  · dsimp only [Pt.U, Pt.locs, Pt.cells, Pt.slots] at X' e1 e2 h1 h2 h3 st hcl
    subst h1; subst h2; subst h3
    exact Or.inr ⟨q, (T.setVm vm₁).calling g' mk As.toArray, t, U', L, E, ce, hT, X', hL, e1, e2, hq, hce, hcv, vx_cls hW₁ hcl, st⟩
end
end VXH
theorem vx_ofWH {l : Launch} {y : MethodName} {ws ws' : List Cond} {rm : Room} {Pc : Array Value → State → Prop} {Qc : Array Value → State → Outcome → State → Prop} {XC : String → State → State → Prop} {mc ms : Nat} {free : Addr → Prop} {cc : ByteArray} {maxL : Nat} {ret : Option FieldType} {hh : List (Nat × Nat × Nat × Nat)}
    (hy : plainName y.cls = true) (hw : ws = Cond.codeWith y cc maxL ret hh :: ws')
    (body : ∀ p e s m args below meth c s₁, BodyLoose p l y (headSpec ws rm) cc maxL ret e s m args below meth c s₁ → c.maxLocals = maxL → Pc args s →
      W p l e (headSpec ws rm).room s m args below meth c s.heap [] 0 0 (vx_MQ below Qc XC args s mc ms free) (entryFrame m args maxL)) : vx_Met l y ws rm Pc Qc XC mc ms free := by
  refine MetFree.of_bodyS (code := cc) (maxLocals := maxL) (ret := ret) hy ?_ ?_
  · intro args s m h hn
    obtain ⟨m9, meth, c, hn9, h1, h2, h3, h4, -, h5, h6, -⟩ := Cond.codeWith_spec (atoms_spec (ws := ws) h _ (by rw [hw]; exact List.mem_cons_self))
    cases hn.symm.trans hn9
    exact ⟨meth, c, h1, h2, h3, h4, h5, h6⟩
  · intro p e s m args below meth c s₁ B hml hP _
    have hh0 : s₁.heap = s.heap := by rw [B.state]; rfl
    obtain ⟨t, a1, o, b1, b2, b3⟩ := body p e s m args below meth c s₁ B hml hP s₁ hh0 (Stand.of_body B)
    exact ⟨t, o, a1, b1, b2, b3⟩
/-! ===== END ===== -/
end
section
/-! A world by roles: a role r has the address ad r and the cell g r. -/
def rl_w (Rl : List Nat) (ad : Nat → Nat) (g : Nat → va_E) : va_W := Rl.map (fun r => (ad r, g r))
theorem rl_at {Rl : List Nat} {ad : Nat → Nat} {g : Nat → va_E} {r : Nat} (h : r ∈ Rl) : ∃ k : Nat, Rl[k]? = some r ∧ (rl_w Rl ad g)[k]? = some (ad r, g r) := by
  obtain ⟨k, hk⟩ := List.getElem?_of_mem h
  exact ⟨k, hk, by simp [rl_w, hk]⟩
theorem rl_set {A : Nat → Prop} {Rl : List Nat} {ad : Nat → Nat} {g : Nat → va_E} {r k : Nat} {e : va_E} (hD : va_D A (rl_w Rl ad g)) (hr : Rl[k]? = some r) : (rl_w Rl ad g).set k (ad r, e) = rl_w Rl ad (va_up g r e) := by
  have hk : (rl_w Rl ad g)[k]? = some (ad r, g r) := by simp [rl_w, hr]
  apply List.ext_getElem?
  intro j
  by_cases hj : j = k
  · subst hj
    have hl : j < (rl_w Rl ad g).length := (List.getElem?_eq_some_iff.mp hk).1
    rw [List.getElem?_set_self hl]
    simp [rl_w, hr, va_up]
  · rw [List.getElem?_set_ne (Ne.symm hj)]
    simp only [rl_w, List.getElem?_map]
    cases hb : Rl[j]? with
    | none => rfl
    | some b =>
      have hba : b ≠ r := by
        intro q
        subst q
        have h2 : (rl_w Rl ad g)[j]? = some (ad b, g b) := by simp [rl_w, hb]
        exact hj (hD.1 j k _ _ h2 hk rfl)
      simp [va_up, hba]
theorem rl_push {Rl : List Nat} {ad : Nat → Nat} {g : Nat → va_E} {r a : Nat} {e : va_E} (h : r ∉ Rl) : rl_w Rl ad g ++ [(a, e)] = rl_w (Rl ++ [r]) (va_up ad r a) (va_up g r e) := by
  simp only [rl_w, List.map_append, List.map_cons, List.map_nil, va_up_self]
  congr 1
  apply List.map_congr_left
  intro b hb
  have : b ≠ r := fun q => h (q ▸ hb)
  rw [va_up_ne _ _ this, va_up_ne _ _ this]
theorem rl_congr {Rl : List Nat} {ad : Nat → Nat} {g g' : Nat → va_E} (h : ∀ r ∈ Rl, g r = g' r) : rl_w Rl ad g = rl_w Rl ad g' := by
  simp only [rl_w]
  apply List.map_congr_left
  intro b hb
  rw [h b hb]
theorem rl_ne {A : Nat → Prop} {Rl : List Nat} {ad : Nat → Nat} {g : Nat → va_E} {r q : Nat} (hD : va_D A (rl_w Rl ad g)) (hr : r ∈ Rl) (hq : q ∈ Rl) (h : r ≠ q) : ad r ≠ ad q := by
  intro e
  obtain ⟨k, hk, hk'⟩ := rl_at (ad := ad) (g := g) hr
  obtain ⟨j, hj, hj'⟩ := rl_at (ad := ad) (g := g) hq
  have := hD.1 k j _ _ hk' hj' e
  subst this
  rw [hk] at hj
  exact h (Option.some.inj hj)
/-- all that a callee with this whole world may write lies in the caller's part -/
theorem rl_free {A0 : Nat → Prop} {ws : va_W} {H0 H : Heap} {locs : List Loc} (hD : va_D A0 ws) (hS : va_S A0 H0 H locs) (hA : ∀ q, H0.size ≤ q → A0 q) : ∀ q, va_A ws H.size q → A0 q := by
  intro q h
  rcases h with ⟨k, e, hk⟩ | h
  · exact hD.2 k _ hk
  · exact hA q (Nat.le_trans hS.1 h)
section RL
variable {p : Program} {l : Launch} {e : Env} {R : Room} {s : State} {m : MethodId} {args : Array Value} {below : List Frame} {meth : Method} {c : Code} {H : Heap} {locs : List Loc} {cells slots : Nat} {Q : State → Prop}
variable {cc : ByteArray} {pc : Nat} {ls : Array Slot} {rest : List Value} {D : va_G} {cl : List vw_C} {A : Nat → Prop} {tys : List (ClassId × FieldType)} {H0 : Heap} {Rl : List Nat} {ad : Nat → Nat} {g : Nat → va_E}
theorem rl_get (hexec : p.tables.exec = Jvm.exec) (hb : c.code = cc) {own ref C : String} {T : u_T} {N ci index r : Nat} {Ts : List Cond} (hts : ∀ w ∈ Ts, w.before args s = true) (hin : ∀ w ∈ u_ws C T N, w ∈ Ts) (hown : s.vm.findClass own = some m.cls) (hK : va_K D cl tys s) (hP : va_P D cl (rl_w Rl ad g) H) (hr : r ∈ Rl) {fs : List Value} (hg : g r = .inr (ci, fs)) (hc : cl[ci]? = some (C, T, N)) (k : Nat) (hk : k < N) (hlink : (Cond.fieldLink own index ref (T k).2.1 (T k).2.2.1) ∈ Ts) (hsame : ∀ x, s.fieldFound? (T k).1 (T k).2.1 (T k).2.2.1 = some x → s.fieldFound? ref (T k).2.1 (T k).2.2.1 = some x) {v : Value} (hv : fs[k]? = some v) (hdg : decode cc pc = .ok (.getfield index, 3))
    (kk : W p l e R s m args below meth c H locs cells slots Q (F0 m (pc + 3) ls (v :: rest))) : W p l e R s m args below meth c H locs cells slots Q (F0 m pc ls (.ref (ad r) :: rest)) := by
  obtain ⟨j, hj, hj'⟩ := rl_at (ad := ad) (g := g) hr
  rw [hg] at hj'
  exact va_get hexec hb hts hin hown hK hP j hj' hc k hk (hts _ hlink) hsame hv hdg kk
theorem rl_put (hexec : p.tables.exec = Jvm.exec) (hb : c.code = cc) {own ref C : String} {T : u_T} {N ci index r : Nat} {Ts : List Cond} (hts : ∀ w ∈ Ts, w.before args s = true) (hin : ∀ w ∈ u_ws C T N, w ∈ Ts) (ty0 : Nat → FieldType) (hty : ∀ k, k < N → parseFieldDescriptor (T k).2.2.1 = some (ty0 k)) (hnm : ∀ a, a < N → ∀ b, b < N → a ≠ b → (T a).2.1 ≠ (T b).2.1) (hown : s.vm.findClass own = some m.cls) (hK : va_K D cl tys s) (hP : va_P D cl (rl_w Rl ad g) H) (hD : va_D A (rl_w Rl ad g)) (hS0 : va_S A H0 H locs) (hr : r ∈ Rl) {fs : List Value} (hg : g r = .inr (ci, fs)) (hc : cl[ci]? = some (C, T, N)) (k : Nat) (hk : k < N) (hlink : (Cond.fieldLink own index ref (T k).2.1 (T k).2.2.1) ∈ Ts) (hsame : ∀ x, s.fieldFound? (T k).1 (T k).2.1 (T k).2.2.1 = some x → s.fieldFound? ref (T k).2.1 (T k).2.2.1 = some x) (hfin : (T k).2.2.2 = false) {ty : FieldType} {v : Value} (hd : parseFieldDescriptor (T k).2.2.1 = some ty) (hn : narrow ty v = v) (hfit : fits ty v = true) (hl : k < fs.length) (hdg : decode cc pc = .ok (.putfield index, 3))
    (kk : ∀ (H1 : Heap) (locs1 : List Loc), va_P D cl (rl_w Rl ad (va_up g r (.inr (ci, fs.set k v)))) H1 → va_D A (rl_w Rl ad (va_up g r (.inr (ci, fs.set k v)))) → va_S A H0 H1 locs1 → W p l e R s m args below meth c H1 locs1 cells slots Q (F0 m (pc + 3) ls rest)) : W p l e R s m args below meth c H locs cells slots Q (F0 m pc ls (v :: .ref (ad r) :: rest)) := by
  obtain ⟨j, hj, hj'⟩ := rl_at (ad := ad) (g := g) hr
  rw [hg] at hj'
  refine va_put hexec hb hts hin ty0 hty hnm hown hK hP hD hS0 j hj' hc k hk (hts _ hlink) hsame hfin hd hn hfit hl hdg (fun H1 l1 h1 h2 h3 => ?_)
  rw [rl_set hD hj] at h1 h2
  exact kk H1 l1 h1 h2 h3
theorem rl_putF (hexec : p.tables.exec = Jvm.exec) (hb : c.code = cc) {own ref C : String} {T : u_T} {N ci index r : Nat} {Ts : List Cond} (hts : ∀ w ∈ Ts, w.before args s = true) (hin : ∀ w ∈ u_ws C T N, w ∈ Ts) (ty0 : Nat → FieldType) (hty : ∀ k, k < N → parseFieldDescriptor (T k).2.2.1 = some (ty0 k)) (hnm : ∀ a, a < N → ∀ b, b < N → a ≠ b → (T a).2.1 ≠ (T b).2.1) (hown : s.vm.findClass own = some m.cls) (hK : va_K D cl tys s) (hP : va_P D cl (rl_w Rl ad g) H) (hD : va_D A (rl_w Rl ad g)) (hS0 : va_S A H0 H locs) (hr : r ∈ Rl) {fs : List Value} (hg : g r = .inr (ci, fs)) (hc : cl[ci]? = some (C, T, N)) (k : Nat) (hk : k < N) (hlink : (Cond.fieldLink own index ref (T k).2.1 (T k).2.2.1) ∈ Ts) (hsame : ∀ x, s.fieldFound? (T k).1 (T k).2.1 (T k).2.2.1 = some x → s.fieldFound? ref (T k).2.1 (T k).2.2.1 = some x) (hfin : (T k).2.2.2 = true) (hin2 : meth.name = "<init>") (hdecl : (T k).1 = own) {ty : FieldType} {v : Value} (hd : parseFieldDescriptor (T k).2.2.1 = some ty) (hn : narrow ty v = v) (hfit : fits ty v = true) (hl : k < fs.length) (hdg : decode cc pc = .ok (.putfield index, 3))
    (kk : ∀ (H1 : Heap) (locs1 : List Loc), va_P D cl (rl_w Rl ad (va_up g r (.inr (ci, fs.set k v)))) H1 → va_D A (rl_w Rl ad (va_up g r (.inr (ci, fs.set k v)))) → va_S A H0 H1 locs1 → W p l e R s m args below meth c H1 locs1 cells slots Q (F0 m (pc + 3) ls rest)) : W p l e R s m args below meth c H locs cells slots Q (F0 m pc ls (v :: .ref (ad r) :: rest)) := by
  obtain ⟨j, hj, hj'⟩ := rl_at (ad := ad) (g := g) hr
  rw [hg] at hj'
  refine va_putF hexec hb hts hin ty0 hty hnm hown hK hP hD hS0 j hj' hc k hk (hts _ hlink) hsame hfin hin2 hdecl hd hn hfit hl hdg (fun H1 l1 h1 h2 h3 => ?_)
  rw [rl_set hD hj] at h1 h2
  exact kk H1 l1 h1 h2 h3
theorem rl_iald (hexec : p.tables.exec = Jvm.exec) (hb : c.code = cc) (hK : va_K D cl tys s) (hP : va_P D cl (rl_w Rl ad g) H) {r : Nat} (hr : r ∈ Rl) (t0 : Nat) {cA : ClassId} {n : Nat} {f : Nat → Int32} (hg : g r = .inl (cA, n, .inl f)) (ht : tys[t0]? = some (cA, .int)) {i : Int32} (hin : vp_in i n) (hdg : decode cc pc = .ok (.iaload, 1))
    (kk : W p l e R s m args below meth c H locs cells slots Q (F0 m (pc + 1) ls (.int (f i.toNatClampNeg) :: rest))) : W p l e R s m args below meth c H locs cells slots Q (F0 m pc ls (.int i :: .ref (ad r) :: rest)) := by
  obtain ⟨j, hj, hj'⟩ := rl_at (ad := ad) (g := g) hr
  rw [hg] at hj'
  exact va_iald hexec hb hK hP j t0 hj' ht hin hdg kk
theorem rl_zald (hexec : p.tables.exec = Jvm.exec) (hb : c.code = cc) (hK : va_K D cl tys s) (hP : va_P D cl (rl_w Rl ad g) H) {r : Nat} (hr : r ∈ Rl) (t0 : Nat) {cA : ClassId} {n : Nat} {f : Nat → Int32} (hg : g r = .inl (cA, n, .inl f)) (ht : tys[t0]? = some (cA, .boolean)) {i : Int32} (hin : vp_in i n) (hdg : decode cc pc = .ok (.baload, 1))
    (kk : W p l e R s m args below meth c H locs cells slots Q (F0 m (pc + 1) ls (.int (f i.toNatClampNeg) :: rest))) : W p l e R s m args below meth c H locs cells slots Q (F0 m pc ls (.int i :: .ref (ad r) :: rest)) := by
  obtain ⟨j, hj, hj'⟩ := rl_at (ad := ad) (g := g) hr
  rw [hg] at hj'
  exact va_zald hexec hb hK hP j t0 hj' ht hin hdg kk
theorem rl_aldq (hexec : p.tables.exec = Jvm.exec) (hb : c.code = cc) (hK : va_K D cl tys s) (hP : va_P D cl (rl_w Rl ad g) H) {r : Nat} (hr : r ∈ Rl) (t0 : Nat) {cA : ClassId} {C : String} {n : Nat} {f : Nat → Option Nat} (hg : g r = .inl (cA, n, .inr (.inr (.inr (.inr f))))) (ht : tys[t0]? = some (cA, .object C)) {i : Int32} (hin : vp_in i n) (hdg : decode cc pc = .ok (.aaload, 1))
    (kk : W p l e R s m args below meth c H locs cells slots Q (F0 m (pc + 1) ls (va_rf (f i.toNatClampNeg) :: rest))) : W p l e R s m args below meth c H locs cells slots Q (F0 m pc ls (.int i :: .ref (ad r) :: rest)) := by
  obtain ⟨j, hj, hj'⟩ := rl_at (ad := ad) (g := g) hr
  rw [hg] at hj'
  exact va_aldq hexec hb hK hP j t0 hj' ht hin hdg kk
theorem rl_alen (hexec : p.tables.exec = Jvm.exec) (hb : c.code = cc) (hK : va_K D cl tys s) (hP : va_P D cl (rl_w Rl ad g) H) {r : Nat} (hr : r ∈ Rl) (t0 : Nat) {cA : ClassId} {x : vp_A} (hg : g r = .inl (cA, x)) {ty : FieldType} (ht : tys[t0]? = some (cA, ty)) {v : Int32} (hv : Int32.ofNat x.1 = v) (hdg : decode cc pc = .ok (.arraylength, 1))
    (kk : W p l e R s m args below meth c H locs cells slots Q (F0 m (pc + 1) ls (.int v :: rest))) : W p l e R s m args below meth c H locs cells slots Q (F0 m pc ls (.ref (ad r) :: rest)) := by
  obtain ⟨j, hj, hj'⟩ := rl_at (ad := ad) (g := g) hr
  rw [hg] at hj'
  exact va_alen hexec hb hK hP j t0 hj' ht hv hdg kk
theorem rl_iast (hexec : p.tables.exec = Jvm.exec) (hb : c.code = cc) (hK : va_K D cl tys s) (hP : va_P D cl (rl_w Rl ad g) H) (hD : va_D A (rl_w Rl ad g)) (hS : va_S A H0 H locs) {r : Nat} (hr : r ∈ Rl) (t0 : Nat) {cA : ClassId} {n : Nat} {f : Nat → Int32} (hg : g r = .inl (cA, n, .inl f)) (ht : tys[t0]? = some (cA, .int)) {i x : Int32} (hin : vp_in i n) (hdg : decode cc pc = .ok (.iastore, 1))
    (kk : ∀ (H1 : Heap) (locs1 : List Loc), va_P D cl (rl_w Rl ad (va_up g r (.inl (cA, n, .inl (upd f i.toNatClampNeg x))))) H1 → va_D A (rl_w Rl ad (va_up g r (.inl (cA, n, .inl (upd f i.toNatClampNeg x))))) → va_S A H0 H1 locs1 → W p l e R s m args below meth c H1 locs1 cells slots Q (F0 m (pc + 1) ls rest)) : W p l e R s m args below meth c H locs cells slots Q (F0 m pc ls (.int x :: .int i :: .ref (ad r) :: rest)) := by
  obtain ⟨j, hj, hj'⟩ := rl_at (ad := ad) (g := g) hr
  rw [hg] at hj'
  refine va_iast hexec hb hK hP hD hS j t0 hj' ht hin hdg (fun H1 l1 h1 h2 h3 => ?_)
  rw [rl_set hD hj] at h1 h2
  exact kk H1 l1 h1 h2 h3
theorem rl_zast (hexec : p.tables.exec = Jvm.exec) (hb : c.code = cc) (hK : va_K D cl tys s) (hP : va_P D cl (rl_w Rl ad g) H) (hD : va_D A (rl_w Rl ad g)) (hS : va_S A H0 H locs) {r : Nat} (hr : r ∈ Rl) (t0 : Nat) {cA : ClassId} {n : Nat} {f : Nat → Int32} (hg : g r = .inl (cA, n, .inl f)) (ht : tys[t0]? = some (cA, .boolean)) {i x : Int32} (hin : vp_in i n) (hdg : decode cc pc = .ok (.bastore, 1))
    (kk : ∀ (H1 : Heap) (locs1 : List Loc), va_P D cl (rl_w Rl ad (va_up g r (.inl (cA, n, .inl (upd f i.toNatClampNeg (vp_nar .boolean x)))))) H1 → va_D A (rl_w Rl ad (va_up g r (.inl (cA, n, .inl (upd f i.toNatClampNeg (vp_nar .boolean x)))))) → va_S A H0 H1 locs1 → W p l e R s m args below meth c H1 locs1 cells slots Q (F0 m (pc + 1) ls rest)) : W p l e R s m args below meth c H locs cells slots Q (F0 m pc ls (.int x :: .int i :: .ref (ad r) :: rest)) := by
  obtain ⟨j, hj, hj'⟩ := rl_at (ad := ad) (g := g) hr
  rw [hg] at hj'
  refine va_zast hexec hb hK hP hD hS j t0 hj' ht hin hdg (fun H1 l1 h1 h2 h3 => ?_)
  rw [rl_set hD hj] at h1 h2
  exact kk H1 l1 h1 h2 h3
theorem rl_astq (hexec : p.tables.exec = Jvm.exec) (hb : c.code = cc) (hK : va_K D cl tys s) (hP : va_P D cl (rl_w Rl ad g) H) (hD : va_D A (rl_w Rl ad g)) (hS : va_S A H0 H locs) {r : Nat} (hr : r ∈ Rl) (t0 : Nat) {E : String} {cA : ClassId} {n v : Nat} {f : Nat → Option Nat} (hg : g r = .inl (cA, n, .inr (.inr (.inr (.inr f))))) (ht : tys[t0]? = some (cA, .object E)) (hv : va_Any E s H v) {i : Int32} (hin : vp_in i n) (hdg : decode cc pc = .ok (.aastore, 1))
    (kk : ∀ (H1 : Heap) (locs1 : List Loc), va_P D cl (rl_w Rl ad (va_up g r (.inl (cA, n, .inr (.inr (.inr (.inr (va_up f i.toNatClampNeg (some v))))))))) H1 → va_D A (rl_w Rl ad (va_up g r (.inl (cA, n, .inr (.inr (.inr (.inr (va_up f i.toNatClampNeg (some v))))))))) → va_S A H0 H1 locs1 → W p l e R s m args below meth c H1 locs1 cells slots Q (F0 m (pc + 1) ls rest)) : W p l e R s m args below meth c H locs cells slots Q (F0 m pc ls (.ref v :: .int i :: .ref (ad r) :: rest)) := by
  obtain ⟨j, hj, hj'⟩ := rl_at (ad := ad) (g := g) hr
  rw [hg] at hj'
  refine va_astqM hexec hb hK hP hD hS j t0 hj' ht hv hin hdg (fun H1 l1 h1 h2 h3 => ?_)
  rw [rl_set hD hj] at h1 h2
  exact kk H1 l1 h1 h2 h3
theorem rl_recv {ci r : Nat} {q : vw_C} {fs : List Value} (hK : va_K D cl tys s) (hP : va_P D cl (rl_w Rl ad g) H) (hr : r ∈ Rl) (hg : g r = .inr (ci, fs)) (hc : cl[ci]? = some q) : ∃ cell : Cell, H[ad r]? = some cell ∧ cell.vm.isStatics = false ∧ s.vm.findClass q.1 = some cell.cls := by
  obtain ⟨j, hj, hj'⟩ := rl_at (ad := ad) (g := g) hr
  rw [hg] at hj'
  exact va_recv hK hP hc hj'
theorem rl_new {c0 : Code} (hexec : p.tables.exec = Jvm.exec) (hb : c0.code = cc) {own C : String} {T : u_T} {N ci index r : Nat} {Ts : List Cond} (hts : ∀ w ∈ Ts, w.before args s = true) (hin : ∀ w ∈ u_ws C T N, w ∈ Ts) (ty : Nat → FieldType) (hty : ∀ k, k < N → parseFieldDescriptor (T k).2.2.1 = some (ty k)) (hown : s.vm.findClass own = some m.cls) (hcl : (Cond.classLink own index C) ∈ Ts) (hinst : (Cond.instantiable C N) ∈ Ts) (hini : (Cond.initialized C) ∈ Ts)
    (hK : va_K D cl tys s) (hP : va_P D cl (rl_w Rl ad g) H) (hD : va_D A (rl_w Rl ad g)) (hS : va_S A H0 H locs) (hA : ∀ q, H0.size ≤ q → A q) (hc : cl[ci]? = some (C, T, N)) (hr : r ∉ Rl) {fs : List Value} (hfs : ∀ j, j < N → defaultValue (ty j) = vp_V fs j) (hcells : cells + 1 ≤ R.cells) (hslots : slots + N ≤ R.slots) (hdg : decode cc pc = .ok (.new index, 3))
    (kk : ∀ (q : Nat) (H1 : Heap), va_P D cl (rl_w (Rl ++ [r]) (va_up ad r q) (va_up g r (.inr (ci, fs)))) H1 → va_D A (rl_w (Rl ++ [r]) (va_up ad r q) (va_up g r (.inr (ci, fs)))) → va_S A H0 H1 locs →
      W p l e R s m args below meth c0 H1 locs (cells + 1) (slots + N) Q (F0 m (pc + 3) ls (.ref q :: rest))) : W p l e R s m args below meth c0 H locs cells slots Q (F0 m pc ls rest) := by
  refine va_new hexec hb hts hin ty hty hown (hts _ hcl) (hts _ hinst) (hts _ hini) hK hP hD hS hA hc hfs hcells hslots hdg (fun q H1 h1 h2 h3 => ?_)
  rw [rl_push hr] at h1 h2
  exact kk q H1 h1 h2 h3
end RL
end
section
def R_I : String := "InspectSteps$Inspection"
def F_I : u_T := fun k => match k with
  | 0 => ("InspectSteps$Inspection", "declaration", "I", true)
  | 1 => ("InspectSteps$Inspection", "kind", "I", true)
  | 2 => ("InspectSteps$Inspection", "due", "I", true)
  | 3 => ("InspectSteps$Inspection", "state", "I", false)
  | 4 => ("InspectSteps$Inspection", "level", "I", false)
  | 5 => ("InspectSteps$Inspection", "place", "I", false)
  | 6 => ("InspectSteps$Inspection", "from", "I", false)
  | 7 => ("InspectSteps$Inspection", "to", "I", false)
  | 8 => ("InspectSteps$Inspection", "person", "I", false)
  | _ => ("InspectSteps$Inspection", "sampleCount", "I", false)
def T_I : Nat → FieldType := fun k => match k with
  | 0 => .int
  | 1 => .int
  | 2 => .int
  | 3 => .int
  | 4 => .int
  | 5 => .int
  | 6 => .int
  | 7 => .int
  | 8 => .int
  | _ => .int
theorem n_I : ∀ a, a < 10 → ∀ b, b < 10 → a ≠ b → (F_I a).2.1 ≠ (F_I b).2.1 := by decide +kernel
theorem T_I_ok : ∀ k, k < 10 → parseFieldDescriptor (F_I k).2.2.1 = some (T_I k) := by decide +kernel
def R_S : String := "InspectSteps$Sample"
def F_S : u_T := fun k => match k with
  | 0 => ("InspectSteps$Sample", "declaration", "I", true)
  | 1 => ("InspectSteps$Sample", "seal", "I", true)
  | 2 => ("InspectSteps$Sample", "found", "[I", true)
  | _ => ("InspectSteps$Sample", "settled", "[Z", true)
def T_S : Nat → FieldType := fun k => match k with
  | 0 => .int
  | 1 => .int
  | 2 => .array .int
  | _ => .array .boolean
theorem n_S : ∀ a, a < 4 → ∀ b, b < 4 → a ≠ b → (F_S a).2.1 ≠ (F_S b).2.1 := by decide +kernel
theorem T_S_ok : ∀ k, k < 4 → parseFieldDescriptor (F_S k).2.2.1 = some (T_S k) := by decide +kernel
def R_C : String := "InspectSteps"
def F_C : u_T := fun k => match k with
  | 0 => ("InspectSteps", "inspections", "Ljava/util/ArrayList;", true)
  | 1 => ("InspectSteps", "samples", "Ljava/util/ArrayList;", true)
  | 2 => ("InspectSteps", "rights", "[I", true)
  | 3 => ("InspectSteps", "sealNumbers", "[I", true)
  | 4 => ("InspectSteps", "holders", "[I", true)
  | 5 => ("InspectSteps", "costs", "[I", true)
  | 6 => ("InspectSteps", "declaredValues", "[[I", true)
  | 7 => ("InspectSteps", "thousandthsUp", "[I", true)
  | 8 => ("InspectSteps", "thousandthsDown", "[I", true)
  | _ => ("InspectSteps", "now", "I", false)
def T_C : Nat → FieldType := fun k => match k with
  | 0 => .object "java/util/ArrayList"
  | 1 => .object "java/util/ArrayList"
  | 2 => .array .int
  | 3 => .array .int
  | 4 => .array .int
  | 5 => .array .int
  | 6 => .array (.array .int)
  | 7 => .array .int
  | 8 => .array .int
  | _ => .int
theorem n_C : ∀ a, a < 10 → ∀ b, b < 10 → a ≠ b → (F_C a).2.1 ≠ (F_C b).2.1 := by decide +kernel
theorem T_C_ok : ∀ k, k < 10 → parseFieldDescriptor (F_C k).2.2.1 = some (T_C k) := by decide +kernel
def R_M : String := "InspectStepsModel"
def F_M : u_T := fun k => match k with
  | 0 => ("InspectStepsModel", "thrown", "I", false)
  | 1 => ("InspectStepsModel", "size", "I", false)
  | 2 => ("InspectStepsModel", "samples", "I", false)
  | 3 => ("InspectStepsModel", "now", "I", false)
  | 4 => ("InspectStepsModel", "rights", "[Z", true)
  | 5 => ("InspectStepsModel", "ofDeclaration", "[I", true)
  | 6 => ("InspectStepsModel", "kindOf", "[I", true)
  | 7 => ("InspectStepsModel", "dueOf", "[I", true)
  | 8 => ("InspectStepsModel", "stateOf", "[I", true)
  | 9 => ("InspectStepsModel", "levelOf", "[I", true)
  | 10 => ("InspectStepsModel", "placeOf", "[I", true)
  | 11 => ("InspectStepsModel", "fromOf", "[I", true)
  | 12 => ("InspectStepsModel", "toOf", "[I", true)
  | 13 => ("InspectStepsModel", "byOf", "[I", true)
  | 14 => ("InspectStepsModel", "begunOf", "[I", true)
  | 15 => ("InspectStepsModel", "sealOf", "[I", true)
  | 16 => ("InspectStepsModel", "isBroken", "[Z", true)
  | 17 => ("InspectStepsModel", "holdsOf", "[I", true)
  | 18 => ("InspectStepsModel", "declaredOf", "[I", true)
  | 19 => ("InspectStepsModel", "sampleOf", "[I", true)
  | 20 => ("InspectStepsModel", "sampleSeal", "[I", true)
  | 21 => ("InspectStepsModel", "foundOf", "[I", true)
  | 22 => ("InspectStepsModel", "isSettled", "[Z", true)
  | 23 => ("InspectStepsModel", "upOf", "[I", true)
  | _ => ("InspectStepsModel", "downOf", "[I", true)
def T_M : Nat → FieldType := fun k => match k with
  | 0 => .int
  | 1 => .int
  | 2 => .int
  | 3 => .int
  | 4 => .array .boolean
  | 5 => .array .int
  | 6 => .array .int
  | 7 => .array .int
  | 8 => .array .int
  | 9 => .array .int
  | 10 => .array .int
  | 11 => .array .int
  | 12 => .array .int
  | 13 => .array .int
  | 14 => .array .int
  | 15 => .array .int
  | 16 => .array .boolean
  | 17 => .array .int
  | 18 => .array .int
  | 19 => .array .int
  | 20 => .array .int
  | 21 => .array .int
  | 22 => .array .boolean
  | 23 => .array .int
  | _ => .array .int
theorem n_M : ∀ a, a < 25 → ∀ b, b < 25 → a ≠ b → (F_M a).2.1 ≠ (F_M b).2.1 := by decide +kernel
theorem T_M_ok : ∀ k, k < 25 → parseFieldDescriptor (F_M k).2.2.1 = some (T_M k) := by decide +kernel
def R_L : String := "InspectStepsLaw"
def R_Al : String := "java/util/ArrayList"
def F_Al : u_T := fun k => match k with
  | 0 => ("java/util/ArrayList", "elementData", "[Ljava/lang/Object;", false)
  | 1 => ("java/util/ArrayList", "size", "I", false)
  | _ => ("java/util/AbstractList", "modCount", "I", false)
def T_Al : Nat → FieldType := fun k => match k with
  | 0 => .array (.object "java/lang/Object")
  | 1 => .int
  | _ => .int
theorem n_Al : ∀ a, a < 3 → ∀ b, b < 3 → a ≠ b → (F_Al a).2.1 ≠ (F_Al b).2.1 := by decide +kernel
theorem T_Al_ok : ∀ k, k < 3 → parseFieldDescriptor (F_Al k).2.2.1 = some (T_Al k) := by decide +kernel
def R_Ab : String := "java/util/AbstractList"
def R_Ac : String := "java/util/AbstractCollection"
def R_Ar : String := "java/util/Arrays"
def R_Ob : String := "java/util/Objects"
def R_Pr : String := "jdk/internal/util/Preconditions"
def R_As : String := "jdk/internal/util/ArraysSupport"
def R_Ma : String := "java/lang/Math"
abbrev b_I_init : ByteArray := prog_2_method_1_code
def y_I_init : MethodName := ⟨R_I, "<init>", "(III)V"⟩
theorem d_I_init_0 : decode b_I_init 0 = .ok (.aload_n 0, 1) := by decide +kernel
theorem d_I_init_1 : decode b_I_init 1 = .ok (.invokespecial 3, 3) := by decide +kernel
theorem d_I_init_4 : decode b_I_init 4 = .ok (.aload_n 0, 1) := by decide +kernel
theorem d_I_init_5 : decode b_I_init 5 = .ok (.iconst 0, 1) := by decide +kernel
theorem d_I_init_6 : decode b_I_init 6 = .ok (.putfield 9, 3) := by decide +kernel
theorem d_I_init_9 : decode b_I_init 9 = .ok (.aload_n 0, 1) := by decide +kernel
theorem d_I_init_10 : decode b_I_init 10 = .ok (.iconst 0, 1) := by decide +kernel
theorem d_I_init_11 : decode b_I_init 11 = .ok (.putfield 15, 3) := by decide +kernel
theorem d_I_init_14 : decode b_I_init 14 = .ok (.aload_n 0, 1) := by decide +kernel
theorem d_I_init_15 : decode b_I_init 15 = .ok (.iconst (-1), 1) := by decide +kernel
theorem d_I_init_16 : decode b_I_init 16 = .ok (.putfield 18, 3) := by decide +kernel
theorem d_I_init_19 : decode b_I_init 19 = .ok (.aload_n 0, 1) := by decide +kernel
theorem d_I_init_20 : decode b_I_init 20 = .ok (.iconst (-1), 1) := by decide +kernel
theorem d_I_init_21 : decode b_I_init 21 = .ok (.putfield 21, 3) := by decide +kernel
theorem d_I_init_24 : decode b_I_init 24 = .ok (.aload_n 0, 1) := by decide +kernel
theorem d_I_init_25 : decode b_I_init 25 = .ok (.iconst (-1), 1) := by decide +kernel
theorem d_I_init_26 : decode b_I_init 26 = .ok (.putfield 24, 3) := by decide +kernel
theorem d_I_init_29 : decode b_I_init 29 = .ok (.aload_n 0, 1) := by decide +kernel
theorem d_I_init_30 : decode b_I_init 30 = .ok (.iconst (-1), 1) := by decide +kernel
theorem d_I_init_31 : decode b_I_init 31 = .ok (.putfield 27, 3) := by decide +kernel
theorem d_I_init_34 : decode b_I_init 34 = .ok (.aload_n 0, 1) := by decide +kernel
theorem d_I_init_35 : decode b_I_init 35 = .ok (.iconst 0, 1) := by decide +kernel
theorem d_I_init_36 : decode b_I_init 36 = .ok (.putfield 30, 3) := by decide +kernel
theorem d_I_init_39 : decode b_I_init 39 = .ok (.aload_n 0, 1) := by decide +kernel
theorem d_I_init_40 : decode b_I_init 40 = .ok (.iload_n 1, 1) := by decide +kernel
theorem d_I_init_41 : decode b_I_init 41 = .ok (.putfield 33, 3) := by decide +kernel
theorem d_I_init_44 : decode b_I_init 44 = .ok (.aload_n 0, 1) := by decide +kernel
theorem d_I_init_45 : decode b_I_init 45 = .ok (.iload_n 2, 1) := by decide +kernel
theorem d_I_init_46 : decode b_I_init 46 = .ok (.putfield 36, 3) := by decide +kernel
theorem d_I_init_49 : decode b_I_init 49 = .ok (.aload_n 0, 1) := by decide +kernel
theorem d_I_init_50 : decode b_I_init 50 = .ok (.iload_n 3, 1) := by decide +kernel
theorem d_I_init_51 : decode b_I_init 51 = .ok (.putfield 39, 3) := by decide +kernel
theorem d_I_init_54 : decode b_I_init 54 = .ok (.return_, 1) := by decide +kernel
abbrev b_I_isOpening : ByteArray := prog_2_method_2_code
def y_I_isOpening : MethodName := ⟨R_I, "isOpening", "()Z"⟩
theorem d_I_isOpening_0 : decode b_I_isOpening 0 = .ok (.aload_n 0, 1) := by decide +kernel
theorem d_I_isOpening_1 : decode b_I_isOpening 1 = .ok (.getfield 36, 3) := by decide +kernel
theorem d_I_isOpening_4 : decode b_I_isOpening 4 = .ok (.iconst 3, 1) := by decide +kernel
theorem d_I_isOpening_5 : decode b_I_isOpening 5 = .ok (.if_icmp .lt 7, 3) := by decide +kernel
theorem d_I_isOpening_8 : decode b_I_isOpening 8 = .ok (.iconst 1, 1) := by decide +kernel
theorem d_I_isOpening_9 : decode b_I_isOpening 9 = .ok (.goto 4, 3) := by decide +kernel
theorem d_I_isOpening_12 : decode b_I_isOpening 12 = .ok (.iconst 0, 1) := by decide +kernel
theorem d_I_isOpening_13 : decode b_I_isOpening 13 = .ok (.ireturn, 1) := by decide +kernel
abbrev b_I_isPending : ByteArray := prog_2_method_3_code
def y_I_isPending : MethodName := ⟨R_I, "isPending", "()Z"⟩
theorem d_I_isPending_0 : decode b_I_isPending 0 = .ok (.aload_n 0, 1) := by decide +kernel
theorem d_I_isPending_1 : decode b_I_isPending 1 = .ok (.getfield 9, 3) := by decide +kernel
theorem d_I_isPending_4 : decode b_I_isPending 4 = .ok (.iconst 3, 1) := by decide +kernel
theorem d_I_isPending_5 : decode b_I_isPending 5 = .ok (.if_icmp .eq 15, 3) := by decide +kernel
theorem d_I_isPending_8 : decode b_I_isPending 8 = .ok (.aload_n 0, 1) := by decide +kernel
theorem d_I_isPending_9 : decode b_I_isPending 9 = .ok (.getfield 9, 3) := by decide +kernel
theorem d_I_isPending_12 : decode b_I_isPending 12 = .ok (.iconst 5, 1) := by decide +kernel
theorem d_I_isPending_13 : decode b_I_isPending 13 = .ok (.if_icmp .eq 7, 3) := by decide +kernel
theorem d_I_isPending_16 : decode b_I_isPending 16 = .ok (.iconst 1, 1) := by decide +kernel
theorem d_I_isPending_17 : decode b_I_isPending 17 = .ok (.goto 4, 3) := by decide +kernel
theorem d_I_isPending_20 : decode b_I_isPending 20 = .ok (.iconst 0, 1) := by decide +kernel
theorem d_I_isPending_21 : decode b_I_isPending 21 = .ok (.ireturn, 1) := by decide +kernel
abbrev b_I_canBePlanned : ByteArray := prog_2_method_4_code
def y_I_canBePlanned : MethodName := ⟨R_I, "canBePlanned", "()Z"⟩
theorem d_I_canBePlanned_0 : decode b_I_canBePlanned 0 = .ok (.aload_n 0, 1) := by decide +kernel
theorem d_I_canBePlanned_1 : decode b_I_canBePlanned 1 = .ok (.getfield 9, 3) := by decide +kernel
theorem d_I_canBePlanned_4 : decode b_I_canBePlanned 4 = .ok (.ifCond .eq 11, 3) := by decide +kernel
theorem d_I_canBePlanned_7 : decode b_I_canBePlanned 7 = .ok (.aload_n 0, 1) := by decide +kernel
theorem d_I_canBePlanned_8 : decode b_I_canBePlanned 8 = .ok (.getfield 9, 3) := by decide +kernel
theorem d_I_canBePlanned_11 : decode b_I_canBePlanned 11 = .ok (.iconst 4, 1) := by decide +kernel
theorem d_I_canBePlanned_12 : decode b_I_canBePlanned 12 = .ok (.if_icmp .ne 7, 3) := by decide +kernel
theorem d_I_canBePlanned_15 : decode b_I_canBePlanned 15 = .ok (.iconst 1, 1) := by decide +kernel
theorem d_I_canBePlanned_16 : decode b_I_canBePlanned 16 = .ok (.goto 4, 3) := by decide +kernel
theorem d_I_canBePlanned_19 : decode b_I_canBePlanned 19 = .ok (.iconst 0, 1) := by decide +kernel
theorem d_I_canBePlanned_20 : decode b_I_canBePlanned 20 = .ok (.ireturn, 1) := by decide +kernel
abbrev b_I_canBeBegunAt : ByteArray := prog_2_method_5_code
def y_I_canBeBegunAt : MethodName := ⟨R_I, "canBeBegunAt", "(I)Z"⟩
theorem d_I_canBeBegunAt_0 : decode b_I_canBeBegunAt 0 = .ok (.aload_n 0, 1) := by decide +kernel
theorem d_I_canBeBegunAt_1 : decode b_I_canBeBegunAt 1 = .ok (.getfield 9, 3) := by decide +kernel
theorem d_I_canBeBegunAt_4 : decode b_I_canBeBegunAt 4 = .ok (.iconst 1, 1) := by decide +kernel
theorem d_I_canBeBegunAt_5 : decode b_I_canBeBegunAt 5 = .ok (.if_icmp .ne 23, 3) := by decide +kernel
theorem d_I_canBeBegunAt_8 : decode b_I_canBeBegunAt 8 = .ok (.aload_n 0, 1) := by decide +kernel
theorem d_I_canBeBegunAt_9 : decode b_I_canBeBegunAt 9 = .ok (.getfield 21, 3) := by decide +kernel
theorem d_I_canBeBegunAt_12 : decode b_I_canBeBegunAt 12 = .ok (.iload_n 1, 1) := by decide +kernel
theorem d_I_canBeBegunAt_13 : decode b_I_canBeBegunAt 13 = .ok (.if_icmp .gt 15, 3) := by decide +kernel
theorem d_I_canBeBegunAt_16 : decode b_I_canBeBegunAt 16 = .ok (.iload_n 1, 1) := by decide +kernel
theorem d_I_canBeBegunAt_17 : decode b_I_canBeBegunAt 17 = .ok (.aload_n 0, 1) := by decide +kernel
theorem d_I_canBeBegunAt_18 : decode b_I_canBeBegunAt 18 = .ok (.getfield 24, 3) := by decide +kernel
theorem d_I_canBeBegunAt_21 : decode b_I_canBeBegunAt 21 = .ok (.if_icmp .gt 7, 3) := by decide +kernel
theorem d_I_canBeBegunAt_24 : decode b_I_canBeBegunAt 24 = .ok (.iconst 1, 1) := by decide +kernel
theorem d_I_canBeBegunAt_25 : decode b_I_canBeBegunAt 25 = .ok (.goto 4, 3) := by decide +kernel
theorem d_I_canBeBegunAt_28 : decode b_I_canBeBegunAt 28 = .ok (.iconst 0, 1) := by decide +kernel
theorem d_I_canBeBegunAt_29 : decode b_I_canBeBegunAt 29 = .ok (.ireturn, 1) := by decide +kernel
abbrev b_I_canBeGivenUp : ByteArray := prog_2_method_6_code
def y_I_canBeGivenUp : MethodName := ⟨R_I, "canBeGivenUp", "()Z"⟩
theorem d_I_canBeGivenUp_0 : decode b_I_canBeGivenUp 0 = .ok (.aload_n 0, 1) := by decide +kernel
theorem d_I_canBeGivenUp_1 : decode b_I_canBeGivenUp 1 = .ok (.getfield 9, 3) := by decide +kernel
theorem d_I_canBeGivenUp_4 : decode b_I_canBeGivenUp 4 = .ok (.ifCond .eq 19, 3) := by decide +kernel
theorem d_I_canBeGivenUp_7 : decode b_I_canBeGivenUp 7 = .ok (.aload_n 0, 1) := by decide +kernel
theorem d_I_canBeGivenUp_8 : decode b_I_canBeGivenUp 8 = .ok (.getfield 9, 3) := by decide +kernel
theorem d_I_canBeGivenUp_11 : decode b_I_canBeGivenUp 11 = .ok (.iconst 1, 1) := by decide +kernel
theorem d_I_canBeGivenUp_12 : decode b_I_canBeGivenUp 12 = .ok (.if_icmp .eq 11, 3) := by decide +kernel
theorem d_I_canBeGivenUp_15 : decode b_I_canBeGivenUp 15 = .ok (.aload_n 0, 1) := by decide +kernel
theorem d_I_canBeGivenUp_16 : decode b_I_canBeGivenUp 16 = .ok (.getfield 9, 3) := by decide +kernel
theorem d_I_canBeGivenUp_19 : decode b_I_canBeGivenUp 19 = .ok (.iconst 4, 1) := by decide +kernel
theorem d_I_canBeGivenUp_20 : decode b_I_canBeGivenUp 20 = .ok (.if_icmp .ne 7, 3) := by decide +kernel
theorem d_I_canBeGivenUp_23 : decode b_I_canBeGivenUp 23 = .ok (.iconst 1, 1) := by decide +kernel
theorem d_I_canBeGivenUp_24 : decode b_I_canBeGivenUp 24 = .ok (.goto 4, 3) := by decide +kernel
theorem d_I_canBeGivenUp_27 : decode b_I_canBeGivenUp 27 = .ok (.iconst 0, 1) := by decide +kernel
theorem d_I_canBeGivenUp_28 : decode b_I_canBeGivenUp 28 = .ok (.ireturn, 1) := by decide +kernel
abbrev b_I_hasAppointment : ByteArray := prog_2_method_7_code
def y_I_hasAppointment : MethodName := ⟨R_I, "hasAppointment", "()Z"⟩
theorem d_I_hasAppointment_0 : decode b_I_hasAppointment 0 = .ok (.aload_n 0, 1) := by decide +kernel
theorem d_I_hasAppointment_1 : decode b_I_hasAppointment 1 = .ok (.getfield 9, 3) := by decide +kernel
theorem d_I_hasAppointment_4 : decode b_I_hasAppointment 4 = .ok (.iconst 1, 1) := by decide +kernel
theorem d_I_hasAppointment_5 : decode b_I_hasAppointment 5 = .ok (.if_icmp .eq 11, 3) := by decide +kernel
theorem d_I_hasAppointment_8 : decode b_I_hasAppointment 8 = .ok (.aload_n 0, 1) := by decide +kernel
theorem d_I_hasAppointment_9 : decode b_I_hasAppointment 9 = .ok (.getfield 9, 3) := by decide +kernel
theorem d_I_hasAppointment_12 : decode b_I_hasAppointment 12 = .ok (.iconst 2, 1) := by decide +kernel
theorem d_I_hasAppointment_13 : decode b_I_hasAppointment 13 = .ok (.if_icmp .ne 7, 3) := by decide +kernel
theorem d_I_hasAppointment_16 : decode b_I_hasAppointment 16 = .ok (.iconst 1, 1) := by decide +kernel
theorem d_I_hasAppointment_17 : decode b_I_hasAppointment 17 = .ok (.goto 4, 3) := by decide +kernel
theorem d_I_hasAppointment_20 : decode b_I_hasAppointment 20 = .ok (.iconst 0, 1) := by decide +kernel
theorem d_I_hasAppointment_21 : decode b_I_hasAppointment 21 = .ok (.ireturn, 1) := by decide +kernel
abbrev b_I_takes : ByteArray := prog_2_method_8_code
def y_I_takes : MethodName := ⟨R_I, "takes", "(III)Z"⟩
theorem d_I_takes_0 : decode b_I_takes 0 = .ok (.aload_n 0, 1) := by decide +kernel
theorem d_I_takes_1 : decode b_I_takes 1 = .ok (.invokevirtual 42, 3) := by decide +kernel
theorem d_I_takes_4 : decode b_I_takes 4 = .ok (.ifCond .eq 31, 3) := by decide +kernel
theorem d_I_takes_7 : decode b_I_takes 7 = .ok (.aload_n 0, 1) := by decide +kernel
theorem d_I_takes_8 : decode b_I_takes 8 = .ok (.getfield 18, 3) := by decide +kernel
theorem d_I_takes_11 : decode b_I_takes 11 = .ok (.iload_n 1, 1) := by decide +kernel
theorem d_I_takes_12 : decode b_I_takes 12 = .ok (.if_icmp .ne 23, 3) := by decide +kernel
theorem d_I_takes_15 : decode b_I_takes 15 = .ok (.aload_n 0, 1) := by decide +kernel
theorem d_I_takes_16 : decode b_I_takes 16 = .ok (.getfield 21, 3) := by decide +kernel
theorem d_I_takes_19 : decode b_I_takes 19 = .ok (.iload_n 3, 1) := by decide +kernel
theorem d_I_takes_20 : decode b_I_takes 20 = .ok (.if_icmp .ge 15, 3) := by decide +kernel
theorem d_I_takes_23 : decode b_I_takes 23 = .ok (.iload_n 2, 1) := by decide +kernel
theorem d_I_takes_24 : decode b_I_takes 24 = .ok (.aload_n 0, 1) := by decide +kernel
theorem d_I_takes_25 : decode b_I_takes 25 = .ok (.getfield 24, 3) := by decide +kernel
theorem d_I_takes_28 : decode b_I_takes 28 = .ok (.if_icmp .ge 7, 3) := by decide +kernel
theorem d_I_takes_31 : decode b_I_takes 31 = .ok (.iconst 1, 1) := by decide +kernel
theorem d_I_takes_32 : decode b_I_takes 32 = .ok (.goto 4, 3) := by decide +kernel
theorem d_I_takes_35 : decode b_I_takes 35 = .ok (.iconst 0, 1) := by decide +kernel
theorem d_I_takes_36 : decode b_I_takes 36 = .ok (.ireturn, 1) := by decide +kernel
abbrev b_I_appoint : ByteArray := prog_2_method_9_code
def y_I_appoint : MethodName := ⟨R_I, "appoint", "(III)V"⟩
theorem d_I_appoint_0 : decode b_I_appoint 0 = .ok (.aload_n 0, 1) := by decide +kernel
theorem d_I_appoint_1 : decode b_I_appoint 1 = .ok (.iconst 1, 1) := by decide +kernel
theorem d_I_appoint_2 : decode b_I_appoint 2 = .ok (.putfield 9, 3) := by decide +kernel
theorem d_I_appoint_5 : decode b_I_appoint 5 = .ok (.aload_n 0, 1) := by decide +kernel
theorem d_I_appoint_6 : decode b_I_appoint 6 = .ok (.iload_n 1, 1) := by decide +kernel
theorem d_I_appoint_7 : decode b_I_appoint 7 = .ok (.putfield 18, 3) := by decide +kernel
theorem d_I_appoint_10 : decode b_I_appoint 10 = .ok (.aload_n 0, 1) := by decide +kernel
theorem d_I_appoint_11 : decode b_I_appoint 11 = .ok (.iload_n 2, 1) := by decide +kernel
theorem d_I_appoint_12 : decode b_I_appoint 12 = .ok (.putfield 21, 3) := by decide +kernel
theorem d_I_appoint_15 : decode b_I_appoint 15 = .ok (.aload_n 0, 1) := by decide +kernel
theorem d_I_appoint_16 : decode b_I_appoint 16 = .ok (.iload_n 3, 1) := by decide +kernel
theorem d_I_appoint_17 : decode b_I_appoint 17 = .ok (.putfield 24, 3) := by decide +kernel
theorem d_I_appoint_20 : decode b_I_appoint 20 = .ok (.return_, 1) := by decide +kernel
abbrev b_I_passUp : ByteArray := prog_2_method_10_code
def y_I_passUp : MethodName := ⟨R_I, "passUp", "(II)I"⟩
theorem d_I_passUp_0 : decode b_I_passUp 0 = .ok (.aload_n 0, 1) := by decide +kernel
theorem d_I_passUp_1 : decode b_I_passUp 1 = .ok (.invokevirtual 46, 3) := by decide +kernel
theorem d_I_passUp_4 : decode b_I_passUp 4 = .ok (.ifCond .ne 5, 3) := by decide +kernel
theorem d_I_passUp_7 : decode b_I_passUp 7 = .ok (.iconst 0, 1) := by decide +kernel
theorem d_I_passUp_8 : decode b_I_passUp 8 = .ok (.ireturn, 1) := by decide +kernel
theorem d_I_passUp_9 : decode b_I_passUp 9 = .ok (.aload_n 0, 1) := by decide +kernel
theorem d_I_passUp_10 : decode b_I_passUp 10 = .ok (.iload_n 2, 1) := by decide +kernel
theorem d_I_passUp_11 : decode b_I_passUp 11 = .ok (.invokevirtual 49, 3) := by decide +kernel
theorem d_I_passUp_14 : decode b_I_passUp 14 = .ok (.aload_n 0, 1) := by decide +kernel
theorem d_I_passUp_15 : decode b_I_passUp 15 = .ok (.iload_n 1, 1) := by decide +kernel
theorem d_I_passUp_16 : decode b_I_passUp 16 = .ok (.invokevirtual 49, 3) := by decide +kernel
theorem d_I_passUp_19 : decode b_I_passUp 19 = .ok (.isub, 1) := by decide +kernel
theorem d_I_passUp_20 : decode b_I_passUp 20 = .ok (.iconst 3, 1) := by decide +kernel
theorem d_I_passUp_21 : decode b_I_passUp 21 = .ok (.aload_n 0, 1) := by decide +kernel
theorem d_I_passUp_22 : decode b_I_passUp 22 = .ok (.getfield 15, 3) := by decide +kernel
theorem d_I_passUp_25 : decode b_I_passUp 25 = .ok (.isub, 1) := by decide +kernel
theorem d_I_passUp_26 : decode b_I_passUp 26 = .ok (.invokestatic 53, 3) := by decide +kernel
theorem d_I_passUp_29 : decode b_I_passUp 29 = .ok (.istore_n 3, 1) := by decide +kernel
theorem d_I_passUp_30 : decode b_I_passUp 30 = .ok (.aload_n 0, 1) := by decide +kernel
theorem d_I_passUp_31 : decode b_I_passUp 31 = .ok (.dup, 1) := by decide +kernel
theorem d_I_passUp_32 : decode b_I_passUp 32 = .ok (.getfield 15, 3) := by decide +kernel
theorem d_I_passUp_35 : decode b_I_passUp 35 = .ok (.iload_n 3, 1) := by decide +kernel
theorem d_I_passUp_36 : decode b_I_passUp 36 = .ok (.iadd, 1) := by decide +kernel
theorem d_I_passUp_37 : decode b_I_passUp 37 = .ok (.putfield 15, 3) := by decide +kernel
theorem d_I_passUp_40 : decode b_I_passUp 40 = .ok (.iload_n 3, 1) := by decide +kernel
theorem d_I_passUp_41 : decode b_I_passUp 41 = .ok (.ireturn, 1) := by decide +kernel
abbrev b_I_lateTimes : ByteArray := prog_2_method_11_code
def y_I_lateTimes : MethodName := ⟨R_I, "lateTimes", "(I)I"⟩
theorem d_I_lateTimes_0 : decode b_I_lateTimes 0 = .ok (.iload_n 1, 1) := by decide +kernel
theorem d_I_lateTimes_1 : decode b_I_lateTimes 1 = .ok (.aload_n 0, 1) := by decide +kernel
theorem d_I_lateTimes_2 : decode b_I_lateTimes 2 = .ok (.getfield 39, 3) := by decide +kernel
theorem d_I_lateTimes_5 : decode b_I_lateTimes 5 = .ok (.if_icmp .gt 7, 3) := by decide +kernel
theorem d_I_lateTimes_8 : decode b_I_lateTimes 8 = .ok (.iconst 0, 1) := by decide +kernel
theorem d_I_lateTimes_9 : decode b_I_lateTimes 9 = .ok (.goto 16, 3) := by decide +kernel
theorem d_I_lateTimes_12 : decode b_I_lateTimes 12 = .ok (.iload_n 1, 1) := by decide +kernel
theorem d_I_lateTimes_13 : decode b_I_lateTimes 13 = .ok (.aload_n 0, 1) := by decide +kernel
theorem d_I_lateTimes_14 : decode b_I_lateTimes 14 = .ok (.getfield 39, 3) := by decide +kernel
theorem d_I_lateTimes_17 : decode b_I_lateTimes 17 = .ok (.isub, 1) := by decide +kernel
theorem d_I_lateTimes_18 : decode b_I_lateTimes 18 = .ok (.iconst 1, 1) := by decide +kernel
theorem d_I_lateTimes_19 : decode b_I_lateTimes 19 = .ok (.isub, 1) := by decide +kernel
theorem d_I_lateTimes_20 : decode b_I_lateTimes 20 = .ok (.bipush 100, 2) := by decide +kernel
theorem d_I_lateTimes_22 : decode b_I_lateTimes 22 = .ok (.idiv, 1) := by decide +kernel
theorem d_I_lateTimes_23 : decode b_I_lateTimes 23 = .ok (.iconst 1, 1) := by decide +kernel
theorem d_I_lateTimes_24 : decode b_I_lateTimes 24 = .ok (.iadd, 1) := by decide +kernel
theorem d_I_lateTimes_25 : decode b_I_lateTimes 25 = .ok (.ireturn, 1) := by decide +kernel
abbrev b_S_init : ByteArray := prog_3_method_1_code
def y_S_init : MethodName := ⟨R_S, "<init>", "(II)V"⟩
theorem d_S_init_0 : decode b_S_init 0 = .ok (.aload_n 0, 1) := by decide +kernel
theorem d_S_init_1 : decode b_S_init 1 = .ok (.invokespecial 3, 3) := by decide +kernel
theorem d_S_init_4 : decode b_S_init 4 = .ok (.aload_n 0, 1) := by decide +kernel
theorem d_S_init_5 : decode b_S_init 5 = .ok (.iconst 4, 1) := by decide +kernel
theorem d_S_init_6 : decode b_S_init 6 = .ok (.newarray .int, 2) := by decide +kernel
theorem d_S_init_8 : decode b_S_init 8 = .ok (.putfield 9, 3) := by decide +kernel
theorem d_S_init_11 : decode b_S_init 11 = .ok (.aload_n 0, 1) := by decide +kernel
theorem d_S_init_12 : decode b_S_init 12 = .ok (.iconst 4, 1) := by decide +kernel
theorem d_S_init_13 : decode b_S_init 13 = .ok (.newarray .boolean, 2) := by decide +kernel
theorem d_S_init_15 : decode b_S_init 15 = .ok (.putfield 15, 3) := by decide +kernel
theorem d_S_init_18 : decode b_S_init 18 = .ok (.aload_n 0, 1) := by decide +kernel
theorem d_S_init_19 : decode b_S_init 19 = .ok (.iload_n 1, 1) := by decide +kernel
theorem d_S_init_20 : decode b_S_init 20 = .ok (.putfield 19, 3) := by decide +kernel
theorem d_S_init_23 : decode b_S_init 23 = .ok (.aload_n 0, 1) := by decide +kernel
theorem d_S_init_24 : decode b_S_init 24 = .ok (.iload_n 2, 1) := by decide +kernel
theorem d_S_init_25 : decode b_S_init 25 = .ok (.putfield 23, 3) := by decide +kernel
theorem d_S_init_28 : decode b_S_init 28 = .ok (.aload_n 0, 1) := by decide +kernel
theorem d_S_init_29 : decode b_S_init 29 = .ok (.getfield 9, 3) := by decide +kernel
theorem d_S_init_32 : decode b_S_init 32 = .ok (.iconst (-1), 1) := by decide +kernel
theorem d_S_init_33 : decode b_S_init 33 = .ok (.invokestatic 26, 3) := by decide +kernel
theorem d_S_init_36 : decode b_S_init 36 = .ok (.return_, 1) := by decide +kernel
abbrev b_S_hasResult : ByteArray := prog_3_method_2_code
def y_S_hasResult : MethodName := ⟨R_S, "hasResult", "()Z"⟩
theorem d_S_hasResult_0 : decode b_S_hasResult 0 = .ok (.iconst 0, 1) := by decide +kernel
theorem d_S_hasResult_1 : decode b_S_hasResult 1 = .ok (.istore_n 1, 1) := by decide +kernel
theorem d_S_hasResult_2 : decode b_S_hasResult 2 = .ok (.iload_n 1, 1) := by decide +kernel
theorem d_S_hasResult_3 : decode b_S_hasResult 3 = .ok (.iconst 4, 1) := by decide +kernel
theorem d_S_hasResult_4 : decode b_S_hasResult 4 = .ok (.if_icmp .ge 21, 3) := by decide +kernel
theorem d_S_hasResult_7 : decode b_S_hasResult 7 = .ok (.aload_n 0, 1) := by decide +kernel
theorem d_S_hasResult_8 : decode b_S_hasResult 8 = .ok (.getfield 9, 3) := by decide +kernel
theorem d_S_hasResult_11 : decode b_S_hasResult 11 = .ok (.iload_n 1, 1) := by decide +kernel
theorem d_S_hasResult_12 : decode b_S_hasResult 12 = .ok (.iaload, 1) := by decide +kernel
theorem d_S_hasResult_13 : decode b_S_hasResult 13 = .ok (.iconst (-1), 1) := by decide +kernel
theorem d_S_hasResult_14 : decode b_S_hasResult 14 = .ok (.if_icmp .eq 5, 3) := by decide +kernel
theorem d_S_hasResult_17 : decode b_S_hasResult 17 = .ok (.iconst 1, 1) := by decide +kernel
theorem d_S_hasResult_18 : decode b_S_hasResult 18 = .ok (.ireturn, 1) := by decide +kernel
theorem d_S_hasResult_19 : decode b_S_hasResult 19 = .ok (.iinc 1 1, 3) := by decide +kernel
theorem d_S_hasResult_22 : decode b_S_hasResult 22 = .ok (.goto (-20), 3) := by decide +kernel
theorem d_S_hasResult_25 : decode b_S_hasResult 25 = .ok (.iconst 0, 1) := by decide +kernel
theorem d_S_hasResult_26 : decode b_S_hasResult 26 = .ok (.ireturn, 1) := by decide +kernel
abbrev b_S_settleTold : ByteArray := prog_3_method_3_code
def y_S_settleTold : MethodName := ⟨R_S, "settleTold", "()V"⟩
theorem d_S_settleTold_0 : decode b_S_settleTold 0 = .ok (.iconst 0, 1) := by decide +kernel
theorem d_S_settleTold_1 : decode b_S_settleTold 1 = .ok (.istore_n 1, 1) := by decide +kernel
theorem d_S_settleTold_2 : decode b_S_settleTold 2 = .ok (.iload_n 1, 1) := by decide +kernel
theorem d_S_settleTold_3 : decode b_S_settleTold 3 = .ok (.iconst 4, 1) := by decide +kernel
theorem d_S_settleTold_4 : decode b_S_settleTold 4 = .ok (.if_icmp .ge 26, 3) := by decide +kernel
theorem d_S_settleTold_7 : decode b_S_settleTold 7 = .ok (.aload_n 0, 1) := by decide +kernel
theorem d_S_settleTold_8 : decode b_S_settleTold 8 = .ok (.getfield 9, 3) := by decide +kernel
theorem d_S_settleTold_11 : decode b_S_settleTold 11 = .ok (.iload_n 1, 1) := by decide +kernel
theorem d_S_settleTold_12 : decode b_S_settleTold 12 = .ok (.iaload, 1) := by decide +kernel
theorem d_S_settleTold_13 : decode b_S_settleTold 13 = .ok (.iconst (-1), 1) := by decide +kernel
theorem d_S_settleTold_14 : decode b_S_settleTold 14 = .ok (.if_icmp .eq 10, 3) := by decide +kernel
theorem d_S_settleTold_17 : decode b_S_settleTold 17 = .ok (.aload_n 0, 1) := by decide +kernel
theorem d_S_settleTold_18 : decode b_S_settleTold 18 = .ok (.getfield 15, 3) := by decide +kernel
theorem d_S_settleTold_21 : decode b_S_settleTold 21 = .ok (.iload_n 1, 1) := by decide +kernel
theorem d_S_settleTold_22 : decode b_S_settleTold 22 = .ok (.iconst 1, 1) := by decide +kernel
theorem d_S_settleTold_23 : decode b_S_settleTold 23 = .ok (.bastore, 1) := by decide +kernel
theorem d_S_settleTold_24 : decode b_S_settleTold 24 = .ok (.iinc 1 1, 3) := by decide +kernel
theorem d_S_settleTold_27 : decode b_S_settleTold 27 = .ok (.goto (-25), 3) := by decide +kernel
theorem d_S_settleTold_30 : decode b_S_settleTold 30 = .ok (.return_, 1) := by decide +kernel
abbrev b_L_inspection : ByteArray := method_3_code
def y_L_inspection : MethodName := ⟨R_L, "inspection", "(LInspectSteps;III[J)I"⟩
theorem d_L_inspection_0 : decode b_L_inspection 0 = .ok (.aload 4, 2) := by decide +kernel
theorem d_L_inspection_2 : decode b_L_inspection 2 = .ok (.iconst 0, 1) := by decide +kernel
theorem d_L_inspection_3 : decode b_L_inspection 3 = .ok (.aload_n 0, 1) := by decide +kernel
theorem d_L_inspection_4 : decode b_L_inspection 4 = .ok (.iload_n 1, 1) := by decide +kernel
theorem d_L_inspection_5 : decode b_L_inspection 5 = .ok (.iload_n 2, 1) := by decide +kernel
theorem d_L_inspection_6 : decode b_L_inspection 6 = .ok (.iload_n 3, 1) := by decide +kernel
theorem d_L_inspection_7 : decode b_L_inspection 7 = .ok (.invokevirtual 7, 3) := by decide +kernel
theorem d_L_inspection_10 : decode b_L_inspection 10 = .ok (.i2l, 1) := by decide +kernel
theorem d_L_inspection_11 : decode b_L_inspection 11 = .ok (.lastore, 1) := by decide +kernel
theorem d_L_inspection_12 : decode b_L_inspection 12 = .ok (.goto 11, 3) := by decide +kernel
theorem d_L_inspection_15 : decode b_L_inspection 15 = .ok (.astore 5, 2) := by decide +kernel
theorem d_L_inspection_17 : decode b_L_inspection 17 = .ok (.iconst 1, 1) := by decide +kernel
theorem d_L_inspection_18 : decode b_L_inspection 18 = .ok (.ireturn, 1) := by decide +kernel
theorem d_L_inspection_19 : decode b_L_inspection 19 = .ok (.astore 5, 2) := by decide +kernel
theorem d_L_inspection_21 : decode b_L_inspection 21 = .ok (.iconst 2, 1) := by decide +kernel
theorem d_L_inspection_22 : decode b_L_inspection 22 = .ok (.ireturn, 1) := by decide +kernel
theorem d_L_inspection_23 : decode b_L_inspection 23 = .ok (.iconst 0, 1) := by decide +kernel
theorem d_L_inspection_24 : decode b_L_inspection 24 = .ok (.ireturn, 1) := by decide +kernel
abbrev b_L_plan : ByteArray := method_4_code
def y_L_plan : MethodName := ⟨R_L, "plan", "(LInspectSteps;IIII[J)I"⟩
theorem d_L_plan_0 : decode b_L_plan 0 = .ok (.aload 5, 2) := by decide +kernel
theorem d_L_plan_2 : decode b_L_plan 2 = .ok (.iconst 0, 1) := by decide +kernel
theorem d_L_plan_3 : decode b_L_plan 3 = .ok (.aload_n 0, 1) := by decide +kernel
theorem d_L_plan_4 : decode b_L_plan 4 = .ok (.iload_n 1, 1) := by decide +kernel
theorem d_L_plan_5 : decode b_L_plan 5 = .ok (.iload_n 2, 1) := by decide +kernel
theorem d_L_plan_6 : decode b_L_plan 6 = .ok (.iload_n 3, 1) := by decide +kernel
theorem d_L_plan_7 : decode b_L_plan 7 = .ok (.iload 4, 2) := by decide +kernel
theorem d_L_plan_9 : decode b_L_plan 9 = .ok (.invokevirtual 17, 3) := by decide +kernel
theorem d_L_plan_12 : decode b_L_plan 12 = .ok (.i2l, 1) := by decide +kernel
theorem d_L_plan_13 : decode b_L_plan 13 = .ok (.lastore, 1) := by decide +kernel
theorem d_L_plan_14 : decode b_L_plan 14 = .ok (.goto 7, 3) := by decide +kernel
theorem d_L_plan_17 : decode b_L_plan 17 = .ok (.astore 6, 2) := by decide +kernel
theorem d_L_plan_19 : decode b_L_plan 19 = .ok (.iconst 1, 1) := by decide +kernel
theorem d_L_plan_20 : decode b_L_plan 20 = .ok (.ireturn, 1) := by decide +kernel
theorem d_L_plan_21 : decode b_L_plan 21 = .ok (.iconst 0, 1) := by decide +kernel
theorem d_L_plan_22 : decode b_L_plan 22 = .ok (.ireturn, 1) := by decide +kernel
abbrev b_L_begin : ByteArray := method_5_code
def y_L_begin : MethodName := ⟨R_L, "begin", "(LInspectSteps;II[J)I"⟩
theorem d_L_begin_0 : decode b_L_begin 0 = .ok (.aload_n 3, 1) := by decide +kernel
theorem d_L_begin_1 : decode b_L_begin 1 = .ok (.iconst 0, 1) := by decide +kernel
theorem d_L_begin_2 : decode b_L_begin 2 = .ok (.aload_n 0, 1) := by decide +kernel
theorem d_L_begin_3 : decode b_L_begin 3 = .ok (.iload_n 1, 1) := by decide +kernel
theorem d_L_begin_4 : decode b_L_begin 4 = .ok (.iload_n 2, 1) := by decide +kernel
theorem d_L_begin_5 : decode b_L_begin 5 = .ok (.invokevirtual 21, 3) := by decide +kernel
theorem d_L_begin_8 : decode b_L_begin 8 = .ok (.i2l, 1) := by decide +kernel
theorem d_L_begin_9 : decode b_L_begin 9 = .ok (.lastore, 1) := by decide +kernel
theorem d_L_begin_10 : decode b_L_begin 10 = .ok (.goto 7, 3) := by decide +kernel
theorem d_L_begin_13 : decode b_L_begin 13 = .ok (.astore 4, 2) := by decide +kernel
theorem d_L_begin_15 : decode b_L_begin 15 = .ok (.iconst 1, 1) := by decide +kernel
theorem d_L_begin_16 : decode b_L_begin 16 = .ok (.ireturn, 1) := by decide +kernel
theorem d_L_begin_17 : decode b_L_begin 17 = .ok (.iconst 0, 1) := by decide +kernel
theorem d_L_begin_18 : decode b_L_begin 18 = .ok (.ireturn, 1) := by decide +kernel
abbrev b_L_end : ByteArray := method_6_code
def y_L_end : MethodName := ⟨R_L, "end", "(LInspectSteps;IIZ[J)I"⟩
theorem d_L_end_0 : decode b_L_end 0 = .ok (.aload 4, 2) := by decide +kernel
theorem d_L_end_2 : decode b_L_end 2 = .ok (.iconst 0, 1) := by decide +kernel
theorem d_L_end_3 : decode b_L_end 3 = .ok (.aload_n 0, 1) := by decide +kernel
theorem d_L_end_4 : decode b_L_end 4 = .ok (.iload_n 1, 1) := by decide +kernel
theorem d_L_end_5 : decode b_L_end 5 = .ok (.iload_n 2, 1) := by decide +kernel
theorem d_L_end_6 : decode b_L_end 6 = .ok (.iload_n 3, 1) := by decide +kernel
theorem d_L_end_7 : decode b_L_end 7 = .ok (.invokevirtual 25, 3) := by decide +kernel
theorem d_L_end_10 : decode b_L_end 10 = .ok (.i2l, 1) := by decide +kernel
theorem d_L_end_11 : decode b_L_end 11 = .ok (.lastore, 1) := by decide +kernel
theorem d_L_end_12 : decode b_L_end 12 = .ok (.goto 7, 3) := by decide +kernel
theorem d_L_end_15 : decode b_L_end 15 = .ok (.astore 5, 2) := by decide +kernel
theorem d_L_end_17 : decode b_L_end 17 = .ok (.iconst 1, 1) := by decide +kernel
theorem d_L_end_18 : decode b_L_end 18 = .ok (.ireturn, 1) := by decide +kernel
theorem d_L_end_19 : decode b_L_end 19 = .ok (.iconst 0, 1) := by decide +kernel
theorem d_L_end_20 : decode b_L_end 20 = .ok (.ireturn, 1) := by decide +kernel
abbrev b_L_seal : ByteArray := method_7_code
def y_L_seal : MethodName := ⟨R_L, "seal", "(LInspectSteps;IIII[J)I"⟩
theorem d_L_seal_0 : decode b_L_seal 0 = .ok (.aload 5, 2) := by decide +kernel
theorem d_L_seal_2 : decode b_L_seal 2 = .ok (.iconst 0, 1) := by decide +kernel
theorem d_L_seal_3 : decode b_L_seal 3 = .ok (.aload_n 0, 1) := by decide +kernel
theorem d_L_seal_4 : decode b_L_seal 4 = .ok (.iload_n 1, 1) := by decide +kernel
theorem d_L_seal_5 : decode b_L_seal 5 = .ok (.iload_n 2, 1) := by decide +kernel
theorem d_L_seal_6 : decode b_L_seal 6 = .ok (.iload_n 3, 1) := by decide +kernel
theorem d_L_seal_7 : decode b_L_seal 7 = .ok (.iload 4, 2) := by decide +kernel
theorem d_L_seal_9 : decode b_L_seal 9 = .ok (.invokevirtual 29, 3) := by decide +kernel
theorem d_L_seal_12 : decode b_L_seal 12 = .ok (.i2l, 1) := by decide +kernel
theorem d_L_seal_13 : decode b_L_seal 13 = .ok (.lastore, 1) := by decide +kernel
theorem d_L_seal_14 : decode b_L_seal 14 = .ok (.goto 7, 3) := by decide +kernel
theorem d_L_seal_17 : decode b_L_seal 17 = .ok (.astore 6, 2) := by decide +kernel
theorem d_L_seal_19 : decode b_L_seal 19 = .ok (.iconst 1, 1) := by decide +kernel
theorem d_L_seal_20 : decode b_L_seal 20 = .ok (.ireturn, 1) := by decide +kernel
theorem d_L_seal_21 : decode b_L_seal 21 = .ok (.iconst 0, 1) := by decide +kernel
theorem d_L_seal_22 : decode b_L_seal 22 = .ok (.ireturn, 1) := by decide +kernel
abbrev b_L_sample : ByteArray := method_8_code
def y_L_sample : MethodName := ⟨R_L, "sample", "(LInspectSteps;II[J)I"⟩
theorem d_L_sample_0 : decode b_L_sample 0 = .ok (.aload_n 3, 1) := by decide +kernel
theorem d_L_sample_1 : decode b_L_sample 1 = .ok (.iconst 0, 1) := by decide +kernel
theorem d_L_sample_2 : decode b_L_sample 2 = .ok (.aload_n 0, 1) := by decide +kernel
theorem d_L_sample_3 : decode b_L_sample 3 = .ok (.iload_n 1, 1) := by decide +kernel
theorem d_L_sample_4 : decode b_L_sample 4 = .ok (.iload_n 2, 1) := by decide +kernel
theorem d_L_sample_5 : decode b_L_sample 5 = .ok (.invokevirtual 32, 3) := by decide +kernel
theorem d_L_sample_8 : decode b_L_sample 8 = .ok (.i2l, 1) := by decide +kernel
theorem d_L_sample_9 : decode b_L_sample 9 = .ok (.lastore, 1) := by decide +kernel
theorem d_L_sample_10 : decode b_L_sample 10 = .ok (.goto 11, 3) := by decide +kernel
theorem d_L_sample_13 : decode b_L_sample 13 = .ok (.astore 4, 2) := by decide +kernel
theorem d_L_sample_15 : decode b_L_sample 15 = .ok (.iconst 1, 1) := by decide +kernel
theorem d_L_sample_16 : decode b_L_sample 16 = .ok (.ireturn, 1) := by decide +kernel
theorem d_L_sample_17 : decode b_L_sample 17 = .ok (.astore 4, 2) := by decide +kernel
theorem d_L_sample_19 : decode b_L_sample 19 = .ok (.iconst 2, 1) := by decide +kernel
theorem d_L_sample_20 : decode b_L_sample 20 = .ok (.ireturn, 1) := by decide +kernel
theorem d_L_sample_21 : decode b_L_sample 21 = .ok (.iconst 0, 1) := by decide +kernel
theorem d_L_sample_22 : decode b_L_sample 22 = .ok (.ireturn, 1) := by decide +kernel
abbrev b_L_result : ByteArray := method_9_code
def y_L_result : MethodName := ⟨R_L, "result", "(LInspectSteps;IIII[J)I"⟩
theorem d_L_result_0 : decode b_L_result 0 = .ok (.aload 5, 2) := by decide +kernel
theorem d_L_result_2 : decode b_L_result 2 = .ok (.iconst 0, 1) := by decide +kernel
theorem d_L_result_3 : decode b_L_result 3 = .ok (.aload_n 0, 1) := by decide +kernel
theorem d_L_result_4 : decode b_L_result 4 = .ok (.iload_n 1, 1) := by decide +kernel
theorem d_L_result_5 : decode b_L_result 5 = .ok (.iload_n 2, 1) := by decide +kernel
theorem d_L_result_6 : decode b_L_result 6 = .ok (.iload_n 3, 1) := by decide +kernel
theorem d_L_result_7 : decode b_L_result 7 = .ok (.iload 4, 2) := by decide +kernel
theorem d_L_result_9 : decode b_L_result 9 = .ok (.invokevirtual 35, 3) := by decide +kernel
theorem d_L_result_12 : decode b_L_result 12 = .ok (.i2l, 1) := by decide +kernel
theorem d_L_result_13 : decode b_L_result 13 = .ok (.lastore, 1) := by decide +kernel
theorem d_L_result_14 : decode b_L_result 14 = .ok (.goto 7, 3) := by decide +kernel
theorem d_L_result_17 : decode b_L_result 17 = .ok (.astore 6, 2) := by decide +kernel
theorem d_L_result_19 : decode b_L_result 19 = .ok (.iconst 1, 1) := by decide +kernel
theorem d_L_result_20 : decode b_L_result 20 = .ok (.ireturn, 1) := by decide +kernel
theorem d_L_result_21 : decode b_L_result 21 = .ok (.iconst 0, 1) := by decide +kernel
theorem d_L_result_22 : decode b_L_result 22 = .ok (.ireturn, 1) := by decide +kernel
abbrev b_L_settle : ByteArray := method_10_code
def y_L_settle : MethodName := ⟨R_L, "settle", "(LInspectSteps;I[J)I"⟩
theorem d_L_settle_0 : decode b_L_settle 0 = .ok (.aload_n 2, 1) := by decide +kernel
theorem d_L_settle_1 : decode b_L_settle 1 = .ok (.iconst 0, 1) := by decide +kernel
theorem d_L_settle_2 : decode b_L_settle 2 = .ok (.aload_n 0, 1) := by decide +kernel
theorem d_L_settle_3 : decode b_L_settle 3 = .ok (.iload_n 1, 1) := by decide +kernel
theorem d_L_settle_4 : decode b_L_settle 4 = .ok (.invokevirtual 38, 3) := by decide +kernel
theorem d_L_settle_7 : decode b_L_settle 7 = .ok (.i2l, 1) := by decide +kernel
theorem d_L_settle_8 : decode b_L_settle 8 = .ok (.lastore, 1) := by decide +kernel
theorem d_L_settle_9 : decode b_L_settle 9 = .ok (.goto 6, 3) := by decide +kernel
theorem d_L_settle_12 : decode b_L_settle 12 = .ok (.astore_n 3, 1) := by decide +kernel
theorem d_L_settle_13 : decode b_L_settle 13 = .ok (.iconst 1, 1) := by decide +kernel
theorem d_L_settle_14 : decode b_L_settle 14 = .ok (.ireturn, 1) := by decide +kernel
theorem d_L_settle_15 : decode b_L_settle 15 = .ok (.iconst 0, 1) := by decide +kernel
theorem d_L_settle_16 : decode b_L_settle 16 = .ok (.ireturn, 1) := by decide +kernel
abbrev b_L_tick : ByteArray := method_11_code
def y_L_tick : MethodName := ⟨R_L, "tick", "(LInspectSteps;I[J)I"⟩
theorem d_L_tick_0 : decode b_L_tick 0 = .ok (.aload_n 2, 1) := by decide +kernel
theorem d_L_tick_1 : decode b_L_tick 1 = .ok (.iconst 0, 1) := by decide +kernel
theorem d_L_tick_2 : decode b_L_tick 2 = .ok (.aload_n 0, 1) := by decide +kernel
theorem d_L_tick_3 : decode b_L_tick 3 = .ok (.iload_n 1, 1) := by decide +kernel
theorem d_L_tick_4 : decode b_L_tick 4 = .ok (.invokevirtual 42, 3) := by decide +kernel
theorem d_L_tick_7 : decode b_L_tick 7 = .ok (.i2l, 1) := by decide +kernel
theorem d_L_tick_8 : decode b_L_tick 8 = .ok (.lastore, 1) := by decide +kernel
theorem d_L_tick_9 : decode b_L_tick 9 = .ok (.goto 6, 3) := by decide +kernel
theorem d_L_tick_12 : decode b_L_tick 12 = .ok (.astore_n 3, 1) := by decide +kernel
theorem d_L_tick_13 : decode b_L_tick 13 = .ok (.iconst 1, 1) := by decide +kernel
theorem d_L_tick_14 : decode b_L_tick 14 = .ok (.ireturn, 1) := by decide +kernel
theorem d_L_tick_15 : decode b_L_tick 15 = .ok (.iconst 0, 1) := by decide +kernel
theorem d_L_tick_16 : decode b_L_tick 16 = .ok (.ireturn, 1) := by decide +kernel
abbrev b_L_release : ByteArray := method_12_code
def y_L_release : MethodName := ⟨R_L, "release", "(LInspectSteps;I[J)I"⟩
theorem d_L_release_0 : decode b_L_release 0 = .ok (.aload_n 2, 1) := by decide +kernel
theorem d_L_release_1 : decode b_L_release 1 = .ok (.iconst 0, 1) := by decide +kernel
theorem d_L_release_2 : decode b_L_release 2 = .ok (.aload_n 0, 1) := by decide +kernel
theorem d_L_release_3 : decode b_L_release 3 = .ok (.iload_n 1, 1) := by decide +kernel
theorem d_L_release_4 : decode b_L_release 4 = .ok (.invokevirtual 45, 3) := by decide +kernel
theorem d_L_release_7 : decode b_L_release 7 = .ok (.i2l, 1) := by decide +kernel
theorem d_L_release_8 : decode b_L_release 8 = .ok (.lastore, 1) := by decide +kernel
theorem d_L_release_9 : decode b_L_release 9 = .ok (.goto 6, 3) := by decide +kernel
theorem d_L_release_12 : decode b_L_release 12 = .ok (.astore_n 3, 1) := by decide +kernel
theorem d_L_release_13 : decode b_L_release 13 = .ok (.iconst 1, 1) := by decide +kernel
theorem d_L_release_14 : decode b_L_release 14 = .ok (.ireturn, 1) := by decide +kernel
theorem d_L_release_15 : decode b_L_release 15 = .ok (.iconst 0, 1) := by decide +kernel
theorem d_L_release_16 : decode b_L_release 16 = .ok (.ireturn, 1) := by decide +kernel
abbrev b_L_look : ByteArray := method_13_code
def y_L_look : MethodName := ⟨R_L, "look", "(LInspectSteps;II[J)I"⟩
theorem d_L_look_0 : decode b_L_look 0 = .ok (.aload_n 3, 1) := by decide +kernel
theorem d_L_look_1 : decode b_L_look 1 = .ok (.iconst 0, 1) := by decide +kernel
theorem d_L_look_2 : decode b_L_look 2 = .ok (.aload_n 0, 1) := by decide +kernel
theorem d_L_look_3 : decode b_L_look 3 = .ok (.iload_n 1, 1) := by decide +kernel
theorem d_L_look_4 : decode b_L_look 4 = .ok (.iload_n 2, 1) := by decide +kernel
theorem d_L_look_5 : decode b_L_look 5 = .ok (.invokevirtual 48, 3) := by decide +kernel
theorem d_L_look_8 : decode b_L_look 8 = .ok (.i2l, 1) := by decide +kernel
theorem d_L_look_9 : decode b_L_look 9 = .ok (.lastore, 1) := by decide +kernel
theorem d_L_look_10 : decode b_L_look 10 = .ok (.goto 7, 3) := by decide +kernel
theorem d_L_look_13 : decode b_L_look 13 = .ok (.astore 4, 2) := by decide +kernel
theorem d_L_look_15 : decode b_L_look 15 = .ok (.iconst 1, 1) := by decide +kernel
theorem d_L_look_16 : decode b_L_look 16 = .ok (.ireturn, 1) := by decide +kernel
theorem d_L_look_17 : decode b_L_look 17 = .ok (.iconst 0, 1) := by decide +kernel
theorem d_L_look_18 : decode b_L_look 18 = .ok (.ireturn, 1) := by decide +kernel
abbrev b_Ma_abs : ByteArray := prog_13_method_61_code
def y_Ma_abs : MethodName := ⟨R_Ma, "abs", "(J)J"⟩
theorem d_Ma_abs_0 : decode b_Ma_abs 0 = .ok (.lload_n 0, 1) := by decide +kernel
theorem d_Ma_abs_1 : decode b_Ma_abs 1 = .ok (.lconst 0, 1) := by decide +kernel
theorem d_Ma_abs_2 : decode b_Ma_abs 2 = .ok (.lcmp, 1) := by decide +kernel
theorem d_Ma_abs_3 : decode b_Ma_abs 3 = .ok (.ifCond .ge 8, 3) := by decide +kernel
theorem d_Ma_abs_6 : decode b_Ma_abs 6 = .ok (.lload_n 0, 1) := by decide +kernel
theorem d_Ma_abs_7 : decode b_Ma_abs 7 = .ok (.lneg, 1) := by decide +kernel
theorem d_Ma_abs_8 : decode b_Ma_abs 8 = .ok (.goto 4, 3) := by decide +kernel
theorem d_Ma_abs_11 : decode b_Ma_abs 11 = .ok (.lload_n 0, 1) := by decide +kernel
theorem d_Ma_abs_12 : decode b_Ma_abs 12 = .ok (.lreturn, 1) := by decide +kernel
abbrev b_Ma_max : ByteArray := prog_13_method_65_code
def y_Ma_max : MethodName := ⟨R_Ma, "max", "(II)I"⟩
theorem d_Ma_max_0 : decode b_Ma_max 0 = .ok (.iload_n 0, 1) := by decide +kernel
theorem d_Ma_max_1 : decode b_Ma_max 1 = .ok (.iload_n 1, 1) := by decide +kernel
theorem d_Ma_max_2 : decode b_Ma_max 2 = .ok (.if_icmp .lt 7, 3) := by decide +kernel
theorem d_Ma_max_5 : decode b_Ma_max 5 = .ok (.iload_n 0, 1) := by decide +kernel
theorem d_Ma_max_6 : decode b_Ma_max 6 = .ok (.goto 4, 3) := by decide +kernel
theorem d_Ma_max_9 : decode b_Ma_max 9 = .ok (.iload_n 1, 1) := by decide +kernel
theorem d_Ma_max_10 : decode b_Ma_max 10 = .ok (.ireturn, 1) := by decide +kernel
abbrev b_Ma_min : ByteArray := prog_13_method_69_code
def y_Ma_min : MethodName := ⟨R_Ma, "min", "(II)I"⟩
theorem d_Ma_min_0 : decode b_Ma_min 0 = .ok (.iload_n 0, 1) := by decide +kernel
theorem d_Ma_min_1 : decode b_Ma_min 1 = .ok (.iload_n 1, 1) := by decide +kernel
theorem d_Ma_min_2 : decode b_Ma_min 2 = .ok (.if_icmp .gt 7, 3) := by decide +kernel
theorem d_Ma_min_5 : decode b_Ma_min 5 = .ok (.iload_n 0, 1) := by decide +kernel
theorem d_Ma_min_6 : decode b_Ma_min 6 = .ok (.goto 4, 3) := by decide +kernel
theorem d_Ma_min_9 : decode b_Ma_min 9 = .ok (.iload_n 1, 1) := by decide +kernel
theorem d_Ma_min_10 : decode b_Ma_min 10 = .ok (.ireturn, 1) := by decide +kernel
abbrev b_Ac_init : ByteArray := prog_18_method_1_code
def y_Ac_init : MethodName := ⟨R_Ac, "<init>", "()V"⟩
theorem d_Ac_init_0 : decode b_Ac_init 0 = .ok (.aload_n 0, 1) := by decide +kernel
theorem d_Ac_init_1 : decode b_Ac_init 1 = .ok (.invokespecial 1, 3) := by decide +kernel
theorem d_Ac_init_4 : decode b_Ac_init 4 = .ok (.return_, 1) := by decide +kernel
abbrev b_Ab_init : ByteArray := prog_19_method_1_code
def y_Ab_init : MethodName := ⟨R_Ab, "<init>", "()V"⟩
theorem d_Ab_init_0 : decode b_Ab_init 0 = .ok (.aload_n 0, 1) := by decide +kernel
theorem d_Ab_init_1 : decode b_Ab_init 1 = .ok (.invokespecial 1, 3) := by decide +kernel
theorem d_Ab_init_4 : decode b_Ab_init 4 = .ok (.aload_n 0, 1) := by decide +kernel
theorem d_Ab_init_5 : decode b_Ab_init 5 = .ok (.iconst 0, 1) := by decide +kernel
theorem d_Ab_init_6 : decode b_Ab_init 6 = .ok (.putfield 7, 3) := by decide +kernel
theorem d_Ab_init_9 : decode b_Ab_init 9 = .ok (.return_, 1) := by decide +kernel
abbrev b_Al_init : ByteArray := prog_20_method_2_code
def y_Al_init : MethodName := ⟨R_Al, "<init>", "()V"⟩
theorem d_Al_init_0 : decode b_Al_init 0 = .ok (.aload_n 0, 1) := by decide +kernel
theorem d_Al_init_1 : decode b_Al_init 1 = .ok (.invokespecial 1, 3) := by decide +kernel
theorem d_Al_init_4 : decode b_Al_init 4 = .ok (.aload_n 0, 1) := by decide +kernel
theorem d_Al_init_5 : decode b_Al_init 5 = .ok (.getstatic 39, 3) := by decide +kernel
theorem d_Al_init_8 : decode b_Al_init 8 = .ok (.putfield 9, 3) := by decide +kernel
theorem d_Al_init_11 : decode b_Al_init 11 = .ok (.return_, 1) := by decide +kernel
abbrev b_Al_add1 : ByteArray := prog_20_method_25_code
def y_Al_add1 : MethodName := ⟨R_Al, "add", "(Ljava/lang/Object;)Z"⟩
theorem d_Al_add1_0 : decode b_Al_add1 0 = .ok (.aload_n 0, 1) := by decide +kernel
theorem d_Al_add1_1 : decode b_Al_add1 1 = .ok (.dup, 1) := by decide +kernel
theorem d_Al_add1_2 : decode b_Al_add1 2 = .ok (.getfield 63, 3) := by decide +kernel
theorem d_Al_add1_5 : decode b_Al_add1 5 = .ok (.iconst 1, 1) := by decide +kernel
theorem d_Al_add1_6 : decode b_Al_add1 6 = .ok (.iadd, 1) := by decide +kernel
theorem d_Al_add1_7 : decode b_Al_add1 7 = .ok (.putfield 63, 3) := by decide +kernel
theorem d_Al_add1_10 : decode b_Al_add1 10 = .ok (.aload_n 0, 1) := by decide +kernel
theorem d_Al_add1_11 : decode b_Al_add1 11 = .ok (.aload_n 1, 1) := by decide +kernel
theorem d_Al_add1_12 : decode b_Al_add1 12 = .ok (.aload_n 0, 1) := by decide +kernel
theorem d_Al_add1_13 : decode b_Al_add1 13 = .ok (.getfield 9, 3) := by decide +kernel
theorem d_Al_add1_16 : decode b_Al_add1 16 = .ok (.aload_n 0, 1) := by decide +kernel
theorem d_Al_add1_17 : decode b_Al_add1 17 = .ok (.getfield 48, 3) := by decide +kernel
theorem d_Al_add1_20 : decode b_Al_add1 20 = .ok (.invokevirtual 131, 3) := by decide +kernel
theorem d_Al_add1_23 : decode b_Al_add1 23 = .ok (.iconst 1, 1) := by decide +kernel
theorem d_Al_add1_24 : decode b_Al_add1 24 = .ok (.ireturn, 1) := by decide +kernel
abbrev b_Al_add3 : ByteArray := prog_20_method_24_code
def y_Al_add3 : MethodName := ⟨R_Al, "add", "(Ljava/lang/Object;[Ljava/lang/Object;I)V"⟩
theorem d_Al_add3_0 : decode b_Al_add3 0 = .ok (.iload_n 3, 1) := by decide +kernel
theorem d_Al_add3_1 : decode b_Al_add3 1 = .ok (.aload_n 2, 1) := by decide +kernel
theorem d_Al_add3_2 : decode b_Al_add3 2 = .ok (.arraylength, 1) := by decide +kernel
theorem d_Al_add3_3 : decode b_Al_add3 3 = .ok (.if_icmp .ne 8, 3) := by decide +kernel
theorem d_Al_add3_6 : decode b_Al_add3 6 = .ok (.aload_n 0, 1) := by decide +kernel
theorem d_Al_add3_7 : decode b_Al_add3 7 = .ok (.invokevirtual 129, 3) := by decide +kernel
theorem d_Al_add3_10 : decode b_Al_add3 10 = .ok (.astore_n 2, 1) := by decide +kernel
theorem d_Al_add3_11 : decode b_Al_add3 11 = .ok (.aload_n 2, 1) := by decide +kernel
theorem d_Al_add3_12 : decode b_Al_add3 12 = .ok (.iload_n 3, 1) := by decide +kernel
theorem d_Al_add3_13 : decode b_Al_add3 13 = .ok (.aload_n 1, 1) := by decide +kernel
theorem d_Al_add3_14 : decode b_Al_add3 14 = .ok (.aastore, 1) := by decide +kernel
theorem d_Al_add3_15 : decode b_Al_add3 15 = .ok (.aload_n 0, 1) := by decide +kernel
theorem d_Al_add3_16 : decode b_Al_add3 16 = .ok (.iload_n 3, 1) := by decide +kernel
theorem d_Al_add3_17 : decode b_Al_add3 17 = .ok (.iconst 1, 1) := by decide +kernel
theorem d_Al_add3_18 : decode b_Al_add3 18 = .ok (.iadd, 1) := by decide +kernel
theorem d_Al_add3_19 : decode b_Al_add3 19 = .ok (.putfield 48, 3) := by decide +kernel
theorem d_Al_add3_22 : decode b_Al_add3 22 = .ok (.return_, 1) := by decide +kernel
abbrev b_Al_elementData : ByteArray := prog_20_method_18_code
def y_Al_elementData : MethodName := ⟨R_Al, "elementData", "(I)Ljava/lang/Object;"⟩
theorem d_Al_elementData_0 : decode b_Al_elementData 0 = .ok (.aload_n 0, 1) := by decide +kernel
theorem d_Al_elementData_1 : decode b_Al_elementData 1 = .ok (.getfield 9, 3) := by decide +kernel
theorem d_Al_elementData_4 : decode b_Al_elementData 4 = .ok (.iload_n 1, 1) := by decide +kernel
theorem d_Al_elementData_5 : decode b_Al_elementData 5 = .ok (.aaload, 1) := by decide +kernel
theorem d_Al_elementData_6 : decode b_Al_elementData 6 = .ok (.areturn, 1) := by decide +kernel
abbrev b_Al_get : ByteArray := prog_20_method_20_code
def y_Al_get : MethodName := ⟨R_Al, "get", "(I)Ljava/lang/Object;"⟩
theorem d_Al_get_0 : decode b_Al_get 0 = .ok (.iload_n 1, 1) := by decide +kernel
theorem d_Al_get_1 : decode b_Al_get 1 = .ok (.aload_n 0, 1) := by decide +kernel
theorem d_Al_get_2 : decode b_Al_get 2 = .ok (.getfield 48, 3) := by decide +kernel
theorem d_Al_get_5 : decode b_Al_get 5 = .ok (.invokestatic 118, 3) := by decide +kernel
theorem d_Al_get_8 : decode b_Al_get 8 = .ok (.pop, 1) := by decide +kernel
theorem d_Al_get_9 : decode b_Al_get 9 = .ok (.aload_n 0, 1) := by decide +kernel
theorem d_Al_get_10 : decode b_Al_get 10 = .ok (.iload_n 1, 1) := by decide +kernel
theorem d_Al_get_11 : decode b_Al_get 11 = .ok (.invokevirtual 123, 3) := by decide +kernel
theorem d_Al_get_14 : decode b_Al_get 14 = .ok (.areturn, 1) := by decide +kernel
abbrev b_Al_grow0 : ByteArray := prog_20_method_7_code
def y_Al_grow0 : MethodName := ⟨R_Al, "grow", "()[Ljava/lang/Object;"⟩
theorem d_Al_grow0_0 : decode b_Al_grow0 0 = .ok (.aload_n 0, 1) := by decide +kernel
theorem d_Al_grow0_1 : decode b_Al_grow0 1 = .ok (.aload_n 0, 1) := by decide +kernel
theorem d_Al_grow0_2 : decode b_Al_grow0 2 = .ok (.getfield 48, 3) := by decide +kernel
theorem d_Al_grow0_5 : decode b_Al_grow0 5 = .ok (.iconst 1, 1) := by decide +kernel
theorem d_Al_grow0_6 : decode b_Al_grow0 6 = .ok (.iadd, 1) := by decide +kernel
theorem d_Al_grow0_7 : decode b_Al_grow0 7 = .ok (.invokevirtual 69, 3) := by decide +kernel
theorem d_Al_grow0_10 : decode b_Al_grow0 10 = .ok (.areturn, 1) := by decide +kernel
abbrev b_Al_grow1 : ByteArray := prog_20_method_6_code
def y_Al_grow1 : MethodName := ⟨R_Al, "grow", "(I)[Ljava/lang/Object;"⟩
theorem d_Al_grow1_0 : decode b_Al_grow1 0 = .ok (.aload_n 0, 1) := by decide +kernel
theorem d_Al_grow1_1 : decode b_Al_grow1 1 = .ok (.getfield 9, 3) := by decide +kernel
theorem d_Al_grow1_4 : decode b_Al_grow1 4 = .ok (.arraylength, 1) := by decide +kernel
theorem d_Al_grow1_5 : decode b_Al_grow1 5 = .ok (.istore_n 2, 1) := by decide +kernel
theorem d_Al_grow1_6 : decode b_Al_grow1 6 = .ok (.iload_n 2, 1) := by decide +kernel
theorem d_Al_grow1_7 : decode b_Al_grow1 7 = .ok (.ifCond .gt 13, 3) := by decide +kernel
theorem d_Al_grow1_10 : decode b_Al_grow1 10 = .ok (.aload_n 0, 1) := by decide +kernel
theorem d_Al_grow1_11 : decode b_Al_grow1 11 = .ok (.getfield 9, 3) := by decide +kernel
theorem d_Al_grow1_14 : decode b_Al_grow1 14 = .ok (.getstatic 39, 3) := by decide +kernel
theorem d_Al_grow1_17 : decode b_Al_grow1 17 = .ok (.if_acmp .eq 28, 3) := by decide +kernel
theorem d_Al_grow1_20 : decode b_Al_grow1 20 = .ok (.iload_n 2, 1) := by decide +kernel
theorem d_Al_grow1_21 : decode b_Al_grow1 21 = .ok (.iload_n 1, 1) := by decide +kernel
theorem d_Al_grow1_22 : decode b_Al_grow1 22 = .ok (.iload_n 2, 1) := by decide +kernel
theorem d_Al_grow1_23 : decode b_Al_grow1 23 = .ok (.isub, 1) := by decide +kernel
theorem d_Al_grow1_24 : decode b_Al_grow1 24 = .ok (.iload_n 2, 1) := by decide +kernel
theorem d_Al_grow1_25 : decode b_Al_grow1 25 = .ok (.iconst 1, 1) := by decide +kernel
theorem d_Al_grow1_26 : decode b_Al_grow1 26 = .ok (.ishr, 1) := by decide +kernel
theorem d_Al_grow1_27 : decode b_Al_grow1 27 = .ok (.invokestatic 73, 3) := by decide +kernel
theorem d_Al_grow1_30 : decode b_Al_grow1 30 = .ok (.istore_n 3, 1) := by decide +kernel
theorem d_Al_grow1_31 : decode b_Al_grow1 31 = .ok (.aload_n 0, 1) := by decide +kernel
theorem d_Al_grow1_32 : decode b_Al_grow1 32 = .ok (.aload_n 0, 1) := by decide +kernel
theorem d_Al_grow1_33 : decode b_Al_grow1 33 = .ok (.getfield 9, 3) := by decide +kernel
theorem d_Al_grow1_36 : decode b_Al_grow1 36 = .ok (.iload_n 3, 1) := by decide +kernel
theorem d_Al_grow1_37 : decode b_Al_grow1 37 = .ok (.invokestatic 66, 3) := by decide +kernel
theorem d_Al_grow1_40 : decode b_Al_grow1 40 = .ok (.dup_x1, 1) := by decide +kernel
theorem d_Al_grow1_41 : decode b_Al_grow1 41 = .ok (.putfield 9, 3) := by decide +kernel
theorem d_Al_grow1_44 : decode b_Al_grow1 44 = .ok (.areturn, 1) := by decide +kernel
theorem d_Al_grow1_45 : decode b_Al_grow1 45 = .ok (.aload_n 0, 1) := by decide +kernel
theorem d_Al_grow1_46 : decode b_Al_grow1 46 = .ok (.bipush 10, 2) := by decide +kernel
theorem d_Al_grow1_48 : decode b_Al_grow1 48 = .ok (.iload_n 1, 1) := by decide +kernel
theorem d_Al_grow1_49 : decode b_Al_grow1 49 = .ok (.invokestatic 79, 3) := by decide +kernel
theorem d_Al_grow1_52 : decode b_Al_grow1 52 = .ok (.anewarray 7, 3) := by decide +kernel
theorem d_Al_grow1_55 : decode b_Al_grow1 55 = .ok (.dup_x1, 1) := by decide +kernel
theorem d_Al_grow1_56 : decode b_Al_grow1 56 = .ok (.putfield 9, 3) := by decide +kernel
theorem d_Al_grow1_59 : decode b_Al_grow1 59 = .ok (.areturn, 1) := by decide +kernel
abbrev b_Al_size : ByteArray := prog_20_method_8_code
def y_Al_size : MethodName := ⟨R_Al, "size", "()I"⟩
theorem d_Al_size_0 : decode b_Al_size 0 = .ok (.aload_n 0, 1) := by decide +kernel
theorem d_Al_size_1 : decode b_Al_size 1 = .ok (.getfield 48, 3) := by decide +kernel
theorem d_Al_size_4 : decode b_Al_size 4 = .ok (.ireturn, 1) := by decide +kernel
abbrev b_Ar_copyOf2 : ByteArray := prog_21_method_119_code
def y_Ar_copyOf2 : MethodName := ⟨R_Ar, "copyOf", "([Ljava/lang/Object;I)[Ljava/lang/Object;"⟩
theorem d_Ar_copyOf2_0 : decode b_Ar_copyOf2 0 = .ok (.aload_n 0, 1) := by decide +kernel
theorem d_Ar_copyOf2_1 : decode b_Ar_copyOf2 1 = .ok (.iload_n 1, 1) := by decide +kernel
theorem d_Ar_copyOf2_2 : decode b_Ar_copyOf2 2 = .ok (.aload_n 0, 1) := by decide +kernel
theorem d_Ar_copyOf2_3 : decode b_Ar_copyOf2 3 = .ok (.invokevirtual 86, 3) := by decide +kernel
theorem d_Ar_copyOf2_6 : decode b_Ar_copyOf2 6 = .ok (.invokestatic 300, 3) := by decide +kernel
theorem d_Ar_copyOf2_9 : decode b_Ar_copyOf2 9 = .ok (.areturn, 1) := by decide +kernel
abbrev b_Ar_copyOf3 : ByteArray := prog_21_method_120_code
def y_Ar_copyOf3 : MethodName := ⟨R_Ar, "copyOf", "([Ljava/lang/Object;ILjava/lang/Class;)[Ljava/lang/Object;"⟩
theorem d_Ar_copyOf3_0 : decode b_Ar_copyOf3 0 = .ok (.aload_n 2, 1) := by decide +kernel
theorem d_Ar_copyOf3_1 : decode b_Ar_copyOf3 1 = .ok (.ldc 110, 2) := by decide +kernel
theorem d_Ar_copyOf3_3 : decode b_Ar_copyOf3 3 = .ok (.if_acmp .ne 10, 3) := by decide +kernel
theorem d_Ar_copyOf3_6 : decode b_Ar_copyOf3 6 = .ok (.iload_n 1, 1) := by decide +kernel
theorem d_Ar_copyOf3_7 : decode b_Ar_copyOf3 7 = .ok (.anewarray 2, 3) := by decide +kernel
theorem d_Ar_copyOf3_10 : decode b_Ar_copyOf3 10 = .ok (.goto 14, 3) := by decide +kernel
theorem d_Ar_copyOf3_13 : decode b_Ar_copyOf3 13 = .ok (.aload_n 2, 1) := by decide +kernel
theorem d_Ar_copyOf3_14 : decode b_Ar_copyOf3 14 = .ok (.invokevirtual 90, 3) := by decide +kernel
theorem d_Ar_copyOf3_17 : decode b_Ar_copyOf3 17 = .ok (.iload_n 1, 1) := by decide +kernel
theorem d_Ar_copyOf3_18 : decode b_Ar_copyOf3 18 = .ok (.invokestatic 95, 3) := by decide +kernel
theorem d_Ar_copyOf3_21 : decode b_Ar_copyOf3 21 = .ok (.checkcast 110, 3) := by decide +kernel
theorem d_Ar_copyOf3_24 : decode b_Ar_copyOf3 24 = .ok (.astore_n 3, 1) := by decide +kernel
theorem d_Ar_copyOf3_25 : decode b_Ar_copyOf3 25 = .ok (.aload_n 0, 1) := by decide +kernel
theorem d_Ar_copyOf3_26 : decode b_Ar_copyOf3 26 = .ok (.iconst 0, 1) := by decide +kernel
theorem d_Ar_copyOf3_27 : decode b_Ar_copyOf3 27 = .ok (.aload_n 3, 1) := by decide +kernel
theorem d_Ar_copyOf3_28 : decode b_Ar_copyOf3 28 = .ok (.iconst 0, 1) := by decide +kernel
theorem d_Ar_copyOf3_29 : decode b_Ar_copyOf3 29 = .ok (.aload_n 0, 1) := by decide +kernel
theorem d_Ar_copyOf3_30 : decode b_Ar_copyOf3 30 = .ok (.arraylength, 1) := by decide +kernel
theorem d_Ar_copyOf3_31 : decode b_Ar_copyOf3 31 = .ok (.iload_n 1, 1) := by decide +kernel
theorem d_Ar_copyOf3_32 : decode b_Ar_copyOf3 32 = .ok (.invokestatic 304, 3) := by decide +kernel
theorem d_Ar_copyOf3_35 : decode b_Ar_copyOf3 35 = .ok (.invokestatic 150, 3) := by decide +kernel
theorem d_Ar_copyOf3_38 : decode b_Ar_copyOf3 38 = .ok (.aload_n 3, 1) := by decide +kernel
theorem d_Ar_copyOf3_39 : decode b_Ar_copyOf3 39 = .ok (.areturn, 1) := by decide +kernel
abbrev b_Ar_fill : ByteArray := prog_21_method_103_code
def y_Ar_fill : MethodName := ⟨R_Ar, "fill", "([II)V"⟩
theorem d_Ar_fill_0 : decode b_Ar_fill 0 = .ok (.iconst 0, 1) := by decide +kernel
theorem d_Ar_fill_1 : decode b_Ar_fill 1 = .ok (.istore_n 2, 1) := by decide +kernel
theorem d_Ar_fill_2 : decode b_Ar_fill 2 = .ok (.aload_n 0, 1) := by decide +kernel
theorem d_Ar_fill_3 : decode b_Ar_fill 3 = .ok (.arraylength, 1) := by decide +kernel
theorem d_Ar_fill_4 : decode b_Ar_fill 4 = .ok (.istore_n 3, 1) := by decide +kernel
theorem d_Ar_fill_5 : decode b_Ar_fill 5 = .ok (.iload_n 2, 1) := by decide +kernel
theorem d_Ar_fill_6 : decode b_Ar_fill 6 = .ok (.iload_n 3, 1) := by decide +kernel
theorem d_Ar_fill_7 : decode b_Ar_fill 7 = .ok (.if_icmp .ge 13, 3) := by decide +kernel
theorem d_Ar_fill_10 : decode b_Ar_fill 10 = .ok (.aload_n 0, 1) := by decide +kernel
theorem d_Ar_fill_11 : decode b_Ar_fill 11 = .ok (.iload_n 2, 1) := by decide +kernel
theorem d_Ar_fill_12 : decode b_Ar_fill 12 = .ok (.iload_n 1, 1) := by decide +kernel
theorem d_Ar_fill_13 : decode b_Ar_fill 13 = .ok (.iastore, 1) := by decide +kernel
theorem d_Ar_fill_14 : decode b_Ar_fill 14 = .ok (.iinc 2 1, 3) := by decide +kernel
theorem d_Ar_fill_17 : decode b_Ar_fill 17 = .ok (.goto (-12), 3) := by decide +kernel
theorem d_Ar_fill_20 : decode b_Ar_fill 20 = .ok (.return_, 1) := by decide +kernel
abbrev b_Ob_checkIndex : ByteArray := prog_24_method_17_code
def y_Ob_checkIndex : MethodName := ⟨R_Ob, "checkIndex", "(II)I"⟩
theorem d_Ob_checkIndex_0 : decode b_Ob_checkIndex 0 = .ok (.iload_n 0, 1) := by decide +kernel
theorem d_Ob_checkIndex_1 : decode b_Ob_checkIndex 1 = .ok (.iload_n 1, 1) := by decide +kernel
theorem d_Ob_checkIndex_2 : decode b_Ob_checkIndex 2 = .ok (.aconst_null, 1) := by decide +kernel
theorem d_Ob_checkIndex_3 : decode b_Ob_checkIndex 3 = .ok (.invokestatic 105, 3) := by decide +kernel
theorem d_Ob_checkIndex_6 : decode b_Ob_checkIndex 6 = .ok (.ireturn, 1) := by decide +kernel
abbrev b_As_newLength : ByteArray := prog_27_method_27_code
def y_As_newLength : MethodName := ⟨R_As, "newLength", "(III)I"⟩
theorem d_As_newLength_0 : decode b_As_newLength 0 = .ok (.iload_n 0, 1) := by decide +kernel
theorem d_As_newLength_1 : decode b_As_newLength 1 = .ok (.iload_n 1, 1) := by decide +kernel
theorem d_As_newLength_2 : decode b_As_newLength 2 = .ok (.iload_n 2, 1) := by decide +kernel
theorem d_As_newLength_3 : decode b_As_newLength 3 = .ok (.invokestatic 194, 3) := by decide +kernel
theorem d_As_newLength_6 : decode b_As_newLength 6 = .ok (.iadd, 1) := by decide +kernel
theorem d_As_newLength_7 : decode b_As_newLength 7 = .ok (.istore_n 3, 1) := by decide +kernel
theorem d_As_newLength_8 : decode b_As_newLength 8 = .ok (.iconst 0, 1) := by decide +kernel
theorem d_As_newLength_9 : decode b_As_newLength 9 = .ok (.iload_n 3, 1) := by decide +kernel
theorem d_As_newLength_10 : decode b_As_newLength 10 = .ok (.if_icmp .ge 11, 3) := by decide +kernel
theorem d_As_newLength_13 : decode b_As_newLength 13 = .ok (.iload_n 3, 1) := by decide +kernel
theorem d_As_newLength_14 : decode b_As_newLength 14 = .ok (.ldc 200, 2) := by decide +kernel
theorem d_As_newLength_16 : decode b_As_newLength 16 = .ok (.if_icmp .gt 5, 3) := by decide +kernel
theorem d_As_newLength_19 : decode b_As_newLength 19 = .ok (.iload_n 3, 1) := by decide +kernel
theorem d_As_newLength_20 : decode b_As_newLength 20 = .ok (.ireturn, 1) := by decide +kernel
theorem d_As_newLength_21 : decode b_As_newLength 21 = .ok (.iload_n 0, 1) := by decide +kernel
theorem d_As_newLength_22 : decode b_As_newLength 22 = .ok (.iload_n 1, 1) := by decide +kernel
theorem d_As_newLength_23 : decode b_As_newLength 23 = .ok (.invokestatic 201, 3) := by decide +kernel
theorem d_As_newLength_26 : decode b_As_newLength 26 = .ok (.ireturn, 1) := by decide +kernel
abbrev b_Pr_checkIndex : ByteArray := prog_28_method_11_code
def y_Pr_checkIndex : MethodName := ⟨R_Pr, "checkIndex", "(IILjava/util/function/BiFunction;)I"⟩
theorem d_Pr_checkIndex_0 : decode b_Pr_checkIndex 0 = .ok (.iload_n 0, 1) := by decide +kernel
theorem d_Pr_checkIndex_1 : decode b_Pr_checkIndex 1 = .ok (.ifCond .lt 8, 3) := by decide +kernel
theorem d_Pr_checkIndex_4 : decode b_Pr_checkIndex 4 = .ok (.iload_n 0, 1) := by decide +kernel
theorem d_Pr_checkIndex_5 : decode b_Pr_checkIndex 5 = .ok (.iload_n 1, 1) := by decide +kernel
theorem d_Pr_checkIndex_6 : decode b_Pr_checkIndex 6 = .ok (.if_icmp .lt 10, 3) := by decide +kernel
theorem d_Pr_checkIndex_9 : decode b_Pr_checkIndex 9 = .ok (.aload_n 2, 1) := by decide +kernel
theorem d_Pr_checkIndex_10 : decode b_Pr_checkIndex 10 = .ok (.iload_n 0, 1) := by decide +kernel
theorem d_Pr_checkIndex_11 : decode b_Pr_checkIndex 11 = .ok (.iload_n 1, 1) := by decide +kernel
theorem d_Pr_checkIndex_12 : decode b_Pr_checkIndex 12 = .ok (.invokestatic 95, 3) := by decide +kernel
theorem d_Pr_checkIndex_15 : decode b_Pr_checkIndex 15 = .ok (.athrow, 1) := by decide +kernel
theorem d_Pr_checkIndex_16 : decode b_Pr_checkIndex 16 = .ok (.iload_n 0, 1) := by decide +kernel
theorem d_Pr_checkIndex_17 : decode b_Pr_checkIndex 17 = .ok (.ireturn, 1) := by decide +kernel
end
section
abbrev b_C_init : ByteArray := prog_1_method_1_code
def y_C_init : MethodName := ⟨R_C, "<init>", "()V"⟩
theorem d_C_init_0 : decode b_C_init 0 = .ok (.aload_n 0, 1) := by decide +kernel
theorem d_C_init_1 : decode b_C_init 1 = .ok (.invokespecial 1, 3) := by decide +kernel
theorem d_C_init_4 : decode b_C_init 4 = .ok (.aload_n 0, 1) := by decide +kernel
theorem d_C_init_5 : decode b_C_init 5 = .ok (.new 7, 3) := by decide +kernel
theorem d_C_init_8 : decode b_C_init 8 = .ok (.dup, 1) := by decide +kernel
theorem d_C_init_9 : decode b_C_init 9 = .ok (.invokespecial 9, 3) := by decide +kernel
theorem d_C_init_12 : decode b_C_init 12 = .ok (.putfield 10, 3) := by decide +kernel
theorem d_C_init_15 : decode b_C_init 15 = .ok (.aload_n 0, 1) := by decide +kernel
theorem d_C_init_16 : decode b_C_init 16 = .ok (.new 7, 3) := by decide +kernel
theorem d_C_init_19 : decode b_C_init 19 = .ok (.dup, 1) := by decide +kernel
theorem d_C_init_20 : decode b_C_init 20 = .ok (.invokespecial 9, 3) := by decide +kernel
theorem d_C_init_23 : decode b_C_init 23 = .ok (.putfield 16, 3) := by decide +kernel
theorem d_C_init_26 : decode b_C_init 26 = .ok (.aload_n 0, 1) := by decide +kernel
theorem d_C_init_27 : decode b_C_init 27 = .ok (.bipush 10, 2) := by decide +kernel
theorem d_C_init_29 : decode b_C_init 29 = .ok (.newarray .int, 2) := by decide +kernel
theorem d_C_init_31 : decode b_C_init 31 = .ok (.putfield 19, 3) := by decide +kernel
theorem d_C_init_34 : decode b_C_init 34 = .ok (.aload_n 0, 1) := by decide +kernel
theorem d_C_init_35 : decode b_C_init 35 = .ok (.bipush 10, 2) := by decide +kernel
theorem d_C_init_37 : decode b_C_init 37 = .ok (.newarray .int, 2) := by decide +kernel
theorem d_C_init_39 : decode b_C_init 39 = .ok (.putfield 23, 3) := by decide +kernel
theorem d_C_init_42 : decode b_C_init 42 = .ok (.aload_n 0, 1) := by decide +kernel
theorem d_C_init_43 : decode b_C_init 43 = .ok (.bipush 10, 2) := by decide +kernel
theorem d_C_init_45 : decode b_C_init 45 = .ok (.newarray .int, 2) := by decide +kernel
theorem d_C_init_47 : decode b_C_init 47 = .ok (.putfield 26, 3) := by decide +kernel
theorem d_C_init_50 : decode b_C_init 50 = .ok (.aload_n 0, 1) := by decide +kernel
theorem d_C_init_51 : decode b_C_init 51 = .ok (.bipush 10, 2) := by decide +kernel
theorem d_C_init_53 : decode b_C_init 53 = .ok (.newarray .int, 2) := by decide +kernel
theorem d_C_init_55 : decode b_C_init 55 = .ok (.putfield 29, 3) := by decide +kernel
theorem d_C_init_58 : decode b_C_init 58 = .ok (.aload_n 0, 1) := by decide +kernel
theorem d_C_init_59 : decode b_C_init 59 = .ok (.bipush 10, 2) := by decide +kernel
theorem d_C_init_61 : decode b_C_init 61 = .ok (.iconst 4, 1) := by decide +kernel
theorem d_C_init_62 : decode b_C_init 62 = .ok (.multianewarray 32 2, 4) := by decide +kernel
theorem d_C_init_66 : decode b_C_init 66 = .ok (.putfield 34, 3) := by decide +kernel
theorem d_C_init_69 : decode b_C_init 69 = .ok (.aload_n 0, 1) := by decide +kernel
theorem d_C_init_70 : decode b_C_init 70 = .ok (.iconst 4, 1) := by decide +kernel
theorem d_C_init_71 : decode b_C_init 71 = .ok (.newarray .int, 2) := by decide +kernel
theorem d_C_init_73 : decode b_C_init 73 = .ok (.putfield 37, 3) := by decide +kernel
theorem d_C_init_76 : decode b_C_init 76 = .ok (.aload_n 0, 1) := by decide +kernel
theorem d_C_init_77 : decode b_C_init 77 = .ok (.iconst 4, 1) := by decide +kernel
theorem d_C_init_78 : decode b_C_init 78 = .ok (.newarray .int, 2) := by decide +kernel
theorem d_C_init_80 : decode b_C_init 80 = .ok (.putfield 40, 3) := by decide +kernel
theorem d_C_init_83 : decode b_C_init 83 = .ok (.aload_n 0, 1) := by decide +kernel
theorem d_C_init_84 : decode b_C_init 84 = .ok (.iconst 0, 1) := by decide +kernel
theorem d_C_init_85 : decode b_C_init 85 = .ok (.putfield 43, 3) := by decide +kernel
theorem d_C_init_88 : decode b_C_init 88 = .ok (.iconst 0, 1) := by decide +kernel
theorem d_C_init_89 : decode b_C_init 89 = .ok (.istore_n 1, 1) := by decide +kernel
theorem d_C_init_90 : decode b_C_init 90 = .ok (.iload_n 1, 1) := by decide +kernel
theorem d_C_init_91 : decode b_C_init 91 = .ok (.bipush 10, 2) := by decide +kernel
theorem d_C_init_93 : decode b_C_init 93 = .ok (.if_icmp .ge 19, 3) := by decide +kernel
theorem d_C_init_96 : decode b_C_init 96 = .ok (.aload_n 0, 1) := by decide +kernel
theorem d_C_init_97 : decode b_C_init 97 = .ok (.getfield 34, 3) := by decide +kernel
theorem d_C_init_100 : decode b_C_init 100 = .ok (.iload_n 1, 1) := by decide +kernel
theorem d_C_init_101 : decode b_C_init 101 = .ok (.aaload, 1) := by decide +kernel
theorem d_C_init_102 : decode b_C_init 102 = .ok (.iconst (-1), 1) := by decide +kernel
theorem d_C_init_103 : decode b_C_init 103 = .ok (.invokestatic 47, 3) := by decide +kernel
theorem d_C_init_106 : decode b_C_init 106 = .ok (.iinc 1 1, 3) := by decide +kernel
theorem d_C_init_109 : decode b_C_init 109 = .ok (.goto (-19), 3) := by decide +kernel
theorem d_C_init_112 : decode b_C_init 112 = .ok (.return_, 1) := by decide +kernel
abbrev b_C_right : ByteArray := prog_1_method_2_code
def y_C_right : MethodName := ⟨R_C, "right", "(IIZ)Z"⟩
theorem d_C_right_0 : decode b_C_right 0 = .ok (.iload_n 1, 1) := by decide +kernel
theorem d_C_right_1 : decode b_C_right 1 = .ok (.invokestatic 53, 3) := by decide +kernel
theorem d_C_right_4 : decode b_C_right 4 = .ok (.ifCond .eq 22, 3) := by decide +kernel
theorem d_C_right_7 : decode b_C_right 7 = .ok (.iload_n 2, 1) := by decide +kernel
theorem d_C_right_8 : decode b_C_right 8 = .ok (.iconst 0, 1) := by decide +kernel
theorem d_C_right_9 : decode b_C_right 9 = .ok (.iconst 5, 1) := by decide +kernel
theorem d_C_right_10 : decode b_C_right 10 = .ok (.invokestatic 57, 3) := by decide +kernel
theorem d_C_right_13 : decode b_C_right 13 = .ok (.ifCond .eq 13, 3) := by decide +kernel
theorem d_C_right_16 : decode b_C_right 16 = .ok (.aload_n 0, 1) := by decide +kernel
theorem d_C_right_17 : decode b_C_right 17 = .ok (.iload_n 1, 1) := by decide +kernel
theorem d_C_right_18 : decode b_C_right 18 = .ok (.iload_n 2, 1) := by decide +kernel
theorem d_C_right_19 : decode b_C_right 19 = .ok (.invokevirtual 61, 3) := by decide +kernel
theorem d_C_right_22 : decode b_C_right 22 = .ok (.iload_n 3, 1) := by decide +kernel
theorem d_C_right_23 : decode b_C_right 23 = .ok (.if_icmp .ne 5, 3) := by decide +kernel
theorem d_C_right_26 : decode b_C_right 26 = .ok (.iconst 0, 1) := by decide +kernel
theorem d_C_right_27 : decode b_C_right 27 = .ok (.ireturn, 1) := by decide +kernel
theorem d_C_right_28 : decode b_C_right 28 = .ok (.aload_n 0, 1) := by decide +kernel
theorem d_C_right_29 : decode b_C_right 29 = .ok (.getfield 19, 3) := by decide +kernel
theorem d_C_right_32 : decode b_C_right 32 = .ok (.iload_n 1, 1) := by decide +kernel
theorem d_C_right_33 : decode b_C_right 33 = .ok (.dup2, 1) := by decide +kernel
theorem d_C_right_34 : decode b_C_right 34 = .ok (.iaload, 1) := by decide +kernel
theorem d_C_right_35 : decode b_C_right 35 = .ok (.iconst 1, 1) := by decide +kernel
theorem d_C_right_36 : decode b_C_right 36 = .ok (.iload_n 2, 1) := by decide +kernel
theorem d_C_right_37 : decode b_C_right 37 = .ok (.ishl, 1) := by decide +kernel
theorem d_C_right_38 : decode b_C_right 38 = .ok (.ixor, 1) := by decide +kernel
theorem d_C_right_39 : decode b_C_right 39 = .ok (.iastore, 1) := by decide +kernel
theorem d_C_right_40 : decode b_C_right 40 = .ok (.iconst 1, 1) := by decide +kernel
theorem d_C_right_41 : decode b_C_right 41 = .ok (.ireturn, 1) := by decide +kernel
abbrev b_C_inspection : ByteArray := prog_1_method_3_code
def y_C_inspection : MethodName := ⟨R_C, "inspection", "(III)I"⟩
theorem d_C_inspection_0 : decode b_C_inspection 0 = .ok (.iload_n 1, 1) := by decide +kernel
theorem d_C_inspection_1 : decode b_C_inspection 1 = .ok (.invokestatic 65, 3) := by decide +kernel
theorem d_C_inspection_4 : decode b_C_inspection 4 = .ok (.ifCond .eq 12, 3) := by decide +kernel
theorem d_C_inspection_7 : decode b_C_inspection 7 = .ok (.iload_n 2, 1) := by decide +kernel
theorem d_C_inspection_8 : decode b_C_inspection 8 = .ok (.iconst 0, 1) := by decide +kernel
theorem d_C_inspection_9 : decode b_C_inspection 9 = .ok (.iconst 4, 1) := by decide +kernel
theorem d_C_inspection_10 : decode b_C_inspection 10 = .ok (.invokestatic 57, 3) := by decide +kernel
theorem d_C_inspection_13 : decode b_C_inspection 13 = .ok (.ifCond .ne 13, 3) := by decide +kernel
theorem d_C_inspection_16 : decode b_C_inspection 16 = .ok (.new 68, 3) := by decide +kernel
theorem d_C_inspection_19 : decode b_C_inspection 19 = .ok (.dup, 1) := by decide +kernel
theorem d_C_inspection_20 : decode b_C_inspection 20 = .ok (.ldc 70, 2) := by decide +kernel
theorem d_C_inspection_22 : decode b_C_inspection 22 = .ok (.invokespecial 72, 3) := by decide +kernel
theorem d_C_inspection_25 : decode b_C_inspection 25 = .ok (.athrow, 1) := by decide +kernel
theorem d_C_inspection_26 : decode b_C_inspection 26 = .ok (.aload_n 0, 1) := by decide +kernel
theorem d_C_inspection_27 : decode b_C_inspection 27 = .ok (.iload_n 3, 1) := by decide +kernel
theorem d_C_inspection_28 : decode b_C_inspection 28 = .ok (.invokevirtual 75, 3) := by decide +kernel
theorem d_C_inspection_31 : decode b_C_inspection 31 = .ok (.ifCond .ne 13, 3) := by decide +kernel
theorem d_C_inspection_34 : decode b_C_inspection 34 = .ok (.new 68, 3) := by decide +kernel
theorem d_C_inspection_37 : decode b_C_inspection 37 = .ok (.dup, 1) := by decide +kernel
theorem d_C_inspection_38 : decode b_C_inspection 38 = .ok (.ldc 78, 2) := by decide +kernel
theorem d_C_inspection_40 : decode b_C_inspection 40 = .ok (.invokespecial 72, 3) := by decide +kernel
theorem d_C_inspection_43 : decode b_C_inspection 43 = .ok (.athrow, 1) := by decide +kernel
theorem d_C_inspection_44 : decode b_C_inspection 44 = .ok (.aload_n 0, 1) := by decide +kernel
theorem d_C_inspection_45 : decode b_C_inspection 45 = .ok (.getfield 10, 3) := by decide +kernel
theorem d_C_inspection_48 : decode b_C_inspection 48 = .ok (.invokevirtual 80, 3) := by decide +kernel
theorem d_C_inspection_51 : decode b_C_inspection 51 = .ok (.bipush 30, 2) := by decide +kernel
theorem d_C_inspection_53 : decode b_C_inspection 53 = .ok (.if_icmp .lt 13, 3) := by decide +kernel
theorem d_C_inspection_56 : decode b_C_inspection 56 = .ok (.new 84, 3) := by decide +kernel
theorem d_C_inspection_59 : decode b_C_inspection 59 = .ok (.dup, 1) := by decide +kernel
theorem d_C_inspection_60 : decode b_C_inspection 60 = .ok (.ldc 86, 2) := by decide +kernel
theorem d_C_inspection_62 : decode b_C_inspection 62 = .ok (.invokespecial 88, 3) := by decide +kernel
theorem d_C_inspection_65 : decode b_C_inspection 65 = .ok (.athrow, 1) := by decide +kernel
theorem d_C_inspection_66 : decode b_C_inspection 66 = .ok (.aload_n 0, 1) := by decide +kernel
theorem d_C_inspection_67 : decode b_C_inspection 67 = .ok (.getfield 10, 3) := by decide +kernel
theorem d_C_inspection_70 : decode b_C_inspection 70 = .ok (.new 89, 3) := by decide +kernel
theorem d_C_inspection_73 : decode b_C_inspection 73 = .ok (.dup, 1) := by decide +kernel
theorem d_C_inspection_74 : decode b_C_inspection 74 = .ok (.iload_n 1, 1) := by decide +kernel
theorem d_C_inspection_75 : decode b_C_inspection 75 = .ok (.iload_n 2, 1) := by decide +kernel
theorem d_C_inspection_76 : decode b_C_inspection 76 = .ok (.iload_n 3, 1) := by decide +kernel
theorem d_C_inspection_77 : decode b_C_inspection 77 = .ok (.invokespecial 91, 3) := by decide +kernel
theorem d_C_inspection_80 : decode b_C_inspection 80 = .ok (.invokevirtual 94, 3) := by decide +kernel
theorem d_C_inspection_83 : decode b_C_inspection 83 = .ok (.pop, 1) := by decide +kernel
theorem d_C_inspection_84 : decode b_C_inspection 84 = .ok (.aload_n 0, 1) := by decide +kernel
theorem d_C_inspection_85 : decode b_C_inspection 85 = .ok (.getfield 10, 3) := by decide +kernel
theorem d_C_inspection_88 : decode b_C_inspection 88 = .ok (.invokevirtual 80, 3) := by decide +kernel
theorem d_C_inspection_91 : decode b_C_inspection 91 = .ok (.iconst 1, 1) := by decide +kernel
theorem d_C_inspection_92 : decode b_C_inspection 92 = .ok (.isub, 1) := by decide +kernel
theorem d_C_inspection_93 : decode b_C_inspection 93 = .ok (.ireturn, 1) := by decide +kernel
abbrev b_C_plan : ByteArray := prog_1_method_4_code
def y_C_plan : MethodName := ⟨R_C, "plan", "(IIII)I"⟩
theorem d_C_plan_0 : decode b_C_plan 0 = .ok (.aload_n 0, 1) := by decide +kernel
theorem d_C_plan_1 : decode b_C_plan 1 = .ok (.iload_n 1, 1) := by decide +kernel
theorem d_C_plan_2 : decode b_C_plan 2 = .ok (.invokevirtual 98, 3) := by decide +kernel
theorem d_C_plan_5 : decode b_C_plan 5 = .ok (.ifCond .eq 12, 3) := by decide +kernel
theorem d_C_plan_8 : decode b_C_plan 8 = .ok (.iload_n 2, 1) := by decide +kernel
theorem d_C_plan_9 : decode b_C_plan 9 = .ok (.iconst 0, 1) := by decide +kernel
theorem d_C_plan_10 : decode b_C_plan 10 = .ok (.iconst 3, 1) := by decide +kernel
theorem d_C_plan_11 : decode b_C_plan 11 = .ok (.invokestatic 57, 3) := by decide +kernel
theorem d_C_plan_14 : decode b_C_plan 14 = .ok (.ifCond .ne 13, 3) := by decide +kernel
theorem d_C_plan_17 : decode b_C_plan 17 = .ok (.new 68, 3) := by decide +kernel
theorem d_C_plan_20 : decode b_C_plan 20 = .ok (.dup, 1) := by decide +kernel
theorem d_C_plan_21 : decode b_C_plan 21 = .ok (.ldc 101, 2) := by decide +kernel
theorem d_C_plan_23 : decode b_C_plan 23 = .ok (.invokespecial 72, 3) := by decide +kernel
theorem d_C_plan_26 : decode b_C_plan 26 = .ok (.athrow, 1) := by decide +kernel
theorem d_C_plan_27 : decode b_C_plan 27 = .ok (.aload_n 0, 1) := by decide +kernel
theorem d_C_plan_28 : decode b_C_plan 28 = .ok (.iload_n 3, 1) := by decide +kernel
theorem d_C_plan_29 : decode b_C_plan 29 = .ok (.invokevirtual 75, 3) := by decide +kernel
theorem d_C_plan_32 : decode b_C_plan 32 = .ok (.ifCond .eq 18, 3) := by decide +kernel
theorem d_C_plan_35 : decode b_C_plan 35 = .ok (.aload_n 0, 1) := by decide +kernel
theorem d_C_plan_36 : decode b_C_plan 36 = .ok (.iload 4, 2) := by decide +kernel
theorem d_C_plan_38 : decode b_C_plan 38 = .ok (.invokevirtual 75, 3) := by decide +kernel
theorem d_C_plan_41 : decode b_C_plan 41 = .ok (.ifCond .eq 9, 3) := by decide +kernel
theorem d_C_plan_44 : decode b_C_plan 44 = .ok (.iload_n 3, 1) := by decide +kernel
theorem d_C_plan_45 : decode b_C_plan 45 = .ok (.iload 4, 2) := by decide +kernel
theorem d_C_plan_47 : decode b_C_plan 47 = .ok (.if_icmp .lt 13, 3) := by decide +kernel
theorem d_C_plan_50 : decode b_C_plan 50 = .ok (.new 68, 3) := by decide +kernel
theorem d_C_plan_53 : decode b_C_plan 53 = .ok (.dup, 1) := by decide +kernel
theorem d_C_plan_54 : decode b_C_plan 54 = .ok (.ldc 103, 2) := by decide +kernel
theorem d_C_plan_56 : decode b_C_plan 56 = .ok (.invokespecial 72, 3) := by decide +kernel
theorem d_C_plan_59 : decode b_C_plan 59 = .ok (.athrow, 1) := by decide +kernel
theorem d_C_plan_60 : decode b_C_plan 60 = .ok (.aload_n 0, 1) := by decide +kernel
theorem d_C_plan_61 : decode b_C_plan 61 = .ok (.getfield 10, 3) := by decide +kernel
theorem d_C_plan_64 : decode b_C_plan 64 = .ok (.iload_n 1, 1) := by decide +kernel
theorem d_C_plan_65 : decode b_C_plan 65 = .ok (.invokevirtual 105, 3) := by decide +kernel
theorem d_C_plan_68 : decode b_C_plan 68 = .ok (.checkcast 89, 3) := by decide +kernel
theorem d_C_plan_71 : decode b_C_plan 71 = .ok (.astore 5, 2) := by decide +kernel
theorem d_C_plan_73 : decode b_C_plan 73 = .ok (.aload 5, 2) := by decide +kernel
theorem d_C_plan_75 : decode b_C_plan 75 = .ok (.invokevirtual 109, 3) := by decide +kernel
theorem d_C_plan_78 : decode b_C_plan 78 = .ok (.ifCond .eq 14, 3) := by decide +kernel
theorem d_C_plan_81 : decode b_C_plan 81 = .ok (.aload_n 0, 1) := by decide +kernel
theorem d_C_plan_82 : decode b_C_plan 82 = .ok (.iload_n 2, 1) := by decide +kernel
theorem d_C_plan_83 : decode b_C_plan 83 = .ok (.iload_n 3, 1) := by decide +kernel
theorem d_C_plan_84 : decode b_C_plan 84 = .ok (.iload 4, 2) := by decide +kernel
theorem d_C_plan_86 : decode b_C_plan 86 = .ok (.invokevirtual 113, 3) := by decide +kernel
theorem d_C_plan_89 : decode b_C_plan 89 = .ok (.ifCond .eq 5, 3) := by decide +kernel
theorem d_C_plan_92 : decode b_C_plan 92 = .ok (.iconst 0, 1) := by decide +kernel
theorem d_C_plan_93 : decode b_C_plan 93 = .ok (.ireturn, 1) := by decide +kernel
theorem d_C_plan_94 : decode b_C_plan 94 = .ok (.aload 5, 2) := by decide +kernel
theorem d_C_plan_96 : decode b_C_plan 96 = .ok (.iload_n 2, 1) := by decide +kernel
theorem d_C_plan_97 : decode b_C_plan 97 = .ok (.iload_n 3, 1) := by decide +kernel
theorem d_C_plan_98 : decode b_C_plan 98 = .ok (.iload 4, 2) := by decide +kernel
theorem d_C_plan_100 : decode b_C_plan 100 = .ok (.invokevirtual 116, 3) := by decide +kernel
theorem d_C_plan_103 : decode b_C_plan 103 = .ok (.iconst 1, 1) := by decide +kernel
theorem d_C_plan_104 : decode b_C_plan 104 = .ok (.ireturn, 1) := by decide +kernel
abbrev b_C_begin : ByteArray := prog_1_method_5_code
def y_C_begin : MethodName := ⟨R_C, "begin", "(II)I"⟩
theorem d_C_begin_0 : decode b_C_begin 0 = .ok (.aload_n 0, 1) := by decide +kernel
theorem d_C_begin_1 : decode b_C_begin 1 = .ok (.iload_n 1, 1) := by decide +kernel
theorem d_C_begin_2 : decode b_C_begin 2 = .ok (.invokevirtual 98, 3) := by decide +kernel
theorem d_C_begin_5 : decode b_C_begin 5 = .ok (.ifCond .eq 10, 3) := by decide +kernel
theorem d_C_begin_8 : decode b_C_begin 8 = .ok (.iload_n 2, 1) := by decide +kernel
theorem d_C_begin_9 : decode b_C_begin 9 = .ok (.invokestatic 53, 3) := by decide +kernel
theorem d_C_begin_12 : decode b_C_begin 12 = .ok (.ifCond .ne 13, 3) := by decide +kernel
theorem d_C_begin_15 : decode b_C_begin 15 = .ok (.new 68, 3) := by decide +kernel
theorem d_C_begin_18 : decode b_C_begin 18 = .ok (.dup, 1) := by decide +kernel
theorem d_C_begin_19 : decode b_C_begin 19 = .ok (.ldc 119, 2) := by decide +kernel
theorem d_C_begin_21 : decode b_C_begin 21 = .ok (.invokespecial 72, 3) := by decide +kernel
theorem d_C_begin_24 : decode b_C_begin 24 = .ok (.athrow, 1) := by decide +kernel
theorem d_C_begin_25 : decode b_C_begin 25 = .ok (.aload_n 0, 1) := by decide +kernel
theorem d_C_begin_26 : decode b_C_begin 26 = .ok (.getfield 10, 3) := by decide +kernel
theorem d_C_begin_29 : decode b_C_begin 29 = .ok (.iload_n 1, 1) := by decide +kernel
theorem d_C_begin_30 : decode b_C_begin 30 = .ok (.invokevirtual 105, 3) := by decide +kernel
theorem d_C_begin_33 : decode b_C_begin 33 = .ok (.checkcast 89, 3) := by decide +kernel
theorem d_C_begin_36 : decode b_C_begin 36 = .ok (.astore_n 3, 1) := by decide +kernel
theorem d_C_begin_37 : decode b_C_begin 37 = .ok (.aload_n 3, 1) := by decide +kernel
theorem d_C_begin_38 : decode b_C_begin 38 = .ok (.aload_n 0, 1) := by decide +kernel
theorem d_C_begin_39 : decode b_C_begin 39 = .ok (.getfield 43, 3) := by decide +kernel
theorem d_C_begin_42 : decode b_C_begin 42 = .ok (.invokevirtual 121, 3) := by decide +kernel
theorem d_C_begin_45 : decode b_C_begin 45 = .ok (.ifCond .eq 15, 3) := by decide +kernel
theorem d_C_begin_48 : decode b_C_begin 48 = .ok (.aload_n 0, 1) := by decide +kernel
theorem d_C_begin_49 : decode b_C_begin 49 = .ok (.iload_n 2, 1) := by decide +kernel
theorem d_C_begin_50 : decode b_C_begin 50 = .ok (.aload_n 3, 1) := by decide +kernel
theorem d_C_begin_51 : decode b_C_begin 51 = .ok (.getfield 124, 3) := by decide +kernel
theorem d_C_begin_54 : decode b_C_begin 54 = .ok (.invokevirtual 61, 3) := by decide +kernel
theorem d_C_begin_57 : decode b_C_begin 57 = .ok (.ifCond .ne 5, 3) := by decide +kernel
theorem d_C_begin_60 : decode b_C_begin 60 = .ok (.iconst 0, 1) := by decide +kernel
theorem d_C_begin_61 : decode b_C_begin 61 = .ok (.ireturn, 1) := by decide +kernel
theorem d_C_begin_62 : decode b_C_begin 62 = .ok (.aload_n 3, 1) := by decide +kernel
theorem d_C_begin_63 : decode b_C_begin 63 = .ok (.iconst 2, 1) := by decide +kernel
theorem d_C_begin_64 : decode b_C_begin 64 = .ok (.putfield 127, 3) := by decide +kernel
theorem d_C_begin_67 : decode b_C_begin 67 = .ok (.aload_n 3, 1) := by decide +kernel
theorem d_C_begin_68 : decode b_C_begin 68 = .ok (.iload_n 2, 1) := by decide +kernel
theorem d_C_begin_69 : decode b_C_begin 69 = .ok (.putfield 130, 3) := by decide +kernel
theorem d_C_begin_72 : decode b_C_begin 72 = .ok (.aload_n 0, 1) := by decide +kernel
theorem d_C_begin_73 : decode b_C_begin 73 = .ok (.getfield 29, 3) := by decide +kernel
theorem d_C_begin_76 : decode b_C_begin 76 = .ok (.aload_n 3, 1) := by decide +kernel
theorem d_C_begin_77 : decode b_C_begin 77 = .ok (.getfield 133, 3) := by decide +kernel
theorem d_C_begin_80 : decode b_C_begin 80 = .ok (.dup2, 1) := by decide +kernel
theorem d_C_begin_81 : decode b_C_begin 81 = .ok (.iaload, 1) := by decide +kernel
theorem d_C_begin_82 : decode b_C_begin 82 = .ok (.bipush 100, 2) := by decide +kernel
theorem d_C_begin_84 : decode b_C_begin 84 = .ok (.aload_n 3, 1) := by decide +kernel
theorem d_C_begin_85 : decode b_C_begin 85 = .ok (.getfield 124, 3) := by decide +kernel
theorem d_C_begin_88 : decode b_C_begin 88 = .ok (.iconst 1, 1) := by decide +kernel
theorem d_C_begin_89 : decode b_C_begin 89 = .ok (.iadd, 1) := by decide +kernel
theorem d_C_begin_90 : decode b_C_begin 90 = .ok (.imul, 1) := by decide +kernel
theorem d_C_begin_91 : decode b_C_begin 91 = .ok (.iadd, 1) := by decide +kernel
theorem d_C_begin_92 : decode b_C_begin 92 = .ok (.iastore, 1) := by decide +kernel
theorem d_C_begin_93 : decode b_C_begin 93 = .ok (.aload_n 3, 1) := by decide +kernel
theorem d_C_begin_94 : decode b_C_begin 94 = .ok (.invokevirtual 136, 3) := by decide +kernel
theorem d_C_begin_97 : decode b_C_begin 97 = .ok (.ifCond .eq 13, 3) := by decide +kernel
theorem d_C_begin_100 : decode b_C_begin 100 = .ok (.aload_n 0, 1) := by decide +kernel
theorem d_C_begin_101 : decode b_C_begin 101 = .ok (.getfield 23, 3) := by decide +kernel
theorem d_C_begin_104 : decode b_C_begin 104 = .ok (.aload_n 3, 1) := by decide +kernel
theorem d_C_begin_105 : decode b_C_begin 105 = .ok (.getfield 133, 3) := by decide +kernel
theorem d_C_begin_108 : decode b_C_begin 108 = .ok (.iconst (-1), 1) := by decide +kernel
theorem d_C_begin_109 : decode b_C_begin 109 = .ok (.iastore, 1) := by decide +kernel
theorem d_C_begin_110 : decode b_C_begin 110 = .ok (.iconst 1, 1) := by decide +kernel
theorem d_C_begin_111 : decode b_C_begin 111 = .ok (.ireturn, 1) := by decide +kernel
abbrev b_C_end : ByteArray := prog_1_method_6_code
def y_C_end : MethodName := ⟨R_C, "end", "(IIZ)I"⟩
theorem d_C_end_0 : decode b_C_end 0 = .ok (.aload_n 0, 1) := by decide +kernel
theorem d_C_end_1 : decode b_C_end 1 = .ok (.iload_n 1, 1) := by decide +kernel
theorem d_C_end_2 : decode b_C_end 2 = .ok (.invokevirtual 98, 3) := by decide +kernel
theorem d_C_end_5 : decode b_C_end 5 = .ok (.ifCond .eq 10, 3) := by decide +kernel
theorem d_C_end_8 : decode b_C_end 8 = .ok (.iload_n 2, 1) := by decide +kernel
theorem d_C_end_9 : decode b_C_end 9 = .ok (.invokestatic 53, 3) := by decide +kernel
theorem d_C_end_12 : decode b_C_end 12 = .ok (.ifCond .ne 13, 3) := by decide +kernel
theorem d_C_end_15 : decode b_C_end 15 = .ok (.new 68, 3) := by decide +kernel
theorem d_C_end_18 : decode b_C_end 18 = .ok (.dup, 1) := by decide +kernel
theorem d_C_end_19 : decode b_C_end 19 = .ok (.ldc 119, 2) := by decide +kernel
theorem d_C_end_21 : decode b_C_end 21 = .ok (.invokespecial 72, 3) := by decide +kernel
theorem d_C_end_24 : decode b_C_end 24 = .ok (.athrow, 1) := by decide +kernel
theorem d_C_end_25 : decode b_C_end 25 = .ok (.aload_n 0, 1) := by decide +kernel
theorem d_C_end_26 : decode b_C_end 26 = .ok (.getfield 10, 3) := by decide +kernel
theorem d_C_end_29 : decode b_C_end 29 = .ok (.iload_n 1, 1) := by decide +kernel
theorem d_C_end_30 : decode b_C_end 30 = .ok (.invokevirtual 105, 3) := by decide +kernel
theorem d_C_end_33 : decode b_C_end 33 = .ok (.checkcast 89, 3) := by decide +kernel
theorem d_C_end_36 : decode b_C_end 36 = .ok (.astore 4, 2) := by decide +kernel
theorem d_C_end_38 : decode b_C_end 38 = .ok (.aload 4, 2) := by decide +kernel
theorem d_C_end_40 : decode b_C_end 40 = .ok (.getfield 127, 3) := by decide +kernel
theorem d_C_end_43 : decode b_C_end 43 = .ok (.iconst 2, 1) := by decide +kernel
theorem d_C_end_44 : decode b_C_end 44 = .ok (.if_icmp .ne 12, 3) := by decide +kernel
theorem d_C_end_47 : decode b_C_end 47 = .ok (.aload 4, 2) := by decide +kernel
theorem d_C_end_49 : decode b_C_end 49 = .ok (.getfield 130, 3) := by decide +kernel
theorem d_C_end_52 : decode b_C_end 52 = .ok (.iload_n 2, 1) := by decide +kernel
theorem d_C_end_53 : decode b_C_end 53 = .ok (.if_icmp .eq 5, 3) := by decide +kernel
theorem d_C_end_56 : decode b_C_end 56 = .ok (.iconst 0, 1) := by decide +kernel
theorem d_C_end_57 : decode b_C_end 57 = .ok (.ireturn, 1) := by decide +kernel
theorem d_C_end_58 : decode b_C_end 58 = .ok (.aload 4, 2) := by decide +kernel
theorem d_C_end_60 : decode b_C_end 60 = .ok (.iload_n 3, 1) := by decide +kernel
theorem d_C_end_61 : decode b_C_end 61 = .ok (.ifCond .eq 7, 3) := by decide +kernel
theorem d_C_end_64 : decode b_C_end 64 = .ok (.iconst 3, 1) := by decide +kernel
theorem d_C_end_65 : decode b_C_end 65 = .ok (.goto 4, 3) := by decide +kernel
theorem d_C_end_68 : decode b_C_end 68 = .ok (.iconst 4, 1) := by decide +kernel
theorem d_C_end_69 : decode b_C_end 69 = .ok (.putfield 127, 3) := by decide +kernel
theorem d_C_end_72 : decode b_C_end 72 = .ok (.iconst 1, 1) := by decide +kernel
theorem d_C_end_73 : decode b_C_end 73 = .ok (.ireturn, 1) := by decide +kernel
abbrev b_C_giveUp : ByteArray := prog_1_method_7_code
def y_C_giveUp : MethodName := ⟨R_C, "giveUp", "(I)Z"⟩
theorem d_C_giveUp_0 : decode b_C_giveUp 0 = .ok (.aload_n 0, 1) := by decide +kernel
theorem d_C_giveUp_1 : decode b_C_giveUp 1 = .ok (.iload_n 1, 1) := by decide +kernel
theorem d_C_giveUp_2 : decode b_C_giveUp 2 = .ok (.invokevirtual 98, 3) := by decide +kernel
theorem d_C_giveUp_5 : decode b_C_giveUp 5 = .ok (.ifCond .ne 5, 3) := by decide +kernel
theorem d_C_giveUp_8 : decode b_C_giveUp 8 = .ok (.iconst 0, 1) := by decide +kernel
theorem d_C_giveUp_9 : decode b_C_giveUp 9 = .ok (.ireturn, 1) := by decide +kernel
theorem d_C_giveUp_10 : decode b_C_giveUp 10 = .ok (.aload_n 0, 1) := by decide +kernel
theorem d_C_giveUp_11 : decode b_C_giveUp 11 = .ok (.getfield 10, 3) := by decide +kernel
theorem d_C_giveUp_14 : decode b_C_giveUp 14 = .ok (.iload_n 1, 1) := by decide +kernel
theorem d_C_giveUp_15 : decode b_C_giveUp 15 = .ok (.invokevirtual 105, 3) := by decide +kernel
theorem d_C_giveUp_18 : decode b_C_giveUp 18 = .ok (.checkcast 89, 3) := by decide +kernel
theorem d_C_giveUp_21 : decode b_C_giveUp 21 = .ok (.astore_n 2, 1) := by decide +kernel
theorem d_C_giveUp_22 : decode b_C_giveUp 22 = .ok (.aload_n 2, 1) := by decide +kernel
theorem d_C_giveUp_23 : decode b_C_giveUp 23 = .ok (.invokevirtual 139, 3) := by decide +kernel
theorem d_C_giveUp_26 : decode b_C_giveUp 26 = .ok (.ifCond .ne 5, 3) := by decide +kernel
theorem d_C_giveUp_29 : decode b_C_giveUp 29 = .ok (.iconst 0, 1) := by decide +kernel
theorem d_C_giveUp_30 : decode b_C_giveUp 30 = .ok (.ireturn, 1) := by decide +kernel
theorem d_C_giveUp_31 : decode b_C_giveUp 31 = .ok (.aload_n 2, 1) := by decide +kernel
theorem d_C_giveUp_32 : decode b_C_giveUp 32 = .ok (.iconst 5, 1) := by decide +kernel
theorem d_C_giveUp_33 : decode b_C_giveUp 33 = .ok (.putfield 127, 3) := by decide +kernel
theorem d_C_giveUp_36 : decode b_C_giveUp 36 = .ok (.iconst 1, 1) := by decide +kernel
theorem d_C_giveUp_37 : decode b_C_giveUp 37 = .ok (.ireturn, 1) := by decide +kernel
abbrev b_C_seal : ByteArray := prog_1_method_8_code
def y_C_seal : MethodName := ⟨R_C, "seal", "(IIII)I"⟩
theorem d_C_seal_0 : decode b_C_seal 0 = .ok (.iload_n 1, 1) := by decide +kernel
theorem d_C_seal_1 : decode b_C_seal 1 = .ok (.invokestatic 65, 3) := by decide +kernel
theorem d_C_seal_4 : decode b_C_seal 4 = .ok (.ifCond .eq 18, 3) := by decide +kernel
theorem d_C_seal_7 : decode b_C_seal 7 = .ok (.iload_n 3, 1) := by decide +kernel
theorem d_C_seal_8 : decode b_C_seal 8 = .ok (.invokestatic 53, 3) := by decide +kernel
theorem d_C_seal_11 : decode b_C_seal 11 = .ok (.ifCond .eq 11, 3) := by decide +kernel
theorem d_C_seal_14 : decode b_C_seal 14 = .ok (.iload 4, 2) := by decide +kernel
theorem d_C_seal_16 : decode b_C_seal 16 = .ok (.invokestatic 53, 3) := by decide +kernel
theorem d_C_seal_19 : decode b_C_seal 19 = .ok (.ifCond .ne 13, 3) := by decide +kernel
theorem d_C_seal_22 : decode b_C_seal 22 = .ok (.new 68, 3) := by decide +kernel
theorem d_C_seal_25 : decode b_C_seal 25 = .ok (.dup, 1) := by decide +kernel
theorem d_C_seal_26 : decode b_C_seal 26 = .ok (.ldc 142, 2) := by decide +kernel
theorem d_C_seal_28 : decode b_C_seal 28 = .ok (.invokespecial 72, 3) := by decide +kernel
theorem d_C_seal_31 : decode b_C_seal 31 = .ok (.athrow, 1) := by decide +kernel
theorem d_C_seal_32 : decode b_C_seal 32 = .ok (.iload_n 2, 1) := by decide +kernel
theorem d_C_seal_33 : decode b_C_seal 33 = .ok (.invokestatic 144, 3) := by decide +kernel
theorem d_C_seal_36 : decode b_C_seal 36 = .ok (.ifCond .eq 9, 3) := by decide +kernel
theorem d_C_seal_39 : decode b_C_seal 39 = .ok (.iload_n 3, 1) := by decide +kernel
theorem d_C_seal_40 : decode b_C_seal 40 = .ok (.iload 4, 2) := by decide +kernel
theorem d_C_seal_42 : decode b_C_seal 42 = .ok (.if_icmp .ne 13, 3) := by decide +kernel
theorem d_C_seal_45 : decode b_C_seal 45 = .ok (.new 68, 3) := by decide +kernel
theorem d_C_seal_48 : decode b_C_seal 48 = .ok (.dup, 1) := by decide +kernel
theorem d_C_seal_49 : decode b_C_seal 49 = .ok (.ldc 147, 2) := by decide +kernel
theorem d_C_seal_51 : decode b_C_seal 51 = .ok (.invokespecial 72, 3) := by decide +kernel
theorem d_C_seal_54 : decode b_C_seal 54 = .ok (.athrow, 1) := by decide +kernel
theorem d_C_seal_55 : decode b_C_seal 55 = .ok (.aload_n 0, 1) := by decide +kernel
theorem d_C_seal_56 : decode b_C_seal 56 = .ok (.getfield 23, 3) := by decide +kernel
theorem d_C_seal_59 : decode b_C_seal 59 = .ok (.iload_n 1, 1) := by decide +kernel
theorem d_C_seal_60 : decode b_C_seal 60 = .ok (.iaload, 1) := by decide +kernel
theorem d_C_seal_61 : decode b_C_seal 61 = .ok (.iconst (-1), 1) := by decide +kernel
theorem d_C_seal_62 : decode b_C_seal 62 = .ok (.if_icmp .ne 30, 3) := by decide +kernel
theorem d_C_seal_65 : decode b_C_seal 65 = .ok (.aload_n 0, 1) := by decide +kernel
theorem d_C_seal_66 : decode b_C_seal 66 = .ok (.iload_n 1, 1) := by decide +kernel
theorem d_C_seal_67 : decode b_C_seal 67 = .ok (.invokevirtual 149, 3) := by decide +kernel
theorem d_C_seal_70 : decode b_C_seal 70 = .ok (.ifCond .ne 22, 3) := by decide +kernel
theorem d_C_seal_73 : decode b_C_seal 73 = .ok (.aload_n 0, 1) := by decide +kernel
theorem d_C_seal_74 : decode b_C_seal 74 = .ok (.iload_n 3, 1) := by decide +kernel
theorem d_C_seal_75 : decode b_C_seal 75 = .ok (.iconst 5, 1) := by decide +kernel
theorem d_C_seal_76 : decode b_C_seal 76 = .ok (.invokevirtual 61, 3) := by decide +kernel
theorem d_C_seal_79 : decode b_C_seal 79 = .ok (.ifCond .eq 13, 3) := by decide +kernel
theorem d_C_seal_82 : decode b_C_seal 82 = .ok (.aload_n 0, 1) := by decide +kernel
theorem d_C_seal_83 : decode b_C_seal 83 = .ok (.iload 4, 2) := by decide +kernel
theorem d_C_seal_85 : decode b_C_seal 85 = .ok (.iconst 5, 1) := by decide +kernel
theorem d_C_seal_86 : decode b_C_seal 86 = .ok (.invokevirtual 61, 3) := by decide +kernel
theorem d_C_seal_89 : decode b_C_seal 89 = .ok (.ifCond .ne 5, 3) := by decide +kernel
theorem d_C_seal_92 : decode b_C_seal 92 = .ok (.iconst 0, 1) := by decide +kernel
theorem d_C_seal_93 : decode b_C_seal 93 = .ok (.ireturn, 1) := by decide +kernel
theorem d_C_seal_94 : decode b_C_seal 94 = .ok (.aload_n 0, 1) := by decide +kernel
theorem d_C_seal_95 : decode b_C_seal 95 = .ok (.getfield 23, 3) := by decide +kernel
theorem d_C_seal_98 : decode b_C_seal 98 = .ok (.iload_n 1, 1) := by decide +kernel
theorem d_C_seal_99 : decode b_C_seal 99 = .ok (.iload_n 2, 1) := by decide +kernel
theorem d_C_seal_100 : decode b_C_seal 100 = .ok (.iastore, 1) := by decide +kernel
theorem d_C_seal_101 : decode b_C_seal 101 = .ok (.iconst 1, 1) := by decide +kernel
theorem d_C_seal_102 : decode b_C_seal 102 = .ok (.ireturn, 1) := by decide +kernel
abbrev b_C_sample : ByteArray := prog_1_method_9_code
def y_C_sample : MethodName := ⟨R_C, "sample", "(II)I"⟩
theorem d_C_sample_0 : decode b_C_sample 0 = .ok (.aload_n 0, 1) := by decide +kernel
theorem d_C_sample_1 : decode b_C_sample 1 = .ok (.iload_n 1, 1) := by decide +kernel
theorem d_C_sample_2 : decode b_C_sample 2 = .ok (.invokevirtual 98, 3) := by decide +kernel
theorem d_C_sample_5 : decode b_C_sample 5 = .ok (.ifCond .eq 10, 3) := by decide +kernel
theorem d_C_sample_8 : decode b_C_sample 8 = .ok (.iload_n 2, 1) := by decide +kernel
theorem d_C_sample_9 : decode b_C_sample 9 = .ok (.invokestatic 144, 3) := by decide +kernel
theorem d_C_sample_12 : decode b_C_sample 12 = .ok (.ifCond .ne 13, 3) := by decide +kernel
theorem d_C_sample_15 : decode b_C_sample 15 = .ok (.new 68, 3) := by decide +kernel
theorem d_C_sample_18 : decode b_C_sample 18 = .ok (.dup, 1) := by decide +kernel
theorem d_C_sample_19 : decode b_C_sample 19 = .ok (.ldc 152, 2) := by decide +kernel
theorem d_C_sample_21 : decode b_C_sample 21 = .ok (.invokespecial 72, 3) := by decide +kernel
theorem d_C_sample_24 : decode b_C_sample 24 = .ok (.athrow, 1) := by decide +kernel
theorem d_C_sample_25 : decode b_C_sample 25 = .ok (.aload_n 0, 1) := by decide +kernel
theorem d_C_sample_26 : decode b_C_sample 26 = .ok (.getfield 16, 3) := by decide +kernel
theorem d_C_sample_29 : decode b_C_sample 29 = .ok (.invokevirtual 80, 3) := by decide +kernel
theorem d_C_sample_32 : decode b_C_sample 32 = .ok (.bipush 40, 2) := by decide +kernel
theorem d_C_sample_34 : decode b_C_sample 34 = .ok (.if_icmp .lt 13, 3) := by decide +kernel
theorem d_C_sample_37 : decode b_C_sample 37 = .ok (.new 84, 3) := by decide +kernel
theorem d_C_sample_40 : decode b_C_sample 40 = .ok (.dup, 1) := by decide +kernel
theorem d_C_sample_41 : decode b_C_sample 41 = .ok (.ldc 154, 2) := by decide +kernel
theorem d_C_sample_43 : decode b_C_sample 43 = .ok (.invokespecial 88, 3) := by decide +kernel
theorem d_C_sample_46 : decode b_C_sample 46 = .ok (.athrow, 1) := by decide +kernel
theorem d_C_sample_47 : decode b_C_sample 47 = .ok (.aload_n 0, 1) := by decide +kernel
theorem d_C_sample_48 : decode b_C_sample 48 = .ok (.getfield 10, 3) := by decide +kernel
theorem d_C_sample_51 : decode b_C_sample 51 = .ok (.iload_n 1, 1) := by decide +kernel
theorem d_C_sample_52 : decode b_C_sample 52 = .ok (.invokevirtual 105, 3) := by decide +kernel
theorem d_C_sample_55 : decode b_C_sample 55 = .ok (.checkcast 89, 3) := by decide +kernel
theorem d_C_sample_58 : decode b_C_sample 58 = .ok (.astore_n 3, 1) := by decide +kernel
theorem d_C_sample_59 : decode b_C_sample 59 = .ok (.aload_n 3, 1) := by decide +kernel
theorem d_C_sample_60 : decode b_C_sample 60 = .ok (.invokevirtual 136, 3) := by decide +kernel
theorem d_C_sample_63 : decode b_C_sample 63 = .ok (.ifCond .eq 19, 3) := by decide +kernel
theorem d_C_sample_66 : decode b_C_sample 66 = .ok (.aload_n 3, 1) := by decide +kernel
theorem d_C_sample_67 : decode b_C_sample 67 = .ok (.getfield 127, 3) := by decide +kernel
theorem d_C_sample_70 : decode b_C_sample 70 = .ok (.iconst 2, 1) := by decide +kernel
theorem d_C_sample_71 : decode b_C_sample 71 = .ok (.if_icmp .ne 11, 3) := by decide +kernel
theorem d_C_sample_74 : decode b_C_sample 74 = .ok (.aload_n 0, 1) := by decide +kernel
theorem d_C_sample_75 : decode b_C_sample 75 = .ok (.iload_n 2, 1) := by decide +kernel
theorem d_C_sample_76 : decode b_C_sample 76 = .ok (.invokevirtual 156, 3) := by decide +kernel
theorem d_C_sample_79 : decode b_C_sample 79 = .ok (.ifCond .eq 5, 3) := by decide +kernel
theorem d_C_sample_82 : decode b_C_sample 82 = .ok (.iconst (-1), 1) := by decide +kernel
theorem d_C_sample_83 : decode b_C_sample 83 = .ok (.ireturn, 1) := by decide +kernel
theorem d_C_sample_84 : decode b_C_sample 84 = .ok (.aload_n 0, 1) := by decide +kernel
theorem d_C_sample_85 : decode b_C_sample 85 = .ok (.getfield 16, 3) := by decide +kernel
theorem d_C_sample_88 : decode b_C_sample 88 = .ok (.new 159, 3) := by decide +kernel
theorem d_C_sample_91 : decode b_C_sample 91 = .ok (.dup, 1) := by decide +kernel
theorem d_C_sample_92 : decode b_C_sample 92 = .ok (.aload_n 3, 1) := by decide +kernel
theorem d_C_sample_93 : decode b_C_sample 93 = .ok (.getfield 133, 3) := by decide +kernel
theorem d_C_sample_96 : decode b_C_sample 96 = .ok (.iload_n 2, 1) := by decide +kernel
theorem d_C_sample_97 : decode b_C_sample 97 = .ok (.invokespecial 161, 3) := by decide +kernel
theorem d_C_sample_100 : decode b_C_sample 100 = .ok (.invokevirtual 94, 3) := by decide +kernel
theorem d_C_sample_103 : decode b_C_sample 103 = .ok (.pop, 1) := by decide +kernel
theorem d_C_sample_104 : decode b_C_sample 104 = .ok (.aload_n 3, 1) := by decide +kernel
theorem d_C_sample_105 : decode b_C_sample 105 = .ok (.dup, 1) := by decide +kernel
theorem d_C_sample_106 : decode b_C_sample 106 = .ok (.getfield 164, 3) := by decide +kernel
theorem d_C_sample_109 : decode b_C_sample 109 = .ok (.iconst 1, 1) := by decide +kernel
theorem d_C_sample_110 : decode b_C_sample 110 = .ok (.iadd, 1) := by decide +kernel
theorem d_C_sample_111 : decode b_C_sample 111 = .ok (.putfield 164, 3) := by decide +kernel
theorem d_C_sample_114 : decode b_C_sample 114 = .ok (.aload_n 0, 1) := by decide +kernel
theorem d_C_sample_115 : decode b_C_sample 115 = .ok (.getfield 29, 3) := by decide +kernel
theorem d_C_sample_118 : decode b_C_sample 118 = .ok (.aload_n 3, 1) := by decide +kernel
theorem d_C_sample_119 : decode b_C_sample 119 = .ok (.getfield 133, 3) := by decide +kernel
theorem d_C_sample_122 : decode b_C_sample 122 = .ok (.dup2, 1) := by decide +kernel
theorem d_C_sample_123 : decode b_C_sample 123 = .ok (.iaload, 1) := by decide +kernel
theorem d_C_sample_124 : decode b_C_sample 124 = .ok (.bipush 50, 2) := by decide +kernel
theorem d_C_sample_126 : decode b_C_sample 126 = .ok (.iadd, 1) := by decide +kernel
theorem d_C_sample_127 : decode b_C_sample 127 = .ok (.iastore, 1) := by decide +kernel
theorem d_C_sample_128 : decode b_C_sample 128 = .ok (.aload_n 0, 1) := by decide +kernel
theorem d_C_sample_129 : decode b_C_sample 129 = .ok (.getfield 16, 3) := by decide +kernel
theorem d_C_sample_132 : decode b_C_sample 132 = .ok (.invokevirtual 80, 3) := by decide +kernel
theorem d_C_sample_135 : decode b_C_sample 135 = .ok (.iconst 1, 1) := by decide +kernel
theorem d_C_sample_136 : decode b_C_sample 136 = .ok (.isub, 1) := by decide +kernel
theorem d_C_sample_137 : decode b_C_sample 137 = .ok (.ireturn, 1) := by decide +kernel
abbrev b_C_result : ByteArray := prog_1_method_10_code
def y_C_result : MethodName := ⟨R_C, "result", "(IIII)I"⟩
theorem d_C_result_0 : decode b_C_result 0 = .ok (.iload_n 1, 1) := by decide +kernel
theorem d_C_result_1 : decode b_C_result 1 = .ok (.iconst 0, 1) := by decide +kernel
theorem d_C_result_2 : decode b_C_result 2 = .ok (.aload_n 0, 1) := by decide +kernel
theorem d_C_result_3 : decode b_C_result 3 = .ok (.getfield 16, 3) := by decide +kernel
theorem d_C_result_6 : decode b_C_result 6 = .ok (.invokevirtual 80, 3) := by decide +kernel
theorem d_C_result_9 : decode b_C_result 9 = .ok (.iconst 1, 1) := by decide +kernel
theorem d_C_result_10 : decode b_C_result 10 = .ok (.isub, 1) := by decide +kernel
theorem d_C_result_11 : decode b_C_result 11 = .ok (.invokestatic 57, 3) := by decide +kernel
theorem d_C_result_14 : decode b_C_result 14 = .ok (.ifCond .eq 10, 3) := by decide +kernel
theorem d_C_result_17 : decode b_C_result 17 = .ok (.iload_n 3, 1) := by decide +kernel
theorem d_C_result_18 : decode b_C_result 18 = .ok (.invokestatic 167, 3) := by decide +kernel
theorem d_C_result_21 : decode b_C_result 21 = .ok (.ifCond .ne 13, 3) := by decide +kernel
theorem d_C_result_24 : decode b_C_result 24 = .ok (.new 68, 3) := by decide +kernel
theorem d_C_result_27 : decode b_C_result 27 = .ok (.dup, 1) := by decide +kernel
theorem d_C_result_28 : decode b_C_result 28 = .ok (.ldc 170, 2) := by decide +kernel
theorem d_C_result_30 : decode b_C_result 30 = .ok (.invokespecial 72, 3) := by decide +kernel
theorem d_C_result_33 : decode b_C_result 33 = .ok (.athrow, 1) := by decide +kernel
theorem d_C_result_34 : decode b_C_result 34 = .ok (.iload_n 2, 1) := by decide +kernel
theorem d_C_result_35 : decode b_C_result 35 = .ok (.invokestatic 144, 3) := by decide +kernel
theorem d_C_result_38 : decode b_C_result 38 = .ok (.ifCond .eq 11, 3) := by decide +kernel
theorem d_C_result_41 : decode b_C_result 41 = .ok (.iload 4, 2) := by decide +kernel
theorem d_C_result_43 : decode b_C_result 43 = .ok (.invokestatic 172, 3) := by decide +kernel
theorem d_C_result_46 : decode b_C_result 46 = .ok (.ifCond .ne 13, 3) := by decide +kernel
theorem d_C_result_49 : decode b_C_result 49 = .ok (.new 68, 3) := by decide +kernel
theorem d_C_result_52 : decode b_C_result 52 = .ok (.dup, 1) := by decide +kernel
theorem d_C_result_53 : decode b_C_result 53 = .ok (.ldc 175, 2) := by decide +kernel
theorem d_C_result_55 : decode b_C_result 55 = .ok (.invokespecial 72, 3) := by decide +kernel
theorem d_C_result_58 : decode b_C_result 58 = .ok (.athrow, 1) := by decide +kernel
theorem d_C_result_59 : decode b_C_result 59 = .ok (.aload_n 0, 1) := by decide +kernel
theorem d_C_result_60 : decode b_C_result 60 = .ok (.getfield 16, 3) := by decide +kernel
theorem d_C_result_63 : decode b_C_result 63 = .ok (.iload_n 1, 1) := by decide +kernel
theorem d_C_result_64 : decode b_C_result 64 = .ok (.invokevirtual 105, 3) := by decide +kernel
theorem d_C_result_67 : decode b_C_result 67 = .ok (.checkcast 159, 3) := by decide +kernel
theorem d_C_result_70 : decode b_C_result 70 = .ok (.astore 5, 2) := by decide +kernel
theorem d_C_result_72 : decode b_C_result 72 = .ok (.aload 5, 2) := by decide +kernel
theorem d_C_result_74 : decode b_C_result 74 = .ok (.getfield 177, 3) := by decide +kernel
theorem d_C_result_77 : decode b_C_result 77 = .ok (.iload_n 3, 1) := by decide +kernel
theorem d_C_result_78 : decode b_C_result 78 = .ok (.iaload, 1) := by decide +kernel
theorem d_C_result_79 : decode b_C_result 79 = .ok (.iconst (-1), 1) := by decide +kernel
theorem d_C_result_80 : decode b_C_result 80 = .ok (.if_icmp .eq 5, 3) := by decide +kernel
theorem d_C_result_83 : decode b_C_result 83 = .ok (.iconst (-1), 1) := by decide +kernel
theorem d_C_result_84 : decode b_C_result 84 = .ok (.ireturn, 1) := by decide +kernel
theorem d_C_result_85 : decode b_C_result 85 = .ok (.aload 5, 2) := by decide +kernel
theorem d_C_result_87 : decode b_C_result 87 = .ok (.getfield 180, 3) := by decide +kernel
theorem d_C_result_90 : decode b_C_result 90 = .ok (.iload_n 2, 1) := by decide +kernel
theorem d_C_result_91 : decode b_C_result 91 = .ok (.if_icmp .eq 19, 3) := by decide +kernel
theorem d_C_result_94 : decode b_C_result 94 = .ok (.aload_n 0, 1) := by decide +kernel
theorem d_C_result_95 : decode b_C_result 95 = .ok (.iload_n 2, 1) := by decide +kernel
theorem d_C_result_96 : decode b_C_result 96 = .ok (.invokevirtual 156, 3) := by decide +kernel
theorem d_C_result_99 : decode b_C_result 99 = .ok (.ifCond .eq 8, 3) := by decide +kernel
theorem d_C_result_102 : decode b_C_result 102 = .ok (.bipush (-2), 2) := by decide +kernel
theorem d_C_result_104 : decode b_C_result 104 = .ok (.goto 5, 3) := by decide +kernel
theorem d_C_result_107 : decode b_C_result 107 = .ok (.bipush (-3), 2) := by decide +kernel
theorem d_C_result_109 : decode b_C_result 109 = .ok (.ireturn, 1) := by decide +kernel
theorem d_C_result_110 : decode b_C_result 110 = .ok (.aload 5, 2) := by decide +kernel
theorem d_C_result_112 : decode b_C_result 112 = .ok (.getfield 177, 3) := by decide +kernel
theorem d_C_result_115 : decode b_C_result 115 = .ok (.iload_n 3, 1) := by decide +kernel
theorem d_C_result_116 : decode b_C_result 116 = .ok (.iload 4, 2) := by decide +kernel
theorem d_C_result_118 : decode b_C_result 118 = .ok (.iastore, 1) := by decide +kernel
theorem d_C_result_119 : decode b_C_result 119 = .ok (.aload_n 0, 1) := by decide +kernel
theorem d_C_result_120 : decode b_C_result 120 = .ok (.aload 5, 2) := by decide +kernel
theorem d_C_result_122 : decode b_C_result 122 = .ok (.iload_n 3, 1) := by decide +kernel
theorem d_C_result_123 : decode b_C_result 123 = .ok (.invokevirtual 183, 3) := by decide +kernel
theorem d_C_result_126 : decode b_C_result 126 = .ok (.ireturn, 1) := by decide +kernel
abbrev b_C_declared : ByteArray := prog_1_method_11_code
def y_C_declared : MethodName := ⟨R_C, "declared", "(III)Z"⟩
theorem d_C_declared_0 : decode b_C_declared 0 = .ok (.iload_n 1, 1) := by decide +kernel
theorem d_C_declared_1 : decode b_C_declared 1 = .ok (.invokestatic 65, 3) := by decide +kernel
theorem d_C_declared_4 : decode b_C_declared 4 = .ok (.ifCond .eq 17, 3) := by decide +kernel
theorem d_C_declared_7 : decode b_C_declared 7 = .ok (.iload_n 2, 1) := by decide +kernel
theorem d_C_declared_8 : decode b_C_declared 8 = .ok (.invokestatic 167, 3) := by decide +kernel
theorem d_C_declared_11 : decode b_C_declared 11 = .ok (.ifCond .eq 10, 3) := by decide +kernel
theorem d_C_declared_14 : decode b_C_declared 14 = .ok (.iload_n 3, 1) := by decide +kernel
theorem d_C_declared_15 : decode b_C_declared 15 = .ok (.invokestatic 172, 3) := by decide +kernel
theorem d_C_declared_18 : decode b_C_declared 18 = .ok (.ifCond .ne 5, 3) := by decide +kernel
theorem d_C_declared_21 : decode b_C_declared 21 = .ok (.iconst 0, 1) := by decide +kernel
theorem d_C_declared_22 : decode b_C_declared 22 = .ok (.ireturn, 1) := by decide +kernel
theorem d_C_declared_23 : decode b_C_declared 23 = .ok (.aload_n 0, 1) := by decide +kernel
theorem d_C_declared_24 : decode b_C_declared 24 = .ok (.getfield 34, 3) := by decide +kernel
theorem d_C_declared_27 : decode b_C_declared 27 = .ok (.iload_n 1, 1) := by decide +kernel
theorem d_C_declared_28 : decode b_C_declared 28 = .ok (.aaload, 1) := by decide +kernel
theorem d_C_declared_29 : decode b_C_declared 29 = .ok (.iload_n 2, 1) := by decide +kernel
theorem d_C_declared_30 : decode b_C_declared 30 = .ok (.iload_n 3, 1) := by decide +kernel
theorem d_C_declared_31 : decode b_C_declared 31 = .ok (.iastore, 1) := by decide +kernel
theorem d_C_declared_32 : decode b_C_declared 32 = .ok (.iconst 1, 1) := by decide +kernel
theorem d_C_declared_33 : decode b_C_declared 33 = .ok (.ireturn, 1) := by decide +kernel
abbrev b_C_tolerance : ByteArray := prog_1_method_12_code
def y_C_tolerance : MethodName := ⟨R_C, "tolerance", "(III)Z"⟩
theorem d_C_tolerance_0 : decode b_C_tolerance 0 = .ok (.iload_n 1, 1) := by decide +kernel
theorem d_C_tolerance_1 : decode b_C_tolerance 1 = .ok (.invokestatic 167, 3) := by decide +kernel
theorem d_C_tolerance_4 : decode b_C_tolerance 4 = .ok (.ifCond .eq 25, 3) := by decide +kernel
theorem d_C_tolerance_7 : decode b_C_tolerance 7 = .ok (.iload_n 2, 1) := by decide +kernel
theorem d_C_tolerance_8 : decode b_C_tolerance 8 = .ok (.iconst 0, 1) := by decide +kernel
theorem d_C_tolerance_9 : decode b_C_tolerance 9 = .ok (.sipush 1000, 3) := by decide +kernel
theorem d_C_tolerance_12 : decode b_C_tolerance 12 = .ok (.invokestatic 57, 3) := by decide +kernel
theorem d_C_tolerance_15 : decode b_C_tolerance 15 = .ok (.ifCond .eq 14, 3) := by decide +kernel
theorem d_C_tolerance_18 : decode b_C_tolerance 18 = .ok (.iload_n 3, 1) := by decide +kernel
theorem d_C_tolerance_19 : decode b_C_tolerance 19 = .ok (.iconst 0, 1) := by decide +kernel
theorem d_C_tolerance_20 : decode b_C_tolerance 20 = .ok (.sipush 1000, 3) := by decide +kernel
theorem d_C_tolerance_23 : decode b_C_tolerance 23 = .ok (.invokestatic 57, 3) := by decide +kernel
theorem d_C_tolerance_26 : decode b_C_tolerance 26 = .ok (.ifCond .ne 5, 3) := by decide +kernel
theorem d_C_tolerance_29 : decode b_C_tolerance 29 = .ok (.iconst 0, 1) := by decide +kernel
theorem d_C_tolerance_30 : decode b_C_tolerance 30 = .ok (.ireturn, 1) := by decide +kernel
theorem d_C_tolerance_31 : decode b_C_tolerance 31 = .ok (.aload_n 0, 1) := by decide +kernel
theorem d_C_tolerance_32 : decode b_C_tolerance 32 = .ok (.getfield 37, 3) := by decide +kernel
theorem d_C_tolerance_35 : decode b_C_tolerance 35 = .ok (.iload_n 1, 1) := by decide +kernel
theorem d_C_tolerance_36 : decode b_C_tolerance 36 = .ok (.iload_n 2, 1) := by decide +kernel
theorem d_C_tolerance_37 : decode b_C_tolerance 37 = .ok (.iastore, 1) := by decide +kernel
theorem d_C_tolerance_38 : decode b_C_tolerance 38 = .ok (.aload_n 0, 1) := by decide +kernel
theorem d_C_tolerance_39 : decode b_C_tolerance 39 = .ok (.getfield 40, 3) := by decide +kernel
theorem d_C_tolerance_42 : decode b_C_tolerance 42 = .ok (.iload_n 1, 1) := by decide +kernel
theorem d_C_tolerance_43 : decode b_C_tolerance 43 = .ok (.iload_n 3, 1) := by decide +kernel
theorem d_C_tolerance_44 : decode b_C_tolerance 44 = .ok (.iastore, 1) := by decide +kernel
theorem d_C_tolerance_45 : decode b_C_tolerance 45 = .ok (.iconst 1, 1) := by decide +kernel
theorem d_C_tolerance_46 : decode b_C_tolerance 46 = .ok (.ireturn, 1) := by decide +kernel
abbrev b_C_hold : ByteArray := prog_1_method_13_code
def y_C_hold : MethodName := ⟨R_C, "hold", "(IIZ)Z"⟩
theorem d_C_hold_0 : decode b_C_hold 0 = .ok (.iload_n 1, 1) := by decide +kernel
theorem d_C_hold_1 : decode b_C_hold 1 = .ok (.invokestatic 65, 3) := by decide +kernel
theorem d_C_hold_4 : decode b_C_hold 4 = .ok (.ifCond .eq 27, 3) := by decide +kernel
theorem d_C_hold_7 : decode b_C_hold 7 = .ok (.iload_n 2, 1) := by decide +kernel
theorem d_C_hold_8 : decode b_C_hold 8 = .ok (.iconst 0, 1) := by decide +kernel
theorem d_C_hold_9 : decode b_C_hold 9 = .ok (.bipush 7, 2) := by decide +kernel
theorem d_C_hold_11 : decode b_C_hold 11 = .ok (.invokestatic 57, 3) := by decide +kernel
theorem d_C_hold_14 : decode b_C_hold 14 = .ok (.ifCond .eq 17, 3) := by decide +kernel
theorem d_C_hold_17 : decode b_C_hold 17 = .ok (.aload_n 0, 1) := by decide +kernel
theorem d_C_hold_18 : decode b_C_hold 18 = .ok (.getfield 26, 3) := by decide +kernel
theorem d_C_hold_21 : decode b_C_hold 21 = .ok (.iload_n 1, 1) := by decide +kernel
theorem d_C_hold_22 : decode b_C_hold 22 = .ok (.iaload, 1) := by decide +kernel
theorem d_C_hold_23 : decode b_C_hold 23 = .ok (.iload_n 2, 1) := by decide +kernel
theorem d_C_hold_24 : decode b_C_hold 24 = .ok (.invokestatic 187, 3) := by decide +kernel
theorem d_C_hold_27 : decode b_C_hold 27 = .ok (.iload_n 3, 1) := by decide +kernel
theorem d_C_hold_28 : decode b_C_hold 28 = .ok (.if_icmp .ne 5, 3) := by decide +kernel
theorem d_C_hold_31 : decode b_C_hold 31 = .ok (.iconst 0, 1) := by decide +kernel
theorem d_C_hold_32 : decode b_C_hold 32 = .ok (.ireturn, 1) := by decide +kernel
theorem d_C_hold_33 : decode b_C_hold 33 = .ok (.aload_n 0, 1) := by decide +kernel
theorem d_C_hold_34 : decode b_C_hold 34 = .ok (.getfield 26, 3) := by decide +kernel
theorem d_C_hold_37 : decode b_C_hold 37 = .ok (.iload_n 1, 1) := by decide +kernel
theorem d_C_hold_38 : decode b_C_hold 38 = .ok (.dup2, 1) := by decide +kernel
theorem d_C_hold_39 : decode b_C_hold 39 = .ok (.iaload, 1) := by decide +kernel
theorem d_C_hold_40 : decode b_C_hold 40 = .ok (.iconst 1, 1) := by decide +kernel
theorem d_C_hold_41 : decode b_C_hold 41 = .ok (.iload_n 2, 1) := by decide +kernel
theorem d_C_hold_42 : decode b_C_hold 42 = .ok (.ishl, 1) := by decide +kernel
theorem d_C_hold_43 : decode b_C_hold 43 = .ok (.ixor, 1) := by decide +kernel
theorem d_C_hold_44 : decode b_C_hold 44 = .ok (.iastore, 1) := by decide +kernel
theorem d_C_hold_45 : decode b_C_hold 45 = .ok (.iconst 1, 1) := by decide +kernel
theorem d_C_hold_46 : decode b_C_hold 46 = .ok (.ireturn, 1) := by decide +kernel
abbrev b_C_settle : ByteArray := prog_1_method_14_code
def y_C_settle : MethodName := ⟨R_C, "settle", "(I)I"⟩
theorem d_C_settle_0 : decode b_C_settle 0 = .ok (.iload_n 1, 1) := by decide +kernel
theorem d_C_settle_1 : decode b_C_settle 1 = .ok (.invokestatic 65, 3) := by decide +kernel
theorem d_C_settle_4 : decode b_C_settle 4 = .ok (.ifCond .ne 13, 3) := by decide +kernel
theorem d_C_settle_7 : decode b_C_settle 7 = .ok (.new 68, 3) := by decide +kernel
theorem d_C_settle_10 : decode b_C_settle 10 = .ok (.dup, 1) := by decide +kernel
theorem d_C_settle_11 : decode b_C_settle 11 = .ok (.ldc 190, 2) := by decide +kernel
theorem d_C_settle_13 : decode b_C_settle 13 = .ok (.invokespecial 72, 3) := by decide +kernel
theorem d_C_settle_16 : decode b_C_settle 16 = .ok (.athrow, 1) := by decide +kernel
theorem d_C_settle_17 : decode b_C_settle 17 = .ok (.aload_n 0, 1) := by decide +kernel
theorem d_C_settle_18 : decode b_C_settle 18 = .ok (.iload_n 1, 1) := by decide +kernel
theorem d_C_settle_19 : decode b_C_settle 19 = .ok (.iconst 0, 1) := by decide +kernel
theorem d_C_settle_20 : decode b_C_settle 20 = .ok (.invokevirtual 192, 3) := by decide +kernel
theorem d_C_settle_23 : decode b_C_settle 23 = .ok (.istore_n 2, 1) := by decide +kernel
theorem d_C_settle_24 : decode b_C_settle 24 = .ok (.iconst 0, 1) := by decide +kernel
theorem d_C_settle_25 : decode b_C_settle 25 = .ok (.istore_n 3, 1) := by decide +kernel
theorem d_C_settle_26 : decode b_C_settle 26 = .ok (.iload_n 3, 1) := by decide +kernel
theorem d_C_settle_27 : decode b_C_settle 27 = .ok (.aload_n 0, 1) := by decide +kernel
theorem d_C_settle_28 : decode b_C_settle 28 = .ok (.getfield 16, 3) := by decide +kernel
theorem d_C_settle_31 : decode b_C_settle 31 = .ok (.invokevirtual 80, 3) := by decide +kernel
theorem d_C_settle_34 : decode b_C_settle 34 = .ok (.if_icmp .ge 36, 3) := by decide +kernel
theorem d_C_settle_37 : decode b_C_settle 37 = .ok (.aload_n 0, 1) := by decide +kernel
theorem d_C_settle_38 : decode b_C_settle 38 = .ok (.getfield 16, 3) := by decide +kernel
theorem d_C_settle_41 : decode b_C_settle 41 = .ok (.iload_n 3, 1) := by decide +kernel
theorem d_C_settle_42 : decode b_C_settle 42 = .ok (.invokevirtual 105, 3) := by decide +kernel
theorem d_C_settle_45 : decode b_C_settle 45 = .ok (.checkcast 159, 3) := by decide +kernel
theorem d_C_settle_48 : decode b_C_settle 48 = .ok (.astore 4, 2) := by decide +kernel
theorem d_C_settle_50 : decode b_C_settle 50 = .ok (.aload 4, 2) := by decide +kernel
theorem d_C_settle_52 : decode b_C_settle 52 = .ok (.getfield 196, 3) := by decide +kernel
theorem d_C_settle_55 : decode b_C_settle 55 = .ok (.iload_n 1, 1) := by decide +kernel
theorem d_C_settle_56 : decode b_C_settle 56 = .ok (.if_icmp .ne 8, 3) := by decide +kernel
theorem d_C_settle_59 : decode b_C_settle 59 = .ok (.aload 4, 2) := by decide +kernel
theorem d_C_settle_61 : decode b_C_settle 61 = .ok (.invokevirtual 197, 3) := by decide +kernel
theorem d_C_settle_64 : decode b_C_settle 64 = .ok (.iinc 3 1, 3) := by decide +kernel
theorem d_C_settle_67 : decode b_C_settle 67 = .ok (.goto (-41), 3) := by decide +kernel
theorem d_C_settle_70 : decode b_C_settle 70 = .ok (.iload_n 2, 1) := by decide +kernel
theorem d_C_settle_71 : decode b_C_settle 71 = .ok (.ireturn, 1) := by decide +kernel
abbrev b_C_tick : ByteArray := prog_1_method_15_code
def y_C_tick : MethodName := ⟨R_C, "tick", "(I)I"⟩
theorem d_C_tick_0 : decode b_C_tick 0 = .ok (.aload_n 0, 1) := by decide +kernel
theorem d_C_tick_1 : decode b_C_tick 1 = .ok (.iload_n 1, 1) := by decide +kernel
theorem d_C_tick_2 : decode b_C_tick 2 = .ok (.invokevirtual 75, 3) := by decide +kernel
theorem d_C_tick_5 : decode b_C_tick 5 = .ok (.ifCond .ne 13, 3) := by decide +kernel
theorem d_C_tick_8 : decode b_C_tick 8 = .ok (.new 68, 3) := by decide +kernel
theorem d_C_tick_11 : decode b_C_tick 11 = .ok (.dup, 1) := by decide +kernel
theorem d_C_tick_12 : decode b_C_tick 12 = .ok (.ldc 200, 2) := by decide +kernel
theorem d_C_tick_14 : decode b_C_tick 14 = .ok (.invokespecial 72, 3) := by decide +kernel
theorem d_C_tick_17 : decode b_C_tick 17 = .ok (.athrow, 1) := by decide +kernel
theorem d_C_tick_18 : decode b_C_tick 18 = .ok (.iconst 0, 1) := by decide +kernel
theorem d_C_tick_19 : decode b_C_tick 19 = .ok (.istore_n 2, 1) := by decide +kernel
theorem d_C_tick_20 : decode b_C_tick 20 = .ok (.iconst 0, 1) := by decide +kernel
theorem d_C_tick_21 : decode b_C_tick 21 = .ok (.istore_n 3, 1) := by decide +kernel
theorem d_C_tick_22 : decode b_C_tick 22 = .ok (.iload_n 3, 1) := by decide +kernel
theorem d_C_tick_23 : decode b_C_tick 23 = .ok (.aload_n 0, 1) := by decide +kernel
theorem d_C_tick_24 : decode b_C_tick 24 = .ok (.getfield 10, 3) := by decide +kernel
theorem d_C_tick_27 : decode b_C_tick 27 = .ok (.invokevirtual 80, 3) := by decide +kernel
theorem d_C_tick_30 : decode b_C_tick 30 = .ok (.if_icmp .ge 31, 3) := by decide +kernel
theorem d_C_tick_33 : decode b_C_tick 33 = .ok (.iload_n 2, 1) := by decide +kernel
theorem d_C_tick_34 : decode b_C_tick 34 = .ok (.aload_n 0, 1) := by decide +kernel
theorem d_C_tick_35 : decode b_C_tick 35 = .ok (.getfield 10, 3) := by decide +kernel
theorem d_C_tick_38 : decode b_C_tick 38 = .ok (.iload_n 3, 1) := by decide +kernel
theorem d_C_tick_39 : decode b_C_tick 39 = .ok (.invokevirtual 105, 3) := by decide +kernel
theorem d_C_tick_42 : decode b_C_tick 42 = .ok (.checkcast 89, 3) := by decide +kernel
theorem d_C_tick_45 : decode b_C_tick 45 = .ok (.aload_n 0, 1) := by decide +kernel
theorem d_C_tick_46 : decode b_C_tick 46 = .ok (.getfield 43, 3) := by decide +kernel
theorem d_C_tick_49 : decode b_C_tick 49 = .ok (.iload_n 1, 1) := by decide +kernel
theorem d_C_tick_50 : decode b_C_tick 50 = .ok (.invokevirtual 202, 3) := by decide +kernel
theorem d_C_tick_53 : decode b_C_tick 53 = .ok (.iadd, 1) := by decide +kernel
theorem d_C_tick_54 : decode b_C_tick 54 = .ok (.istore_n 2, 1) := by decide +kernel
theorem d_C_tick_55 : decode b_C_tick 55 = .ok (.iinc 3 1, 3) := by decide +kernel
theorem d_C_tick_58 : decode b_C_tick 58 = .ok (.goto (-36), 3) := by decide +kernel
theorem d_C_tick_61 : decode b_C_tick 61 = .ok (.aload_n 0, 1) := by decide +kernel
theorem d_C_tick_62 : decode b_C_tick 62 = .ok (.iload_n 1, 1) := by decide +kernel
theorem d_C_tick_63 : decode b_C_tick 63 = .ok (.putfield 43, 3) := by decide +kernel
theorem d_C_tick_66 : decode b_C_tick 66 = .ok (.iload_n 2, 1) := by decide +kernel
theorem d_C_tick_67 : decode b_C_tick 67 = .ok (.ireturn, 1) := by decide +kernel
abbrev b_C_release : ByteArray := prog_1_method_16_code
def y_C_release : MethodName := ⟨R_C, "release", "(I)I"⟩
theorem d_C_release_0 : decode b_C_release 0 = .ok (.iload_n 1, 1) := by decide +kernel
theorem d_C_release_1 : decode b_C_release 1 = .ok (.invokestatic 65, 3) := by decide +kernel
theorem d_C_release_4 : decode b_C_release 4 = .ok (.ifCond .ne 13, 3) := by decide +kernel
theorem d_C_release_7 : decode b_C_release 7 = .ok (.new 68, 3) := by decide +kernel
theorem d_C_release_10 : decode b_C_release 10 = .ok (.dup, 1) := by decide +kernel
theorem d_C_release_11 : decode b_C_release 11 = .ok (.ldc 190, 2) := by decide +kernel
theorem d_C_release_13 : decode b_C_release 13 = .ok (.invokespecial 72, 3) := by decide +kernel
theorem d_C_release_16 : decode b_C_release 16 = .ok (.athrow, 1) := by decide +kernel
theorem d_C_release_17 : decode b_C_release 17 = .ok (.aload_n 0, 1) := by decide +kernel
theorem d_C_release_18 : decode b_C_release 18 = .ok (.iload_n 1, 1) := by decide +kernel
theorem d_C_release_19 : decode b_C_release 19 = .ok (.invokevirtual 206, 3) := by decide +kernel
theorem d_C_release_22 : decode b_C_release 22 = .ok (.ifCond .eq 5, 3) := by decide +kernel
theorem d_C_release_25 : decode b_C_release 25 = .ok (.iconst 1, 1) := by decide +kernel
theorem d_C_release_26 : decode b_C_release 26 = .ok (.ireturn, 1) := by decide +kernel
theorem d_C_release_27 : decode b_C_release 27 = .ok (.aload_n 0, 1) := by decide +kernel
theorem d_C_release_28 : decode b_C_release 28 = .ok (.getfield 23, 3) := by decide +kernel
theorem d_C_release_31 : decode b_C_release 31 = .ok (.iload_n 1, 1) := by decide +kernel
theorem d_C_release_32 : decode b_C_release 32 = .ok (.iaload, 1) := by decide +kernel
theorem d_C_release_33 : decode b_C_release 33 = .ok (.iconst (-1), 1) := by decide +kernel
theorem d_C_release_34 : decode b_C_release 34 = .ok (.if_icmp .ne 5, 3) := by decide +kernel
theorem d_C_release_37 : decode b_C_release 37 = .ok (.iconst 2, 1) := by decide +kernel
theorem d_C_release_38 : decode b_C_release 38 = .ok (.ireturn, 1) := by decide +kernel
theorem d_C_release_39 : decode b_C_release 39 = .ok (.aload_n 0, 1) := by decide +kernel
theorem d_C_release_40 : decode b_C_release 40 = .ok (.getfield 26, 3) := by decide +kernel
theorem d_C_release_43 : decode b_C_release 43 = .ok (.iload_n 1, 1) := by decide +kernel
theorem d_C_release_44 : decode b_C_release 44 = .ok (.iaload, 1) := by decide +kernel
theorem d_C_release_45 : decode b_C_release 45 = .ok (.ifCond .eq 5, 3) := by decide +kernel
theorem d_C_release_48 : decode b_C_release 48 = .ok (.iconst 3, 1) := by decide +kernel
theorem d_C_release_49 : decode b_C_release 49 = .ok (.ireturn, 1) := by decide +kernel
theorem d_C_release_50 : decode b_C_release 50 = .ok (.aload_n 0, 1) := by decide +kernel
theorem d_C_release_51 : decode b_C_release 51 = .ok (.iload_n 1, 1) := by decide +kernel
theorem d_C_release_52 : decode b_C_release 52 = .ok (.invokevirtual 209, 3) := by decide +kernel
theorem d_C_release_55 : decode b_C_release 55 = .ok (.ifCond .eq 5, 3) := by decide +kernel
theorem d_C_release_58 : decode b_C_release 58 = .ok (.iconst 4, 1) := by decide +kernel
theorem d_C_release_59 : decode b_C_release 59 = .ok (.ireturn, 1) := by decide +kernel
theorem d_C_release_60 : decode b_C_release 60 = .ok (.aload_n 0, 1) := by decide +kernel
theorem d_C_release_61 : decode b_C_release 61 = .ok (.iload_n 1, 1) := by decide +kernel
theorem d_C_release_62 : decode b_C_release 62 = .ok (.iconst 0, 1) := by decide +kernel
theorem d_C_release_63 : decode b_C_release 63 = .ok (.invokevirtual 192, 3) := by decide +kernel
theorem d_C_release_66 : decode b_C_release 66 = .ok (.ifCond .le 7, 3) := by decide +kernel
theorem d_C_release_69 : decode b_C_release 69 = .ok (.iconst 5, 1) := by decide +kernel
theorem d_C_release_70 : decode b_C_release 70 = .ok (.goto 4, 3) := by decide +kernel
theorem d_C_release_73 : decode b_C_release 73 = .ok (.iconst 0, 1) := by decide +kernel
theorem d_C_release_74 : decode b_C_release 74 = .ok (.ireturn, 1) := by decide +kernel
abbrev b_C_look : ByteArray := prog_1_method_17_code
def y_C_look : MethodName := ⟨R_C, "look", "(II)I"⟩
theorem d_C_look_0 : decode b_C_look 0 = .ok (.aload_n 0, 1) := by decide +kernel
theorem d_C_look_1 : decode b_C_look 1 = .ok (.iload_n 1, 1) := by decide +kernel
theorem d_C_look_2 : decode b_C_look 2 = .ok (.invokevirtual 98, 3) := by decide +kernel
theorem d_C_look_5 : decode b_C_look 5 = .ok (.ifCond .ne 13, 3) := by decide +kernel
theorem d_C_look_8 : decode b_C_look 8 = .ok (.new 212, 3) := by decide +kernel
theorem d_C_look_11 : decode b_C_look 11 = .ok (.dup, 1) := by decide +kernel
theorem d_C_look_12 : decode b_C_look 12 = .ok (.ldc 214, 2) := by decide +kernel
theorem d_C_look_14 : decode b_C_look 14 = .ok (.invokespecial 216, 3) := by decide +kernel
theorem d_C_look_17 : decode b_C_look 17 = .ok (.athrow, 1) := by decide +kernel
theorem d_C_look_18 : decode b_C_look 18 = .ok (.aload_n 0, 1) := by decide +kernel
theorem d_C_look_19 : decode b_C_look 19 = .ok (.getfield 10, 3) := by decide +kernel
theorem d_C_look_22 : decode b_C_look 22 = .ok (.iload_n 1, 1) := by decide +kernel
theorem d_C_look_23 : decode b_C_look 23 = .ok (.invokevirtual 105, 3) := by decide +kernel
theorem d_C_look_26 : decode b_C_look 26 = .ok (.checkcast 89, 3) := by decide +kernel
theorem d_C_look_29 : decode b_C_look 29 = .ok (.astore_n 3, 1) := by decide +kernel
theorem d_C_look_30 : decode b_C_look 30 = .ok (.iload_n 2, 1) := by decide +kernel
theorem d_C_look_31 : decode b_C_look 31 = .ok (.tableswitch 127 0 8 #[49, 54, 59, 64, 69, 85, 101, 117, 122], 49) := by decide +kernel
theorem d_C_look_80 : decode b_C_look 80 = .ok (.aload_n 3, 1) := by decide +kernel
theorem d_C_look_81 : decode b_C_look 81 = .ok (.getfield 133, 3) := by decide +kernel
theorem d_C_look_84 : decode b_C_look 84 = .ok (.ireturn, 1) := by decide +kernel
theorem d_C_look_85 : decode b_C_look 85 = .ok (.aload_n 3, 1) := by decide +kernel
theorem d_C_look_86 : decode b_C_look 86 = .ok (.getfield 124, 3) := by decide +kernel
theorem d_C_look_89 : decode b_C_look 89 = .ok (.ireturn, 1) := by decide +kernel
theorem d_C_look_90 : decode b_C_look 90 = .ok (.aload_n 3, 1) := by decide +kernel
theorem d_C_look_91 : decode b_C_look 91 = .ok (.getfield 127, 3) := by decide +kernel
theorem d_C_look_94 : decode b_C_look 94 = .ok (.ireturn, 1) := by decide +kernel
theorem d_C_look_95 : decode b_C_look 95 = .ok (.aload_n 3, 1) := by decide +kernel
theorem d_C_look_96 : decode b_C_look 96 = .ok (.getfield 217, 3) := by decide +kernel
theorem d_C_look_99 : decode b_C_look 99 = .ok (.ireturn, 1) := by decide +kernel
theorem d_C_look_100 : decode b_C_look 100 = .ok (.aload_n 3, 1) := by decide +kernel
theorem d_C_look_101 : decode b_C_look 101 = .ok (.invokevirtual 220, 3) := by decide +kernel
theorem d_C_look_104 : decode b_C_look 104 = .ok (.ifCond .eq 10, 3) := by decide +kernel
theorem d_C_look_107 : decode b_C_look 107 = .ok (.aload_n 3, 1) := by decide +kernel
theorem d_C_look_108 : decode b_C_look 108 = .ok (.getfield 223, 3) := by decide +kernel
theorem d_C_look_111 : decode b_C_look 111 = .ok (.goto 4, 3) := by decide +kernel
theorem d_C_look_114 : decode b_C_look 114 = .ok (.iconst (-1), 1) := by decide +kernel
theorem d_C_look_115 : decode b_C_look 115 = .ok (.ireturn, 1) := by decide +kernel
theorem d_C_look_116 : decode b_C_look 116 = .ok (.aload_n 3, 1) := by decide +kernel
theorem d_C_look_117 : decode b_C_look 117 = .ok (.invokevirtual 220, 3) := by decide +kernel
theorem d_C_look_120 : decode b_C_look 120 = .ok (.ifCond .eq 10, 3) := by decide +kernel
theorem d_C_look_123 : decode b_C_look 123 = .ok (.aload_n 3, 1) := by decide +kernel
theorem d_C_look_124 : decode b_C_look 124 = .ok (.getfield 226, 3) := by decide +kernel
theorem d_C_look_127 : decode b_C_look 127 = .ok (.goto 4, 3) := by decide +kernel
theorem d_C_look_130 : decode b_C_look 130 = .ok (.iconst (-1), 1) := by decide +kernel
theorem d_C_look_131 : decode b_C_look 131 = .ok (.ireturn, 1) := by decide +kernel
theorem d_C_look_132 : decode b_C_look 132 = .ok (.aload_n 3, 1) := by decide +kernel
theorem d_C_look_133 : decode b_C_look 133 = .ok (.invokevirtual 220, 3) := by decide +kernel
theorem d_C_look_136 : decode b_C_look 136 = .ok (.ifCond .eq 10, 3) := by decide +kernel
theorem d_C_look_139 : decode b_C_look 139 = .ok (.aload_n 3, 1) := by decide +kernel
theorem d_C_look_140 : decode b_C_look 140 = .ok (.getfield 229, 3) := by decide +kernel
theorem d_C_look_143 : decode b_C_look 143 = .ok (.goto 4, 3) := by decide +kernel
theorem d_C_look_146 : decode b_C_look 146 = .ok (.iconst (-1), 1) := by decide +kernel
theorem d_C_look_147 : decode b_C_look 147 = .ok (.ireturn, 1) := by decide +kernel
theorem d_C_look_148 : decode b_C_look 148 = .ok (.aload_n 3, 1) := by decide +kernel
theorem d_C_look_149 : decode b_C_look 149 = .ok (.getfield 130, 3) := by decide +kernel
theorem d_C_look_152 : decode b_C_look 152 = .ok (.ireturn, 1) := by decide +kernel
theorem d_C_look_153 : decode b_C_look 153 = .ok (.aload_n 3, 1) := by decide +kernel
theorem d_C_look_154 : decode b_C_look 154 = .ok (.getfield 164, 3) := by decide +kernel
theorem d_C_look_157 : decode b_C_look 157 = .ok (.ireturn, 1) := by decide +kernel
theorem d_C_look_158 : decode b_C_look 158 = .ok (.new 212, 3) := by decide +kernel
theorem d_C_look_161 : decode b_C_look 161 = .ok (.dup, 1) := by decide +kernel
theorem d_C_look_162 : decode b_C_look 162 = .ok (.ldc 232, 2) := by decide +kernel
theorem d_C_look_164 : decode b_C_look 164 = .ok (.invokespecial 216, 3) := by decide +kernel
theorem d_C_look_167 : decode b_C_look 167 = .ok (.athrow, 1) := by decide +kernel
abbrev b_C_count : ByteArray := prog_1_method_18_code
def y_C_count : MethodName := ⟨R_C, "count", "(I)I"⟩
theorem d_C_count_0 : decode b_C_count 0 = .ok (.iload_n 1, 1) := by decide +kernel
theorem d_C_count_1 : decode b_C_count 1 = .ok (.tableswitch 48 0 2 #[27, 35, 43], 27) := by decide +kernel
theorem d_C_count_28 : decode b_C_count 28 = .ok (.aload_n 0, 1) := by decide +kernel
theorem d_C_count_29 : decode b_C_count 29 = .ok (.getfield 10, 3) := by decide +kernel
theorem d_C_count_32 : decode b_C_count 32 = .ok (.invokevirtual 80, 3) := by decide +kernel
theorem d_C_count_35 : decode b_C_count 35 = .ok (.ireturn, 1) := by decide +kernel
theorem d_C_count_36 : decode b_C_count 36 = .ok (.aload_n 0, 1) := by decide +kernel
theorem d_C_count_37 : decode b_C_count 37 = .ok (.getfield 16, 3) := by decide +kernel
theorem d_C_count_40 : decode b_C_count 40 = .ok (.invokevirtual 80, 3) := by decide +kernel
theorem d_C_count_43 : decode b_C_count 43 = .ok (.ireturn, 1) := by decide +kernel
theorem d_C_count_44 : decode b_C_count 44 = .ok (.aload_n 0, 1) := by decide +kernel
theorem d_C_count_45 : decode b_C_count 45 = .ok (.getfield 43, 3) := by decide +kernel
theorem d_C_count_48 : decode b_C_count 48 = .ok (.ireturn, 1) := by decide +kernel
theorem d_C_count_49 : decode b_C_count 49 = .ok (.iload_n 1, 1) := by decide +kernel
theorem d_C_count_50 : decode b_C_count 50 = .ok (.bipush 10, 2) := by decide +kernel
theorem d_C_count_52 : decode b_C_count 52 = .ok (.if_icmp .ge 7, 3) := by decide +kernel
theorem d_C_count_55 : decode b_C_count 55 = .ok (.iconst (-1), 1) := by decide +kernel
theorem d_C_count_56 : decode b_C_count 56 = .ok (.goto 15, 3) := by decide +kernel
theorem d_C_count_59 : decode b_C_count 59 = .ok (.aload_n 0, 1) := by decide +kernel
theorem d_C_count_60 : decode b_C_count 60 = .ok (.iload_n 1, 1) := by decide +kernel
theorem d_C_count_61 : decode b_C_count 61 = .ok (.bipush 10, 2) := by decide +kernel
theorem d_C_count_63 : decode b_C_count 63 = .ok (.irem, 1) := by decide +kernel
theorem d_C_count_64 : decode b_C_count 64 = .ok (.iload_n 1, 1) := by decide +kernel
theorem d_C_count_65 : decode b_C_count 65 = .ok (.bipush 10, 2) := by decide +kernel
theorem d_C_count_67 : decode b_C_count 67 = .ok (.idiv, 1) := by decide +kernel
theorem d_C_count_68 : decode b_C_count 68 = .ok (.invokevirtual 234, 3) := by decide +kernel
theorem d_C_count_71 : decode b_C_count 71 = .ok (.ireturn, 1) := by decide +kernel
abbrev b_C_countOf : ByteArray := prog_1_method_19_code
def y_C_countOf : MethodName := ⟨R_C, "countOf", "(II)I"⟩
theorem d_C_countOf_0 : decode b_C_countOf 0 = .ok (.iload_n 1, 1) := by decide +kernel
theorem d_C_countOf_1 : decode b_C_countOf 1 = .ok (.invokestatic 65, 3) := by decide +kernel
theorem d_C_countOf_4 : decode b_C_countOf 4 = .ok (.ifCond .ne 5, 3) := by decide +kernel
theorem d_C_countOf_7 : decode b_C_countOf 7 = .ok (.iconst (-1), 1) := by decide +kernel
theorem d_C_countOf_8 : decode b_C_countOf 8 = .ok (.ireturn, 1) := by decide +kernel
theorem d_C_countOf_9 : decode b_C_countOf 9 = .ok (.iload_n 2, 1) := by decide +kernel
theorem d_C_countOf_10 : decode b_C_countOf 10 = .ok (.tableswitch 58 1 4 #[30, 37, 44, 51], 30) := by decide +kernel
theorem d_C_countOf_40 : decode b_C_countOf 40 = .ok (.aload_n 0, 1) := by decide +kernel
theorem d_C_countOf_41 : decode b_C_countOf 41 = .ok (.getfield 23, 3) := by decide +kernel
theorem d_C_countOf_44 : decode b_C_countOf 44 = .ok (.iload_n 1, 1) := by decide +kernel
theorem d_C_countOf_45 : decode b_C_countOf 45 = .ok (.iaload, 1) := by decide +kernel
theorem d_C_countOf_46 : decode b_C_countOf 46 = .ok (.ireturn, 1) := by decide +kernel
theorem d_C_countOf_47 : decode b_C_countOf 47 = .ok (.aload_n 0, 1) := by decide +kernel
theorem d_C_countOf_48 : decode b_C_countOf 48 = .ok (.getfield 26, 3) := by decide +kernel
theorem d_C_countOf_51 : decode b_C_countOf 51 = .ok (.iload_n 1, 1) := by decide +kernel
theorem d_C_countOf_52 : decode b_C_countOf 52 = .ok (.iaload, 1) := by decide +kernel
theorem d_C_countOf_53 : decode b_C_countOf 53 = .ok (.ireturn, 1) := by decide +kernel
theorem d_C_countOf_54 : decode b_C_countOf 54 = .ok (.aload_n 0, 1) := by decide +kernel
theorem d_C_countOf_55 : decode b_C_countOf 55 = .ok (.getfield 29, 3) := by decide +kernel
theorem d_C_countOf_58 : decode b_C_countOf 58 = .ok (.iload_n 1, 1) := by decide +kernel
theorem d_C_countOf_59 : decode b_C_countOf 59 = .ok (.iaload, 1) := by decide +kernel
theorem d_C_countOf_60 : decode b_C_countOf 60 = .ok (.ireturn, 1) := by decide +kernel
theorem d_C_countOf_61 : decode b_C_countOf 61 = .ok (.aload_n 0, 1) := by decide +kernel
theorem d_C_countOf_62 : decode b_C_countOf 62 = .ok (.iload_n 1, 1) := by decide +kernel
theorem d_C_countOf_63 : decode b_C_countOf 63 = .ok (.iconst 1, 1) := by decide +kernel
theorem d_C_countOf_64 : decode b_C_countOf 64 = .ok (.invokevirtual 192, 3) := by decide +kernel
theorem d_C_countOf_67 : decode b_C_countOf 67 = .ok (.ireturn, 1) := by decide +kernel
theorem d_C_countOf_68 : decode b_C_countOf 68 = .ok (.iconst (-1), 1) := by decide +kernel
theorem d_C_countOf_69 : decode b_C_countOf 69 = .ok (.ireturn, 1) := by decide +kernel
abbrev b_C_muchDifferent : ByteArray := prog_1_method_20_code
def y_C_muchDifferent : MethodName := ⟨R_C, "muchDifferent", "(IZ)I"⟩
theorem d_C_muchDifferent_0 : decode b_C_muchDifferent 0 = .ok (.iconst 0, 1) := by decide +kernel
theorem d_C_muchDifferent_1 : decode b_C_muchDifferent 1 = .ok (.istore_n 3, 1) := by decide +kernel
theorem d_C_muchDifferent_2 : decode b_C_muchDifferent 2 = .ok (.iconst 0, 1) := by decide +kernel
theorem d_C_muchDifferent_3 : decode b_C_muchDifferent 3 = .ok (.istore 4, 2) := by decide +kernel
theorem d_C_muchDifferent_5 : decode b_C_muchDifferent 5 = .ok (.iload 4, 2) := by decide +kernel
theorem d_C_muchDifferent_7 : decode b_C_muchDifferent 7 = .ok (.aload_n 0, 1) := by decide +kernel
theorem d_C_muchDifferent_8 : decode b_C_muchDifferent 8 = .ok (.getfield 16, 3) := by decide +kernel
theorem d_C_muchDifferent_11 : decode b_C_muchDifferent 11 = .ok (.invokevirtual 80, 3) := by decide +kernel
theorem d_C_muchDifferent_14 : decode b_C_muchDifferent 14 = .ok (.if_icmp .ge 80, 3) := by decide +kernel
theorem d_C_muchDifferent_17 : decode b_C_muchDifferent 17 = .ok (.aload_n 0, 1) := by decide +kernel
theorem d_C_muchDifferent_18 : decode b_C_muchDifferent 18 = .ok (.getfield 16, 3) := by decide +kernel
theorem d_C_muchDifferent_21 : decode b_C_muchDifferent 21 = .ok (.iload 4, 2) := by decide +kernel
theorem d_C_muchDifferent_23 : decode b_C_muchDifferent 23 = .ok (.invokevirtual 105, 3) := by decide +kernel
theorem d_C_muchDifferent_26 : decode b_C_muchDifferent 26 = .ok (.checkcast 159, 3) := by decide +kernel
theorem d_C_muchDifferent_29 : decode b_C_muchDifferent 29 = .ok (.astore 5, 2) := by decide +kernel
theorem d_C_muchDifferent_31 : decode b_C_muchDifferent 31 = .ok (.aload 5, 2) := by decide +kernel
theorem d_C_muchDifferent_33 : decode b_C_muchDifferent 33 = .ok (.getfield 196, 3) := by decide +kernel
theorem d_C_muchDifferent_36 : decode b_C_muchDifferent 36 = .ok (.iload_n 1, 1) := by decide +kernel
theorem d_C_muchDifferent_37 : decode b_C_muchDifferent 37 = .ok (.if_icmp .eq 6, 3) := by decide +kernel
theorem d_C_muchDifferent_40 : decode b_C_muchDifferent 40 = .ok (.goto 48, 3) := by decide +kernel
theorem d_C_muchDifferent_43 : decode b_C_muchDifferent 43 = .ok (.iconst 0, 1) := by decide +kernel
theorem d_C_muchDifferent_44 : decode b_C_muchDifferent 44 = .ok (.istore 6, 2) := by decide +kernel
theorem d_C_muchDifferent_46 : decode b_C_muchDifferent 46 = .ok (.iload 6, 2) := by decide +kernel
theorem d_C_muchDifferent_48 : decode b_C_muchDifferent 48 = .ok (.iconst 4, 1) := by decide +kernel
theorem d_C_muchDifferent_49 : decode b_C_muchDifferent 49 = .ok (.if_icmp .ge 39, 3) := by decide +kernel
theorem d_C_muchDifferent_52 : decode b_C_muchDifferent 52 = .ok (.iload_n 2, 1) := by decide +kernel
theorem d_C_muchDifferent_53 : decode b_C_muchDifferent 53 = .ok (.ifCond .ne 14, 3) := by decide +kernel
theorem d_C_muchDifferent_56 : decode b_C_muchDifferent 56 = .ok (.aload 5, 2) := by decide +kernel
theorem d_C_muchDifferent_58 : decode b_C_muchDifferent 58 = .ok (.getfield 237, 3) := by decide +kernel
theorem d_C_muchDifferent_61 : decode b_C_muchDifferent 61 = .ok (.iload 6, 2) := by decide +kernel
theorem d_C_muchDifferent_63 : decode b_C_muchDifferent 63 = .ok (.baload, 1) := by decide +kernel
theorem d_C_muchDifferent_64 : decode b_C_muchDifferent 64 = .ok (.ifCond .ne 18, 3) := by decide +kernel
theorem d_C_muchDifferent_67 : decode b_C_muchDifferent 67 = .ok (.aload_n 0, 1) := by decide +kernel
theorem d_C_muchDifferent_68 : decode b_C_muchDifferent 68 = .ok (.aload 5, 2) := by decide +kernel
theorem d_C_muchDifferent_70 : decode b_C_muchDifferent 70 = .ok (.iload 6, 2) := by decide +kernel
theorem d_C_muchDifferent_72 : decode b_C_muchDifferent 72 = .ok (.invokevirtual 183, 3) := by decide +kernel
theorem d_C_muchDifferent_75 : decode b_C_muchDifferent 75 = .ok (.iconst 2, 1) := by decide +kernel
theorem d_C_muchDifferent_76 : decode b_C_muchDifferent 76 = .ok (.if_icmp .ne 6, 3) := by decide +kernel
theorem d_C_muchDifferent_79 : decode b_C_muchDifferent 79 = .ok (.iinc 3 1, 3) := by decide +kernel
theorem d_C_muchDifferent_82 : decode b_C_muchDifferent 82 = .ok (.iinc 6 1, 3) := by decide +kernel
theorem d_C_muchDifferent_85 : decode b_C_muchDifferent 85 = .ok (.goto (-39), 3) := by decide +kernel
theorem d_C_muchDifferent_88 : decode b_C_muchDifferent 88 = .ok (.iinc 4 1, 3) := by decide +kernel
theorem d_C_muchDifferent_91 : decode b_C_muchDifferent 91 = .ok (.goto (-86), 3) := by decide +kernel
theorem d_C_muchDifferent_94 : decode b_C_muchDifferent 94 = .ok (.iload_n 3, 1) := by decide +kernel
theorem d_C_muchDifferent_95 : decode b_C_muchDifferent 95 = .ok (.ireturn, 1) := by decide +kernel
abbrev b_C_difference : ByteArray := prog_1_method_21_code
def y_C_difference : MethodName := ⟨R_C, "difference", "(LInspectSteps$Sample;I)I"⟩
theorem d_C_difference_0 : decode b_C_difference 0 = .ok (.aload_n 1, 1) := by decide +kernel
theorem d_C_difference_1 : decode b_C_difference 1 = .ok (.getfield 177, 3) := by decide +kernel
theorem d_C_difference_4 : decode b_C_difference 4 = .ok (.iload_n 2, 1) := by decide +kernel
theorem d_C_difference_5 : decode b_C_difference 5 = .ok (.iaload, 1) := by decide +kernel
theorem d_C_difference_6 : decode b_C_difference 6 = .ok (.istore_n 3, 1) := by decide +kernel
theorem d_C_difference_7 : decode b_C_difference 7 = .ok (.aload_n 0, 1) := by decide +kernel
theorem d_C_difference_8 : decode b_C_difference 8 = .ok (.getfield 34, 3) := by decide +kernel
theorem d_C_difference_11 : decode b_C_difference 11 = .ok (.aload_n 1, 1) := by decide +kernel
theorem d_C_difference_12 : decode b_C_difference 12 = .ok (.getfield 196, 3) := by decide +kernel
theorem d_C_difference_15 : decode b_C_difference 15 = .ok (.aaload, 1) := by decide +kernel
theorem d_C_difference_16 : decode b_C_difference 16 = .ok (.iload_n 2, 1) := by decide +kernel
theorem d_C_difference_17 : decode b_C_difference 17 = .ok (.iaload, 1) := by decide +kernel
theorem d_C_difference_18 : decode b_C_difference 18 = .ok (.istore 4, 2) := by decide +kernel
theorem d_C_difference_20 : decode b_C_difference 20 = .ok (.iload_n 3, 1) := by decide +kernel
theorem d_C_difference_21 : decode b_C_difference 21 = .ok (.iconst (-1), 1) := by decide +kernel
theorem d_C_difference_22 : decode b_C_difference 22 = .ok (.if_icmp .eq 9, 3) := by decide +kernel
theorem d_C_difference_25 : decode b_C_difference 25 = .ok (.iload 4, 2) := by decide +kernel
theorem d_C_difference_27 : decode b_C_difference 27 = .ok (.iconst (-1), 1) := by decide +kernel
theorem d_C_difference_28 : decode b_C_difference 28 = .ok (.if_icmp .ne 5, 3) := by decide +kernel
theorem d_C_difference_31 : decode b_C_difference 31 = .ok (.iconst 0, 1) := by decide +kernel
theorem d_C_difference_32 : decode b_C_difference 32 = .ok (.ireturn, 1) := by decide +kernel
theorem d_C_difference_33 : decode b_C_difference 33 = .ok (.iload_n 3, 1) := by decide +kernel
theorem d_C_difference_34 : decode b_C_difference 34 = .ok (.i2l, 1) := by decide +kernel
theorem d_C_difference_35 : decode b_C_difference 35 = .ok (.iload 4, 2) := by decide +kernel
theorem d_C_difference_37 : decode b_C_difference 37 = .ok (.i2l, 1) := by decide +kernel
theorem d_C_difference_38 : decode b_C_difference 38 = .ok (.lsub, 1) := by decide +kernel
theorem d_C_difference_39 : decode b_C_difference 39 = .ok (.invokestatic 241, 3) := by decide +kernel
theorem d_C_difference_42 : decode b_C_difference 42 = .ok (.ldc2_w 247, 3) := by decide +kernel
theorem d_C_difference_45 : decode b_C_difference 45 = .ok (.lmul, 1) := by decide +kernel
theorem d_C_difference_46 : decode b_C_difference 46 = .ok (.lstore 5, 2) := by decide +kernel
theorem d_C_difference_48 : decode b_C_difference 48 = .ok (.iload 4, 2) := by decide +kernel
theorem d_C_difference_50 : decode b_C_difference 50 = .ok (.i2l, 1) := by decide +kernel
theorem d_C_difference_51 : decode b_C_difference 51 = .ok (.iload_n 3, 1) := by decide +kernel
theorem d_C_difference_52 : decode b_C_difference 52 = .ok (.iload 4, 2) := by decide +kernel
theorem d_C_difference_54 : decode b_C_difference 54 = .ok (.if_icmp .le 12, 3) := by decide +kernel
theorem d_C_difference_57 : decode b_C_difference 57 = .ok (.aload_n 0, 1) := by decide +kernel
theorem d_C_difference_58 : decode b_C_difference 58 = .ok (.getfield 37, 3) := by decide +kernel
theorem d_C_difference_61 : decode b_C_difference 61 = .ok (.iload_n 2, 1) := by decide +kernel
theorem d_C_difference_62 : decode b_C_difference 62 = .ok (.iaload, 1) := by decide +kernel
theorem d_C_difference_63 : decode b_C_difference 63 = .ok (.goto 9, 3) := by decide +kernel
theorem d_C_difference_66 : decode b_C_difference 66 = .ok (.aload_n 0, 1) := by decide +kernel
theorem d_C_difference_67 : decode b_C_difference 67 = .ok (.getfield 40, 3) := by decide +kernel
theorem d_C_difference_70 : decode b_C_difference 70 = .ok (.iload_n 2, 1) := by decide +kernel
theorem d_C_difference_71 : decode b_C_difference 71 = .ok (.iaload, 1) := by decide +kernel
theorem d_C_difference_72 : decode b_C_difference 72 = .ok (.i2l, 1) := by decide +kernel
theorem d_C_difference_73 : decode b_C_difference 73 = .ok (.lmul, 1) := by decide +kernel
theorem d_C_difference_74 : decode b_C_difference 74 = .ok (.lstore 7, 2) := by decide +kernel
theorem d_C_difference_76 : decode b_C_difference 76 = .ok (.lload 5, 2) := by decide +kernel
theorem d_C_difference_78 : decode b_C_difference 78 = .ok (.lload 7, 2) := by decide +kernel
theorem d_C_difference_80 : decode b_C_difference 80 = .ok (.lcmp, 1) := by decide +kernel
theorem d_C_difference_81 : decode b_C_difference 81 = .ok (.ifCond .gt 5, 3) := by decide +kernel
theorem d_C_difference_84 : decode b_C_difference 84 = .ok (.iconst 0, 1) := by decide +kernel
theorem d_C_difference_85 : decode b_C_difference 85 = .ok (.ireturn, 1) := by decide +kernel
theorem d_C_difference_86 : decode b_C_difference 86 = .ok (.lload 5, 2) := by decide +kernel
theorem d_C_difference_88 : decode b_C_difference 88 = .ok (.ldc2_w 249, 3) := by decide +kernel
theorem d_C_difference_91 : decode b_C_difference 91 = .ok (.lload 7, 2) := by decide +kernel
theorem d_C_difference_93 : decode b_C_difference 93 = .ok (.lmul, 1) := by decide +kernel
theorem d_C_difference_94 : decode b_C_difference 94 = .ok (.lcmp, 1) := by decide +kernel
theorem d_C_difference_95 : decode b_C_difference 95 = .ok (.ifCond .le 7, 3) := by decide +kernel
theorem d_C_difference_98 : decode b_C_difference 98 = .ok (.iconst 2, 1) := by decide +kernel
theorem d_C_difference_99 : decode b_C_difference 99 = .ok (.goto 4, 3) := by decide +kernel
theorem d_C_difference_102 : decode b_C_difference 102 = .ok (.iconst 1, 1) := by decide +kernel
theorem d_C_difference_103 : decode b_C_difference 103 = .ok (.ireturn, 1) := by decide +kernel
abbrev b_C_isTaken : ByteArray := prog_1_method_22_code
def y_C_isTaken : MethodName := ⟨R_C, "isTaken", "(III)Z"⟩
theorem d_C_isTaken_0 : decode b_C_isTaken 0 = .ok (.iconst 0, 1) := by decide +kernel
theorem d_C_isTaken_1 : decode b_C_isTaken 1 = .ok (.istore 4, 2) := by decide +kernel
theorem d_C_isTaken_3 : decode b_C_isTaken 3 = .ok (.iload 4, 2) := by decide +kernel
theorem d_C_isTaken_5 : decode b_C_isTaken 5 = .ok (.aload_n 0, 1) := by decide +kernel
theorem d_C_isTaken_6 : decode b_C_isTaken 6 = .ok (.getfield 10, 3) := by decide +kernel
theorem d_C_isTaken_9 : decode b_C_isTaken 9 = .ok (.invokevirtual 80, 3) := by decide +kernel
theorem d_C_isTaken_12 : decode b_C_isTaken 12 = .ok (.if_icmp .ge 32, 3) := by decide +kernel
theorem d_C_isTaken_15 : decode b_C_isTaken 15 = .ok (.aload_n 0, 1) := by decide +kernel
theorem d_C_isTaken_16 : decode b_C_isTaken 16 = .ok (.getfield 10, 3) := by decide +kernel
theorem d_C_isTaken_19 : decode b_C_isTaken 19 = .ok (.iload 4, 2) := by decide +kernel
theorem d_C_isTaken_21 : decode b_C_isTaken 21 = .ok (.invokevirtual 105, 3) := by decide +kernel
theorem d_C_isTaken_24 : decode b_C_isTaken 24 = .ok (.checkcast 89, 3) := by decide +kernel
theorem d_C_isTaken_27 : decode b_C_isTaken 27 = .ok (.iload_n 1, 1) := by decide +kernel
theorem d_C_isTaken_28 : decode b_C_isTaken 28 = .ok (.iload_n 2, 1) := by decide +kernel
theorem d_C_isTaken_29 : decode b_C_isTaken 29 = .ok (.iload_n 3, 1) := by decide +kernel
theorem d_C_isTaken_30 : decode b_C_isTaken 30 = .ok (.invokevirtual 251, 3) := by decide +kernel
theorem d_C_isTaken_33 : decode b_C_isTaken 33 = .ok (.ifCond .eq 5, 3) := by decide +kernel
theorem d_C_isTaken_36 : decode b_C_isTaken 36 = .ok (.iconst 1, 1) := by decide +kernel
theorem d_C_isTaken_37 : decode b_C_isTaken 37 = .ok (.ireturn, 1) := by decide +kernel
theorem d_C_isTaken_38 : decode b_C_isTaken 38 = .ok (.iinc 4 1, 3) := by decide +kernel
theorem d_C_isTaken_41 : decode b_C_isTaken 41 = .ok (.goto (-38), 3) := by decide +kernel
theorem d_C_isTaken_44 : decode b_C_isTaken 44 = .ok (.iconst 0, 1) := by decide +kernel
theorem d_C_isTaken_45 : decode b_C_isTaken 45 = .ok (.ireturn, 1) := by decide +kernel
abbrev b_C_isBeingOpened : ByteArray := prog_1_method_23_code
def y_C_isBeingOpened : MethodName := ⟨R_C, "isBeingOpened", "(I)Z"⟩
theorem d_C_isBeingOpened_0 : decode b_C_isBeingOpened 0 = .ok (.iconst 0, 1) := by decide +kernel
theorem d_C_isBeingOpened_1 : decode b_C_isBeingOpened 1 = .ok (.istore_n 2, 1) := by decide +kernel
theorem d_C_isBeingOpened_2 : decode b_C_isBeingOpened 2 = .ok (.iload_n 2, 1) := by decide +kernel
theorem d_C_isBeingOpened_3 : decode b_C_isBeingOpened 3 = .ok (.aload_n 0, 1) := by decide +kernel
theorem d_C_isBeingOpened_4 : decode b_C_isBeingOpened 4 = .ok (.getfield 10, 3) := by decide +kernel
theorem d_C_isBeingOpened_7 : decode b_C_isBeingOpened 7 = .ok (.invokevirtual 80, 3) := by decide +kernel
theorem d_C_isBeingOpened_10 : decode b_C_isBeingOpened 10 = .ok (.if_icmp .ge 46, 3) := by decide +kernel
theorem d_C_isBeingOpened_13 : decode b_C_isBeingOpened 13 = .ok (.aload_n 0, 1) := by decide +kernel
theorem d_C_isBeingOpened_14 : decode b_C_isBeingOpened 14 = .ok (.getfield 10, 3) := by decide +kernel
theorem d_C_isBeingOpened_17 : decode b_C_isBeingOpened 17 = .ok (.iload_n 2, 1) := by decide +kernel
theorem d_C_isBeingOpened_18 : decode b_C_isBeingOpened 18 = .ok (.invokevirtual 105, 3) := by decide +kernel
theorem d_C_isBeingOpened_21 : decode b_C_isBeingOpened 21 = .ok (.checkcast 89, 3) := by decide +kernel
theorem d_C_isBeingOpened_24 : decode b_C_isBeingOpened 24 = .ok (.astore_n 3, 1) := by decide +kernel
theorem d_C_isBeingOpened_25 : decode b_C_isBeingOpened 25 = .ok (.aload_n 3, 1) := by decide +kernel
theorem d_C_isBeingOpened_26 : decode b_C_isBeingOpened 26 = .ok (.getfield 133, 3) := by decide +kernel
theorem d_C_isBeingOpened_29 : decode b_C_isBeingOpened 29 = .ok (.iload_n 1, 1) := by decide +kernel
theorem d_C_isBeingOpened_30 : decode b_C_isBeingOpened 30 = .ok (.if_icmp .ne 20, 3) := by decide +kernel
theorem d_C_isBeingOpened_33 : decode b_C_isBeingOpened 33 = .ok (.aload_n 3, 1) := by decide +kernel
theorem d_C_isBeingOpened_34 : decode b_C_isBeingOpened 34 = .ok (.invokevirtual 136, 3) := by decide +kernel
theorem d_C_isBeingOpened_37 : decode b_C_isBeingOpened 37 = .ok (.ifCond .eq 13, 3) := by decide +kernel
theorem d_C_isBeingOpened_40 : decode b_C_isBeingOpened 40 = .ok (.aload_n 3, 1) := by decide +kernel
theorem d_C_isBeingOpened_41 : decode b_C_isBeingOpened 41 = .ok (.getfield 127, 3) := by decide +kernel
theorem d_C_isBeingOpened_44 : decode b_C_isBeingOpened 44 = .ok (.iconst 2, 1) := by decide +kernel
theorem d_C_isBeingOpened_45 : decode b_C_isBeingOpened 45 = .ok (.if_icmp .ne 5, 3) := by decide +kernel
theorem d_C_isBeingOpened_48 : decode b_C_isBeingOpened 48 = .ok (.iconst 1, 1) := by decide +kernel
theorem d_C_isBeingOpened_49 : decode b_C_isBeingOpened 49 = .ok (.ireturn, 1) := by decide +kernel
theorem d_C_isBeingOpened_50 : decode b_C_isBeingOpened 50 = .ok (.iinc 2 1, 3) := by decide +kernel
theorem d_C_isBeingOpened_53 : decode b_C_isBeingOpened 53 = .ok (.goto (-51), 3) := by decide +kernel
theorem d_C_isBeingOpened_56 : decode b_C_isBeingOpened 56 = .ok (.iconst 0, 1) := by decide +kernel
theorem d_C_isBeingOpened_57 : decode b_C_isBeingOpened 57 = .ok (.ireturn, 1) := by decide +kernel
abbrev b_C_hasPendingInspection : ByteArray := prog_1_method_24_code
def y_C_hasPendingInspection : MethodName := ⟨R_C, "hasPendingInspection", "(I)Z"⟩
theorem d_C_hasPendingInspection_0 : decode b_C_hasPendingInspection 0 = .ok (.iconst 0, 1) := by decide +kernel
theorem d_C_hasPendingInspection_1 : decode b_C_hasPendingInspection 1 = .ok (.istore_n 2, 1) := by decide +kernel
theorem d_C_hasPendingInspection_2 : decode b_C_hasPendingInspection 2 = .ok (.iload_n 2, 1) := by decide +kernel
theorem d_C_hasPendingInspection_3 : decode b_C_hasPendingInspection 3 = .ok (.aload_n 0, 1) := by decide +kernel
theorem d_C_hasPendingInspection_4 : decode b_C_hasPendingInspection 4 = .ok (.getfield 10, 3) := by decide +kernel
theorem d_C_hasPendingInspection_7 : decode b_C_hasPendingInspection 7 = .ok (.invokevirtual 80, 3) := by decide +kernel
theorem d_C_hasPendingInspection_10 : decode b_C_hasPendingInspection 10 = .ok (.if_icmp .ge 38, 3) := by decide +kernel
theorem d_C_hasPendingInspection_13 : decode b_C_hasPendingInspection 13 = .ok (.aload_n 0, 1) := by decide +kernel
theorem d_C_hasPendingInspection_14 : decode b_C_hasPendingInspection 14 = .ok (.getfield 10, 3) := by decide +kernel
theorem d_C_hasPendingInspection_17 : decode b_C_hasPendingInspection 17 = .ok (.iload_n 2, 1) := by decide +kernel
theorem d_C_hasPendingInspection_18 : decode b_C_hasPendingInspection 18 = .ok (.invokevirtual 105, 3) := by decide +kernel
theorem d_C_hasPendingInspection_21 : decode b_C_hasPendingInspection 21 = .ok (.checkcast 89, 3) := by decide +kernel
theorem d_C_hasPendingInspection_24 : decode b_C_hasPendingInspection 24 = .ok (.astore_n 3, 1) := by decide +kernel
theorem d_C_hasPendingInspection_25 : decode b_C_hasPendingInspection 25 = .ok (.aload_n 3, 1) := by decide +kernel
theorem d_C_hasPendingInspection_26 : decode b_C_hasPendingInspection 26 = .ok (.getfield 133, 3) := by decide +kernel
theorem d_C_hasPendingInspection_29 : decode b_C_hasPendingInspection 29 = .ok (.iload_n 1, 1) := by decide +kernel
theorem d_C_hasPendingInspection_30 : decode b_C_hasPendingInspection 30 = .ok (.if_icmp .ne 12, 3) := by decide +kernel
theorem d_C_hasPendingInspection_33 : decode b_C_hasPendingInspection 33 = .ok (.aload_n 3, 1) := by decide +kernel
theorem d_C_hasPendingInspection_34 : decode b_C_hasPendingInspection 34 = .ok (.invokevirtual 254, 3) := by decide +kernel
theorem d_C_hasPendingInspection_37 : decode b_C_hasPendingInspection 37 = .ok (.ifCond .eq 5, 3) := by decide +kernel
theorem d_C_hasPendingInspection_40 : decode b_C_hasPendingInspection 40 = .ok (.iconst 1, 1) := by decide +kernel
theorem d_C_hasPendingInspection_41 : decode b_C_hasPendingInspection 41 = .ok (.ireturn, 1) := by decide +kernel
theorem d_C_hasPendingInspection_42 : decode b_C_hasPendingInspection 42 = .ok (.iinc 2 1, 3) := by decide +kernel
theorem d_C_hasPendingInspection_45 : decode b_C_hasPendingInspection 45 = .ok (.goto (-43), 3) := by decide +kernel
theorem d_C_hasPendingInspection_48 : decode b_C_hasPendingInspection 48 = .ok (.iconst 0, 1) := by decide +kernel
theorem d_C_hasPendingInspection_49 : decode b_C_hasPendingInspection 49 = .ok (.ireturn, 1) := by decide +kernel
abbrev b_C_hasSampleWithoutResult : ByteArray := prog_1_method_25_code
def y_C_hasSampleWithoutResult : MethodName := ⟨R_C, "hasSampleWithoutResult", "(I)Z"⟩
theorem d_C_hasSampleWithoutResult_0 : decode b_C_hasSampleWithoutResult 0 = .ok (.iconst 0, 1) := by decide +kernel
theorem d_C_hasSampleWithoutResult_1 : decode b_C_hasSampleWithoutResult 1 = .ok (.istore_n 2, 1) := by decide +kernel
theorem d_C_hasSampleWithoutResult_2 : decode b_C_hasSampleWithoutResult 2 = .ok (.iload_n 2, 1) := by decide +kernel
theorem d_C_hasSampleWithoutResult_3 : decode b_C_hasSampleWithoutResult 3 = .ok (.aload_n 0, 1) := by decide +kernel
theorem d_C_hasSampleWithoutResult_4 : decode b_C_hasSampleWithoutResult 4 = .ok (.getfield 16, 3) := by decide +kernel
theorem d_C_hasSampleWithoutResult_7 : decode b_C_hasSampleWithoutResult 7 = .ok (.invokevirtual 80, 3) := by decide +kernel
theorem d_C_hasSampleWithoutResult_10 : decode b_C_hasSampleWithoutResult 10 = .ok (.if_icmp .ge 38, 3) := by decide +kernel
theorem d_C_hasSampleWithoutResult_13 : decode b_C_hasSampleWithoutResult 13 = .ok (.aload_n 0, 1) := by decide +kernel
theorem d_C_hasSampleWithoutResult_14 : decode b_C_hasSampleWithoutResult 14 = .ok (.getfield 16, 3) := by decide +kernel
theorem d_C_hasSampleWithoutResult_17 : decode b_C_hasSampleWithoutResult 17 = .ok (.iload_n 2, 1) := by decide +kernel
theorem d_C_hasSampleWithoutResult_18 : decode b_C_hasSampleWithoutResult 18 = .ok (.invokevirtual 105, 3) := by decide +kernel
theorem d_C_hasSampleWithoutResult_21 : decode b_C_hasSampleWithoutResult 21 = .ok (.checkcast 159, 3) := by decide +kernel
theorem d_C_hasSampleWithoutResult_24 : decode b_C_hasSampleWithoutResult 24 = .ok (.astore_n 3, 1) := by decide +kernel
theorem d_C_hasSampleWithoutResult_25 : decode b_C_hasSampleWithoutResult 25 = .ok (.aload_n 3, 1) := by decide +kernel
theorem d_C_hasSampleWithoutResult_26 : decode b_C_hasSampleWithoutResult 26 = .ok (.getfield 196, 3) := by decide +kernel
theorem d_C_hasSampleWithoutResult_29 : decode b_C_hasSampleWithoutResult 29 = .ok (.iload_n 1, 1) := by decide +kernel
theorem d_C_hasSampleWithoutResult_30 : decode b_C_hasSampleWithoutResult 30 = .ok (.if_icmp .ne 12, 3) := by decide +kernel
theorem d_C_hasSampleWithoutResult_33 : decode b_C_hasSampleWithoutResult 33 = .ok (.aload_n 3, 1) := by decide +kernel
theorem d_C_hasSampleWithoutResult_34 : decode b_C_hasSampleWithoutResult 34 = .ok (.invokevirtual 257, 3) := by decide +kernel
theorem d_C_hasSampleWithoutResult_37 : decode b_C_hasSampleWithoutResult 37 = .ok (.ifCond .ne 5, 3) := by decide +kernel
theorem d_C_hasSampleWithoutResult_40 : decode b_C_hasSampleWithoutResult 40 = .ok (.iconst 1, 1) := by decide +kernel
theorem d_C_hasSampleWithoutResult_41 : decode b_C_hasSampleWithoutResult 41 = .ok (.ireturn, 1) := by decide +kernel
theorem d_C_hasSampleWithoutResult_42 : decode b_C_hasSampleWithoutResult 42 = .ok (.iinc 2 1, 3) := by decide +kernel
theorem d_C_hasSampleWithoutResult_45 : decode b_C_hasSampleWithoutResult 45 = .ok (.goto (-43), 3) := by decide +kernel
theorem d_C_hasSampleWithoutResult_48 : decode b_C_hasSampleWithoutResult 48 = .ok (.iconst 0, 1) := by decide +kernel
theorem d_C_hasSampleWithoutResult_49 : decode b_C_hasSampleWithoutResult 49 = .ok (.ireturn, 1) := by decide +kernel
abbrev b_C_isSealOfSample : ByteArray := prog_1_method_26_code
def y_C_isSealOfSample : MethodName := ⟨R_C, "isSealOfSample", "(I)Z"⟩
theorem d_C_isSealOfSample_0 : decode b_C_isSealOfSample 0 = .ok (.iconst 0, 1) := by decide +kernel
theorem d_C_isSealOfSample_1 : decode b_C_isSealOfSample 1 = .ok (.istore_n 2, 1) := by decide +kernel
theorem d_C_isSealOfSample_2 : decode b_C_isSealOfSample 2 = .ok (.iload_n 2, 1) := by decide +kernel
theorem d_C_isSealOfSample_3 : decode b_C_isSealOfSample 3 = .ok (.aload_n 0, 1) := by decide +kernel
theorem d_C_isSealOfSample_4 : decode b_C_isSealOfSample 4 = .ok (.getfield 16, 3) := by decide +kernel
theorem d_C_isSealOfSample_7 : decode b_C_isSealOfSample 7 = .ok (.invokevirtual 80, 3) := by decide +kernel
theorem d_C_isSealOfSample_10 : decode b_C_isSealOfSample 10 = .ok (.if_icmp .ge 29, 3) := by decide +kernel
theorem d_C_isSealOfSample_13 : decode b_C_isSealOfSample 13 = .ok (.aload_n 0, 1) := by decide +kernel
theorem d_C_isSealOfSample_14 : decode b_C_isSealOfSample 14 = .ok (.getfield 16, 3) := by decide +kernel
theorem d_C_isSealOfSample_17 : decode b_C_isSealOfSample 17 = .ok (.iload_n 2, 1) := by decide +kernel
theorem d_C_isSealOfSample_18 : decode b_C_isSealOfSample 18 = .ok (.invokevirtual 105, 3) := by decide +kernel
theorem d_C_isSealOfSample_21 : decode b_C_isSealOfSample 21 = .ok (.checkcast 159, 3) := by decide +kernel
theorem d_C_isSealOfSample_24 : decode b_C_isSealOfSample 24 = .ok (.getfield 180, 3) := by decide +kernel
theorem d_C_isSealOfSample_27 : decode b_C_isSealOfSample 27 = .ok (.iload_n 1, 1) := by decide +kernel
theorem d_C_isSealOfSample_28 : decode b_C_isSealOfSample 28 = .ok (.if_icmp .ne 5, 3) := by decide +kernel
theorem d_C_isSealOfSample_31 : decode b_C_isSealOfSample 31 = .ok (.iconst 1, 1) := by decide +kernel
theorem d_C_isSealOfSample_32 : decode b_C_isSealOfSample 32 = .ok (.ireturn, 1) := by decide +kernel
theorem d_C_isSealOfSample_33 : decode b_C_isSealOfSample 33 = .ok (.iinc 2 1, 3) := by decide +kernel
theorem d_C_isSealOfSample_36 : decode b_C_isSealOfSample 36 = .ok (.goto (-34), 3) := by decide +kernel
theorem d_C_isSealOfSample_39 : decode b_C_isSealOfSample 39 = .ok (.iconst 0, 1) := by decide +kernel
theorem d_C_isSealOfSample_40 : decode b_C_isSealOfSample 40 = .ok (.ireturn, 1) := by decide +kernel
abbrev b_C_isInspection : ByteArray := prog_1_method_27_code
def y_C_isInspection : MethodName := ⟨R_C, "isInspection", "(I)Z"⟩
theorem d_C_isInspection_0 : decode b_C_isInspection 0 = .ok (.iload_n 1, 1) := by decide +kernel
theorem d_C_isInspection_1 : decode b_C_isInspection 1 = .ok (.iconst 0, 1) := by decide +kernel
theorem d_C_isInspection_2 : decode b_C_isInspection 2 = .ok (.aload_n 0, 1) := by decide +kernel
theorem d_C_isInspection_3 : decode b_C_isInspection 3 = .ok (.getfield 10, 3) := by decide +kernel
theorem d_C_isInspection_6 : decode b_C_isInspection 6 = .ok (.invokevirtual 80, 3) := by decide +kernel
theorem d_C_isInspection_9 : decode b_C_isInspection 9 = .ok (.iconst 1, 1) := by decide +kernel
theorem d_C_isInspection_10 : decode b_C_isInspection 10 = .ok (.isub, 1) := by decide +kernel
theorem d_C_isInspection_11 : decode b_C_isInspection 11 = .ok (.invokestatic 57, 3) := by decide +kernel
theorem d_C_isInspection_14 : decode b_C_isInspection 14 = .ok (.ireturn, 1) := by decide +kernel
abbrev b_C_isTimeToCome : ByteArray := prog_1_method_28_code
def y_C_isTimeToCome : MethodName := ⟨R_C, "isTimeToCome", "(I)Z"⟩
theorem d_C_isTimeToCome_0 : decode b_C_isTimeToCome 0 = .ok (.iload_n 1, 1) := by decide +kernel
theorem d_C_isTimeToCome_1 : decode b_C_isTimeToCome 1 = .ok (.aload_n 0, 1) := by decide +kernel
theorem d_C_isTimeToCome_2 : decode b_C_isTimeToCome 2 = .ok (.getfield 43, 3) := by decide +kernel
theorem d_C_isTimeToCome_5 : decode b_C_isTimeToCome 5 = .ok (.ldc_w 260, 3) := by decide +kernel
theorem d_C_isTimeToCome_8 : decode b_C_isTimeToCome 8 = .ok (.invokestatic 57, 3) := by decide +kernel
theorem d_C_isTimeToCome_11 : decode b_C_isTimeToCome 11 = .ok (.ireturn, 1) := by decide +kernel
abbrev b_C_mayDo : ByteArray := prog_1_method_29_code
def y_C_mayDo : MethodName := ⟨R_C, "mayDo", "(II)Z"⟩
theorem d_C_mayDo_0 : decode b_C_mayDo 0 = .ok (.iload_n 1, 1) := by decide +kernel
theorem d_C_mayDo_1 : decode b_C_mayDo 1 = .ok (.invokestatic 53, 3) := by decide +kernel
theorem d_C_mayDo_4 : decode b_C_mayDo 4 = .ok (.ifCond .eq 20, 3) := by decide +kernel
theorem d_C_mayDo_7 : decode b_C_mayDo 7 = .ok (.aload_n 0, 1) := by decide +kernel
theorem d_C_mayDo_8 : decode b_C_mayDo 8 = .ok (.getfield 19, 3) := by decide +kernel
theorem d_C_mayDo_11 : decode b_C_mayDo 11 = .ok (.iload_n 1, 1) := by decide +kernel
theorem d_C_mayDo_12 : decode b_C_mayDo 12 = .ok (.iaload, 1) := by decide +kernel
theorem d_C_mayDo_13 : decode b_C_mayDo 13 = .ok (.iload_n 2, 1) := by decide +kernel
theorem d_C_mayDo_14 : decode b_C_mayDo 14 = .ok (.invokestatic 187, 3) := by decide +kernel
theorem d_C_mayDo_17 : decode b_C_mayDo 17 = .ok (.ifCond .eq 7, 3) := by decide +kernel
theorem d_C_mayDo_20 : decode b_C_mayDo 20 = .ok (.iconst 1, 1) := by decide +kernel
theorem d_C_mayDo_21 : decode b_C_mayDo 21 = .ok (.goto 4, 3) := by decide +kernel
theorem d_C_mayDo_24 : decode b_C_mayDo 24 = .ok (.iconst 0, 1) := by decide +kernel
theorem d_C_mayDo_25 : decode b_C_mayDo 25 = .ok (.ireturn, 1) := by decide +kernel
abbrev b_C_isDeclaration : ByteArray := prog_1_method_30_code
def y_C_isDeclaration : MethodName := ⟨R_C, "isDeclaration", "(I)Z"⟩
theorem d_C_isDeclaration_0 : decode b_C_isDeclaration 0 = .ok (.iload_n 0, 1) := by decide +kernel
theorem d_C_isDeclaration_1 : decode b_C_isDeclaration 1 = .ok (.iconst 0, 1) := by decide +kernel
theorem d_C_isDeclaration_2 : decode b_C_isDeclaration 2 = .ok (.bipush 9, 2) := by decide +kernel
theorem d_C_isDeclaration_4 : decode b_C_isDeclaration 4 = .ok (.invokestatic 57, 3) := by decide +kernel
theorem d_C_isDeclaration_7 : decode b_C_isDeclaration 7 = .ok (.ireturn, 1) := by decide +kernel
abbrev b_C_isPerson : ByteArray := prog_1_method_31_code
def y_C_isPerson : MethodName := ⟨R_C, "isPerson", "(I)Z"⟩
theorem d_C_isPerson_0 : decode b_C_isPerson 0 = .ok (.iload_n 0, 1) := by decide +kernel
theorem d_C_isPerson_1 : decode b_C_isPerson 1 = .ok (.iconst 0, 1) := by decide +kernel
theorem d_C_isPerson_2 : decode b_C_isPerson 2 = .ok (.bipush 9, 2) := by decide +kernel
theorem d_C_isPerson_4 : decode b_C_isPerson 4 = .ok (.invokestatic 57, 3) := by decide +kernel
theorem d_C_isPerson_7 : decode b_C_isPerson 7 = .ok (.ireturn, 1) := by decide +kernel
abbrev b_C_isMeasure : ByteArray := prog_1_method_32_code
def y_C_isMeasure : MethodName := ⟨R_C, "isMeasure", "(I)Z"⟩
theorem d_C_isMeasure_0 : decode b_C_isMeasure 0 = .ok (.iload_n 0, 1) := by decide +kernel
theorem d_C_isMeasure_1 : decode b_C_isMeasure 1 = .ok (.iconst 0, 1) := by decide +kernel
theorem d_C_isMeasure_2 : decode b_C_isMeasure 2 = .ok (.iconst 3, 1) := by decide +kernel
theorem d_C_isMeasure_3 : decode b_C_isMeasure 3 = .ok (.invokestatic 57, 3) := by decide +kernel
theorem d_C_isMeasure_6 : decode b_C_isMeasure 6 = .ok (.ireturn, 1) := by decide +kernel
abbrev b_C_isSeal : ByteArray := prog_1_method_33_code
def y_C_isSeal : MethodName := ⟨R_C, "isSeal", "(I)Z"⟩
theorem d_C_isSeal_0 : decode b_C_isSeal 0 = .ok (.iload_n 0, 1) := by decide +kernel
theorem d_C_isSeal_1 : decode b_C_isSeal 1 = .ok (.iconst 1, 1) := by decide +kernel
theorem d_C_isSeal_2 : decode b_C_isSeal 2 = .ok (.ldc_w 261, 3) := by decide +kernel
theorem d_C_isSeal_5 : decode b_C_isSeal 5 = .ok (.invokestatic 57, 3) := by decide +kernel
theorem d_C_isSeal_8 : decode b_C_isSeal 8 = .ok (.ireturn, 1) := by decide +kernel
abbrev b_C_isValue : ByteArray := prog_1_method_34_code
def y_C_isValue : MethodName := ⟨R_C, "isValue", "(I)Z"⟩
theorem d_C_isValue_0 : decode b_C_isValue 0 = .ok (.iload_n 0, 1) := by decide +kernel
theorem d_C_isValue_1 : decode b_C_isValue 1 = .ok (.iconst 0, 1) := by decide +kernel
theorem d_C_isValue_2 : decode b_C_isValue 2 = .ok (.ldc_w 261, 3) := by decide +kernel
theorem d_C_isValue_5 : decode b_C_isValue 5 = .ok (.invokestatic 57, 3) := by decide +kernel
theorem d_C_isValue_8 : decode b_C_isValue 8 = .ok (.ireturn, 1) := by decide +kernel
abbrev b_C_isWithin : ByteArray := prog_1_method_35_code
def y_C_isWithin : MethodName := ⟨R_C, "isWithin", "(III)Z"⟩
theorem d_C_isWithin_0 : decode b_C_isWithin 0 = .ok (.iload_n 1, 1) := by decide +kernel
theorem d_C_isWithin_1 : decode b_C_isWithin 1 = .ok (.iload_n 0, 1) := by decide +kernel
theorem d_C_isWithin_2 : decode b_C_isWithin 2 = .ok (.if_icmp .gt 12, 3) := by decide +kernel
theorem d_C_isWithin_5 : decode b_C_isWithin 5 = .ok (.iload_n 0, 1) := by decide +kernel
theorem d_C_isWithin_6 : decode b_C_isWithin 6 = .ok (.iload_n 2, 1) := by decide +kernel
theorem d_C_isWithin_7 : decode b_C_isWithin 7 = .ok (.if_icmp .gt 7, 3) := by decide +kernel
theorem d_C_isWithin_10 : decode b_C_isWithin 10 = .ok (.iconst 1, 1) := by decide +kernel
theorem d_C_isWithin_11 : decode b_C_isWithin 11 = .ok (.goto 4, 3) := by decide +kernel
theorem d_C_isWithin_14 : decode b_C_isWithin 14 = .ok (.iconst 0, 1) := by decide +kernel
theorem d_C_isWithin_15 : decode b_C_isWithin 15 = .ok (.ireturn, 1) := by decide +kernel
abbrev b_C_hasBit : ByteArray := prog_1_method_36_code
def y_C_hasBit : MethodName := ⟨R_C, "hasBit", "(II)Z"⟩
theorem d_C_hasBit_0 : decode b_C_hasBit 0 = .ok (.iload_n 0, 1) := by decide +kernel
theorem d_C_hasBit_1 : decode b_C_hasBit 1 = .ok (.iload_n 1, 1) := by decide +kernel
theorem d_C_hasBit_2 : decode b_C_hasBit 2 = .ok (.ishr, 1) := by decide +kernel
theorem d_C_hasBit_3 : decode b_C_hasBit 3 = .ok (.iconst 1, 1) := by decide +kernel
theorem d_C_hasBit_4 : decode b_C_hasBit 4 = .ok (.iand, 1) := by decide +kernel
theorem d_C_hasBit_5 : decode b_C_hasBit 5 = .ok (.iconst 1, 1) := by decide +kernel
theorem d_C_hasBit_6 : decode b_C_hasBit 6 = .ok (.if_icmp .ne 7, 3) := by decide +kernel
theorem d_C_hasBit_9 : decode b_C_hasBit 9 = .ok (.iconst 1, 1) := by decide +kernel
theorem d_C_hasBit_10 : decode b_C_hasBit 10 = .ok (.goto 4, 3) := by decide +kernel
theorem d_C_hasBit_13 : decode b_C_hasBit 13 = .ok (.iconst 0, 1) := by decide +kernel
theorem d_C_hasBit_14 : decode b_C_hasBit 14 = .ok (.ireturn, 1) := by decide +kernel
end
section
abbrev b_M_init : ByteArray := prog_5_method_1_code
def y_M_init : MethodName := ⟨R_M, "<init>", "()V"⟩
theorem d_M_init_0 : decode b_M_init 0 = .ok (.aload_n 0, 1) := by decide +kernel
theorem d_M_init_1 : decode b_M_init 1 = .ok (.invokespecial 1, 3) := by decide +kernel
theorem d_M_init_4 : decode b_M_init 4 = .ok (.aload_n 0, 1) := by decide +kernel
theorem d_M_init_5 : decode b_M_init 5 = .ok (.bipush 60, 2) := by decide +kernel
theorem d_M_init_7 : decode b_M_init 7 = .ok (.newarray .boolean, 2) := by decide +kernel
theorem d_M_init_9 : decode b_M_init 9 = .ok (.putfield 7, 3) := by decide +kernel
theorem d_M_init_12 : decode b_M_init 12 = .ok (.aload_n 0, 1) := by decide +kernel
theorem d_M_init_13 : decode b_M_init 13 = .ok (.bipush 30, 2) := by decide +kernel
theorem d_M_init_15 : decode b_M_init 15 = .ok (.newarray .int, 2) := by decide +kernel
theorem d_M_init_17 : decode b_M_init 17 = .ok (.putfield 13, 3) := by decide +kernel
theorem d_M_init_20 : decode b_M_init 20 = .ok (.aload_n 0, 1) := by decide +kernel
theorem d_M_init_21 : decode b_M_init 21 = .ok (.bipush 30, 2) := by decide +kernel
theorem d_M_init_23 : decode b_M_init 23 = .ok (.newarray .int, 2) := by decide +kernel
theorem d_M_init_25 : decode b_M_init 25 = .ok (.putfield 17, 3) := by decide +kernel
theorem d_M_init_28 : decode b_M_init 28 = .ok (.aload_n 0, 1) := by decide +kernel
theorem d_M_init_29 : decode b_M_init 29 = .ok (.bipush 30, 2) := by decide +kernel
theorem d_M_init_31 : decode b_M_init 31 = .ok (.newarray .int, 2) := by decide +kernel
theorem d_M_init_33 : decode b_M_init 33 = .ok (.putfield 20, 3) := by decide +kernel
theorem d_M_init_36 : decode b_M_init 36 = .ok (.aload_n 0, 1) := by decide +kernel
theorem d_M_init_37 : decode b_M_init 37 = .ok (.bipush 30, 2) := by decide +kernel
theorem d_M_init_39 : decode b_M_init 39 = .ok (.newarray .int, 2) := by decide +kernel
theorem d_M_init_41 : decode b_M_init 41 = .ok (.putfield 23, 3) := by decide +kernel
theorem d_M_init_44 : decode b_M_init 44 = .ok (.aload_n 0, 1) := by decide +kernel
theorem d_M_init_45 : decode b_M_init 45 = .ok (.bipush 30, 2) := by decide +kernel
theorem d_M_init_47 : decode b_M_init 47 = .ok (.newarray .int, 2) := by decide +kernel
theorem d_M_init_49 : decode b_M_init 49 = .ok (.putfield 26, 3) := by decide +kernel
theorem d_M_init_52 : decode b_M_init 52 = .ok (.aload_n 0, 1) := by decide +kernel
theorem d_M_init_53 : decode b_M_init 53 = .ok (.bipush 30, 2) := by decide +kernel
theorem d_M_init_55 : decode b_M_init 55 = .ok (.newarray .int, 2) := by decide +kernel
theorem d_M_init_57 : decode b_M_init 57 = .ok (.putfield 29, 3) := by decide +kernel
theorem d_M_init_60 : decode b_M_init 60 = .ok (.aload_n 0, 1) := by decide +kernel
theorem d_M_init_61 : decode b_M_init 61 = .ok (.bipush 30, 2) := by decide +kernel
theorem d_M_init_63 : decode b_M_init 63 = .ok (.newarray .int, 2) := by decide +kernel
theorem d_M_init_65 : decode b_M_init 65 = .ok (.putfield 32, 3) := by decide +kernel
theorem d_M_init_68 : decode b_M_init 68 = .ok (.aload_n 0, 1) := by decide +kernel
theorem d_M_init_69 : decode b_M_init 69 = .ok (.bipush 30, 2) := by decide +kernel
theorem d_M_init_71 : decode b_M_init 71 = .ok (.newarray .int, 2) := by decide +kernel
theorem d_M_init_73 : decode b_M_init 73 = .ok (.putfield 35, 3) := by decide +kernel
theorem d_M_init_76 : decode b_M_init 76 = .ok (.aload_n 0, 1) := by decide +kernel
theorem d_M_init_77 : decode b_M_init 77 = .ok (.bipush 30, 2) := by decide +kernel
theorem d_M_init_79 : decode b_M_init 79 = .ok (.newarray .int, 2) := by decide +kernel
theorem d_M_init_81 : decode b_M_init 81 = .ok (.putfield 38, 3) := by decide +kernel
theorem d_M_init_84 : decode b_M_init 84 = .ok (.aload_n 0, 1) := by decide +kernel
theorem d_M_init_85 : decode b_M_init 85 = .ok (.bipush 30, 2) := by decide +kernel
theorem d_M_init_87 : decode b_M_init 87 = .ok (.newarray .int, 2) := by decide +kernel
theorem d_M_init_89 : decode b_M_init 89 = .ok (.putfield 41, 3) := by decide +kernel
theorem d_M_init_92 : decode b_M_init 92 = .ok (.aload_n 0, 1) := by decide +kernel
theorem d_M_init_93 : decode b_M_init 93 = .ok (.bipush 10, 2) := by decide +kernel
theorem d_M_init_95 : decode b_M_init 95 = .ok (.newarray .int, 2) := by decide +kernel
theorem d_M_init_97 : decode b_M_init 97 = .ok (.putfield 44, 3) := by decide +kernel
theorem d_M_init_100 : decode b_M_init 100 = .ok (.aload_n 0, 1) := by decide +kernel
theorem d_M_init_101 : decode b_M_init 101 = .ok (.bipush 10, 2) := by decide +kernel
theorem d_M_init_103 : decode b_M_init 103 = .ok (.newarray .boolean, 2) := by decide +kernel
theorem d_M_init_105 : decode b_M_init 105 = .ok (.putfield 47, 3) := by decide +kernel
theorem d_M_init_108 : decode b_M_init 108 = .ok (.aload_n 0, 1) := by decide +kernel
theorem d_M_init_109 : decode b_M_init 109 = .ok (.bipush 10, 2) := by decide +kernel
theorem d_M_init_111 : decode b_M_init 111 = .ok (.newarray .int, 2) := by decide +kernel
theorem d_M_init_113 : decode b_M_init 113 = .ok (.putfield 50, 3) := by decide +kernel
theorem d_M_init_116 : decode b_M_init 116 = .ok (.aload_n 0, 1) := by decide +kernel
theorem d_M_init_117 : decode b_M_init 117 = .ok (.bipush 40, 2) := by decide +kernel
theorem d_M_init_119 : decode b_M_init 119 = .ok (.newarray .int, 2) := by decide +kernel
theorem d_M_init_121 : decode b_M_init 121 = .ok (.putfield 53, 3) := by decide +kernel
theorem d_M_init_124 : decode b_M_init 124 = .ok (.aload_n 0, 1) := by decide +kernel
theorem d_M_init_125 : decode b_M_init 125 = .ok (.bipush 40, 2) := by decide +kernel
theorem d_M_init_127 : decode b_M_init 127 = .ok (.newarray .int, 2) := by decide +kernel
theorem d_M_init_129 : decode b_M_init 129 = .ok (.putfield 56, 3) := by decide +kernel
theorem d_M_init_132 : decode b_M_init 132 = .ok (.aload_n 0, 1) := by decide +kernel
theorem d_M_init_133 : decode b_M_init 133 = .ok (.bipush 40, 2) := by decide +kernel
theorem d_M_init_135 : decode b_M_init 135 = .ok (.newarray .int, 2) := by decide +kernel
theorem d_M_init_137 : decode b_M_init 137 = .ok (.putfield 59, 3) := by decide +kernel
theorem d_M_init_140 : decode b_M_init 140 = .ok (.aload_n 0, 1) := by decide +kernel
theorem d_M_init_141 : decode b_M_init 141 = .ok (.sipush 160, 3) := by decide +kernel
theorem d_M_init_144 : decode b_M_init 144 = .ok (.newarray .int, 2) := by decide +kernel
theorem d_M_init_146 : decode b_M_init 146 = .ok (.putfield 62, 3) := by decide +kernel
theorem d_M_init_149 : decode b_M_init 149 = .ok (.aload_n 0, 1) := by decide +kernel
theorem d_M_init_150 : decode b_M_init 150 = .ok (.sipush 160, 3) := by decide +kernel
theorem d_M_init_153 : decode b_M_init 153 = .ok (.newarray .boolean, 2) := by decide +kernel
theorem d_M_init_155 : decode b_M_init 155 = .ok (.putfield 65, 3) := by decide +kernel
theorem d_M_init_158 : decode b_M_init 158 = .ok (.aload_n 0, 1) := by decide +kernel
theorem d_M_init_159 : decode b_M_init 159 = .ok (.iconst 4, 1) := by decide +kernel
theorem d_M_init_160 : decode b_M_init 160 = .ok (.newarray .int, 2) := by decide +kernel
theorem d_M_init_162 : decode b_M_init 162 = .ok (.putfield 68, 3) := by decide +kernel
theorem d_M_init_165 : decode b_M_init 165 = .ok (.aload_n 0, 1) := by decide +kernel
theorem d_M_init_166 : decode b_M_init 166 = .ok (.iconst 4, 1) := by decide +kernel
theorem d_M_init_167 : decode b_M_init 167 = .ok (.newarray .int, 2) := by decide +kernel
theorem d_M_init_169 : decode b_M_init 169 = .ok (.putfield 71, 3) := by decide +kernel
theorem d_M_init_172 : decode b_M_init 172 = .ok (.iconst 0, 1) := by decide +kernel
theorem d_M_init_173 : decode b_M_init 173 = .ok (.istore_n 1, 1) := by decide +kernel
theorem d_M_init_174 : decode b_M_init 174 = .ok (.iload_n 1, 1) := by decide +kernel
theorem d_M_init_175 : decode b_M_init 175 = .ok (.bipush 40, 2) := by decide +kernel
theorem d_M_init_177 : decode b_M_init 177 = .ok (.if_icmp .ge 16, 3) := by decide +kernel
theorem d_M_init_180 : decode b_M_init 180 = .ok (.aload_n 0, 1) := by decide +kernel
theorem d_M_init_181 : decode b_M_init 181 = .ok (.getfield 53, 3) := by decide +kernel
theorem d_M_init_184 : decode b_M_init 184 = .ok (.iload_n 1, 1) := by decide +kernel
theorem d_M_init_185 : decode b_M_init 185 = .ok (.iconst (-1), 1) := by decide +kernel
theorem d_M_init_186 : decode b_M_init 186 = .ok (.iastore, 1) := by decide +kernel
theorem d_M_init_187 : decode b_M_init 187 = .ok (.iinc 1 1, 3) := by decide +kernel
theorem d_M_init_190 : decode b_M_init 190 = .ok (.goto (-16), 3) := by decide +kernel
theorem d_M_init_193 : decode b_M_init 193 = .ok (.iconst 0, 1) := by decide +kernel
theorem d_M_init_194 : decode b_M_init 194 = .ok (.istore_n 1, 1) := by decide +kernel
theorem d_M_init_195 : decode b_M_init 195 = .ok (.iload_n 1, 1) := by decide +kernel
theorem d_M_init_196 : decode b_M_init 196 = .ok (.sipush 160, 3) := by decide +kernel
theorem d_M_init_199 : decode b_M_init 199 = .ok (.if_icmp .ge 16, 3) := by decide +kernel
theorem d_M_init_202 : decode b_M_init 202 = .ok (.aload_n 0, 1) := by decide +kernel
theorem d_M_init_203 : decode b_M_init 203 = .ok (.getfield 62, 3) := by decide +kernel
theorem d_M_init_206 : decode b_M_init 206 = .ok (.iload_n 1, 1) := by decide +kernel
theorem d_M_init_207 : decode b_M_init 207 = .ok (.iconst (-1), 1) := by decide +kernel
theorem d_M_init_208 : decode b_M_init 208 = .ok (.iastore, 1) := by decide +kernel
theorem d_M_init_209 : decode b_M_init 209 = .ok (.iinc 1 1, 3) := by decide +kernel
theorem d_M_init_212 : decode b_M_init 212 = .ok (.goto (-17), 3) := by decide +kernel
theorem d_M_init_215 : decode b_M_init 215 = .ok (.return_, 1) := by decide +kernel
abbrev b_M_thrown : ByteArray := prog_5_method_2_code
def y_M_thrown : MethodName := ⟨R_M, "thrown", "()I"⟩
theorem d_M_thrown_0 : decode b_M_thrown 0 = .ok (.aload_n 0, 1) := by decide +kernel
theorem d_M_thrown_1 : decode b_M_thrown 1 = .ok (.getfield 74, 3) := by decide +kernel
theorem d_M_thrown_4 : decode b_M_thrown 4 = .ok (.ireturn, 1) := by decide +kernel
abbrev b_M_in : ByteArray := prog_5_method_3_code
def y_M_in : MethodName := ⟨R_M, "in", "(III)Z"⟩
theorem d_M_in_0 : decode b_M_in 0 = .ok (.iload_n 0, 1) := by decide +kernel
theorem d_M_in_1 : decode b_M_in 1 = .ok (.iload_n 1, 1) := by decide +kernel
theorem d_M_in_2 : decode b_M_in 2 = .ok (.if_icmp .lt 12, 3) := by decide +kernel
theorem d_M_in_5 : decode b_M_in 5 = .ok (.iload_n 0, 1) := by decide +kernel
theorem d_M_in_6 : decode b_M_in 6 = .ok (.iload_n 2, 1) := by decide +kernel
theorem d_M_in_7 : decode b_M_in 7 = .ok (.if_icmp .gt 7, 3) := by decide +kernel
theorem d_M_in_10 : decode b_M_in 10 = .ok (.iconst 1, 1) := by decide +kernel
theorem d_M_in_11 : decode b_M_in 11 = .ok (.goto 4, 3) := by decide +kernel
theorem d_M_in_14 : decode b_M_in 14 = .ok (.iconst 0, 1) := by decide +kernel
theorem d_M_in_15 : decode b_M_in 15 = .ok (.ireturn, 1) := by decide +kernel
abbrev b_M_isTen : ByteArray := prog_5_method_4_code
def y_M_isTen : MethodName := ⟨R_M, "isTen", "(I)Z"⟩
theorem d_M_isTen_0 : decode b_M_isTen 0 = .ok (.iload_n 0, 1) := by decide +kernel
theorem d_M_isTen_1 : decode b_M_isTen 1 = .ok (.ifCond .lt 13, 3) := by decide +kernel
theorem d_M_isTen_4 : decode b_M_isTen 4 = .ok (.iload_n 0, 1) := by decide +kernel
theorem d_M_isTen_5 : decode b_M_isTen 5 = .ok (.bipush 10, 2) := by decide +kernel
theorem d_M_isTen_7 : decode b_M_isTen 7 = .ok (.if_icmp .ge 7, 3) := by decide +kernel
theorem d_M_isTen_10 : decode b_M_isTen 10 = .ok (.iconst 1, 1) := by decide +kernel
theorem d_M_isTen_11 : decode b_M_isTen 11 = .ok (.goto 4, 3) := by decide +kernel
theorem d_M_isTen_14 : decode b_M_isTen 14 = .ok (.iconst 0, 1) := by decide +kernel
theorem d_M_isTen_15 : decode b_M_isTen 15 = .ok (.ireturn, 1) := by decide +kernel
abbrev b_M_isOne : ByteArray := prog_5_method_5_code
def y_M_isOne : MethodName := ⟨R_M, "isOne", "(I)Z"⟩
theorem d_M_isOne_0 : decode b_M_isOne 0 = .ok (.iload_n 1, 1) := by decide +kernel
theorem d_M_isOne_1 : decode b_M_isOne 1 = .ok (.ifCond .lt 15, 3) := by decide +kernel
theorem d_M_isOne_4 : decode b_M_isOne 4 = .ok (.iload_n 1, 1) := by decide +kernel
theorem d_M_isOne_5 : decode b_M_isOne 5 = .ok (.aload_n 0, 1) := by decide +kernel
theorem d_M_isOne_6 : decode b_M_isOne 6 = .ok (.getfield 78, 3) := by decide +kernel
theorem d_M_isOne_9 : decode b_M_isOne 9 = .ok (.if_icmp .ge 7, 3) := by decide +kernel
theorem d_M_isOne_12 : decode b_M_isOne 12 = .ok (.iconst 1, 1) := by decide +kernel
theorem d_M_isOne_13 : decode b_M_isOne 13 = .ok (.goto 4, 3) := by decide +kernel
theorem d_M_isOne_16 : decode b_M_isOne 16 = .ok (.iconst 0, 1) := by decide +kernel
theorem d_M_isOne_17 : decode b_M_isOne 17 = .ok (.ireturn, 1) := by decide +kernel
abbrev b_M_isTime : ByteArray := prog_5_method_6_code
def y_M_isTime : MethodName := ⟨R_M, "isTime", "(I)Z"⟩
theorem d_M_isTime_0 : decode b_M_isTime 0 = .ok (.iload_n 1, 1) := by decide +kernel
theorem d_M_isTime_1 : decode b_M_isTime 1 = .ok (.aload_n 0, 1) := by decide +kernel
theorem d_M_isTime_2 : decode b_M_isTime 2 = .ok (.getfield 81, 3) := by decide +kernel
theorem d_M_isTime_5 : decode b_M_isTime 5 = .ok (.if_icmp .lt 13, 3) := by decide +kernel
theorem d_M_isTime_8 : decode b_M_isTime 8 = .ok (.iload_n 1, 1) := by decide +kernel
theorem d_M_isTime_9 : decode b_M_isTime 9 = .ok (.ldc 84, 2) := by decide +kernel
theorem d_M_isTime_11 : decode b_M_isTime 11 = .ok (.if_icmp .gt 7, 3) := by decide +kernel
theorem d_M_isTime_14 : decode b_M_isTime 14 = .ok (.iconst 1, 1) := by decide +kernel
theorem d_M_isTime_15 : decode b_M_isTime 15 = .ok (.goto 4, 3) := by decide +kernel
theorem d_M_isTime_18 : decode b_M_isTime 18 = .ok (.iconst 0, 1) := by decide +kernel
theorem d_M_isTime_19 : decode b_M_isTime 19 = .ok (.ireturn, 1) := by decide +kernel
abbrev b_M_may : ByteArray := prog_5_method_7_code
def y_M_may : MethodName := ⟨R_M, "may", "(II)Z"⟩
theorem d_M_may_0 : decode b_M_may 0 = .ok (.aload_n 0, 1) := by decide +kernel
theorem d_M_may_1 : decode b_M_may 1 = .ok (.getfield 7, 3) := by decide +kernel
theorem d_M_may_4 : decode b_M_may 4 = .ok (.bipush 6, 2) := by decide +kernel
theorem d_M_may_6 : decode b_M_may 6 = .ok (.iload_n 1, 1) := by decide +kernel
theorem d_M_may_7 : decode b_M_may 7 = .ok (.imul, 1) := by decide +kernel
theorem d_M_may_8 : decode b_M_may 8 = .ok (.iload_n 2, 1) := by decide +kernel
theorem d_M_may_9 : decode b_M_may 9 = .ok (.iadd, 1) := by decide +kernel
theorem d_M_may_10 : decode b_M_may 10 = .ok (.baload, 1) := by decide +kernel
theorem d_M_may_11 : decode b_M_may 11 = .ok (.ireturn, 1) := by decide +kernel
abbrev b_M_right : ByteArray := prog_5_method_8_code
def y_M_right : MethodName := ⟨R_M, "right", "(IIZ)Z"⟩
theorem d_M_right_0 : decode b_M_right 0 = .ok (.aload_n 0, 1) := by decide +kernel
theorem d_M_right_1 : decode b_M_right 1 = .ok (.iconst 0, 1) := by decide +kernel
theorem d_M_right_2 : decode b_M_right 2 = .ok (.putfield 74, 3) := by decide +kernel
theorem d_M_right_5 : decode b_M_right 5 = .ok (.iload_n 1, 1) := by decide +kernel
theorem d_M_right_6 : decode b_M_right 6 = .ok (.invokestatic 85, 3) := by decide +kernel
theorem d_M_right_9 : decode b_M_right 9 = .ok (.ifCond .eq 22, 3) := by decide +kernel
theorem d_M_right_12 : decode b_M_right 12 = .ok (.iload_n 2, 1) := by decide +kernel
theorem d_M_right_13 : decode b_M_right 13 = .ok (.iconst 0, 1) := by decide +kernel
theorem d_M_right_14 : decode b_M_right 14 = .ok (.iconst 5, 1) := by decide +kernel
theorem d_M_right_15 : decode b_M_right 15 = .ok (.invokestatic 89, 3) := by decide +kernel
theorem d_M_right_18 : decode b_M_right 18 = .ok (.ifCond .eq 13, 3) := by decide +kernel
theorem d_M_right_21 : decode b_M_right 21 = .ok (.aload_n 0, 1) := by decide +kernel
theorem d_M_right_22 : decode b_M_right 22 = .ok (.iload_n 1, 1) := by decide +kernel
theorem d_M_right_23 : decode b_M_right 23 = .ok (.iload_n 2, 1) := by decide +kernel
theorem d_M_right_24 : decode b_M_right 24 = .ok (.invokevirtual 93, 3) := by decide +kernel
theorem d_M_right_27 : decode b_M_right 27 = .ok (.iload_n 3, 1) := by decide +kernel
theorem d_M_right_28 : decode b_M_right 28 = .ok (.if_icmp .ne 5, 3) := by decide +kernel
theorem d_M_right_31 : decode b_M_right 31 = .ok (.iconst 0, 1) := by decide +kernel
theorem d_M_right_32 : decode b_M_right 32 = .ok (.ireturn, 1) := by decide +kernel
theorem d_M_right_33 : decode b_M_right 33 = .ok (.aload_n 0, 1) := by decide +kernel
theorem d_M_right_34 : decode b_M_right 34 = .ok (.getfield 7, 3) := by decide +kernel
theorem d_M_right_37 : decode b_M_right 37 = .ok (.bipush 6, 2) := by decide +kernel
theorem d_M_right_39 : decode b_M_right 39 = .ok (.iload_n 1, 1) := by decide +kernel
theorem d_M_right_40 : decode b_M_right 40 = .ok (.imul, 1) := by decide +kernel
theorem d_M_right_41 : decode b_M_right 41 = .ok (.iload_n 2, 1) := by decide +kernel
theorem d_M_right_42 : decode b_M_right 42 = .ok (.iadd, 1) := by decide +kernel
theorem d_M_right_43 : decode b_M_right 43 = .ok (.iload_n 3, 1) := by decide +kernel
theorem d_M_right_44 : decode b_M_right 44 = .ok (.bastore, 1) := by decide +kernel
theorem d_M_right_45 : decode b_M_right 45 = .ok (.iconst 1, 1) := by decide +kernel
theorem d_M_right_46 : decode b_M_right 46 = .ok (.ireturn, 1) := by decide +kernel
abbrev b_M_inspection : ByteArray := prog_5_method_9_code
def y_M_inspection : MethodName := ⟨R_M, "inspection", "(III)I"⟩
theorem d_M_inspection_0 : decode b_M_inspection 0 = .ok (.aload_n 0, 1) := by decide +kernel
theorem d_M_inspection_1 : decode b_M_inspection 1 = .ok (.iload_n 1, 1) := by decide +kernel
theorem d_M_inspection_2 : decode b_M_inspection 2 = .ok (.invokestatic 85, 3) := by decide +kernel
theorem d_M_inspection_5 : decode b_M_inspection 5 = .ok (.ifCond .eq 20, 3) := by decide +kernel
theorem d_M_inspection_8 : decode b_M_inspection 8 = .ok (.iload_n 2, 1) := by decide +kernel
theorem d_M_inspection_9 : decode b_M_inspection 9 = .ok (.iconst 0, 1) := by decide +kernel
theorem d_M_inspection_10 : decode b_M_inspection 10 = .ok (.iconst 4, 1) := by decide +kernel
theorem d_M_inspection_11 : decode b_M_inspection 11 = .ok (.invokestatic 89, 3) := by decide +kernel
theorem d_M_inspection_14 : decode b_M_inspection 14 = .ok (.ifCond .eq 11, 3) := by decide +kernel
theorem d_M_inspection_17 : decode b_M_inspection 17 = .ok (.aload_n 0, 1) := by decide +kernel
theorem d_M_inspection_18 : decode b_M_inspection 18 = .ok (.iload_n 3, 1) := by decide +kernel
theorem d_M_inspection_19 : decode b_M_inspection 19 = .ok (.invokevirtual 97, 3) := by decide +kernel
theorem d_M_inspection_22 : decode b_M_inspection 22 = .ok (.ifCond .ne 7, 3) := by decide +kernel
theorem d_M_inspection_25 : decode b_M_inspection 25 = .ok (.iconst 1, 1) := by decide +kernel
theorem d_M_inspection_26 : decode b_M_inspection 26 = .ok (.goto 17, 3) := by decide +kernel
theorem d_M_inspection_29 : decode b_M_inspection 29 = .ok (.aload_n 0, 1) := by decide +kernel
theorem d_M_inspection_30 : decode b_M_inspection 30 = .ok (.getfield 78, 3) := by decide +kernel
theorem d_M_inspection_33 : decode b_M_inspection 33 = .ok (.bipush 30, 2) := by decide +kernel
theorem d_M_inspection_35 : decode b_M_inspection 35 = .ok (.if_icmp .ne 7, 3) := by decide +kernel
theorem d_M_inspection_38 : decode b_M_inspection 38 = .ok (.iconst 2, 1) := by decide +kernel
theorem d_M_inspection_39 : decode b_M_inspection 39 = .ok (.goto 4, 3) := by decide +kernel
theorem d_M_inspection_42 : decode b_M_inspection 42 = .ok (.iconst 0, 1) := by decide +kernel
theorem d_M_inspection_43 : decode b_M_inspection 43 = .ok (.putfield 74, 3) := by decide +kernel
theorem d_M_inspection_46 : decode b_M_inspection 46 = .ok (.aload_n 0, 1) := by decide +kernel
theorem d_M_inspection_47 : decode b_M_inspection 47 = .ok (.getfield 74, 3) := by decide +kernel
theorem d_M_inspection_50 : decode b_M_inspection 50 = .ok (.ifCond .le 5, 3) := by decide +kernel
theorem d_M_inspection_53 : decode b_M_inspection 53 = .ok (.iconst 0, 1) := by decide +kernel
theorem d_M_inspection_54 : decode b_M_inspection 54 = .ok (.ireturn, 1) := by decide +kernel
theorem d_M_inspection_55 : decode b_M_inspection 55 = .ok (.aload_n 0, 1) := by decide +kernel
theorem d_M_inspection_56 : decode b_M_inspection 56 = .ok (.getfield 13, 3) := by decide +kernel
theorem d_M_inspection_59 : decode b_M_inspection 59 = .ok (.aload_n 0, 1) := by decide +kernel
theorem d_M_inspection_60 : decode b_M_inspection 60 = .ok (.getfield 78, 3) := by decide +kernel
theorem d_M_inspection_63 : decode b_M_inspection 63 = .ok (.iload_n 1, 1) := by decide +kernel
theorem d_M_inspection_64 : decode b_M_inspection 64 = .ok (.iastore, 1) := by decide +kernel
theorem d_M_inspection_65 : decode b_M_inspection 65 = .ok (.aload_n 0, 1) := by decide +kernel
theorem d_M_inspection_66 : decode b_M_inspection 66 = .ok (.getfield 17, 3) := by decide +kernel
theorem d_M_inspection_69 : decode b_M_inspection 69 = .ok (.aload_n 0, 1) := by decide +kernel
theorem d_M_inspection_70 : decode b_M_inspection 70 = .ok (.getfield 78, 3) := by decide +kernel
theorem d_M_inspection_73 : decode b_M_inspection 73 = .ok (.iload_n 2, 1) := by decide +kernel
theorem d_M_inspection_74 : decode b_M_inspection 74 = .ok (.iastore, 1) := by decide +kernel
theorem d_M_inspection_75 : decode b_M_inspection 75 = .ok (.aload_n 0, 1) := by decide +kernel
theorem d_M_inspection_76 : decode b_M_inspection 76 = .ok (.getfield 20, 3) := by decide +kernel
theorem d_M_inspection_79 : decode b_M_inspection 79 = .ok (.aload_n 0, 1) := by decide +kernel
theorem d_M_inspection_80 : decode b_M_inspection 80 = .ok (.getfield 78, 3) := by decide +kernel
theorem d_M_inspection_83 : decode b_M_inspection 83 = .ok (.iload_n 3, 1) := by decide +kernel
theorem d_M_inspection_84 : decode b_M_inspection 84 = .ok (.iastore, 1) := by decide +kernel
theorem d_M_inspection_85 : decode b_M_inspection 85 = .ok (.aload_n 0, 1) := by decide +kernel
theorem d_M_inspection_86 : decode b_M_inspection 86 = .ok (.getfield 38, 3) := by decide +kernel
theorem d_M_inspection_89 : decode b_M_inspection 89 = .ok (.aload_n 0, 1) := by decide +kernel
theorem d_M_inspection_90 : decode b_M_inspection 90 = .ok (.getfield 78, 3) := by decide +kernel
theorem d_M_inspection_93 : decode b_M_inspection 93 = .ok (.iconst (-1), 1) := by decide +kernel
theorem d_M_inspection_94 : decode b_M_inspection 94 = .ok (.iastore, 1) := by decide +kernel
theorem d_M_inspection_95 : decode b_M_inspection 95 = .ok (.aload_n 0, 1) := by decide +kernel
theorem d_M_inspection_96 : decode b_M_inspection 96 = .ok (.dup, 1) := by decide +kernel
theorem d_M_inspection_97 : decode b_M_inspection 97 = .ok (.getfield 78, 3) := by decide +kernel
theorem d_M_inspection_100 : decode b_M_inspection 100 = .ok (.iconst 1, 1) := by decide +kernel
theorem d_M_inspection_101 : decode b_M_inspection 101 = .ok (.iadd, 1) := by decide +kernel
theorem d_M_inspection_102 : decode b_M_inspection 102 = .ok (.putfield 78, 3) := by decide +kernel
theorem d_M_inspection_105 : decode b_M_inspection 105 = .ok (.aload_n 0, 1) := by decide +kernel
theorem d_M_inspection_106 : decode b_M_inspection 106 = .ok (.getfield 78, 3) := by decide +kernel
theorem d_M_inspection_109 : decode b_M_inspection 109 = .ok (.iconst 1, 1) := by decide +kernel
theorem d_M_inspection_110 : decode b_M_inspection 110 = .ok (.isub, 1) := by decide +kernel
theorem d_M_inspection_111 : decode b_M_inspection 111 = .ok (.ireturn, 1) := by decide +kernel
abbrev b_M_takesPlace : ByteArray := prog_5_method_10_code
def y_M_takesPlace : MethodName := ⟨R_M, "takesPlace", "(I)Z"⟩
theorem d_M_takesPlace_0 : decode b_M_takesPlace 0 = .ok (.aload_n 0, 1) := by decide +kernel
theorem d_M_takesPlace_1 : decode b_M_takesPlace 1 = .ok (.getfield 23, 3) := by decide +kernel
theorem d_M_takesPlace_4 : decode b_M_takesPlace 4 = .ok (.iload_n 1, 1) := by decide +kernel
theorem d_M_takesPlace_5 : decode b_M_takesPlace 5 = .ok (.iaload, 1) := by decide +kernel
theorem d_M_takesPlace_6 : decode b_M_takesPlace 6 = .ok (.iconst 1, 1) := by decide +kernel
theorem d_M_takesPlace_7 : decode b_M_takesPlace 7 = .ok (.if_icmp .eq 13, 3) := by decide +kernel
theorem d_M_takesPlace_10 : decode b_M_takesPlace 10 = .ok (.aload_n 0, 1) := by decide +kernel
theorem d_M_takesPlace_11 : decode b_M_takesPlace 11 = .ok (.getfield 23, 3) := by decide +kernel
theorem d_M_takesPlace_14 : decode b_M_takesPlace 14 = .ok (.iload_n 1, 1) := by decide +kernel
theorem d_M_takesPlace_15 : decode b_M_takesPlace 15 = .ok (.iaload, 1) := by decide +kernel
theorem d_M_takesPlace_16 : decode b_M_takesPlace 16 = .ok (.iconst 2, 1) := by decide +kernel
theorem d_M_takesPlace_17 : decode b_M_takesPlace 17 = .ok (.if_icmp .ne 7, 3) := by decide +kernel
theorem d_M_takesPlace_20 : decode b_M_takesPlace 20 = .ok (.iconst 1, 1) := by decide +kernel
theorem d_M_takesPlace_21 : decode b_M_takesPlace 21 = .ok (.goto 4, 3) := by decide +kernel
theorem d_M_takesPlace_24 : decode b_M_takesPlace 24 = .ok (.iconst 0, 1) := by decide +kernel
theorem d_M_takesPlace_25 : decode b_M_takesPlace 25 = .ok (.ireturn, 1) := by decide +kernel
abbrev b_M_plan : ByteArray := prog_5_method_11_code
def y_M_plan : MethodName := ⟨R_M, "plan", "(IIII)I"⟩
theorem d_M_plan_0 : decode b_M_plan 0 = .ok (.aload_n 0, 1) := by decide +kernel
theorem d_M_plan_1 : decode b_M_plan 1 = .ok (.aload_n 0, 1) := by decide +kernel
theorem d_M_plan_2 : decode b_M_plan 2 = .ok (.iload_n 1, 1) := by decide +kernel
theorem d_M_plan_3 : decode b_M_plan 3 = .ok (.invokevirtual 100, 3) := by decide +kernel
theorem d_M_plan_6 : decode b_M_plan 6 = .ok (.ifCond .eq 39, 3) := by decide +kernel
theorem d_M_plan_9 : decode b_M_plan 9 = .ok (.iload_n 2, 1) := by decide +kernel
theorem d_M_plan_10 : decode b_M_plan 10 = .ok (.iconst 0, 1) := by decide +kernel
theorem d_M_plan_11 : decode b_M_plan 11 = .ok (.iconst 3, 1) := by decide +kernel
theorem d_M_plan_12 : decode b_M_plan 12 = .ok (.invokestatic 89, 3) := by decide +kernel
theorem d_M_plan_15 : decode b_M_plan 15 = .ok (.ifCond .eq 30, 3) := by decide +kernel
theorem d_M_plan_18 : decode b_M_plan 18 = .ok (.aload_n 0, 1) := by decide +kernel
theorem d_M_plan_19 : decode b_M_plan 19 = .ok (.iload_n 3, 1) := by decide +kernel
theorem d_M_plan_20 : decode b_M_plan 20 = .ok (.invokevirtual 97, 3) := by decide +kernel
theorem d_M_plan_23 : decode b_M_plan 23 = .ok (.ifCond .eq 22, 3) := by decide +kernel
theorem d_M_plan_26 : decode b_M_plan 26 = .ok (.aload_n 0, 1) := by decide +kernel
theorem d_M_plan_27 : decode b_M_plan 27 = .ok (.iload 4, 2) := by decide +kernel
theorem d_M_plan_29 : decode b_M_plan 29 = .ok (.invokevirtual 97, 3) := by decide +kernel
theorem d_M_plan_32 : decode b_M_plan 32 = .ok (.ifCond .eq 13, 3) := by decide +kernel
theorem d_M_plan_35 : decode b_M_plan 35 = .ok (.iload_n 3, 1) := by decide +kernel
theorem d_M_plan_36 : decode b_M_plan 36 = .ok (.iload 4, 2) := by decide +kernel
theorem d_M_plan_38 : decode b_M_plan 38 = .ok (.if_icmp .ge 7, 3) := by decide +kernel
theorem d_M_plan_41 : decode b_M_plan 41 = .ok (.iconst 0, 1) := by decide +kernel
theorem d_M_plan_42 : decode b_M_plan 42 = .ok (.goto 4, 3) := by decide +kernel
theorem d_M_plan_45 : decode b_M_plan 45 = .ok (.iconst 1, 1) := by decide +kernel
theorem d_M_plan_46 : decode b_M_plan 46 = .ok (.putfield 74, 3) := by decide +kernel
theorem d_M_plan_49 : decode b_M_plan 49 = .ok (.aload_n 0, 1) := by decide +kernel
theorem d_M_plan_50 : decode b_M_plan 50 = .ok (.getfield 74, 3) := by decide +kernel
theorem d_M_plan_53 : decode b_M_plan 53 = .ok (.ifCond .gt 22, 3) := by decide +kernel
theorem d_M_plan_56 : decode b_M_plan 56 = .ok (.aload_n 0, 1) := by decide +kernel
theorem d_M_plan_57 : decode b_M_plan 57 = .ok (.getfield 23, 3) := by decide +kernel
theorem d_M_plan_60 : decode b_M_plan 60 = .ok (.iload_n 1, 1) := by decide +kernel
theorem d_M_plan_61 : decode b_M_plan 61 = .ok (.iaload, 1) := by decide +kernel
theorem d_M_plan_62 : decode b_M_plan 62 = .ok (.ifCond .eq 15, 3) := by decide +kernel
theorem d_M_plan_65 : decode b_M_plan 65 = .ok (.aload_n 0, 1) := by decide +kernel
theorem d_M_plan_66 : decode b_M_plan 66 = .ok (.getfield 23, 3) := by decide +kernel
theorem d_M_plan_69 : decode b_M_plan 69 = .ok (.iload_n 1, 1) := by decide +kernel
theorem d_M_plan_70 : decode b_M_plan 70 = .ok (.iaload, 1) := by decide +kernel
theorem d_M_plan_71 : decode b_M_plan 71 = .ok (.iconst 4, 1) := by decide +kernel
theorem d_M_plan_72 : decode b_M_plan 72 = .ok (.if_icmp .eq 5, 3) := by decide +kernel
theorem d_M_plan_75 : decode b_M_plan 75 = .ok (.iconst 0, 1) := by decide +kernel
theorem d_M_plan_76 : decode b_M_plan 76 = .ok (.ireturn, 1) := by decide +kernel
theorem d_M_plan_77 : decode b_M_plan 77 = .ok (.iconst 0, 1) := by decide +kernel
theorem d_M_plan_78 : decode b_M_plan 78 = .ok (.istore 5, 2) := by decide +kernel
theorem d_M_plan_80 : decode b_M_plan 80 = .ok (.iload 5, 2) := by decide +kernel
theorem d_M_plan_82 : decode b_M_plan 82 = .ok (.aload_n 0, 1) := by decide +kernel
theorem d_M_plan_83 : decode b_M_plan 83 = .ok (.getfield 78, 3) := by decide +kernel
theorem d_M_plan_86 : decode b_M_plan 86 = .ok (.if_icmp .ge 66, 3) := by decide +kernel
theorem d_M_plan_89 : decode b_M_plan 89 = .ok (.iload 4, 2) := by decide +kernel
theorem d_M_plan_91 : decode b_M_plan 91 = .ok (.aload_n 0, 1) := by decide +kernel
theorem d_M_plan_92 : decode b_M_plan 92 = .ok (.getfield 32, 3) := by decide +kernel
theorem d_M_plan_95 : decode b_M_plan 95 = .ok (.iload 5, 2) := by decide +kernel
theorem d_M_plan_97 : decode b_M_plan 97 = .ok (.iaload, 1) := by decide +kernel
theorem d_M_plan_98 : decode b_M_plan 98 = .ok (.if_icmp .le 14, 3) := by decide +kernel
theorem d_M_plan_101 : decode b_M_plan 101 = .ok (.iload_n 3, 1) := by decide +kernel
theorem d_M_plan_102 : decode b_M_plan 102 = .ok (.aload_n 0, 1) := by decide +kernel
theorem d_M_plan_103 : decode b_M_plan 103 = .ok (.getfield 35, 3) := by decide +kernel
theorem d_M_plan_106 : decode b_M_plan 106 = .ok (.iload 5, 2) := by decide +kernel
theorem d_M_plan_108 : decode b_M_plan 108 = .ok (.iaload, 1) := by decide +kernel
theorem d_M_plan_109 : decode b_M_plan 109 = .ok (.if_icmp .lt 7, 3) := by decide +kernel
theorem d_M_plan_112 : decode b_M_plan 112 = .ok (.iconst 1, 1) := by decide +kernel
theorem d_M_plan_113 : decode b_M_plan 113 = .ok (.goto 4, 3) := by decide +kernel
theorem d_M_plan_116 : decode b_M_plan 116 = .ok (.iconst 0, 1) := by decide +kernel
theorem d_M_plan_117 : decode b_M_plan 117 = .ok (.istore 6, 2) := by decide +kernel
theorem d_M_plan_119 : decode b_M_plan 119 = .ok (.aload_n 0, 1) := by decide +kernel
theorem d_M_plan_120 : decode b_M_plan 120 = .ok (.iload 5, 2) := by decide +kernel
theorem d_M_plan_122 : decode b_M_plan 122 = .ok (.invokevirtual 103, 3) := by decide +kernel
theorem d_M_plan_125 : decode b_M_plan 125 = .ok (.ifCond .eq 21, 3) := by decide +kernel
theorem d_M_plan_128 : decode b_M_plan 128 = .ok (.aload_n 0, 1) := by decide +kernel
theorem d_M_plan_129 : decode b_M_plan 129 = .ok (.getfield 29, 3) := by decide +kernel
theorem d_M_plan_132 : decode b_M_plan 132 = .ok (.iload 5, 2) := by decide +kernel
theorem d_M_plan_134 : decode b_M_plan 134 = .ok (.iaload, 1) := by decide +kernel
theorem d_M_plan_135 : decode b_M_plan 135 = .ok (.iload_n 2, 1) := by decide +kernel
theorem d_M_plan_136 : decode b_M_plan 136 = .ok (.if_icmp .ne 10, 3) := by decide +kernel
theorem d_M_plan_139 : decode b_M_plan 139 = .ok (.iload 6, 2) := by decide +kernel
theorem d_M_plan_141 : decode b_M_plan 141 = .ok (.ifCond .ne 5, 3) := by decide +kernel
theorem d_M_plan_144 : decode b_M_plan 144 = .ok (.iconst 0, 1) := by decide +kernel
theorem d_M_plan_145 : decode b_M_plan 145 = .ok (.ireturn, 1) := by decide +kernel
theorem d_M_plan_146 : decode b_M_plan 146 = .ok (.iinc 5 1, 3) := by decide +kernel
theorem d_M_plan_149 : decode b_M_plan 149 = .ok (.goto (-69), 3) := by decide +kernel
theorem d_M_plan_152 : decode b_M_plan 152 = .ok (.aload_n 0, 1) := by decide +kernel
theorem d_M_plan_153 : decode b_M_plan 153 = .ok (.getfield 23, 3) := by decide +kernel
theorem d_M_plan_156 : decode b_M_plan 156 = .ok (.iload_n 1, 1) := by decide +kernel
theorem d_M_plan_157 : decode b_M_plan 157 = .ok (.iconst 1, 1) := by decide +kernel
theorem d_M_plan_158 : decode b_M_plan 158 = .ok (.iastore, 1) := by decide +kernel
theorem d_M_plan_159 : decode b_M_plan 159 = .ok (.aload_n 0, 1) := by decide +kernel
theorem d_M_plan_160 : decode b_M_plan 160 = .ok (.getfield 29, 3) := by decide +kernel
theorem d_M_plan_163 : decode b_M_plan 163 = .ok (.iload_n 1, 1) := by decide +kernel
theorem d_M_plan_164 : decode b_M_plan 164 = .ok (.iload_n 2, 1) := by decide +kernel
theorem d_M_plan_165 : decode b_M_plan 165 = .ok (.iastore, 1) := by decide +kernel
theorem d_M_plan_166 : decode b_M_plan 166 = .ok (.aload_n 0, 1) := by decide +kernel
theorem d_M_plan_167 : decode b_M_plan 167 = .ok (.getfield 32, 3) := by decide +kernel
theorem d_M_plan_170 : decode b_M_plan 170 = .ok (.iload_n 1, 1) := by decide +kernel
theorem d_M_plan_171 : decode b_M_plan 171 = .ok (.iload_n 3, 1) := by decide +kernel
theorem d_M_plan_172 : decode b_M_plan 172 = .ok (.iastore, 1) := by decide +kernel
theorem d_M_plan_173 : decode b_M_plan 173 = .ok (.aload_n 0, 1) := by decide +kernel
theorem d_M_plan_174 : decode b_M_plan 174 = .ok (.getfield 35, 3) := by decide +kernel
theorem d_M_plan_177 : decode b_M_plan 177 = .ok (.iload_n 1, 1) := by decide +kernel
theorem d_M_plan_178 : decode b_M_plan 178 = .ok (.iload 4, 2) := by decide +kernel
theorem d_M_plan_180 : decode b_M_plan 180 = .ok (.iastore, 1) := by decide +kernel
theorem d_M_plan_181 : decode b_M_plan 181 = .ok (.iconst 1, 1) := by decide +kernel
theorem d_M_plan_182 : decode b_M_plan 182 = .ok (.ireturn, 1) := by decide +kernel
abbrev b_M_begin : ByteArray := prog_5_method_12_code
def y_M_begin : MethodName := ⟨R_M, "begin", "(II)I"⟩
theorem d_M_begin_0 : decode b_M_begin 0 = .ok (.aload_n 0, 1) := by decide +kernel
theorem d_M_begin_1 : decode b_M_begin 1 = .ok (.aload_n 0, 1) := by decide +kernel
theorem d_M_begin_2 : decode b_M_begin 2 = .ok (.iload_n 1, 1) := by decide +kernel
theorem d_M_begin_3 : decode b_M_begin 3 = .ok (.invokevirtual 100, 3) := by decide +kernel
theorem d_M_begin_6 : decode b_M_begin 6 = .ok (.ifCond .eq 14, 3) := by decide +kernel
theorem d_M_begin_9 : decode b_M_begin 9 = .ok (.iload_n 2, 1) := by decide +kernel
theorem d_M_begin_10 : decode b_M_begin 10 = .ok (.invokestatic 85, 3) := by decide +kernel
theorem d_M_begin_13 : decode b_M_begin 13 = .ok (.ifCond .eq 7, 3) := by decide +kernel
theorem d_M_begin_16 : decode b_M_begin 16 = .ok (.iconst 0, 1) := by decide +kernel
theorem d_M_begin_17 : decode b_M_begin 17 = .ok (.goto 4, 3) := by decide +kernel
theorem d_M_begin_20 : decode b_M_begin 20 = .ok (.iconst 1, 1) := by decide +kernel
theorem d_M_begin_21 : decode b_M_begin 21 = .ok (.putfield 74, 3) := by decide +kernel
theorem d_M_begin_24 : decode b_M_begin 24 = .ok (.aload_n 0, 1) := by decide +kernel
theorem d_M_begin_25 : decode b_M_begin 25 = .ok (.getfield 74, 3) := by decide +kernel
theorem d_M_begin_28 : decode b_M_begin 28 = .ok (.ifCond .gt 53, 3) := by decide +kernel
theorem d_M_begin_31 : decode b_M_begin 31 = .ok (.aload_n 0, 1) := by decide +kernel
theorem d_M_begin_32 : decode b_M_begin 32 = .ok (.getfield 23, 3) := by decide +kernel
theorem d_M_begin_35 : decode b_M_begin 35 = .ok (.iload_n 1, 1) := by decide +kernel
theorem d_M_begin_36 : decode b_M_begin 36 = .ok (.iaload, 1) := by decide +kernel
theorem d_M_begin_37 : decode b_M_begin 37 = .ok (.iconst 1, 1) := by decide +kernel
theorem d_M_begin_38 : decode b_M_begin 38 = .ok (.if_icmp .ne 43, 3) := by decide +kernel
theorem d_M_begin_41 : decode b_M_begin 41 = .ok (.aload_n 0, 1) := by decide +kernel
theorem d_M_begin_42 : decode b_M_begin 42 = .ok (.getfield 81, 3) := by decide +kernel
theorem d_M_begin_45 : decode b_M_begin 45 = .ok (.aload_n 0, 1) := by decide +kernel
theorem d_M_begin_46 : decode b_M_begin 46 = .ok (.getfield 32, 3) := by decide +kernel
theorem d_M_begin_49 : decode b_M_begin 49 = .ok (.iload_n 1, 1) := by decide +kernel
theorem d_M_begin_50 : decode b_M_begin 50 = .ok (.iaload, 1) := by decide +kernel
theorem d_M_begin_51 : decode b_M_begin 51 = .ok (.if_icmp .lt 30, 3) := by decide +kernel
theorem d_M_begin_54 : decode b_M_begin 54 = .ok (.aload_n 0, 1) := by decide +kernel
theorem d_M_begin_55 : decode b_M_begin 55 = .ok (.getfield 81, 3) := by decide +kernel
theorem d_M_begin_58 : decode b_M_begin 58 = .ok (.aload_n 0, 1) := by decide +kernel
theorem d_M_begin_59 : decode b_M_begin 59 = .ok (.getfield 35, 3) := by decide +kernel
theorem d_M_begin_62 : decode b_M_begin 62 = .ok (.iload_n 1, 1) := by decide +kernel
theorem d_M_begin_63 : decode b_M_begin 63 = .ok (.iaload, 1) := by decide +kernel
theorem d_M_begin_64 : decode b_M_begin 64 = .ok (.if_icmp .gt 17, 3) := by decide +kernel
theorem d_M_begin_67 : decode b_M_begin 67 = .ok (.aload_n 0, 1) := by decide +kernel
theorem d_M_begin_68 : decode b_M_begin 68 = .ok (.iload_n 2, 1) := by decide +kernel
theorem d_M_begin_69 : decode b_M_begin 69 = .ok (.aload_n 0, 1) := by decide +kernel
theorem d_M_begin_70 : decode b_M_begin 70 = .ok (.getfield 17, 3) := by decide +kernel
theorem d_M_begin_73 : decode b_M_begin 73 = .ok (.iload_n 1, 1) := by decide +kernel
theorem d_M_begin_74 : decode b_M_begin 74 = .ok (.iaload, 1) := by decide +kernel
theorem d_M_begin_75 : decode b_M_begin 75 = .ok (.invokevirtual 93, 3) := by decide +kernel
theorem d_M_begin_78 : decode b_M_begin 78 = .ok (.ifCond .ne 5, 3) := by decide +kernel
theorem d_M_begin_81 : decode b_M_begin 81 = .ok (.iconst 0, 1) := by decide +kernel
theorem d_M_begin_82 : decode b_M_begin 82 = .ok (.ireturn, 1) := by decide +kernel
theorem d_M_begin_83 : decode b_M_begin 83 = .ok (.aload_n 0, 1) := by decide +kernel
theorem d_M_begin_84 : decode b_M_begin 84 = .ok (.getfield 23, 3) := by decide +kernel
theorem d_M_begin_87 : decode b_M_begin 87 = .ok (.iload_n 1, 1) := by decide +kernel
theorem d_M_begin_88 : decode b_M_begin 88 = .ok (.iconst 2, 1) := by decide +kernel
theorem d_M_begin_89 : decode b_M_begin 89 = .ok (.iastore, 1) := by decide +kernel
theorem d_M_begin_90 : decode b_M_begin 90 = .ok (.aload_n 0, 1) := by decide +kernel
theorem d_M_begin_91 : decode b_M_begin 91 = .ok (.getfield 38, 3) := by decide +kernel
theorem d_M_begin_94 : decode b_M_begin 94 = .ok (.iload_n 1, 1) := by decide +kernel
theorem d_M_begin_95 : decode b_M_begin 95 = .ok (.iload_n 2, 1) := by decide +kernel
theorem d_M_begin_96 : decode b_M_begin 96 = .ok (.iastore, 1) := by decide +kernel
theorem d_M_begin_97 : decode b_M_begin 97 = .ok (.aload_n 0, 1) := by decide +kernel
theorem d_M_begin_98 : decode b_M_begin 98 = .ok (.getfield 41, 3) := by decide +kernel
theorem d_M_begin_101 : decode b_M_begin 101 = .ok (.iload_n 1, 1) := by decide +kernel
theorem d_M_begin_102 : decode b_M_begin 102 = .ok (.dup2, 1) := by decide +kernel
theorem d_M_begin_103 : decode b_M_begin 103 = .ok (.iaload, 1) := by decide +kernel
theorem d_M_begin_104 : decode b_M_begin 104 = .ok (.iconst 1, 1) := by decide +kernel
theorem d_M_begin_105 : decode b_M_begin 105 = .ok (.iadd, 1) := by decide +kernel
theorem d_M_begin_106 : decode b_M_begin 106 = .ok (.iastore, 1) := by decide +kernel
theorem d_M_begin_107 : decode b_M_begin 107 = .ok (.aload_n 0, 1) := by decide +kernel
theorem d_M_begin_108 : decode b_M_begin 108 = .ok (.getfield 17, 3) := by decide +kernel
theorem d_M_begin_111 : decode b_M_begin 111 = .ok (.iload_n 1, 1) := by decide +kernel
theorem d_M_begin_112 : decode b_M_begin 112 = .ok (.iaload, 1) := by decide +kernel
theorem d_M_begin_113 : decode b_M_begin 113 = .ok (.iconst 2, 1) := by decide +kernel
theorem d_M_begin_114 : decode b_M_begin 114 = .ok (.if_icmp .le 15, 3) := by decide +kernel
theorem d_M_begin_117 : decode b_M_begin 117 = .ok (.aload_n 0, 1) := by decide +kernel
theorem d_M_begin_118 : decode b_M_begin 118 = .ok (.getfield 47, 3) := by decide +kernel
theorem d_M_begin_121 : decode b_M_begin 121 = .ok (.aload_n 0, 1) := by decide +kernel
theorem d_M_begin_122 : decode b_M_begin 122 = .ok (.getfield 13, 3) := by decide +kernel
theorem d_M_begin_125 : decode b_M_begin 125 = .ok (.iload_n 1, 1) := by decide +kernel
theorem d_M_begin_126 : decode b_M_begin 126 = .ok (.iaload, 1) := by decide +kernel
theorem d_M_begin_127 : decode b_M_begin 127 = .ok (.iconst 1, 1) := by decide +kernel
theorem d_M_begin_128 : decode b_M_begin 128 = .ok (.bastore, 1) := by decide +kernel
theorem d_M_begin_129 : decode b_M_begin 129 = .ok (.iconst 1, 1) := by decide +kernel
theorem d_M_begin_130 : decode b_M_begin 130 = .ok (.ireturn, 1) := by decide +kernel
abbrev b_M_end : ByteArray := prog_5_method_13_code
def y_M_end : MethodName := ⟨R_M, "end", "(IIZ)I"⟩
theorem d_M_end_0 : decode b_M_end 0 = .ok (.aload_n 0, 1) := by decide +kernel
theorem d_M_end_1 : decode b_M_end 1 = .ok (.aload_n 0, 1) := by decide +kernel
theorem d_M_end_2 : decode b_M_end 2 = .ok (.iload_n 1, 1) := by decide +kernel
theorem d_M_end_3 : decode b_M_end 3 = .ok (.invokevirtual 100, 3) := by decide +kernel
theorem d_M_end_6 : decode b_M_end 6 = .ok (.ifCond .eq 14, 3) := by decide +kernel
theorem d_M_end_9 : decode b_M_end 9 = .ok (.iload_n 2, 1) := by decide +kernel
theorem d_M_end_10 : decode b_M_end 10 = .ok (.invokestatic 85, 3) := by decide +kernel
theorem d_M_end_13 : decode b_M_end 13 = .ok (.ifCond .eq 7, 3) := by decide +kernel
theorem d_M_end_16 : decode b_M_end 16 = .ok (.iconst 0, 1) := by decide +kernel
theorem d_M_end_17 : decode b_M_end 17 = .ok (.goto 4, 3) := by decide +kernel
theorem d_M_end_20 : decode b_M_end 20 = .ok (.iconst 1, 1) := by decide +kernel
theorem d_M_end_21 : decode b_M_end 21 = .ok (.putfield 74, 3) := by decide +kernel
theorem d_M_end_24 : decode b_M_end 24 = .ok (.aload_n 0, 1) := by decide +kernel
theorem d_M_end_25 : decode b_M_end 25 = .ok (.getfield 74, 3) := by decide +kernel
theorem d_M_end_28 : decode b_M_end 28 = .ok (.ifCond .gt 23, 3) := by decide +kernel
theorem d_M_end_31 : decode b_M_end 31 = .ok (.aload_n 0, 1) := by decide +kernel
theorem d_M_end_32 : decode b_M_end 32 = .ok (.getfield 23, 3) := by decide +kernel
theorem d_M_end_35 : decode b_M_end 35 = .ok (.iload_n 1, 1) := by decide +kernel
theorem d_M_end_36 : decode b_M_end 36 = .ok (.iaload, 1) := by decide +kernel
theorem d_M_end_37 : decode b_M_end 37 = .ok (.iconst 2, 1) := by decide +kernel
theorem d_M_end_38 : decode b_M_end 38 = .ok (.if_icmp .ne 13, 3) := by decide +kernel
theorem d_M_end_41 : decode b_M_end 41 = .ok (.aload_n 0, 1) := by decide +kernel
theorem d_M_end_42 : decode b_M_end 42 = .ok (.getfield 38, 3) := by decide +kernel
theorem d_M_end_45 : decode b_M_end 45 = .ok (.iload_n 1, 1) := by decide +kernel
theorem d_M_end_46 : decode b_M_end 46 = .ok (.iaload, 1) := by decide +kernel
theorem d_M_end_47 : decode b_M_end 47 = .ok (.iload_n 2, 1) := by decide +kernel
theorem d_M_end_48 : decode b_M_end 48 = .ok (.if_icmp .eq 5, 3) := by decide +kernel
theorem d_M_end_51 : decode b_M_end 51 = .ok (.iconst 0, 1) := by decide +kernel
theorem d_M_end_52 : decode b_M_end 52 = .ok (.ireturn, 1) := by decide +kernel
theorem d_M_end_53 : decode b_M_end 53 = .ok (.aload_n 0, 1) := by decide +kernel
theorem d_M_end_54 : decode b_M_end 54 = .ok (.getfield 23, 3) := by decide +kernel
theorem d_M_end_57 : decode b_M_end 57 = .ok (.iload_n 1, 1) := by decide +kernel
theorem d_M_end_58 : decode b_M_end 58 = .ok (.iload_n 3, 1) := by decide +kernel
theorem d_M_end_59 : decode b_M_end 59 = .ok (.ifCond .eq 7, 3) := by decide +kernel
theorem d_M_end_62 : decode b_M_end 62 = .ok (.iconst 3, 1) := by decide +kernel
theorem d_M_end_63 : decode b_M_end 63 = .ok (.goto 4, 3) := by decide +kernel
theorem d_M_end_66 : decode b_M_end 66 = .ok (.iconst 4, 1) := by decide +kernel
theorem d_M_end_67 : decode b_M_end 67 = .ok (.iastore, 1) := by decide +kernel
theorem d_M_end_68 : decode b_M_end 68 = .ok (.iconst 1, 1) := by decide +kernel
theorem d_M_end_69 : decode b_M_end 69 = .ok (.ireturn, 1) := by decide +kernel
abbrev b_M_giveUp : ByteArray := prog_5_method_14_code
def y_M_giveUp : MethodName := ⟨R_M, "giveUp", "(I)Z"⟩
theorem d_M_giveUp_0 : decode b_M_giveUp 0 = .ok (.aload_n 0, 1) := by decide +kernel
theorem d_M_giveUp_1 : decode b_M_giveUp 1 = .ok (.iconst 0, 1) := by decide +kernel
theorem d_M_giveUp_2 : decode b_M_giveUp 2 = .ok (.putfield 74, 3) := by decide +kernel
theorem d_M_giveUp_5 : decode b_M_giveUp 5 = .ok (.aload_n 0, 1) := by decide +kernel
theorem d_M_giveUp_6 : decode b_M_giveUp 6 = .ok (.iload_n 1, 1) := by decide +kernel
theorem d_M_giveUp_7 : decode b_M_giveUp 7 = .ok (.invokevirtual 100, 3) := by decide +kernel
theorem d_M_giveUp_10 : decode b_M_giveUp 10 = .ok (.ifCond .eq 32, 3) := by decide +kernel
theorem d_M_giveUp_13 : decode b_M_giveUp 13 = .ok (.aload_n 0, 1) := by decide +kernel
theorem d_M_giveUp_14 : decode b_M_giveUp 14 = .ok (.getfield 23, 3) := by decide +kernel
theorem d_M_giveUp_17 : decode b_M_giveUp 17 = .ok (.iload_n 1, 1) := by decide +kernel
theorem d_M_giveUp_18 : decode b_M_giveUp 18 = .ok (.iaload, 1) := by decide +kernel
theorem d_M_giveUp_19 : decode b_M_giveUp 19 = .ok (.ifCond .eq 25, 3) := by decide +kernel
theorem d_M_giveUp_22 : decode b_M_giveUp 22 = .ok (.aload_n 0, 1) := by decide +kernel
theorem d_M_giveUp_23 : decode b_M_giveUp 23 = .ok (.getfield 23, 3) := by decide +kernel
theorem d_M_giveUp_26 : decode b_M_giveUp 26 = .ok (.iload_n 1, 1) := by decide +kernel
theorem d_M_giveUp_27 : decode b_M_giveUp 27 = .ok (.iaload, 1) := by decide +kernel
theorem d_M_giveUp_28 : decode b_M_giveUp 28 = .ok (.iconst 1, 1) := by decide +kernel
theorem d_M_giveUp_29 : decode b_M_giveUp 29 = .ok (.if_icmp .eq 15, 3) := by decide +kernel
theorem d_M_giveUp_32 : decode b_M_giveUp 32 = .ok (.aload_n 0, 1) := by decide +kernel
theorem d_M_giveUp_33 : decode b_M_giveUp 33 = .ok (.getfield 23, 3) := by decide +kernel
theorem d_M_giveUp_36 : decode b_M_giveUp 36 = .ok (.iload_n 1, 1) := by decide +kernel
theorem d_M_giveUp_37 : decode b_M_giveUp 37 = .ok (.iaload, 1) := by decide +kernel
theorem d_M_giveUp_38 : decode b_M_giveUp 38 = .ok (.iconst 4, 1) := by decide +kernel
theorem d_M_giveUp_39 : decode b_M_giveUp 39 = .ok (.if_icmp .eq 5, 3) := by decide +kernel
theorem d_M_giveUp_42 : decode b_M_giveUp 42 = .ok (.iconst 0, 1) := by decide +kernel
theorem d_M_giveUp_43 : decode b_M_giveUp 43 = .ok (.ireturn, 1) := by decide +kernel
theorem d_M_giveUp_44 : decode b_M_giveUp 44 = .ok (.aload_n 0, 1) := by decide +kernel
theorem d_M_giveUp_45 : decode b_M_giveUp 45 = .ok (.getfield 23, 3) := by decide +kernel
theorem d_M_giveUp_48 : decode b_M_giveUp 48 = .ok (.iload_n 1, 1) := by decide +kernel
theorem d_M_giveUp_49 : decode b_M_giveUp 49 = .ok (.iconst 5, 1) := by decide +kernel
theorem d_M_giveUp_50 : decode b_M_giveUp 50 = .ok (.iastore, 1) := by decide +kernel
theorem d_M_giveUp_51 : decode b_M_giveUp 51 = .ok (.iconst 1, 1) := by decide +kernel
theorem d_M_giveUp_52 : decode b_M_giveUp 52 = .ok (.ireturn, 1) := by decide +kernel
abbrev b_M_isOpened : ByteArray := prog_5_method_15_code
def y_M_isOpened : MethodName := ⟨R_M, "isOpened", "(I)Z"⟩
theorem d_M_isOpened_0 : decode b_M_isOpened 0 = .ok (.aload_n 0, 1) := by decide +kernel
theorem d_M_isOpened_1 : decode b_M_isOpened 1 = .ok (.getfield 17, 3) := by decide +kernel
theorem d_M_isOpened_4 : decode b_M_isOpened 4 = .ok (.iload_n 1, 1) := by decide +kernel
theorem d_M_isOpened_5 : decode b_M_isOpened 5 = .ok (.iaload, 1) := by decide +kernel
theorem d_M_isOpened_6 : decode b_M_isOpened 6 = .ok (.iconst 2, 1) := by decide +kernel
theorem d_M_isOpened_7 : decode b_M_isOpened 7 = .ok (.if_icmp .le 17, 3) := by decide +kernel
theorem d_M_isOpened_10 : decode b_M_isOpened 10 = .ok (.aload_n 0, 1) := by decide +kernel
theorem d_M_isOpened_11 : decode b_M_isOpened 11 = .ok (.getfield 23, 3) := by decide +kernel
theorem d_M_isOpened_14 : decode b_M_isOpened 14 = .ok (.iload_n 1, 1) := by decide +kernel
theorem d_M_isOpened_15 : decode b_M_isOpened 15 = .ok (.iaload, 1) := by decide +kernel
theorem d_M_isOpened_16 : decode b_M_isOpened 16 = .ok (.iconst 2, 1) := by decide +kernel
theorem d_M_isOpened_17 : decode b_M_isOpened 17 = .ok (.if_icmp .ne 7, 3) := by decide +kernel
theorem d_M_isOpened_20 : decode b_M_isOpened 20 = .ok (.iconst 1, 1) := by decide +kernel
theorem d_M_isOpened_21 : decode b_M_isOpened 21 = .ok (.goto 4, 3) := by decide +kernel
theorem d_M_isOpened_24 : decode b_M_isOpened 24 = .ok (.iconst 0, 1) := by decide +kernel
theorem d_M_isOpened_25 : decode b_M_isOpened 25 = .ok (.ireturn, 1) := by decide +kernel
abbrev b_M_seal : ByteArray := prog_5_method_16_code
def y_M_seal : MethodName := ⟨R_M, "seal", "(IIII)I"⟩
theorem d_M_seal_0 : decode b_M_seal 0 = .ok (.aload_n 0, 1) := by decide +kernel
theorem d_M_seal_1 : decode b_M_seal 1 = .ok (.iload_n 1, 1) := by decide +kernel
theorem d_M_seal_2 : decode b_M_seal 2 = .ok (.invokestatic 85, 3) := by decide +kernel
theorem d_M_seal_5 : decode b_M_seal 5 = .ok (.ifCond .eq 38, 3) := by decide +kernel
theorem d_M_seal_8 : decode b_M_seal 8 = .ok (.iload_n 2, 1) := by decide +kernel
theorem d_M_seal_9 : decode b_M_seal 9 = .ok (.iconst 1, 1) := by decide +kernel
theorem d_M_seal_10 : decode b_M_seal 10 = .ok (.ldc 106, 2) := by decide +kernel
theorem d_M_seal_12 : decode b_M_seal 12 = .ok (.invokestatic 89, 3) := by decide +kernel
theorem d_M_seal_15 : decode b_M_seal 15 = .ok (.ifCond .eq 28, 3) := by decide +kernel
theorem d_M_seal_18 : decode b_M_seal 18 = .ok (.iload_n 3, 1) := by decide +kernel
theorem d_M_seal_19 : decode b_M_seal 19 = .ok (.invokestatic 85, 3) := by decide +kernel
theorem d_M_seal_22 : decode b_M_seal 22 = .ok (.ifCond .eq 21, 3) := by decide +kernel
theorem d_M_seal_25 : decode b_M_seal 25 = .ok (.iload 4, 2) := by decide +kernel
theorem d_M_seal_27 : decode b_M_seal 27 = .ok (.invokestatic 85, 3) := by decide +kernel
theorem d_M_seal_30 : decode b_M_seal 30 = .ok (.ifCond .eq 13, 3) := by decide +kernel
theorem d_M_seal_33 : decode b_M_seal 33 = .ok (.iload_n 3, 1) := by decide +kernel
theorem d_M_seal_34 : decode b_M_seal 34 = .ok (.iload 4, 2) := by decide +kernel
theorem d_M_seal_36 : decode b_M_seal 36 = .ok (.if_icmp .eq 7, 3) := by decide +kernel
theorem d_M_seal_39 : decode b_M_seal 39 = .ok (.iconst 0, 1) := by decide +kernel
theorem d_M_seal_40 : decode b_M_seal 40 = .ok (.goto 4, 3) := by decide +kernel
theorem d_M_seal_43 : decode b_M_seal 43 = .ok (.iconst 1, 1) := by decide +kernel
theorem d_M_seal_44 : decode b_M_seal 44 = .ok (.putfield 74, 3) := by decide +kernel
theorem d_M_seal_47 : decode b_M_seal 47 = .ok (.aload_n 0, 1) := by decide +kernel
theorem d_M_seal_48 : decode b_M_seal 48 = .ok (.getfield 74, 3) := by decide +kernel
theorem d_M_seal_51 : decode b_M_seal 51 = .ok (.ifCond .gt 31, 3) := by decide +kernel
theorem d_M_seal_54 : decode b_M_seal 54 = .ok (.aload_n 0, 1) := by decide +kernel
theorem d_M_seal_55 : decode b_M_seal 55 = .ok (.getfield 47, 3) := by decide +kernel
theorem d_M_seal_58 : decode b_M_seal 58 = .ok (.iload_n 1, 1) := by decide +kernel
theorem d_M_seal_59 : decode b_M_seal 59 = .ok (.baload, 1) := by decide +kernel
theorem d_M_seal_60 : decode b_M_seal 60 = .ok (.ifCond .eq 22, 3) := by decide +kernel
theorem d_M_seal_63 : decode b_M_seal 63 = .ok (.aload_n 0, 1) := by decide +kernel
theorem d_M_seal_64 : decode b_M_seal 64 = .ok (.iload_n 3, 1) := by decide +kernel
theorem d_M_seal_65 : decode b_M_seal 65 = .ok (.iconst 5, 1) := by decide +kernel
theorem d_M_seal_66 : decode b_M_seal 66 = .ok (.invokevirtual 93, 3) := by decide +kernel
theorem d_M_seal_69 : decode b_M_seal 69 = .ok (.ifCond .eq 13, 3) := by decide +kernel
theorem d_M_seal_72 : decode b_M_seal 72 = .ok (.aload_n 0, 1) := by decide +kernel
theorem d_M_seal_73 : decode b_M_seal 73 = .ok (.iload 4, 2) := by decide +kernel
theorem d_M_seal_75 : decode b_M_seal 75 = .ok (.iconst 5, 1) := by decide +kernel
theorem d_M_seal_76 : decode b_M_seal 76 = .ok (.invokevirtual 93, 3) := by decide +kernel
theorem d_M_seal_79 : decode b_M_seal 79 = .ok (.ifCond .ne 5, 3) := by decide +kernel
theorem d_M_seal_82 : decode b_M_seal 82 = .ok (.iconst 0, 1) := by decide +kernel
theorem d_M_seal_83 : decode b_M_seal 83 = .ok (.ireturn, 1) := by decide +kernel
theorem d_M_seal_84 : decode b_M_seal 84 = .ok (.iconst 0, 1) := by decide +kernel
theorem d_M_seal_85 : decode b_M_seal 85 = .ok (.istore 5, 2) := by decide +kernel
theorem d_M_seal_87 : decode b_M_seal 87 = .ok (.iload 5, 2) := by decide +kernel
theorem d_M_seal_89 : decode b_M_seal 89 = .ok (.aload_n 0, 1) := by decide +kernel
theorem d_M_seal_90 : decode b_M_seal 90 = .ok (.getfield 78, 3) := by decide +kernel
theorem d_M_seal_93 : decode b_M_seal 93 = .ok (.if_icmp .ge 31, 3) := by decide +kernel
theorem d_M_seal_96 : decode b_M_seal 96 = .ok (.aload_n 0, 1) := by decide +kernel
theorem d_M_seal_97 : decode b_M_seal 97 = .ok (.getfield 13, 3) := by decide +kernel
theorem d_M_seal_100 : decode b_M_seal 100 = .ok (.iload 5, 2) := by decide +kernel
theorem d_M_seal_102 : decode b_M_seal 102 = .ok (.iaload, 1) := by decide +kernel
theorem d_M_seal_103 : decode b_M_seal 103 = .ok (.iload_n 1, 1) := by decide +kernel
theorem d_M_seal_104 : decode b_M_seal 104 = .ok (.if_icmp .ne 14, 3) := by decide +kernel
theorem d_M_seal_107 : decode b_M_seal 107 = .ok (.aload_n 0, 1) := by decide +kernel
theorem d_M_seal_108 : decode b_M_seal 108 = .ok (.iload 5, 2) := by decide +kernel
theorem d_M_seal_110 : decode b_M_seal 110 = .ok (.invokevirtual 107, 3) := by decide +kernel
theorem d_M_seal_113 : decode b_M_seal 113 = .ok (.ifCond .eq 5, 3) := by decide +kernel
theorem d_M_seal_116 : decode b_M_seal 116 = .ok (.iconst 0, 1) := by decide +kernel
theorem d_M_seal_117 : decode b_M_seal 117 = .ok (.ireturn, 1) := by decide +kernel
theorem d_M_seal_118 : decode b_M_seal 118 = .ok (.iinc 5 1, 3) := by decide +kernel
theorem d_M_seal_121 : decode b_M_seal 121 = .ok (.goto (-34), 3) := by decide +kernel
theorem d_M_seal_124 : decode b_M_seal 124 = .ok (.aload_n 0, 1) := by decide +kernel
theorem d_M_seal_125 : decode b_M_seal 125 = .ok (.getfield 47, 3) := by decide +kernel
theorem d_M_seal_128 : decode b_M_seal 128 = .ok (.iload_n 1, 1) := by decide +kernel
theorem d_M_seal_129 : decode b_M_seal 129 = .ok (.iconst 0, 1) := by decide +kernel
theorem d_M_seal_130 : decode b_M_seal 130 = .ok (.bastore, 1) := by decide +kernel
theorem d_M_seal_131 : decode b_M_seal 131 = .ok (.aload_n 0, 1) := by decide +kernel
theorem d_M_seal_132 : decode b_M_seal 132 = .ok (.getfield 44, 3) := by decide +kernel
theorem d_M_seal_135 : decode b_M_seal 135 = .ok (.iload_n 1, 1) := by decide +kernel
theorem d_M_seal_136 : decode b_M_seal 136 = .ok (.iload_n 2, 1) := by decide +kernel
theorem d_M_seal_137 : decode b_M_seal 137 = .ok (.iastore, 1) := by decide +kernel
theorem d_M_seal_138 : decode b_M_seal 138 = .ok (.iconst 1, 1) := by decide +kernel
theorem d_M_seal_139 : decode b_M_seal 139 = .ok (.ireturn, 1) := by decide +kernel
abbrev b_M_sealed : ByteArray := prog_5_method_17_code
def y_M_sealed : MethodName := ⟨R_M, "sealed", "(I)I"⟩
theorem d_M_sealed_0 : decode b_M_sealed 0 = .ok (.iconst (-1), 1) := by decide +kernel
theorem d_M_sealed_1 : decode b_M_sealed 1 = .ok (.istore_n 2, 1) := by decide +kernel
theorem d_M_sealed_2 : decode b_M_sealed 2 = .ok (.iconst 0, 1) := by decide +kernel
theorem d_M_sealed_3 : decode b_M_sealed 3 = .ok (.istore_n 3, 1) := by decide +kernel
theorem d_M_sealed_4 : decode b_M_sealed 4 = .ok (.iload_n 3, 1) := by decide +kernel
theorem d_M_sealed_5 : decode b_M_sealed 5 = .ok (.aload_n 0, 1) := by decide +kernel
theorem d_M_sealed_6 : decode b_M_sealed 6 = .ok (.getfield 110, 3) := by decide +kernel
theorem d_M_sealed_9 : decode b_M_sealed 9 = .ok (.if_icmp .ge 25, 3) := by decide +kernel
theorem d_M_sealed_12 : decode b_M_sealed 12 = .ok (.aload_n 0, 1) := by decide +kernel
theorem d_M_sealed_13 : decode b_M_sealed 13 = .ok (.getfield 59, 3) := by decide +kernel
theorem d_M_sealed_16 : decode b_M_sealed 16 = .ok (.iload_n 3, 1) := by decide +kernel
theorem d_M_sealed_17 : decode b_M_sealed 17 = .ok (.iaload, 1) := by decide +kernel
theorem d_M_sealed_18 : decode b_M_sealed 18 = .ok (.iload_n 1, 1) := by decide +kernel
theorem d_M_sealed_19 : decode b_M_sealed 19 = .ok (.if_icmp .ne 7, 3) := by decide +kernel
theorem d_M_sealed_22 : decode b_M_sealed 22 = .ok (.iload_n 3, 1) := by decide +kernel
theorem d_M_sealed_23 : decode b_M_sealed 23 = .ok (.goto 4, 3) := by decide +kernel
theorem d_M_sealed_26 : decode b_M_sealed 26 = .ok (.iload_n 2, 1) := by decide +kernel
theorem d_M_sealed_27 : decode b_M_sealed 27 = .ok (.istore_n 2, 1) := by decide +kernel
theorem d_M_sealed_28 : decode b_M_sealed 28 = .ok (.iinc 3 1, 3) := by decide +kernel
theorem d_M_sealed_31 : decode b_M_sealed 31 = .ok (.goto (-27), 3) := by decide +kernel
theorem d_M_sealed_34 : decode b_M_sealed 34 = .ok (.iload_n 2, 1) := by decide +kernel
theorem d_M_sealed_35 : decode b_M_sealed 35 = .ok (.ireturn, 1) := by decide +kernel
abbrev b_M_sample : ByteArray := prog_5_method_18_code
def y_M_sample : MethodName := ⟨R_M, "sample", "(II)I"⟩
theorem d_M_sample_0 : decode b_M_sample 0 = .ok (.aload_n 0, 1) := by decide +kernel
theorem d_M_sample_1 : decode b_M_sample 1 = .ok (.aload_n 0, 1) := by decide +kernel
theorem d_M_sample_2 : decode b_M_sample 2 = .ok (.iload_n 1, 1) := by decide +kernel
theorem d_M_sample_3 : decode b_M_sample 3 = .ok (.invokevirtual 100, 3) := by decide +kernel
theorem d_M_sample_6 : decode b_M_sample 6 = .ok (.ifCond .eq 13, 3) := by decide +kernel
theorem d_M_sample_9 : decode b_M_sample 9 = .ok (.iload_n 2, 1) := by decide +kernel
theorem d_M_sample_10 : decode b_M_sample 10 = .ok (.iconst 1, 1) := by decide +kernel
theorem d_M_sample_11 : decode b_M_sample 11 = .ok (.ldc 106, 2) := by decide +kernel
theorem d_M_sample_13 : decode b_M_sample 13 = .ok (.invokestatic 89, 3) := by decide +kernel
theorem d_M_sample_16 : decode b_M_sample 16 = .ok (.ifCond .ne 7, 3) := by decide +kernel
theorem d_M_sample_19 : decode b_M_sample 19 = .ok (.iconst 1, 1) := by decide +kernel
theorem d_M_sample_20 : decode b_M_sample 20 = .ok (.goto 17, 3) := by decide +kernel
theorem d_M_sample_23 : decode b_M_sample 23 = .ok (.aload_n 0, 1) := by decide +kernel
theorem d_M_sample_24 : decode b_M_sample 24 = .ok (.getfield 110, 3) := by decide +kernel
theorem d_M_sample_27 : decode b_M_sample 27 = .ok (.bipush 40, 2) := by decide +kernel
theorem d_M_sample_29 : decode b_M_sample 29 = .ok (.if_icmp .ne 7, 3) := by decide +kernel
theorem d_M_sample_32 : decode b_M_sample 32 = .ok (.iconst 2, 1) := by decide +kernel
theorem d_M_sample_33 : decode b_M_sample 33 = .ok (.goto 4, 3) := by decide +kernel
theorem d_M_sample_36 : decode b_M_sample 36 = .ok (.iconst 0, 1) := by decide +kernel
theorem d_M_sample_37 : decode b_M_sample 37 = .ok (.putfield 74, 3) := by decide +kernel
theorem d_M_sample_40 : decode b_M_sample 40 = .ok (.aload_n 0, 1) := by decide +kernel
theorem d_M_sample_41 : decode b_M_sample 41 = .ok (.getfield 74, 3) := by decide +kernel
theorem d_M_sample_44 : decode b_M_sample 44 = .ok (.ifCond .le 5, 3) := by decide +kernel
theorem d_M_sample_47 : decode b_M_sample 47 = .ok (.iconst 0, 1) := by decide +kernel
theorem d_M_sample_48 : decode b_M_sample 48 = .ok (.ireturn, 1) := by decide +kernel
theorem d_M_sample_49 : decode b_M_sample 49 = .ok (.aload_n 0, 1) := by decide +kernel
theorem d_M_sample_50 : decode b_M_sample 50 = .ok (.iload_n 1, 1) := by decide +kernel
theorem d_M_sample_51 : decode b_M_sample 51 = .ok (.invokevirtual 107, 3) := by decide +kernel
theorem d_M_sample_54 : decode b_M_sample 54 = .ok (.ifCond .eq 11, 3) := by decide +kernel
theorem d_M_sample_57 : decode b_M_sample 57 = .ok (.aload_n 0, 1) := by decide +kernel
theorem d_M_sample_58 : decode b_M_sample 58 = .ok (.iload_n 2, 1) := by decide +kernel
theorem d_M_sample_59 : decode b_M_sample 59 = .ok (.invokevirtual 113, 3) := by decide +kernel
theorem d_M_sample_62 : decode b_M_sample 62 = .ok (.ifCond .lt 5, 3) := by decide +kernel
theorem d_M_sample_65 : decode b_M_sample 65 = .ok (.iconst (-1), 1) := by decide +kernel
theorem d_M_sample_66 : decode b_M_sample 66 = .ok (.ireturn, 1) := by decide +kernel
theorem d_M_sample_67 : decode b_M_sample 67 = .ok (.aload_n 0, 1) := by decide +kernel
theorem d_M_sample_68 : decode b_M_sample 68 = .ok (.getfield 56, 3) := by decide +kernel
theorem d_M_sample_71 : decode b_M_sample 71 = .ok (.aload_n 0, 1) := by decide +kernel
theorem d_M_sample_72 : decode b_M_sample 72 = .ok (.getfield 110, 3) := by decide +kernel
theorem d_M_sample_75 : decode b_M_sample 75 = .ok (.iload_n 1, 1) := by decide +kernel
theorem d_M_sample_76 : decode b_M_sample 76 = .ok (.iastore, 1) := by decide +kernel
theorem d_M_sample_77 : decode b_M_sample 77 = .ok (.aload_n 0, 1) := by decide +kernel
theorem d_M_sample_78 : decode b_M_sample 78 = .ok (.getfield 59, 3) := by decide +kernel
theorem d_M_sample_81 : decode b_M_sample 81 = .ok (.aload_n 0, 1) := by decide +kernel
theorem d_M_sample_82 : decode b_M_sample 82 = .ok (.getfield 110, 3) := by decide +kernel
theorem d_M_sample_85 : decode b_M_sample 85 = .ok (.iload_n 2, 1) := by decide +kernel
theorem d_M_sample_86 : decode b_M_sample 86 = .ok (.iastore, 1) := by decide +kernel
theorem d_M_sample_87 : decode b_M_sample 87 = .ok (.aload_n 0, 1) := by decide +kernel
theorem d_M_sample_88 : decode b_M_sample 88 = .ok (.dup, 1) := by decide +kernel
theorem d_M_sample_89 : decode b_M_sample 89 = .ok (.getfield 110, 3) := by decide +kernel
theorem d_M_sample_92 : decode b_M_sample 92 = .ok (.iconst 1, 1) := by decide +kernel
theorem d_M_sample_93 : decode b_M_sample 93 = .ok (.iadd, 1) := by decide +kernel
theorem d_M_sample_94 : decode b_M_sample 94 = .ok (.putfield 110, 3) := by decide +kernel
theorem d_M_sample_97 : decode b_M_sample 97 = .ok (.aload_n 0, 1) := by decide +kernel
theorem d_M_sample_98 : decode b_M_sample 98 = .ok (.getfield 110, 3) := by decide +kernel
theorem d_M_sample_101 : decode b_M_sample 101 = .ok (.iconst 1, 1) := by decide +kernel
theorem d_M_sample_102 : decode b_M_sample 102 = .ok (.isub, 1) := by decide +kernel
theorem d_M_sample_103 : decode b_M_sample 103 = .ok (.ireturn, 1) := by decide +kernel
abbrev b_M_differs : ByteArray := prog_5_method_19_code
def y_M_differs : MethodName := ⟨R_M, "differs", "(II)I"⟩
theorem d_M_differs_0 : decode b_M_differs 0 = .ok (.aload_n 0, 1) := by decide +kernel
theorem d_M_differs_1 : decode b_M_differs 1 = .ok (.getfield 62, 3) := by decide +kernel
theorem d_M_differs_4 : decode b_M_differs 4 = .ok (.iconst 4, 1) := by decide +kernel
theorem d_M_differs_5 : decode b_M_differs 5 = .ok (.iload_n 1, 1) := by decide +kernel
theorem d_M_differs_6 : decode b_M_differs 6 = .ok (.imul, 1) := by decide +kernel
theorem d_M_differs_7 : decode b_M_differs 7 = .ok (.iload_n 2, 1) := by decide +kernel
theorem d_M_differs_8 : decode b_M_differs 8 = .ok (.iadd, 1) := by decide +kernel
theorem d_M_differs_9 : decode b_M_differs 9 = .ok (.iaload, 1) := by decide +kernel
theorem d_M_differs_10 : decode b_M_differs 10 = .ok (.i2l, 1) := by decide +kernel
theorem d_M_differs_11 : decode b_M_differs 11 = .ok (.lstore_n 3, 1) := by decide +kernel
theorem d_M_differs_12 : decode b_M_differs 12 = .ok (.aload_n 0, 1) := by decide +kernel
theorem d_M_differs_13 : decode b_M_differs 13 = .ok (.getfield 53, 3) := by decide +kernel
theorem d_M_differs_16 : decode b_M_differs 16 = .ok (.iconst 4, 1) := by decide +kernel
theorem d_M_differs_17 : decode b_M_differs 17 = .ok (.aload_n 0, 1) := by decide +kernel
theorem d_M_differs_18 : decode b_M_differs 18 = .ok (.getfield 13, 3) := by decide +kernel
theorem d_M_differs_21 : decode b_M_differs 21 = .ok (.aload_n 0, 1) := by decide +kernel
theorem d_M_differs_22 : decode b_M_differs 22 = .ok (.getfield 56, 3) := by decide +kernel
theorem d_M_differs_25 : decode b_M_differs 25 = .ok (.iload_n 1, 1) := by decide +kernel
theorem d_M_differs_26 : decode b_M_differs 26 = .ok (.iaload, 1) := by decide +kernel
theorem d_M_differs_27 : decode b_M_differs 27 = .ok (.iaload, 1) := by decide +kernel
theorem d_M_differs_28 : decode b_M_differs 28 = .ok (.imul, 1) := by decide +kernel
theorem d_M_differs_29 : decode b_M_differs 29 = .ok (.iload_n 2, 1) := by decide +kernel
theorem d_M_differs_30 : decode b_M_differs 30 = .ok (.iadd, 1) := by decide +kernel
theorem d_M_differs_31 : decode b_M_differs 31 = .ok (.iaload, 1) := by decide +kernel
theorem d_M_differs_32 : decode b_M_differs 32 = .ok (.i2l, 1) := by decide +kernel
theorem d_M_differs_33 : decode b_M_differs 33 = .ok (.lstore 5, 2) := by decide +kernel
theorem d_M_differs_35 : decode b_M_differs 35 = .ok (.lload_n 3, 1) := by decide +kernel
theorem d_M_differs_36 : decode b_M_differs 36 = .ok (.lconst 0, 1) := by decide +kernel
theorem d_M_differs_37 : decode b_M_differs 37 = .ok (.lcmp, 1) := by decide +kernel
theorem d_M_differs_38 : decode b_M_differs 38 = .ok (.ifCond .lt 10, 3) := by decide +kernel
theorem d_M_differs_41 : decode b_M_differs 41 = .ok (.lload 5, 2) := by decide +kernel
theorem d_M_differs_43 : decode b_M_differs 43 = .ok (.lconst 0, 1) := by decide +kernel
theorem d_M_differs_44 : decode b_M_differs 44 = .ok (.lcmp, 1) := by decide +kernel
theorem d_M_differs_45 : decode b_M_differs 45 = .ok (.ifCond .ge 5, 3) := by decide +kernel
theorem d_M_differs_48 : decode b_M_differs 48 = .ok (.iconst 0, 1) := by decide +kernel
theorem d_M_differs_49 : decode b_M_differs 49 = .ok (.ireturn, 1) := by decide +kernel
theorem d_M_differs_50 : decode b_M_differs 50 = .ok (.lload_n 3, 1) := by decide +kernel
theorem d_M_differs_51 : decode b_M_differs 51 = .ok (.lload 5, 2) := by decide +kernel
theorem d_M_differs_53 : decode b_M_differs 53 = .ok (.lcmp, 1) := by decide +kernel
theorem d_M_differs_54 : decode b_M_differs 54 = .ok (.ifCond .le 14, 3) := by decide +kernel
theorem d_M_differs_57 : decode b_M_differs 57 = .ok (.ldc2_w 117, 3) := by decide +kernel
theorem d_M_differs_60 : decode b_M_differs 60 = .ok (.lload_n 3, 1) := by decide +kernel
theorem d_M_differs_61 : decode b_M_differs 61 = .ok (.lload 5, 2) := by decide +kernel
theorem d_M_differs_63 : decode b_M_differs 63 = .ok (.lsub, 1) := by decide +kernel
theorem d_M_differs_64 : decode b_M_differs 64 = .ok (.lmul, 1) := by decide +kernel
theorem d_M_differs_65 : decode b_M_differs 65 = .ok (.goto 11, 3) := by decide +kernel
theorem d_M_differs_68 : decode b_M_differs 68 = .ok (.ldc2_w 117, 3) := by decide +kernel
theorem d_M_differs_71 : decode b_M_differs 71 = .ok (.lload 5, 2) := by decide +kernel
theorem d_M_differs_73 : decode b_M_differs 73 = .ok (.lload_n 3, 1) := by decide +kernel
theorem d_M_differs_74 : decode b_M_differs 74 = .ok (.lsub, 1) := by decide +kernel
theorem d_M_differs_75 : decode b_M_differs 75 = .ok (.lmul, 1) := by decide +kernel
theorem d_M_differs_76 : decode b_M_differs 76 = .ok (.lstore 7, 2) := by decide +kernel
theorem d_M_differs_78 : decode b_M_differs 78 = .ok (.lload_n 3, 1) := by decide +kernel
theorem d_M_differs_79 : decode b_M_differs 79 = .ok (.lload 5, 2) := by decide +kernel
theorem d_M_differs_81 : decode b_M_differs 81 = .ok (.lcmp, 1) := by decide +kernel
theorem d_M_differs_82 : decode b_M_differs 82 = .ok (.ifCond .le 16, 3) := by decide +kernel
theorem d_M_differs_85 : decode b_M_differs 85 = .ok (.lload 5, 2) := by decide +kernel
theorem d_M_differs_87 : decode b_M_differs 87 = .ok (.aload_n 0, 1) := by decide +kernel
theorem d_M_differs_88 : decode b_M_differs 88 = .ok (.getfield 68, 3) := by decide +kernel
theorem d_M_differs_91 : decode b_M_differs 91 = .ok (.iload_n 2, 1) := by decide +kernel
theorem d_M_differs_92 : decode b_M_differs 92 = .ok (.iaload, 1) := by decide +kernel
theorem d_M_differs_93 : decode b_M_differs 93 = .ok (.i2l, 1) := by decide +kernel
theorem d_M_differs_94 : decode b_M_differs 94 = .ok (.lmul, 1) := by decide +kernel
theorem d_M_differs_95 : decode b_M_differs 95 = .ok (.goto 13, 3) := by decide +kernel
theorem d_M_differs_98 : decode b_M_differs 98 = .ok (.lload 5, 2) := by decide +kernel
theorem d_M_differs_100 : decode b_M_differs 100 = .ok (.aload_n 0, 1) := by decide +kernel
theorem d_M_differs_101 : decode b_M_differs 101 = .ok (.getfield 71, 3) := by decide +kernel
theorem d_M_differs_104 : decode b_M_differs 104 = .ok (.iload_n 2, 1) := by decide +kernel
theorem d_M_differs_105 : decode b_M_differs 105 = .ok (.iaload, 1) := by decide +kernel
theorem d_M_differs_106 : decode b_M_differs 106 = .ok (.i2l, 1) := by decide +kernel
theorem d_M_differs_107 : decode b_M_differs 107 = .ok (.lmul, 1) := by decide +kernel
theorem d_M_differs_108 : decode b_M_differs 108 = .ok (.lstore 9, 2) := by decide +kernel
theorem d_M_differs_110 : decode b_M_differs 110 = .ok (.lload 7, 2) := by decide +kernel
theorem d_M_differs_112 : decode b_M_differs 112 = .ok (.lload 9, 2) := by decide +kernel
theorem d_M_differs_114 : decode b_M_differs 114 = .ok (.lcmp, 1) := by decide +kernel
theorem d_M_differs_115 : decode b_M_differs 115 = .ok (.ifCond .gt 7, 3) := by decide +kernel
theorem d_M_differs_118 : decode b_M_differs 118 = .ok (.iconst 0, 1) := by decide +kernel
theorem d_M_differs_119 : decode b_M_differs 119 = .ok (.goto 19, 3) := by decide +kernel
theorem d_M_differs_122 : decode b_M_differs 122 = .ok (.lload 7, 2) := by decide +kernel
theorem d_M_differs_124 : decode b_M_differs 124 = .ok (.lload 9, 2) := by decide +kernel
theorem d_M_differs_126 : decode b_M_differs 126 = .ok (.lload 9, 2) := by decide +kernel
theorem d_M_differs_128 : decode b_M_differs 128 = .ok (.ladd, 1) := by decide +kernel
theorem d_M_differs_129 : decode b_M_differs 129 = .ok (.lcmp, 1) := by decide +kernel
theorem d_M_differs_130 : decode b_M_differs 130 = .ok (.ifCond .gt 7, 3) := by decide +kernel
theorem d_M_differs_133 : decode b_M_differs 133 = .ok (.iconst 1, 1) := by decide +kernel
theorem d_M_differs_134 : decode b_M_differs 134 = .ok (.goto 4, 3) := by decide +kernel
theorem d_M_differs_137 : decode b_M_differs 137 = .ok (.iconst 2, 1) := by decide +kernel
theorem d_M_differs_138 : decode b_M_differs 138 = .ok (.ireturn, 1) := by decide +kernel
abbrev b_M_result : ByteArray := prog_5_method_20_code
def y_M_result : MethodName := ⟨R_M, "result", "(IIII)I"⟩
theorem d_M_result_0 : decode b_M_result 0 = .ok (.aload_n 0, 1) := by decide +kernel
theorem d_M_result_1 : decode b_M_result 1 = .ok (.iload_n 1, 1) := by decide +kernel
theorem d_M_result_2 : decode b_M_result 2 = .ok (.ifCond .lt 45, 3) := by decide +kernel
theorem d_M_result_5 : decode b_M_result 5 = .ok (.iload_n 1, 1) := by decide +kernel
theorem d_M_result_6 : decode b_M_result 6 = .ok (.aload_n 0, 1) := by decide +kernel
theorem d_M_result_7 : decode b_M_result 7 = .ok (.getfield 110, 3) := by decide +kernel
theorem d_M_result_10 : decode b_M_result 10 = .ok (.if_icmp .ge 37, 3) := by decide +kernel
theorem d_M_result_13 : decode b_M_result 13 = .ok (.iload_n 2, 1) := by decide +kernel
theorem d_M_result_14 : decode b_M_result 14 = .ok (.iconst 1, 1) := by decide +kernel
theorem d_M_result_15 : decode b_M_result 15 = .ok (.ldc 106, 2) := by decide +kernel
theorem d_M_result_17 : decode b_M_result 17 = .ok (.invokestatic 89, 3) := by decide +kernel
theorem d_M_result_20 : decode b_M_result 20 = .ok (.ifCond .eq 27, 3) := by decide +kernel
theorem d_M_result_23 : decode b_M_result 23 = .ok (.iload_n 3, 1) := by decide +kernel
theorem d_M_result_24 : decode b_M_result 24 = .ok (.iconst 0, 1) := by decide +kernel
theorem d_M_result_25 : decode b_M_result 25 = .ok (.iconst 3, 1) := by decide +kernel
theorem d_M_result_26 : decode b_M_result 26 = .ok (.invokestatic 89, 3) := by decide +kernel
theorem d_M_result_29 : decode b_M_result 29 = .ok (.ifCond .eq 18, 3) := by decide +kernel
theorem d_M_result_32 : decode b_M_result 32 = .ok (.iload 4, 2) := by decide +kernel
theorem d_M_result_34 : decode b_M_result 34 = .ok (.iconst 0, 1) := by decide +kernel
theorem d_M_result_35 : decode b_M_result 35 = .ok (.ldc 106, 2) := by decide +kernel
theorem d_M_result_37 : decode b_M_result 37 = .ok (.invokestatic 89, 3) := by decide +kernel
theorem d_M_result_40 : decode b_M_result 40 = .ok (.ifCond .eq 7, 3) := by decide +kernel
theorem d_M_result_43 : decode b_M_result 43 = .ok (.iconst 0, 1) := by decide +kernel
theorem d_M_result_44 : decode b_M_result 44 = .ok (.goto 4, 3) := by decide +kernel
theorem d_M_result_47 : decode b_M_result 47 = .ok (.iconst 1, 1) := by decide +kernel
theorem d_M_result_48 : decode b_M_result 48 = .ok (.putfield 74, 3) := by decide +kernel
theorem d_M_result_51 : decode b_M_result 51 = .ok (.aload_n 0, 1) := by decide +kernel
theorem d_M_result_52 : decode b_M_result 52 = .ok (.getfield 74, 3) := by decide +kernel
theorem d_M_result_55 : decode b_M_result 55 = .ok (.ifCond .le 5, 3) := by decide +kernel
theorem d_M_result_58 : decode b_M_result 58 = .ok (.iconst 0, 1) := by decide +kernel
theorem d_M_result_59 : decode b_M_result 59 = .ok (.ireturn, 1) := by decide +kernel
theorem d_M_result_60 : decode b_M_result 60 = .ok (.aload_n 0, 1) := by decide +kernel
theorem d_M_result_61 : decode b_M_result 61 = .ok (.iload_n 2, 1) := by decide +kernel
theorem d_M_result_62 : decode b_M_result 62 = .ok (.invokevirtual 113, 3) := by decide +kernel
theorem d_M_result_65 : decode b_M_result 65 = .ok (.istore 5, 2) := by decide +kernel
theorem d_M_result_67 : decode b_M_result 67 = .ok (.iload 5, 2) := by decide +kernel
theorem d_M_result_69 : decode b_M_result 69 = .ok (.iload_n 1, 1) := by decide +kernel
theorem d_M_result_70 : decode b_M_result 70 = .ok (.if_icmp .eq 16, 3) := by decide +kernel
theorem d_M_result_73 : decode b_M_result 73 = .ok (.iload 5, 2) := by decide +kernel
theorem d_M_result_75 : decode b_M_result 75 = .ok (.ifCond .ge 8, 3) := by decide +kernel
theorem d_M_result_78 : decode b_M_result 78 = .ok (.bipush (-3), 2) := by decide +kernel
theorem d_M_result_80 : decode b_M_result 80 = .ok (.goto 5, 3) := by decide +kernel
theorem d_M_result_83 : decode b_M_result 83 = .ok (.bipush (-2), 2) := by decide +kernel
theorem d_M_result_85 : decode b_M_result 85 = .ok (.ireturn, 1) := by decide +kernel
theorem d_M_result_86 : decode b_M_result 86 = .ok (.aload_n 0, 1) := by decide +kernel
theorem d_M_result_87 : decode b_M_result 87 = .ok (.getfield 62, 3) := by decide +kernel
theorem d_M_result_90 : decode b_M_result 90 = .ok (.iconst 4, 1) := by decide +kernel
theorem d_M_result_91 : decode b_M_result 91 = .ok (.iload_n 1, 1) := by decide +kernel
theorem d_M_result_92 : decode b_M_result 92 = .ok (.imul, 1) := by decide +kernel
theorem d_M_result_93 : decode b_M_result 93 = .ok (.iload_n 3, 1) := by decide +kernel
theorem d_M_result_94 : decode b_M_result 94 = .ok (.iadd, 1) := by decide +kernel
theorem d_M_result_95 : decode b_M_result 95 = .ok (.iaload, 1) := by decide +kernel
theorem d_M_result_96 : decode b_M_result 96 = .ok (.ifCond .lt 5, 3) := by decide +kernel
theorem d_M_result_99 : decode b_M_result 99 = .ok (.iconst (-1), 1) := by decide +kernel
theorem d_M_result_100 : decode b_M_result 100 = .ok (.ireturn, 1) := by decide +kernel
theorem d_M_result_101 : decode b_M_result 101 = .ok (.aload_n 0, 1) := by decide +kernel
theorem d_M_result_102 : decode b_M_result 102 = .ok (.getfield 62, 3) := by decide +kernel
theorem d_M_result_105 : decode b_M_result 105 = .ok (.iconst 4, 1) := by decide +kernel
theorem d_M_result_106 : decode b_M_result 106 = .ok (.iload_n 1, 1) := by decide +kernel
theorem d_M_result_107 : decode b_M_result 107 = .ok (.imul, 1) := by decide +kernel
theorem d_M_result_108 : decode b_M_result 108 = .ok (.iload_n 3, 1) := by decide +kernel
theorem d_M_result_109 : decode b_M_result 109 = .ok (.iadd, 1) := by decide +kernel
theorem d_M_result_110 : decode b_M_result 110 = .ok (.iload 4, 2) := by decide +kernel
theorem d_M_result_112 : decode b_M_result 112 = .ok (.iastore, 1) := by decide +kernel
theorem d_M_result_113 : decode b_M_result 113 = .ok (.aload_n 0, 1) := by decide +kernel
theorem d_M_result_114 : decode b_M_result 114 = .ok (.iload_n 1, 1) := by decide +kernel
theorem d_M_result_115 : decode b_M_result 115 = .ok (.iload_n 3, 1) := by decide +kernel
theorem d_M_result_116 : decode b_M_result 116 = .ok (.invokevirtual 119, 3) := by decide +kernel
theorem d_M_result_119 : decode b_M_result 119 = .ok (.ireturn, 1) := by decide +kernel
abbrev b_M_declared : ByteArray := prog_5_method_21_code
def y_M_declared : MethodName := ⟨R_M, "declared", "(III)Z"⟩
theorem d_M_declared_0 : decode b_M_declared 0 = .ok (.aload_n 0, 1) := by decide +kernel
theorem d_M_declared_1 : decode b_M_declared 1 = .ok (.iconst 0, 1) := by decide +kernel
theorem d_M_declared_2 : decode b_M_declared 2 = .ok (.putfield 74, 3) := by decide +kernel
theorem d_M_declared_5 : decode b_M_declared 5 = .ok (.iload_n 1, 1) := by decide +kernel
theorem d_M_declared_6 : decode b_M_declared 6 = .ok (.invokestatic 85, 3) := by decide +kernel
theorem d_M_declared_9 : decode b_M_declared 9 = .ok (.ifCond .eq 22, 3) := by decide +kernel
theorem d_M_declared_12 : decode b_M_declared 12 = .ok (.iload_n 2, 1) := by decide +kernel
theorem d_M_declared_13 : decode b_M_declared 13 = .ok (.iconst 0, 1) := by decide +kernel
theorem d_M_declared_14 : decode b_M_declared 14 = .ok (.iconst 3, 1) := by decide +kernel
theorem d_M_declared_15 : decode b_M_declared 15 = .ok (.invokestatic 89, 3) := by decide +kernel
theorem d_M_declared_18 : decode b_M_declared 18 = .ok (.ifCond .eq 13, 3) := by decide +kernel
theorem d_M_declared_21 : decode b_M_declared 21 = .ok (.iload_n 3, 1) := by decide +kernel
theorem d_M_declared_22 : decode b_M_declared 22 = .ok (.iconst 0, 1) := by decide +kernel
theorem d_M_declared_23 : decode b_M_declared 23 = .ok (.ldc 106, 2) := by decide +kernel
theorem d_M_declared_25 : decode b_M_declared 25 = .ok (.invokestatic 89, 3) := by decide +kernel
theorem d_M_declared_28 : decode b_M_declared 28 = .ok (.ifCond .ne 5, 3) := by decide +kernel
theorem d_M_declared_31 : decode b_M_declared 31 = .ok (.iconst 0, 1) := by decide +kernel
theorem d_M_declared_32 : decode b_M_declared 32 = .ok (.ireturn, 1) := by decide +kernel
theorem d_M_declared_33 : decode b_M_declared 33 = .ok (.aload_n 0, 1) := by decide +kernel
theorem d_M_declared_34 : decode b_M_declared 34 = .ok (.getfield 53, 3) := by decide +kernel
theorem d_M_declared_37 : decode b_M_declared 37 = .ok (.iconst 4, 1) := by decide +kernel
theorem d_M_declared_38 : decode b_M_declared 38 = .ok (.iload_n 1, 1) := by decide +kernel
theorem d_M_declared_39 : decode b_M_declared 39 = .ok (.imul, 1) := by decide +kernel
theorem d_M_declared_40 : decode b_M_declared 40 = .ok (.iload_n 2, 1) := by decide +kernel
theorem d_M_declared_41 : decode b_M_declared 41 = .ok (.iadd, 1) := by decide +kernel
theorem d_M_declared_42 : decode b_M_declared 42 = .ok (.iload_n 3, 1) := by decide +kernel
theorem d_M_declared_43 : decode b_M_declared 43 = .ok (.iastore, 1) := by decide +kernel
theorem d_M_declared_44 : decode b_M_declared 44 = .ok (.iconst 1, 1) := by decide +kernel
theorem d_M_declared_45 : decode b_M_declared 45 = .ok (.ireturn, 1) := by decide +kernel
abbrev b_M_tolerance : ByteArray := prog_5_method_22_code
def y_M_tolerance : MethodName := ⟨R_M, "tolerance", "(III)Z"⟩
theorem d_M_tolerance_0 : decode b_M_tolerance 0 = .ok (.aload_n 0, 1) := by decide +kernel
theorem d_M_tolerance_1 : decode b_M_tolerance 1 = .ok (.iconst 0, 1) := by decide +kernel
theorem d_M_tolerance_2 : decode b_M_tolerance 2 = .ok (.putfield 74, 3) := by decide +kernel
theorem d_M_tolerance_5 : decode b_M_tolerance 5 = .ok (.iload_n 1, 1) := by decide +kernel
theorem d_M_tolerance_6 : decode b_M_tolerance 6 = .ok (.iconst 0, 1) := by decide +kernel
theorem d_M_tolerance_7 : decode b_M_tolerance 7 = .ok (.iconst 3, 1) := by decide +kernel
theorem d_M_tolerance_8 : decode b_M_tolerance 8 = .ok (.invokestatic 89, 3) := by decide +kernel
theorem d_M_tolerance_11 : decode b_M_tolerance 11 = .ok (.ifCond .eq 25, 3) := by decide +kernel
theorem d_M_tolerance_14 : decode b_M_tolerance 14 = .ok (.iload_n 2, 1) := by decide +kernel
theorem d_M_tolerance_15 : decode b_M_tolerance 15 = .ok (.iconst 0, 1) := by decide +kernel
theorem d_M_tolerance_16 : decode b_M_tolerance 16 = .ok (.sipush 1000, 3) := by decide +kernel
theorem d_M_tolerance_19 : decode b_M_tolerance 19 = .ok (.invokestatic 89, 3) := by decide +kernel
theorem d_M_tolerance_22 : decode b_M_tolerance 22 = .ok (.ifCond .eq 14, 3) := by decide +kernel
theorem d_M_tolerance_25 : decode b_M_tolerance 25 = .ok (.iload_n 3, 1) := by decide +kernel
theorem d_M_tolerance_26 : decode b_M_tolerance 26 = .ok (.iconst 0, 1) := by decide +kernel
theorem d_M_tolerance_27 : decode b_M_tolerance 27 = .ok (.sipush 1000, 3) := by decide +kernel
theorem d_M_tolerance_30 : decode b_M_tolerance 30 = .ok (.invokestatic 89, 3) := by decide +kernel
theorem d_M_tolerance_33 : decode b_M_tolerance 33 = .ok (.ifCond .ne 5, 3) := by decide +kernel
theorem d_M_tolerance_36 : decode b_M_tolerance 36 = .ok (.iconst 0, 1) := by decide +kernel
theorem d_M_tolerance_37 : decode b_M_tolerance 37 = .ok (.ireturn, 1) := by decide +kernel
theorem d_M_tolerance_38 : decode b_M_tolerance 38 = .ok (.aload_n 0, 1) := by decide +kernel
theorem d_M_tolerance_39 : decode b_M_tolerance 39 = .ok (.getfield 68, 3) := by decide +kernel
theorem d_M_tolerance_42 : decode b_M_tolerance 42 = .ok (.iload_n 1, 1) := by decide +kernel
theorem d_M_tolerance_43 : decode b_M_tolerance 43 = .ok (.iload_n 2, 1) := by decide +kernel
theorem d_M_tolerance_44 : decode b_M_tolerance 44 = .ok (.iastore, 1) := by decide +kernel
theorem d_M_tolerance_45 : decode b_M_tolerance 45 = .ok (.aload_n 0, 1) := by decide +kernel
theorem d_M_tolerance_46 : decode b_M_tolerance 46 = .ok (.getfield 71, 3) := by decide +kernel
theorem d_M_tolerance_49 : decode b_M_tolerance 49 = .ok (.iload_n 1, 1) := by decide +kernel
theorem d_M_tolerance_50 : decode b_M_tolerance 50 = .ok (.iload_n 3, 1) := by decide +kernel
theorem d_M_tolerance_51 : decode b_M_tolerance 51 = .ok (.iastore, 1) := by decide +kernel
theorem d_M_tolerance_52 : decode b_M_tolerance 52 = .ok (.iconst 1, 1) := by decide +kernel
theorem d_M_tolerance_53 : decode b_M_tolerance 53 = .ok (.ireturn, 1) := by decide +kernel
abbrev b_M_hold : ByteArray := prog_5_method_23_code
def y_M_hold : MethodName := ⟨R_M, "hold", "(IIZ)Z"⟩
theorem d_M_hold_0 : decode b_M_hold 0 = .ok (.aload_n 0, 1) := by decide +kernel
theorem d_M_hold_1 : decode b_M_hold 1 = .ok (.iconst 0, 1) := by decide +kernel
theorem d_M_hold_2 : decode b_M_hold 2 = .ok (.putfield 74, 3) := by decide +kernel
theorem d_M_hold_5 : decode b_M_hold 5 = .ok (.iload_n 1, 1) := by decide +kernel
theorem d_M_hold_6 : decode b_M_hold 6 = .ok (.invokestatic 85, 3) := by decide +kernel
theorem d_M_hold_9 : decode b_M_hold 9 = .ok (.ifCond .eq 36, 3) := by decide +kernel
theorem d_M_hold_12 : decode b_M_hold 12 = .ok (.iload_n 2, 1) := by decide +kernel
theorem d_M_hold_13 : decode b_M_hold 13 = .ok (.iconst 0, 1) := by decide +kernel
theorem d_M_hold_14 : decode b_M_hold 14 = .ok (.bipush 7, 2) := by decide +kernel
theorem d_M_hold_16 : decode b_M_hold 16 = .ok (.invokestatic 89, 3) := by decide +kernel
theorem d_M_hold_19 : decode b_M_hold 19 = .ok (.ifCond .eq 26, 3) := by decide +kernel
theorem d_M_hold_22 : decode b_M_hold 22 = .ok (.aload_n 0, 1) := by decide +kernel
theorem d_M_hold_23 : decode b_M_hold 23 = .ok (.getfield 50, 3) := by decide +kernel
theorem d_M_hold_26 : decode b_M_hold 26 = .ok (.iload_n 1, 1) := by decide +kernel
theorem d_M_hold_27 : decode b_M_hold 27 = .ok (.iaload, 1) := by decide +kernel
theorem d_M_hold_28 : decode b_M_hold 28 = .ok (.iload_n 2, 1) := by decide +kernel
theorem d_M_hold_29 : decode b_M_hold 29 = .ok (.ishr, 1) := by decide +kernel
theorem d_M_hold_30 : decode b_M_hold 30 = .ok (.iconst 1, 1) := by decide +kernel
theorem d_M_hold_31 : decode b_M_hold 31 = .ok (.iand, 1) := by decide +kernel
theorem d_M_hold_32 : decode b_M_hold 32 = .ok (.iconst 1, 1) := by decide +kernel
theorem d_M_hold_33 : decode b_M_hold 33 = .ok (.if_icmp .ne 7, 3) := by decide +kernel
theorem d_M_hold_36 : decode b_M_hold 36 = .ok (.iconst 1, 1) := by decide +kernel
theorem d_M_hold_37 : decode b_M_hold 37 = .ok (.goto 4, 3) := by decide +kernel
theorem d_M_hold_40 : decode b_M_hold 40 = .ok (.iconst 0, 1) := by decide +kernel
theorem d_M_hold_41 : decode b_M_hold 41 = .ok (.iload_n 3, 1) := by decide +kernel
theorem d_M_hold_42 : decode b_M_hold 42 = .ok (.if_icmp .ne 5, 3) := by decide +kernel
theorem d_M_hold_45 : decode b_M_hold 45 = .ok (.iconst 0, 1) := by decide +kernel
theorem d_M_hold_46 : decode b_M_hold 46 = .ok (.ireturn, 1) := by decide +kernel
theorem d_M_hold_47 : decode b_M_hold 47 = .ok (.aload_n 0, 1) := by decide +kernel
theorem d_M_hold_48 : decode b_M_hold 48 = .ok (.getfield 50, 3) := by decide +kernel
theorem d_M_hold_51 : decode b_M_hold 51 = .ok (.iload_n 1, 1) := by decide +kernel
theorem d_M_hold_52 : decode b_M_hold 52 = .ok (.dup2, 1) := by decide +kernel
theorem d_M_hold_53 : decode b_M_hold 53 = .ok (.iaload, 1) := by decide +kernel
theorem d_M_hold_54 : decode b_M_hold 54 = .ok (.iload_n 3, 1) := by decide +kernel
theorem d_M_hold_55 : decode b_M_hold 55 = .ok (.ifCond .eq 9, 3) := by decide +kernel
theorem d_M_hold_58 : decode b_M_hold 58 = .ok (.iconst 1, 1) := by decide +kernel
theorem d_M_hold_59 : decode b_M_hold 59 = .ok (.iload_n 2, 1) := by decide +kernel
theorem d_M_hold_60 : decode b_M_hold 60 = .ok (.ishl, 1) := by decide +kernel
theorem d_M_hold_61 : decode b_M_hold 61 = .ok (.goto 7, 3) := by decide +kernel
theorem d_M_hold_64 : decode b_M_hold 64 = .ok (.iconst 1, 1) := by decide +kernel
theorem d_M_hold_65 : decode b_M_hold 65 = .ok (.iload_n 2, 1) := by decide +kernel
theorem d_M_hold_66 : decode b_M_hold 66 = .ok (.ishl, 1) := by decide +kernel
theorem d_M_hold_67 : decode b_M_hold 67 = .ok (.ineg, 1) := by decide +kernel
theorem d_M_hold_68 : decode b_M_hold 68 = .ok (.iadd, 1) := by decide +kernel
theorem d_M_hold_69 : decode b_M_hold 69 = .ok (.iastore, 1) := by decide +kernel
theorem d_M_hold_70 : decode b_M_hold 70 = .ok (.iconst 1, 1) := by decide +kernel
theorem d_M_hold_71 : decode b_M_hold 71 = .ok (.ireturn, 1) := by decide +kernel
abbrev b_M_isOf : ByteArray := prog_5_method_24_code
def y_M_isOf : MethodName := ⟨R_M, "isOf", "(II)Z"⟩
theorem d_M_isOf_0 : decode b_M_isOf 0 = .ok (.aload_n 0, 1) := by decide +kernel
theorem d_M_isOf_1 : decode b_M_isOf 1 = .ok (.getfield 13, 3) := by decide +kernel
theorem d_M_isOf_4 : decode b_M_isOf 4 = .ok (.aload_n 0, 1) := by decide +kernel
theorem d_M_isOf_5 : decode b_M_isOf 5 = .ok (.getfield 56, 3) := by decide +kernel
theorem d_M_isOf_8 : decode b_M_isOf 8 = .ok (.iload_n 1, 1) := by decide +kernel
theorem d_M_isOf_9 : decode b_M_isOf 9 = .ok (.iaload, 1) := by decide +kernel
theorem d_M_isOf_10 : decode b_M_isOf 10 = .ok (.iaload, 1) := by decide +kernel
theorem d_M_isOf_11 : decode b_M_isOf 11 = .ok (.iload_n 2, 1) := by decide +kernel
theorem d_M_isOf_12 : decode b_M_isOf 12 = .ok (.if_icmp .ne 7, 3) := by decide +kernel
theorem d_M_isOf_15 : decode b_M_isOf 15 = .ok (.iconst 1, 1) := by decide +kernel
theorem d_M_isOf_16 : decode b_M_isOf 16 = .ok (.goto 4, 3) := by decide +kernel
theorem d_M_isOf_19 : decode b_M_isOf 19 = .ok (.iconst 0, 1) := by decide +kernel
theorem d_M_isOf_20 : decode b_M_isOf 20 = .ok (.ireturn, 1) := by decide +kernel
abbrev b_M_great : ByteArray := prog_5_method_25_code
def y_M_great : MethodName := ⟨R_M, "great", "(IZ)I"⟩
theorem d_M_great_0 : decode b_M_great 0 = .ok (.iconst 0, 1) := by decide +kernel
theorem d_M_great_1 : decode b_M_great 1 = .ok (.istore_n 3, 1) := by decide +kernel
theorem d_M_great_2 : decode b_M_great 2 = .ok (.iconst 0, 1) := by decide +kernel
theorem d_M_great_3 : decode b_M_great 3 = .ok (.istore 4, 2) := by decide +kernel
theorem d_M_great_5 : decode b_M_great 5 = .ok (.iload 4, 2) := by decide +kernel
theorem d_M_great_7 : decode b_M_great 7 = .ok (.iconst 4, 1) := by decide +kernel
theorem d_M_great_8 : decode b_M_great 8 = .ok (.aload_n 0, 1) := by decide +kernel
theorem d_M_great_9 : decode b_M_great 9 = .ok (.getfield 110, 3) := by decide +kernel
theorem d_M_great_12 : decode b_M_great 12 = .ok (.imul, 1) := by decide +kernel
theorem d_M_great_13 : decode b_M_great 13 = .ok (.if_icmp .ge 59, 3) := by decide +kernel
theorem d_M_great_16 : decode b_M_great 16 = .ok (.iload_n 3, 1) := by decide +kernel
theorem d_M_great_17 : decode b_M_great 17 = .ok (.aload_n 0, 1) := by decide +kernel
theorem d_M_great_18 : decode b_M_great 18 = .ok (.iload 4, 2) := by decide +kernel
theorem d_M_great_20 : decode b_M_great 20 = .ok (.iconst 4, 1) := by decide +kernel
theorem d_M_great_21 : decode b_M_great 21 = .ok (.idiv, 1) := by decide +kernel
theorem d_M_great_22 : decode b_M_great 22 = .ok (.iload_n 1, 1) := by decide +kernel
theorem d_M_great_23 : decode b_M_great 23 = .ok (.invokevirtual 123, 3) := by decide +kernel
theorem d_M_great_26 : decode b_M_great 26 = .ok (.ifCond .eq 37, 3) := by decide +kernel
theorem d_M_great_29 : decode b_M_great 29 = .ok (.aload_n 0, 1) := by decide +kernel
theorem d_M_great_30 : decode b_M_great 30 = .ok (.iload 4, 2) := by decide +kernel
theorem d_M_great_32 : decode b_M_great 32 = .ok (.iconst 4, 1) := by decide +kernel
theorem d_M_great_33 : decode b_M_great 33 = .ok (.idiv, 1) := by decide +kernel
theorem d_M_great_34 : decode b_M_great 34 = .ok (.iload 4, 2) := by decide +kernel
theorem d_M_great_36 : decode b_M_great 36 = .ok (.iconst 4, 1) := by decide +kernel
theorem d_M_great_37 : decode b_M_great 37 = .ok (.irem, 1) := by decide +kernel
theorem d_M_great_38 : decode b_M_great 38 = .ok (.invokevirtual 119, 3) := by decide +kernel
theorem d_M_great_41 : decode b_M_great 41 = .ok (.iconst 2, 1) := by decide +kernel
theorem d_M_great_42 : decode b_M_great 42 = .ok (.if_icmp .ne 21, 3) := by decide +kernel
theorem d_M_great_45 : decode b_M_great 45 = .ok (.iload_n 2, 1) := by decide +kernel
theorem d_M_great_46 : decode b_M_great 46 = .ok (.ifCond .ne 13, 3) := by decide +kernel
theorem d_M_great_49 : decode b_M_great 49 = .ok (.aload_n 0, 1) := by decide +kernel
theorem d_M_great_50 : decode b_M_great 50 = .ok (.getfield 65, 3) := by decide +kernel
theorem d_M_great_53 : decode b_M_great 53 = .ok (.iload 4, 2) := by decide +kernel
theorem d_M_great_55 : decode b_M_great 55 = .ok (.baload, 1) := by decide +kernel
theorem d_M_great_56 : decode b_M_great 56 = .ok (.ifCond .ne 7, 3) := by decide +kernel
theorem d_M_great_59 : decode b_M_great 59 = .ok (.iconst 1, 1) := by decide +kernel
theorem d_M_great_60 : decode b_M_great 60 = .ok (.goto 4, 3) := by decide +kernel
theorem d_M_great_63 : decode b_M_great 63 = .ok (.iconst 0, 1) := by decide +kernel
theorem d_M_great_64 : decode b_M_great 64 = .ok (.iadd, 1) := by decide +kernel
theorem d_M_great_65 : decode b_M_great 65 = .ok (.istore_n 3, 1) := by decide +kernel
theorem d_M_great_66 : decode b_M_great 66 = .ok (.iinc 4 1, 3) := by decide +kernel
theorem d_M_great_69 : decode b_M_great 69 = .ok (.goto (-64), 3) := by decide +kernel
theorem d_M_great_72 : decode b_M_great 72 = .ok (.iload_n 3, 1) := by decide +kernel
theorem d_M_great_73 : decode b_M_great 73 = .ok (.ireturn, 1) := by decide +kernel
abbrev b_M_settle : ByteArray := prog_5_method_26_code
def y_M_settle : MethodName := ⟨R_M, "settle", "(I)I"⟩
theorem d_M_settle_0 : decode b_M_settle 0 = .ok (.aload_n 0, 1) := by decide +kernel
theorem d_M_settle_1 : decode b_M_settle 1 = .ok (.iload_n 1, 1) := by decide +kernel
theorem d_M_settle_2 : decode b_M_settle 2 = .ok (.invokestatic 85, 3) := by decide +kernel
theorem d_M_settle_5 : decode b_M_settle 5 = .ok (.ifCond .eq 7, 3) := by decide +kernel
theorem d_M_settle_8 : decode b_M_settle 8 = .ok (.iconst 0, 1) := by decide +kernel
theorem d_M_settle_9 : decode b_M_settle 9 = .ok (.goto 4, 3) := by decide +kernel
theorem d_M_settle_12 : decode b_M_settle 12 = .ok (.iconst 1, 1) := by decide +kernel
theorem d_M_settle_13 : decode b_M_settle 13 = .ok (.putfield 74, 3) := by decide +kernel
theorem d_M_settle_16 : decode b_M_settle 16 = .ok (.aload_n 0, 1) := by decide +kernel
theorem d_M_settle_17 : decode b_M_settle 17 = .ok (.getfield 74, 3) := by decide +kernel
theorem d_M_settle_20 : decode b_M_settle 20 = .ok (.ifCond .le 5, 3) := by decide +kernel
theorem d_M_settle_23 : decode b_M_settle 23 = .ok (.iconst 0, 1) := by decide +kernel
theorem d_M_settle_24 : decode b_M_settle 24 = .ok (.ireturn, 1) := by decide +kernel
theorem d_M_settle_25 : decode b_M_settle 25 = .ok (.aload_n 0, 1) := by decide +kernel
theorem d_M_settle_26 : decode b_M_settle 26 = .ok (.iload_n 1, 1) := by decide +kernel
theorem d_M_settle_27 : decode b_M_settle 27 = .ok (.iconst 0, 1) := by decide +kernel
theorem d_M_settle_28 : decode b_M_settle 28 = .ok (.invokevirtual 126, 3) := by decide +kernel
theorem d_M_settle_31 : decode b_M_settle 31 = .ok (.istore_n 2, 1) := by decide +kernel
theorem d_M_settle_32 : decode b_M_settle 32 = .ok (.iconst 0, 1) := by decide +kernel
theorem d_M_settle_33 : decode b_M_settle 33 = .ok (.istore_n 3, 1) := by decide +kernel
theorem d_M_settle_34 : decode b_M_settle 34 = .ok (.iload_n 3, 1) := by decide +kernel
theorem d_M_settle_35 : decode b_M_settle 35 = .ok (.iconst 4, 1) := by decide +kernel
theorem d_M_settle_36 : decode b_M_settle 36 = .ok (.aload_n 0, 1) := by decide +kernel
theorem d_M_settle_37 : decode b_M_settle 37 = .ok (.getfield 110, 3) := by decide +kernel
theorem d_M_settle_40 : decode b_M_settle 40 = .ok (.imul, 1) := by decide +kernel
theorem d_M_settle_41 : decode b_M_settle 41 = .ok (.if_icmp .ge 49, 3) := by decide +kernel
theorem d_M_settle_44 : decode b_M_settle 44 = .ok (.aload_n 0, 1) := by decide +kernel
theorem d_M_settle_45 : decode b_M_settle 45 = .ok (.getfield 65, 3) := by decide +kernel
theorem d_M_settle_48 : decode b_M_settle 48 = .ok (.iload_n 3, 1) := by decide +kernel
theorem d_M_settle_49 : decode b_M_settle 49 = .ok (.aload_n 0, 1) := by decide +kernel
theorem d_M_settle_50 : decode b_M_settle 50 = .ok (.getfield 65, 3) := by decide +kernel
theorem d_M_settle_53 : decode b_M_settle 53 = .ok (.iload_n 3, 1) := by decide +kernel
theorem d_M_settle_54 : decode b_M_settle 54 = .ok (.baload, 1) := by decide +kernel
theorem d_M_settle_55 : decode b_M_settle 55 = .ok (.ifCond .ne 23, 3) := by decide +kernel
theorem d_M_settle_58 : decode b_M_settle 58 = .ok (.aload_n 0, 1) := by decide +kernel
theorem d_M_settle_59 : decode b_M_settle 59 = .ok (.iload_n 3, 1) := by decide +kernel
theorem d_M_settle_60 : decode b_M_settle 60 = .ok (.iconst 4, 1) := by decide +kernel
theorem d_M_settle_61 : decode b_M_settle 61 = .ok (.idiv, 1) := by decide +kernel
theorem d_M_settle_62 : decode b_M_settle 62 = .ok (.iload_n 1, 1) := by decide +kernel
theorem d_M_settle_63 : decode b_M_settle 63 = .ok (.invokevirtual 123, 3) := by decide +kernel
theorem d_M_settle_66 : decode b_M_settle 66 = .ok (.ifCond .eq 16, 3) := by decide +kernel
theorem d_M_settle_69 : decode b_M_settle 69 = .ok (.aload_n 0, 1) := by decide +kernel
theorem d_M_settle_70 : decode b_M_settle 70 = .ok (.getfield 62, 3) := by decide +kernel
theorem d_M_settle_73 : decode b_M_settle 73 = .ok (.iload_n 3, 1) := by decide +kernel
theorem d_M_settle_74 : decode b_M_settle 74 = .ok (.iaload, 1) := by decide +kernel
theorem d_M_settle_75 : decode b_M_settle 75 = .ok (.ifCond .lt 7, 3) := by decide +kernel
theorem d_M_settle_78 : decode b_M_settle 78 = .ok (.iconst 1, 1) := by decide +kernel
theorem d_M_settle_79 : decode b_M_settle 79 = .ok (.goto 4, 3) := by decide +kernel
theorem d_M_settle_82 : decode b_M_settle 82 = .ok (.iconst 0, 1) := by decide +kernel
theorem d_M_settle_83 : decode b_M_settle 83 = .ok (.bastore, 1) := by decide +kernel
theorem d_M_settle_84 : decode b_M_settle 84 = .ok (.iinc 3 1, 3) := by decide +kernel
theorem d_M_settle_87 : decode b_M_settle 87 = .ok (.goto (-53), 3) := by decide +kernel
theorem d_M_settle_90 : decode b_M_settle 90 = .ok (.iload_n 2, 1) := by decide +kernel
theorem d_M_settle_91 : decode b_M_settle 91 = .ok (.ireturn, 1) := by decide +kernel
abbrev b_M_tick : ByteArray := prog_5_method_27_code
def y_M_tick : MethodName := ⟨R_M, "tick", "(I)I"⟩
theorem d_M_tick_0 : decode b_M_tick 0 = .ok (.aload_n 0, 1) := by decide +kernel
theorem d_M_tick_1 : decode b_M_tick 1 = .ok (.aload_n 0, 1) := by decide +kernel
theorem d_M_tick_2 : decode b_M_tick 2 = .ok (.iload_n 1, 1) := by decide +kernel
theorem d_M_tick_3 : decode b_M_tick 3 = .ok (.invokevirtual 97, 3) := by decide +kernel
theorem d_M_tick_6 : decode b_M_tick 6 = .ok (.ifCond .eq 7, 3) := by decide +kernel
theorem d_M_tick_9 : decode b_M_tick 9 = .ok (.iconst 0, 1) := by decide +kernel
theorem d_M_tick_10 : decode b_M_tick 10 = .ok (.goto 4, 3) := by decide +kernel
theorem d_M_tick_13 : decode b_M_tick 13 = .ok (.iconst 1, 1) := by decide +kernel
theorem d_M_tick_14 : decode b_M_tick 14 = .ok (.putfield 74, 3) := by decide +kernel
theorem d_M_tick_17 : decode b_M_tick 17 = .ok (.aload_n 0, 1) := by decide +kernel
theorem d_M_tick_18 : decode b_M_tick 18 = .ok (.getfield 74, 3) := by decide +kernel
theorem d_M_tick_21 : decode b_M_tick 21 = .ok (.ifCond .le 5, 3) := by decide +kernel
theorem d_M_tick_24 : decode b_M_tick 24 = .ok (.iconst 0, 1) := by decide +kernel
theorem d_M_tick_25 : decode b_M_tick 25 = .ok (.ireturn, 1) := by decide +kernel
theorem d_M_tick_26 : decode b_M_tick 26 = .ok (.iconst 0, 1) := by decide +kernel
theorem d_M_tick_27 : decode b_M_tick 27 = .ok (.istore_n 2, 1) := by decide +kernel
theorem d_M_tick_28 : decode b_M_tick 28 = .ok (.aload_n 0, 1) := by decide +kernel
theorem d_M_tick_29 : decode b_M_tick 29 = .ok (.getfield 81, 3) := by decide +kernel
theorem d_M_tick_32 : decode b_M_tick 32 = .ok (.iconst 1, 1) := by decide +kernel
theorem d_M_tick_33 : decode b_M_tick 33 = .ok (.iadd, 1) := by decide +kernel
theorem d_M_tick_34 : decode b_M_tick 34 = .ok (.istore_n 3, 1) := by decide +kernel
theorem d_M_tick_35 : decode b_M_tick 35 = .ok (.iload_n 3, 1) := by decide +kernel
theorem d_M_tick_36 : decode b_M_tick 36 = .ok (.iload_n 1, 1) := by decide +kernel
theorem d_M_tick_37 : decode b_M_tick 37 = .ok (.if_icmp .gt 127, 3) := by decide +kernel
theorem d_M_tick_40 : decode b_M_tick 40 = .ok (.iconst 0, 1) := by decide +kernel
theorem d_M_tick_41 : decode b_M_tick 41 = .ok (.istore 4, 2) := by decide +kernel
theorem d_M_tick_43 : decode b_M_tick 43 = .ok (.iload 4, 2) := by decide +kernel
theorem d_M_tick_45 : decode b_M_tick 45 = .ok (.aload_n 0, 1) := by decide +kernel
theorem d_M_tick_46 : decode b_M_tick 46 = .ok (.getfield 78, 3) := by decide +kernel
theorem d_M_tick_49 : decode b_M_tick 49 = .ok (.if_icmp .ge 109, 3) := by decide +kernel
theorem d_M_tick_52 : decode b_M_tick 52 = .ok (.iload_n 3, 1) := by decide +kernel
theorem d_M_tick_53 : decode b_M_tick 53 = .ok (.aload_n 0, 1) := by decide +kernel
theorem d_M_tick_54 : decode b_M_tick 54 = .ok (.getfield 20, 3) := by decide +kernel
theorem d_M_tick_57 : decode b_M_tick 57 = .ok (.iload 4, 2) := by decide +kernel
theorem d_M_tick_59 : decode b_M_tick 59 = .ok (.iaload, 1) := by decide +kernel
theorem d_M_tick_60 : decode b_M_tick 60 = .ok (.if_icmp .le 56, 3) := by decide +kernel
theorem d_M_tick_63 : decode b_M_tick 63 = .ok (.iload_n 3, 1) := by decide +kernel
theorem d_M_tick_64 : decode b_M_tick 64 = .ok (.aload_n 0, 1) := by decide +kernel
theorem d_M_tick_65 : decode b_M_tick 65 = .ok (.getfield 20, 3) := by decide +kernel
theorem d_M_tick_68 : decode b_M_tick 68 = .ok (.iload 4, 2) := by decide +kernel
theorem d_M_tick_70 : decode b_M_tick 70 = .ok (.iaload, 1) := by decide +kernel
theorem d_M_tick_71 : decode b_M_tick 71 = .ok (.isub, 1) := by decide +kernel
theorem d_M_tick_72 : decode b_M_tick 72 = .ok (.bipush 100, 2) := by decide +kernel
theorem d_M_tick_74 : decode b_M_tick 74 = .ok (.irem, 1) := by decide +kernel
theorem d_M_tick_75 : decode b_M_tick 75 = .ok (.iconst 1, 1) := by decide +kernel
theorem d_M_tick_76 : decode b_M_tick 76 = .ok (.if_icmp .ne 40, 3) := by decide +kernel
theorem d_M_tick_79 : decode b_M_tick 79 = .ok (.aload_n 0, 1) := by decide +kernel
theorem d_M_tick_80 : decode b_M_tick 80 = .ok (.getfield 26, 3) := by decide +kernel
theorem d_M_tick_83 : decode b_M_tick 83 = .ok (.iload 4, 2) := by decide +kernel
theorem d_M_tick_85 : decode b_M_tick 85 = .ok (.iaload, 1) := by decide +kernel
theorem d_M_tick_86 : decode b_M_tick 86 = .ok (.iconst 3, 1) := by decide +kernel
theorem d_M_tick_87 : decode b_M_tick 87 = .ok (.if_icmp .ge 29, 3) := by decide +kernel
theorem d_M_tick_90 : decode b_M_tick 90 = .ok (.aload_n 0, 1) := by decide +kernel
theorem d_M_tick_91 : decode b_M_tick 91 = .ok (.getfield 23, 3) := by decide +kernel
theorem d_M_tick_94 : decode b_M_tick 94 = .ok (.iload 4, 2) := by decide +kernel
theorem d_M_tick_96 : decode b_M_tick 96 = .ok (.iaload, 1) := by decide +kernel
theorem d_M_tick_97 : decode b_M_tick 97 = .ok (.iconst 3, 1) := by decide +kernel
theorem d_M_tick_98 : decode b_M_tick 98 = .ok (.if_icmp .eq 18, 3) := by decide +kernel
theorem d_M_tick_101 : decode b_M_tick 101 = .ok (.aload_n 0, 1) := by decide +kernel
theorem d_M_tick_102 : decode b_M_tick 102 = .ok (.getfield 23, 3) := by decide +kernel
theorem d_M_tick_105 : decode b_M_tick 105 = .ok (.iload 4, 2) := by decide +kernel
theorem d_M_tick_107 : decode b_M_tick 107 = .ok (.iaload, 1) := by decide +kernel
theorem d_M_tick_108 : decode b_M_tick 108 = .ok (.iconst 5, 1) := by decide +kernel
theorem d_M_tick_109 : decode b_M_tick 109 = .ok (.if_icmp .eq 7, 3) := by decide +kernel
theorem d_M_tick_112 : decode b_M_tick 112 = .ok (.iconst 1, 1) := by decide +kernel
theorem d_M_tick_113 : decode b_M_tick 113 = .ok (.goto 4, 3) := by decide +kernel
theorem d_M_tick_116 : decode b_M_tick 116 = .ok (.iconst 0, 1) := by decide +kernel
theorem d_M_tick_117 : decode b_M_tick 117 = .ok (.istore 5, 2) := by decide +kernel
theorem d_M_tick_119 : decode b_M_tick 119 = .ok (.aload_n 0, 1) := by decide +kernel
theorem d_M_tick_120 : decode b_M_tick 120 = .ok (.getfield 26, 3) := by decide +kernel
theorem d_M_tick_123 : decode b_M_tick 123 = .ok (.iload 4, 2) := by decide +kernel
theorem d_M_tick_125 : decode b_M_tick 125 = .ok (.dup2, 1) := by decide +kernel
theorem d_M_tick_126 : decode b_M_tick 126 = .ok (.iaload, 1) := by decide +kernel
theorem d_M_tick_127 : decode b_M_tick 127 = .ok (.iload 5, 2) := by decide +kernel
theorem d_M_tick_129 : decode b_M_tick 129 = .ok (.ifCond .eq 7, 3) := by decide +kernel
theorem d_M_tick_132 : decode b_M_tick 132 = .ok (.iconst 1, 1) := by decide +kernel
theorem d_M_tick_133 : decode b_M_tick 133 = .ok (.goto 4, 3) := by decide +kernel
theorem d_M_tick_136 : decode b_M_tick 136 = .ok (.iconst 0, 1) := by decide +kernel
theorem d_M_tick_137 : decode b_M_tick 137 = .ok (.iadd, 1) := by decide +kernel
theorem d_M_tick_138 : decode b_M_tick 138 = .ok (.iastore, 1) := by decide +kernel
theorem d_M_tick_139 : decode b_M_tick 139 = .ok (.iload_n 2, 1) := by decide +kernel
theorem d_M_tick_140 : decode b_M_tick 140 = .ok (.iload 5, 2) := by decide +kernel
theorem d_M_tick_142 : decode b_M_tick 142 = .ok (.ifCond .eq 7, 3) := by decide +kernel
theorem d_M_tick_145 : decode b_M_tick 145 = .ok (.iconst 1, 1) := by decide +kernel
theorem d_M_tick_146 : decode b_M_tick 146 = .ok (.goto 4, 3) := by decide +kernel
theorem d_M_tick_149 : decode b_M_tick 149 = .ok (.iconst 0, 1) := by decide +kernel
theorem d_M_tick_150 : decode b_M_tick 150 = .ok (.iadd, 1) := by decide +kernel
theorem d_M_tick_151 : decode b_M_tick 151 = .ok (.istore_n 2, 1) := by decide +kernel
theorem d_M_tick_152 : decode b_M_tick 152 = .ok (.iinc 4 1, 3) := by decide +kernel
theorem d_M_tick_155 : decode b_M_tick 155 = .ok (.goto (-112), 3) := by decide +kernel
theorem d_M_tick_158 : decode b_M_tick 158 = .ok (.iinc 3 1, 3) := by decide +kernel
theorem d_M_tick_161 : decode b_M_tick 161 = .ok (.goto (-126), 3) := by decide +kernel
theorem d_M_tick_164 : decode b_M_tick 164 = .ok (.aload_n 0, 1) := by decide +kernel
theorem d_M_tick_165 : decode b_M_tick 165 = .ok (.iload_n 1, 1) := by decide +kernel
theorem d_M_tick_166 : decode b_M_tick 166 = .ok (.putfield 81, 3) := by decide +kernel
theorem d_M_tick_169 : decode b_M_tick 169 = .ok (.iload_n 2, 1) := by decide +kernel
theorem d_M_tick_170 : decode b_M_tick 170 = .ok (.ireturn, 1) := by decide +kernel
abbrev b_M_hasNoResult : ByteArray := prog_5_method_28_code
def y_M_hasNoResult : MethodName := ⟨R_M, "hasNoResult", "(I)Z"⟩
theorem d_M_hasNoResult_0 : decode b_M_hasNoResult 0 = .ok (.aload_n 0, 1) := by decide +kernel
theorem d_M_hasNoResult_1 : decode b_M_hasNoResult 1 = .ok (.getfield 62, 3) := by decide +kernel
theorem d_M_hasNoResult_4 : decode b_M_hasNoResult 4 = .ok (.iconst 4, 1) := by decide +kernel
theorem d_M_hasNoResult_5 : decode b_M_hasNoResult 5 = .ok (.iload_n 1, 1) := by decide +kernel
theorem d_M_hasNoResult_6 : decode b_M_hasNoResult 6 = .ok (.imul, 1) := by decide +kernel
theorem d_M_hasNoResult_7 : decode b_M_hasNoResult 7 = .ok (.iaload, 1) := by decide +kernel
theorem d_M_hasNoResult_8 : decode b_M_hasNoResult 8 = .ok (.ifCond .ge 46, 3) := by decide +kernel
theorem d_M_hasNoResult_11 : decode b_M_hasNoResult 11 = .ok (.aload_n 0, 1) := by decide +kernel
theorem d_M_hasNoResult_12 : decode b_M_hasNoResult 12 = .ok (.getfield 62, 3) := by decide +kernel
theorem d_M_hasNoResult_15 : decode b_M_hasNoResult 15 = .ok (.iconst 4, 1) := by decide +kernel
theorem d_M_hasNoResult_16 : decode b_M_hasNoResult 16 = .ok (.iload_n 1, 1) := by decide +kernel
theorem d_M_hasNoResult_17 : decode b_M_hasNoResult 17 = .ok (.imul, 1) := by decide +kernel
theorem d_M_hasNoResult_18 : decode b_M_hasNoResult 18 = .ok (.iconst 1, 1) := by decide +kernel
theorem d_M_hasNoResult_19 : decode b_M_hasNoResult 19 = .ok (.iadd, 1) := by decide +kernel
theorem d_M_hasNoResult_20 : decode b_M_hasNoResult 20 = .ok (.iaload, 1) := by decide +kernel
theorem d_M_hasNoResult_21 : decode b_M_hasNoResult 21 = .ok (.ifCond .ge 33, 3) := by decide +kernel
theorem d_M_hasNoResult_24 : decode b_M_hasNoResult 24 = .ok (.aload_n 0, 1) := by decide +kernel
theorem d_M_hasNoResult_25 : decode b_M_hasNoResult 25 = .ok (.getfield 62, 3) := by decide +kernel
theorem d_M_hasNoResult_28 : decode b_M_hasNoResult 28 = .ok (.iconst 4, 1) := by decide +kernel
theorem d_M_hasNoResult_29 : decode b_M_hasNoResult 29 = .ok (.iload_n 1, 1) := by decide +kernel
theorem d_M_hasNoResult_30 : decode b_M_hasNoResult 30 = .ok (.imul, 1) := by decide +kernel
theorem d_M_hasNoResult_31 : decode b_M_hasNoResult 31 = .ok (.iconst 2, 1) := by decide +kernel
theorem d_M_hasNoResult_32 : decode b_M_hasNoResult 32 = .ok (.iadd, 1) := by decide +kernel
theorem d_M_hasNoResult_33 : decode b_M_hasNoResult 33 = .ok (.iaload, 1) := by decide +kernel
theorem d_M_hasNoResult_34 : decode b_M_hasNoResult 34 = .ok (.ifCond .ge 20, 3) := by decide +kernel
theorem d_M_hasNoResult_37 : decode b_M_hasNoResult 37 = .ok (.aload_n 0, 1) := by decide +kernel
theorem d_M_hasNoResult_38 : decode b_M_hasNoResult 38 = .ok (.getfield 62, 3) := by decide +kernel
theorem d_M_hasNoResult_41 : decode b_M_hasNoResult 41 = .ok (.iconst 4, 1) := by decide +kernel
theorem d_M_hasNoResult_42 : decode b_M_hasNoResult 42 = .ok (.iload_n 1, 1) := by decide +kernel
theorem d_M_hasNoResult_43 : decode b_M_hasNoResult 43 = .ok (.imul, 1) := by decide +kernel
theorem d_M_hasNoResult_44 : decode b_M_hasNoResult 44 = .ok (.iconst 3, 1) := by decide +kernel
theorem d_M_hasNoResult_45 : decode b_M_hasNoResult 45 = .ok (.iadd, 1) := by decide +kernel
theorem d_M_hasNoResult_46 : decode b_M_hasNoResult 46 = .ok (.iaload, 1) := by decide +kernel
theorem d_M_hasNoResult_47 : decode b_M_hasNoResult 47 = .ok (.ifCond .ge 7, 3) := by decide +kernel
theorem d_M_hasNoResult_50 : decode b_M_hasNoResult 50 = .ok (.iconst 1, 1) := by decide +kernel
theorem d_M_hasNoResult_51 : decode b_M_hasNoResult 51 = .ok (.goto 4, 3) := by decide +kernel
theorem d_M_hasNoResult_54 : decode b_M_hasNoResult 54 = .ok (.iconst 0, 1) := by decide +kernel
theorem d_M_hasNoResult_55 : decode b_M_hasNoResult 55 = .ok (.ireturn, 1) := by decide +kernel
abbrev b_M_release : ByteArray := prog_5_method_29_code
def y_M_release : MethodName := ⟨R_M, "release", "(I)I"⟩
theorem d_M_release_0 : decode b_M_release 0 = .ok (.aload_n 0, 1) := by decide +kernel
theorem d_M_release_1 : decode b_M_release 1 = .ok (.iload_n 1, 1) := by decide +kernel
theorem d_M_release_2 : decode b_M_release 2 = .ok (.invokestatic 85, 3) := by decide +kernel
theorem d_M_release_5 : decode b_M_release 5 = .ok (.ifCond .eq 7, 3) := by decide +kernel
theorem d_M_release_8 : decode b_M_release 8 = .ok (.iconst 0, 1) := by decide +kernel
theorem d_M_release_9 : decode b_M_release 9 = .ok (.goto 4, 3) := by decide +kernel
theorem d_M_release_12 : decode b_M_release 12 = .ok (.iconst 1, 1) := by decide +kernel
theorem d_M_release_13 : decode b_M_release 13 = .ok (.putfield 74, 3) := by decide +kernel
theorem d_M_release_16 : decode b_M_release 16 = .ok (.aload_n 0, 1) := by decide +kernel
theorem d_M_release_17 : decode b_M_release 17 = .ok (.getfield 74, 3) := by decide +kernel
theorem d_M_release_20 : decode b_M_release 20 = .ok (.ifCond .le 5, 3) := by decide +kernel
theorem d_M_release_23 : decode b_M_release 23 = .ok (.iconst 0, 1) := by decide +kernel
theorem d_M_release_24 : decode b_M_release 24 = .ok (.ireturn, 1) := by decide +kernel
theorem d_M_release_25 : decode b_M_release 25 = .ok (.iconst 0, 1) := by decide +kernel
theorem d_M_release_26 : decode b_M_release 26 = .ok (.istore_n 2, 1) := by decide +kernel
theorem d_M_release_27 : decode b_M_release 27 = .ok (.iconst 0, 1) := by decide +kernel
theorem d_M_release_28 : decode b_M_release 28 = .ok (.istore_n 3, 1) := by decide +kernel
theorem d_M_release_29 : decode b_M_release 29 = .ok (.iload_n 3, 1) := by decide +kernel
theorem d_M_release_30 : decode b_M_release 30 = .ok (.aload_n 0, 1) := by decide +kernel
theorem d_M_release_31 : decode b_M_release 31 = .ok (.getfield 78, 3) := by decide +kernel
theorem d_M_release_34 : decode b_M_release 34 = .ok (.if_icmp .ge 49, 3) := by decide +kernel
theorem d_M_release_37 : decode b_M_release 37 = .ok (.iload_n 2, 1) := by decide +kernel
theorem d_M_release_38 : decode b_M_release 38 = .ok (.ifCond .ne 33, 3) := by decide +kernel
theorem d_M_release_41 : decode b_M_release 41 = .ok (.aload_n 0, 1) := by decide +kernel
theorem d_M_release_42 : decode b_M_release 42 = .ok (.getfield 13, 3) := by decide +kernel
theorem d_M_release_45 : decode b_M_release 45 = .ok (.iload_n 3, 1) := by decide +kernel
theorem d_M_release_46 : decode b_M_release 46 = .ok (.iaload, 1) := by decide +kernel
theorem d_M_release_47 : decode b_M_release 47 = .ok (.iload_n 1, 1) := by decide +kernel
theorem d_M_release_48 : decode b_M_release 48 = .ok (.if_icmp .ne 27, 3) := by decide +kernel
theorem d_M_release_51 : decode b_M_release 51 = .ok (.aload_n 0, 1) := by decide +kernel
theorem d_M_release_52 : decode b_M_release 52 = .ok (.getfield 23, 3) := by decide +kernel
theorem d_M_release_55 : decode b_M_release 55 = .ok (.iload_n 3, 1) := by decide +kernel
theorem d_M_release_56 : decode b_M_release 56 = .ok (.iaload, 1) := by decide +kernel
theorem d_M_release_57 : decode b_M_release 57 = .ok (.iconst 3, 1) := by decide +kernel
theorem d_M_release_58 : decode b_M_release 58 = .ok (.if_icmp .eq 17, 3) := by decide +kernel
theorem d_M_release_61 : decode b_M_release 61 = .ok (.aload_n 0, 1) := by decide +kernel
theorem d_M_release_62 : decode b_M_release 62 = .ok (.getfield 23, 3) := by decide +kernel
theorem d_M_release_65 : decode b_M_release 65 = .ok (.iload_n 3, 1) := by decide +kernel
theorem d_M_release_66 : decode b_M_release 66 = .ok (.iaload, 1) := by decide +kernel
theorem d_M_release_67 : decode b_M_release 67 = .ok (.iconst 5, 1) := by decide +kernel
theorem d_M_release_68 : decode b_M_release 68 = .ok (.if_icmp .eq 7, 3) := by decide +kernel
theorem d_M_release_71 : decode b_M_release 71 = .ok (.iconst 1, 1) := by decide +kernel
theorem d_M_release_72 : decode b_M_release 72 = .ok (.goto 4, 3) := by decide +kernel
theorem d_M_release_75 : decode b_M_release 75 = .ok (.iconst 0, 1) := by decide +kernel
theorem d_M_release_76 : decode b_M_release 76 = .ok (.istore_n 2, 1) := by decide +kernel
theorem d_M_release_77 : decode b_M_release 77 = .ok (.iinc 3 1, 3) := by decide +kernel
theorem d_M_release_80 : decode b_M_release 80 = .ok (.goto (-51), 3) := by decide +kernel
theorem d_M_release_83 : decode b_M_release 83 = .ok (.iconst 0, 1) := by decide +kernel
theorem d_M_release_84 : decode b_M_release 84 = .ok (.istore_n 3, 1) := by decide +kernel
theorem d_M_release_85 : decode b_M_release 85 = .ok (.iconst 0, 1) := by decide +kernel
theorem d_M_release_86 : decode b_M_release 86 = .ok (.istore 4, 2) := by decide +kernel
theorem d_M_release_88 : decode b_M_release 88 = .ok (.iload 4, 2) := by decide +kernel
theorem d_M_release_90 : decode b_M_release 90 = .ok (.aload_n 0, 1) := by decide +kernel
theorem d_M_release_91 : decode b_M_release 91 = .ok (.getfield 110, 3) := by decide +kernel
theorem d_M_release_94 : decode b_M_release 94 = .ok (.if_icmp .ge 38, 3) := by decide +kernel
theorem d_M_release_97 : decode b_M_release 97 = .ok (.iload_n 3, 1) := by decide +kernel
theorem d_M_release_98 : decode b_M_release 98 = .ok (.ifCond .ne 22, 3) := by decide +kernel
theorem d_M_release_101 : decode b_M_release 101 = .ok (.aload_n 0, 1) := by decide +kernel
theorem d_M_release_102 : decode b_M_release 102 = .ok (.iload 4, 2) := by decide +kernel
theorem d_M_release_104 : decode b_M_release 104 = .ok (.iload_n 1, 1) := by decide +kernel
theorem d_M_release_105 : decode b_M_release 105 = .ok (.invokevirtual 123, 3) := by decide +kernel
theorem d_M_release_108 : decode b_M_release 108 = .ok (.ifCond .eq 16, 3) := by decide +kernel
theorem d_M_release_111 : decode b_M_release 111 = .ok (.aload_n 0, 1) := by decide +kernel
theorem d_M_release_112 : decode b_M_release 112 = .ok (.iload 4, 2) := by decide +kernel
theorem d_M_release_114 : decode b_M_release 114 = .ok (.invokevirtual 130, 3) := by decide +kernel
theorem d_M_release_117 : decode b_M_release 117 = .ok (.ifCond .eq 7, 3) := by decide +kernel
theorem d_M_release_120 : decode b_M_release 120 = .ok (.iconst 1, 1) := by decide +kernel
theorem d_M_release_121 : decode b_M_release 121 = .ok (.goto 4, 3) := by decide +kernel
theorem d_M_release_124 : decode b_M_release 124 = .ok (.iconst 0, 1) := by decide +kernel
theorem d_M_release_125 : decode b_M_release 125 = .ok (.istore_n 3, 1) := by decide +kernel
theorem d_M_release_126 : decode b_M_release 126 = .ok (.iinc 4 1, 3) := by decide +kernel
theorem d_M_release_129 : decode b_M_release 129 = .ok (.goto (-41), 3) := by decide +kernel
theorem d_M_release_132 : decode b_M_release 132 = .ok (.iload_n 2, 1) := by decide +kernel
theorem d_M_release_133 : decode b_M_release 133 = .ok (.ifCond .eq 7, 3) := by decide +kernel
theorem d_M_release_136 : decode b_M_release 136 = .ok (.iconst 1, 1) := by decide +kernel
theorem d_M_release_137 : decode b_M_release 137 = .ok (.goto 51, 3) := by decide +kernel
theorem d_M_release_140 : decode b_M_release 140 = .ok (.aload_n 0, 1) := by decide +kernel
theorem d_M_release_141 : decode b_M_release 141 = .ok (.getfield 47, 3) := by decide +kernel
theorem d_M_release_144 : decode b_M_release 144 = .ok (.iload_n 1, 1) := by decide +kernel
theorem d_M_release_145 : decode b_M_release 145 = .ok (.baload, 1) := by decide +kernel
theorem d_M_release_146 : decode b_M_release 146 = .ok (.ifCond .eq 7, 3) := by decide +kernel
theorem d_M_release_149 : decode b_M_release 149 = .ok (.iconst 2, 1) := by decide +kernel
theorem d_M_release_150 : decode b_M_release 150 = .ok (.goto 38, 3) := by decide +kernel
theorem d_M_release_153 : decode b_M_release 153 = .ok (.aload_n 0, 1) := by decide +kernel
theorem d_M_release_154 : decode b_M_release 154 = .ok (.getfield 50, 3) := by decide +kernel
theorem d_M_release_157 : decode b_M_release 157 = .ok (.iload_n 1, 1) := by decide +kernel
theorem d_M_release_158 : decode b_M_release 158 = .ok (.iaload, 1) := by decide +kernel
theorem d_M_release_159 : decode b_M_release 159 = .ok (.ifCond .eq 7, 3) := by decide +kernel
theorem d_M_release_162 : decode b_M_release 162 = .ok (.iconst 3, 1) := by decide +kernel
theorem d_M_release_163 : decode b_M_release 163 = .ok (.goto 25, 3) := by decide +kernel
theorem d_M_release_166 : decode b_M_release 166 = .ok (.iload_n 3, 1) := by decide +kernel
theorem d_M_release_167 : decode b_M_release 167 = .ok (.ifCond .eq 7, 3) := by decide +kernel
theorem d_M_release_170 : decode b_M_release 170 = .ok (.iconst 4, 1) := by decide +kernel
theorem d_M_release_171 : decode b_M_release 171 = .ok (.goto 17, 3) := by decide +kernel
theorem d_M_release_174 : decode b_M_release 174 = .ok (.aload_n 0, 1) := by decide +kernel
theorem d_M_release_175 : decode b_M_release 175 = .ok (.iload_n 1, 1) := by decide +kernel
theorem d_M_release_176 : decode b_M_release 176 = .ok (.iconst 0, 1) := by decide +kernel
theorem d_M_release_177 : decode b_M_release 177 = .ok (.invokevirtual 126, 3) := by decide +kernel
theorem d_M_release_180 : decode b_M_release 180 = .ok (.ifCond .le 7, 3) := by decide +kernel
theorem d_M_release_183 : decode b_M_release 183 = .ok (.iconst 5, 1) := by decide +kernel
theorem d_M_release_184 : decode b_M_release 184 = .ok (.goto 4, 3) := by decide +kernel
theorem d_M_release_187 : decode b_M_release 187 = .ok (.iconst 0, 1) := by decide +kernel
theorem d_M_release_188 : decode b_M_release 188 = .ok (.ireturn, 1) := by decide +kernel
abbrev b_M_samplesOf : ByteArray := prog_5_method_30_code
def y_M_samplesOf : MethodName := ⟨R_M, "samplesOf", "(I)I"⟩
theorem d_M_samplesOf_0 : decode b_M_samplesOf 0 = .ok (.iconst 0, 1) := by decide +kernel
theorem d_M_samplesOf_1 : decode b_M_samplesOf 1 = .ok (.istore_n 2, 1) := by decide +kernel
theorem d_M_samplesOf_2 : decode b_M_samplesOf 2 = .ok (.iconst 0, 1) := by decide +kernel
theorem d_M_samplesOf_3 : decode b_M_samplesOf 3 = .ok (.istore_n 3, 1) := by decide +kernel
theorem d_M_samplesOf_4 : decode b_M_samplesOf 4 = .ok (.iload_n 3, 1) := by decide +kernel
theorem d_M_samplesOf_5 : decode b_M_samplesOf 5 = .ok (.aload_n 0, 1) := by decide +kernel
theorem d_M_samplesOf_6 : decode b_M_samplesOf 6 = .ok (.getfield 110, 3) := by decide +kernel
theorem d_M_samplesOf_9 : decode b_M_samplesOf 9 = .ok (.if_icmp .ge 27, 3) := by decide +kernel
theorem d_M_samplesOf_12 : decode b_M_samplesOf 12 = .ok (.iload_n 2, 1) := by decide +kernel
theorem d_M_samplesOf_13 : decode b_M_samplesOf 13 = .ok (.aload_n 0, 1) := by decide +kernel
theorem d_M_samplesOf_14 : decode b_M_samplesOf 14 = .ok (.getfield 56, 3) := by decide +kernel
theorem d_M_samplesOf_17 : decode b_M_samplesOf 17 = .ok (.iload_n 3, 1) := by decide +kernel
theorem d_M_samplesOf_18 : decode b_M_samplesOf 18 = .ok (.iaload, 1) := by decide +kernel
theorem d_M_samplesOf_19 : decode b_M_samplesOf 19 = .ok (.iload_n 1, 1) := by decide +kernel
theorem d_M_samplesOf_20 : decode b_M_samplesOf 20 = .ok (.if_icmp .ne 7, 3) := by decide +kernel
theorem d_M_samplesOf_23 : decode b_M_samplesOf 23 = .ok (.iconst 1, 1) := by decide +kernel
theorem d_M_samplesOf_24 : decode b_M_samplesOf 24 = .ok (.goto 4, 3) := by decide +kernel
theorem d_M_samplesOf_27 : decode b_M_samplesOf 27 = .ok (.iconst 0, 1) := by decide +kernel
theorem d_M_samplesOf_28 : decode b_M_samplesOf 28 = .ok (.iadd, 1) := by decide +kernel
theorem d_M_samplesOf_29 : decode b_M_samplesOf 29 = .ok (.istore_n 2, 1) := by decide +kernel
theorem d_M_samplesOf_30 : decode b_M_samplesOf 30 = .ok (.iinc 3 1, 3) := by decide +kernel
theorem d_M_samplesOf_33 : decode b_M_samplesOf 33 = .ok (.goto (-29), 3) := by decide +kernel
theorem d_M_samplesOf_36 : decode b_M_samplesOf 36 = .ok (.iload_n 2, 1) := by decide +kernel
theorem d_M_samplesOf_37 : decode b_M_samplesOf 37 = .ok (.ireturn, 1) := by decide +kernel
abbrev b_M_look : ByteArray := prog_5_method_31_code
def y_M_look : MethodName := ⟨R_M, "look", "(II)I"⟩
theorem d_M_look_0 : decode b_M_look 0 = .ok (.aload_n 0, 1) := by decide +kernel
theorem d_M_look_1 : decode b_M_look 1 = .ok (.aload_n 0, 1) := by decide +kernel
theorem d_M_look_2 : decode b_M_look 2 = .ok (.iload_n 1, 1) := by decide +kernel
theorem d_M_look_3 : decode b_M_look 3 = .ok (.invokevirtual 100, 3) := by decide +kernel
theorem d_M_look_6 : decode b_M_look 6 = .ok (.ifCond .eq 17, 3) := by decide +kernel
theorem d_M_look_9 : decode b_M_look 9 = .ok (.iload_n 2, 1) := by decide +kernel
theorem d_M_look_10 : decode b_M_look 10 = .ok (.iconst 0, 1) := by decide +kernel
theorem d_M_look_11 : decode b_M_look 11 = .ok (.bipush 8, 2) := by decide +kernel
theorem d_M_look_13 : decode b_M_look 13 = .ok (.invokestatic 89, 3) := by decide +kernel
theorem d_M_look_16 : decode b_M_look 16 = .ok (.ifCond .eq 7, 3) := by decide +kernel
theorem d_M_look_19 : decode b_M_look 19 = .ok (.iconst 0, 1) := by decide +kernel
theorem d_M_look_20 : decode b_M_look 20 = .ok (.goto 4, 3) := by decide +kernel
theorem d_M_look_23 : decode b_M_look 23 = .ok (.iconst 1, 1) := by decide +kernel
theorem d_M_look_24 : decode b_M_look 24 = .ok (.putfield 74, 3) := by decide +kernel
theorem d_M_look_27 : decode b_M_look 27 = .ok (.aload_n 0, 1) := by decide +kernel
theorem d_M_look_28 : decode b_M_look 28 = .ok (.getfield 74, 3) := by decide +kernel
theorem d_M_look_31 : decode b_M_look 31 = .ok (.ifCond .le 5, 3) := by decide +kernel
theorem d_M_look_34 : decode b_M_look 34 = .ok (.iconst 0, 1) := by decide +kernel
theorem d_M_look_35 : decode b_M_look 35 = .ok (.ireturn, 1) := by decide +kernel
theorem d_M_look_36 : decode b_M_look 36 = .ok (.iload_n 2, 1) := by decide +kernel
theorem d_M_look_37 : decode b_M_look 37 = .ok (.tableswitch 139 0 7 #[47, 54, 61, 68, 75, 94, 113, 132], 47) := by decide +kernel
theorem d_M_look_84 : decode b_M_look 84 = .ok (.aload_n 0, 1) := by decide +kernel
theorem d_M_look_85 : decode b_M_look 85 = .ok (.getfield 13, 3) := by decide +kernel
theorem d_M_look_88 : decode b_M_look 88 = .ok (.iload_n 1, 1) := by decide +kernel
theorem d_M_look_89 : decode b_M_look 89 = .ok (.iaload, 1) := by decide +kernel
theorem d_M_look_90 : decode b_M_look 90 = .ok (.ireturn, 1) := by decide +kernel
theorem d_M_look_91 : decode b_M_look 91 = .ok (.aload_n 0, 1) := by decide +kernel
theorem d_M_look_92 : decode b_M_look 92 = .ok (.getfield 17, 3) := by decide +kernel
theorem d_M_look_95 : decode b_M_look 95 = .ok (.iload_n 1, 1) := by decide +kernel
theorem d_M_look_96 : decode b_M_look 96 = .ok (.iaload, 1) := by decide +kernel
theorem d_M_look_97 : decode b_M_look 97 = .ok (.ireturn, 1) := by decide +kernel
theorem d_M_look_98 : decode b_M_look 98 = .ok (.aload_n 0, 1) := by decide +kernel
theorem d_M_look_99 : decode b_M_look 99 = .ok (.getfield 23, 3) := by decide +kernel
theorem d_M_look_102 : decode b_M_look 102 = .ok (.iload_n 1, 1) := by decide +kernel
theorem d_M_look_103 : decode b_M_look 103 = .ok (.iaload, 1) := by decide +kernel
theorem d_M_look_104 : decode b_M_look 104 = .ok (.ireturn, 1) := by decide +kernel
theorem d_M_look_105 : decode b_M_look 105 = .ok (.aload_n 0, 1) := by decide +kernel
theorem d_M_look_106 : decode b_M_look 106 = .ok (.getfield 26, 3) := by decide +kernel
theorem d_M_look_109 : decode b_M_look 109 = .ok (.iload_n 1, 1) := by decide +kernel
theorem d_M_look_110 : decode b_M_look 110 = .ok (.iaload, 1) := by decide +kernel
theorem d_M_look_111 : decode b_M_look 111 = .ok (.ireturn, 1) := by decide +kernel
theorem d_M_look_112 : decode b_M_look 112 = .ok (.aload_n 0, 1) := by decide +kernel
theorem d_M_look_113 : decode b_M_look 113 = .ok (.iload_n 1, 1) := by decide +kernel
theorem d_M_look_114 : decode b_M_look 114 = .ok (.invokevirtual 103, 3) := by decide +kernel
theorem d_M_look_117 : decode b_M_look 117 = .ok (.ifCond .eq 12, 3) := by decide +kernel
theorem d_M_look_120 : decode b_M_look 120 = .ok (.aload_n 0, 1) := by decide +kernel
theorem d_M_look_121 : decode b_M_look 121 = .ok (.getfield 29, 3) := by decide +kernel
theorem d_M_look_124 : decode b_M_look 124 = .ok (.iload_n 1, 1) := by decide +kernel
theorem d_M_look_125 : decode b_M_look 125 = .ok (.iaload, 1) := by decide +kernel
theorem d_M_look_126 : decode b_M_look 126 = .ok (.goto 4, 3) := by decide +kernel
theorem d_M_look_129 : decode b_M_look 129 = .ok (.iconst (-1), 1) := by decide +kernel
theorem d_M_look_130 : decode b_M_look 130 = .ok (.ireturn, 1) := by decide +kernel
theorem d_M_look_131 : decode b_M_look 131 = .ok (.aload_n 0, 1) := by decide +kernel
theorem d_M_look_132 : decode b_M_look 132 = .ok (.iload_n 1, 1) := by decide +kernel
theorem d_M_look_133 : decode b_M_look 133 = .ok (.invokevirtual 103, 3) := by decide +kernel
theorem d_M_look_136 : decode b_M_look 136 = .ok (.ifCond .eq 12, 3) := by decide +kernel
theorem d_M_look_139 : decode b_M_look 139 = .ok (.aload_n 0, 1) := by decide +kernel
theorem d_M_look_140 : decode b_M_look 140 = .ok (.getfield 32, 3) := by decide +kernel
theorem d_M_look_143 : decode b_M_look 143 = .ok (.iload_n 1, 1) := by decide +kernel
theorem d_M_look_144 : decode b_M_look 144 = .ok (.iaload, 1) := by decide +kernel
theorem d_M_look_145 : decode b_M_look 145 = .ok (.goto 4, 3) := by decide +kernel
theorem d_M_look_148 : decode b_M_look 148 = .ok (.iconst (-1), 1) := by decide +kernel
theorem d_M_look_149 : decode b_M_look 149 = .ok (.ireturn, 1) := by decide +kernel
theorem d_M_look_150 : decode b_M_look 150 = .ok (.aload_n 0, 1) := by decide +kernel
theorem d_M_look_151 : decode b_M_look 151 = .ok (.iload_n 1, 1) := by decide +kernel
theorem d_M_look_152 : decode b_M_look 152 = .ok (.invokevirtual 103, 3) := by decide +kernel
theorem d_M_look_155 : decode b_M_look 155 = .ok (.ifCond .eq 12, 3) := by decide +kernel
theorem d_M_look_158 : decode b_M_look 158 = .ok (.aload_n 0, 1) := by decide +kernel
theorem d_M_look_159 : decode b_M_look 159 = .ok (.getfield 35, 3) := by decide +kernel
theorem d_M_look_162 : decode b_M_look 162 = .ok (.iload_n 1, 1) := by decide +kernel
theorem d_M_look_163 : decode b_M_look 163 = .ok (.iaload, 1) := by decide +kernel
theorem d_M_look_164 : decode b_M_look 164 = .ok (.goto 4, 3) := by decide +kernel
theorem d_M_look_167 : decode b_M_look 167 = .ok (.iconst (-1), 1) := by decide +kernel
theorem d_M_look_168 : decode b_M_look 168 = .ok (.ireturn, 1) := by decide +kernel
theorem d_M_look_169 : decode b_M_look 169 = .ok (.aload_n 0, 1) := by decide +kernel
theorem d_M_look_170 : decode b_M_look 170 = .ok (.getfield 38, 3) := by decide +kernel
theorem d_M_look_173 : decode b_M_look 173 = .ok (.iload_n 1, 1) := by decide +kernel
theorem d_M_look_174 : decode b_M_look 174 = .ok (.iaload, 1) := by decide +kernel
theorem d_M_look_175 : decode b_M_look 175 = .ok (.ireturn, 1) := by decide +kernel
theorem d_M_look_176 : decode b_M_look 176 = .ok (.aload_n 0, 1) := by decide +kernel
theorem d_M_look_177 : decode b_M_look 177 = .ok (.iload_n 1, 1) := by decide +kernel
theorem d_M_look_178 : decode b_M_look 178 = .ok (.invokevirtual 133, 3) := by decide +kernel
theorem d_M_look_181 : decode b_M_look 181 = .ok (.ireturn, 1) := by decide +kernel
abbrev b_M_costsOf : ByteArray := prog_5_method_32_code
def y_M_costsOf : MethodName := ⟨R_M, "costsOf", "(I)I"⟩
theorem d_M_costsOf_0 : decode b_M_costsOf 0 = .ok (.iconst 0, 1) := by decide +kernel
theorem d_M_costsOf_1 : decode b_M_costsOf 1 = .ok (.istore_n 2, 1) := by decide +kernel
theorem d_M_costsOf_2 : decode b_M_costsOf 2 = .ok (.iconst 0, 1) := by decide +kernel
theorem d_M_costsOf_3 : decode b_M_costsOf 3 = .ok (.istore_n 3, 1) := by decide +kernel
theorem d_M_costsOf_4 : decode b_M_costsOf 4 = .ok (.iload_n 3, 1) := by decide +kernel
theorem d_M_costsOf_5 : decode b_M_costsOf 5 = .ok (.aload_n 0, 1) := by decide +kernel
theorem d_M_costsOf_6 : decode b_M_costsOf 6 = .ok (.getfield 78, 3) := by decide +kernel
theorem d_M_costsOf_9 : decode b_M_costsOf 9 = .ok (.if_icmp .ge 53, 3) := by decide +kernel
theorem d_M_costsOf_12 : decode b_M_costsOf 12 = .ok (.iload_n 2, 1) := by decide +kernel
theorem d_M_costsOf_13 : decode b_M_costsOf 13 = .ok (.aload_n 0, 1) := by decide +kernel
theorem d_M_costsOf_14 : decode b_M_costsOf 14 = .ok (.getfield 13, 3) := by decide +kernel
theorem d_M_costsOf_17 : decode b_M_costsOf 17 = .ok (.iload_n 3, 1) := by decide +kernel
theorem d_M_costsOf_18 : decode b_M_costsOf 18 = .ok (.iaload, 1) := by decide +kernel
theorem d_M_costsOf_19 : decode b_M_costsOf 19 = .ok (.iload_n 1, 1) := by decide +kernel
theorem d_M_costsOf_20 : decode b_M_costsOf 20 = .ok (.if_icmp .ne 33, 3) := by decide +kernel
theorem d_M_costsOf_23 : decode b_M_costsOf 23 = .ok (.bipush 100, 2) := by decide +kernel
theorem d_M_costsOf_25 : decode b_M_costsOf 25 = .ok (.aload_n 0, 1) := by decide +kernel
theorem d_M_costsOf_26 : decode b_M_costsOf 26 = .ok (.getfield 17, 3) := by decide +kernel
theorem d_M_costsOf_29 : decode b_M_costsOf 29 = .ok (.iload_n 3, 1) := by decide +kernel
theorem d_M_costsOf_30 : decode b_M_costsOf 30 = .ok (.iaload, 1) := by decide +kernel
theorem d_M_costsOf_31 : decode b_M_costsOf 31 = .ok (.iconst 1, 1) := by decide +kernel
theorem d_M_costsOf_32 : decode b_M_costsOf 32 = .ok (.iadd, 1) := by decide +kernel
theorem d_M_costsOf_33 : decode b_M_costsOf 33 = .ok (.imul, 1) := by decide +kernel
theorem d_M_costsOf_34 : decode b_M_costsOf 34 = .ok (.aload_n 0, 1) := by decide +kernel
theorem d_M_costsOf_35 : decode b_M_costsOf 35 = .ok (.getfield 41, 3) := by decide +kernel
theorem d_M_costsOf_38 : decode b_M_costsOf 38 = .ok (.iload_n 3, 1) := by decide +kernel
theorem d_M_costsOf_39 : decode b_M_costsOf 39 = .ok (.iaload, 1) := by decide +kernel
theorem d_M_costsOf_40 : decode b_M_costsOf 40 = .ok (.imul, 1) := by decide +kernel
theorem d_M_costsOf_41 : decode b_M_costsOf 41 = .ok (.bipush 50, 2) := by decide +kernel
theorem d_M_costsOf_43 : decode b_M_costsOf 43 = .ok (.aload_n 0, 1) := by decide +kernel
theorem d_M_costsOf_44 : decode b_M_costsOf 44 = .ok (.iload_n 3, 1) := by decide +kernel
theorem d_M_costsOf_45 : decode b_M_costsOf 45 = .ok (.invokevirtual 133, 3) := by decide +kernel
theorem d_M_costsOf_48 : decode b_M_costsOf 48 = .ok (.imul, 1) := by decide +kernel
theorem d_M_costsOf_49 : decode b_M_costsOf 49 = .ok (.iadd, 1) := by decide +kernel
theorem d_M_costsOf_50 : decode b_M_costsOf 50 = .ok (.goto 4, 3) := by decide +kernel
theorem d_M_costsOf_53 : decode b_M_costsOf 53 = .ok (.iconst 0, 1) := by decide +kernel
theorem d_M_costsOf_54 : decode b_M_costsOf 54 = .ok (.iadd, 1) := by decide +kernel
theorem d_M_costsOf_55 : decode b_M_costsOf 55 = .ok (.istore_n 2, 1) := by decide +kernel
theorem d_M_costsOf_56 : decode b_M_costsOf 56 = .ok (.iinc 3 1, 3) := by decide +kernel
theorem d_M_costsOf_59 : decode b_M_costsOf 59 = .ok (.goto (-55), 3) := by decide +kernel
theorem d_M_costsOf_62 : decode b_M_costsOf 62 = .ok (.iload_n 2, 1) := by decide +kernel
theorem d_M_costsOf_63 : decode b_M_costsOf 63 = .ok (.ireturn, 1) := by decide +kernel
abbrev b_M_count : ByteArray := prog_5_method_33_code
def y_M_count : MethodName := ⟨R_M, "count", "(I)I"⟩
theorem d_M_count_0 : decode b_M_count 0 = .ok (.aload_n 0, 1) := by decide +kernel
theorem d_M_count_1 : decode b_M_count 1 = .ok (.iconst 0, 1) := by decide +kernel
theorem d_M_count_2 : decode b_M_count 2 = .ok (.putfield 74, 3) := by decide +kernel
theorem d_M_count_5 : decode b_M_count 5 = .ok (.iload_n 1, 1) := by decide +kernel
theorem d_M_count_6 : decode b_M_count 6 = .ok (.bipush 10, 2) := by decide +kernel
theorem d_M_count_8 : decode b_M_count 8 = .ok (.if_icmp .lt 78, 3) := by decide +kernel
theorem d_M_count_11 : decode b_M_count 11 = .ok (.iload_n 1, 1) := by decide +kernel
theorem d_M_count_12 : decode b_M_count 12 = .ok (.bipush 50, 2) := by decide +kernel
theorem d_M_count_14 : decode b_M_count 14 = .ok (.if_icmp .ge 72, 3) := by decide +kernel
theorem d_M_count_17 : decode b_M_count 17 = .ok (.iload_n 1, 1) := by decide +kernel
theorem d_M_count_18 : decode b_M_count 18 = .ok (.bipush 10, 2) := by decide +kernel
theorem d_M_count_20 : decode b_M_count 20 = .ok (.irem, 1) := by decide +kernel
theorem d_M_count_21 : decode b_M_count 21 = .ok (.istore_n 2, 1) := by decide +kernel
theorem d_M_count_22 : decode b_M_count 22 = .ok (.iload_n 1, 1) := by decide +kernel
theorem d_M_count_23 : decode b_M_count 23 = .ok (.bipush 20, 2) := by decide +kernel
theorem d_M_count_25 : decode b_M_count 25 = .ok (.if_icmp .ge 25, 3) := by decide +kernel
theorem d_M_count_28 : decode b_M_count 28 = .ok (.aload_n 0, 1) := by decide +kernel
theorem d_M_count_29 : decode b_M_count 29 = .ok (.getfield 47, 3) := by decide +kernel
theorem d_M_count_32 : decode b_M_count 32 = .ok (.iload_n 2, 1) := by decide +kernel
theorem d_M_count_33 : decode b_M_count 33 = .ok (.baload, 1) := by decide +kernel
theorem d_M_count_34 : decode b_M_count 34 = .ok (.ifCond .eq 7, 3) := by decide +kernel
theorem d_M_count_37 : decode b_M_count 37 = .ok (.iconst (-1), 1) := by decide +kernel
theorem d_M_count_38 : decode b_M_count 38 = .ok (.goto 47, 3) := by decide +kernel
theorem d_M_count_41 : decode b_M_count 41 = .ok (.aload_n 0, 1) := by decide +kernel
theorem d_M_count_42 : decode b_M_count 42 = .ok (.getfield 44, 3) := by decide +kernel
theorem d_M_count_45 : decode b_M_count 45 = .ok (.iload_n 2, 1) := by decide +kernel
theorem d_M_count_46 : decode b_M_count 46 = .ok (.iaload, 1) := by decide +kernel
theorem d_M_count_47 : decode b_M_count 47 = .ok (.goto 38, 3) := by decide +kernel
theorem d_M_count_50 : decode b_M_count 50 = .ok (.iload_n 1, 1) := by decide +kernel
theorem d_M_count_51 : decode b_M_count 51 = .ok (.bipush 30, 2) := by decide +kernel
theorem d_M_count_53 : decode b_M_count 53 = .ok (.if_icmp .ge 12, 3) := by decide +kernel
theorem d_M_count_56 : decode b_M_count 56 = .ok (.aload_n 0, 1) := by decide +kernel
theorem d_M_count_57 : decode b_M_count 57 = .ok (.getfield 50, 3) := by decide +kernel
theorem d_M_count_60 : decode b_M_count 60 = .ok (.iload_n 2, 1) := by decide +kernel
theorem d_M_count_61 : decode b_M_count 61 = .ok (.iaload, 1) := by decide +kernel
theorem d_M_count_62 : decode b_M_count 62 = .ok (.goto 23, 3) := by decide +kernel
theorem d_M_count_65 : decode b_M_count 65 = .ok (.iload_n 1, 1) := by decide +kernel
theorem d_M_count_66 : decode b_M_count 66 = .ok (.bipush 40, 2) := by decide +kernel
theorem d_M_count_68 : decode b_M_count 68 = .ok (.if_icmp .ge 11, 3) := by decide +kernel
theorem d_M_count_71 : decode b_M_count 71 = .ok (.aload_n 0, 1) := by decide +kernel
theorem d_M_count_72 : decode b_M_count 72 = .ok (.iload_n 2, 1) := by decide +kernel
theorem d_M_count_73 : decode b_M_count 73 = .ok (.invokevirtual 136, 3) := by decide +kernel
theorem d_M_count_76 : decode b_M_count 76 = .ok (.goto 9, 3) := by decide +kernel
theorem d_M_count_79 : decode b_M_count 79 = .ok (.aload_n 0, 1) := by decide +kernel
theorem d_M_count_80 : decode b_M_count 80 = .ok (.iload_n 2, 1) := by decide +kernel
theorem d_M_count_81 : decode b_M_count 81 = .ok (.iconst 1, 1) := by decide +kernel
theorem d_M_count_82 : decode b_M_count 82 = .ok (.invokevirtual 126, 3) := by decide +kernel
theorem d_M_count_85 : decode b_M_count 85 = .ok (.ireturn, 1) := by decide +kernel
theorem d_M_count_86 : decode b_M_count 86 = .ok (.iload_n 1, 1) := by decide +kernel
theorem d_M_count_87 : decode b_M_count 87 = .ok (.ifCond .ne 10, 3) := by decide +kernel
theorem d_M_count_90 : decode b_M_count 90 = .ok (.aload_n 0, 1) := by decide +kernel
theorem d_M_count_91 : decode b_M_count 91 = .ok (.getfield 78, 3) := by decide +kernel
theorem d_M_count_94 : decode b_M_count 94 = .ok (.goto 28, 3) := by decide +kernel
theorem d_M_count_97 : decode b_M_count 97 = .ok (.iload_n 1, 1) := by decide +kernel
theorem d_M_count_98 : decode b_M_count 98 = .ok (.iconst 1, 1) := by decide +kernel
theorem d_M_count_99 : decode b_M_count 99 = .ok (.if_icmp .ne 10, 3) := by decide +kernel
theorem d_M_count_102 : decode b_M_count 102 = .ok (.aload_n 0, 1) := by decide +kernel
theorem d_M_count_103 : decode b_M_count 103 = .ok (.getfield 110, 3) := by decide +kernel
theorem d_M_count_106 : decode b_M_count 106 = .ok (.goto 16, 3) := by decide +kernel
theorem d_M_count_109 : decode b_M_count 109 = .ok (.iload_n 1, 1) := by decide +kernel
theorem d_M_count_110 : decode b_M_count 110 = .ok (.iconst 2, 1) := by decide +kernel
theorem d_M_count_111 : decode b_M_count 111 = .ok (.if_icmp .ne 10, 3) := by decide +kernel
theorem d_M_count_114 : decode b_M_count 114 = .ok (.aload_n 0, 1) := by decide +kernel
theorem d_M_count_115 : decode b_M_count 115 = .ok (.getfield 81, 3) := by decide +kernel
theorem d_M_count_118 : decode b_M_count 118 = .ok (.goto 4, 3) := by decide +kernel
theorem d_M_count_121 : decode b_M_count 121 = .ok (.iconst (-1), 1) := by decide +kernel
theorem d_M_count_122 : decode b_M_count 122 = .ok (.ireturn, 1) := by decide +kernel
end
section
def GW : List Cond := lw_tbl.filter goodWord
theorem GW_good : ∀ w ∈ GW, goodWord w = true := fun w h => (List.mem_filter.mp h).2
theorem GW_in : ∀ w ∈ GW, w ∈ lw_tbl := fun w h => (List.mem_filter.mp h).1
theorem gw_of {w : Cond} (h : w ∈ lw_tbl) (g : goodWord w = true) : w ∈ GW := List.mem_filter.mpr ⟨h, g⟩
theorem kw_0 : (Jvm.Cond.initialized "InspectStepsLaw") ∈ GW := gw_of (List.mem_append_right _ (List.mem_append_left _ (List.mem_of_getElem? (i := 0) rfl))) rfl
theorem kw_1 : (Jvm.Cond.initialized "InspectSteps") ∈ GW := gw_of (List.mem_append_right _ (List.mem_append_left _ (List.mem_of_getElem? (i := 1) rfl))) rfl
theorem kw_2 : (Jvm.Cond.initialized "java/util/AbstractCollection") ∈ GW := gw_of (List.mem_append_right _ (List.mem_append_left _ (List.mem_of_getElem? (i := 2) rfl))) rfl
theorem kw_3 : (Jvm.Cond.initialized "java/util/AbstractList") ∈ GW := gw_of (List.mem_append_right _ (List.mem_append_left _ (List.mem_of_getElem? (i := 3) rfl))) rfl
theorem kw_4 : (Jvm.Cond.initialized "java/util/ArrayList") ∈ GW := gw_of (List.mem_append_right _ (List.mem_append_left _ (List.mem_of_getElem? (i := 4) rfl))) rfl
theorem kw_5 : (Jvm.Cond.initialized "java/util/Arrays") ∈ GW := gw_of (List.mem_append_right _ (List.mem_append_left _ (List.mem_of_getElem? (i := 5) rfl))) rfl
theorem kw_6 : (Jvm.Cond.initialized "InspectStepsModel") ∈ GW := gw_of (List.mem_append_right _ (List.mem_append_left _ (List.mem_of_getElem? (i := 6) rfl))) rfl
theorem kw_7 : (Jvm.Cond.initialized "java/lang/Throwable") ∈ GW := gw_of (List.mem_append_right _ (List.mem_append_left _ (List.mem_of_getElem? (i := 7) rfl))) rfl
theorem kw_8 : (Jvm.Cond.initialized "java/lang/Exception") ∈ GW := gw_of (List.mem_append_right _ (List.mem_append_left _ (List.mem_of_getElem? (i := 8) rfl))) rfl
theorem kw_9 : (Jvm.Cond.initialized "java/lang/RuntimeException") ∈ GW := gw_of (List.mem_append_right _ (List.mem_append_left _ (List.mem_of_getElem? (i := 9) rfl))) rfl
theorem kw_10 : (Jvm.Cond.initialized "java/lang/IllegalArgumentException") ∈ GW := gw_of (List.mem_append_right _ (List.mem_append_left _ (List.mem_of_getElem? (i := 10) rfl))) rfl
theorem kw_11 : (Jvm.Cond.initialized "java/lang/IllegalStateException") ∈ GW := gw_of (List.mem_append_right _ (List.mem_append_left _ (List.mem_of_getElem? (i := 11) rfl))) rfl
theorem kw_12 : (Jvm.Cond.initialized "InspectSteps$Inspection") ∈ GW := gw_of (List.mem_append_right _ (List.mem_append_left _ (List.mem_of_getElem? (i := 12) rfl))) rfl
theorem kw_13 : (Jvm.Cond.initialized "jdk/internal/util/ArraysSupport") ∈ GW := gw_of (List.mem_append_right _ (List.mem_append_left _ (List.mem_of_getElem? (i := 13) rfl))) rfl
theorem kw_14 : (Jvm.Cond.initialized "java/lang/Math") ∈ GW := gw_of (List.mem_append_right _ (List.mem_append_left _ (List.mem_of_getElem? (i := 14) rfl))) rfl
theorem kw_15 : (Jvm.Cond.initialized "java/lang/System") ∈ GW := gw_of (List.mem_append_right _ (List.mem_append_left _ (List.mem_of_getElem? (i := 15) rfl))) rfl
theorem kw_16 : (Jvm.Cond.initialized "java/util/Objects") ∈ GW := gw_of (List.mem_append_right _ (List.mem_append_left _ (List.mem_of_getElem? (i := 16) rfl))) rfl
theorem kw_17 : (Jvm.Cond.initialized "jdk/internal/util/Preconditions") ∈ GW := gw_of (List.mem_append_right _ (List.mem_append_left _ (List.mem_of_getElem? (i := 17) rfl))) rfl
theorem kw_18 : (Jvm.Cond.initialized "InspectSteps$Sample") ∈ GW := gw_of (List.mem_append_right _ (List.mem_append_left _ (List.mem_of_getElem? (i := 18) rfl))) rfl
theorem kw_19 : (Jvm.Cond.initialized "java/lang/IndexOutOfBoundsException") ∈ GW := gw_of (List.mem_append_right _ (List.mem_append_left _ (List.mem_of_getElem? (i := 19) rfl))) rfl
theorem kw_20 : (Jvm.Cond.classLink "InspectStepsLaw" (8 : Nat) "InspectSteps") ∈ GW := gw_of (List.mem_append_right _ (List.mem_append_left _ (List.mem_of_getElem? (i := 20) rfl))) rfl
theorem kw_21 : (Jvm.Cond.instantiable "InspectSteps" (10 : Nat)) ∈ GW := gw_of (List.mem_append_right _ (List.mem_append_left _ (List.mem_of_getElem? (i := 21) rfl))) rfl
theorem kw_22 : (Jvm.Cond.methodLink "InspectStepsLaw" (53 : Nat) ({ cls := "InspectSteps", name := "<init>", desc := "()V" } : Jvm.MethodName)) ∈ GW := gw_of (List.mem_append_right _ (List.mem_append_left _ (List.mem_of_getElem? (i := 22) rfl))) rfl
theorem kw_23 : (Jvm.Cond.instanceMethod ({ cls := "InspectSteps", name := "<init>", desc := "()V" } : Jvm.MethodName)) ∈ GW := gw_of (List.mem_append_right _ (List.mem_append_left _ (List.mem_of_getElem? (i := 23) rfl))) rfl
theorem kw_24 : (Jvm.Cond.code ({ cls := "InspectSteps", name := "<init>", desc := "()V" } : Jvm.MethodName) prog_1_method_1_code (2 : Nat) (Option.none : Option Jvm.ClassFile.FieldType)) ∈ GW := gw_of (List.mem_append_right _ (List.mem_append_left _ (List.mem_of_getElem? (i := 24) rfl))) rfl
theorem kw_25 : (Jvm.Cond.methodLink "InspectSteps" (1 : Nat) ({ cls := "java/lang/Object", name := "<init>", desc := "()V" } : Jvm.MethodName)) ∈ GW := gw_of (List.mem_append_right _ (List.mem_append_left _ (List.mem_of_getElem? (i := 25) rfl))) rfl
theorem kw_26 : (Jvm.Cond.instanceMethod ({ cls := "java/lang/Object", name := "<init>", desc := "()V" } : Jvm.MethodName)) ∈ GW := gw_of (List.mem_append_right _ (List.mem_append_left _ (List.mem_of_getElem? (i := 26) rfl))) rfl
theorem kw_27 : (Jvm.Cond.code ({ cls := "java/lang/Object", name := "<init>", desc := "()V" } : Jvm.MethodName) object_method_1_code (1 : Nat) (Option.none : Option Jvm.ClassFile.FieldType)) ∈ GW := gw_of (List.mem_append_right _ (List.mem_append_left _ (List.mem_of_getElem? (i := 27) rfl))) rfl
theorem kw_28 : (Jvm.Cond.classLink "InspectSteps" (7 : Nat) "java/util/ArrayList") ∈ GW := gw_of (List.mem_append_right _ (List.mem_append_left _ (List.mem_of_getElem? (i := 28) rfl))) rfl
theorem kw_29 : (Jvm.Cond.instantiable "java/util/ArrayList" (3 : Nat)) ∈ GW := gw_of (List.mem_append_right _ (List.mem_append_left _ (List.mem_of_getElem? (i := 29) rfl))) rfl
theorem kw_30 : (Jvm.Cond.methodLink "InspectSteps" (9 : Nat) ({ cls := "java/util/ArrayList", name := "<init>", desc := "()V" } : Jvm.MethodName)) ∈ GW := gw_of (List.mem_append_right _ (List.mem_append_left _ (List.mem_of_getElem? (i := 30) rfl))) rfl
theorem kw_31 : (Jvm.Cond.instanceMethod ({ cls := "java/util/ArrayList", name := "<init>", desc := "()V" } : Jvm.MethodName)) ∈ GW := gw_of (List.mem_append_right _ (List.mem_append_left _ (List.mem_of_getElem? (i := 31) rfl))) rfl
theorem kw_32 : (Jvm.Cond.code ({ cls := "java/util/ArrayList", name := "<init>", desc := "()V" } : Jvm.MethodName) prog_20_method_2_code (1 : Nat) (Option.none : Option Jvm.ClassFile.FieldType)) ∈ GW := gw_of (List.mem_append_right _ (List.mem_append_left _ (List.mem_of_getElem? (i := 32) rfl))) rfl
theorem kw_33 : (Jvm.Cond.methodLink "java/util/ArrayList" (1 : Nat) ({ cls := "java/util/AbstractList", name := "<init>", desc := "()V" } : Jvm.MethodName)) ∈ GW := gw_of (List.mem_append_right _ (List.mem_append_left _ (List.mem_of_getElem? (i := 33) rfl))) rfl
theorem kw_34 : (Jvm.Cond.instanceMethod ({ cls := "java/util/AbstractList", name := "<init>", desc := "()V" } : Jvm.MethodName)) ∈ GW := gw_of (List.mem_append_right _ (List.mem_append_left _ (List.mem_of_getElem? (i := 34) rfl))) rfl
theorem kw_35 : (Jvm.Cond.code ({ cls := "java/util/AbstractList", name := "<init>", desc := "()V" } : Jvm.MethodName) prog_19_method_1_code (1 : Nat) (Option.none : Option Jvm.ClassFile.FieldType)) ∈ GW := gw_of (List.mem_append_right _ (List.mem_append_left _ (List.mem_of_getElem? (i := 35) rfl))) rfl
theorem kw_36 : (Jvm.Cond.methodLink "java/util/AbstractList" (1 : Nat) ({ cls := "java/util/AbstractCollection", name := "<init>", desc := "()V" } : Jvm.MethodName)) ∈ GW := gw_of (List.mem_append_right _ (List.mem_append_left _ (List.mem_of_getElem? (i := 36) rfl))) rfl
theorem kw_37 : (Jvm.Cond.instanceMethod ({ cls := "java/util/AbstractCollection", name := "<init>", desc := "()V" } : Jvm.MethodName)) ∈ GW := gw_of (List.mem_append_right _ (List.mem_append_left _ (List.mem_of_getElem? (i := 37) rfl))) rfl
theorem kw_38 : (Jvm.Cond.code ({ cls := "java/util/AbstractCollection", name := "<init>", desc := "()V" } : Jvm.MethodName) prog_18_method_1_code (1 : Nat) (Option.none : Option Jvm.ClassFile.FieldType)) ∈ GW := gw_of (List.mem_append_right _ (List.mem_append_left _ (List.mem_of_getElem? (i := 38) rfl))) rfl
theorem kw_39 : (Jvm.Cond.methodLink "java/util/AbstractCollection" (1 : Nat) ({ cls := "java/lang/Object", name := "<init>", desc := "()V" } : Jvm.MethodName)) ∈ GW := gw_of (List.mem_append_right _ (List.mem_append_left _ (List.mem_of_getElem? (i := 39) rfl))) rfl
theorem kw_40 : (Jvm.Cond.fieldLink "java/util/ArrayList" (39 : Nat) "java/util/ArrayList" "DEFAULTCAPACITY_EMPTY_ELEMENTDATA" "[Ljava/lang/Object;") ∈ GW := gw_of (List.mem_append_right _ (List.mem_append_left _ (List.mem_of_getElem? (i := 40) rfl))) rfl
theorem kw_42 : (Jvm.Cond.fieldLink "java/util/ArrayList" (9 : Nat) "java/util/ArrayList" "elementData" "[Ljava/lang/Object;") ∈ GW := gw_of (List.mem_append_right _ (List.mem_append_left _ (List.mem_of_getElem? (i := 42) rfl))) rfl
theorem kw_43 : (Jvm.Cond.fieldLink "java/util/ArrayList" (48 : Nat) "java/util/ArrayList" "size" "I") ∈ GW := gw_of (List.mem_append_right _ (List.mem_append_left _ (List.mem_of_getElem? (i := 43) rfl))) rfl
theorem kw_44 : (Jvm.Cond.fieldLink "java/util/AbstractList" (7 : Nat) "java/util/AbstractList" "modCount" "I") ∈ GW := gw_of (List.mem_append_right _ (List.mem_append_left _ (List.mem_of_getElem? (i := 44) rfl))) rfl
theorem kw_45 : (Jvm.Cond.fieldLink "java/util/ArrayList" (63 : Nat) "java/util/ArrayList" "modCount" "I") ∈ GW := gw_of (List.mem_append_right _ (List.mem_append_left _ (List.mem_of_getElem? (i := 45) rfl))) rfl
theorem kw_46 : (Jvm.Cond.sameField "java/util/ArrayList" "java/util/AbstractList" "modCount" "I") ∈ GW := gw_of (List.mem_append_right _ (List.mem_append_left _ (List.mem_of_getElem? (i := 46) rfl))) rfl
theorem kw_47 : (Jvm.Cond.lays "java/util/ArrayList" "java/util/ArrayList" "elementData" "[Ljava/lang/Object;") ∈ GW := gw_of (List.mem_append_right _ (List.mem_append_left _ (List.mem_of_getElem? (i := 47) rfl))) rfl
theorem kw_49 : (Jvm.Cond.lays "java/util/ArrayList" "java/util/ArrayList" "size" "I") ∈ GW := gw_of (List.mem_append_right _ (List.mem_append_left _ (List.mem_of_getElem? (i := 49) rfl))) rfl
theorem kw_51 : (Jvm.Cond.lays "java/util/ArrayList" "java/util/AbstractList" "modCount" "I") ∈ GW := gw_of (List.mem_append_right _ (List.mem_append_left _ (List.mem_of_getElem? (i := 51) rfl))) rfl
theorem kw_54 : (Jvm.Cond.classLink "InspectSteps" (32 : Nat) "[[I") ∈ GW := gw_of (List.mem_append_right _ (List.mem_append_left _ (List.mem_of_getElem? (i := 54) rfl))) rfl
theorem kw_56 : (Jvm.Cond.methodLink "InspectSteps" (47 : Nat) ({ cls := "java/util/Arrays", name := "fill", desc := "([II)V" } : Jvm.MethodName)) ∈ GW := gw_of (List.mem_append_right _ (List.mem_append_left _ (List.mem_of_getElem? (i := 56) rfl))) rfl
theorem kw_57 : (Jvm.Cond.static ({ cls := "java/util/Arrays", name := "fill", desc := "([II)V" } : Jvm.MethodName)) ∈ GW := gw_of (List.mem_append_right _ (List.mem_append_left _ (List.mem_of_getElem? (i := 57) rfl))) rfl
theorem kw_58 : (Jvm.Cond.code ({ cls := "java/util/Arrays", name := "fill", desc := "([II)V" } : Jvm.MethodName) prog_21_method_103_code (4 : Nat) (Option.none : Option Jvm.ClassFile.FieldType)) ∈ GW := gw_of (List.mem_append_right _ (List.mem_append_left _ (List.mem_of_getElem? (i := 58) rfl))) rfl
theorem kw_59 : (Jvm.Cond.fieldLink "InspectSteps" (10 : Nat) "InspectSteps" "inspections" "Ljava/util/ArrayList;") ∈ GW := gw_of (List.mem_append_right _ (List.mem_append_left _ (List.mem_of_getElem? (i := 59) rfl))) rfl
theorem kw_60 : (Jvm.Cond.fieldLink "InspectSteps" (16 : Nat) "InspectSteps" "samples" "Ljava/util/ArrayList;") ∈ GW := gw_of (List.mem_append_right _ (List.mem_append_left _ (List.mem_of_getElem? (i := 60) rfl))) rfl
theorem kw_61 : (Jvm.Cond.fieldLink "InspectSteps" (19 : Nat) "InspectSteps" "rights" "[I") ∈ GW := gw_of (List.mem_append_right _ (List.mem_append_left _ (List.mem_of_getElem? (i := 61) rfl))) rfl
theorem kw_62 : (Jvm.Cond.fieldLink "InspectSteps" (23 : Nat) "InspectSteps" "sealNumbers" "[I") ∈ GW := gw_of (List.mem_append_right _ (List.mem_append_left _ (List.mem_of_getElem? (i := 62) rfl))) rfl
theorem kw_63 : (Jvm.Cond.fieldLink "InspectSteps" (26 : Nat) "InspectSteps" "holders" "[I") ∈ GW := gw_of (List.mem_append_right _ (List.mem_append_left _ (List.mem_of_getElem? (i := 63) rfl))) rfl
theorem kw_64 : (Jvm.Cond.fieldLink "InspectSteps" (29 : Nat) "InspectSteps" "costs" "[I") ∈ GW := gw_of (List.mem_append_right _ (List.mem_append_left _ (List.mem_of_getElem? (i := 64) rfl))) rfl
theorem kw_65 : (Jvm.Cond.fieldLink "InspectSteps" (34 : Nat) "InspectSteps" "declaredValues" "[[I") ∈ GW := gw_of (List.mem_append_right _ (List.mem_append_left _ (List.mem_of_getElem? (i := 65) rfl))) rfl
theorem kw_66 : (Jvm.Cond.fieldLink "InspectSteps" (37 : Nat) "InspectSteps" "thousandthsUp" "[I") ∈ GW := gw_of (List.mem_append_right _ (List.mem_append_left _ (List.mem_of_getElem? (i := 66) rfl))) rfl
theorem kw_67 : (Jvm.Cond.fieldLink "InspectSteps" (40 : Nat) "InspectSteps" "thousandthsDown" "[I") ∈ GW := gw_of (List.mem_append_right _ (List.mem_append_left _ (List.mem_of_getElem? (i := 67) rfl))) rfl
theorem kw_68 : (Jvm.Cond.fieldLink "InspectSteps" (43 : Nat) "InspectSteps" "now" "I") ∈ GW := gw_of (List.mem_append_right _ (List.mem_append_left _ (List.mem_of_getElem? (i := 68) rfl))) rfl
theorem kw_69 : (Jvm.Cond.laysFinal "InspectSteps" "InspectSteps" "inspections" "Ljava/util/ArrayList;") ∈ GW := gw_of (List.mem_append_right _ (List.mem_append_left _ (List.mem_of_getElem? (i := 69) rfl))) rfl
theorem kw_71 : (Jvm.Cond.laysFinal "InspectSteps" "InspectSteps" "samples" "Ljava/util/ArrayList;") ∈ GW := gw_of (List.mem_append_right _ (List.mem_append_left _ (List.mem_of_getElem? (i := 71) rfl))) rfl
theorem kw_73 : (Jvm.Cond.laysFinal "InspectSteps" "InspectSteps" "rights" "[I") ∈ GW := gw_of (List.mem_append_right _ (List.mem_append_left _ (List.mem_of_getElem? (i := 73) rfl))) rfl
theorem kw_75 : (Jvm.Cond.laysFinal "InspectSteps" "InspectSteps" "sealNumbers" "[I") ∈ GW := gw_of (List.mem_append_right _ (List.mem_append_left _ (List.mem_of_getElem? (i := 75) rfl))) rfl
theorem kw_77 : (Jvm.Cond.laysFinal "InspectSteps" "InspectSteps" "holders" "[I") ∈ GW := gw_of (List.mem_append_right _ (List.mem_append_left _ (List.mem_of_getElem? (i := 77) rfl))) rfl
theorem kw_79 : (Jvm.Cond.laysFinal "InspectSteps" "InspectSteps" "costs" "[I") ∈ GW := gw_of (List.mem_append_right _ (List.mem_append_left _ (List.mem_of_getElem? (i := 79) rfl))) rfl
theorem kw_81 : (Jvm.Cond.laysFinal "InspectSteps" "InspectSteps" "declaredValues" "[[I") ∈ GW := gw_of (List.mem_append_right _ (List.mem_append_left _ (List.mem_of_getElem? (i := 81) rfl))) rfl
theorem kw_83 : (Jvm.Cond.laysFinal "InspectSteps" "InspectSteps" "thousandthsUp" "[I") ∈ GW := gw_of (List.mem_append_right _ (List.mem_append_left _ (List.mem_of_getElem? (i := 83) rfl))) rfl
theorem kw_85 : (Jvm.Cond.laysFinal "InspectSteps" "InspectSteps" "thousandthsDown" "[I") ∈ GW := gw_of (List.mem_append_right _ (List.mem_append_left _ (List.mem_of_getElem? (i := 85) rfl))) rfl
theorem kw_87 : (Jvm.Cond.lays "InspectSteps" "InspectSteps" "now" "I") ∈ GW := gw_of (List.mem_append_right _ (List.mem_append_left _ (List.mem_of_getElem? (i := 87) rfl))) rfl
theorem kw_90 : (Jvm.Cond.arrayClass Jvm.ClassFile.FieldType.int) ∈ GW := gw_of (List.mem_append_right _ (List.mem_append_left _ (List.mem_of_getElem? (i := 90) rfl))) rfl
theorem kw_91 : (Jvm.Cond.methodLink "InspectStepsLaw" (57 : Nat) ({ cls := "InspectSteps", name := "right", desc := "(IIZ)Z" } : Jvm.MethodName)) ∈ GW := gw_of (List.mem_append_right _ (List.mem_append_left _ (List.mem_of_getElem? (i := 91) rfl))) rfl
theorem kw_92 : (Jvm.Cond.instanceMethod ({ cls := "InspectSteps", name := "right", desc := "(IIZ)Z" } : Jvm.MethodName)) ∈ GW := gw_of (List.mem_append_right _ (List.mem_append_left _ (List.mem_of_getElem? (i := 92) rfl))) rfl
theorem kw_93 : (Jvm.Cond.selects "InspectSteps" ({ cls := "InspectSteps", name := "right", desc := "(IIZ)Z" } : Jvm.MethodName) ({ cls := "InspectSteps", name := "right", desc := "(IIZ)Z" } : Jvm.MethodName)) ∈ GW := gw_of (List.mem_append_right _ (List.mem_append_left _ (List.mem_of_getElem? (i := 93) rfl))) rfl
theorem kw_94 : (Jvm.Cond.code ({ cls := "InspectSteps", name := "right", desc := "(IIZ)Z" } : Jvm.MethodName) prog_1_method_2_code (4 : Nat) (Option.some Jvm.ClassFile.FieldType.boolean)) ∈ GW := gw_of (List.mem_append_right _ (List.mem_append_left _ (List.mem_of_getElem? (i := 94) rfl))) rfl
theorem kw_95 : (Jvm.Cond.methodLink "InspectSteps" (53 : Nat) ({ cls := "InspectSteps", name := "isPerson", desc := "(I)Z" } : Jvm.MethodName)) ∈ GW := gw_of (List.mem_append_right _ (List.mem_append_left _ (List.mem_of_getElem? (i := 95) rfl))) rfl
theorem kw_96 : (Jvm.Cond.static ({ cls := "InspectSteps", name := "isPerson", desc := "(I)Z" } : Jvm.MethodName)) ∈ GW := gw_of (List.mem_append_right _ (List.mem_append_left _ (List.mem_of_getElem? (i := 96) rfl))) rfl
theorem kw_97 : (Jvm.Cond.code ({ cls := "InspectSteps", name := "isPerson", desc := "(I)Z" } : Jvm.MethodName) prog_1_method_31_code (1 : Nat) (Option.some Jvm.ClassFile.FieldType.boolean)) ∈ GW := gw_of (List.mem_append_right _ (List.mem_append_left _ (List.mem_of_getElem? (i := 97) rfl))) rfl
theorem kw_98 : (Jvm.Cond.methodLink "InspectSteps" (57 : Nat) ({ cls := "InspectSteps", name := "isWithin", desc := "(III)Z" } : Jvm.MethodName)) ∈ GW := gw_of (List.mem_append_right _ (List.mem_append_left _ (List.mem_of_getElem? (i := 98) rfl))) rfl
theorem kw_99 : (Jvm.Cond.static ({ cls := "InspectSteps", name := "isWithin", desc := "(III)Z" } : Jvm.MethodName)) ∈ GW := gw_of (List.mem_append_right _ (List.mem_append_left _ (List.mem_of_getElem? (i := 99) rfl))) rfl
theorem kw_100 : (Jvm.Cond.code ({ cls := "InspectSteps", name := "isWithin", desc := "(III)Z" } : Jvm.MethodName) prog_1_method_35_code (3 : Nat) (Option.some Jvm.ClassFile.FieldType.boolean)) ∈ GW := gw_of (List.mem_append_right _ (List.mem_append_left _ (List.mem_of_getElem? (i := 100) rfl))) rfl
theorem kw_101 : (Jvm.Cond.methodLink "InspectSteps" (61 : Nat) ({ cls := "InspectSteps", name := "mayDo", desc := "(II)Z" } : Jvm.MethodName)) ∈ GW := gw_of (List.mem_append_right _ (List.mem_append_left _ (List.mem_of_getElem? (i := 101) rfl))) rfl
theorem kw_103 : (Jvm.Cond.instanceMethod ({ cls := "InspectSteps", name := "mayDo", desc := "(II)Z" } : Jvm.MethodName)) ∈ GW := gw_of (List.mem_append_right _ (List.mem_append_left _ (List.mem_of_getElem? (i := 103) rfl))) rfl
theorem kw_104 : (Jvm.Cond.code ({ cls := "InspectSteps", name := "mayDo", desc := "(II)Z" } : Jvm.MethodName) prog_1_method_29_code (3 : Nat) (Option.some Jvm.ClassFile.FieldType.boolean)) ∈ GW := gw_of (List.mem_append_right _ (List.mem_append_left _ (List.mem_of_getElem? (i := 104) rfl))) rfl
theorem kw_105 : (Jvm.Cond.methodLink "InspectSteps" (187 : Nat) ({ cls := "InspectSteps", name := "hasBit", desc := "(II)Z" } : Jvm.MethodName)) ∈ GW := gw_of (List.mem_append_right _ (List.mem_append_left _ (List.mem_of_getElem? (i := 105) rfl))) rfl
theorem kw_106 : (Jvm.Cond.static ({ cls := "InspectSteps", name := "hasBit", desc := "(II)Z" } : Jvm.MethodName)) ∈ GW := gw_of (List.mem_append_right _ (List.mem_append_left _ (List.mem_of_getElem? (i := 106) rfl))) rfl
theorem kw_107 : (Jvm.Cond.code ({ cls := "InspectSteps", name := "hasBit", desc := "(II)Z" } : Jvm.MethodName) prog_1_method_36_code (2 : Nat) (Option.some Jvm.ClassFile.FieldType.boolean)) ∈ GW := gw_of (List.mem_append_right _ (List.mem_append_left _ (List.mem_of_getElem? (i := 107) rfl))) rfl
theorem kw_108 : (Jvm.Cond.methodLink "InspectStepsLaw" (84 : Nat) ({ cls := "InspectSteps", name := "giveUp", desc := "(I)Z" } : Jvm.MethodName)) ∈ GW := gw_of (List.mem_append_right _ (List.mem_append_left _ (List.mem_of_getElem? (i := 108) rfl))) rfl
theorem kw_109 : (Jvm.Cond.instanceMethod ({ cls := "InspectSteps", name := "giveUp", desc := "(I)Z" } : Jvm.MethodName)) ∈ GW := gw_of (List.mem_append_right _ (List.mem_append_left _ (List.mem_of_getElem? (i := 109) rfl))) rfl
theorem kw_110 : (Jvm.Cond.selects "InspectSteps" ({ cls := "InspectSteps", name := "giveUp", desc := "(I)Z" } : Jvm.MethodName) ({ cls := "InspectSteps", name := "giveUp", desc := "(I)Z" } : Jvm.MethodName)) ∈ GW := gw_of (List.mem_append_right _ (List.mem_append_left _ (List.mem_of_getElem? (i := 110) rfl))) rfl
theorem kw_111 : (Jvm.Cond.code ({ cls := "InspectSteps", name := "giveUp", desc := "(I)Z" } : Jvm.MethodName) prog_1_method_7_code (3 : Nat) (Option.some Jvm.ClassFile.FieldType.boolean)) ∈ GW := gw_of (List.mem_append_right _ (List.mem_append_left _ (List.mem_of_getElem? (i := 111) rfl))) rfl
theorem kw_112 : (Jvm.Cond.methodLink "InspectSteps" (98 : Nat) ({ cls := "InspectSteps", name := "isInspection", desc := "(I)Z" } : Jvm.MethodName)) ∈ GW := gw_of (List.mem_append_right _ (List.mem_append_left _ (List.mem_of_getElem? (i := 112) rfl))) rfl
theorem kw_114 : (Jvm.Cond.instanceMethod ({ cls := "InspectSteps", name := "isInspection", desc := "(I)Z" } : Jvm.MethodName)) ∈ GW := gw_of (List.mem_append_right _ (List.mem_append_left _ (List.mem_of_getElem? (i := 114) rfl))) rfl
theorem kw_115 : (Jvm.Cond.code ({ cls := "InspectSteps", name := "isInspection", desc := "(I)Z" } : Jvm.MethodName) prog_1_method_27_code (2 : Nat) (Option.some Jvm.ClassFile.FieldType.boolean)) ∈ GW := gw_of (List.mem_append_right _ (List.mem_append_left _ (List.mem_of_getElem? (i := 115) rfl))) rfl
theorem kw_116 : (Jvm.Cond.methodLink "InspectSteps" (80 : Nat) ({ cls := "java/util/ArrayList", name := "size", desc := "()I" } : Jvm.MethodName)) ∈ GW := gw_of (List.mem_append_right _ (List.mem_append_left _ (List.mem_of_getElem? (i := 116) rfl))) rfl
theorem kw_117 : (Jvm.Cond.instanceMethod ({ cls := "java/util/ArrayList", name := "size", desc := "()I" } : Jvm.MethodName)) ∈ GW := gw_of (List.mem_append_right _ (List.mem_append_left _ (List.mem_of_getElem? (i := 117) rfl))) rfl
theorem kw_118 : (Jvm.Cond.selects "java/util/ArrayList" ({ cls := "java/util/ArrayList", name := "size", desc := "()I" } : Jvm.MethodName) ({ cls := "java/util/ArrayList", name := "size", desc := "()I" } : Jvm.MethodName)) ∈ GW := gw_of (List.mem_append_right _ (List.mem_append_left _ (List.mem_of_getElem? (i := 118) rfl))) rfl
theorem kw_119 : (Jvm.Cond.code ({ cls := "java/util/ArrayList", name := "size", desc := "()I" } : Jvm.MethodName) prog_20_method_8_code (1 : Nat) (Option.some Jvm.ClassFile.FieldType.int)) ∈ GW := gw_of (List.mem_append_right _ (List.mem_append_left _ (List.mem_of_getElem? (i := 119) rfl))) rfl
theorem kw_120 : (Jvm.Cond.methodLink "InspectSteps" (105 : Nat) ({ cls := "java/util/ArrayList", name := "get", desc := "(I)Ljava/lang/Object;" } : Jvm.MethodName)) ∈ GW := gw_of (List.mem_append_right _ (List.mem_append_left _ (List.mem_of_getElem? (i := 120) rfl))) rfl
theorem kw_121 : (Jvm.Cond.instanceMethod ({ cls := "java/util/ArrayList", name := "get", desc := "(I)Ljava/lang/Object;" } : Jvm.MethodName)) ∈ GW := gw_of (List.mem_append_right _ (List.mem_append_left _ (List.mem_of_getElem? (i := 121) rfl))) rfl
theorem kw_122 : (Jvm.Cond.selects "java/util/ArrayList" ({ cls := "java/util/ArrayList", name := "get", desc := "(I)Ljava/lang/Object;" } : Jvm.MethodName) ({ cls := "java/util/ArrayList", name := "get", desc := "(I)Ljava/lang/Object;" } : Jvm.MethodName)) ∈ GW := gw_of (List.mem_append_right _ (List.mem_append_left _ (List.mem_of_getElem? (i := 122) rfl))) rfl
theorem kw_123 : (Jvm.Cond.code ({ cls := "java/util/ArrayList", name := "get", desc := "(I)Ljava/lang/Object;" } : Jvm.MethodName) prog_20_method_20_code (2 : Nat) (Option.some (Jvm.ClassFile.FieldType.object "java/lang/Object"))) ∈ GW := gw_of (List.mem_append_right _ (List.mem_append_left _ (List.mem_of_getElem? (i := 123) rfl))) rfl
theorem kw_124 : (Jvm.Cond.methodLink "java/util/ArrayList" (118 : Nat) ({ cls := "java/util/Objects", name := "checkIndex", desc := "(II)I" } : Jvm.MethodName)) ∈ GW := gw_of (List.mem_append_right _ (List.mem_append_left _ (List.mem_of_getElem? (i := 124) rfl))) rfl
theorem kw_125 : (Jvm.Cond.static ({ cls := "java/util/Objects", name := "checkIndex", desc := "(II)I" } : Jvm.MethodName)) ∈ GW := gw_of (List.mem_append_right _ (List.mem_append_left _ (List.mem_of_getElem? (i := 125) rfl))) rfl
theorem kw_126 : (Jvm.Cond.code ({ cls := "java/util/Objects", name := "checkIndex", desc := "(II)I" } : Jvm.MethodName) prog_24_method_17_code (2 : Nat) (Option.some Jvm.ClassFile.FieldType.int)) ∈ GW := gw_of (List.mem_append_right _ (List.mem_append_left _ (List.mem_of_getElem? (i := 126) rfl))) rfl
theorem kw_127 : (Jvm.Cond.methodLink "java/util/Objects" (105 : Nat) ({ cls := "jdk/internal/util/Preconditions", name := "checkIndex", desc := "(IILjava/util/function/BiFunction;)I" } : Jvm.MethodName)) ∈ GW := gw_of (List.mem_append_right _ (List.mem_append_left _ (List.mem_of_getElem? (i := 127) rfl))) rfl
theorem kw_128 : (Jvm.Cond.static ({ cls := "jdk/internal/util/Preconditions", name := "checkIndex", desc := "(IILjava/util/function/BiFunction;)I" } : Jvm.MethodName)) ∈ GW := gw_of (List.mem_append_right _ (List.mem_append_left _ (List.mem_of_getElem? (i := 128) rfl))) rfl
theorem kw_129 : (Jvm.Cond.code ({ cls := "jdk/internal/util/Preconditions", name := "checkIndex", desc := "(IILjava/util/function/BiFunction;)I" } : Jvm.MethodName) prog_28_method_11_code (3 : Nat) (Option.some Jvm.ClassFile.FieldType.int)) ∈ GW := gw_of (List.mem_append_right _ (List.mem_append_left _ (List.mem_of_getElem? (i := 129) rfl))) rfl
theorem kw_130 : (Jvm.Cond.methodLink "java/util/ArrayList" (123 : Nat) ({ cls := "java/util/ArrayList", name := "elementData", desc := "(I)Ljava/lang/Object;" } : Jvm.MethodName)) ∈ GW := gw_of (List.mem_append_right _ (List.mem_append_left _ (List.mem_of_getElem? (i := 130) rfl))) rfl
theorem kw_131 : (Jvm.Cond.instanceMethod ({ cls := "java/util/ArrayList", name := "elementData", desc := "(I)Ljava/lang/Object;" } : Jvm.MethodName)) ∈ GW := gw_of (List.mem_append_right _ (List.mem_append_left _ (List.mem_of_getElem? (i := 131) rfl))) rfl
theorem kw_132 : (Jvm.Cond.selects "java/util/ArrayList" ({ cls := "java/util/ArrayList", name := "elementData", desc := "(I)Ljava/lang/Object;" } : Jvm.MethodName) ({ cls := "java/util/ArrayList", name := "elementData", desc := "(I)Ljava/lang/Object;" } : Jvm.MethodName)) ∈ GW := gw_of (List.mem_append_right _ (List.mem_append_left _ (List.mem_of_getElem? (i := 132) rfl))) rfl
theorem kw_133 : (Jvm.Cond.code ({ cls := "java/util/ArrayList", name := "elementData", desc := "(I)Ljava/lang/Object;" } : Jvm.MethodName) prog_20_method_18_code (2 : Nat) (Option.some (Jvm.ClassFile.FieldType.object "java/lang/Object"))) ∈ GW := gw_of (List.mem_append_right _ (List.mem_append_left _ (List.mem_of_getElem? (i := 133) rfl))) rfl
theorem kw_134 : (Jvm.Cond.classLink "InspectSteps" (89 : Nat) "InspectSteps$Inspection") ∈ GW := gw_of (List.mem_append_right _ (List.mem_append_left _ (List.mem_of_getElem? (i := 134) rfl))) rfl
theorem kw_135 : (Jvm.Cond.methodLink "InspectSteps" (139 : Nat) ({ cls := "InspectSteps$Inspection", name := "canBeGivenUp", desc := "()Z" } : Jvm.MethodName)) ∈ GW := gw_of (List.mem_append_right _ (List.mem_append_left _ (List.mem_of_getElem? (i := 135) rfl))) rfl
theorem kw_136 : (Jvm.Cond.instanceMethod ({ cls := "InspectSteps$Inspection", name := "canBeGivenUp", desc := "()Z" } : Jvm.MethodName)) ∈ GW := gw_of (List.mem_append_right _ (List.mem_append_left _ (List.mem_of_getElem? (i := 136) rfl))) rfl
theorem kw_137 : (Jvm.Cond.selects "InspectSteps$Inspection" ({ cls := "InspectSteps$Inspection", name := "canBeGivenUp", desc := "()Z" } : Jvm.MethodName) ({ cls := "InspectSteps$Inspection", name := "canBeGivenUp", desc := "()Z" } : Jvm.MethodName)) ∈ GW := gw_of (List.mem_append_right _ (List.mem_append_left _ (List.mem_of_getElem? (i := 137) rfl))) rfl
theorem kw_138 : (Jvm.Cond.code ({ cls := "InspectSteps$Inspection", name := "canBeGivenUp", desc := "()Z" } : Jvm.MethodName) prog_2_method_6_code (1 : Nat) (Option.some Jvm.ClassFile.FieldType.boolean)) ∈ GW := gw_of (List.mem_append_right _ (List.mem_append_left _ (List.mem_of_getElem? (i := 138) rfl))) rfl
theorem kw_139 : (Jvm.Cond.methodLink "InspectStepsLaw" (98 : Nat) ({ cls := "InspectSteps", name := "declared", desc := "(III)Z" } : Jvm.MethodName)) ∈ GW := gw_of (List.mem_append_right _ (List.mem_append_left _ (List.mem_of_getElem? (i := 139) rfl))) rfl
theorem kw_140 : (Jvm.Cond.instanceMethod ({ cls := "InspectSteps", name := "declared", desc := "(III)Z" } : Jvm.MethodName)) ∈ GW := gw_of (List.mem_append_right _ (List.mem_append_left _ (List.mem_of_getElem? (i := 140) rfl))) rfl
theorem kw_141 : (Jvm.Cond.selects "InspectSteps" ({ cls := "InspectSteps", name := "declared", desc := "(III)Z" } : Jvm.MethodName) ({ cls := "InspectSteps", name := "declared", desc := "(III)Z" } : Jvm.MethodName)) ∈ GW := gw_of (List.mem_append_right _ (List.mem_append_left _ (List.mem_of_getElem? (i := 141) rfl))) rfl
theorem kw_142 : (Jvm.Cond.code ({ cls := "InspectSteps", name := "declared", desc := "(III)Z" } : Jvm.MethodName) prog_1_method_11_code (4 : Nat) (Option.some Jvm.ClassFile.FieldType.boolean)) ∈ GW := gw_of (List.mem_append_right _ (List.mem_append_left _ (List.mem_of_getElem? (i := 142) rfl))) rfl
theorem kw_143 : (Jvm.Cond.methodLink "InspectSteps" (65 : Nat) ({ cls := "InspectSteps", name := "isDeclaration", desc := "(I)Z" } : Jvm.MethodName)) ∈ GW := gw_of (List.mem_append_right _ (List.mem_append_left _ (List.mem_of_getElem? (i := 143) rfl))) rfl
theorem kw_144 : (Jvm.Cond.static ({ cls := "InspectSteps", name := "isDeclaration", desc := "(I)Z" } : Jvm.MethodName)) ∈ GW := gw_of (List.mem_append_right _ (List.mem_append_left _ (List.mem_of_getElem? (i := 144) rfl))) rfl
theorem kw_145 : (Jvm.Cond.code ({ cls := "InspectSteps", name := "isDeclaration", desc := "(I)Z" } : Jvm.MethodName) prog_1_method_30_code (1 : Nat) (Option.some Jvm.ClassFile.FieldType.boolean)) ∈ GW := gw_of (List.mem_append_right _ (List.mem_append_left _ (List.mem_of_getElem? (i := 145) rfl))) rfl
theorem kw_146 : (Jvm.Cond.methodLink "InspectSteps" (167 : Nat) ({ cls := "InspectSteps", name := "isMeasure", desc := "(I)Z" } : Jvm.MethodName)) ∈ GW := gw_of (List.mem_append_right _ (List.mem_append_left _ (List.mem_of_getElem? (i := 146) rfl))) rfl
theorem kw_147 : (Jvm.Cond.static ({ cls := "InspectSteps", name := "isMeasure", desc := "(I)Z" } : Jvm.MethodName)) ∈ GW := gw_of (List.mem_append_right _ (List.mem_append_left _ (List.mem_of_getElem? (i := 147) rfl))) rfl
theorem kw_148 : (Jvm.Cond.code ({ cls := "InspectSteps", name := "isMeasure", desc := "(I)Z" } : Jvm.MethodName) prog_1_method_32_code (1 : Nat) (Option.some Jvm.ClassFile.FieldType.boolean)) ∈ GW := gw_of (List.mem_append_right _ (List.mem_append_left _ (List.mem_of_getElem? (i := 148) rfl))) rfl
theorem kw_149 : (Jvm.Cond.methodLink "InspectSteps" (172 : Nat) ({ cls := "InspectSteps", name := "isValue", desc := "(I)Z" } : Jvm.MethodName)) ∈ GW := gw_of (List.mem_append_right _ (List.mem_append_left _ (List.mem_of_getElem? (i := 149) rfl))) rfl
theorem kw_150 : (Jvm.Cond.static ({ cls := "InspectSteps", name := "isValue", desc := "(I)Z" } : Jvm.MethodName)) ∈ GW := gw_of (List.mem_append_right _ (List.mem_append_left _ (List.mem_of_getElem? (i := 150) rfl))) rfl
theorem kw_151 : (Jvm.Cond.code ({ cls := "InspectSteps", name := "isValue", desc := "(I)Z" } : Jvm.MethodName) prog_1_method_34_code (1 : Nat) (Option.some Jvm.ClassFile.FieldType.boolean)) ∈ GW := gw_of (List.mem_append_right _ (List.mem_append_left _ (List.mem_of_getElem? (i := 151) rfl))) rfl
theorem kw_152 : (Jvm.Cond.constant "InspectSteps" (261 : Nat) (1000000 : Int32)) ∈ GW := gw_of (List.mem_append_right _ (List.mem_append_left _ (List.mem_of_getElem? (i := 152) rfl))) rfl
theorem kw_153 : (Jvm.Cond.methodLink "InspectStepsLaw" (103 : Nat) ({ cls := "InspectSteps", name := "tolerance", desc := "(III)Z" } : Jvm.MethodName)) ∈ GW := gw_of (List.mem_append_right _ (List.mem_append_left _ (List.mem_of_getElem? (i := 153) rfl))) rfl
theorem kw_154 : (Jvm.Cond.instanceMethod ({ cls := "InspectSteps", name := "tolerance", desc := "(III)Z" } : Jvm.MethodName)) ∈ GW := gw_of (List.mem_append_right _ (List.mem_append_left _ (List.mem_of_getElem? (i := 154) rfl))) rfl
theorem kw_155 : (Jvm.Cond.selects "InspectSteps" ({ cls := "InspectSteps", name := "tolerance", desc := "(III)Z" } : Jvm.MethodName) ({ cls := "InspectSteps", name := "tolerance", desc := "(III)Z" } : Jvm.MethodName)) ∈ GW := gw_of (List.mem_append_right _ (List.mem_append_left _ (List.mem_of_getElem? (i := 155) rfl))) rfl
theorem kw_156 : (Jvm.Cond.code ({ cls := "InspectSteps", name := "tolerance", desc := "(III)Z" } : Jvm.MethodName) prog_1_method_12_code (4 : Nat) (Option.some Jvm.ClassFile.FieldType.boolean)) ∈ GW := gw_of (List.mem_append_right _ (List.mem_append_left _ (List.mem_of_getElem? (i := 156) rfl))) rfl
theorem kw_157 : (Jvm.Cond.methodLink "InspectStepsLaw" (107 : Nat) ({ cls := "InspectSteps", name := "hold", desc := "(IIZ)Z" } : Jvm.MethodName)) ∈ GW := gw_of (List.mem_append_right _ (List.mem_append_left _ (List.mem_of_getElem? (i := 157) rfl))) rfl
theorem kw_158 : (Jvm.Cond.instanceMethod ({ cls := "InspectSteps", name := "hold", desc := "(IIZ)Z" } : Jvm.MethodName)) ∈ GW := gw_of (List.mem_append_right _ (List.mem_append_left _ (List.mem_of_getElem? (i := 158) rfl))) rfl
theorem kw_159 : (Jvm.Cond.selects "InspectSteps" ({ cls := "InspectSteps", name := "hold", desc := "(IIZ)Z" } : Jvm.MethodName) ({ cls := "InspectSteps", name := "hold", desc := "(IIZ)Z" } : Jvm.MethodName)) ∈ GW := gw_of (List.mem_append_right _ (List.mem_append_left _ (List.mem_of_getElem? (i := 159) rfl))) rfl
theorem kw_160 : (Jvm.Cond.code ({ cls := "InspectSteps", name := "hold", desc := "(IIZ)Z" } : Jvm.MethodName) prog_1_method_13_code (4 : Nat) (Option.some Jvm.ClassFile.FieldType.boolean)) ∈ GW := gw_of (List.mem_append_right _ (List.mem_append_left _ (List.mem_of_getElem? (i := 160) rfl))) rfl
theorem kw_161 : (Jvm.Cond.methodLink "InspectStepsLaw" (124 : Nat) ({ cls := "InspectSteps", name := "count", desc := "(I)I" } : Jvm.MethodName)) ∈ GW := gw_of (List.mem_append_right _ (List.mem_append_left _ (List.mem_of_getElem? (i := 161) rfl))) rfl
theorem kw_162 : (Jvm.Cond.instanceMethod ({ cls := "InspectSteps", name := "count", desc := "(I)I" } : Jvm.MethodName)) ∈ GW := gw_of (List.mem_append_right _ (List.mem_append_left _ (List.mem_of_getElem? (i := 162) rfl))) rfl
theorem kw_163 : (Jvm.Cond.selects "InspectSteps" ({ cls := "InspectSteps", name := "count", desc := "(I)I" } : Jvm.MethodName) ({ cls := "InspectSteps", name := "count", desc := "(I)I" } : Jvm.MethodName)) ∈ GW := gw_of (List.mem_append_right _ (List.mem_append_left _ (List.mem_of_getElem? (i := 163) rfl))) rfl
theorem kw_164 : (Jvm.Cond.code ({ cls := "InspectSteps", name := "count", desc := "(I)I" } : Jvm.MethodName) prog_1_method_18_code (2 : Nat) (Option.some Jvm.ClassFile.FieldType.int)) ∈ GW := gw_of (List.mem_append_right _ (List.mem_append_left _ (List.mem_of_getElem? (i := 164) rfl))) rfl
theorem kw_165 : (Jvm.Cond.methodLink "InspectSteps" (234 : Nat) ({ cls := "InspectSteps", name := "countOf", desc := "(II)I" } : Jvm.MethodName)) ∈ GW := gw_of (List.mem_append_right _ (List.mem_append_left _ (List.mem_of_getElem? (i := 165) rfl))) rfl
theorem kw_167 : (Jvm.Cond.instanceMethod ({ cls := "InspectSteps", name := "countOf", desc := "(II)I" } : Jvm.MethodName)) ∈ GW := gw_of (List.mem_append_right _ (List.mem_append_left _ (List.mem_of_getElem? (i := 167) rfl))) rfl
theorem kw_168 : (Jvm.Cond.code ({ cls := "InspectSteps", name := "countOf", desc := "(II)I" } : Jvm.MethodName) prog_1_method_19_code (3 : Nat) (Option.some Jvm.ClassFile.FieldType.int)) ∈ GW := gw_of (List.mem_append_right _ (List.mem_append_left _ (List.mem_of_getElem? (i := 168) rfl))) rfl
theorem kw_169 : (Jvm.Cond.methodLink "InspectSteps" (192 : Nat) ({ cls := "InspectSteps", name := "muchDifferent", desc := "(IZ)I" } : Jvm.MethodName)) ∈ GW := gw_of (List.mem_append_right _ (List.mem_append_left _ (List.mem_of_getElem? (i := 169) rfl))) rfl
theorem kw_171 : (Jvm.Cond.instanceMethod ({ cls := "InspectSteps", name := "muchDifferent", desc := "(IZ)I" } : Jvm.MethodName)) ∈ GW := gw_of (List.mem_append_right _ (List.mem_append_left _ (List.mem_of_getElem? (i := 171) rfl))) rfl
theorem kw_172 : (Jvm.Cond.code ({ cls := "InspectSteps", name := "muchDifferent", desc := "(IZ)I" } : Jvm.MethodName) prog_1_method_20_code (7 : Nat) (Option.some Jvm.ClassFile.FieldType.int)) ∈ GW := gw_of (List.mem_append_right _ (List.mem_append_left _ (List.mem_of_getElem? (i := 172) rfl))) rfl
theorem kw_173 : (Jvm.Cond.classLink "InspectSteps" (159 : Nat) "InspectSteps$Sample") ∈ GW := gw_of (List.mem_append_right _ (List.mem_append_left _ (List.mem_of_getElem? (i := 173) rfl))) rfl
theorem kw_174 : (Jvm.Cond.methodLink "InspectSteps" (183 : Nat) ({ cls := "InspectSteps", name := "difference", desc := "(LInspectSteps$Sample;I)I" } : Jvm.MethodName)) ∈ GW := gw_of (List.mem_append_right _ (List.mem_append_left _ (List.mem_of_getElem? (i := 174) rfl))) rfl
theorem kw_176 : (Jvm.Cond.instanceMethod ({ cls := "InspectSteps", name := "difference", desc := "(LInspectSteps$Sample;I)I" } : Jvm.MethodName)) ∈ GW := gw_of (List.mem_append_right _ (List.mem_append_left _ (List.mem_of_getElem? (i := 176) rfl))) rfl
theorem kw_177 : (Jvm.Cond.code ({ cls := "InspectSteps", name := "difference", desc := "(LInspectSteps$Sample;I)I" } : Jvm.MethodName) prog_1_method_21_code (9 : Nat) (Option.some Jvm.ClassFile.FieldType.int)) ∈ GW := gw_of (List.mem_append_right _ (List.mem_append_left _ (List.mem_of_getElem? (i := 177) rfl))) rfl
theorem kw_178 : (Jvm.Cond.methodLink "InspectSteps" (241 : Nat) ({ cls := "java/lang/Math", name := "abs", desc := "(J)J" } : Jvm.MethodName)) ∈ GW := gw_of (List.mem_append_right _ (List.mem_append_left _ (List.mem_of_getElem? (i := 178) rfl))) rfl
theorem kw_179 : (Jvm.Cond.static ({ cls := "java/lang/Math", name := "abs", desc := "(J)J" } : Jvm.MethodName)) ∈ GW := gw_of (List.mem_append_right _ (List.mem_append_left _ (List.mem_of_getElem? (i := 179) rfl))) rfl
theorem kw_180 : (Jvm.Cond.code ({ cls := "java/lang/Math", name := "abs", desc := "(J)J" } : Jvm.MethodName) prog_13_method_61_code (2 : Nat) (Option.some Jvm.ClassFile.FieldType.long)) ∈ GW := gw_of (List.mem_append_right _ (List.mem_append_left _ (List.mem_of_getElem? (i := 180) rfl))) rfl
theorem kw_181 : (Jvm.Cond.constantLong "InspectSteps" (247 : Nat) (1000 : Int64)) ∈ GW := gw_of (List.mem_append_right _ (List.mem_append_left _ (List.mem_of_getElem? (i := 181) rfl))) rfl
theorem kw_182 : (Jvm.Cond.constantLong "InspectSteps" (249 : Nat) (2 : Int64)) ∈ GW := gw_of (List.mem_append_right _ (List.mem_append_left _ (List.mem_of_getElem? (i := 182) rfl))) rfl
theorem kw_183 : (Jvm.Cond.methodLink "InspectStepsLaw" (62 : Nat) ({ cls := "InspectStepsLaw", name := "inspection", desc := "(LInspectSteps;III[J)I" } : Jvm.MethodName)) ∈ GW := gw_of (List.mem_append_right _ (List.mem_append_left _ (List.mem_of_getElem? (i := 183) rfl))) rfl
theorem kw_184 : (Jvm.Cond.static ({ cls := "InspectStepsLaw", name := "inspection", desc := "(LInspectSteps;III[J)I" } : Jvm.MethodName)) ∈ GW := gw_of (List.mem_append_right _ (List.mem_append_left _ (List.mem_of_getElem? (i := 184) rfl))) rfl
theorem kw_185 : (Jvm.Cond.codeWith ({ cls := "InspectStepsLaw", name := "inspection", desc := "(LInspectSteps;III[J)I" } : Jvm.MethodName) method_3_code (6 : Nat) (Option.some Jvm.ClassFile.FieldType.int) [((0 : Nat), (12 : Nat), (15 : Nat), (13 : Nat)), ((0 : Nat), (12 : Nat), (19 : Nat), (15 : Nat))]) ∈ GW := gw_of (List.mem_append_right _ (List.mem_append_left _ (List.mem_of_getElem? (i := 185) rfl))) rfl
theorem kw_186 : (Jvm.Cond.classLink "InspectStepsLaw" (13 : Nat) "java/lang/IllegalArgumentException") ∈ GW := gw_of (List.mem_append_right _ (List.mem_append_left _ (List.mem_of_getElem? (i := 186) rfl))) rfl
theorem kw_187 : (Jvm.Cond.classLink "InspectStepsLaw" (15 : Nat) "java/lang/IllegalStateException") ∈ GW := gw_of (List.mem_append_right _ (List.mem_append_left _ (List.mem_of_getElem? (i := 187) rfl))) rfl
theorem kw_188 : (Jvm.Cond.methodLink "InspectStepsLaw" (7 : Nat) ({ cls := "InspectSteps", name := "inspection", desc := "(III)I" } : Jvm.MethodName)) ∈ GW := gw_of (List.mem_append_right _ (List.mem_append_left _ (List.mem_of_getElem? (i := 188) rfl))) rfl
theorem kw_189 : (Jvm.Cond.instanceMethod ({ cls := "InspectSteps", name := "inspection", desc := "(III)I" } : Jvm.MethodName)) ∈ GW := gw_of (List.mem_append_right _ (List.mem_append_left _ (List.mem_of_getElem? (i := 189) rfl))) rfl
theorem kw_190 : (Jvm.Cond.selects "InspectSteps" ({ cls := "InspectSteps", name := "inspection", desc := "(III)I" } : Jvm.MethodName) ({ cls := "InspectSteps", name := "inspection", desc := "(III)I" } : Jvm.MethodName)) ∈ GW := gw_of (List.mem_append_right _ (List.mem_append_left _ (List.mem_of_getElem? (i := 190) rfl))) rfl
theorem kw_191 : (Jvm.Cond.code ({ cls := "InspectSteps", name := "inspection", desc := "(III)I" } : Jvm.MethodName) prog_1_method_3_code (4 : Nat) (Option.some Jvm.ClassFile.FieldType.int)) ∈ GW := gw_of (List.mem_append_right _ (List.mem_append_left _ (List.mem_of_getElem? (i := 191) rfl))) rfl
theorem kw_192 : (Jvm.Cond.classLink "InspectSteps" (68 : Nat) "java/lang/IllegalArgumentException") ∈ GW := gw_of (List.mem_append_right _ (List.mem_append_left _ (List.mem_of_getElem? (i := 192) rfl))) rfl
theorem kw_193 : (Jvm.Cond.instantiable "java/lang/IllegalArgumentException" (6 : Nat)) ∈ GW := gw_of (List.mem_append_right _ (List.mem_append_left _ (List.mem_of_getElem? (i := 193) rfl))) rfl
theorem kw_201 : (Jvm.Cond.selects "java/lang/IllegalArgumentException" ({ cls := "java/lang/Throwable", name := "fillInStackTrace", desc := "(I)Ljava/lang/Throwable;" } : Jvm.MethodName) ({ cls := "java/lang/Throwable", name := "fillInStackTrace", desc := "(I)Ljava/lang/Throwable;" } : Jvm.MethodName)) ∈ GW := gw_of (List.mem_append_right _ (List.mem_append_left _ (List.mem_of_getElem? (i := 201) rfl))) rfl
theorem kw_202 : (Jvm.Cond.selects "java/lang/IllegalArgumentException" ({ cls := "java/lang/Throwable", name := "fillInStackTrace", desc := "()Ljava/lang/Throwable;" } : Jvm.MethodName) ({ cls := "java/lang/Throwable", name := "fillInStackTrace", desc := "()Ljava/lang/Throwable;" } : Jvm.MethodName)) ∈ GW := gw_of (List.mem_append_right _ (List.mem_append_left _ (List.mem_of_getElem? (i := 202) rfl))) rfl
theorem kw_203 : (Jvm.Cond.lays "java/lang/IllegalArgumentException" "java/lang/Throwable" "cause" "Ljava/lang/Throwable;") ∈ GW := gw_of (List.mem_append_right _ (List.mem_append_left _ (List.mem_of_getElem? (i := 203) rfl))) rfl
theorem kw_204 : (Jvm.Cond.lays "java/lang/Throwable" "java/lang/Throwable" "cause" "Ljava/lang/Throwable;") ∈ GW := gw_of (List.mem_append_right _ (List.mem_append_left _ (List.mem_of_getElem? (i := 204) rfl))) rfl
theorem kw_205 : (Jvm.Cond.lays "java/lang/IllegalArgumentException" "java/lang/Throwable" "stackTrace" "[Ljava/lang/StackTraceElement;") ∈ GW := gw_of (List.mem_append_right _ (List.mem_append_left _ (List.mem_of_getElem? (i := 205) rfl))) rfl
theorem kw_206 : (Jvm.Cond.lays "java/lang/Throwable" "java/lang/Throwable" "stackTrace" "[Ljava/lang/StackTraceElement;") ∈ GW := gw_of (List.mem_append_right _ (List.mem_append_left _ (List.mem_of_getElem? (i := 206) rfl))) rfl
theorem kw_207 : (Jvm.Cond.lays "java/lang/IllegalArgumentException" "java/lang/Throwable" "suppressedExceptions" "Ljava/util/List;") ∈ GW := gw_of (List.mem_append_right _ (List.mem_append_left _ (List.mem_of_getElem? (i := 207) rfl))) rfl
theorem kw_208 : (Jvm.Cond.lays "java/lang/Throwable" "java/lang/Throwable" "suppressedExceptions" "Ljava/util/List;") ∈ GW := gw_of (List.mem_append_right _ (List.mem_append_left _ (List.mem_of_getElem? (i := 208) rfl))) rfl
theorem kw_209 : (Jvm.Cond.lays "java/lang/IllegalArgumentException" "java/lang/Throwable" "detailMessage" "Ljava/lang/String;") ∈ GW := gw_of (List.mem_append_right _ (List.mem_append_left _ (List.mem_of_getElem? (i := 209) rfl))) rfl
theorem kw_210 : (Jvm.Cond.lays "java/lang/Throwable" "java/lang/Throwable" "detailMessage" "Ljava/lang/String;") ∈ GW := gw_of (List.mem_append_right _ (List.mem_append_left _ (List.mem_of_getElem? (i := 210) rfl))) rfl
theorem kw_211 : (Jvm.Cond.lays "java/lang/IllegalArgumentException" "java/lang/Throwable" "backtrace" "Ljava/lang/Object;") ∈ GW := gw_of (List.mem_append_right _ (List.mem_append_left _ (List.mem_of_getElem? (i := 211) rfl))) rfl
theorem kw_212 : (Jvm.Cond.lays "java/lang/Throwable" "java/lang/Throwable" "backtrace" "Ljava/lang/Object;") ∈ GW := gw_of (List.mem_append_right _ (List.mem_append_left _ (List.mem_of_getElem? (i := 212) rfl))) rfl
theorem kw_213 : (Jvm.Cond.fieldLink "java/lang/Throwable" (198 : Nat) "java/lang/Throwable" "backtrace" "Ljava/lang/Object;") ∈ GW := gw_of (List.mem_append_right _ (List.mem_append_left _ (List.mem_of_getElem? (i := 213) rfl))) rfl
theorem kw_215 : (Jvm.Cond.instanceMethod ({ cls := "java/lang/Throwable", name := "<init>", desc := "()V" } : Jvm.MethodName)) ∈ GW := gw_of (List.mem_append_right _ (List.mem_append_left _ (List.mem_of_getElem? (i := 215) rfl))) rfl
theorem kw_216 : (Jvm.Cond.code ({ cls := "java/lang/Throwable", name := "<init>", desc := "()V" } : Jvm.MethodName) prog_17_method_1_code (1 : Nat) (Option.none : Option Jvm.ClassFile.FieldType)) ∈ GW := gw_of (List.mem_append_right _ (List.mem_append_left _ (List.mem_of_getElem? (i := 216) rfl))) rfl
theorem kw_217 : (Jvm.Cond.methodLink "java/lang/Throwable" (1 : Nat) ({ cls := "java/lang/Object", name := "<init>", desc := "()V" } : Jvm.MethodName)) ∈ GW := gw_of (List.mem_append_right _ (List.mem_append_left _ (List.mem_of_getElem? (i := 217) rfl))) rfl
theorem kw_218 : (Jvm.Cond.fieldLink "java/lang/Throwable" (13 : Nat) "java/lang/Throwable" "UNASSIGNED_STACK" "[Ljava/lang/StackTraceElement;") ∈ GW := gw_of (List.mem_append_right _ (List.mem_append_left _ (List.mem_of_getElem? (i := 218) rfl))) rfl
theorem kw_220 : (Jvm.Cond.fieldLink "java/lang/Throwable" (20 : Nat) "java/lang/Throwable" "SUPPRESSED_SENTINEL" "Ljava/util/List;") ∈ GW := gw_of (List.mem_append_right _ (List.mem_append_left _ (List.mem_of_getElem? (i := 220) rfl))) rfl
theorem kw_222 : (Jvm.Cond.methodLink "java/lang/Throwable" (27 : Nat) ({ cls := "java/lang/Throwable", name := "fillInStackTrace", desc := "()Ljava/lang/Throwable;" } : Jvm.MethodName)) ∈ GW := gw_of (List.mem_append_right _ (List.mem_append_left _ (List.mem_of_getElem? (i := 222) rfl))) rfl
theorem kw_223 : (Jvm.Cond.instanceMethod ({ cls := "java/lang/Throwable", name := "fillInStackTrace", desc := "()Ljava/lang/Throwable;" } : Jvm.MethodName)) ∈ GW := gw_of (List.mem_append_right _ (List.mem_append_left _ (List.mem_of_getElem? (i := 223) rfl))) rfl
theorem kw_225 : (Jvm.Cond.selects "java/lang/IllegalStateException" ({ cls := "java/lang/Throwable", name := "fillInStackTrace", desc := "()Ljava/lang/Throwable;" } : Jvm.MethodName) ({ cls := "java/lang/Throwable", name := "fillInStackTrace", desc := "()Ljava/lang/Throwable;" } : Jvm.MethodName)) ∈ GW := gw_of (List.mem_append_right _ (List.mem_append_left _ (List.mem_of_getElem? (i := 225) rfl))) rfl
theorem kw_226 : (Jvm.Cond.selects "java/lang/IndexOutOfBoundsException" ({ cls := "java/lang/Throwable", name := "fillInStackTrace", desc := "()Ljava/lang/Throwable;" } : Jvm.MethodName) ({ cls := "java/lang/Throwable", name := "fillInStackTrace", desc := "()Ljava/lang/Throwable;" } : Jvm.MethodName)) ∈ GW := gw_of (List.mem_append_right _ (List.mem_append_left _ (List.mem_of_getElem? (i := 226) rfl))) rfl
theorem kw_228 : (Jvm.Cond.methodLink "java/lang/Throwable" (202 : Nat) ({ cls := "java/lang/Throwable", name := "fillInStackTrace", desc := "(I)Ljava/lang/Throwable;" } : Jvm.MethodName)) ∈ GW := gw_of (List.mem_append_right _ (List.mem_append_left _ (List.mem_of_getElem? (i := 228) rfl))) rfl
theorem kw_230 : (Jvm.Cond.instanceMethod ({ cls := "java/lang/Throwable", name := "fillInStackTrace", desc := "(I)Ljava/lang/Throwable;" } : Jvm.MethodName)) ∈ GW := gw_of (List.mem_append_right _ (List.mem_append_left _ (List.mem_of_getElem? (i := 230) rfl))) rfl
theorem kw_231 : (Jvm.Cond.instantiable "java/lang/Throwable" (6 : Nat)) ∈ GW := gw_of (List.mem_append_right _ (List.mem_append_left _ (List.mem_of_getElem? (i := 231) rfl))) rfl
theorem kw_234 : (Jvm.Cond.methodLink "InspectSteps" (72 : Nat) ({ cls := "java/lang/IllegalArgumentException", name := "<init>", desc := "(Ljava/lang/String;)V" } : Jvm.MethodName)) ∈ GW := gw_of (List.mem_append_right _ (List.mem_append_left _ (List.mem_of_getElem? (i := 234) rfl))) rfl
theorem kw_235 : (Jvm.Cond.instanceMethod ({ cls := "java/lang/IllegalArgumentException", name := "<init>", desc := "(Ljava/lang/String;)V" } : Jvm.MethodName)) ∈ GW := gw_of (List.mem_append_right _ (List.mem_append_left _ (List.mem_of_getElem? (i := 235) rfl))) rfl
theorem kw_236 : (Jvm.Cond.code ({ cls := "java/lang/IllegalArgumentException", name := "<init>", desc := "(Ljava/lang/String;)V" } : Jvm.MethodName) prog_9_method_2_code (2 : Nat) (Option.none : Option Jvm.ClassFile.FieldType)) ∈ GW := gw_of (List.mem_append_right _ (List.mem_append_left _ (List.mem_of_getElem? (i := 236) rfl))) rfl
theorem kw_237 : (Jvm.Cond.methodLink "java/lang/IllegalArgumentException" (7 : Nat) ({ cls := "java/lang/RuntimeException", name := "<init>", desc := "(Ljava/lang/String;)V" } : Jvm.MethodName)) ∈ GW := gw_of (List.mem_append_right _ (List.mem_append_left _ (List.mem_of_getElem? (i := 237) rfl))) rfl
theorem kw_238 : (Jvm.Cond.instanceMethod ({ cls := "java/lang/RuntimeException", name := "<init>", desc := "(Ljava/lang/String;)V" } : Jvm.MethodName)) ∈ GW := gw_of (List.mem_append_right _ (List.mem_append_left _ (List.mem_of_getElem? (i := 238) rfl))) rfl
theorem kw_239 : (Jvm.Cond.code ({ cls := "java/lang/RuntimeException", name := "<init>", desc := "(Ljava/lang/String;)V" } : Jvm.MethodName) prog_14_method_2_code (2 : Nat) (Option.none : Option Jvm.ClassFile.FieldType)) ∈ GW := gw_of (List.mem_append_right _ (List.mem_append_left _ (List.mem_of_getElem? (i := 239) rfl))) rfl
theorem kw_240 : (Jvm.Cond.methodLink "java/lang/RuntimeException" (7 : Nat) ({ cls := "java/lang/Exception", name := "<init>", desc := "(Ljava/lang/String;)V" } : Jvm.MethodName)) ∈ GW := gw_of (List.mem_append_right _ (List.mem_append_right _ (List.mem_append_left _ (List.mem_of_getElem? (i := 0) rfl)))) rfl
theorem kw_241 : (Jvm.Cond.instanceMethod ({ cls := "java/lang/Exception", name := "<init>", desc := "(Ljava/lang/String;)V" } : Jvm.MethodName)) ∈ GW := gw_of (List.mem_append_right _ (List.mem_append_right _ (List.mem_append_left _ (List.mem_of_getElem? (i := 1) rfl)))) rfl
theorem kw_242 : (Jvm.Cond.code ({ cls := "java/lang/Exception", name := "<init>", desc := "(Ljava/lang/String;)V" } : Jvm.MethodName) prog_8_method_2_code (2 : Nat) (Option.none : Option Jvm.ClassFile.FieldType)) ∈ GW := gw_of (List.mem_append_right _ (List.mem_append_right _ (List.mem_append_left _ (List.mem_of_getElem? (i := 2) rfl)))) rfl
theorem kw_243 : (Jvm.Cond.methodLink "java/lang/Exception" (7 : Nat) ({ cls := "java/lang/Throwable", name := "<init>", desc := "(Ljava/lang/String;)V" } : Jvm.MethodName)) ∈ GW := gw_of (List.mem_append_right _ (List.mem_append_right _ (List.mem_append_left _ (List.mem_of_getElem? (i := 3) rfl)))) rfl
theorem kw_244 : (Jvm.Cond.instanceMethod ({ cls := "java/lang/Throwable", name := "<init>", desc := "(Ljava/lang/String;)V" } : Jvm.MethodName)) ∈ GW := gw_of (List.mem_append_right _ (List.mem_append_right _ (List.mem_append_left _ (List.mem_of_getElem? (i := 4) rfl)))) rfl
theorem kw_245 : (Jvm.Cond.code ({ cls := "java/lang/Throwable", name := "<init>", desc := "(Ljava/lang/String;)V" } : Jvm.MethodName) prog_17_method_2_code (2 : Nat) (Option.none : Option Jvm.ClassFile.FieldType)) ∈ GW := gw_of (List.mem_append_right _ (List.mem_append_right _ (List.mem_append_left _ (List.mem_of_getElem? (i := 5) rfl)))) rfl
theorem kw_246 : (Jvm.Cond.fieldLink "java/lang/Throwable" (198 : Nat) "java/lang/Throwable" "backtrace" "Ljava/lang/Object;") ∈ GW := gw_of (List.mem_append_right _ (List.mem_append_right _ (List.mem_append_left _ (List.mem_of_getElem? (i := 6) rfl)))) rfl
theorem kw_247 : (Jvm.Cond.fieldLink "java/lang/Throwable" (31 : Nat) "java/lang/Throwable" "detailMessage" "Ljava/lang/String;") ∈ GW := gw_of (List.mem_append_right _ (List.mem_append_right _ (List.mem_append_left _ (List.mem_of_getElem? (i := 7) rfl)))) rfl
theorem kw_248 : (Jvm.Cond.fieldLink "java/lang/Throwable" (7 : Nat) "java/lang/Throwable" "cause" "Ljava/lang/Throwable;") ∈ GW := gw_of (List.mem_append_right _ (List.mem_append_right _ (List.mem_append_left _ (List.mem_of_getElem? (i := 8) rfl)))) rfl
theorem kw_249 : (Jvm.Cond.fieldLink "java/lang/Throwable" (17 : Nat) "java/lang/Throwable" "stackTrace" "[Ljava/lang/StackTraceElement;") ∈ GW := gw_of (List.mem_append_right _ (List.mem_append_right _ (List.mem_append_left _ (List.mem_of_getElem? (i := 9) rfl)))) rfl
theorem kw_250 : (Jvm.Cond.fieldLink "java/lang/Throwable" (24 : Nat) "java/lang/Throwable" "suppressedExceptions" "Ljava/util/List;") ∈ GW := gw_of (List.mem_append_right _ (List.mem_append_right _ (List.mem_append_left _ (List.mem_of_getElem? (i := 10) rfl)))) rfl
theorem kw_255 : (Jvm.Cond.lays "java/lang/IllegalArgumentException" "java/lang/Throwable" "depth" "I") ∈ GW := gw_of (List.mem_append_right _ (List.mem_append_right _ (List.mem_append_left _ (List.mem_of_getElem? (i := 15) rfl)))) rfl
theorem kw_259 : (Jvm.Cond.arrayClass Jvm.ClassFile.FieldType.byte) ∈ GW := gw_of (List.mem_append_right _ (List.mem_append_right _ (List.mem_append_left _ (List.mem_of_getElem? (i := 19) rfl)))) rfl
theorem kw_260 : (Jvm.Cond.methodLink "InspectSteps" (75 : Nat) ({ cls := "InspectSteps", name := "isTimeToCome", desc := "(I)Z" } : Jvm.MethodName)) ∈ GW := gw_of (List.mem_append_right _ (List.mem_append_right _ (List.mem_append_left _ (List.mem_of_getElem? (i := 20) rfl)))) rfl
theorem kw_262 : (Jvm.Cond.instanceMethod ({ cls := "InspectSteps", name := "isTimeToCome", desc := "(I)Z" } : Jvm.MethodName)) ∈ GW := gw_of (List.mem_append_right _ (List.mem_append_right _ (List.mem_append_left _ (List.mem_of_getElem? (i := 22) rfl)))) rfl
theorem kw_263 : (Jvm.Cond.code ({ cls := "InspectSteps", name := "isTimeToCome", desc := "(I)Z" } : Jvm.MethodName) prog_1_method_28_code (2 : Nat) (Option.some Jvm.ClassFile.FieldType.boolean)) ∈ GW := gw_of (List.mem_append_right _ (List.mem_append_right _ (List.mem_append_left _ (List.mem_of_getElem? (i := 23) rfl)))) rfl
theorem kw_264 : (Jvm.Cond.constant "InspectSteps" (260 : Nat) (100000 : Int32)) ∈ GW := gw_of (List.mem_append_right _ (List.mem_append_right _ (List.mem_append_left _ (List.mem_of_getElem? (i := 24) rfl)))) rfl
theorem kw_266 : (Jvm.Cond.classLink "InspectSteps" (84 : Nat) "java/lang/IllegalStateException") ∈ GW := gw_of (List.mem_append_right _ (List.mem_append_right _ (List.mem_append_left _ (List.mem_of_getElem? (i := 26) rfl)))) rfl
theorem kw_267 : (Jvm.Cond.instantiable "java/lang/IllegalStateException" (6 : Nat)) ∈ GW := gw_of (List.mem_append_right _ (List.mem_append_right _ (List.mem_append_left _ (List.mem_of_getElem? (i := 27) rfl)))) rfl
theorem kw_269 : (Jvm.Cond.selects "java/lang/IllegalStateException" ({ cls := "java/lang/Throwable", name := "fillInStackTrace", desc := "(I)Ljava/lang/Throwable;" } : Jvm.MethodName) ({ cls := "java/lang/Throwable", name := "fillInStackTrace", desc := "(I)Ljava/lang/Throwable;" } : Jvm.MethodName)) ∈ GW := gw_of (List.mem_append_right _ (List.mem_append_right _ (List.mem_append_left _ (List.mem_of_getElem? (i := 29) rfl)))) rfl
theorem kw_270 : (Jvm.Cond.lays "java/lang/IllegalStateException" "java/lang/Throwable" "cause" "Ljava/lang/Throwable;") ∈ GW := gw_of (List.mem_append_right _ (List.mem_append_right _ (List.mem_append_left _ (List.mem_of_getElem? (i := 30) rfl)))) rfl
theorem kw_271 : (Jvm.Cond.lays "java/lang/IllegalStateException" "java/lang/Throwable" "stackTrace" "[Ljava/lang/StackTraceElement;") ∈ GW := gw_of (List.mem_append_right _ (List.mem_append_right _ (List.mem_append_left _ (List.mem_of_getElem? (i := 31) rfl)))) rfl
theorem kw_272 : (Jvm.Cond.lays "java/lang/IllegalStateException" "java/lang/Throwable" "suppressedExceptions" "Ljava/util/List;") ∈ GW := gw_of (List.mem_append_right _ (List.mem_append_right _ (List.mem_append_left _ (List.mem_of_getElem? (i := 32) rfl)))) rfl
theorem kw_273 : (Jvm.Cond.lays "java/lang/IllegalStateException" "java/lang/Throwable" "detailMessage" "Ljava/lang/String;") ∈ GW := gw_of (List.mem_append_right _ (List.mem_append_right _ (List.mem_append_left _ (List.mem_of_getElem? (i := 33) rfl)))) rfl
theorem kw_274 : (Jvm.Cond.lays "java/lang/IllegalStateException" "java/lang/Throwable" "backtrace" "Ljava/lang/Object;") ∈ GW := gw_of (List.mem_append_right _ (List.mem_append_right _ (List.mem_append_left _ (List.mem_of_getElem? (i := 34) rfl)))) rfl
theorem kw_276 : (Jvm.Cond.methodLink "InspectSteps" (88 : Nat) ({ cls := "java/lang/IllegalStateException", name := "<init>", desc := "(Ljava/lang/String;)V" } : Jvm.MethodName)) ∈ GW := gw_of (List.mem_append_right _ (List.mem_append_right _ (List.mem_append_left _ (List.mem_of_getElem? (i := 36) rfl)))) rfl
theorem kw_277 : (Jvm.Cond.instanceMethod ({ cls := "java/lang/IllegalStateException", name := "<init>", desc := "(Ljava/lang/String;)V" } : Jvm.MethodName)) ∈ GW := gw_of (List.mem_append_right _ (List.mem_append_right _ (List.mem_append_left _ (List.mem_of_getElem? (i := 37) rfl)))) rfl
theorem kw_278 : (Jvm.Cond.code ({ cls := "java/lang/IllegalStateException", name := "<init>", desc := "(Ljava/lang/String;)V" } : Jvm.MethodName) prog_10_method_2_code (2 : Nat) (Option.none : Option Jvm.ClassFile.FieldType)) ∈ GW := gw_of (List.mem_append_right _ (List.mem_append_right _ (List.mem_append_left _ (List.mem_of_getElem? (i := 38) rfl)))) rfl
theorem kw_279 : (Jvm.Cond.methodLink "java/lang/IllegalStateException" (7 : Nat) ({ cls := "java/lang/RuntimeException", name := "<init>", desc := "(Ljava/lang/String;)V" } : Jvm.MethodName)) ∈ GW := gw_of (List.mem_append_right _ (List.mem_append_right _ (List.mem_append_left _ (List.mem_of_getElem? (i := 39) rfl)))) rfl
theorem kw_280 : (Jvm.Cond.lays "java/lang/IllegalStateException" "java/lang/Throwable" "depth" "I") ∈ GW := gw_of (List.mem_append_right _ (List.mem_append_right _ (List.mem_append_left _ (List.mem_of_getElem? (i := 40) rfl)))) rfl
theorem kw_282 : (Jvm.Cond.instantiable "InspectSteps$Inspection" (10 : Nat)) ∈ GW := gw_of (List.mem_append_right _ (List.mem_append_right _ (List.mem_append_left _ (List.mem_of_getElem? (i := 42) rfl)))) rfl
theorem kw_283 : (Jvm.Cond.methodLink "InspectSteps" (91 : Nat) ({ cls := "InspectSteps$Inspection", name := "<init>", desc := "(III)V" } : Jvm.MethodName)) ∈ GW := gw_of (List.mem_append_right _ (List.mem_append_right _ (List.mem_append_left _ (List.mem_of_getElem? (i := 43) rfl)))) rfl
theorem kw_284 : (Jvm.Cond.instanceMethod ({ cls := "InspectSteps$Inspection", name := "<init>", desc := "(III)V" } : Jvm.MethodName)) ∈ GW := gw_of (List.mem_append_right _ (List.mem_append_right _ (List.mem_append_left _ (List.mem_of_getElem? (i := 44) rfl)))) rfl
theorem kw_285 : (Jvm.Cond.code ({ cls := "InspectSteps$Inspection", name := "<init>", desc := "(III)V" } : Jvm.MethodName) prog_2_method_1_code (4 : Nat) (Option.none : Option Jvm.ClassFile.FieldType)) ∈ GW := gw_of (List.mem_append_right _ (List.mem_append_right _ (List.mem_append_left _ (List.mem_of_getElem? (i := 45) rfl)))) rfl
theorem kw_286 : (Jvm.Cond.methodLink "InspectSteps$Inspection" (3 : Nat) ({ cls := "java/lang/Object", name := "<init>", desc := "()V" } : Jvm.MethodName)) ∈ GW := gw_of (List.mem_append_right _ (List.mem_append_right _ (List.mem_append_left _ (List.mem_of_getElem? (i := 46) rfl)))) rfl
theorem kw_287 : (Jvm.Cond.fieldLink "InspectSteps$Inspection" (33 : Nat) "InspectSteps$Inspection" "declaration" "I") ∈ GW := gw_of (List.mem_append_right _ (List.mem_append_right _ (List.mem_append_left _ (List.mem_of_getElem? (i := 47) rfl)))) rfl
theorem kw_288 : (Jvm.Cond.fieldLink "InspectSteps" (133 : Nat) "InspectSteps$Inspection" "declaration" "I") ∈ GW := gw_of (List.mem_append_right _ (List.mem_append_right _ (List.mem_append_left _ (List.mem_of_getElem? (i := 48) rfl)))) rfl
theorem kw_289 : (Jvm.Cond.fieldLink "InspectSteps$Inspection" (36 : Nat) "InspectSteps$Inspection" "kind" "I") ∈ GW := gw_of (List.mem_append_right _ (List.mem_append_right _ (List.mem_append_left _ (List.mem_of_getElem? (i := 49) rfl)))) rfl
theorem kw_290 : (Jvm.Cond.fieldLink "InspectSteps" (124 : Nat) "InspectSteps$Inspection" "kind" "I") ∈ GW := gw_of (List.mem_append_right _ (List.mem_append_right _ (List.mem_append_left _ (List.mem_of_getElem? (i := 50) rfl)))) rfl
theorem kw_291 : (Jvm.Cond.fieldLink "InspectSteps$Inspection" (39 : Nat) "InspectSteps$Inspection" "due" "I") ∈ GW := gw_of (List.mem_append_right _ (List.mem_append_right _ (List.mem_append_left _ (List.mem_of_getElem? (i := 51) rfl)))) rfl
theorem kw_292 : (Jvm.Cond.fieldLink "InspectSteps$Inspection" (9 : Nat) "InspectSteps$Inspection" "state" "I") ∈ GW := gw_of (List.mem_append_right _ (List.mem_append_right _ (List.mem_append_left _ (List.mem_of_getElem? (i := 52) rfl)))) rfl
theorem kw_293 : (Jvm.Cond.fieldLink "InspectSteps" (127 : Nat) "InspectSteps$Inspection" "state" "I") ∈ GW := gw_of (List.mem_append_right _ (List.mem_append_right _ (List.mem_append_left _ (List.mem_of_getElem? (i := 53) rfl)))) rfl
theorem kw_294 : (Jvm.Cond.fieldLink "InspectSteps$Inspection" (15 : Nat) "InspectSteps$Inspection" "level" "I") ∈ GW := gw_of (List.mem_append_right _ (List.mem_append_right _ (List.mem_append_left _ (List.mem_of_getElem? (i := 54) rfl)))) rfl
theorem kw_295 : (Jvm.Cond.fieldLink "InspectSteps" (217 : Nat) "InspectSteps$Inspection" "level" "I") ∈ GW := gw_of (List.mem_append_right _ (List.mem_append_right _ (List.mem_append_left _ (List.mem_of_getElem? (i := 55) rfl)))) rfl
theorem kw_296 : (Jvm.Cond.fieldLink "InspectSteps$Inspection" (18 : Nat) "InspectSteps$Inspection" "place" "I") ∈ GW := gw_of (List.mem_append_right _ (List.mem_append_right _ (List.mem_append_left _ (List.mem_of_getElem? (i := 56) rfl)))) rfl
theorem kw_297 : (Jvm.Cond.fieldLink "InspectSteps" (223 : Nat) "InspectSteps$Inspection" "place" "I") ∈ GW := gw_of (List.mem_append_right _ (List.mem_append_right _ (List.mem_append_left _ (List.mem_of_getElem? (i := 57) rfl)))) rfl
theorem kw_298 : (Jvm.Cond.fieldLink "InspectSteps$Inspection" (21 : Nat) "InspectSteps$Inspection" "from" "I") ∈ GW := gw_of (List.mem_append_right _ (List.mem_append_right _ (List.mem_append_left _ (List.mem_of_getElem? (i := 58) rfl)))) rfl
theorem kw_299 : (Jvm.Cond.fieldLink "InspectSteps" (226 : Nat) "InspectSteps$Inspection" "from" "I") ∈ GW := gw_of (List.mem_append_right _ (List.mem_append_right _ (List.mem_append_left _ (List.mem_of_getElem? (i := 59) rfl)))) rfl
theorem kw_300 : (Jvm.Cond.fieldLink "InspectSteps$Inspection" (24 : Nat) "InspectSteps$Inspection" "to" "I") ∈ GW := gw_of (List.mem_append_right _ (List.mem_append_right _ (List.mem_append_left _ (List.mem_of_getElem? (i := 60) rfl)))) rfl
theorem kw_301 : (Jvm.Cond.fieldLink "InspectSteps" (229 : Nat) "InspectSteps$Inspection" "to" "I") ∈ GW := gw_of (List.mem_append_right _ (List.mem_append_right _ (List.mem_append_left _ (List.mem_of_getElem? (i := 61) rfl)))) rfl
theorem kw_302 : (Jvm.Cond.fieldLink "InspectSteps$Inspection" (27 : Nat) "InspectSteps$Inspection" "person" "I") ∈ GW := gw_of (List.mem_append_right _ (List.mem_append_right _ (List.mem_append_left _ (List.mem_of_getElem? (i := 62) rfl)))) rfl
theorem kw_303 : (Jvm.Cond.fieldLink "InspectSteps" (130 : Nat) "InspectSteps$Inspection" "person" "I") ∈ GW := gw_of (List.mem_append_right _ (List.mem_append_right _ (List.mem_append_left _ (List.mem_of_getElem? (i := 63) rfl)))) rfl
theorem kw_304 : (Jvm.Cond.fieldLink "InspectSteps$Inspection" (30 : Nat) "InspectSteps$Inspection" "sampleCount" "I") ∈ GW := gw_of (List.mem_append_right _ (List.mem_append_right _ (List.mem_append_left _ (List.mem_of_getElem? (i := 64) rfl)))) rfl
theorem kw_305 : (Jvm.Cond.fieldLink "InspectSteps" (164 : Nat) "InspectSteps$Inspection" "sampleCount" "I") ∈ GW := gw_of (List.mem_append_right _ (List.mem_append_right _ (List.mem_append_left _ (List.mem_of_getElem? (i := 65) rfl)))) rfl
theorem kw_306 : (Jvm.Cond.laysFinal "InspectSteps$Inspection" "InspectSteps$Inspection" "declaration" "I") ∈ GW := gw_of (List.mem_append_right _ (List.mem_append_right _ (List.mem_append_left _ (List.mem_of_getElem? (i := 66) rfl)))) rfl
theorem kw_308 : (Jvm.Cond.laysFinal "InspectSteps$Inspection" "InspectSteps$Inspection" "kind" "I") ∈ GW := gw_of (List.mem_append_right _ (List.mem_append_right _ (List.mem_append_left _ (List.mem_of_getElem? (i := 68) rfl)))) rfl
theorem kw_310 : (Jvm.Cond.laysFinal "InspectSteps$Inspection" "InspectSteps$Inspection" "due" "I") ∈ GW := gw_of (List.mem_append_right _ (List.mem_append_right _ (List.mem_append_left _ (List.mem_of_getElem? (i := 70) rfl)))) rfl
theorem kw_312 : (Jvm.Cond.lays "InspectSteps$Inspection" "InspectSteps$Inspection" "state" "I") ∈ GW := gw_of (List.mem_append_right _ (List.mem_append_right _ (List.mem_append_left _ (List.mem_of_getElem? (i := 72) rfl)))) rfl
theorem kw_314 : (Jvm.Cond.lays "InspectSteps$Inspection" "InspectSteps$Inspection" "level" "I") ∈ GW := gw_of (List.mem_append_right _ (List.mem_append_right _ (List.mem_append_left _ (List.mem_of_getElem? (i := 74) rfl)))) rfl
theorem kw_316 : (Jvm.Cond.lays "InspectSteps$Inspection" "InspectSteps$Inspection" "place" "I") ∈ GW := gw_of (List.mem_append_right _ (List.mem_append_right _ (List.mem_append_left _ (List.mem_of_getElem? (i := 76) rfl)))) rfl
theorem kw_318 : (Jvm.Cond.lays "InspectSteps$Inspection" "InspectSteps$Inspection" "from" "I") ∈ GW := gw_of (List.mem_append_right _ (List.mem_append_right _ (List.mem_append_left _ (List.mem_of_getElem? (i := 78) rfl)))) rfl
theorem kw_320 : (Jvm.Cond.lays "InspectSteps$Inspection" "InspectSteps$Inspection" "to" "I") ∈ GW := gw_of (List.mem_append_right _ (List.mem_append_right _ (List.mem_append_left _ (List.mem_of_getElem? (i := 80) rfl)))) rfl
theorem kw_322 : (Jvm.Cond.lays "InspectSteps$Inspection" "InspectSteps$Inspection" "person" "I") ∈ GW := gw_of (List.mem_append_right _ (List.mem_append_right _ (List.mem_append_left _ (List.mem_of_getElem? (i := 82) rfl)))) rfl
theorem kw_324 : (Jvm.Cond.lays "InspectSteps$Inspection" "InspectSteps$Inspection" "sampleCount" "I") ∈ GW := gw_of (List.mem_append_right _ (List.mem_append_right _ (List.mem_append_left _ (List.mem_of_getElem? (i := 84) rfl)))) rfl
theorem kw_327 : (Jvm.Cond.methodLink "InspectSteps" (94 : Nat) ({ cls := "java/util/ArrayList", name := "add", desc := "(Ljava/lang/Object;)Z" } : Jvm.MethodName)) ∈ GW := gw_of (List.mem_append_right _ (List.mem_append_right _ (List.mem_append_left _ (List.mem_of_getElem? (i := 87) rfl)))) rfl
theorem kw_328 : (Jvm.Cond.instanceMethod ({ cls := "java/util/ArrayList", name := "add", desc := "(Ljava/lang/Object;)Z" } : Jvm.MethodName)) ∈ GW := gw_of (List.mem_append_right _ (List.mem_append_right _ (List.mem_append_left _ (List.mem_of_getElem? (i := 88) rfl)))) rfl
theorem kw_329 : (Jvm.Cond.selects "java/util/ArrayList" ({ cls := "java/util/ArrayList", name := "add", desc := "(Ljava/lang/Object;)Z" } : Jvm.MethodName) ({ cls := "java/util/ArrayList", name := "add", desc := "(Ljava/lang/Object;)Z" } : Jvm.MethodName)) ∈ GW := gw_of (List.mem_append_right _ (List.mem_append_right _ (List.mem_append_left _ (List.mem_of_getElem? (i := 89) rfl)))) rfl
theorem kw_330 : (Jvm.Cond.code ({ cls := "java/util/ArrayList", name := "add", desc := "(Ljava/lang/Object;)Z" } : Jvm.MethodName) prog_20_method_25_code (2 : Nat) (Option.some Jvm.ClassFile.FieldType.boolean)) ∈ GW := gw_of (List.mem_append_right _ (List.mem_append_right _ (List.mem_append_left _ (List.mem_of_getElem? (i := 90) rfl)))) rfl
theorem kw_331 : (Jvm.Cond.methodLink "java/util/ArrayList" (131 : Nat) ({ cls := "java/util/ArrayList", name := "add", desc := "(Ljava/lang/Object;[Ljava/lang/Object;I)V" } : Jvm.MethodName)) ∈ GW := gw_of (List.mem_append_right _ (List.mem_append_right _ (List.mem_append_left _ (List.mem_of_getElem? (i := 91) rfl)))) rfl
theorem kw_333 : (Jvm.Cond.instanceMethod ({ cls := "java/util/ArrayList", name := "add", desc := "(Ljava/lang/Object;[Ljava/lang/Object;I)V" } : Jvm.MethodName)) ∈ GW := gw_of (List.mem_append_right _ (List.mem_append_right _ (List.mem_append_left _ (List.mem_of_getElem? (i := 93) rfl)))) rfl
theorem kw_334 : (Jvm.Cond.code ({ cls := "java/util/ArrayList", name := "add", desc := "(Ljava/lang/Object;[Ljava/lang/Object;I)V" } : Jvm.MethodName) prog_20_method_24_code (4 : Nat) (Option.none : Option Jvm.ClassFile.FieldType)) ∈ GW := gw_of (List.mem_append_right _ (List.mem_append_right _ (List.mem_append_left _ (List.mem_of_getElem? (i := 94) rfl)))) rfl
theorem kw_335 : (Jvm.Cond.methodLink "java/util/ArrayList" (129 : Nat) ({ cls := "java/util/ArrayList", name := "grow", desc := "()[Ljava/lang/Object;" } : Jvm.MethodName)) ∈ GW := gw_of (List.mem_append_right _ (List.mem_append_right _ (List.mem_append_left _ (List.mem_of_getElem? (i := 95) rfl)))) rfl
theorem kw_337 : (Jvm.Cond.instanceMethod ({ cls := "java/util/ArrayList", name := "grow", desc := "()[Ljava/lang/Object;" } : Jvm.MethodName)) ∈ GW := gw_of (List.mem_append_right _ (List.mem_append_right _ (List.mem_append_left _ (List.mem_of_getElem? (i := 97) rfl)))) rfl
theorem kw_338 : (Jvm.Cond.code ({ cls := "java/util/ArrayList", name := "grow", desc := "()[Ljava/lang/Object;" } : Jvm.MethodName) prog_20_method_7_code (1 : Nat) (Option.some (Jvm.ClassFile.FieldType.array (Jvm.ClassFile.FieldType.object "java/lang/Object")))) ∈ GW := gw_of (List.mem_append_right _ (List.mem_append_right _ (List.mem_append_left _ (List.mem_of_getElem? (i := 98) rfl)))) rfl
theorem kw_339 : (Jvm.Cond.methodLink "java/util/ArrayList" (69 : Nat) ({ cls := "java/util/ArrayList", name := "grow", desc := "(I)[Ljava/lang/Object;" } : Jvm.MethodName)) ∈ GW := gw_of (List.mem_append_right _ (List.mem_append_right _ (List.mem_append_left _ (List.mem_of_getElem? (i := 99) rfl)))) rfl
theorem kw_341 : (Jvm.Cond.instanceMethod ({ cls := "java/util/ArrayList", name := "grow", desc := "(I)[Ljava/lang/Object;" } : Jvm.MethodName)) ∈ GW := gw_of (List.mem_append_right _ (List.mem_append_right _ (List.mem_append_left _ (List.mem_of_getElem? (i := 101) rfl)))) rfl
theorem kw_342 : (Jvm.Cond.code ({ cls := "java/util/ArrayList", name := "grow", desc := "(I)[Ljava/lang/Object;" } : Jvm.MethodName) prog_20_method_6_code (4 : Nat) (Option.some (Jvm.ClassFile.FieldType.array (Jvm.ClassFile.FieldType.object "java/lang/Object")))) ∈ GW := gw_of (List.mem_append_right _ (List.mem_append_right _ (List.mem_append_left _ (List.mem_of_getElem? (i := 102) rfl)))) rfl
theorem kw_343 : (Jvm.Cond.methodLink "java/util/ArrayList" (73 : Nat) ({ cls := "jdk/internal/util/ArraysSupport", name := "newLength", desc := "(III)I" } : Jvm.MethodName)) ∈ GW := gw_of (List.mem_append_right _ (List.mem_append_right _ (List.mem_append_left _ (List.mem_of_getElem? (i := 103) rfl)))) rfl
theorem kw_344 : (Jvm.Cond.static ({ cls := "jdk/internal/util/ArraysSupport", name := "newLength", desc := "(III)I" } : Jvm.MethodName)) ∈ GW := gw_of (List.mem_append_right _ (List.mem_append_right _ (List.mem_append_left _ (List.mem_of_getElem? (i := 104) rfl)))) rfl
theorem kw_345 : (Jvm.Cond.code ({ cls := "jdk/internal/util/ArraysSupport", name := "newLength", desc := "(III)I" } : Jvm.MethodName) prog_27_method_27_code (4 : Nat) (Option.some Jvm.ClassFile.FieldType.int)) ∈ GW := gw_of (List.mem_append_right _ (List.mem_append_right _ (List.mem_append_left _ (List.mem_of_getElem? (i := 105) rfl)))) rfl
theorem kw_346 : (Jvm.Cond.methodLink "jdk/internal/util/ArraysSupport" (194 : Nat) ({ cls := "java/lang/Math", name := "max", desc := "(II)I" } : Jvm.MethodName)) ∈ GW := gw_of (List.mem_append_right _ (List.mem_append_right _ (List.mem_append_left _ (List.mem_of_getElem? (i := 106) rfl)))) rfl
theorem kw_347 : (Jvm.Cond.static ({ cls := "java/lang/Math", name := "max", desc := "(II)I" } : Jvm.MethodName)) ∈ GW := gw_of (List.mem_append_right _ (List.mem_append_right _ (List.mem_append_left _ (List.mem_of_getElem? (i := 107) rfl)))) rfl
theorem kw_348 : (Jvm.Cond.code ({ cls := "java/lang/Math", name := "max", desc := "(II)I" } : Jvm.MethodName) prog_13_method_65_code (2 : Nat) (Option.some Jvm.ClassFile.FieldType.int)) ∈ GW := gw_of (List.mem_append_right _ (List.mem_append_right _ (List.mem_append_left _ (List.mem_of_getElem? (i := 108) rfl)))) rfl
theorem kw_349 : (Jvm.Cond.constant "jdk/internal/util/ArraysSupport" (200 : Nat) (2147483639 : Int32)) ∈ GW := gw_of (List.mem_append_right _ (List.mem_append_right _ (List.mem_append_left _ (List.mem_of_getElem? (i := 109) rfl)))) rfl
theorem kw_350 : (Jvm.Cond.methodLink "jdk/internal/util/ArraysSupport" (201 : Nat) ({ cls := "jdk/internal/util/ArraysSupport", name := "hugeLength", desc := "(II)I" } : Jvm.MethodName)) ∈ GW := gw_of (List.mem_append_right _ (List.mem_append_right _ (List.mem_append_left _ (List.mem_of_getElem? (i := 110) rfl)))) rfl
theorem kw_351 : (Jvm.Cond.static ({ cls := "jdk/internal/util/ArraysSupport", name := "hugeLength", desc := "(II)I" } : Jvm.MethodName)) ∈ GW := gw_of (List.mem_append_right _ (List.mem_append_right _ (List.mem_append_left _ (List.mem_of_getElem? (i := 111) rfl)))) rfl
theorem kw_352 : (Jvm.Cond.code ({ cls := "jdk/internal/util/ArraysSupport", name := "hugeLength", desc := "(II)I" } : Jvm.MethodName) prog_27_method_28_code (3 : Nat) (Option.some Jvm.ClassFile.FieldType.int)) ∈ GW := gw_of (List.mem_append_right _ (List.mem_append_right _ (List.mem_append_left _ (List.mem_of_getElem? (i := 112) rfl)))) rfl
theorem kw_353 : (Jvm.Cond.methodLink "java/util/ArrayList" (66 : Nat) ({ cls := "java/util/Arrays", name := "copyOf", desc := "([Ljava/lang/Object;I)[Ljava/lang/Object;" } : Jvm.MethodName)) ∈ GW := gw_of (List.mem_append_right _ (List.mem_append_right _ (List.mem_append_left _ (List.mem_of_getElem? (i := 113) rfl)))) rfl
theorem kw_354 : (Jvm.Cond.static ({ cls := "java/util/Arrays", name := "copyOf", desc := "([Ljava/lang/Object;I)[Ljava/lang/Object;" } : Jvm.MethodName)) ∈ GW := gw_of (List.mem_append_right _ (List.mem_append_right _ (List.mem_append_left _ (List.mem_of_getElem? (i := 114) rfl)))) rfl
theorem kw_355 : (Jvm.Cond.code ({ cls := "java/util/Arrays", name := "copyOf", desc := "([Ljava/lang/Object;I)[Ljava/lang/Object;" } : Jvm.MethodName) prog_21_method_119_code (2 : Nat) (Option.some (Jvm.ClassFile.FieldType.array (Jvm.ClassFile.FieldType.object "java/lang/Object")))) ∈ GW := gw_of (List.mem_append_right _ (List.mem_append_right _ (List.mem_append_left _ (List.mem_of_getElem? (i := 115) rfl)))) rfl
theorem kw_356 : (Jvm.Cond.methodLink "java/util/Arrays" (86 : Nat) ({ cls := "java/lang/Object", name := "getClass", desc := "()Ljava/lang/Class;" } : Jvm.MethodName)) ∈ GW := gw_of (List.mem_append_right _ (List.mem_append_right _ (List.mem_append_left _ (List.mem_of_getElem? (i := 116) rfl)))) rfl
theorem kw_357 : (Jvm.Cond.instanceMethod ({ cls := "java/lang/Object", name := "getClass", desc := "()Ljava/lang/Class;" } : Jvm.MethodName)) ∈ GW := gw_of (List.mem_append_right _ (List.mem_append_right _ (List.mem_append_left _ (List.mem_of_getElem? (i := 117) rfl)))) rfl
theorem kw_359 : (Jvm.Cond.selects "InspectSteps" ({ cls := "java/lang/Object", name := "getClass", desc := "()Ljava/lang/Class;" } : Jvm.MethodName) ({ cls := "java/lang/Object", name := "getClass", desc := "()Ljava/lang/Class;" } : Jvm.MethodName)) ∈ GW := gw_of (List.mem_append_right _ (List.mem_append_right _ (List.mem_append_left _ (List.mem_of_getElem? (i := 119) rfl)))) rfl
theorem kw_360 : (Jvm.Cond.selects "InspectSteps$Inspection" ({ cls := "java/lang/Object", name := "getClass", desc := "()Ljava/lang/Class;" } : Jvm.MethodName) ({ cls := "java/lang/Object", name := "getClass", desc := "()Ljava/lang/Class;" } : Jvm.MethodName)) ∈ GW := gw_of (List.mem_append_right _ (List.mem_append_right _ (List.mem_append_left _ (List.mem_of_getElem? (i := 120) rfl)))) rfl
theorem kw_361 : (Jvm.Cond.selects "InspectSteps$Sample" ({ cls := "java/lang/Object", name := "getClass", desc := "()Ljava/lang/Class;" } : Jvm.MethodName) ({ cls := "java/lang/Object", name := "getClass", desc := "()Ljava/lang/Class;" } : Jvm.MethodName)) ∈ GW := gw_of (List.mem_append_right _ (List.mem_append_right _ (List.mem_append_left _ (List.mem_of_getElem? (i := 121) rfl)))) rfl
theorem kw_362 : (Jvm.Cond.selects "InspectStepsModel" ({ cls := "java/lang/Object", name := "getClass", desc := "()Ljava/lang/Class;" } : Jvm.MethodName) ({ cls := "java/lang/Object", name := "getClass", desc := "()Ljava/lang/Class;" } : Jvm.MethodName)) ∈ GW := gw_of (List.mem_append_right _ (List.mem_append_right _ (List.mem_append_left _ (List.mem_of_getElem? (i := 122) rfl)))) rfl
theorem kw_363 : (Jvm.Cond.selects "java/lang/IllegalArgumentException" ({ cls := "java/lang/Object", name := "getClass", desc := "()Ljava/lang/Class;" } : Jvm.MethodName) ({ cls := "java/lang/Object", name := "getClass", desc := "()Ljava/lang/Class;" } : Jvm.MethodName)) ∈ GW := gw_of (List.mem_append_right _ (List.mem_append_right _ (List.mem_append_left _ (List.mem_of_getElem? (i := 123) rfl)))) rfl
theorem kw_364 : (Jvm.Cond.selects "java/lang/IllegalStateException" ({ cls := "java/lang/Object", name := "getClass", desc := "()Ljava/lang/Class;" } : Jvm.MethodName) ({ cls := "java/lang/Object", name := "getClass", desc := "()Ljava/lang/Class;" } : Jvm.MethodName)) ∈ GW := gw_of (List.mem_append_right _ (List.mem_append_right _ (List.mem_append_left _ (List.mem_of_getElem? (i := 124) rfl)))) rfl
theorem kw_365 : (Jvm.Cond.selects "java/lang/IndexOutOfBoundsException" ({ cls := "java/lang/Object", name := "getClass", desc := "()Ljava/lang/Class;" } : Jvm.MethodName) ({ cls := "java/lang/Object", name := "getClass", desc := "()Ljava/lang/Class;" } : Jvm.MethodName)) ∈ GW := gw_of (List.mem_append_right _ (List.mem_append_right _ (List.mem_append_left _ (List.mem_of_getElem? (i := 125) rfl)))) rfl
theorem kw_366 : (Jvm.Cond.selects "java/util/ArrayList" ({ cls := "java/lang/Object", name := "getClass", desc := "()Ljava/lang/Class;" } : Jvm.MethodName) ({ cls := "java/lang/Object", name := "getClass", desc := "()Ljava/lang/Class;" } : Jvm.MethodName)) ∈ GW := gw_of (List.mem_append_right _ (List.mem_append_right _ (List.mem_append_left _ (List.mem_of_getElem? (i := 126) rfl)))) rfl
theorem kw_368 : (Jvm.Cond.methodLink "java/util/Arrays" (300 : Nat) ({ cls := "java/util/Arrays", name := "copyOf", desc := "([Ljava/lang/Object;ILjava/lang/Class;)[Ljava/lang/Object;" } : Jvm.MethodName)) ∈ GW := gw_of (List.mem_append_right _ (List.mem_append_right _ (List.mem_append_left _ (List.mem_of_getElem? (i := 128) rfl)))) rfl
theorem kw_369 : (Jvm.Cond.static ({ cls := "java/util/Arrays", name := "copyOf", desc := "([Ljava/lang/Object;ILjava/lang/Class;)[Ljava/lang/Object;" } : Jvm.MethodName)) ∈ GW := gw_of (List.mem_append_right _ (List.mem_append_right _ (List.mem_append_left _ (List.mem_of_getElem? (i := 129) rfl)))) rfl
theorem kw_370 : (Jvm.Cond.code ({ cls := "java/util/Arrays", name := "copyOf", desc := "([Ljava/lang/Object;ILjava/lang/Class;)[Ljava/lang/Object;" } : Jvm.MethodName) prog_21_method_120_code (4 : Nat) (Option.some (Jvm.ClassFile.FieldType.array (Jvm.ClassFile.FieldType.object "java/lang/Object")))) ∈ GW := gw_of (List.mem_append_right _ (List.mem_append_right _ (List.mem_append_left _ (List.mem_of_getElem? (i := 130) rfl)))) rfl
theorem kw_371 : (Jvm.Cond.classLink "java/util/Arrays" (110 : Nat) "[Ljava/lang/Object;") ∈ GW := gw_of (List.mem_append_right _ (List.mem_append_right _ (List.mem_append_left _ (List.mem_of_getElem? (i := 131) rfl)))) rfl
theorem kw_373 : (Jvm.Cond.classLink "java/util/Arrays" (2 : Nat) "java/lang/Object") ∈ GW := gw_of (List.mem_append_right _ (List.mem_append_right _ (List.mem_append_left _ (List.mem_of_getElem? (i := 133) rfl)))) rfl
theorem kw_374 : (Jvm.Cond.methodLink "java/util/Arrays" (304 : Nat) ({ cls := "java/lang/Math", name := "min", desc := "(II)I" } : Jvm.MethodName)) ∈ GW := gw_of (List.mem_append_right _ (List.mem_append_right _ (List.mem_append_left _ (List.mem_of_getElem? (i := 134) rfl)))) rfl
theorem kw_375 : (Jvm.Cond.static ({ cls := "java/lang/Math", name := "min", desc := "(II)I" } : Jvm.MethodName)) ∈ GW := gw_of (List.mem_append_right _ (List.mem_append_right _ (List.mem_append_left _ (List.mem_of_getElem? (i := 135) rfl)))) rfl
theorem kw_376 : (Jvm.Cond.code ({ cls := "java/lang/Math", name := "min", desc := "(II)I" } : Jvm.MethodName) prog_13_method_69_code (2 : Nat) (Option.some Jvm.ClassFile.FieldType.int)) ∈ GW := gw_of (List.mem_append_right _ (List.mem_append_right _ (List.mem_append_left _ (List.mem_of_getElem? (i := 136) rfl)))) rfl
theorem kw_377 : (Jvm.Cond.methodLink "java/util/Arrays" (150 : Nat) ({ cls := "java/lang/System", name := "arraycopy", desc := "(Ljava/lang/Object;ILjava/lang/Object;II)V" } : Jvm.MethodName)) ∈ GW := gw_of (List.mem_append_right _ (List.mem_append_right _ (List.mem_append_left _ (List.mem_of_getElem? (i := 137) rfl)))) rfl
theorem kw_378 : (Jvm.Cond.static ({ cls := "java/lang/System", name := "arraycopy", desc := "(Ljava/lang/Object;ILjava/lang/Object;II)V" } : Jvm.MethodName)) ∈ GW := gw_of (List.mem_append_right _ (List.mem_append_right _ (List.mem_append_left _ (List.mem_of_getElem? (i := 138) rfl)))) rfl
theorem kw_380 : (Jvm.Cond.methodLink "java/util/ArrayList" (79 : Nat) ({ cls := "java/lang/Math", name := "max", desc := "(II)I" } : Jvm.MethodName)) ∈ GW := gw_of (List.mem_append_right _ (List.mem_append_right _ (List.mem_append_left _ (List.mem_of_getElem? (i := 140) rfl)))) rfl
theorem kw_381 : (Jvm.Cond.classLink "java/util/ArrayList" (7 : Nat) "java/lang/Object") ∈ GW := gw_of (List.mem_append_right _ (List.mem_append_right _ (List.mem_append_left _ (List.mem_of_getElem? (i := 141) rfl)))) rfl
theorem kw_382 : (Jvm.Cond.methodLink "InspectStepsLaw" (72 : Nat) ({ cls := "InspectStepsLaw", name := "plan", desc := "(LInspectSteps;IIII[J)I" } : Jvm.MethodName)) ∈ GW := gw_of (List.mem_append_right _ (List.mem_append_right _ (List.mem_append_left _ (List.mem_of_getElem? (i := 142) rfl)))) rfl
theorem kw_383 : (Jvm.Cond.static ({ cls := "InspectStepsLaw", name := "plan", desc := "(LInspectSteps;IIII[J)I" } : Jvm.MethodName)) ∈ GW := gw_of (List.mem_append_right _ (List.mem_append_right _ (List.mem_append_left _ (List.mem_of_getElem? (i := 143) rfl)))) rfl
theorem kw_384 : (Jvm.Cond.codeWith ({ cls := "InspectStepsLaw", name := "plan", desc := "(LInspectSteps;IIII[J)I" } : Jvm.MethodName) method_4_code (7 : Nat) (Option.some Jvm.ClassFile.FieldType.int) [((0 : Nat), (14 : Nat), (17 : Nat), (13 : Nat))]) ∈ GW := gw_of (List.mem_append_right _ (List.mem_append_right _ (List.mem_append_left _ (List.mem_of_getElem? (i := 144) rfl)))) rfl
theorem kw_385 : (Jvm.Cond.methodLink "InspectStepsLaw" (17 : Nat) ({ cls := "InspectSteps", name := "plan", desc := "(IIII)I" } : Jvm.MethodName)) ∈ GW := gw_of (List.mem_append_right _ (List.mem_append_right _ (List.mem_append_left _ (List.mem_of_getElem? (i := 145) rfl)))) rfl
theorem kw_386 : (Jvm.Cond.instanceMethod ({ cls := "InspectSteps", name := "plan", desc := "(IIII)I" } : Jvm.MethodName)) ∈ GW := gw_of (List.mem_append_right _ (List.mem_append_right _ (List.mem_append_left _ (List.mem_of_getElem? (i := 146) rfl)))) rfl
theorem kw_387 : (Jvm.Cond.selects "InspectSteps" ({ cls := "InspectSteps", name := "plan", desc := "(IIII)I" } : Jvm.MethodName) ({ cls := "InspectSteps", name := "plan", desc := "(IIII)I" } : Jvm.MethodName)) ∈ GW := gw_of (List.mem_append_right _ (List.mem_append_right _ (List.mem_append_left _ (List.mem_of_getElem? (i := 147) rfl)))) rfl
theorem kw_388 : (Jvm.Cond.code ({ cls := "InspectSteps", name := "plan", desc := "(IIII)I" } : Jvm.MethodName) prog_1_method_4_code (6 : Nat) (Option.some Jvm.ClassFile.FieldType.int)) ∈ GW := gw_of (List.mem_append_right _ (List.mem_append_right _ (List.mem_append_left _ (List.mem_of_getElem? (i := 148) rfl)))) rfl
theorem kw_391 : (Jvm.Cond.methodLink "InspectSteps" (109 : Nat) ({ cls := "InspectSteps$Inspection", name := "canBePlanned", desc := "()Z" } : Jvm.MethodName)) ∈ GW := gw_of (List.mem_append_right _ (List.mem_append_right _ (List.mem_append_left _ (List.mem_of_getElem? (i := 151) rfl)))) rfl
theorem kw_392 : (Jvm.Cond.instanceMethod ({ cls := "InspectSteps$Inspection", name := "canBePlanned", desc := "()Z" } : Jvm.MethodName)) ∈ GW := gw_of (List.mem_append_right _ (List.mem_append_right _ (List.mem_append_left _ (List.mem_of_getElem? (i := 152) rfl)))) rfl
theorem kw_393 : (Jvm.Cond.selects "InspectSteps$Inspection" ({ cls := "InspectSteps$Inspection", name := "canBePlanned", desc := "()Z" } : Jvm.MethodName) ({ cls := "InspectSteps$Inspection", name := "canBePlanned", desc := "()Z" } : Jvm.MethodName)) ∈ GW := gw_of (List.mem_append_right _ (List.mem_append_right _ (List.mem_append_left _ (List.mem_of_getElem? (i := 153) rfl)))) rfl
theorem kw_394 : (Jvm.Cond.code ({ cls := "InspectSteps$Inspection", name := "canBePlanned", desc := "()Z" } : Jvm.MethodName) prog_2_method_4_code (1 : Nat) (Option.some Jvm.ClassFile.FieldType.boolean)) ∈ GW := gw_of (List.mem_append_right _ (List.mem_append_right _ (List.mem_append_left _ (List.mem_of_getElem? (i := 154) rfl)))) rfl
theorem kw_395 : (Jvm.Cond.methodLink "InspectSteps" (113 : Nat) ({ cls := "InspectSteps", name := "isTaken", desc := "(III)Z" } : Jvm.MethodName)) ∈ GW := gw_of (List.mem_append_right _ (List.mem_append_right _ (List.mem_append_left _ (List.mem_of_getElem? (i := 155) rfl)))) rfl
theorem kw_397 : (Jvm.Cond.instanceMethod ({ cls := "InspectSteps", name := "isTaken", desc := "(III)Z" } : Jvm.MethodName)) ∈ GW := gw_of (List.mem_append_right _ (List.mem_append_right _ (List.mem_append_left _ (List.mem_of_getElem? (i := 157) rfl)))) rfl
theorem kw_398 : (Jvm.Cond.code ({ cls := "InspectSteps", name := "isTaken", desc := "(III)Z" } : Jvm.MethodName) prog_1_method_22_code (5 : Nat) (Option.some Jvm.ClassFile.FieldType.boolean)) ∈ GW := gw_of (List.mem_append_right _ (List.mem_append_right _ (List.mem_append_left _ (List.mem_of_getElem? (i := 158) rfl)))) rfl
theorem kw_399 : (Jvm.Cond.methodLink "InspectSteps" (251 : Nat) ({ cls := "InspectSteps$Inspection", name := "takes", desc := "(III)Z" } : Jvm.MethodName)) ∈ GW := gw_of (List.mem_append_right _ (List.mem_append_right _ (List.mem_append_left _ (List.mem_of_getElem? (i := 159) rfl)))) rfl
theorem kw_400 : (Jvm.Cond.instanceMethod ({ cls := "InspectSteps$Inspection", name := "takes", desc := "(III)Z" } : Jvm.MethodName)) ∈ GW := gw_of (List.mem_append_right _ (List.mem_append_right _ (List.mem_append_left _ (List.mem_of_getElem? (i := 160) rfl)))) rfl
theorem kw_401 : (Jvm.Cond.selects "InspectSteps$Inspection" ({ cls := "InspectSteps$Inspection", name := "takes", desc := "(III)Z" } : Jvm.MethodName) ({ cls := "InspectSteps$Inspection", name := "takes", desc := "(III)Z" } : Jvm.MethodName)) ∈ GW := gw_of (List.mem_append_right _ (List.mem_append_right _ (List.mem_append_left _ (List.mem_of_getElem? (i := 161) rfl)))) rfl
theorem kw_402 : (Jvm.Cond.code ({ cls := "InspectSteps$Inspection", name := "takes", desc := "(III)Z" } : Jvm.MethodName) prog_2_method_8_code (4 : Nat) (Option.some Jvm.ClassFile.FieldType.boolean)) ∈ GW := gw_of (List.mem_append_right _ (List.mem_append_right _ (List.mem_append_left _ (List.mem_of_getElem? (i := 162) rfl)))) rfl
theorem kw_403 : (Jvm.Cond.methodLink "InspectSteps$Inspection" (42 : Nat) ({ cls := "InspectSteps$Inspection", name := "hasAppointment", desc := "()Z" } : Jvm.MethodName)) ∈ GW := gw_of (List.mem_append_right _ (List.mem_append_right _ (List.mem_append_left _ (List.mem_of_getElem? (i := 163) rfl)))) rfl
theorem kw_404 : (Jvm.Cond.instanceMethod ({ cls := "InspectSteps$Inspection", name := "hasAppointment", desc := "()Z" } : Jvm.MethodName)) ∈ GW := gw_of (List.mem_append_right _ (List.mem_append_right _ (List.mem_append_left _ (List.mem_of_getElem? (i := 164) rfl)))) rfl
theorem kw_405 : (Jvm.Cond.selects "InspectSteps$Inspection" ({ cls := "InspectSteps$Inspection", name := "hasAppointment", desc := "()Z" } : Jvm.MethodName) ({ cls := "InspectSteps$Inspection", name := "hasAppointment", desc := "()Z" } : Jvm.MethodName)) ∈ GW := gw_of (List.mem_append_right _ (List.mem_append_right _ (List.mem_append_left _ (List.mem_of_getElem? (i := 165) rfl)))) rfl
theorem kw_406 : (Jvm.Cond.code ({ cls := "InspectSteps$Inspection", name := "hasAppointment", desc := "()Z" } : Jvm.MethodName) prog_2_method_7_code (1 : Nat) (Option.some Jvm.ClassFile.FieldType.boolean)) ∈ GW := gw_of (List.mem_append_right _ (List.mem_append_right _ (List.mem_append_left _ (List.mem_of_getElem? (i := 166) rfl)))) rfl
theorem kw_407 : (Jvm.Cond.methodLink "InspectSteps" (116 : Nat) ({ cls := "InspectSteps$Inspection", name := "appoint", desc := "(III)V" } : Jvm.MethodName)) ∈ GW := gw_of (List.mem_append_right _ (List.mem_append_right _ (List.mem_append_left _ (List.mem_of_getElem? (i := 167) rfl)))) rfl
theorem kw_408 : (Jvm.Cond.instanceMethod ({ cls := "InspectSteps$Inspection", name := "appoint", desc := "(III)V" } : Jvm.MethodName)) ∈ GW := gw_of (List.mem_append_right _ (List.mem_append_right _ (List.mem_append_left _ (List.mem_of_getElem? (i := 168) rfl)))) rfl
theorem kw_409 : (Jvm.Cond.selects "InspectSteps$Inspection" ({ cls := "InspectSteps$Inspection", name := "appoint", desc := "(III)V" } : Jvm.MethodName) ({ cls := "InspectSteps$Inspection", name := "appoint", desc := "(III)V" } : Jvm.MethodName)) ∈ GW := gw_of (List.mem_append_right _ (List.mem_append_right _ (List.mem_append_left _ (List.mem_of_getElem? (i := 169) rfl)))) rfl
theorem kw_410 : (Jvm.Cond.code ({ cls := "InspectSteps$Inspection", name := "appoint", desc := "(III)V" } : Jvm.MethodName) prog_2_method_9_code (4 : Nat) (Option.none : Option Jvm.ClassFile.FieldType)) ∈ GW := gw_of (List.mem_append_right _ (List.mem_append_right _ (List.mem_append_left _ (List.mem_of_getElem? (i := 170) rfl)))) rfl
theorem kw_411 : (Jvm.Cond.methodLink "InspectStepsLaw" (76 : Nat) ({ cls := "InspectStepsLaw", name := "begin", desc := "(LInspectSteps;II[J)I" } : Jvm.MethodName)) ∈ GW := gw_of (List.mem_append_right _ (List.mem_append_right _ (List.mem_append_left _ (List.mem_of_getElem? (i := 171) rfl)))) rfl
theorem kw_412 : (Jvm.Cond.static ({ cls := "InspectStepsLaw", name := "begin", desc := "(LInspectSteps;II[J)I" } : Jvm.MethodName)) ∈ GW := gw_of (List.mem_append_right _ (List.mem_append_right _ (List.mem_append_left _ (List.mem_of_getElem? (i := 172) rfl)))) rfl
theorem kw_413 : (Jvm.Cond.codeWith ({ cls := "InspectStepsLaw", name := "begin", desc := "(LInspectSteps;II[J)I" } : Jvm.MethodName) method_5_code (5 : Nat) (Option.some Jvm.ClassFile.FieldType.int) [((0 : Nat), (10 : Nat), (13 : Nat), (13 : Nat))]) ∈ GW := gw_of (List.mem_append_right _ (List.mem_append_right _ (List.mem_append_left _ (List.mem_of_getElem? (i := 173) rfl)))) rfl
theorem kw_414 : (Jvm.Cond.methodLink "InspectStepsLaw" (21 : Nat) ({ cls := "InspectSteps", name := "begin", desc := "(II)I" } : Jvm.MethodName)) ∈ GW := gw_of (List.mem_append_right _ (List.mem_append_right _ (List.mem_append_left _ (List.mem_of_getElem? (i := 174) rfl)))) rfl
theorem kw_415 : (Jvm.Cond.instanceMethod ({ cls := "InspectSteps", name := "begin", desc := "(II)I" } : Jvm.MethodName)) ∈ GW := gw_of (List.mem_append_right _ (List.mem_append_right _ (List.mem_append_left _ (List.mem_of_getElem? (i := 175) rfl)))) rfl
theorem kw_416 : (Jvm.Cond.selects "InspectSteps" ({ cls := "InspectSteps", name := "begin", desc := "(II)I" } : Jvm.MethodName) ({ cls := "InspectSteps", name := "begin", desc := "(II)I" } : Jvm.MethodName)) ∈ GW := gw_of (List.mem_append_right _ (List.mem_append_right _ (List.mem_append_left _ (List.mem_of_getElem? (i := 176) rfl)))) rfl
theorem kw_417 : (Jvm.Cond.code ({ cls := "InspectSteps", name := "begin", desc := "(II)I" } : Jvm.MethodName) prog_1_method_5_code (4 : Nat) (Option.some Jvm.ClassFile.FieldType.int)) ∈ GW := gw_of (List.mem_append_right _ (List.mem_append_right _ (List.mem_append_left _ (List.mem_of_getElem? (i := 177) rfl)))) rfl
theorem kw_419 : (Jvm.Cond.methodLink "InspectSteps" (121 : Nat) ({ cls := "InspectSteps$Inspection", name := "canBeBegunAt", desc := "(I)Z" } : Jvm.MethodName)) ∈ GW := gw_of (List.mem_append_right _ (List.mem_append_right _ (List.mem_append_left _ (List.mem_of_getElem? (i := 179) rfl)))) rfl
theorem kw_420 : (Jvm.Cond.instanceMethod ({ cls := "InspectSteps$Inspection", name := "canBeBegunAt", desc := "(I)Z" } : Jvm.MethodName)) ∈ GW := gw_of (List.mem_append_right _ (List.mem_append_right _ (List.mem_append_left _ (List.mem_of_getElem? (i := 180) rfl)))) rfl
theorem kw_421 : (Jvm.Cond.selects "InspectSteps$Inspection" ({ cls := "InspectSteps$Inspection", name := "canBeBegunAt", desc := "(I)Z" } : Jvm.MethodName) ({ cls := "InspectSteps$Inspection", name := "canBeBegunAt", desc := "(I)Z" } : Jvm.MethodName)) ∈ GW := gw_of (List.mem_append_right _ (List.mem_append_right _ (List.mem_append_left _ (List.mem_of_getElem? (i := 181) rfl)))) rfl
theorem kw_422 : (Jvm.Cond.code ({ cls := "InspectSteps$Inspection", name := "canBeBegunAt", desc := "(I)Z" } : Jvm.MethodName) prog_2_method_5_code (2 : Nat) (Option.some Jvm.ClassFile.FieldType.boolean)) ∈ GW := gw_of (List.mem_append_right _ (List.mem_append_right _ (List.mem_append_left _ (List.mem_of_getElem? (i := 182) rfl)))) rfl
theorem kw_423 : (Jvm.Cond.methodLink "InspectSteps" (136 : Nat) ({ cls := "InspectSteps$Inspection", name := "isOpening", desc := "()Z" } : Jvm.MethodName)) ∈ GW := gw_of (List.mem_append_right _ (List.mem_append_right _ (List.mem_append_left _ (List.mem_of_getElem? (i := 183) rfl)))) rfl
theorem kw_424 : (Jvm.Cond.instanceMethod ({ cls := "InspectSteps$Inspection", name := "isOpening", desc := "()Z" } : Jvm.MethodName)) ∈ GW := gw_of (List.mem_append_right _ (List.mem_append_right _ (List.mem_append_left _ (List.mem_of_getElem? (i := 184) rfl)))) rfl
theorem kw_425 : (Jvm.Cond.selects "InspectSteps$Inspection" ({ cls := "InspectSteps$Inspection", name := "isOpening", desc := "()Z" } : Jvm.MethodName) ({ cls := "InspectSteps$Inspection", name := "isOpening", desc := "()Z" } : Jvm.MethodName)) ∈ GW := gw_of (List.mem_append_right _ (List.mem_append_right _ (List.mem_append_left _ (List.mem_of_getElem? (i := 185) rfl)))) rfl
theorem kw_426 : (Jvm.Cond.code ({ cls := "InspectSteps$Inspection", name := "isOpening", desc := "()Z" } : Jvm.MethodName) prog_2_method_2_code (1 : Nat) (Option.some Jvm.ClassFile.FieldType.boolean)) ∈ GW := gw_of (List.mem_append_right _ (List.mem_append_right _ (List.mem_append_left _ (List.mem_of_getElem? (i := 186) rfl)))) rfl
theorem kw_427 : (Jvm.Cond.methodLink "InspectStepsLaw" (80 : Nat) ({ cls := "InspectStepsLaw", name := "end", desc := "(LInspectSteps;IIZ[J)I" } : Jvm.MethodName)) ∈ GW := gw_of (List.mem_append_right _ (List.mem_append_right _ (List.mem_append_left _ (List.mem_of_getElem? (i := 187) rfl)))) rfl
theorem kw_428 : (Jvm.Cond.static ({ cls := "InspectStepsLaw", name := "end", desc := "(LInspectSteps;IIZ[J)I" } : Jvm.MethodName)) ∈ GW := gw_of (List.mem_append_right _ (List.mem_append_right _ (List.mem_append_left _ (List.mem_of_getElem? (i := 188) rfl)))) rfl
theorem kw_429 : (Jvm.Cond.codeWith ({ cls := "InspectStepsLaw", name := "end", desc := "(LInspectSteps;IIZ[J)I" } : Jvm.MethodName) method_6_code (6 : Nat) (Option.some Jvm.ClassFile.FieldType.int) [((0 : Nat), (12 : Nat), (15 : Nat), (13 : Nat))]) ∈ GW := gw_of (List.mem_append_right _ (List.mem_append_right _ (List.mem_append_left _ (List.mem_of_getElem? (i := 189) rfl)))) rfl
theorem kw_430 : (Jvm.Cond.methodLink "InspectStepsLaw" (25 : Nat) ({ cls := "InspectSteps", name := "end", desc := "(IIZ)I" } : Jvm.MethodName)) ∈ GW := gw_of (List.mem_append_right _ (List.mem_append_right _ (List.mem_append_left _ (List.mem_of_getElem? (i := 190) rfl)))) rfl
theorem kw_431 : (Jvm.Cond.instanceMethod ({ cls := "InspectSteps", name := "end", desc := "(IIZ)I" } : Jvm.MethodName)) ∈ GW := gw_of (List.mem_append_right _ (List.mem_append_right _ (List.mem_append_left _ (List.mem_of_getElem? (i := 191) rfl)))) rfl
theorem kw_432 : (Jvm.Cond.selects "InspectSteps" ({ cls := "InspectSteps", name := "end", desc := "(IIZ)I" } : Jvm.MethodName) ({ cls := "InspectSteps", name := "end", desc := "(IIZ)I" } : Jvm.MethodName)) ∈ GW := gw_of (List.mem_append_right _ (List.mem_append_right _ (List.mem_append_left _ (List.mem_of_getElem? (i := 192) rfl)))) rfl
theorem kw_433 : (Jvm.Cond.code ({ cls := "InspectSteps", name := "end", desc := "(IIZ)I" } : Jvm.MethodName) prog_1_method_6_code (5 : Nat) (Option.some Jvm.ClassFile.FieldType.int)) ∈ GW := gw_of (List.mem_append_right _ (List.mem_append_right _ (List.mem_append_left _ (List.mem_of_getElem? (i := 193) rfl)))) rfl
theorem kw_434 : (Jvm.Cond.methodLink "InspectStepsLaw" (89 : Nat) ({ cls := "InspectStepsLaw", name := "seal", desc := "(LInspectSteps;IIII[J)I" } : Jvm.MethodName)) ∈ GW := gw_of (List.mem_append_right _ (List.mem_append_right _ (List.mem_append_left _ (List.mem_of_getElem? (i := 194) rfl)))) rfl
theorem kw_435 : (Jvm.Cond.static ({ cls := "InspectStepsLaw", name := "seal", desc := "(LInspectSteps;IIII[J)I" } : Jvm.MethodName)) ∈ GW := gw_of (List.mem_append_right _ (List.mem_append_right _ (List.mem_append_left _ (List.mem_of_getElem? (i := 195) rfl)))) rfl
theorem kw_436 : (Jvm.Cond.codeWith ({ cls := "InspectStepsLaw", name := "seal", desc := "(LInspectSteps;IIII[J)I" } : Jvm.MethodName) method_7_code (7 : Nat) (Option.some Jvm.ClassFile.FieldType.int) [((0 : Nat), (14 : Nat), (17 : Nat), (13 : Nat))]) ∈ GW := gw_of (List.mem_append_right _ (List.mem_append_right _ (List.mem_append_left _ (List.mem_of_getElem? (i := 196) rfl)))) rfl
theorem kw_437 : (Jvm.Cond.methodLink "InspectStepsLaw" (29 : Nat) ({ cls := "InspectSteps", name := "seal", desc := "(IIII)I" } : Jvm.MethodName)) ∈ GW := gw_of (List.mem_append_right _ (List.mem_append_right _ (List.mem_append_left _ (List.mem_of_getElem? (i := 197) rfl)))) rfl
theorem kw_438 : (Jvm.Cond.instanceMethod ({ cls := "InspectSteps", name := "seal", desc := "(IIII)I" } : Jvm.MethodName)) ∈ GW := gw_of (List.mem_append_right _ (List.mem_append_right _ (List.mem_append_left _ (List.mem_of_getElem? (i := 198) rfl)))) rfl
theorem kw_439 : (Jvm.Cond.selects "InspectSteps" ({ cls := "InspectSteps", name := "seal", desc := "(IIII)I" } : Jvm.MethodName) ({ cls := "InspectSteps", name := "seal", desc := "(IIII)I" } : Jvm.MethodName)) ∈ GW := gw_of (List.mem_append_right _ (List.mem_append_right _ (List.mem_append_left _ (List.mem_of_getElem? (i := 199) rfl)))) rfl
theorem kw_440 : (Jvm.Cond.code ({ cls := "InspectSteps", name := "seal", desc := "(IIII)I" } : Jvm.MethodName) prog_1_method_8_code (5 : Nat) (Option.some Jvm.ClassFile.FieldType.int)) ∈ GW := gw_of (List.mem_append_right _ (List.mem_append_right _ (List.mem_append_left _ (List.mem_of_getElem? (i := 200) rfl)))) rfl
theorem kw_442 : (Jvm.Cond.methodLink "InspectSteps" (144 : Nat) ({ cls := "InspectSteps", name := "isSeal", desc := "(I)Z" } : Jvm.MethodName)) ∈ GW := gw_of (List.mem_append_right _ (List.mem_append_right _ (List.mem_append_left _ (List.mem_of_getElem? (i := 202) rfl)))) rfl
theorem kw_443 : (Jvm.Cond.static ({ cls := "InspectSteps", name := "isSeal", desc := "(I)Z" } : Jvm.MethodName)) ∈ GW := gw_of (List.mem_append_right _ (List.mem_append_right _ (List.mem_append_left _ (List.mem_of_getElem? (i := 203) rfl)))) rfl
theorem kw_444 : (Jvm.Cond.code ({ cls := "InspectSteps", name := "isSeal", desc := "(I)Z" } : Jvm.MethodName) prog_1_method_33_code (1 : Nat) (Option.some Jvm.ClassFile.FieldType.boolean)) ∈ GW := gw_of (List.mem_append_right _ (List.mem_append_right _ (List.mem_append_left _ (List.mem_of_getElem? (i := 204) rfl)))) rfl
theorem kw_446 : (Jvm.Cond.methodLink "InspectSteps" (149 : Nat) ({ cls := "InspectSteps", name := "isBeingOpened", desc := "(I)Z" } : Jvm.MethodName)) ∈ GW := gw_of (List.mem_append_right _ (List.mem_append_right _ (List.mem_append_left _ (List.mem_of_getElem? (i := 206) rfl)))) rfl
theorem kw_448 : (Jvm.Cond.instanceMethod ({ cls := "InspectSteps", name := "isBeingOpened", desc := "(I)Z" } : Jvm.MethodName)) ∈ GW := gw_of (List.mem_append_right _ (List.mem_append_right _ (List.mem_append_left _ (List.mem_of_getElem? (i := 208) rfl)))) rfl
theorem kw_449 : (Jvm.Cond.code ({ cls := "InspectSteps", name := "isBeingOpened", desc := "(I)Z" } : Jvm.MethodName) prog_1_method_23_code (4 : Nat) (Option.some Jvm.ClassFile.FieldType.boolean)) ∈ GW := gw_of (List.mem_append_right _ (List.mem_append_right _ (List.mem_append_left _ (List.mem_of_getElem? (i := 209) rfl)))) rfl
theorem kw_450 : (Jvm.Cond.methodLink "InspectStepsLaw" (92 : Nat) ({ cls := "InspectStepsLaw", name := "sample", desc := "(LInspectSteps;II[J)I" } : Jvm.MethodName)) ∈ GW := gw_of (List.mem_append_right _ (List.mem_append_right _ (List.mem_append_left _ (List.mem_of_getElem? (i := 210) rfl)))) rfl
theorem kw_451 : (Jvm.Cond.static ({ cls := "InspectStepsLaw", name := "sample", desc := "(LInspectSteps;II[J)I" } : Jvm.MethodName)) ∈ GW := gw_of (List.mem_append_right _ (List.mem_append_right _ (List.mem_append_left _ (List.mem_of_getElem? (i := 211) rfl)))) rfl
theorem kw_452 : (Jvm.Cond.codeWith ({ cls := "InspectStepsLaw", name := "sample", desc := "(LInspectSteps;II[J)I" } : Jvm.MethodName) method_8_code (5 : Nat) (Option.some Jvm.ClassFile.FieldType.int) [((0 : Nat), (10 : Nat), (13 : Nat), (13 : Nat)), ((0 : Nat), (10 : Nat), (17 : Nat), (15 : Nat))]) ∈ GW := gw_of (List.mem_append_right _ (List.mem_append_right _ (List.mem_append_left _ (List.mem_of_getElem? (i := 212) rfl)))) rfl
theorem kw_453 : (Jvm.Cond.methodLink "InspectStepsLaw" (32 : Nat) ({ cls := "InspectSteps", name := "sample", desc := "(II)I" } : Jvm.MethodName)) ∈ GW := gw_of (List.mem_append_right _ (List.mem_append_right _ (List.mem_append_left _ (List.mem_of_getElem? (i := 213) rfl)))) rfl
theorem kw_454 : (Jvm.Cond.instanceMethod ({ cls := "InspectSteps", name := "sample", desc := "(II)I" } : Jvm.MethodName)) ∈ GW := gw_of (List.mem_append_right _ (List.mem_append_right _ (List.mem_append_left _ (List.mem_of_getElem? (i := 214) rfl)))) rfl
theorem kw_455 : (Jvm.Cond.selects "InspectSteps" ({ cls := "InspectSteps", name := "sample", desc := "(II)I" } : Jvm.MethodName) ({ cls := "InspectSteps", name := "sample", desc := "(II)I" } : Jvm.MethodName)) ∈ GW := gw_of (List.mem_append_right _ (List.mem_append_right _ (List.mem_append_left _ (List.mem_of_getElem? (i := 215) rfl)))) rfl
theorem kw_456 : (Jvm.Cond.code ({ cls := "InspectSteps", name := "sample", desc := "(II)I" } : Jvm.MethodName) prog_1_method_9_code (4 : Nat) (Option.some Jvm.ClassFile.FieldType.int)) ∈ GW := gw_of (List.mem_append_right _ (List.mem_append_right _ (List.mem_append_left _ (List.mem_of_getElem? (i := 216) rfl)))) rfl
theorem kw_459 : (Jvm.Cond.methodLink "InspectSteps" (156 : Nat) ({ cls := "InspectSteps", name := "isSealOfSample", desc := "(I)Z" } : Jvm.MethodName)) ∈ GW := gw_of (List.mem_append_right _ (List.mem_append_right _ (List.mem_append_left _ (List.mem_of_getElem? (i := 219) rfl)))) rfl
theorem kw_461 : (Jvm.Cond.instanceMethod ({ cls := "InspectSteps", name := "isSealOfSample", desc := "(I)Z" } : Jvm.MethodName)) ∈ GW := gw_of (List.mem_append_right _ (List.mem_append_right _ (List.mem_append_left _ (List.mem_of_getElem? (i := 221) rfl)))) rfl
theorem kw_462 : (Jvm.Cond.code ({ cls := "InspectSteps", name := "isSealOfSample", desc := "(I)Z" } : Jvm.MethodName) prog_1_method_26_code (3 : Nat) (Option.some Jvm.ClassFile.FieldType.boolean)) ∈ GW := gw_of (List.mem_append_right _ (List.mem_append_right _ (List.mem_append_left _ (List.mem_of_getElem? (i := 222) rfl)))) rfl
theorem kw_463 : (Jvm.Cond.instantiable "InspectSteps$Sample" (4 : Nat)) ∈ GW := gw_of (List.mem_append_right _ (List.mem_append_right _ (List.mem_append_left _ (List.mem_of_getElem? (i := 223) rfl)))) rfl
theorem kw_464 : (Jvm.Cond.methodLink "InspectSteps" (161 : Nat) ({ cls := "InspectSteps$Sample", name := "<init>", desc := "(II)V" } : Jvm.MethodName)) ∈ GW := gw_of (List.mem_append_right _ (List.mem_append_right _ (List.mem_append_left _ (List.mem_of_getElem? (i := 224) rfl)))) rfl
theorem kw_465 : (Jvm.Cond.instanceMethod ({ cls := "InspectSteps$Sample", name := "<init>", desc := "(II)V" } : Jvm.MethodName)) ∈ GW := gw_of (List.mem_append_right _ (List.mem_append_right _ (List.mem_append_left _ (List.mem_of_getElem? (i := 225) rfl)))) rfl
theorem kw_466 : (Jvm.Cond.code ({ cls := "InspectSteps$Sample", name := "<init>", desc := "(II)V" } : Jvm.MethodName) prog_3_method_1_code (3 : Nat) (Option.none : Option Jvm.ClassFile.FieldType)) ∈ GW := gw_of (List.mem_append_right _ (List.mem_append_right _ (List.mem_append_left _ (List.mem_of_getElem? (i := 226) rfl)))) rfl
theorem kw_467 : (Jvm.Cond.methodLink "InspectSteps$Sample" (3 : Nat) ({ cls := "java/lang/Object", name := "<init>", desc := "()V" } : Jvm.MethodName)) ∈ GW := gw_of (List.mem_append_right _ (List.mem_append_right _ (List.mem_append_left _ (List.mem_of_getElem? (i := 227) rfl)))) rfl
theorem kw_468 : (Jvm.Cond.methodLink "InspectSteps$Sample" (26 : Nat) ({ cls := "java/util/Arrays", name := "fill", desc := "([II)V" } : Jvm.MethodName)) ∈ GW := gw_of (List.mem_append_right _ (List.mem_append_right _ (List.mem_append_left _ (List.mem_of_getElem? (i := 228) rfl)))) rfl
theorem kw_469 : (Jvm.Cond.fieldLink "InspectSteps$Sample" (19 : Nat) "InspectSteps$Sample" "declaration" "I") ∈ GW := gw_of (List.mem_append_right _ (List.mem_append_right _ (List.mem_append_left _ (List.mem_of_getElem? (i := 229) rfl)))) rfl
theorem kw_470 : (Jvm.Cond.fieldLink "InspectSteps" (196 : Nat) "InspectSteps$Sample" "declaration" "I") ∈ GW := gw_of (List.mem_append_right _ (List.mem_append_right _ (List.mem_append_left _ (List.mem_of_getElem? (i := 230) rfl)))) rfl
theorem kw_471 : (Jvm.Cond.fieldLink "InspectSteps$Sample" (23 : Nat) "InspectSteps$Sample" "seal" "I") ∈ GW := gw_of (List.mem_append_right _ (List.mem_append_right _ (List.mem_append_left _ (List.mem_of_getElem? (i := 231) rfl)))) rfl
theorem kw_472 : (Jvm.Cond.fieldLink "InspectSteps" (180 : Nat) "InspectSteps$Sample" "seal" "I") ∈ GW := gw_of (List.mem_append_right _ (List.mem_append_right _ (List.mem_append_left _ (List.mem_of_getElem? (i := 232) rfl)))) rfl
theorem kw_473 : (Jvm.Cond.fieldLink "InspectSteps$Sample" (9 : Nat) "InspectSteps$Sample" "found" "[I") ∈ GW := gw_of (List.mem_append_right _ (List.mem_append_right _ (List.mem_append_left _ (List.mem_of_getElem? (i := 233) rfl)))) rfl
theorem kw_474 : (Jvm.Cond.fieldLink "InspectSteps" (177 : Nat) "InspectSteps$Sample" "found" "[I") ∈ GW := gw_of (List.mem_append_right _ (List.mem_append_right _ (List.mem_append_left _ (List.mem_of_getElem? (i := 234) rfl)))) rfl
theorem kw_475 : (Jvm.Cond.fieldLink "InspectSteps$Sample" (15 : Nat) "InspectSteps$Sample" "settled" "[Z") ∈ GW := gw_of (List.mem_append_right _ (List.mem_append_right _ (List.mem_append_left _ (List.mem_of_getElem? (i := 235) rfl)))) rfl
theorem kw_476 : (Jvm.Cond.fieldLink "InspectSteps" (237 : Nat) "InspectSteps$Sample" "settled" "[Z") ∈ GW := gw_of (List.mem_append_right _ (List.mem_append_right _ (List.mem_append_left _ (List.mem_of_getElem? (i := 236) rfl)))) rfl
theorem kw_477 : (Jvm.Cond.laysFinal "InspectSteps$Sample" "InspectSteps$Sample" "declaration" "I") ∈ GW := gw_of (List.mem_append_right _ (List.mem_append_right _ (List.mem_append_left _ (List.mem_of_getElem? (i := 237) rfl)))) rfl
theorem kw_479 : (Jvm.Cond.laysFinal "InspectSteps$Sample" "InspectSteps$Sample" "seal" "I") ∈ GW := gw_of (List.mem_append_right _ (List.mem_append_right _ (List.mem_append_left _ (List.mem_of_getElem? (i := 239) rfl)))) rfl
theorem kw_481 : (Jvm.Cond.laysFinal "InspectSteps$Sample" "InspectSteps$Sample" "found" "[I") ∈ GW := gw_of (List.mem_append_right _ (List.mem_append_right _ (List.mem_append_right _ (List.mem_append_left _ (List.mem_of_getElem? (i := 1) rfl))))) rfl
theorem kw_483 : (Jvm.Cond.laysFinal "InspectSteps$Sample" "InspectSteps$Sample" "settled" "[Z") ∈ GW := gw_of (List.mem_append_right _ (List.mem_append_right _ (List.mem_append_right _ (List.mem_append_left _ (List.mem_of_getElem? (i := 3) rfl))))) rfl
theorem kw_486 : (Jvm.Cond.arrayClass Jvm.ClassFile.FieldType.boolean) ∈ GW := gw_of (List.mem_append_right _ (List.mem_append_right _ (List.mem_append_right _ (List.mem_append_left _ (List.mem_of_getElem? (i := 6) rfl))))) rfl
theorem kw_487 : (Jvm.Cond.methodLink "InspectStepsLaw" (95 : Nat) ({ cls := "InspectStepsLaw", name := "result", desc := "(LInspectSteps;IIII[J)I" } : Jvm.MethodName)) ∈ GW := gw_of (List.mem_append_right _ (List.mem_append_right _ (List.mem_append_right _ (List.mem_append_left _ (List.mem_of_getElem? (i := 7) rfl))))) rfl
theorem kw_488 : (Jvm.Cond.static ({ cls := "InspectStepsLaw", name := "result", desc := "(LInspectSteps;IIII[J)I" } : Jvm.MethodName)) ∈ GW := gw_of (List.mem_append_right _ (List.mem_append_right _ (List.mem_append_right _ (List.mem_append_left _ (List.mem_of_getElem? (i := 8) rfl))))) rfl
theorem kw_489 : (Jvm.Cond.codeWith ({ cls := "InspectStepsLaw", name := "result", desc := "(LInspectSteps;IIII[J)I" } : Jvm.MethodName) method_9_code (7 : Nat) (Option.some Jvm.ClassFile.FieldType.int) [((0 : Nat), (14 : Nat), (17 : Nat), (13 : Nat))]) ∈ GW := gw_of (List.mem_append_right _ (List.mem_append_right _ (List.mem_append_right _ (List.mem_append_left _ (List.mem_of_getElem? (i := 9) rfl))))) rfl
theorem kw_490 : (Jvm.Cond.methodLink "InspectStepsLaw" (35 : Nat) ({ cls := "InspectSteps", name := "result", desc := "(IIII)I" } : Jvm.MethodName)) ∈ GW := gw_of (List.mem_append_right _ (List.mem_append_right _ (List.mem_append_right _ (List.mem_append_left _ (List.mem_of_getElem? (i := 10) rfl))))) rfl
theorem kw_491 : (Jvm.Cond.instanceMethod ({ cls := "InspectSteps", name := "result", desc := "(IIII)I" } : Jvm.MethodName)) ∈ GW := gw_of (List.mem_append_right _ (List.mem_append_right _ (List.mem_append_right _ (List.mem_append_left _ (List.mem_of_getElem? (i := 11) rfl))))) rfl
theorem kw_492 : (Jvm.Cond.selects "InspectSteps" ({ cls := "InspectSteps", name := "result", desc := "(IIII)I" } : Jvm.MethodName) ({ cls := "InspectSteps", name := "result", desc := "(IIII)I" } : Jvm.MethodName)) ∈ GW := gw_of (List.mem_append_right _ (List.mem_append_right _ (List.mem_append_right _ (List.mem_append_left _ (List.mem_of_getElem? (i := 12) rfl))))) rfl
theorem kw_493 : (Jvm.Cond.code ({ cls := "InspectSteps", name := "result", desc := "(IIII)I" } : Jvm.MethodName) prog_1_method_10_code (6 : Nat) (Option.some Jvm.ClassFile.FieldType.int)) ∈ GW := gw_of (List.mem_append_right _ (List.mem_append_right _ (List.mem_append_right _ (List.mem_append_left _ (List.mem_of_getElem? (i := 13) rfl))))) rfl
theorem kw_496 : (Jvm.Cond.methodLink "InspectStepsLaw" (111 : Nat) ({ cls := "InspectStepsLaw", name := "settle", desc := "(LInspectSteps;I[J)I" } : Jvm.MethodName)) ∈ GW := gw_of (List.mem_append_right _ (List.mem_append_right _ (List.mem_append_right _ (List.mem_append_left _ (List.mem_of_getElem? (i := 16) rfl))))) rfl
theorem kw_497 : (Jvm.Cond.static ({ cls := "InspectStepsLaw", name := "settle", desc := "(LInspectSteps;I[J)I" } : Jvm.MethodName)) ∈ GW := gw_of (List.mem_append_right _ (List.mem_append_right _ (List.mem_append_right _ (List.mem_append_left _ (List.mem_of_getElem? (i := 17) rfl))))) rfl
theorem kw_498 : (Jvm.Cond.codeWith ({ cls := "InspectStepsLaw", name := "settle", desc := "(LInspectSteps;I[J)I" } : Jvm.MethodName) method_10_code (4 : Nat) (Option.some Jvm.ClassFile.FieldType.int) [((0 : Nat), (9 : Nat), (12 : Nat), (13 : Nat))]) ∈ GW := gw_of (List.mem_append_right _ (List.mem_append_right _ (List.mem_append_right _ (List.mem_append_left _ (List.mem_of_getElem? (i := 18) rfl))))) rfl
theorem kw_499 : (Jvm.Cond.methodLink "InspectStepsLaw" (38 : Nat) ({ cls := "InspectSteps", name := "settle", desc := "(I)I" } : Jvm.MethodName)) ∈ GW := gw_of (List.mem_append_right _ (List.mem_append_right _ (List.mem_append_right _ (List.mem_append_left _ (List.mem_of_getElem? (i := 19) rfl))))) rfl
theorem kw_500 : (Jvm.Cond.instanceMethod ({ cls := "InspectSteps", name := "settle", desc := "(I)I" } : Jvm.MethodName)) ∈ GW := gw_of (List.mem_append_right _ (List.mem_append_right _ (List.mem_append_right _ (List.mem_append_left _ (List.mem_of_getElem? (i := 20) rfl))))) rfl
theorem kw_501 : (Jvm.Cond.selects "InspectSteps" ({ cls := "InspectSteps", name := "settle", desc := "(I)I" } : Jvm.MethodName) ({ cls := "InspectSteps", name := "settle", desc := "(I)I" } : Jvm.MethodName)) ∈ GW := gw_of (List.mem_append_right _ (List.mem_append_right _ (List.mem_append_right _ (List.mem_append_left _ (List.mem_of_getElem? (i := 21) rfl))))) rfl
theorem kw_502 : (Jvm.Cond.code ({ cls := "InspectSteps", name := "settle", desc := "(I)I" } : Jvm.MethodName) prog_1_method_14_code (5 : Nat) (Option.some Jvm.ClassFile.FieldType.int)) ∈ GW := gw_of (List.mem_append_right _ (List.mem_append_right _ (List.mem_append_right _ (List.mem_append_left _ (List.mem_of_getElem? (i := 22) rfl))))) rfl
theorem kw_504 : (Jvm.Cond.methodLink "InspectSteps" (197 : Nat) ({ cls := "InspectSteps$Sample", name := "settleTold", desc := "()V" } : Jvm.MethodName)) ∈ GW := gw_of (List.mem_append_right _ (List.mem_append_right _ (List.mem_append_right _ (List.mem_append_left _ (List.mem_of_getElem? (i := 24) rfl))))) rfl
theorem kw_505 : (Jvm.Cond.instanceMethod ({ cls := "InspectSteps$Sample", name := "settleTold", desc := "()V" } : Jvm.MethodName)) ∈ GW := gw_of (List.mem_append_right _ (List.mem_append_right _ (List.mem_append_right _ (List.mem_append_left _ (List.mem_of_getElem? (i := 25) rfl))))) rfl
theorem kw_506 : (Jvm.Cond.selects "InspectSteps$Sample" ({ cls := "InspectSteps$Sample", name := "settleTold", desc := "()V" } : Jvm.MethodName) ({ cls := "InspectSteps$Sample", name := "settleTold", desc := "()V" } : Jvm.MethodName)) ∈ GW := gw_of (List.mem_append_right _ (List.mem_append_right _ (List.mem_append_right _ (List.mem_append_left _ (List.mem_of_getElem? (i := 26) rfl))))) rfl
theorem kw_507 : (Jvm.Cond.code ({ cls := "InspectSteps$Sample", name := "settleTold", desc := "()V" } : Jvm.MethodName) prog_3_method_3_code (2 : Nat) (Option.none : Option Jvm.ClassFile.FieldType)) ∈ GW := gw_of (List.mem_append_right _ (List.mem_append_right _ (List.mem_append_right _ (List.mem_append_left _ (List.mem_of_getElem? (i := 27) rfl))))) rfl
theorem kw_508 : (Jvm.Cond.methodLink "InspectStepsLaw" (115 : Nat) ({ cls := "InspectStepsLaw", name := "tick", desc := "(LInspectSteps;I[J)I" } : Jvm.MethodName)) ∈ GW := gw_of (List.mem_append_right _ (List.mem_append_right _ (List.mem_append_right _ (List.mem_append_left _ (List.mem_of_getElem? (i := 28) rfl))))) rfl
theorem kw_509 : (Jvm.Cond.static ({ cls := "InspectStepsLaw", name := "tick", desc := "(LInspectSteps;I[J)I" } : Jvm.MethodName)) ∈ GW := gw_of (List.mem_append_right _ (List.mem_append_right _ (List.mem_append_right _ (List.mem_append_left _ (List.mem_of_getElem? (i := 29) rfl))))) rfl
theorem kw_510 : (Jvm.Cond.codeWith ({ cls := "InspectStepsLaw", name := "tick", desc := "(LInspectSteps;I[J)I" } : Jvm.MethodName) method_11_code (4 : Nat) (Option.some Jvm.ClassFile.FieldType.int) [((0 : Nat), (9 : Nat), (12 : Nat), (13 : Nat))]) ∈ GW := gw_of (List.mem_append_right _ (List.mem_append_right _ (List.mem_append_right _ (List.mem_append_left _ (List.mem_of_getElem? (i := 30) rfl))))) rfl
theorem kw_511 : (Jvm.Cond.methodLink "InspectStepsLaw" (42 : Nat) ({ cls := "InspectSteps", name := "tick", desc := "(I)I" } : Jvm.MethodName)) ∈ GW := gw_of (List.mem_append_right _ (List.mem_append_right _ (List.mem_append_right _ (List.mem_append_left _ (List.mem_of_getElem? (i := 31) rfl))))) rfl
theorem kw_512 : (Jvm.Cond.instanceMethod ({ cls := "InspectSteps", name := "tick", desc := "(I)I" } : Jvm.MethodName)) ∈ GW := gw_of (List.mem_append_right _ (List.mem_append_right _ (List.mem_append_right _ (List.mem_append_left _ (List.mem_of_getElem? (i := 32) rfl))))) rfl
theorem kw_513 : (Jvm.Cond.selects "InspectSteps" ({ cls := "InspectSteps", name := "tick", desc := "(I)I" } : Jvm.MethodName) ({ cls := "InspectSteps", name := "tick", desc := "(I)I" } : Jvm.MethodName)) ∈ GW := gw_of (List.mem_append_right _ (List.mem_append_right _ (List.mem_append_right _ (List.mem_append_left _ (List.mem_of_getElem? (i := 33) rfl))))) rfl
theorem kw_514 : (Jvm.Cond.code ({ cls := "InspectSteps", name := "tick", desc := "(I)I" } : Jvm.MethodName) prog_1_method_15_code (4 : Nat) (Option.some Jvm.ClassFile.FieldType.int)) ∈ GW := gw_of (List.mem_append_right _ (List.mem_append_right _ (List.mem_append_right _ (List.mem_append_left _ (List.mem_of_getElem? (i := 34) rfl))))) rfl
theorem kw_516 : (Jvm.Cond.methodLink "InspectSteps" (202 : Nat) ({ cls := "InspectSteps$Inspection", name := "passUp", desc := "(II)I" } : Jvm.MethodName)) ∈ GW := gw_of (List.mem_append_right _ (List.mem_append_right _ (List.mem_append_right _ (List.mem_append_left _ (List.mem_of_getElem? (i := 36) rfl))))) rfl
theorem kw_517 : (Jvm.Cond.instanceMethod ({ cls := "InspectSteps$Inspection", name := "passUp", desc := "(II)I" } : Jvm.MethodName)) ∈ GW := gw_of (List.mem_append_right _ (List.mem_append_right _ (List.mem_append_right _ (List.mem_append_left _ (List.mem_of_getElem? (i := 37) rfl))))) rfl
theorem kw_518 : (Jvm.Cond.selects "InspectSteps$Inspection" ({ cls := "InspectSteps$Inspection", name := "passUp", desc := "(II)I" } : Jvm.MethodName) ({ cls := "InspectSteps$Inspection", name := "passUp", desc := "(II)I" } : Jvm.MethodName)) ∈ GW := gw_of (List.mem_append_right _ (List.mem_append_right _ (List.mem_append_right _ (List.mem_append_left _ (List.mem_of_getElem? (i := 38) rfl))))) rfl
theorem kw_519 : (Jvm.Cond.code ({ cls := "InspectSteps$Inspection", name := "passUp", desc := "(II)I" } : Jvm.MethodName) prog_2_method_10_code (4 : Nat) (Option.some Jvm.ClassFile.FieldType.int)) ∈ GW := gw_of (List.mem_append_right _ (List.mem_append_right _ (List.mem_append_right _ (List.mem_append_left _ (List.mem_of_getElem? (i := 39) rfl))))) rfl
theorem kw_520 : (Jvm.Cond.methodLink "InspectSteps$Inspection" (46 : Nat) ({ cls := "InspectSteps$Inspection", name := "isPending", desc := "()Z" } : Jvm.MethodName)) ∈ GW := gw_of (List.mem_append_right _ (List.mem_append_right _ (List.mem_append_right _ (List.mem_append_left _ (List.mem_of_getElem? (i := 40) rfl))))) rfl
theorem kw_521 : (Jvm.Cond.instanceMethod ({ cls := "InspectSteps$Inspection", name := "isPending", desc := "()Z" } : Jvm.MethodName)) ∈ GW := gw_of (List.mem_append_right _ (List.mem_append_right _ (List.mem_append_right _ (List.mem_append_left _ (List.mem_of_getElem? (i := 41) rfl))))) rfl
theorem kw_522 : (Jvm.Cond.selects "InspectSteps$Inspection" ({ cls := "InspectSteps$Inspection", name := "isPending", desc := "()Z" } : Jvm.MethodName) ({ cls := "InspectSteps$Inspection", name := "isPending", desc := "()Z" } : Jvm.MethodName)) ∈ GW := gw_of (List.mem_append_right _ (List.mem_append_right _ (List.mem_append_right _ (List.mem_append_left _ (List.mem_of_getElem? (i := 42) rfl))))) rfl
theorem kw_523 : (Jvm.Cond.code ({ cls := "InspectSteps$Inspection", name := "isPending", desc := "()Z" } : Jvm.MethodName) prog_2_method_3_code (1 : Nat) (Option.some Jvm.ClassFile.FieldType.boolean)) ∈ GW := gw_of (List.mem_append_right _ (List.mem_append_right _ (List.mem_append_right _ (List.mem_append_left _ (List.mem_of_getElem? (i := 43) rfl))))) rfl
theorem kw_524 : (Jvm.Cond.methodLink "InspectSteps$Inspection" (49 : Nat) ({ cls := "InspectSteps$Inspection", name := "lateTimes", desc := "(I)I" } : Jvm.MethodName)) ∈ GW := gw_of (List.mem_append_right _ (List.mem_append_right _ (List.mem_append_right _ (List.mem_append_left _ (List.mem_of_getElem? (i := 44) rfl))))) rfl
theorem kw_526 : (Jvm.Cond.instanceMethod ({ cls := "InspectSteps$Inspection", name := "lateTimes", desc := "(I)I" } : Jvm.MethodName)) ∈ GW := gw_of (List.mem_append_right _ (List.mem_append_right _ (List.mem_append_right _ (List.mem_append_left _ (List.mem_of_getElem? (i := 46) rfl))))) rfl
theorem kw_527 : (Jvm.Cond.code ({ cls := "InspectSteps$Inspection", name := "lateTimes", desc := "(I)I" } : Jvm.MethodName) prog_2_method_11_code (2 : Nat) (Option.some Jvm.ClassFile.FieldType.int)) ∈ GW := gw_of (List.mem_append_right _ (List.mem_append_right _ (List.mem_append_right _ (List.mem_append_left _ (List.mem_of_getElem? (i := 47) rfl))))) rfl
theorem kw_528 : (Jvm.Cond.methodLink "InspectSteps$Inspection" (53 : Nat) ({ cls := "java/lang/Math", name := "min", desc := "(II)I" } : Jvm.MethodName)) ∈ GW := gw_of (List.mem_append_right _ (List.mem_append_right _ (List.mem_append_right _ (List.mem_append_left _ (List.mem_of_getElem? (i := 48) rfl))))) rfl
theorem kw_529 : (Jvm.Cond.methodLink "InspectStepsLaw" (118 : Nat) ({ cls := "InspectStepsLaw", name := "release", desc := "(LInspectSteps;I[J)I" } : Jvm.MethodName)) ∈ GW := gw_of (List.mem_append_right _ (List.mem_append_right _ (List.mem_append_right _ (List.mem_append_left _ (List.mem_of_getElem? (i := 49) rfl))))) rfl
theorem kw_530 : (Jvm.Cond.static ({ cls := "InspectStepsLaw", name := "release", desc := "(LInspectSteps;I[J)I" } : Jvm.MethodName)) ∈ GW := gw_of (List.mem_append_right _ (List.mem_append_right _ (List.mem_append_right _ (List.mem_append_left _ (List.mem_of_getElem? (i := 50) rfl))))) rfl
theorem kw_531 : (Jvm.Cond.codeWith ({ cls := "InspectStepsLaw", name := "release", desc := "(LInspectSteps;I[J)I" } : Jvm.MethodName) method_12_code (4 : Nat) (Option.some Jvm.ClassFile.FieldType.int) [((0 : Nat), (9 : Nat), (12 : Nat), (13 : Nat))]) ∈ GW := gw_of (List.mem_append_right _ (List.mem_append_right _ (List.mem_append_right _ (List.mem_append_left _ (List.mem_of_getElem? (i := 51) rfl))))) rfl
theorem kw_532 : (Jvm.Cond.methodLink "InspectStepsLaw" (45 : Nat) ({ cls := "InspectSteps", name := "release", desc := "(I)I" } : Jvm.MethodName)) ∈ GW := gw_of (List.mem_append_right _ (List.mem_append_right _ (List.mem_append_right _ (List.mem_append_left _ (List.mem_of_getElem? (i := 52) rfl))))) rfl
theorem kw_533 : (Jvm.Cond.instanceMethod ({ cls := "InspectSteps", name := "release", desc := "(I)I" } : Jvm.MethodName)) ∈ GW := gw_of (List.mem_append_right _ (List.mem_append_right _ (List.mem_append_right _ (List.mem_append_left _ (List.mem_of_getElem? (i := 53) rfl))))) rfl
theorem kw_534 : (Jvm.Cond.selects "InspectSteps" ({ cls := "InspectSteps", name := "release", desc := "(I)I" } : Jvm.MethodName) ({ cls := "InspectSteps", name := "release", desc := "(I)I" } : Jvm.MethodName)) ∈ GW := gw_of (List.mem_append_right _ (List.mem_append_right _ (List.mem_append_right _ (List.mem_append_left _ (List.mem_of_getElem? (i := 54) rfl))))) rfl
theorem kw_535 : (Jvm.Cond.code ({ cls := "InspectSteps", name := "release", desc := "(I)I" } : Jvm.MethodName) prog_1_method_16_code (2 : Nat) (Option.some Jvm.ClassFile.FieldType.int)) ∈ GW := gw_of (List.mem_append_right _ (List.mem_append_right _ (List.mem_append_right _ (List.mem_append_left _ (List.mem_of_getElem? (i := 55) rfl))))) rfl
theorem kw_536 : (Jvm.Cond.methodLink "InspectSteps" (206 : Nat) ({ cls := "InspectSteps", name := "hasPendingInspection", desc := "(I)Z" } : Jvm.MethodName)) ∈ GW := gw_of (List.mem_append_right _ (List.mem_append_right _ (List.mem_append_right _ (List.mem_append_left _ (List.mem_of_getElem? (i := 56) rfl))))) rfl
theorem kw_538 : (Jvm.Cond.instanceMethod ({ cls := "InspectSteps", name := "hasPendingInspection", desc := "(I)Z" } : Jvm.MethodName)) ∈ GW := gw_of (List.mem_append_right _ (List.mem_append_right _ (List.mem_append_right _ (List.mem_append_left _ (List.mem_of_getElem? (i := 58) rfl))))) rfl
theorem kw_539 : (Jvm.Cond.code ({ cls := "InspectSteps", name := "hasPendingInspection", desc := "(I)Z" } : Jvm.MethodName) prog_1_method_24_code (4 : Nat) (Option.some Jvm.ClassFile.FieldType.boolean)) ∈ GW := gw_of (List.mem_append_right _ (List.mem_append_right _ (List.mem_append_right _ (List.mem_append_left _ (List.mem_of_getElem? (i := 59) rfl))))) rfl
theorem kw_540 : (Jvm.Cond.methodLink "InspectSteps" (254 : Nat) ({ cls := "InspectSteps$Inspection", name := "isPending", desc := "()Z" } : Jvm.MethodName)) ∈ GW := gw_of (List.mem_append_right _ (List.mem_append_right _ (List.mem_append_right _ (List.mem_append_left _ (List.mem_of_getElem? (i := 60) rfl))))) rfl
theorem kw_541 : (Jvm.Cond.methodLink "InspectSteps" (209 : Nat) ({ cls := "InspectSteps", name := "hasSampleWithoutResult", desc := "(I)Z" } : Jvm.MethodName)) ∈ GW := gw_of (List.mem_append_right _ (List.mem_append_right _ (List.mem_append_right _ (List.mem_append_left _ (List.mem_of_getElem? (i := 61) rfl))))) rfl
theorem kw_543 : (Jvm.Cond.instanceMethod ({ cls := "InspectSteps", name := "hasSampleWithoutResult", desc := "(I)Z" } : Jvm.MethodName)) ∈ GW := gw_of (List.mem_append_right _ (List.mem_append_right _ (List.mem_append_right _ (List.mem_append_left _ (List.mem_of_getElem? (i := 63) rfl))))) rfl
theorem kw_544 : (Jvm.Cond.code ({ cls := "InspectSteps", name := "hasSampleWithoutResult", desc := "(I)Z" } : Jvm.MethodName) prog_1_method_25_code (4 : Nat) (Option.some Jvm.ClassFile.FieldType.boolean)) ∈ GW := gw_of (List.mem_append_right _ (List.mem_append_right _ (List.mem_append_right _ (List.mem_append_left _ (List.mem_of_getElem? (i := 64) rfl))))) rfl
theorem kw_545 : (Jvm.Cond.methodLink "InspectSteps" (257 : Nat) ({ cls := "InspectSteps$Sample", name := "hasResult", desc := "()Z" } : Jvm.MethodName)) ∈ GW := gw_of (List.mem_append_right _ (List.mem_append_right _ (List.mem_append_right _ (List.mem_append_left _ (List.mem_of_getElem? (i := 65) rfl))))) rfl
theorem kw_546 : (Jvm.Cond.instanceMethod ({ cls := "InspectSteps$Sample", name := "hasResult", desc := "()Z" } : Jvm.MethodName)) ∈ GW := gw_of (List.mem_append_right _ (List.mem_append_right _ (List.mem_append_right _ (List.mem_append_left _ (List.mem_of_getElem? (i := 66) rfl))))) rfl
theorem kw_547 : (Jvm.Cond.selects "InspectSteps$Sample" ({ cls := "InspectSteps$Sample", name := "hasResult", desc := "()Z" } : Jvm.MethodName) ({ cls := "InspectSteps$Sample", name := "hasResult", desc := "()Z" } : Jvm.MethodName)) ∈ GW := gw_of (List.mem_append_right _ (List.mem_append_right _ (List.mem_append_right _ (List.mem_append_left _ (List.mem_of_getElem? (i := 67) rfl))))) rfl
theorem kw_548 : (Jvm.Cond.code ({ cls := "InspectSteps$Sample", name := "hasResult", desc := "()Z" } : Jvm.MethodName) prog_3_method_2_code (2 : Nat) (Option.some Jvm.ClassFile.FieldType.boolean)) ∈ GW := gw_of (List.mem_append_right _ (List.mem_append_right _ (List.mem_append_right _ (List.mem_append_left _ (List.mem_of_getElem? (i := 68) rfl))))) rfl
theorem kw_549 : (Jvm.Cond.methodLink "InspectStepsLaw" (121 : Nat) ({ cls := "InspectStepsLaw", name := "look", desc := "(LInspectSteps;II[J)I" } : Jvm.MethodName)) ∈ GW := gw_of (List.mem_append_right _ (List.mem_append_right _ (List.mem_append_right _ (List.mem_append_left _ (List.mem_of_getElem? (i := 69) rfl))))) rfl
theorem kw_550 : (Jvm.Cond.static ({ cls := "InspectStepsLaw", name := "look", desc := "(LInspectSteps;II[J)I" } : Jvm.MethodName)) ∈ GW := gw_of (List.mem_append_right _ (List.mem_append_right _ (List.mem_append_right _ (List.mem_append_left _ (List.mem_of_getElem? (i := 70) rfl))))) rfl
theorem kw_551 : (Jvm.Cond.codeWith ({ cls := "InspectStepsLaw", name := "look", desc := "(LInspectSteps;II[J)I" } : Jvm.MethodName) method_13_code (5 : Nat) (Option.some Jvm.ClassFile.FieldType.int) [((0 : Nat), (10 : Nat), (13 : Nat), (51 : Nat))]) ∈ GW := gw_of (List.mem_append_right _ (List.mem_append_right _ (List.mem_append_right _ (List.mem_append_left _ (List.mem_of_getElem? (i := 71) rfl))))) rfl
theorem kw_552 : (Jvm.Cond.classLink "InspectStepsLaw" (51 : Nat) "java/lang/IndexOutOfBoundsException") ∈ GW := gw_of (List.mem_append_right _ (List.mem_append_right _ (List.mem_append_right _ (List.mem_append_left _ (List.mem_of_getElem? (i := 72) rfl))))) rfl
theorem kw_553 : (Jvm.Cond.methodLink "InspectStepsLaw" (48 : Nat) ({ cls := "InspectSteps", name := "look", desc := "(II)I" } : Jvm.MethodName)) ∈ GW := gw_of (List.mem_append_right _ (List.mem_append_right _ (List.mem_append_right _ (List.mem_append_left _ (List.mem_of_getElem? (i := 73) rfl))))) rfl
theorem kw_554 : (Jvm.Cond.instanceMethod ({ cls := "InspectSteps", name := "look", desc := "(II)I" } : Jvm.MethodName)) ∈ GW := gw_of (List.mem_append_right _ (List.mem_append_right _ (List.mem_append_right _ (List.mem_append_left _ (List.mem_of_getElem? (i := 74) rfl))))) rfl
theorem kw_555 : (Jvm.Cond.selects "InspectSteps" ({ cls := "InspectSteps", name := "look", desc := "(II)I" } : Jvm.MethodName) ({ cls := "InspectSteps", name := "look", desc := "(II)I" } : Jvm.MethodName)) ∈ GW := gw_of (List.mem_append_right _ (List.mem_append_right _ (List.mem_append_right _ (List.mem_append_left _ (List.mem_of_getElem? (i := 75) rfl))))) rfl
theorem kw_556 : (Jvm.Cond.code ({ cls := "InspectSteps", name := "look", desc := "(II)I" } : Jvm.MethodName) prog_1_method_17_code (4 : Nat) (Option.some Jvm.ClassFile.FieldType.int)) ∈ GW := gw_of (List.mem_append_right _ (List.mem_append_right _ (List.mem_append_right _ (List.mem_append_left _ (List.mem_of_getElem? (i := 76) rfl))))) rfl
theorem kw_557 : (Jvm.Cond.classLink "InspectSteps" (212 : Nat) "java/lang/IndexOutOfBoundsException") ∈ GW := gw_of (List.mem_append_right _ (List.mem_append_right _ (List.mem_append_right _ (List.mem_append_left _ (List.mem_of_getElem? (i := 77) rfl))))) rfl
theorem kw_558 : (Jvm.Cond.instantiable "java/lang/IndexOutOfBoundsException" (6 : Nat)) ∈ GW := gw_of (List.mem_append_right _ (List.mem_append_right _ (List.mem_append_right _ (List.mem_append_left _ (List.mem_of_getElem? (i := 78) rfl))))) rfl
theorem kw_560 : (Jvm.Cond.selects "java/lang/IndexOutOfBoundsException" ({ cls := "java/lang/Throwable", name := "fillInStackTrace", desc := "(I)Ljava/lang/Throwable;" } : Jvm.MethodName) ({ cls := "java/lang/Throwable", name := "fillInStackTrace", desc := "(I)Ljava/lang/Throwable;" } : Jvm.MethodName)) ∈ GW := gw_of (List.mem_append_right _ (List.mem_append_right _ (List.mem_append_right _ (List.mem_append_left _ (List.mem_of_getElem? (i := 80) rfl))))) rfl
theorem kw_561 : (Jvm.Cond.lays "java/lang/IndexOutOfBoundsException" "java/lang/Throwable" "cause" "Ljava/lang/Throwable;") ∈ GW := gw_of (List.mem_append_right _ (List.mem_append_right _ (List.mem_append_right _ (List.mem_append_left _ (List.mem_of_getElem? (i := 81) rfl))))) rfl
theorem kw_562 : (Jvm.Cond.lays "java/lang/IndexOutOfBoundsException" "java/lang/Throwable" "stackTrace" "[Ljava/lang/StackTraceElement;") ∈ GW := gw_of (List.mem_append_right _ (List.mem_append_right _ (List.mem_append_right _ (List.mem_append_left _ (List.mem_of_getElem? (i := 82) rfl))))) rfl
theorem kw_563 : (Jvm.Cond.lays "java/lang/IndexOutOfBoundsException" "java/lang/Throwable" "suppressedExceptions" "Ljava/util/List;") ∈ GW := gw_of (List.mem_append_right _ (List.mem_append_right _ (List.mem_append_right _ (List.mem_append_left _ (List.mem_of_getElem? (i := 83) rfl))))) rfl
theorem kw_564 : (Jvm.Cond.lays "java/lang/IndexOutOfBoundsException" "java/lang/Throwable" "detailMessage" "Ljava/lang/String;") ∈ GW := gw_of (List.mem_append_right _ (List.mem_append_right _ (List.mem_append_right _ (List.mem_append_left _ (List.mem_of_getElem? (i := 84) rfl))))) rfl
theorem kw_565 : (Jvm.Cond.lays "java/lang/IndexOutOfBoundsException" "java/lang/Throwable" "backtrace" "Ljava/lang/Object;") ∈ GW := gw_of (List.mem_append_right _ (List.mem_append_right _ (List.mem_append_right _ (List.mem_append_left _ (List.mem_of_getElem? (i := 85) rfl))))) rfl
theorem kw_567 : (Jvm.Cond.methodLink "InspectSteps" (216 : Nat) ({ cls := "java/lang/IndexOutOfBoundsException", name := "<init>", desc := "(Ljava/lang/String;)V" } : Jvm.MethodName)) ∈ GW := gw_of (List.mem_append_right _ (List.mem_append_right _ (List.mem_append_right _ (List.mem_append_left _ (List.mem_of_getElem? (i := 87) rfl))))) rfl
theorem kw_568 : (Jvm.Cond.instanceMethod ({ cls := "java/lang/IndexOutOfBoundsException", name := "<init>", desc := "(Ljava/lang/String;)V" } : Jvm.MethodName)) ∈ GW := gw_of (List.mem_append_right _ (List.mem_append_right _ (List.mem_append_right _ (List.mem_append_left _ (List.mem_of_getElem? (i := 88) rfl))))) rfl
theorem kw_569 : (Jvm.Cond.code ({ cls := "java/lang/IndexOutOfBoundsException", name := "<init>", desc := "(Ljava/lang/String;)V" } : Jvm.MethodName) prog_11_method_2_code (2 : Nat) (Option.none : Option Jvm.ClassFile.FieldType)) ∈ GW := gw_of (List.mem_append_right _ (List.mem_append_right _ (List.mem_append_right _ (List.mem_append_left _ (List.mem_of_getElem? (i := 89) rfl))))) rfl
theorem kw_570 : (Jvm.Cond.methodLink "java/lang/IndexOutOfBoundsException" (7 : Nat) ({ cls := "java/lang/RuntimeException", name := "<init>", desc := "(Ljava/lang/String;)V" } : Jvm.MethodName)) ∈ GW := gw_of (List.mem_append_right _ (List.mem_append_right _ (List.mem_append_right _ (List.mem_append_left _ (List.mem_of_getElem? (i := 90) rfl))))) rfl
theorem kw_571 : (Jvm.Cond.lays "java/lang/IndexOutOfBoundsException" "java/lang/Throwable" "depth" "I") ∈ GW := gw_of (List.mem_append_right _ (List.mem_append_right _ (List.mem_append_right _ (List.mem_append_left _ (List.mem_of_getElem? (i := 91) rfl))))) rfl
theorem kw_573 : (Jvm.Cond.methodLink "InspectSteps" (220 : Nat) ({ cls := "InspectSteps$Inspection", name := "hasAppointment", desc := "()Z" } : Jvm.MethodName)) ∈ GW := gw_of (List.mem_append_right _ (List.mem_append_right _ (List.mem_append_right _ (List.mem_append_left _ (List.mem_of_getElem? (i := 93) rfl))))) rfl
theorem kw_575 : (Jvm.Cond.classLink "InspectStepsLaw" (54 : Nat) "InspectStepsModel") ∈ GW := gw_of (List.mem_append_right _ (List.mem_append_right _ (List.mem_append_right _ (List.mem_append_left _ (List.mem_of_getElem? (i := 95) rfl))))) rfl
theorem kw_576 : (Jvm.Cond.instantiable "InspectStepsModel" (25 : Nat)) ∈ GW := gw_of (List.mem_append_right _ (List.mem_append_right _ (List.mem_append_right _ (List.mem_append_left _ (List.mem_of_getElem? (i := 96) rfl))))) rfl
theorem kw_577 : (Jvm.Cond.methodLink "InspectStepsLaw" (56 : Nat) ({ cls := "InspectStepsModel", name := "<init>", desc := "()V" } : Jvm.MethodName)) ∈ GW := gw_of (List.mem_append_right _ (List.mem_append_right _ (List.mem_append_right _ (List.mem_append_left _ (List.mem_of_getElem? (i := 97) rfl))))) rfl
theorem kw_578 : (Jvm.Cond.instanceMethod ({ cls := "InspectStepsModel", name := "<init>", desc := "()V" } : Jvm.MethodName)) ∈ GW := gw_of (List.mem_append_right _ (List.mem_append_right _ (List.mem_append_right _ (List.mem_append_left _ (List.mem_of_getElem? (i := 98) rfl))))) rfl
theorem kw_579 : (Jvm.Cond.code ({ cls := "InspectStepsModel", name := "<init>", desc := "()V" } : Jvm.MethodName) prog_5_method_1_code (2 : Nat) (Option.none : Option Jvm.ClassFile.FieldType)) ∈ GW := gw_of (List.mem_append_right _ (List.mem_append_right _ (List.mem_append_right _ (List.mem_append_left _ (List.mem_of_getElem? (i := 99) rfl))))) rfl
theorem kw_580 : (Jvm.Cond.methodLink "InspectStepsModel" (1 : Nat) ({ cls := "java/lang/Object", name := "<init>", desc := "()V" } : Jvm.MethodName)) ∈ GW := gw_of (List.mem_append_right _ (List.mem_append_right _ (List.mem_append_right _ (List.mem_append_left _ (List.mem_of_getElem? (i := 100) rfl))))) rfl
theorem kw_581 : (Jvm.Cond.fieldLink "InspectStepsModel" (74 : Nat) "InspectStepsModel" "thrown" "I") ∈ GW := gw_of (List.mem_append_right _ (List.mem_append_right _ (List.mem_append_right _ (List.mem_append_left _ (List.mem_of_getElem? (i := 101) rfl))))) rfl
theorem kw_582 : (Jvm.Cond.fieldLink "InspectStepsModel" (78 : Nat) "InspectStepsModel" "size" "I") ∈ GW := gw_of (List.mem_append_right _ (List.mem_append_right _ (List.mem_append_right _ (List.mem_append_left _ (List.mem_of_getElem? (i := 102) rfl))))) rfl
theorem kw_583 : (Jvm.Cond.fieldLink "InspectStepsModel" (110 : Nat) "InspectStepsModel" "samples" "I") ∈ GW := gw_of (List.mem_append_right _ (List.mem_append_right _ (List.mem_append_right _ (List.mem_append_left _ (List.mem_of_getElem? (i := 103) rfl))))) rfl
theorem kw_584 : (Jvm.Cond.fieldLink "InspectStepsModel" (81 : Nat) "InspectStepsModel" "now" "I") ∈ GW := gw_of (List.mem_append_right _ (List.mem_append_right _ (List.mem_append_right _ (List.mem_append_left _ (List.mem_of_getElem? (i := 104) rfl))))) rfl
theorem kw_585 : (Jvm.Cond.fieldLink "InspectStepsModel" (7 : Nat) "InspectStepsModel" "rights" "[Z") ∈ GW := gw_of (List.mem_append_right _ (List.mem_append_right _ (List.mem_append_right _ (List.mem_append_left _ (List.mem_of_getElem? (i := 105) rfl))))) rfl
theorem kw_586 : (Jvm.Cond.fieldLink "InspectStepsModel" (13 : Nat) "InspectStepsModel" "ofDeclaration" "[I") ∈ GW := gw_of (List.mem_append_right _ (List.mem_append_right _ (List.mem_append_right _ (List.mem_append_left _ (List.mem_of_getElem? (i := 106) rfl))))) rfl
theorem kw_587 : (Jvm.Cond.fieldLink "InspectStepsModel" (17 : Nat) "InspectStepsModel" "kindOf" "[I") ∈ GW := gw_of (List.mem_append_right _ (List.mem_append_right _ (List.mem_append_right _ (List.mem_append_left _ (List.mem_of_getElem? (i := 107) rfl))))) rfl
theorem kw_588 : (Jvm.Cond.fieldLink "InspectStepsModel" (20 : Nat) "InspectStepsModel" "dueOf" "[I") ∈ GW := gw_of (List.mem_append_right _ (List.mem_append_right _ (List.mem_append_right _ (List.mem_append_left _ (List.mem_of_getElem? (i := 108) rfl))))) rfl
theorem kw_589 : (Jvm.Cond.fieldLink "InspectStepsModel" (23 : Nat) "InspectStepsModel" "stateOf" "[I") ∈ GW := gw_of (List.mem_append_right _ (List.mem_append_right _ (List.mem_append_right _ (List.mem_append_left _ (List.mem_of_getElem? (i := 109) rfl))))) rfl
theorem kw_590 : (Jvm.Cond.fieldLink "InspectStepsModel" (26 : Nat) "InspectStepsModel" "levelOf" "[I") ∈ GW := gw_of (List.mem_append_right _ (List.mem_append_right _ (List.mem_append_right _ (List.mem_append_left _ (List.mem_of_getElem? (i := 110) rfl))))) rfl
theorem kw_591 : (Jvm.Cond.fieldLink "InspectStepsModel" (29 : Nat) "InspectStepsModel" "placeOf" "[I") ∈ GW := gw_of (List.mem_append_right _ (List.mem_append_right _ (List.mem_append_right _ (List.mem_append_left _ (List.mem_of_getElem? (i := 111) rfl))))) rfl
theorem kw_592 : (Jvm.Cond.fieldLink "InspectStepsModel" (32 : Nat) "InspectStepsModel" "fromOf" "[I") ∈ GW := gw_of (List.mem_append_right _ (List.mem_append_right _ (List.mem_append_right _ (List.mem_append_left _ (List.mem_of_getElem? (i := 112) rfl))))) rfl
theorem kw_593 : (Jvm.Cond.fieldLink "InspectStepsModel" (35 : Nat) "InspectStepsModel" "toOf" "[I") ∈ GW := gw_of (List.mem_append_right _ (List.mem_append_right _ (List.mem_append_right _ (List.mem_append_left _ (List.mem_of_getElem? (i := 113) rfl))))) rfl
theorem kw_594 : (Jvm.Cond.fieldLink "InspectStepsModel" (38 : Nat) "InspectStepsModel" "byOf" "[I") ∈ GW := gw_of (List.mem_append_right _ (List.mem_append_right _ (List.mem_append_right _ (List.mem_append_left _ (List.mem_of_getElem? (i := 114) rfl))))) rfl
theorem kw_595 : (Jvm.Cond.fieldLink "InspectStepsModel" (41 : Nat) "InspectStepsModel" "begunOf" "[I") ∈ GW := gw_of (List.mem_append_right _ (List.mem_append_right _ (List.mem_append_right _ (List.mem_append_left _ (List.mem_of_getElem? (i := 115) rfl))))) rfl
theorem kw_596 : (Jvm.Cond.fieldLink "InspectStepsModel" (44 : Nat) "InspectStepsModel" "sealOf" "[I") ∈ GW := gw_of (List.mem_append_right _ (List.mem_append_right _ (List.mem_append_right _ (List.mem_append_left _ (List.mem_of_getElem? (i := 116) rfl))))) rfl
theorem kw_597 : (Jvm.Cond.fieldLink "InspectStepsModel" (47 : Nat) "InspectStepsModel" "isBroken" "[Z") ∈ GW := gw_of (List.mem_append_right _ (List.mem_append_right _ (List.mem_append_right _ (List.mem_append_left _ (List.mem_of_getElem? (i := 117) rfl))))) rfl
theorem kw_598 : (Jvm.Cond.fieldLink "InspectStepsModel" (50 : Nat) "InspectStepsModel" "holdsOf" "[I") ∈ GW := gw_of (List.mem_append_right _ (List.mem_append_right _ (List.mem_append_right _ (List.mem_append_left _ (List.mem_of_getElem? (i := 118) rfl))))) rfl
theorem kw_599 : (Jvm.Cond.fieldLink "InspectStepsModel" (53 : Nat) "InspectStepsModel" "declaredOf" "[I") ∈ GW := gw_of (List.mem_append_right _ (List.mem_append_right _ (List.mem_append_right _ (List.mem_append_left _ (List.mem_of_getElem? (i := 119) rfl))))) rfl
theorem kw_600 : (Jvm.Cond.fieldLink "InspectStepsModel" (56 : Nat) "InspectStepsModel" "sampleOf" "[I") ∈ GW := gw_of (List.mem_append_right _ (List.mem_append_right _ (List.mem_append_right _ (List.mem_append_left _ (List.mem_of_getElem? (i := 120) rfl))))) rfl
theorem kw_601 : (Jvm.Cond.fieldLink "InspectStepsModel" (59 : Nat) "InspectStepsModel" "sampleSeal" "[I") ∈ GW := gw_of (List.mem_append_right _ (List.mem_append_right _ (List.mem_append_right _ (List.mem_append_left _ (List.mem_of_getElem? (i := 121) rfl))))) rfl
theorem kw_602 : (Jvm.Cond.fieldLink "InspectStepsModel" (62 : Nat) "InspectStepsModel" "foundOf" "[I") ∈ GW := gw_of (List.mem_append_right _ (List.mem_append_right _ (List.mem_append_right _ (List.mem_append_left _ (List.mem_of_getElem? (i := 122) rfl))))) rfl
theorem kw_603 : (Jvm.Cond.fieldLink "InspectStepsModel" (65 : Nat) "InspectStepsModel" "isSettled" "[Z") ∈ GW := gw_of (List.mem_append_right _ (List.mem_append_right _ (List.mem_append_right _ (List.mem_append_left _ (List.mem_of_getElem? (i := 123) rfl))))) rfl
theorem kw_604 : (Jvm.Cond.fieldLink "InspectStepsModel" (68 : Nat) "InspectStepsModel" "upOf" "[I") ∈ GW := gw_of (List.mem_append_right _ (List.mem_append_right _ (List.mem_append_right _ (List.mem_append_left _ (List.mem_of_getElem? (i := 124) rfl))))) rfl
theorem kw_605 : (Jvm.Cond.fieldLink "InspectStepsModel" (71 : Nat) "InspectStepsModel" "downOf" "[I") ∈ GW := gw_of (List.mem_append_right _ (List.mem_append_right _ (List.mem_append_right _ (List.mem_append_left _ (List.mem_of_getElem? (i := 125) rfl))))) rfl
theorem kw_606 : (Jvm.Cond.lays "InspectStepsModel" "InspectStepsModel" "thrown" "I") ∈ GW := gw_of (List.mem_append_right _ (List.mem_append_right _ (List.mem_append_right _ (List.mem_append_left _ (List.mem_of_getElem? (i := 126) rfl))))) rfl
theorem kw_608 : (Jvm.Cond.lays "InspectStepsModel" "InspectStepsModel" "size" "I") ∈ GW := gw_of (List.mem_append_right _ (List.mem_append_right _ (List.mem_append_right _ (List.mem_append_left _ (List.mem_of_getElem? (i := 128) rfl))))) rfl
theorem kw_610 : (Jvm.Cond.lays "InspectStepsModel" "InspectStepsModel" "samples" "I") ∈ GW := gw_of (List.mem_append_right _ (List.mem_append_right _ (List.mem_append_right _ (List.mem_append_left _ (List.mem_of_getElem? (i := 130) rfl))))) rfl
theorem kw_612 : (Jvm.Cond.lays "InspectStepsModel" "InspectStepsModel" "now" "I") ∈ GW := gw_of (List.mem_append_right _ (List.mem_append_right _ (List.mem_append_right _ (List.mem_append_left _ (List.mem_of_getElem? (i := 132) rfl))))) rfl
theorem kw_614 : (Jvm.Cond.laysFinal "InspectStepsModel" "InspectStepsModel" "rights" "[Z") ∈ GW := gw_of (List.mem_append_right _ (List.mem_append_right _ (List.mem_append_right _ (List.mem_append_left _ (List.mem_of_getElem? (i := 134) rfl))))) rfl
theorem kw_616 : (Jvm.Cond.laysFinal "InspectStepsModel" "InspectStepsModel" "ofDeclaration" "[I") ∈ GW := gw_of (List.mem_append_right _ (List.mem_append_right _ (List.mem_append_right _ (List.mem_append_left _ (List.mem_of_getElem? (i := 136) rfl))))) rfl
theorem kw_618 : (Jvm.Cond.laysFinal "InspectStepsModel" "InspectStepsModel" "kindOf" "[I") ∈ GW := gw_of (List.mem_append_right _ (List.mem_append_right _ (List.mem_append_right _ (List.mem_append_left _ (List.mem_of_getElem? (i := 138) rfl))))) rfl
theorem kw_620 : (Jvm.Cond.laysFinal "InspectStepsModel" "InspectStepsModel" "dueOf" "[I") ∈ GW := gw_of (List.mem_append_right _ (List.mem_append_right _ (List.mem_append_right _ (List.mem_append_left _ (List.mem_of_getElem? (i := 140) rfl))))) rfl
theorem kw_622 : (Jvm.Cond.laysFinal "InspectStepsModel" "InspectStepsModel" "stateOf" "[I") ∈ GW := gw_of (List.mem_append_right _ (List.mem_append_right _ (List.mem_append_right _ (List.mem_append_left _ (List.mem_of_getElem? (i := 142) rfl))))) rfl
theorem kw_624 : (Jvm.Cond.laysFinal "InspectStepsModel" "InspectStepsModel" "levelOf" "[I") ∈ GW := gw_of (List.mem_append_right _ (List.mem_append_right _ (List.mem_append_right _ (List.mem_append_left _ (List.mem_of_getElem? (i := 144) rfl))))) rfl
theorem kw_626 : (Jvm.Cond.laysFinal "InspectStepsModel" "InspectStepsModel" "placeOf" "[I") ∈ GW := gw_of (List.mem_append_right _ (List.mem_append_right _ (List.mem_append_right _ (List.mem_append_left _ (List.mem_of_getElem? (i := 146) rfl))))) rfl
theorem kw_628 : (Jvm.Cond.laysFinal "InspectStepsModel" "InspectStepsModel" "fromOf" "[I") ∈ GW := gw_of (List.mem_append_right _ (List.mem_append_right _ (List.mem_append_right _ (List.mem_append_left _ (List.mem_of_getElem? (i := 148) rfl))))) rfl
theorem kw_630 : (Jvm.Cond.laysFinal "InspectStepsModel" "InspectStepsModel" "toOf" "[I") ∈ GW := gw_of (List.mem_append_right _ (List.mem_append_right _ (List.mem_append_right _ (List.mem_append_left _ (List.mem_of_getElem? (i := 150) rfl))))) rfl
theorem kw_632 : (Jvm.Cond.laysFinal "InspectStepsModel" "InspectStepsModel" "byOf" "[I") ∈ GW := gw_of (List.mem_append_right _ (List.mem_append_right _ (List.mem_append_right _ (List.mem_append_left _ (List.mem_of_getElem? (i := 152) rfl))))) rfl
theorem kw_634 : (Jvm.Cond.laysFinal "InspectStepsModel" "InspectStepsModel" "begunOf" "[I") ∈ GW := gw_of (List.mem_append_right _ (List.mem_append_right _ (List.mem_append_right _ (List.mem_append_left _ (List.mem_of_getElem? (i := 154) rfl))))) rfl
theorem kw_636 : (Jvm.Cond.laysFinal "InspectStepsModel" "InspectStepsModel" "sealOf" "[I") ∈ GW := gw_of (List.mem_append_right _ (List.mem_append_right _ (List.mem_append_right _ (List.mem_append_left _ (List.mem_of_getElem? (i := 156) rfl))))) rfl
theorem kw_638 : (Jvm.Cond.laysFinal "InspectStepsModel" "InspectStepsModel" "isBroken" "[Z") ∈ GW := gw_of (List.mem_append_right _ (List.mem_append_right _ (List.mem_append_right _ (List.mem_append_left _ (List.mem_of_getElem? (i := 158) rfl))))) rfl
theorem kw_640 : (Jvm.Cond.laysFinal "InspectStepsModel" "InspectStepsModel" "holdsOf" "[I") ∈ GW := gw_of (List.mem_append_right _ (List.mem_append_right _ (List.mem_append_right _ (List.mem_append_left _ (List.mem_of_getElem? (i := 160) rfl))))) rfl
theorem kw_642 : (Jvm.Cond.laysFinal "InspectStepsModel" "InspectStepsModel" "declaredOf" "[I") ∈ GW := gw_of (List.mem_append_right _ (List.mem_append_right _ (List.mem_append_right _ (List.mem_append_left _ (List.mem_of_getElem? (i := 162) rfl))))) rfl
theorem kw_644 : (Jvm.Cond.laysFinal "InspectStepsModel" "InspectStepsModel" "sampleOf" "[I") ∈ GW := gw_of (List.mem_append_right _ (List.mem_append_right _ (List.mem_append_right _ (List.mem_append_left _ (List.mem_of_getElem? (i := 164) rfl))))) rfl
theorem kw_646 : (Jvm.Cond.laysFinal "InspectStepsModel" "InspectStepsModel" "sampleSeal" "[I") ∈ GW := gw_of (List.mem_append_right _ (List.mem_append_right _ (List.mem_append_right _ (List.mem_append_left _ (List.mem_of_getElem? (i := 166) rfl))))) rfl
theorem kw_648 : (Jvm.Cond.laysFinal "InspectStepsModel" "InspectStepsModel" "foundOf" "[I") ∈ GW := gw_of (List.mem_append_right _ (List.mem_append_right _ (List.mem_append_right _ (List.mem_append_left _ (List.mem_of_getElem? (i := 168) rfl))))) rfl
theorem kw_650 : (Jvm.Cond.laysFinal "InspectStepsModel" "InspectStepsModel" "isSettled" "[Z") ∈ GW := gw_of (List.mem_append_right _ (List.mem_append_right _ (List.mem_append_right _ (List.mem_append_left _ (List.mem_of_getElem? (i := 170) rfl))))) rfl
theorem kw_652 : (Jvm.Cond.laysFinal "InspectStepsModel" "InspectStepsModel" "upOf" "[I") ∈ GW := gw_of (List.mem_append_right _ (List.mem_append_right _ (List.mem_append_right _ (List.mem_append_left _ (List.mem_of_getElem? (i := 172) rfl))))) rfl
theorem kw_654 : (Jvm.Cond.laysFinal "InspectStepsModel" "InspectStepsModel" "downOf" "[I") ∈ GW := gw_of (List.mem_append_right _ (List.mem_append_right _ (List.mem_append_right _ (List.mem_append_left _ (List.mem_of_getElem? (i := 174) rfl))))) rfl
theorem kw_657 : (Jvm.Cond.methodLink "InspectStepsLaw" (68 : Nat) ({ cls := "InspectStepsModel", name := "thrown", desc := "()I" } : Jvm.MethodName)) ∈ GW := gw_of (List.mem_append_right _ (List.mem_append_right _ (List.mem_append_right _ (List.mem_append_left _ (List.mem_of_getElem? (i := 177) rfl))))) rfl
theorem kw_658 : (Jvm.Cond.instanceMethod ({ cls := "InspectStepsModel", name := "thrown", desc := "()I" } : Jvm.MethodName)) ∈ GW := gw_of (List.mem_append_right _ (List.mem_append_right _ (List.mem_append_right _ (List.mem_append_left _ (List.mem_of_getElem? (i := 178) rfl))))) rfl
theorem kw_659 : (Jvm.Cond.selects "InspectStepsModel" ({ cls := "InspectStepsModel", name := "thrown", desc := "()I" } : Jvm.MethodName) ({ cls := "InspectStepsModel", name := "thrown", desc := "()I" } : Jvm.MethodName)) ∈ GW := gw_of (List.mem_append_right _ (List.mem_append_right _ (List.mem_append_right _ (List.mem_append_left _ (List.mem_of_getElem? (i := 179) rfl))))) rfl
theorem kw_660 : (Jvm.Cond.code ({ cls := "InspectStepsModel", name := "thrown", desc := "()I" } : Jvm.MethodName) prog_5_method_2_code (1 : Nat) (Option.some Jvm.ClassFile.FieldType.int)) ∈ GW := gw_of (List.mem_append_right _ (List.mem_append_right _ (List.mem_append_right _ (List.mem_append_left _ (List.mem_of_getElem? (i := 180) rfl))))) rfl
theorem kw_661 : (Jvm.Cond.methodLink "InspectStepsLaw" (61 : Nat) ({ cls := "InspectStepsModel", name := "right", desc := "(IIZ)Z" } : Jvm.MethodName)) ∈ GW := gw_of (List.mem_append_right _ (List.mem_append_right _ (List.mem_append_right _ (List.mem_append_left _ (List.mem_of_getElem? (i := 181) rfl))))) rfl
theorem kw_662 : (Jvm.Cond.instanceMethod ({ cls := "InspectStepsModel", name := "right", desc := "(IIZ)Z" } : Jvm.MethodName)) ∈ GW := gw_of (List.mem_append_right _ (List.mem_append_right _ (List.mem_append_right _ (List.mem_append_left _ (List.mem_of_getElem? (i := 182) rfl))))) rfl
theorem kw_663 : (Jvm.Cond.selects "InspectStepsModel" ({ cls := "InspectStepsModel", name := "right", desc := "(IIZ)Z" } : Jvm.MethodName) ({ cls := "InspectStepsModel", name := "right", desc := "(IIZ)Z" } : Jvm.MethodName)) ∈ GW := gw_of (List.mem_append_right _ (List.mem_append_right _ (List.mem_append_right _ (List.mem_append_left _ (List.mem_of_getElem? (i := 183) rfl))))) rfl
theorem kw_664 : (Jvm.Cond.code ({ cls := "InspectStepsModel", name := "right", desc := "(IIZ)Z" } : Jvm.MethodName) prog_5_method_8_code (4 : Nat) (Option.some Jvm.ClassFile.FieldType.boolean)) ∈ GW := gw_of (List.mem_append_right _ (List.mem_append_right _ (List.mem_append_right _ (List.mem_append_left _ (List.mem_of_getElem? (i := 184) rfl))))) rfl
theorem kw_665 : (Jvm.Cond.methodLink "InspectStepsModel" (85 : Nat) ({ cls := "InspectStepsModel", name := "isTen", desc := "(I)Z" } : Jvm.MethodName)) ∈ GW := gw_of (List.mem_append_right _ (List.mem_append_right _ (List.mem_append_right _ (List.mem_append_left _ (List.mem_of_getElem? (i := 185) rfl))))) rfl
theorem kw_666 : (Jvm.Cond.static ({ cls := "InspectStepsModel", name := "isTen", desc := "(I)Z" } : Jvm.MethodName)) ∈ GW := gw_of (List.mem_append_right _ (List.mem_append_right _ (List.mem_append_right _ (List.mem_append_left _ (List.mem_of_getElem? (i := 186) rfl))))) rfl
theorem kw_667 : (Jvm.Cond.code ({ cls := "InspectStepsModel", name := "isTen", desc := "(I)Z" } : Jvm.MethodName) prog_5_method_4_code (1 : Nat) (Option.some Jvm.ClassFile.FieldType.boolean)) ∈ GW := gw_of (List.mem_append_right _ (List.mem_append_right _ (List.mem_append_right _ (List.mem_append_left _ (List.mem_of_getElem? (i := 187) rfl))))) rfl
theorem kw_668 : (Jvm.Cond.methodLink "InspectStepsModel" (89 : Nat) ({ cls := "InspectStepsModel", name := "in", desc := "(III)Z" } : Jvm.MethodName)) ∈ GW := gw_of (List.mem_append_right _ (List.mem_append_right _ (List.mem_append_right _ (List.mem_append_left _ (List.mem_of_getElem? (i := 188) rfl))))) rfl
theorem kw_669 : (Jvm.Cond.static ({ cls := "InspectStepsModel", name := "in", desc := "(III)Z" } : Jvm.MethodName)) ∈ GW := gw_of (List.mem_append_right _ (List.mem_append_right _ (List.mem_append_right _ (List.mem_append_left _ (List.mem_of_getElem? (i := 189) rfl))))) rfl
theorem kw_670 : (Jvm.Cond.code ({ cls := "InspectStepsModel", name := "in", desc := "(III)Z" } : Jvm.MethodName) prog_5_method_3_code (3 : Nat) (Option.some Jvm.ClassFile.FieldType.boolean)) ∈ GW := gw_of (List.mem_append_right _ (List.mem_append_right _ (List.mem_append_right _ (List.mem_append_left _ (List.mem_of_getElem? (i := 190) rfl))))) rfl
theorem kw_671 : (Jvm.Cond.methodLink "InspectStepsModel" (93 : Nat) ({ cls := "InspectStepsModel", name := "may", desc := "(II)Z" } : Jvm.MethodName)) ∈ GW := gw_of (List.mem_append_right _ (List.mem_append_right _ (List.mem_append_right _ (List.mem_append_left _ (List.mem_of_getElem? (i := 191) rfl))))) rfl
theorem kw_673 : (Jvm.Cond.instanceMethod ({ cls := "InspectStepsModel", name := "may", desc := "(II)Z" } : Jvm.MethodName)) ∈ GW := gw_of (List.mem_append_right _ (List.mem_append_right _ (List.mem_append_right _ (List.mem_append_left _ (List.mem_of_getElem? (i := 193) rfl))))) rfl
theorem kw_674 : (Jvm.Cond.code ({ cls := "InspectStepsModel", name := "may", desc := "(II)Z" } : Jvm.MethodName) prog_5_method_7_code (3 : Nat) (Option.some Jvm.ClassFile.FieldType.boolean)) ∈ GW := gw_of (List.mem_append_right _ (List.mem_append_right _ (List.mem_append_right _ (List.mem_append_left _ (List.mem_of_getElem? (i := 194) rfl))))) rfl
theorem kw_675 : (Jvm.Cond.methodLink "InspectStepsLaw" (67 : Nat) ({ cls := "InspectStepsModel", name := "inspection", desc := "(III)I" } : Jvm.MethodName)) ∈ GW := gw_of (List.mem_append_right _ (List.mem_append_right _ (List.mem_append_right _ (List.mem_append_left _ (List.mem_of_getElem? (i := 195) rfl))))) rfl
theorem kw_676 : (Jvm.Cond.instanceMethod ({ cls := "InspectStepsModel", name := "inspection", desc := "(III)I" } : Jvm.MethodName)) ∈ GW := gw_of (List.mem_append_right _ (List.mem_append_right _ (List.mem_append_right _ (List.mem_append_left _ (List.mem_of_getElem? (i := 196) rfl))))) rfl
theorem kw_677 : (Jvm.Cond.selects "InspectStepsModel" ({ cls := "InspectStepsModel", name := "inspection", desc := "(III)I" } : Jvm.MethodName) ({ cls := "InspectStepsModel", name := "inspection", desc := "(III)I" } : Jvm.MethodName)) ∈ GW := gw_of (List.mem_append_right _ (List.mem_append_right _ (List.mem_append_right _ (List.mem_append_left _ (List.mem_of_getElem? (i := 197) rfl))))) rfl
theorem kw_678 : (Jvm.Cond.code ({ cls := "InspectStepsModel", name := "inspection", desc := "(III)I" } : Jvm.MethodName) prog_5_method_9_code (4 : Nat) (Option.some Jvm.ClassFile.FieldType.int)) ∈ GW := gw_of (List.mem_append_right _ (List.mem_append_right _ (List.mem_append_right _ (List.mem_append_left _ (List.mem_of_getElem? (i := 198) rfl))))) rfl
theorem kw_679 : (Jvm.Cond.methodLink "InspectStepsModel" (97 : Nat) ({ cls := "InspectStepsModel", name := "isTime", desc := "(I)Z" } : Jvm.MethodName)) ∈ GW := gw_of (List.mem_append_right _ (List.mem_append_right _ (List.mem_append_right _ (List.mem_append_left _ (List.mem_of_getElem? (i := 199) rfl))))) rfl
theorem kw_681 : (Jvm.Cond.instanceMethod ({ cls := "InspectStepsModel", name := "isTime", desc := "(I)Z" } : Jvm.MethodName)) ∈ GW := gw_of (List.mem_append_right _ (List.mem_append_right _ (List.mem_append_right _ (List.mem_append_left _ (List.mem_of_getElem? (i := 201) rfl))))) rfl
theorem kw_682 : (Jvm.Cond.code ({ cls := "InspectStepsModel", name := "isTime", desc := "(I)Z" } : Jvm.MethodName) prog_5_method_6_code (2 : Nat) (Option.some Jvm.ClassFile.FieldType.boolean)) ∈ GW := gw_of (List.mem_append_right _ (List.mem_append_right _ (List.mem_append_right _ (List.mem_append_left _ (List.mem_of_getElem? (i := 202) rfl))))) rfl
theorem kw_683 : (Jvm.Cond.constant "InspectStepsModel" (84 : Nat) (100000 : Int32)) ∈ GW := gw_of (List.mem_append_right _ (List.mem_append_right _ (List.mem_append_right _ (List.mem_append_left _ (List.mem_of_getElem? (i := 203) rfl))))) rfl
theorem kw_684 : (Jvm.Cond.methodLink "InspectStepsLaw" (75 : Nat) ({ cls := "InspectStepsModel", name := "plan", desc := "(IIII)I" } : Jvm.MethodName)) ∈ GW := gw_of (List.mem_append_right _ (List.mem_append_right _ (List.mem_append_right _ (List.mem_append_left _ (List.mem_of_getElem? (i := 204) rfl))))) rfl
theorem kw_685 : (Jvm.Cond.instanceMethod ({ cls := "InspectStepsModel", name := "plan", desc := "(IIII)I" } : Jvm.MethodName)) ∈ GW := gw_of (List.mem_append_right _ (List.mem_append_right _ (List.mem_append_right _ (List.mem_append_left _ (List.mem_of_getElem? (i := 205) rfl))))) rfl
theorem kw_686 : (Jvm.Cond.selects "InspectStepsModel" ({ cls := "InspectStepsModel", name := "plan", desc := "(IIII)I" } : Jvm.MethodName) ({ cls := "InspectStepsModel", name := "plan", desc := "(IIII)I" } : Jvm.MethodName)) ∈ GW := gw_of (List.mem_append_right _ (List.mem_append_right _ (List.mem_append_right _ (List.mem_append_left _ (List.mem_of_getElem? (i := 206) rfl))))) rfl
theorem kw_687 : (Jvm.Cond.code ({ cls := "InspectStepsModel", name := "plan", desc := "(IIII)I" } : Jvm.MethodName) prog_5_method_11_code (7 : Nat) (Option.some Jvm.ClassFile.FieldType.int)) ∈ GW := gw_of (List.mem_append_right _ (List.mem_append_right _ (List.mem_append_right _ (List.mem_append_left _ (List.mem_of_getElem? (i := 207) rfl))))) rfl
theorem kw_688 : (Jvm.Cond.methodLink "InspectStepsModel" (100 : Nat) ({ cls := "InspectStepsModel", name := "isOne", desc := "(I)Z" } : Jvm.MethodName)) ∈ GW := gw_of (List.mem_append_right _ (List.mem_append_right _ (List.mem_append_right _ (List.mem_append_left _ (List.mem_of_getElem? (i := 208) rfl))))) rfl
theorem kw_690 : (Jvm.Cond.instanceMethod ({ cls := "InspectStepsModel", name := "isOne", desc := "(I)Z" } : Jvm.MethodName)) ∈ GW := gw_of (List.mem_append_right _ (List.mem_append_right _ (List.mem_append_right _ (List.mem_append_left _ (List.mem_of_getElem? (i := 210) rfl))))) rfl
theorem kw_691 : (Jvm.Cond.code ({ cls := "InspectStepsModel", name := "isOne", desc := "(I)Z" } : Jvm.MethodName) prog_5_method_5_code (2 : Nat) (Option.some Jvm.ClassFile.FieldType.boolean)) ∈ GW := gw_of (List.mem_append_right _ (List.mem_append_right _ (List.mem_append_right _ (List.mem_append_left _ (List.mem_of_getElem? (i := 211) rfl))))) rfl
theorem kw_692 : (Jvm.Cond.methodLink "InspectStepsModel" (103 : Nat) ({ cls := "InspectStepsModel", name := "takesPlace", desc := "(I)Z" } : Jvm.MethodName)) ∈ GW := gw_of (List.mem_append_right _ (List.mem_append_right _ (List.mem_append_right _ (List.mem_append_left _ (List.mem_of_getElem? (i := 212) rfl))))) rfl
theorem kw_694 : (Jvm.Cond.instanceMethod ({ cls := "InspectStepsModel", name := "takesPlace", desc := "(I)Z" } : Jvm.MethodName)) ∈ GW := gw_of (List.mem_append_right _ (List.mem_append_right _ (List.mem_append_right _ (List.mem_append_left _ (List.mem_of_getElem? (i := 214) rfl))))) rfl
theorem kw_695 : (Jvm.Cond.code ({ cls := "InspectStepsModel", name := "takesPlace", desc := "(I)Z" } : Jvm.MethodName) prog_5_method_10_code (2 : Nat) (Option.some Jvm.ClassFile.FieldType.boolean)) ∈ GW := gw_of (List.mem_append_right _ (List.mem_append_right _ (List.mem_append_right _ (List.mem_append_left _ (List.mem_of_getElem? (i := 215) rfl))))) rfl
theorem kw_696 : (Jvm.Cond.methodLink "InspectStepsLaw" (79 : Nat) ({ cls := "InspectStepsModel", name := "begin", desc := "(II)I" } : Jvm.MethodName)) ∈ GW := gw_of (List.mem_append_right _ (List.mem_append_right _ (List.mem_append_right _ (List.mem_append_left _ (List.mem_of_getElem? (i := 216) rfl))))) rfl
theorem kw_697 : (Jvm.Cond.instanceMethod ({ cls := "InspectStepsModel", name := "begin", desc := "(II)I" } : Jvm.MethodName)) ∈ GW := gw_of (List.mem_append_right _ (List.mem_append_right _ (List.mem_append_right _ (List.mem_append_left _ (List.mem_of_getElem? (i := 217) rfl))))) rfl
theorem kw_698 : (Jvm.Cond.selects "InspectStepsModel" ({ cls := "InspectStepsModel", name := "begin", desc := "(II)I" } : Jvm.MethodName) ({ cls := "InspectStepsModel", name := "begin", desc := "(II)I" } : Jvm.MethodName)) ∈ GW := gw_of (List.mem_append_right _ (List.mem_append_right _ (List.mem_append_right _ (List.mem_append_left _ (List.mem_of_getElem? (i := 218) rfl))))) rfl
theorem kw_699 : (Jvm.Cond.code ({ cls := "InspectStepsModel", name := "begin", desc := "(II)I" } : Jvm.MethodName) prog_5_method_12_code (3 : Nat) (Option.some Jvm.ClassFile.FieldType.int)) ∈ GW := gw_of (List.mem_append_right _ (List.mem_append_right _ (List.mem_append_right _ (List.mem_append_left _ (List.mem_of_getElem? (i := 219) rfl))))) rfl
theorem kw_700 : (Jvm.Cond.methodLink "InspectStepsLaw" (83 : Nat) ({ cls := "InspectStepsModel", name := "end", desc := "(IIZ)I" } : Jvm.MethodName)) ∈ GW := gw_of (List.mem_append_right _ (List.mem_append_right _ (List.mem_append_right _ (List.mem_append_left _ (List.mem_of_getElem? (i := 220) rfl))))) rfl
theorem kw_701 : (Jvm.Cond.instanceMethod ({ cls := "InspectStepsModel", name := "end", desc := "(IIZ)I" } : Jvm.MethodName)) ∈ GW := gw_of (List.mem_append_right _ (List.mem_append_right _ (List.mem_append_right _ (List.mem_append_left _ (List.mem_of_getElem? (i := 221) rfl))))) rfl
theorem kw_702 : (Jvm.Cond.selects "InspectStepsModel" ({ cls := "InspectStepsModel", name := "end", desc := "(IIZ)I" } : Jvm.MethodName) ({ cls := "InspectStepsModel", name := "end", desc := "(IIZ)I" } : Jvm.MethodName)) ∈ GW := gw_of (List.mem_append_right _ (List.mem_append_right _ (List.mem_append_right _ (List.mem_append_left _ (List.mem_of_getElem? (i := 222) rfl))))) rfl
theorem kw_703 : (Jvm.Cond.code ({ cls := "InspectStepsModel", name := "end", desc := "(IIZ)I" } : Jvm.MethodName) prog_5_method_13_code (4 : Nat) (Option.some Jvm.ClassFile.FieldType.int)) ∈ GW := gw_of (List.mem_append_right _ (List.mem_append_right _ (List.mem_append_right _ (List.mem_append_left _ (List.mem_of_getElem? (i := 223) rfl))))) rfl
theorem kw_704 : (Jvm.Cond.methodLink "InspectStepsLaw" (88 : Nat) ({ cls := "InspectStepsModel", name := "giveUp", desc := "(I)Z" } : Jvm.MethodName)) ∈ GW := gw_of (List.mem_append_right _ (List.mem_append_right _ (List.mem_append_right _ (List.mem_append_left _ (List.mem_of_getElem? (i := 224) rfl))))) rfl
theorem kw_705 : (Jvm.Cond.instanceMethod ({ cls := "InspectStepsModel", name := "giveUp", desc := "(I)Z" } : Jvm.MethodName)) ∈ GW := gw_of (List.mem_append_right _ (List.mem_append_right _ (List.mem_append_right _ (List.mem_append_left _ (List.mem_of_getElem? (i := 225) rfl))))) rfl
theorem kw_706 : (Jvm.Cond.selects "InspectStepsModel" ({ cls := "InspectStepsModel", name := "giveUp", desc := "(I)Z" } : Jvm.MethodName) ({ cls := "InspectStepsModel", name := "giveUp", desc := "(I)Z" } : Jvm.MethodName)) ∈ GW := gw_of (List.mem_append_right _ (List.mem_append_right _ (List.mem_append_right _ (List.mem_append_left _ (List.mem_of_getElem? (i := 226) rfl))))) rfl
theorem kw_707 : (Jvm.Cond.code ({ cls := "InspectStepsModel", name := "giveUp", desc := "(I)Z" } : Jvm.MethodName) prog_5_method_14_code (2 : Nat) (Option.some Jvm.ClassFile.FieldType.boolean)) ∈ GW := gw_of (List.mem_append_right _ (List.mem_append_right _ (List.mem_append_right _ (List.mem_append_left _ (List.mem_of_getElem? (i := 227) rfl))))) rfl
theorem kw_708 : (Jvm.Cond.methodLink "InspectStepsLaw" (91 : Nat) ({ cls := "InspectStepsModel", name := "seal", desc := "(IIII)I" } : Jvm.MethodName)) ∈ GW := gw_of (List.mem_append_right _ (List.mem_append_right _ (List.mem_append_right _ (List.mem_append_left _ (List.mem_of_getElem? (i := 228) rfl))))) rfl
theorem kw_709 : (Jvm.Cond.instanceMethod ({ cls := "InspectStepsModel", name := "seal", desc := "(IIII)I" } : Jvm.MethodName)) ∈ GW := gw_of (List.mem_append_right _ (List.mem_append_right _ (List.mem_append_right _ (List.mem_append_left _ (List.mem_of_getElem? (i := 229) rfl))))) rfl
theorem kw_710 : (Jvm.Cond.selects "InspectStepsModel" ({ cls := "InspectStepsModel", name := "seal", desc := "(IIII)I" } : Jvm.MethodName) ({ cls := "InspectStepsModel", name := "seal", desc := "(IIII)I" } : Jvm.MethodName)) ∈ GW := gw_of (List.mem_append_right _ (List.mem_append_right _ (List.mem_append_right _ (List.mem_append_left _ (List.mem_of_getElem? (i := 230) rfl))))) rfl
theorem kw_711 : (Jvm.Cond.code ({ cls := "InspectStepsModel", name := "seal", desc := "(IIII)I" } : Jvm.MethodName) prog_5_method_16_code (6 : Nat) (Option.some Jvm.ClassFile.FieldType.int)) ∈ GW := gw_of (List.mem_append_right _ (List.mem_append_right _ (List.mem_append_right _ (List.mem_append_left _ (List.mem_of_getElem? (i := 231) rfl))))) rfl
theorem kw_712 : (Jvm.Cond.constant "InspectStepsModel" (106 : Nat) (1000000 : Int32)) ∈ GW := gw_of (List.mem_append_right _ (List.mem_append_right _ (List.mem_append_right _ (List.mem_append_left _ (List.mem_of_getElem? (i := 232) rfl))))) rfl
theorem kw_713 : (Jvm.Cond.methodLink "InspectStepsModel" (107 : Nat) ({ cls := "InspectStepsModel", name := "isOpened", desc := "(I)Z" } : Jvm.MethodName)) ∈ GW := gw_of (List.mem_append_right _ (List.mem_append_right _ (List.mem_append_right _ (List.mem_append_left _ (List.mem_of_getElem? (i := 233) rfl))))) rfl
theorem kw_715 : (Jvm.Cond.instanceMethod ({ cls := "InspectStepsModel", name := "isOpened", desc := "(I)Z" } : Jvm.MethodName)) ∈ GW := gw_of (List.mem_append_right _ (List.mem_append_right _ (List.mem_append_right _ (List.mem_append_left _ (List.mem_of_getElem? (i := 235) rfl))))) rfl
theorem kw_716 : (Jvm.Cond.code ({ cls := "InspectStepsModel", name := "isOpened", desc := "(I)Z" } : Jvm.MethodName) prog_5_method_15_code (2 : Nat) (Option.some Jvm.ClassFile.FieldType.boolean)) ∈ GW := gw_of (List.mem_append_right _ (List.mem_append_right _ (List.mem_append_right _ (List.mem_append_left _ (List.mem_of_getElem? (i := 236) rfl))))) rfl
theorem kw_717 : (Jvm.Cond.methodLink "InspectStepsLaw" (94 : Nat) ({ cls := "InspectStepsModel", name := "sample", desc := "(II)I" } : Jvm.MethodName)) ∈ GW := gw_of (List.mem_append_right _ (List.mem_append_right _ (List.mem_append_right _ (List.mem_append_left _ (List.mem_of_getElem? (i := 237) rfl))))) rfl
theorem kw_718 : (Jvm.Cond.instanceMethod ({ cls := "InspectStepsModel", name := "sample", desc := "(II)I" } : Jvm.MethodName)) ∈ GW := gw_of (List.mem_append_right _ (List.mem_append_right _ (List.mem_append_right _ (List.mem_append_left _ (List.mem_of_getElem? (i := 238) rfl))))) rfl
theorem kw_719 : (Jvm.Cond.selects "InspectStepsModel" ({ cls := "InspectStepsModel", name := "sample", desc := "(II)I" } : Jvm.MethodName) ({ cls := "InspectStepsModel", name := "sample", desc := "(II)I" } : Jvm.MethodName)) ∈ GW := gw_of (List.mem_append_right _ (List.mem_append_right _ (List.mem_append_right _ (List.mem_append_left _ (List.mem_of_getElem? (i := 239) rfl))))) rfl
theorem kw_720 : (Jvm.Cond.code ({ cls := "InspectStepsModel", name := "sample", desc := "(II)I" } : Jvm.MethodName) prog_5_method_18_code (3 : Nat) (Option.some Jvm.ClassFile.FieldType.int)) ∈ GW := gw_of (List.mem_append_right _ (List.mem_append_right _ (List.mem_append_right _ (List.mem_append_right _ (List.mem_of_getElem? (i := 0) rfl))))) rfl
theorem kw_721 : (Jvm.Cond.methodLink "InspectStepsModel" (113 : Nat) ({ cls := "InspectStepsModel", name := "sealed", desc := "(I)I" } : Jvm.MethodName)) ∈ GW := gw_of (List.mem_append_right _ (List.mem_append_right _ (List.mem_append_right _ (List.mem_append_right _ (List.mem_of_getElem? (i := 1) rfl))))) rfl
theorem kw_723 : (Jvm.Cond.instanceMethod ({ cls := "InspectStepsModel", name := "sealed", desc := "(I)I" } : Jvm.MethodName)) ∈ GW := gw_of (List.mem_append_right _ (List.mem_append_right _ (List.mem_append_right _ (List.mem_append_right _ (List.mem_of_getElem? (i := 3) rfl))))) rfl
theorem kw_724 : (Jvm.Cond.code ({ cls := "InspectStepsModel", name := "sealed", desc := "(I)I" } : Jvm.MethodName) prog_5_method_17_code (4 : Nat) (Option.some Jvm.ClassFile.FieldType.int)) ∈ GW := gw_of (List.mem_append_right _ (List.mem_append_right _ (List.mem_append_right _ (List.mem_append_right _ (List.mem_of_getElem? (i := 4) rfl))))) rfl
theorem kw_725 : (Jvm.Cond.methodLink "InspectStepsLaw" (97 : Nat) ({ cls := "InspectStepsModel", name := "result", desc := "(IIII)I" } : Jvm.MethodName)) ∈ GW := gw_of (List.mem_append_right _ (List.mem_append_right _ (List.mem_append_right _ (List.mem_append_right _ (List.mem_of_getElem? (i := 5) rfl))))) rfl
theorem kw_726 : (Jvm.Cond.instanceMethod ({ cls := "InspectStepsModel", name := "result", desc := "(IIII)I" } : Jvm.MethodName)) ∈ GW := gw_of (List.mem_append_right _ (List.mem_append_right _ (List.mem_append_right _ (List.mem_append_right _ (List.mem_of_getElem? (i := 6) rfl))))) rfl
theorem kw_727 : (Jvm.Cond.selects "InspectStepsModel" ({ cls := "InspectStepsModel", name := "result", desc := "(IIII)I" } : Jvm.MethodName) ({ cls := "InspectStepsModel", name := "result", desc := "(IIII)I" } : Jvm.MethodName)) ∈ GW := gw_of (List.mem_append_right _ (List.mem_append_right _ (List.mem_append_right _ (List.mem_append_right _ (List.mem_of_getElem? (i := 7) rfl))))) rfl
theorem kw_728 : (Jvm.Cond.code ({ cls := "InspectStepsModel", name := "result", desc := "(IIII)I" } : Jvm.MethodName) prog_5_method_20_code (6 : Nat) (Option.some Jvm.ClassFile.FieldType.int)) ∈ GW := gw_of (List.mem_append_right _ (List.mem_append_right _ (List.mem_append_right _ (List.mem_append_right _ (List.mem_of_getElem? (i := 8) rfl))))) rfl
theorem kw_729 : (Jvm.Cond.methodLink "InspectStepsModel" (119 : Nat) ({ cls := "InspectStepsModel", name := "differs", desc := "(II)I" } : Jvm.MethodName)) ∈ GW := gw_of (List.mem_append_right _ (List.mem_append_right _ (List.mem_append_right _ (List.mem_append_right _ (List.mem_of_getElem? (i := 9) rfl))))) rfl
theorem kw_731 : (Jvm.Cond.instanceMethod ({ cls := "InspectStepsModel", name := "differs", desc := "(II)I" } : Jvm.MethodName)) ∈ GW := gw_of (List.mem_append_right _ (List.mem_append_right _ (List.mem_append_right _ (List.mem_append_right _ (List.mem_of_getElem? (i := 11) rfl))))) rfl
theorem kw_732 : (Jvm.Cond.code ({ cls := "InspectStepsModel", name := "differs", desc := "(II)I" } : Jvm.MethodName) prog_5_method_19_code (11 : Nat) (Option.some Jvm.ClassFile.FieldType.int)) ∈ GW := gw_of (List.mem_append_right _ (List.mem_append_right _ (List.mem_append_right _ (List.mem_append_right _ (List.mem_of_getElem? (i := 12) rfl))))) rfl
theorem kw_733 : (Jvm.Cond.constantLong "InspectStepsModel" (117 : Nat) (1000 : Int64)) ∈ GW := gw_of (List.mem_append_right _ (List.mem_append_right _ (List.mem_append_right _ (List.mem_append_right _ (List.mem_of_getElem? (i := 13) rfl))))) rfl
theorem kw_734 : (Jvm.Cond.methodLink "InspectStepsLaw" (102 : Nat) ({ cls := "InspectStepsModel", name := "declared", desc := "(III)Z" } : Jvm.MethodName)) ∈ GW := gw_of (List.mem_append_right _ (List.mem_append_right _ (List.mem_append_right _ (List.mem_append_right _ (List.mem_of_getElem? (i := 14) rfl))))) rfl
theorem kw_735 : (Jvm.Cond.instanceMethod ({ cls := "InspectStepsModel", name := "declared", desc := "(III)Z" } : Jvm.MethodName)) ∈ GW := gw_of (List.mem_append_right _ (List.mem_append_right _ (List.mem_append_right _ (List.mem_append_right _ (List.mem_of_getElem? (i := 15) rfl))))) rfl
theorem kw_736 : (Jvm.Cond.selects "InspectStepsModel" ({ cls := "InspectStepsModel", name := "declared", desc := "(III)Z" } : Jvm.MethodName) ({ cls := "InspectStepsModel", name := "declared", desc := "(III)Z" } : Jvm.MethodName)) ∈ GW := gw_of (List.mem_append_right _ (List.mem_append_right _ (List.mem_append_right _ (List.mem_append_right _ (List.mem_of_getElem? (i := 16) rfl))))) rfl
theorem kw_737 : (Jvm.Cond.code ({ cls := "InspectStepsModel", name := "declared", desc := "(III)Z" } : Jvm.MethodName) prog_5_method_21_code (4 : Nat) (Option.some Jvm.ClassFile.FieldType.boolean)) ∈ GW := gw_of (List.mem_append_right _ (List.mem_append_right _ (List.mem_append_right _ (List.mem_append_right _ (List.mem_of_getElem? (i := 17) rfl))))) rfl
theorem kw_738 : (Jvm.Cond.methodLink "InspectStepsLaw" (106 : Nat) ({ cls := "InspectStepsModel", name := "tolerance", desc := "(III)Z" } : Jvm.MethodName)) ∈ GW := gw_of (List.mem_append_right _ (List.mem_append_right _ (List.mem_append_right _ (List.mem_append_right _ (List.mem_of_getElem? (i := 18) rfl))))) rfl
theorem kw_739 : (Jvm.Cond.instanceMethod ({ cls := "InspectStepsModel", name := "tolerance", desc := "(III)Z" } : Jvm.MethodName)) ∈ GW := gw_of (List.mem_append_right _ (List.mem_append_right _ (List.mem_append_right _ (List.mem_append_right _ (List.mem_of_getElem? (i := 19) rfl))))) rfl
theorem kw_740 : (Jvm.Cond.selects "InspectStepsModel" ({ cls := "InspectStepsModel", name := "tolerance", desc := "(III)Z" } : Jvm.MethodName) ({ cls := "InspectStepsModel", name := "tolerance", desc := "(III)Z" } : Jvm.MethodName)) ∈ GW := gw_of (List.mem_append_right _ (List.mem_append_right _ (List.mem_append_right _ (List.mem_append_right _ (List.mem_of_getElem? (i := 20) rfl))))) rfl
theorem kw_741 : (Jvm.Cond.code ({ cls := "InspectStepsModel", name := "tolerance", desc := "(III)Z" } : Jvm.MethodName) prog_5_method_22_code (4 : Nat) (Option.some Jvm.ClassFile.FieldType.boolean)) ∈ GW := gw_of (List.mem_append_right _ (List.mem_append_right _ (List.mem_append_right _ (List.mem_append_right _ (List.mem_of_getElem? (i := 21) rfl))))) rfl
theorem kw_742 : (Jvm.Cond.methodLink "InspectStepsLaw" (110 : Nat) ({ cls := "InspectStepsModel", name := "hold", desc := "(IIZ)Z" } : Jvm.MethodName)) ∈ GW := gw_of (List.mem_append_right _ (List.mem_append_right _ (List.mem_append_right _ (List.mem_append_right _ (List.mem_of_getElem? (i := 22) rfl))))) rfl
theorem kw_743 : (Jvm.Cond.instanceMethod ({ cls := "InspectStepsModel", name := "hold", desc := "(IIZ)Z" } : Jvm.MethodName)) ∈ GW := gw_of (List.mem_append_right _ (List.mem_append_right _ (List.mem_append_right _ (List.mem_append_right _ (List.mem_of_getElem? (i := 23) rfl))))) rfl
theorem kw_744 : (Jvm.Cond.selects "InspectStepsModel" ({ cls := "InspectStepsModel", name := "hold", desc := "(IIZ)Z" } : Jvm.MethodName) ({ cls := "InspectStepsModel", name := "hold", desc := "(IIZ)Z" } : Jvm.MethodName)) ∈ GW := gw_of (List.mem_append_right _ (List.mem_append_right _ (List.mem_append_right _ (List.mem_append_right _ (List.mem_of_getElem? (i := 24) rfl))))) rfl
theorem kw_745 : (Jvm.Cond.code ({ cls := "InspectStepsModel", name := "hold", desc := "(IIZ)Z" } : Jvm.MethodName) prog_5_method_23_code (4 : Nat) (Option.some Jvm.ClassFile.FieldType.boolean)) ∈ GW := gw_of (List.mem_append_right _ (List.mem_append_right _ (List.mem_append_right _ (List.mem_append_right _ (List.mem_of_getElem? (i := 25) rfl))))) rfl
theorem kw_746 : (Jvm.Cond.methodLink "InspectStepsLaw" (114 : Nat) ({ cls := "InspectStepsModel", name := "settle", desc := "(I)I" } : Jvm.MethodName)) ∈ GW := gw_of (List.mem_append_right _ (List.mem_append_right _ (List.mem_append_right _ (List.mem_append_right _ (List.mem_of_getElem? (i := 26) rfl))))) rfl
theorem kw_747 : (Jvm.Cond.instanceMethod ({ cls := "InspectStepsModel", name := "settle", desc := "(I)I" } : Jvm.MethodName)) ∈ GW := gw_of (List.mem_append_right _ (List.mem_append_right _ (List.mem_append_right _ (List.mem_append_right _ (List.mem_of_getElem? (i := 27) rfl))))) rfl
theorem kw_748 : (Jvm.Cond.selects "InspectStepsModel" ({ cls := "InspectStepsModel", name := "settle", desc := "(I)I" } : Jvm.MethodName) ({ cls := "InspectStepsModel", name := "settle", desc := "(I)I" } : Jvm.MethodName)) ∈ GW := gw_of (List.mem_append_right _ (List.mem_append_right _ (List.mem_append_right _ (List.mem_append_right _ (List.mem_of_getElem? (i := 28) rfl))))) rfl
theorem kw_749 : (Jvm.Cond.code ({ cls := "InspectStepsModel", name := "settle", desc := "(I)I" } : Jvm.MethodName) prog_5_method_26_code (4 : Nat) (Option.some Jvm.ClassFile.FieldType.int)) ∈ GW := gw_of (List.mem_append_right _ (List.mem_append_right _ (List.mem_append_right _ (List.mem_append_right _ (List.mem_of_getElem? (i := 29) rfl))))) rfl
theorem kw_750 : (Jvm.Cond.methodLink "InspectStepsModel" (126 : Nat) ({ cls := "InspectStepsModel", name := "great", desc := "(IZ)I" } : Jvm.MethodName)) ∈ GW := gw_of (List.mem_append_right _ (List.mem_append_right _ (List.mem_append_right _ (List.mem_append_right _ (List.mem_of_getElem? (i := 30) rfl))))) rfl
theorem kw_752 : (Jvm.Cond.instanceMethod ({ cls := "InspectStepsModel", name := "great", desc := "(IZ)I" } : Jvm.MethodName)) ∈ GW := gw_of (List.mem_append_right _ (List.mem_append_right _ (List.mem_append_right _ (List.mem_append_right _ (List.mem_of_getElem? (i := 32) rfl))))) rfl
theorem kw_753 : (Jvm.Cond.code ({ cls := "InspectStepsModel", name := "great", desc := "(IZ)I" } : Jvm.MethodName) prog_5_method_25_code (5 : Nat) (Option.some Jvm.ClassFile.FieldType.int)) ∈ GW := gw_of (List.mem_append_right _ (List.mem_append_right _ (List.mem_append_right _ (List.mem_append_right _ (List.mem_of_getElem? (i := 33) rfl))))) rfl
theorem kw_754 : (Jvm.Cond.methodLink "InspectStepsModel" (123 : Nat) ({ cls := "InspectStepsModel", name := "isOf", desc := "(II)Z" } : Jvm.MethodName)) ∈ GW := gw_of (List.mem_append_right _ (List.mem_append_right _ (List.mem_append_right _ (List.mem_append_right _ (List.mem_of_getElem? (i := 34) rfl))))) rfl
theorem kw_756 : (Jvm.Cond.instanceMethod ({ cls := "InspectStepsModel", name := "isOf", desc := "(II)Z" } : Jvm.MethodName)) ∈ GW := gw_of (List.mem_append_right _ (List.mem_append_right _ (List.mem_append_right _ (List.mem_append_right _ (List.mem_of_getElem? (i := 36) rfl))))) rfl
theorem kw_757 : (Jvm.Cond.code ({ cls := "InspectStepsModel", name := "isOf", desc := "(II)Z" } : Jvm.MethodName) prog_5_method_24_code (3 : Nat) (Option.some Jvm.ClassFile.FieldType.boolean)) ∈ GW := gw_of (List.mem_append_right _ (List.mem_append_right _ (List.mem_append_right _ (List.mem_append_right _ (List.mem_of_getElem? (i := 37) rfl))))) rfl
theorem kw_758 : (Jvm.Cond.methodLink "InspectStepsLaw" (117 : Nat) ({ cls := "InspectStepsModel", name := "tick", desc := "(I)I" } : Jvm.MethodName)) ∈ GW := gw_of (List.mem_append_right _ (List.mem_append_right _ (List.mem_append_right _ (List.mem_append_right _ (List.mem_of_getElem? (i := 38) rfl))))) rfl
theorem kw_759 : (Jvm.Cond.instanceMethod ({ cls := "InspectStepsModel", name := "tick", desc := "(I)I" } : Jvm.MethodName)) ∈ GW := gw_of (List.mem_append_right _ (List.mem_append_right _ (List.mem_append_right _ (List.mem_append_right _ (List.mem_of_getElem? (i := 39) rfl))))) rfl
theorem kw_760 : (Jvm.Cond.selects "InspectStepsModel" ({ cls := "InspectStepsModel", name := "tick", desc := "(I)I" } : Jvm.MethodName) ({ cls := "InspectStepsModel", name := "tick", desc := "(I)I" } : Jvm.MethodName)) ∈ GW := gw_of (List.mem_append_right _ (List.mem_append_right _ (List.mem_append_right _ (List.mem_append_right _ (List.mem_of_getElem? (i := 40) rfl))))) rfl
theorem kw_761 : (Jvm.Cond.code ({ cls := "InspectStepsModel", name := "tick", desc := "(I)I" } : Jvm.MethodName) prog_5_method_27_code (6 : Nat) (Option.some Jvm.ClassFile.FieldType.int)) ∈ GW := gw_of (List.mem_append_right _ (List.mem_append_right _ (List.mem_append_right _ (List.mem_append_right _ (List.mem_of_getElem? (i := 41) rfl))))) rfl
theorem kw_762 : (Jvm.Cond.methodLink "InspectStepsLaw" (120 : Nat) ({ cls := "InspectStepsModel", name := "release", desc := "(I)I" } : Jvm.MethodName)) ∈ GW := gw_of (List.mem_append_right _ (List.mem_append_right _ (List.mem_append_right _ (List.mem_append_right _ (List.mem_of_getElem? (i := 42) rfl))))) rfl
theorem kw_763 : (Jvm.Cond.instanceMethod ({ cls := "InspectStepsModel", name := "release", desc := "(I)I" } : Jvm.MethodName)) ∈ GW := gw_of (List.mem_append_right _ (List.mem_append_right _ (List.mem_append_right _ (List.mem_append_right _ (List.mem_of_getElem? (i := 43) rfl))))) rfl
theorem kw_764 : (Jvm.Cond.selects "InspectStepsModel" ({ cls := "InspectStepsModel", name := "release", desc := "(I)I" } : Jvm.MethodName) ({ cls := "InspectStepsModel", name := "release", desc := "(I)I" } : Jvm.MethodName)) ∈ GW := gw_of (List.mem_append_right _ (List.mem_append_right _ (List.mem_append_right _ (List.mem_append_right _ (List.mem_of_getElem? (i := 44) rfl))))) rfl
theorem kw_765 : (Jvm.Cond.code ({ cls := "InspectStepsModel", name := "release", desc := "(I)I" } : Jvm.MethodName) prog_5_method_29_code (5 : Nat) (Option.some Jvm.ClassFile.FieldType.int)) ∈ GW := gw_of (List.mem_append_right _ (List.mem_append_right _ (List.mem_append_right _ (List.mem_append_right _ (List.mem_of_getElem? (i := 45) rfl))))) rfl
theorem kw_766 : (Jvm.Cond.methodLink "InspectStepsModel" (130 : Nat) ({ cls := "InspectStepsModel", name := "hasNoResult", desc := "(I)Z" } : Jvm.MethodName)) ∈ GW := gw_of (List.mem_append_right _ (List.mem_append_right _ (List.mem_append_right _ (List.mem_append_right _ (List.mem_of_getElem? (i := 46) rfl))))) rfl
theorem kw_768 : (Jvm.Cond.instanceMethod ({ cls := "InspectStepsModel", name := "hasNoResult", desc := "(I)Z" } : Jvm.MethodName)) ∈ GW := gw_of (List.mem_append_right _ (List.mem_append_right _ (List.mem_append_right _ (List.mem_append_right _ (List.mem_of_getElem? (i := 48) rfl))))) rfl
theorem kw_769 : (Jvm.Cond.code ({ cls := "InspectStepsModel", name := "hasNoResult", desc := "(I)Z" } : Jvm.MethodName) prog_5_method_28_code (2 : Nat) (Option.some Jvm.ClassFile.FieldType.boolean)) ∈ GW := gw_of (List.mem_append_right _ (List.mem_append_right _ (List.mem_append_right _ (List.mem_append_right _ (List.mem_of_getElem? (i := 49) rfl))))) rfl
theorem kw_770 : (Jvm.Cond.methodLink "InspectStepsLaw" (123 : Nat) ({ cls := "InspectStepsModel", name := "look", desc := "(II)I" } : Jvm.MethodName)) ∈ GW := gw_of (List.mem_append_right _ (List.mem_append_right _ (List.mem_append_right _ (List.mem_append_right _ (List.mem_of_getElem? (i := 50) rfl))))) rfl
theorem kw_771 : (Jvm.Cond.instanceMethod ({ cls := "InspectStepsModel", name := "look", desc := "(II)I" } : Jvm.MethodName)) ∈ GW := gw_of (List.mem_append_right _ (List.mem_append_right _ (List.mem_append_right _ (List.mem_append_right _ (List.mem_of_getElem? (i := 51) rfl))))) rfl
theorem kw_772 : (Jvm.Cond.selects "InspectStepsModel" ({ cls := "InspectStepsModel", name := "look", desc := "(II)I" } : Jvm.MethodName) ({ cls := "InspectStepsModel", name := "look", desc := "(II)I" } : Jvm.MethodName)) ∈ GW := gw_of (List.mem_append_right _ (List.mem_append_right _ (List.mem_append_right _ (List.mem_append_right _ (List.mem_of_getElem? (i := 52) rfl))))) rfl
theorem kw_773 : (Jvm.Cond.code ({ cls := "InspectStepsModel", name := "look", desc := "(II)I" } : Jvm.MethodName) prog_5_method_31_code (3 : Nat) (Option.some Jvm.ClassFile.FieldType.int)) ∈ GW := gw_of (List.mem_append_right _ (List.mem_append_right _ (List.mem_append_right _ (List.mem_append_right _ (List.mem_of_getElem? (i := 53) rfl))))) rfl
theorem kw_774 : (Jvm.Cond.methodLink "InspectStepsModel" (133 : Nat) ({ cls := "InspectStepsModel", name := "samplesOf", desc := "(I)I" } : Jvm.MethodName)) ∈ GW := gw_of (List.mem_append_right _ (List.mem_append_right _ (List.mem_append_right _ (List.mem_append_right _ (List.mem_of_getElem? (i := 54) rfl))))) rfl
theorem kw_776 : (Jvm.Cond.instanceMethod ({ cls := "InspectStepsModel", name := "samplesOf", desc := "(I)I" } : Jvm.MethodName)) ∈ GW := gw_of (List.mem_append_right _ (List.mem_append_right _ (List.mem_append_right _ (List.mem_append_right _ (List.mem_of_getElem? (i := 56) rfl))))) rfl
theorem kw_777 : (Jvm.Cond.code ({ cls := "InspectStepsModel", name := "samplesOf", desc := "(I)I" } : Jvm.MethodName) prog_5_method_30_code (4 : Nat) (Option.some Jvm.ClassFile.FieldType.int)) ∈ GW := gw_of (List.mem_append_right _ (List.mem_append_right _ (List.mem_append_right _ (List.mem_append_right _ (List.mem_of_getElem? (i := 57) rfl))))) rfl
theorem kw_778 : (Jvm.Cond.methodLink "InspectStepsLaw" (127 : Nat) ({ cls := "InspectStepsModel", name := "count", desc := "(I)I" } : Jvm.MethodName)) ∈ GW := gw_of (List.mem_append_right _ (List.mem_append_right _ (List.mem_append_right _ (List.mem_append_right _ (List.mem_of_getElem? (i := 58) rfl))))) rfl
theorem kw_779 : (Jvm.Cond.instanceMethod ({ cls := "InspectStepsModel", name := "count", desc := "(I)I" } : Jvm.MethodName)) ∈ GW := gw_of (List.mem_append_right _ (List.mem_append_right _ (List.mem_append_right _ (List.mem_append_right _ (List.mem_of_getElem? (i := 59) rfl))))) rfl
theorem kw_780 : (Jvm.Cond.selects "InspectStepsModel" ({ cls := "InspectStepsModel", name := "count", desc := "(I)I" } : Jvm.MethodName) ({ cls := "InspectStepsModel", name := "count", desc := "(I)I" } : Jvm.MethodName)) ∈ GW := gw_of (List.mem_append_right _ (List.mem_append_right _ (List.mem_append_right _ (List.mem_append_right _ (List.mem_of_getElem? (i := 60) rfl))))) rfl
theorem kw_781 : (Jvm.Cond.code ({ cls := "InspectStepsModel", name := "count", desc := "(I)I" } : Jvm.MethodName) prog_5_method_33_code (3 : Nat) (Option.some Jvm.ClassFile.FieldType.int)) ∈ GW := gw_of (List.mem_append_right _ (List.mem_append_right _ (List.mem_append_right _ (List.mem_append_right _ (List.mem_of_getElem? (i := 61) rfl))))) rfl
theorem kw_782 : (Jvm.Cond.methodLink "InspectStepsModel" (136 : Nat) ({ cls := "InspectStepsModel", name := "costsOf", desc := "(I)I" } : Jvm.MethodName)) ∈ GW := gw_of (List.mem_append_right _ (List.mem_append_right _ (List.mem_append_right _ (List.mem_append_right _ (List.mem_of_getElem? (i := 62) rfl))))) rfl
theorem kw_784 : (Jvm.Cond.instanceMethod ({ cls := "InspectStepsModel", name := "costsOf", desc := "(I)I" } : Jvm.MethodName)) ∈ GW := gw_of (List.mem_append_right _ (List.mem_append_right _ (List.mem_append_right _ (List.mem_append_right _ (List.mem_of_getElem? (i := 64) rfl))))) rfl
theorem kw_785 : (Jvm.Cond.code ({ cls := "InspectStepsModel", name := "costsOf", desc := "(I)I" } : Jvm.MethodName) prog_5_method_32_code (4 : Nat) (Option.some Jvm.ClassFile.FieldType.int)) ∈ GW := gw_of (List.mem_append_right _ (List.mem_append_right _ (List.mem_append_right _ (List.mem_append_right _ (List.mem_of_getElem? (i := 65) rfl))))) rfl
theorem kw_786 : (Jvm.Cond.arrayClass Jvm.ClassFile.FieldType.long) ∈ GW := gw_of (List.mem_append_right _ (List.mem_append_right _ (List.mem_append_right _ (List.mem_append_right _ (List.mem_of_getElem? (i := 66) rfl))))) rfl
theorem kw_791 : (Jvm.Cond.selects "[Ljava/lang/Object;" ({ cls := "java/lang/Object", name := "getClass", desc := "()Ljava/lang/Class;" } : Jvm.MethodName) ({ cls := "java/lang/Object", name := "getClass", desc := "()Ljava/lang/Class;" } : Jvm.MethodName)) ∈ GW := gw_of (List.mem_append_right _ (List.mem_append_right _ (List.mem_append_right _ (List.mem_append_right _ (List.mem_of_getElem? (i := 71) rfl))))) rfl
theorem ks_0_0 : (Cond.selects "InspectSteps" ⟨"InspectSteps", "mayDo", "(II)Z"⟩ ⟨"InspectSteps", "mayDo", "(II)Z"⟩) ∈ GW := gw_of (List.mem_append_left _ (List.mem_map.mpr ⟨(⟨"InspectSteps", "mayDo", "(II)Z"⟩, 10), List.mem_append_left _ (List.mem_of_getElem? (i := 0) rfl), rfl⟩)) rfl
theorem ks_0_1 : (Cond.selects "InspectSteps" ⟨"InspectSteps", "isInspection", "(I)Z"⟩ ⟨"InspectSteps", "isInspection", "(I)Z"⟩) ∈ GW := gw_of (List.mem_append_left _ (List.mem_map.mpr ⟨(⟨"InspectSteps", "isInspection", "(I)Z"⟩, 10), List.mem_append_left _ (List.mem_of_getElem? (i := 1) rfl), rfl⟩)) rfl
theorem ks_0_2 : (Cond.selects "InspectSteps" ⟨"InspectSteps", "countOf", "(II)I"⟩ ⟨"InspectSteps", "countOf", "(II)I"⟩) ∈ GW := gw_of (List.mem_append_left _ (List.mem_map.mpr ⟨(⟨"InspectSteps", "countOf", "(II)I"⟩, 10), List.mem_append_left _ (List.mem_of_getElem? (i := 2) rfl), rfl⟩)) rfl
theorem ks_0_3 : (Cond.selects "InspectSteps" ⟨"InspectSteps", "muchDifferent", "(IZ)I"⟩ ⟨"InspectSteps", "muchDifferent", "(IZ)I"⟩) ∈ GW := gw_of (List.mem_append_left _ (List.mem_map.mpr ⟨(⟨"InspectSteps", "muchDifferent", "(IZ)I"⟩, 10), List.mem_append_left _ (List.mem_of_getElem? (i := 3) rfl), rfl⟩)) rfl
theorem ks_0_4 : (Cond.selects "InspectSteps" ⟨"InspectSteps", "difference", "(LInspectSteps$Sample;I)I"⟩ ⟨"InspectSteps", "difference", "(LInspectSteps$Sample;I)I"⟩) ∈ GW := gw_of (List.mem_append_left _ (List.mem_map.mpr ⟨(⟨"InspectSteps", "difference", "(LInspectSteps$Sample;I)I"⟩, 10), List.mem_append_left _ (List.mem_of_getElem? (i := 4) rfl), rfl⟩)) rfl
theorem ks_0_5 : (Cond.selects "java/lang/Throwable" ⟨"java/lang/Throwable", "fillInStackTrace", "(I)Ljava/lang/Throwable;"⟩ ⟨"java/lang/Throwable", "fillInStackTrace", "(I)Ljava/lang/Throwable;"⟩) ∈ GW := gw_of (List.mem_append_left _ (List.mem_map.mpr ⟨(⟨"java/lang/Throwable", "fillInStackTrace", "(I)Ljava/lang/Throwable;"⟩, 6), List.mem_append_left _ (List.mem_of_getElem? (i := 5) rfl), rfl⟩)) rfl
theorem ks_0_6 : (Cond.selects "InspectSteps" ⟨"InspectSteps", "isTimeToCome", "(I)Z"⟩ ⟨"InspectSteps", "isTimeToCome", "(I)Z"⟩) ∈ GW := gw_of (List.mem_append_left _ (List.mem_map.mpr ⟨(⟨"InspectSteps", "isTimeToCome", "(I)Z"⟩, 10), List.mem_append_left _ (List.mem_of_getElem? (i := 6) rfl), rfl⟩)) rfl
theorem ks_0_7 : (Cond.selects "java/util/ArrayList" ⟨"java/util/ArrayList", "add", "(Ljava/lang/Object;[Ljava/lang/Object;I)V"⟩ ⟨"java/util/ArrayList", "add", "(Ljava/lang/Object;[Ljava/lang/Object;I)V"⟩) ∈ GW := gw_of (List.mem_append_left _ (List.mem_map.mpr ⟨(⟨"java/util/ArrayList", "add", "(Ljava/lang/Object;[Ljava/lang/Object;I)V"⟩, 3), List.mem_append_left _ (List.mem_of_getElem? (i := 7) rfl), rfl⟩)) rfl
theorem ks_0_8 : (Cond.selects "java/util/ArrayList" ⟨"java/util/ArrayList", "grow", "()[Ljava/lang/Object;"⟩ ⟨"java/util/ArrayList", "grow", "()[Ljava/lang/Object;"⟩) ∈ GW := gw_of (List.mem_append_left _ (List.mem_map.mpr ⟨(⟨"java/util/ArrayList", "grow", "()[Ljava/lang/Object;"⟩, 3), List.mem_append_left _ (List.mem_of_getElem? (i := 8) rfl), rfl⟩)) rfl
theorem ks_0_9 : (Cond.selects "java/util/ArrayList" ⟨"java/util/ArrayList", "grow", "(I)[Ljava/lang/Object;"⟩ ⟨"java/util/ArrayList", "grow", "(I)[Ljava/lang/Object;"⟩) ∈ GW := gw_of (List.mem_append_left _ (List.mem_map.mpr ⟨(⟨"java/util/ArrayList", "grow", "(I)[Ljava/lang/Object;"⟩, 3), List.mem_append_left _ (List.mem_of_getElem? (i := 9) rfl), rfl⟩)) rfl
theorem ks_0_10 : (Cond.selects "InspectSteps" ⟨"InspectSteps", "isTaken", "(III)Z"⟩ ⟨"InspectSteps", "isTaken", "(III)Z"⟩) ∈ GW := gw_of (List.mem_append_left _ (List.mem_map.mpr ⟨(⟨"InspectSteps", "isTaken", "(III)Z"⟩, 10), List.mem_append_left _ (List.mem_of_getElem? (i := 10) rfl), rfl⟩)) rfl
theorem ks_0_11 : (Cond.selects "InspectSteps" ⟨"InspectSteps", "isBeingOpened", "(I)Z"⟩ ⟨"InspectSteps", "isBeingOpened", "(I)Z"⟩) ∈ GW := gw_of (List.mem_append_left _ (List.mem_map.mpr ⟨(⟨"InspectSteps", "isBeingOpened", "(I)Z"⟩, 10), List.mem_append_left _ (List.mem_of_getElem? (i := 11) rfl), rfl⟩)) rfl
theorem ks_0_12 : (Cond.selects "InspectSteps" ⟨"InspectSteps", "isSealOfSample", "(I)Z"⟩ ⟨"InspectSteps", "isSealOfSample", "(I)Z"⟩) ∈ GW := gw_of (List.mem_append_left _ (List.mem_map.mpr ⟨(⟨"InspectSteps", "isSealOfSample", "(I)Z"⟩, 10), List.mem_append_left _ (List.mem_of_getElem? (i := 12) rfl), rfl⟩)) rfl
theorem ks_0_13 : (Cond.selects "InspectSteps$Inspection" ⟨"InspectSteps$Inspection", "lateTimes", "(I)I"⟩ ⟨"InspectSteps$Inspection", "lateTimes", "(I)I"⟩) ∈ GW := gw_of (List.mem_append_left _ (List.mem_map.mpr ⟨(⟨"InspectSteps$Inspection", "lateTimes", "(I)I"⟩, 10), List.mem_append_left _ (List.mem_of_getElem? (i := 13) rfl), rfl⟩)) rfl
theorem ks_0_14 : (Cond.selects "InspectSteps" ⟨"InspectSteps", "hasPendingInspection", "(I)Z"⟩ ⟨"InspectSteps", "hasPendingInspection", "(I)Z"⟩) ∈ GW := gw_of (List.mem_append_left _ (List.mem_map.mpr ⟨(⟨"InspectSteps", "hasPendingInspection", "(I)Z"⟩, 10), List.mem_append_left _ (List.mem_of_getElem? (i := 14) rfl), rfl⟩)) rfl
theorem ks_0_15 : (Cond.selects "InspectSteps" ⟨"InspectSteps", "hasSampleWithoutResult", "(I)Z"⟩ ⟨"InspectSteps", "hasSampleWithoutResult", "(I)Z"⟩) ∈ GW := gw_of (List.mem_append_left _ (List.mem_map.mpr ⟨(⟨"InspectSteps", "hasSampleWithoutResult", "(I)Z"⟩, 10), List.mem_append_left _ (List.mem_of_getElem? (i := 15) rfl), rfl⟩)) rfl
theorem ks_1_0 : (Cond.selects "InspectStepsModel" ⟨"InspectStepsModel", "may", "(II)Z"⟩ ⟨"InspectStepsModel", "may", "(II)Z"⟩) ∈ GW := gw_of (List.mem_append_left _ (List.mem_map.mpr ⟨(⟨"InspectStepsModel", "may", "(II)Z"⟩, 25), List.mem_append_right _ (List.mem_of_getElem? (i := 0) rfl), rfl⟩)) rfl
theorem ks_1_1 : (Cond.selects "InspectStepsModel" ⟨"InspectStepsModel", "isTime", "(I)Z"⟩ ⟨"InspectStepsModel", "isTime", "(I)Z"⟩) ∈ GW := gw_of (List.mem_append_left _ (List.mem_map.mpr ⟨(⟨"InspectStepsModel", "isTime", "(I)Z"⟩, 25), List.mem_append_right _ (List.mem_of_getElem? (i := 1) rfl), rfl⟩)) rfl
theorem ks_1_2 : (Cond.selects "InspectStepsModel" ⟨"InspectStepsModel", "isOne", "(I)Z"⟩ ⟨"InspectStepsModel", "isOne", "(I)Z"⟩) ∈ GW := gw_of (List.mem_append_left _ (List.mem_map.mpr ⟨(⟨"InspectStepsModel", "isOne", "(I)Z"⟩, 25), List.mem_append_right _ (List.mem_of_getElem? (i := 2) rfl), rfl⟩)) rfl
theorem ks_1_3 : (Cond.selects "InspectStepsModel" ⟨"InspectStepsModel", "takesPlace", "(I)Z"⟩ ⟨"InspectStepsModel", "takesPlace", "(I)Z"⟩) ∈ GW := gw_of (List.mem_append_left _ (List.mem_map.mpr ⟨(⟨"InspectStepsModel", "takesPlace", "(I)Z"⟩, 25), List.mem_append_right _ (List.mem_of_getElem? (i := 3) rfl), rfl⟩)) rfl
theorem ks_1_4 : (Cond.selects "InspectStepsModel" ⟨"InspectStepsModel", "isOpened", "(I)Z"⟩ ⟨"InspectStepsModel", "isOpened", "(I)Z"⟩) ∈ GW := gw_of (List.mem_append_left _ (List.mem_map.mpr ⟨(⟨"InspectStepsModel", "isOpened", "(I)Z"⟩, 25), List.mem_append_right _ (List.mem_of_getElem? (i := 4) rfl), rfl⟩)) rfl
theorem ks_1_5 : (Cond.selects "InspectStepsModel" ⟨"InspectStepsModel", "sealed", "(I)I"⟩ ⟨"InspectStepsModel", "sealed", "(I)I"⟩) ∈ GW := gw_of (List.mem_append_left _ (List.mem_map.mpr ⟨(⟨"InspectStepsModel", "sealed", "(I)I"⟩, 25), List.mem_append_right _ (List.mem_of_getElem? (i := 5) rfl), rfl⟩)) rfl
theorem ks_1_6 : (Cond.selects "InspectStepsModel" ⟨"InspectStepsModel", "differs", "(II)I"⟩ ⟨"InspectStepsModel", "differs", "(II)I"⟩) ∈ GW := gw_of (List.mem_append_left _ (List.mem_map.mpr ⟨(⟨"InspectStepsModel", "differs", "(II)I"⟩, 25), List.mem_append_right _ (List.mem_of_getElem? (i := 6) rfl), rfl⟩)) rfl
theorem ks_1_7 : (Cond.selects "InspectStepsModel" ⟨"InspectStepsModel", "great", "(IZ)I"⟩ ⟨"InspectStepsModel", "great", "(IZ)I"⟩) ∈ GW := gw_of (List.mem_append_left _ (List.mem_map.mpr ⟨(⟨"InspectStepsModel", "great", "(IZ)I"⟩, 25), List.mem_append_right _ (List.mem_of_getElem? (i := 7) rfl), rfl⟩)) rfl
theorem ks_1_8 : (Cond.selects "InspectStepsModel" ⟨"InspectStepsModel", "isOf", "(II)Z"⟩ ⟨"InspectStepsModel", "isOf", "(II)Z"⟩) ∈ GW := gw_of (List.mem_append_left _ (List.mem_map.mpr ⟨(⟨"InspectStepsModel", "isOf", "(II)Z"⟩, 25), List.mem_append_right _ (List.mem_of_getElem? (i := 8) rfl), rfl⟩)) rfl
theorem ks_1_9 : (Cond.selects "InspectStepsModel" ⟨"InspectStepsModel", "hasNoResult", "(I)Z"⟩ ⟨"InspectStepsModel", "hasNoResult", "(I)Z"⟩) ∈ GW := gw_of (List.mem_append_left _ (List.mem_map.mpr ⟨(⟨"InspectStepsModel", "hasNoResult", "(I)Z"⟩, 25), List.mem_append_right _ (List.mem_of_getElem? (i := 9) rfl), rfl⟩)) rfl
theorem ks_1_10 : (Cond.selects "InspectStepsModel" ⟨"InspectStepsModel", "samplesOf", "(I)I"⟩ ⟨"InspectStepsModel", "samplesOf", "(I)I"⟩) ∈ GW := gw_of (List.mem_append_left _ (List.mem_map.mpr ⟨(⟨"InspectStepsModel", "samplesOf", "(I)I"⟩, 25), List.mem_append_right _ (List.mem_of_getElem? (i := 10) rfl), rfl⟩)) rfl
theorem ks_1_11 : (Cond.selects "InspectStepsModel" ⟨"InspectStepsModel", "costsOf", "(I)I"⟩ ⟨"InspectStepsModel", "costsOf", "(I)I"⟩) ∈ GW := gw_of (List.mem_append_left _ (List.mem_map.mpr ⟨(⟨"InspectStepsModel", "costsOf", "(I)I"⟩, 25), List.mem_append_right _ (List.mem_of_getElem? (i := 11) rfl), rfl⟩)) rfl
set_option maxRecDepth 20000 in
theorem in_I : ∀ w ∈ u_ws R_I F_I 10, w ∈ GW := by
  rw [show u_ws R_I F_I 10 = [(Jvm.Cond.laysFinal "InspectSteps$Inspection" "InspectSteps$Inspection" "declaration" "I"), (Jvm.Cond.laysFinal "InspectSteps$Inspection" "InspectSteps$Inspection" "kind" "I"), (Jvm.Cond.laysFinal "InspectSteps$Inspection" "InspectSteps$Inspection" "due" "I"), (Jvm.Cond.lays "InspectSteps$Inspection" "InspectSteps$Inspection" "state" "I"), (Jvm.Cond.lays "InspectSteps$Inspection" "InspectSteps$Inspection" "level" "I"), (Jvm.Cond.lays "InspectSteps$Inspection" "InspectSteps$Inspection" "place" "I"), (Jvm.Cond.lays "InspectSteps$Inspection" "InspectSteps$Inspection" "from" "I"), (Jvm.Cond.lays "InspectSteps$Inspection" "InspectSteps$Inspection" "to" "I"), (Jvm.Cond.lays "InspectSteps$Inspection" "InspectSteps$Inspection" "person" "I"), (Jvm.Cond.lays "InspectSteps$Inspection" "InspectSteps$Inspection" "sampleCount" "I")] from rfl]
  exact List.forall_mem_cons.mpr ⟨kw_306, List.forall_mem_cons.mpr ⟨kw_308, List.forall_mem_cons.mpr ⟨kw_310, List.forall_mem_cons.mpr ⟨kw_312, List.forall_mem_cons.mpr ⟨kw_314, List.forall_mem_cons.mpr ⟨kw_316, List.forall_mem_cons.mpr ⟨kw_318, List.forall_mem_cons.mpr ⟨kw_320, List.forall_mem_cons.mpr ⟨kw_322, List.forall_mem_cons.mpr ⟨kw_324, fun _ h => nomatch h⟩⟩⟩⟩⟩⟩⟩⟩⟩⟩
set_option maxRecDepth 20000 in
theorem in_S : ∀ w ∈ u_ws R_S F_S 4, w ∈ GW := by
  rw [show u_ws R_S F_S 4 = [(Jvm.Cond.laysFinal "InspectSteps$Sample" "InspectSteps$Sample" "declaration" "I"), (Jvm.Cond.laysFinal "InspectSteps$Sample" "InspectSteps$Sample" "seal" "I"), (Jvm.Cond.laysFinal "InspectSteps$Sample" "InspectSteps$Sample" "found" "[I"), (Jvm.Cond.laysFinal "InspectSteps$Sample" "InspectSteps$Sample" "settled" "[Z")] from rfl]
  exact List.forall_mem_cons.mpr ⟨kw_477, List.forall_mem_cons.mpr ⟨kw_479, List.forall_mem_cons.mpr ⟨kw_481, List.forall_mem_cons.mpr ⟨kw_483, fun _ h => nomatch h⟩⟩⟩⟩
set_option maxRecDepth 20000 in
theorem in_C : ∀ w ∈ u_ws R_C F_C 10, w ∈ GW := by
  rw [show u_ws R_C F_C 10 = [(Jvm.Cond.laysFinal "InspectSteps" "InspectSteps" "inspections" "Ljava/util/ArrayList;"), (Jvm.Cond.laysFinal "InspectSteps" "InspectSteps" "samples" "Ljava/util/ArrayList;"), (Jvm.Cond.laysFinal "InspectSteps" "InspectSteps" "rights" "[I"), (Jvm.Cond.laysFinal "InspectSteps" "InspectSteps" "sealNumbers" "[I"), (Jvm.Cond.laysFinal "InspectSteps" "InspectSteps" "holders" "[I"), (Jvm.Cond.laysFinal "InspectSteps" "InspectSteps" "costs" "[I"), (Jvm.Cond.laysFinal "InspectSteps" "InspectSteps" "declaredValues" "[[I"), (Jvm.Cond.laysFinal "InspectSteps" "InspectSteps" "thousandthsUp" "[I"), (Jvm.Cond.laysFinal "InspectSteps" "InspectSteps" "thousandthsDown" "[I"), (Jvm.Cond.lays "InspectSteps" "InspectSteps" "now" "I")] from rfl]
  exact List.forall_mem_cons.mpr ⟨kw_69, List.forall_mem_cons.mpr ⟨kw_71, List.forall_mem_cons.mpr ⟨kw_73, List.forall_mem_cons.mpr ⟨kw_75, List.forall_mem_cons.mpr ⟨kw_77, List.forall_mem_cons.mpr ⟨kw_79, List.forall_mem_cons.mpr ⟨kw_81, List.forall_mem_cons.mpr ⟨kw_83, List.forall_mem_cons.mpr ⟨kw_85, List.forall_mem_cons.mpr ⟨kw_87, fun _ h => nomatch h⟩⟩⟩⟩⟩⟩⟩⟩⟩⟩
set_option maxRecDepth 20000 in
theorem in_M : ∀ w ∈ u_ws R_M F_M 25, w ∈ GW := by
  rw [show u_ws R_M F_M 25 = [(Jvm.Cond.lays "InspectStepsModel" "InspectStepsModel" "thrown" "I"), (Jvm.Cond.lays "InspectStepsModel" "InspectStepsModel" "size" "I"), (Jvm.Cond.lays "InspectStepsModel" "InspectStepsModel" "samples" "I"), (Jvm.Cond.lays "InspectStepsModel" "InspectStepsModel" "now" "I"), (Jvm.Cond.laysFinal "InspectStepsModel" "InspectStepsModel" "rights" "[Z"), (Jvm.Cond.laysFinal "InspectStepsModel" "InspectStepsModel" "ofDeclaration" "[I"), (Jvm.Cond.laysFinal "InspectStepsModel" "InspectStepsModel" "kindOf" "[I"), (Jvm.Cond.laysFinal "InspectStepsModel" "InspectStepsModel" "dueOf" "[I"), (Jvm.Cond.laysFinal "InspectStepsModel" "InspectStepsModel" "stateOf" "[I"), (Jvm.Cond.laysFinal "InspectStepsModel" "InspectStepsModel" "levelOf" "[I"), (Jvm.Cond.laysFinal "InspectStepsModel" "InspectStepsModel" "placeOf" "[I"), (Jvm.Cond.laysFinal "InspectStepsModel" "InspectStepsModel" "fromOf" "[I"), (Jvm.Cond.laysFinal "InspectStepsModel" "InspectStepsModel" "toOf" "[I"), (Jvm.Cond.laysFinal "InspectStepsModel" "InspectStepsModel" "byOf" "[I"), (Jvm.Cond.laysFinal "InspectStepsModel" "InspectStepsModel" "begunOf" "[I"), (Jvm.Cond.laysFinal "InspectStepsModel" "InspectStepsModel" "sealOf" "[I"), (Jvm.Cond.laysFinal "InspectStepsModel" "InspectStepsModel" "isBroken" "[Z"), (Jvm.Cond.laysFinal "InspectStepsModel" "InspectStepsModel" "holdsOf" "[I"), (Jvm.Cond.laysFinal "InspectStepsModel" "InspectStepsModel" "declaredOf" "[I"), (Jvm.Cond.laysFinal "InspectStepsModel" "InspectStepsModel" "sampleOf" "[I"), (Jvm.Cond.laysFinal "InspectStepsModel" "InspectStepsModel" "sampleSeal" "[I"), (Jvm.Cond.laysFinal "InspectStepsModel" "InspectStepsModel" "foundOf" "[I"), (Jvm.Cond.laysFinal "InspectStepsModel" "InspectStepsModel" "isSettled" "[Z"), (Jvm.Cond.laysFinal "InspectStepsModel" "InspectStepsModel" "upOf" "[I"), (Jvm.Cond.laysFinal "InspectStepsModel" "InspectStepsModel" "downOf" "[I")] from rfl]
  exact List.forall_mem_cons.mpr ⟨kw_606, List.forall_mem_cons.mpr ⟨kw_608, List.forall_mem_cons.mpr ⟨kw_610, List.forall_mem_cons.mpr ⟨kw_612, List.forall_mem_cons.mpr ⟨kw_614, List.forall_mem_cons.mpr ⟨kw_616, List.forall_mem_cons.mpr ⟨kw_618, List.forall_mem_cons.mpr ⟨kw_620, List.forall_mem_cons.mpr ⟨kw_622, List.forall_mem_cons.mpr ⟨kw_624, List.forall_mem_cons.mpr ⟨kw_626, List.forall_mem_cons.mpr ⟨kw_628, List.forall_mem_cons.mpr ⟨kw_630, List.forall_mem_cons.mpr ⟨kw_632, List.forall_mem_cons.mpr ⟨kw_634, List.forall_mem_cons.mpr ⟨kw_636, List.forall_mem_cons.mpr ⟨kw_638, List.forall_mem_cons.mpr ⟨kw_640, List.forall_mem_cons.mpr ⟨kw_642, List.forall_mem_cons.mpr ⟨kw_644, List.forall_mem_cons.mpr ⟨kw_646, List.forall_mem_cons.mpr ⟨kw_648, List.forall_mem_cons.mpr ⟨kw_650, List.forall_mem_cons.mpr ⟨kw_652, List.forall_mem_cons.mpr ⟨kw_654, fun _ h => nomatch h⟩⟩⟩⟩⟩⟩⟩⟩⟩⟩⟩⟩⟩⟩⟩⟩⟩⟩⟩⟩⟩⟩⟩⟩⟩
set_option maxRecDepth 20000 in
theorem in_Al : ∀ w ∈ u_ws R_Al F_Al 3, w ∈ GW := by
  rw [show u_ws R_Al F_Al 3 = [(Jvm.Cond.lays "java/util/ArrayList" "java/util/ArrayList" "elementData" "[Ljava/lang/Object;"), (Jvm.Cond.lays "java/util/ArrayList" "java/util/ArrayList" "size" "I"), (Jvm.Cond.lays "java/util/ArrayList" "java/util/AbstractList" "modCount" "I")] from rfl]
  exact List.forall_mem_cons.mpr ⟨kw_47, List.forall_mem_cons.mpr ⟨kw_49, List.forall_mem_cons.mpr ⟨kw_51, fun _ h => nomatch h⟩⟩⟩
theorem gw_V {c0 : Cond} {own C : String} {idx n : Nat} {y : MethodName} {b : ByteArray} {r : Option FieldType} (h1 : Cond.methodLink own idx y ∈ GW) (h2 : Cond.instanceMethod y ∈ GW) (h3 : Cond.selects C y y ∈ GW) (h4 : Cond.initialized C ∈ GW) (h5 : Cond.code y b n r ∈ GW) : GoodIn (c0 :: GW) (wsV own idx C y (Cond.code y b n r :: GW)) := by
  have hg : ∀ w ∈ wsV own idx C y (Cond.code y b n r :: GW), w ∈ GW := by
    intro w hw
    simp only [wsV, List.cons_append, List.nil_append, List.mem_cons] at hw
    rcases hw with rfl | rfl | rfl | rfl | rfl | h
    · exact h1
    · exact h2
    · exact h3
    · exact h4
    · exact h5
    · exact h
  exact fun w hw => ⟨List.mem_cons_of_mem _ (hg w hw), good_of_word (GW_good w (hg w hw))⟩
theorem gw_S {c0 : Cond} {own : String} {idx n : Nat} {y : MethodName} {b : ByteArray} {r : Option FieldType} (h1 : Cond.methodLink own idx y ∈ GW) (h2 : Cond.static y ∈ GW) (h4 : Cond.initialized y.cls ∈ GW) (h5 : Cond.code y b n r ∈ GW) : GoodIn (c0 :: GW) (va_wsS own idx y (Cond.code y b n r :: GW)) := by
  have hg : ∀ w ∈ va_wsS own idx y (Cond.code y b n r :: GW), w ∈ GW := by
    intro w hw
    simp only [va_wsS, List.cons_append, List.nil_append, List.mem_cons] at hw
    rcases hw with rfl | rfl | rfl | rfl | h
    · exact h1
    · exact h2
    · exact h4
    · exact h5
    · exact h
  exact fun w hw => ⟨List.mem_cons_of_mem _ (hg w hw), good_of_word (GW_good w (hg w hw))⟩
theorem gw_I {c0 : Cond} {n : Nat} {y : MethodName} {b : ByteArray} {r : Option FieldType} (h5 : Cond.code y b n r ∈ GW) : GoodIn (c0 :: GW) (Cond.code y b n r :: GW) := by
  have hg : ∀ w ∈ (Cond.code y b n r :: GW), w ∈ GW := fun w hw => (List.mem_cons.mp hw).elim (fun q => q ▸ h5) id
  exact fun w hw => ⟨List.mem_cons_of_mem _ (hg w hw), good_of_word (GW_good w (hg w hw))⟩
end
section
theorem i32_eq {x y : Int32} : x = y ↔ x.toInt = y.toInt := Int32.toInt_inj.symm
theorem i32_lt {x y : Int32} : x < y ↔ x.toInt < y.toInt := Int32.lt_iff_toInt_lt
theorem i32_le {x y : Int32} : x ≤ y ↔ x.toInt ≤ y.toInt := Int32.le_iff_toInt_le
theorem i32_nm1 : ((-1 : Int32)).toInt = -1 := by decide
theorem i32_n0 : ((0 : Int32)).toInt = 0 := by decide
theorem i32_n1 : ((1 : Int32)).toInt = 1 := by decide
theorem i32_n2 : ((2 : Int32)).toInt = 2 := by decide
theorem i32_n3 : ((3 : Int32)).toInt = 3 := by decide
theorem i32_n4 : ((4 : Int32)).toInt = 4 := by decide
theorem i32_n5 : ((5 : Int32)).toInt = 5 := by decide
theorem i32_n6 : ((6 : Int32)).toInt = 6 := by decide
theorem i32_n7 : ((7 : Int32)).toInt = 7 := by decide
theorem i32_n8 : ((8 : Int32)).toInt = 8 := by decide
theorem i32_n9 : ((9 : Int32)).toInt = 9 := by decide
theorem i32_n10 : ((10 : Int32)).toInt = 10 := by decide
theorem i32_n20 : ((20 : Int32)).toInt = 20 := by decide
theorem i32_n30 : ((30 : Int32)).toInt = 30 := by decide
theorem i32_n31 : ((31 : Int32)).toInt = 31 := by decide
theorem i32_n39 : ((39 : Int32)).toInt = 39 := by decide
theorem i32_n40 : ((40 : Int32)).toInt = 40 := by decide
theorem i32_n49 : ((49 : Int32)).toInt = 49 := by decide
theorem i32_n50 : ((50 : Int32)).toInt = 50 := by decide
theorem i32_n100 : ((100 : Int32)).toInt = 100 := by decide
theorem i32_n160 : ((160 : Int32)).toInt = 160 := by decide
theorem i32_n1000 : ((1000 : Int32)).toInt = 1000 := by decide
theorem i32_n100000 : ((100000 : Int32)).toInt = 100000 := by decide
theorem i32_n1000000 : ((1000000 : Int32)).toInt = 1000000 := by decide
theorem i32_n2147483639 : ((2147483639 : Int32)).toInt = 2147483639 := by decide
noncomputable def b2i (P : Prop) : Int32 := @ite _ P (Classical.propDecidable P) 1 0
theorem b2i_t {P : Prop} (h : P) : b2i P = 1 := if_pos h
theorem b2i_f {P : Prop} (h : ¬ P) : b2i P = 0 := if_neg h
theorem b2i_iff {P Q : Prop} (h : P ↔ Q) : b2i P = b2i Q := by rw [propext h]
theorem b2i_eq0 {P : Prop} : b2i P = 0 ↔ ¬ P := by
  by_cases p : P
  · rw [b2i_t p]; exact ⟨fun h => absurd h (by decide), fun h => absurd p h⟩
  · rw [b2i_f p]; exact ⟨fun _ => p, fun _ => rfl⟩
theorem b2i_nar (P : Prop) : narrow .boolean (.int (b2i P)) = .int (b2i P) := by
  by_cases h : P
  · rw [b2i_t h]; rfl
  · rw [b2i_f h]; rfl
theorem nI_exit {z n : Nat} (h : z ≤ n) (c : nI n ≤ nI z) (hn : n < 2 ^ 31) : z = n := by
  have := (nI_leI hn (by omega)).mp c
  omega
theorem nI_go {z n : Nat} (h : z ≤ n) (c : ¬ nI n ≤ nI z) (hn : n < 2 ^ 31) : z < n := by
  rcases Nat.lt_or_ge z n with q | q
  · exact q
  · exact absurd (nI_le q (by omega)) c
end
section
abbrev cls_ : List vw_C := [(R_Al, F_Al, 3), (R_C, F_C, 10), (R_I, F_I, 10), (R_S, F_S, 4), (R_M, F_M, 25)]
/-- a reader's start: the cells ws, the tables -/
abbrev rd_B (D : va_G) (tys : List (ClassId × FieldType)) (ws : va_W) : State → Prop := fun U => va_P D cls_ ws U.heap ∧ va_K D cls_ tys U
theorem rd_blind {D : va_G} {tys : List (ClassId × FieldType)} {ws : va_W} {av : List Value} : FrameBlind (va_Pc av (rd_B D tys ws)) := fun a U g mk q => by
  obtain ⟨q0, qP, qK⟩ := q
  exact ⟨q0, qP, va_K.moved (u := U) (U := U.calling g mk a) (Vm.Alike.refl U.vm) qK⟩
theorem rd_pre {D : va_G} {tys : List (ClassId × FieldType)} {ws : va_W} {s : State} {H : Heap} {av : List Value} (hP : va_P D cls_ ws H) (hK : va_K D cls_ tys s) : ∀ U : State, U.heap = H → s.WarmedH U.vm → va_Pc av (rd_B D tys ws) av.toArray U := fun U hU hW => ⟨rfl, by rw [hU]; exact hP, va_K.moved hW.alike hK⟩
theorem rd_V {D : va_G} {tys : List (ClassId × FieldType)} {ws : va_W} {s : State} {H : Heap} {C : String} {b : Nat} {As : List Value} (hP : va_P D cls_ ws H) (hK : va_K D cls_ tys s) (hr : ∃ cell : Cell, H[b]? = some cell ∧ cell.vm.isStatics = false ∧ s.vm.findClass C = some cell.cls) : PreV s H C b (va_Pc (.ref b :: As) (rd_B D tys ws)) As := ⟨rd_blind, hr, rd_pre hP hK⟩
theorem rd_S {D : va_G} {tys : List (ClassId × FieldType)} {ws : va_W} {s : State} {H : Heap} {As : List Value} (hP : va_P D cls_ ws H) (hK : va_K D cls_ tys s) : PreS s H (va_Pc As (rd_B D tys ws)) As := ⟨rd_blind, rd_pre hP hK⟩
/-- one cell out of a world by roles -/
theorem rl_one {D : va_G} {cl : List vw_C} {H : Heap} {Rl : List Nat} {ad : Nat → Nat} {g : Nat → va_E} {r : Nat} {x : va_E} (hP : va_P D cl (rl_w Rl ad g) H) (hr : r ∈ Rl) (hg : g r = x) : va_P D cl [(ad r, x)] H := by
  obtain ⟨j, hj, hj'⟩ := rl_at (ad := ad) (g := g) hr
  rw [hg] at hj'
  intro k q hk
  have h0 : k = 0 := by
    have := (List.getElem?_eq_some_iff.mp hk).1
    simp at this
    exact this
  subst h0
  cases hk
  exact hP j _ hj'
end
section
set_option maxHeartbeats 4000000 in
set_option maxRecDepth 100000 in
theorem c_C_isWithin (l : Launch) (p0 p1 p2 : Int32) : Met l y_C_isWithin (Cond.code y_C_isWithin b_C_isWithin 3 (some .boolean) :: GW) ({ frames := 0, cells := 0, slots := 0, locals := 0 }) (va_Pc [.int p0, .int p1, .int p2] (fun _ => True)) (vp_Si (fun r => r = b2i (p1 ≤ p0 ∧ p0 ≤ p2))) 0 0 (fun _ => False) := by
  refine Met.ofW (cc := b_C_isWithin) (maxL := 3) (ret := (some .boolean)) (by decide) rfl ?_
  intro p e s m args below meth c s₁ B hml hv
  obtain ⟨rfl, -⟩ := hv
  have hx := B.exec
  have hb := B.bytes
  have hr := B.returns
  have hts := atoms_spec (ws := Cond.code y_C_isWithin b_C_isWithin 3 (some .boolean) :: GW) B.pre
  have hG : ∀ w ∈ GW, w.before _ s = true := fun w h => hts w (List.mem_cons_of_mem _ h)
  have hown : s.vm.findClass R_C = some m.cls := findClass_of_methodNamed B.named
  have hlocks := B.notSynchronized
  have hl := lv_entry ([.int p0, .int p1, .int p2]) (n := 3) (Nat.le_of_ble_eq_true rfl)
  rw [lg_entry_eq]
  generalize (lg_sl ([.int p0, .int p1, .int p2]) ++ List.replicate (3 - (lg_sl ([.int p0, .int p1, .int p2])).length) Slot.unset).toArray = ls at hl ⊢
  have hl : lv_has ls 3 [(0, .int p0), (1, .int p1), (2, .int p2)] := hl
  refine lv_iload_n hx hb d_C_isWithin_0 rfl (lv_at hl 1 rfl) ?_
  refine lv_iload_n hx hb d_C_isWithin_1 rfl (lv_at hl 0 rfl) ?_
  refine lv_icmp_gt (tgt := 14) hx hb d_C_isWithin_2 (by decide) (fun c_1 => ?_) (fun c_1 => ?_)
  · refine lv_iconst (v := 0) hx hb d_C_isWithin_14 (by decide) ?_
    exact W.zret (v := 0) (ty := .boolean) hx hb hr (by rfl) (fun t ht hW => ⟨0, rfl, (b2i_f (by ((try simp only [b2i_eq0, Classical.not_not] at c_1); simp only [i32_eq, i32_lt, i32_le, i32_nm1, i32_n0, i32_n1, i32_n2, i32_n3, i32_n4, i32_n5, i32_n6, i32_n7, i32_n8, i32_n9, i32_n10, i32_n20, i32_n30, i32_n31, i32_n39, i32_n40, i32_n49, i32_n50, i32_n100, i32_n160, i32_n1000, i32_n100000, i32_n1000000] at c_1 ⊢; omega))).symm, ht⟩) (fun q h => nomatch h) d_C_isWithin_15
  · refine lv_iload_n hx hb d_C_isWithin_5 rfl (lv_at hl 0 rfl) ?_
    refine lv_iload_n hx hb d_C_isWithin_6 rfl (lv_at hl 2 rfl) ?_
    refine lv_icmp_gt (tgt := 14) hx hb d_C_isWithin_7 (by decide) (fun c_2 => ?_) (fun c_2 => ?_)
    · refine lv_iconst (v := 0) hx hb d_C_isWithin_14 (by decide) ?_
      exact W.zret (v := 0) (ty := .boolean) hx hb hr (by rfl) (fun t ht hW => ⟨0, rfl, (b2i_f (by ((try simp only [b2i_eq0, Classical.not_not] at c_1 c_2); simp only [i32_eq, i32_lt, i32_le, i32_nm1, i32_n0, i32_n1, i32_n2, i32_n3, i32_n4, i32_n5, i32_n6, i32_n7, i32_n8, i32_n9, i32_n10, i32_n20, i32_n30, i32_n31, i32_n39, i32_n40, i32_n49, i32_n50, i32_n100, i32_n160, i32_n1000, i32_n100000, i32_n1000000] at c_1 c_2 ⊢; omega))).symm, ht⟩) (fun q h => nomatch h) d_C_isWithin_15
    · refine lv_iconst (v := 1) hx hb d_C_isWithin_10 (by decide) ?_
      refine lv_goto (tgt := 15) hx hb d_C_isWithin_11 (by decide) ?_
      exact W.zret (v := 1) (ty := .boolean) hx hb hr (by rfl) (fun t ht hW => ⟨1, rfl, (b2i_t (by ((try simp only [b2i_eq0, Classical.not_not] at c_1 c_2); simp only [i32_eq, i32_lt, i32_le, i32_nm1, i32_n0, i32_n1, i32_n2, i32_n3, i32_n4, i32_n5, i32_n6, i32_n7, i32_n8, i32_n9, i32_n10, i32_n20, i32_n30, i32_n31, i32_n39, i32_n40, i32_n49, i32_n50, i32_n100, i32_n160, i32_n1000, i32_n100000, i32_n1000000] at c_1 c_2 ⊢; omega))).symm, ht⟩) (fun q h => nomatch h) d_C_isWithin_15
set_option maxHeartbeats 4000000 in
set_option maxRecDepth 100000 in
theorem c_C_isDeclaration (l : Launch) (p0 : Int32) : Met l y_C_isDeclaration (Cond.code y_C_isDeclaration b_C_isDeclaration 1 (some .boolean) :: GW) ({ frames := 1, cells := 0, slots := 0, locals := 32 }) (va_Pc [.int p0] (fun _ => True)) (vp_Si (fun r => r = b2i (0 ≤ p0 ∧ p0 ≤ 9))) 0 0 (fun _ => False) := by
  refine Met.ofW (cc := b_C_isDeclaration) (maxL := 1) (ret := (some .boolean)) (by decide) rfl ?_
  intro p e s m args below meth c s₁ B hml hv
  obtain ⟨rfl, -⟩ := hv
  have hx := B.exec
  have hb := B.bytes
  have hr := B.returns
  have hts := atoms_spec (ws := Cond.code y_C_isDeclaration b_C_isDeclaration 1 (some .boolean) :: GW) B.pre
  have hG : ∀ w ∈ GW, w.before _ s = true := fun w h => hts w (List.mem_cons_of_mem _ h)
  have hown : s.vm.findClass R_C = some m.cls := findClass_of_methodNamed B.named
  have hlocks := B.notSynchronized
  have hl := lv_entry ([.int p0]) (n := 1) (Nat.le_of_ble_eq_true rfl)
  rw [lg_entry_eq]
  generalize (lg_sl ([.int p0]) ++ List.replicate (1 - (lg_sl ([.int p0])).length) Slot.unset).toArray = ls at hl ⊢
  have hl : lv_has ls 1 [(0, .int p0)] := hl
  refine lv_iload_n hx hb d_C_isDeclaration_0 rfl (lv_at hl 0 rfl) ?_
  refine lv_iconst (v := 0) hx hb d_C_isDeclaration_1 (by decide) ?_
  refine lv_bipush (v := 9) hx hb d_C_isDeclaration_2 (by decide) ?_
  refine vp_callSi (W.runS (As := [.int p0, .int 0, .int 9]) (rest := []) ⟨hx, hb, hml, hown, hts⟩ (c_C_isWithin l p0 0 9) (va_cwS 3 hts (gw_S kw_98 kw_99 kw_1 kw_100) rfl rfl rfl (by decide +kernel) ⟨Nat.le_of_ble_eq_true rfl, Nat.le_of_ble_eq_true rfl⟩) ⟨fun _ _ _ _ q => q, fun U _ _ => ⟨rfl, trivial⟩⟩ rfl rfl hl.1 rfl (lv_room (Nat.le_of_ble_eq_true rfl)) d_C_isDeclaration_4 ⟨Nat.zero_le _, Nat.zero_le _⟩) (fun r_1 h_2 => ?_)
  subst h_2
  exact W.zret (v := b2i (0 ≤ p0 ∧ p0 ≤ 9)) (ty := .boolean) hx hb hr (b2i_nar _) (fun t ht hW => ⟨b2i (0 ≤ p0 ∧ p0 ≤ 9), rfl, rfl, ht⟩) (fun q h => nomatch h) d_C_isDeclaration_7
set_option maxHeartbeats 4000000 in
set_option maxRecDepth 100000 in
theorem c_C_isPerson (l : Launch) (p0 : Int32) : Met l y_C_isPerson (Cond.code y_C_isPerson b_C_isPerson 1 (some .boolean) :: GW) ({ frames := 1, cells := 0, slots := 0, locals := 32 }) (va_Pc [.int p0] (fun _ => True)) (vp_Si (fun r => r = b2i (0 ≤ p0 ∧ p0 ≤ 9))) 0 0 (fun _ => False) := by
  refine Met.ofW (cc := b_C_isPerson) (maxL := 1) (ret := (some .boolean)) (by decide) rfl ?_
  intro p e s m args below meth c s₁ B hml hv
  obtain ⟨rfl, -⟩ := hv
  have hx := B.exec
  have hb := B.bytes
  have hr := B.returns
  have hts := atoms_spec (ws := Cond.code y_C_isPerson b_C_isPerson 1 (some .boolean) :: GW) B.pre
  have hG : ∀ w ∈ GW, w.before _ s = true := fun w h => hts w (List.mem_cons_of_mem _ h)
  have hown : s.vm.findClass R_C = some m.cls := findClass_of_methodNamed B.named
  have hlocks := B.notSynchronized
  have hl := lv_entry ([.int p0]) (n := 1) (Nat.le_of_ble_eq_true rfl)
  rw [lg_entry_eq]
  generalize (lg_sl ([.int p0]) ++ List.replicate (1 - (lg_sl ([.int p0])).length) Slot.unset).toArray = ls at hl ⊢
  have hl : lv_has ls 1 [(0, .int p0)] := hl
  refine lv_iload_n hx hb d_C_isPerson_0 rfl (lv_at hl 0 rfl) ?_
  refine lv_iconst (v := 0) hx hb d_C_isPerson_1 (by decide) ?_
  refine lv_bipush (v := 9) hx hb d_C_isPerson_2 (by decide) ?_
  refine vp_callSi (W.runS (As := [.int p0, .int 0, .int 9]) (rest := []) ⟨hx, hb, hml, hown, hts⟩ (c_C_isWithin l p0 0 9) (va_cwS 3 hts (gw_S kw_98 kw_99 kw_1 kw_100) rfl rfl rfl (by decide +kernel) ⟨Nat.le_of_ble_eq_true rfl, Nat.le_of_ble_eq_true rfl⟩) ⟨fun _ _ _ _ q => q, fun U _ _ => ⟨rfl, trivial⟩⟩ rfl rfl hl.1 rfl (lv_room (Nat.le_of_ble_eq_true rfl)) d_C_isPerson_4 ⟨Nat.zero_le _, Nat.zero_le _⟩) (fun r_1 h_2 => ?_)
  subst h_2
  exact W.zret (v := b2i (0 ≤ p0 ∧ p0 ≤ 9)) (ty := .boolean) hx hb hr (b2i_nar _) (fun t ht hW => ⟨b2i (0 ≤ p0 ∧ p0 ≤ 9), rfl, rfl, ht⟩) (fun q h => nomatch h) d_C_isPerson_7
set_option maxHeartbeats 4000000 in
set_option maxRecDepth 100000 in
theorem c_C_isMeasure (l : Launch) (p0 : Int32) : Met l y_C_isMeasure (Cond.code y_C_isMeasure b_C_isMeasure 1 (some .boolean) :: GW) ({ frames := 1, cells := 0, slots := 0, locals := 32 }) (va_Pc [.int p0] (fun _ => True)) (vp_Si (fun r => r = b2i (0 ≤ p0 ∧ p0 ≤ 3))) 0 0 (fun _ => False) := by
  refine Met.ofW (cc := b_C_isMeasure) (maxL := 1) (ret := (some .boolean)) (by decide) rfl ?_
  intro p e s m args below meth c s₁ B hml hv
  obtain ⟨rfl, -⟩ := hv
  have hx := B.exec
  have hb := B.bytes
  have hr := B.returns
  have hts := atoms_spec (ws := Cond.code y_C_isMeasure b_C_isMeasure 1 (some .boolean) :: GW) B.pre
  have hG : ∀ w ∈ GW, w.before _ s = true := fun w h => hts w (List.mem_cons_of_mem _ h)
  have hown : s.vm.findClass R_C = some m.cls := findClass_of_methodNamed B.named
  have hlocks := B.notSynchronized
  have hl := lv_entry ([.int p0]) (n := 1) (Nat.le_of_ble_eq_true rfl)
  rw [lg_entry_eq]
  generalize (lg_sl ([.int p0]) ++ List.replicate (1 - (lg_sl ([.int p0])).length) Slot.unset).toArray = ls at hl ⊢
  have hl : lv_has ls 1 [(0, .int p0)] := hl
  refine lv_iload_n hx hb d_C_isMeasure_0 rfl (lv_at hl 0 rfl) ?_
  refine lv_iconst (v := 0) hx hb d_C_isMeasure_1 (by decide) ?_
  refine lv_iconst (v := 3) hx hb d_C_isMeasure_2 (by decide) ?_
  refine vp_callSi (W.runS (As := [.int p0, .int 0, .int 3]) (rest := []) ⟨hx, hb, hml, hown, hts⟩ (c_C_isWithin l p0 0 3) (va_cwS 3 hts (gw_S kw_98 kw_99 kw_1 kw_100) rfl rfl rfl (by decide +kernel) ⟨Nat.le_of_ble_eq_true rfl, Nat.le_of_ble_eq_true rfl⟩) ⟨fun _ _ _ _ q => q, fun U _ _ => ⟨rfl, trivial⟩⟩ rfl rfl hl.1 rfl (lv_room (Nat.le_of_ble_eq_true rfl)) d_C_isMeasure_3 ⟨Nat.zero_le _, Nat.zero_le _⟩) (fun r_1 h_2 => ?_)
  subst h_2
  exact W.zret (v := b2i (0 ≤ p0 ∧ p0 ≤ 3)) (ty := .boolean) hx hb hr (b2i_nar _) (fun t ht hW => ⟨b2i (0 ≤ p0 ∧ p0 ≤ 3), rfl, rfl, ht⟩) (fun q h => nomatch h) d_C_isMeasure_6
set_option maxHeartbeats 4000000 in
set_option maxRecDepth 100000 in
theorem c_C_isSeal (l : Launch) (p0 : Int32) : Met l y_C_isSeal (Cond.code y_C_isSeal b_C_isSeal 1 (some .boolean) :: GW) ({ frames := 1, cells := 0, slots := 0, locals := 32 }) (va_Pc [.int p0] (fun _ => True)) (vp_Si (fun r => r = b2i (1 ≤ p0 ∧ p0 ≤ 1000000))) 0 0 (fun _ => False) := by
  refine Met.ofW (cc := b_C_isSeal) (maxL := 1) (ret := (some .boolean)) (by decide) rfl ?_
  intro p e s m args below meth c s₁ B hml hv
  obtain ⟨rfl, -⟩ := hv
  have hx := B.exec
  have hb := B.bytes
  have hr := B.returns
  have hts := atoms_spec (ws := Cond.code y_C_isSeal b_C_isSeal 1 (some .boolean) :: GW) B.pre
  have hG : ∀ w ∈ GW, w.before _ s = true := fun w h => hts w (List.mem_cons_of_mem _ h)
  have hown : s.vm.findClass R_C = some m.cls := findClass_of_methodNamed B.named
  have hlocks := B.notSynchronized
  have hl := lv_entry ([.int p0]) (n := 1) (Nat.le_of_ble_eq_true rfl)
  rw [lg_entry_eq]
  generalize (lg_sl ([.int p0]) ++ List.replicate (1 - (lg_sl ([.int p0])).length) Slot.unset).toArray = ls at hl ⊢
  have hl : lv_has ls 1 [(0, .int p0)] := hl
  refine lv_iload_n hx hb d_C_isSeal_0 rfl (lv_at hl 0 rfl) ?_
  refine lv_iconst (v := 1) hx hb d_C_isSeal_1 (by decide) ?_
  refine lv_ldcw (v := 1000000) hx hb hown (hG _ kw_152) d_C_isSeal_2 ?_
  refine vp_callSi (W.runS (As := [.int p0, .int 1, .int 1000000]) (rest := []) ⟨hx, hb, hml, hown, hts⟩ (c_C_isWithin l p0 1 1000000) (va_cwS 3 hts (gw_S kw_98 kw_99 kw_1 kw_100) rfl rfl rfl (by decide +kernel) ⟨Nat.le_of_ble_eq_true rfl, Nat.le_of_ble_eq_true rfl⟩) ⟨fun _ _ _ _ q => q, fun U _ _ => ⟨rfl, trivial⟩⟩ rfl rfl hl.1 rfl (lv_room (Nat.le_of_ble_eq_true rfl)) d_C_isSeal_5 ⟨Nat.zero_le _, Nat.zero_le _⟩) (fun r_1 h_2 => ?_)
  subst h_2
  exact W.zret (v := b2i (1 ≤ p0 ∧ p0 ≤ 1000000)) (ty := .boolean) hx hb hr (b2i_nar _) (fun t ht hW => ⟨b2i (1 ≤ p0 ∧ p0 ≤ 1000000), rfl, rfl, ht⟩) (fun q h => nomatch h) d_C_isSeal_8
set_option maxHeartbeats 4000000 in
set_option maxRecDepth 100000 in
theorem c_C_isValue (l : Launch) (p0 : Int32) : Met l y_C_isValue (Cond.code y_C_isValue b_C_isValue 1 (some .boolean) :: GW) ({ frames := 1, cells := 0, slots := 0, locals := 32 }) (va_Pc [.int p0] (fun _ => True)) (vp_Si (fun r => r = b2i (0 ≤ p0 ∧ p0 ≤ 1000000))) 0 0 (fun _ => False) := by
  refine Met.ofW (cc := b_C_isValue) (maxL := 1) (ret := (some .boolean)) (by decide) rfl ?_
  intro p e s m args below meth c s₁ B hml hv
  obtain ⟨rfl, -⟩ := hv
  have hx := B.exec
  have hb := B.bytes
  have hr := B.returns
  have hts := atoms_spec (ws := Cond.code y_C_isValue b_C_isValue 1 (some .boolean) :: GW) B.pre
  have hG : ∀ w ∈ GW, w.before _ s = true := fun w h => hts w (List.mem_cons_of_mem _ h)
  have hown : s.vm.findClass R_C = some m.cls := findClass_of_methodNamed B.named
  have hlocks := B.notSynchronized
  have hl := lv_entry ([.int p0]) (n := 1) (Nat.le_of_ble_eq_true rfl)
  rw [lg_entry_eq]
  generalize (lg_sl ([.int p0]) ++ List.replicate (1 - (lg_sl ([.int p0])).length) Slot.unset).toArray = ls at hl ⊢
  have hl : lv_has ls 1 [(0, .int p0)] := hl
  refine lv_iload_n hx hb d_C_isValue_0 rfl (lv_at hl 0 rfl) ?_
  refine lv_iconst (v := 0) hx hb d_C_isValue_1 (by decide) ?_
  refine lv_ldcw (v := 1000000) hx hb hown (hG _ kw_152) d_C_isValue_2 ?_
  refine vp_callSi (W.runS (As := [.int p0, .int 0, .int 1000000]) (rest := []) ⟨hx, hb, hml, hown, hts⟩ (c_C_isWithin l p0 0 1000000) (va_cwS 3 hts (gw_S kw_98 kw_99 kw_1 kw_100) rfl rfl rfl (by decide +kernel) ⟨Nat.le_of_ble_eq_true rfl, Nat.le_of_ble_eq_true rfl⟩) ⟨fun _ _ _ _ q => q, fun U _ _ => ⟨rfl, trivial⟩⟩ rfl rfl hl.1 rfl (lv_room (Nat.le_of_ble_eq_true rfl)) d_C_isValue_5 ⟨Nat.zero_le _, Nat.zero_le _⟩) (fun r_1 h_2 => ?_)
  subst h_2
  exact W.zret (v := b2i (0 ≤ p0 ∧ p0 ≤ 1000000)) (ty := .boolean) hx hb hr (b2i_nar _) (fun t ht hW => ⟨b2i (0 ≤ p0 ∧ p0 ≤ 1000000), rfl, rfl, ht⟩) (fun q h => nomatch h) d_C_isValue_8
set_option maxHeartbeats 4000000 in
set_option maxRecDepth 100000 in
theorem c_C_hasBit (l : Launch) (p0 p1 : Int32) : Met l y_C_hasBit (Cond.code y_C_hasBit b_C_hasBit 2 (some .boolean) :: GW) ({ frames := 0, cells := 0, slots := 0, locals := 0 }) (va_Pc [.int p0, .int p1] (fun _ => True)) (vp_Si (fun r => r = b2i (p0 >>> (p1 &&& 31) &&& 1 = 1))) 0 0 (fun _ => False) := by
  refine Met.ofW (cc := b_C_hasBit) (maxL := 2) (ret := (some .boolean)) (by decide) rfl ?_
  intro p e s m args below meth c s₁ B hml hv
  obtain ⟨rfl, -⟩ := hv
  have hx := B.exec
  have hb := B.bytes
  have hr := B.returns
  have hts := atoms_spec (ws := Cond.code y_C_hasBit b_C_hasBit 2 (some .boolean) :: GW) B.pre
  have hG : ∀ w ∈ GW, w.before _ s = true := fun w h => hts w (List.mem_cons_of_mem _ h)
  have hown : s.vm.findClass R_C = some m.cls := findClass_of_methodNamed B.named
  have hlocks := B.notSynchronized
  have hl := lv_entry ([.int p0, .int p1]) (n := 2) (Nat.le_of_ble_eq_true rfl)
  rw [lg_entry_eq]
  generalize (lg_sl ([.int p0, .int p1]) ++ List.replicate (2 - (lg_sl ([.int p0, .int p1])).length) Slot.unset).toArray = ls at hl ⊢
  have hl : lv_has ls 2 [(0, .int p0), (1, .int p1)] := hl
  refine lv_iload_n hx hb d_C_hasBit_0 rfl (lv_at hl 0 rfl) ?_
  refine lv_iload_n hx hb d_C_hasBit_1 rfl (lv_at hl 1 rfl) ?_
  refine lv_ishr hx hb d_C_hasBit_2 ?_
  refine lv_iconst (v := 1) hx hb d_C_hasBit_3 (by decide) ?_
  refine lv_iand hx hb d_C_hasBit_4 ?_
  refine lv_iconst (v := 1) hx hb d_C_hasBit_5 (by decide) ?_
  refine lv_icmp_ne (tgt := 13) hx hb d_C_hasBit_6 (by decide) (fun c_1 => ?_) (fun c_1 => ?_)
  · refine lv_iconst (v := 0) hx hb d_C_hasBit_13 (by decide) ?_
    exact W.zret (v := 0) (ty := .boolean) hx hb hr (by rfl) (fun t ht hW => ⟨0, rfl, (b2i_f (by ((try simp only [b2i_eq0, Classical.not_not] at c_1); simp only [i32_eq, i32_lt, i32_le, i32_nm1, i32_n0, i32_n1, i32_n2, i32_n3, i32_n4, i32_n5, i32_n6, i32_n7, i32_n8, i32_n9, i32_n10, i32_n20, i32_n30, i32_n31, i32_n39, i32_n40, i32_n49, i32_n50, i32_n100, i32_n160, i32_n1000, i32_n100000, i32_n1000000] at c_1 ⊢; omega))).symm, ht⟩) (fun q h => nomatch h) d_C_hasBit_14
  · refine lv_iconst (v := 1) hx hb d_C_hasBit_9 (by decide) ?_
    refine lv_goto (tgt := 14) hx hb d_C_hasBit_10 (by decide) ?_
    exact W.zret (v := 1) (ty := .boolean) hx hb hr (by rfl) (fun t ht hW => ⟨1, rfl, (b2i_t (by ((try simp only [b2i_eq0, Classical.not_not] at c_1); simp only [i32_eq, i32_lt, i32_le, i32_nm1, i32_n0, i32_n1, i32_n2, i32_n3, i32_n4, i32_n5, i32_n6, i32_n7, i32_n8, i32_n9, i32_n10, i32_n20, i32_n30, i32_n31, i32_n39, i32_n40, i32_n49, i32_n50, i32_n100, i32_n160, i32_n1000, i32_n100000, i32_n1000000] at c_1 ⊢; omega))).symm, ht⟩) (fun q h => nomatch h) d_C_hasBit_14
set_option maxHeartbeats 4000000 in
set_option maxRecDepth 100000 in
theorem c_I_isOpening (l : Launch) (D : va_G) (tys : List (ClassId × FieldType)) (a : Nat) (f0 f1 f2 f3 f4 f5 f6 f7 f8 f9 : Int32) : Met l y_I_isOpening (Cond.code y_I_isOpening b_I_isOpening 1 (some .boolean) :: GW) ({ frames := 0, cells := 0, slots := 0, locals := 0 }) (va_Pc [.ref a] (rd_B D tys [(a, .inr (2, [.int f0, .int f1, .int f2, .int f3, .int f4, .int f5, .int f6, .int f7, .int f8, .int f9]))])) (vp_Si (fun r => r = b2i (3 ≤ f1))) 0 0 (fun _ => False) := by
  refine Met.ofW (cc := b_I_isOpening) (maxL := 1) (ret := (some .boolean)) (by decide) rfl ?_
  intro p e s m args below meth c s₁ B hml hv
  obtain ⟨rfl, hP, hK⟩ := hv
  have hx := B.exec
  have hb := B.bytes
  have hr := B.returns
  have hts := atoms_spec (ws := Cond.code y_I_isOpening b_I_isOpening 1 (some .boolean) :: GW) B.pre
  have hG : ∀ w ∈ GW, w.before _ s = true := fun w h => hts w (List.mem_cons_of_mem _ h)
  have hown : s.vm.findClass R_I = some m.cls := findClass_of_methodNamed B.named
  have hlocks := B.notSynchronized
  have hl := lv_entry ([.ref a]) (n := 1) (Nat.le_of_ble_eq_true rfl)
  rw [lg_entry_eq]
  generalize (lg_sl ([.ref a]) ++ List.replicate (1 - (lg_sl ([.ref a])).length) Slot.unset).toArray = ls at hl ⊢
  have hl : lv_has ls 1 [(0, .ref a)] := hl
  refine lv_aload_n hx hb d_I_isOpening_0 rfl (lv_at hl 0 rfl) ?_
  refine va_get (D := D) (ci := 2) (v := .int f1) (C := R_I) (T := F_I) (N := 10) hx hb hG in_I hown hK hP 0 rfl rfl 1 (by decide) (hG _ kw_289) (fun _ h9 => h9) rfl d_I_isOpening_1 ?_
  refine lv_iconst (v := 3) hx hb d_I_isOpening_4 (by decide) ?_
  refine lv_icmp_lt (tgt := 12) hx hb d_I_isOpening_5 (by decide) (fun c_1 => ?_) (fun c_1 => ?_)
  · refine lv_iconst (v := 0) hx hb d_I_isOpening_12 (by decide) ?_
    exact W.zret (v := 0) (ty := .boolean) hx hb hr (by rfl) (fun t ht hW => ⟨0, rfl, (b2i_f (by ((try simp only [b2i_eq0, Classical.not_not] at c_1); simp only [i32_eq, i32_lt, i32_le, i32_nm1, i32_n0, i32_n1, i32_n2, i32_n3, i32_n4, i32_n5, i32_n6, i32_n7, i32_n8, i32_n9, i32_n10, i32_n20, i32_n30, i32_n31, i32_n39, i32_n40, i32_n49, i32_n50, i32_n100, i32_n160, i32_n1000, i32_n100000, i32_n1000000] at c_1 ⊢; omega))).symm, ht⟩) (fun q h => nomatch h) d_I_isOpening_13
  · refine lv_iconst (v := 1) hx hb d_I_isOpening_8 (by decide) ?_
    refine lv_goto (tgt := 13) hx hb d_I_isOpening_9 (by decide) ?_
    exact W.zret (v := 1) (ty := .boolean) hx hb hr (by rfl) (fun t ht hW => ⟨1, rfl, (b2i_t (by ((try simp only [b2i_eq0, Classical.not_not] at c_1); simp only [i32_eq, i32_lt, i32_le, i32_nm1, i32_n0, i32_n1, i32_n2, i32_n3, i32_n4, i32_n5, i32_n6, i32_n7, i32_n8, i32_n9, i32_n10, i32_n20, i32_n30, i32_n31, i32_n39, i32_n40, i32_n49, i32_n50, i32_n100, i32_n160, i32_n1000, i32_n100000, i32_n1000000] at c_1 ⊢; omega))).symm, ht⟩) (fun q h => nomatch h) d_I_isOpening_13
set_option maxHeartbeats 4000000 in
set_option maxRecDepth 100000 in
theorem c_I_isPending (l : Launch) (D : va_G) (tys : List (ClassId × FieldType)) (a : Nat) (f0 f1 f2 f3 f4 f5 f6 f7 f8 f9 : Int32) : Met l y_I_isPending (Cond.code y_I_isPending b_I_isPending 1 (some .boolean) :: GW) ({ frames := 0, cells := 0, slots := 0, locals := 0 }) (va_Pc [.ref a] (rd_B D tys [(a, .inr (2, [.int f0, .int f1, .int f2, .int f3, .int f4, .int f5, .int f6, .int f7, .int f8, .int f9]))])) (vp_Si (fun r => r = b2i (¬ f3 = 3 ∧ ¬ f3 = 5))) 0 0 (fun _ => False) := by
  refine Met.ofW (cc := b_I_isPending) (maxL := 1) (ret := (some .boolean)) (by decide) rfl ?_
  intro p e s m args below meth c s₁ B hml hv
  obtain ⟨rfl, hP, hK⟩ := hv
  have hx := B.exec
  have hb := B.bytes
  have hr := B.returns
  have hts := atoms_spec (ws := Cond.code y_I_isPending b_I_isPending 1 (some .boolean) :: GW) B.pre
  have hG : ∀ w ∈ GW, w.before _ s = true := fun w h => hts w (List.mem_cons_of_mem _ h)
  have hown : s.vm.findClass R_I = some m.cls := findClass_of_methodNamed B.named
  have hlocks := B.notSynchronized
  have hl := lv_entry ([.ref a]) (n := 1) (Nat.le_of_ble_eq_true rfl)
  rw [lg_entry_eq]
  generalize (lg_sl ([.ref a]) ++ List.replicate (1 - (lg_sl ([.ref a])).length) Slot.unset).toArray = ls at hl ⊢
  have hl : lv_has ls 1 [(0, .ref a)] := hl
  refine lv_aload_n hx hb d_I_isPending_0 rfl (lv_at hl 0 rfl) ?_
  refine va_get (D := D) (ci := 2) (v := .int f3) (C := R_I) (T := F_I) (N := 10) hx hb hG in_I hown hK hP 0 rfl rfl 3 (by decide) (hG _ kw_292) (fun _ h9 => h9) rfl d_I_isPending_1 ?_
  refine lv_iconst (v := 3) hx hb d_I_isPending_4 (by decide) ?_
  refine lv_icmp_eq (tgt := 20) hx hb d_I_isPending_5 (by decide) (fun c_1 => ?_) (fun c_1 => ?_)
  · refine lv_iconst (v := 0) hx hb d_I_isPending_20 (by decide) ?_
    exact W.zret (v := 0) (ty := .boolean) hx hb hr (by rfl) (fun t ht hW => ⟨0, rfl, (b2i_f (by ((try simp only [b2i_eq0, Classical.not_not] at c_1); simp only [i32_eq, i32_lt, i32_le, i32_nm1, i32_n0, i32_n1, i32_n2, i32_n3, i32_n4, i32_n5, i32_n6, i32_n7, i32_n8, i32_n9, i32_n10, i32_n20, i32_n30, i32_n31, i32_n39, i32_n40, i32_n49, i32_n50, i32_n100, i32_n160, i32_n1000, i32_n100000, i32_n1000000] at c_1 ⊢; omega))).symm, ht⟩) (fun q h => nomatch h) d_I_isPending_21
  · refine lv_aload_n hx hb d_I_isPending_8 rfl (lv_at hl 0 rfl) ?_
    refine va_get (D := D) (ci := 2) (v := .int f3) (C := R_I) (T := F_I) (N := 10) hx hb hG in_I hown hK hP 0 rfl rfl 3 (by decide) (hG _ kw_292) (fun _ h9 => h9) rfl d_I_isPending_9 ?_
    refine lv_iconst (v := 5) hx hb d_I_isPending_12 (by decide) ?_
    refine lv_icmp_eq (tgt := 20) hx hb d_I_isPending_13 (by decide) (fun c_2 => ?_) (fun c_2 => ?_)
    · refine lv_iconst (v := 0) hx hb d_I_isPending_20 (by decide) ?_
      exact W.zret (v := 0) (ty := .boolean) hx hb hr (by rfl) (fun t ht hW => ⟨0, rfl, (b2i_f (by ((try simp only [b2i_eq0, Classical.not_not] at c_1 c_2); simp only [i32_eq, i32_lt, i32_le, i32_nm1, i32_n0, i32_n1, i32_n2, i32_n3, i32_n4, i32_n5, i32_n6, i32_n7, i32_n8, i32_n9, i32_n10, i32_n20, i32_n30, i32_n31, i32_n39, i32_n40, i32_n49, i32_n50, i32_n100, i32_n160, i32_n1000, i32_n100000, i32_n1000000] at c_1 c_2 ⊢; omega))).symm, ht⟩) (fun q h => nomatch h) d_I_isPending_21
    · refine lv_iconst (v := 1) hx hb d_I_isPending_16 (by decide) ?_
      refine lv_goto (tgt := 21) hx hb d_I_isPending_17 (by decide) ?_
      exact W.zret (v := 1) (ty := .boolean) hx hb hr (by rfl) (fun t ht hW => ⟨1, rfl, (b2i_t (by ((try simp only [b2i_eq0, Classical.not_not] at c_1 c_2); simp only [i32_eq, i32_lt, i32_le, i32_nm1, i32_n0, i32_n1, i32_n2, i32_n3, i32_n4, i32_n5, i32_n6, i32_n7, i32_n8, i32_n9, i32_n10, i32_n20, i32_n30, i32_n31, i32_n39, i32_n40, i32_n49, i32_n50, i32_n100, i32_n160, i32_n1000, i32_n100000, i32_n1000000] at c_1 c_2 ⊢; omega))).symm, ht⟩) (fun q h => nomatch h) d_I_isPending_21
set_option maxHeartbeats 4000000 in
set_option maxRecDepth 100000 in
theorem c_I_canBePlanned (l : Launch) (D : va_G) (tys : List (ClassId × FieldType)) (a : Nat) (f0 f1 f2 f3 f4 f5 f6 f7 f8 f9 : Int32) : Met l y_I_canBePlanned (Cond.code y_I_canBePlanned b_I_canBePlanned 1 (some .boolean) :: GW) ({ frames := 0, cells := 0, slots := 0, locals := 0 }) (va_Pc [.ref a] (rd_B D tys [(a, .inr (2, [.int f0, .int f1, .int f2, .int f3, .int f4, .int f5, .int f6, .int f7, .int f8, .int f9]))])) (vp_Si (fun r => r = b2i (f3 = 0 ∨ f3 = 4))) 0 0 (fun _ => False) := by
  refine Met.ofW (cc := b_I_canBePlanned) (maxL := 1) (ret := (some .boolean)) (by decide) rfl ?_
  intro p e s m args below meth c s₁ B hml hv
  obtain ⟨rfl, hP, hK⟩ := hv
  have hx := B.exec
  have hb := B.bytes
  have hr := B.returns
  have hts := atoms_spec (ws := Cond.code y_I_canBePlanned b_I_canBePlanned 1 (some .boolean) :: GW) B.pre
  have hG : ∀ w ∈ GW, w.before _ s = true := fun w h => hts w (List.mem_cons_of_mem _ h)
  have hown : s.vm.findClass R_I = some m.cls := findClass_of_methodNamed B.named
  have hlocks := B.notSynchronized
  have hl := lv_entry ([.ref a]) (n := 1) (Nat.le_of_ble_eq_true rfl)
  rw [lg_entry_eq]
  generalize (lg_sl ([.ref a]) ++ List.replicate (1 - (lg_sl ([.ref a])).length) Slot.unset).toArray = ls at hl ⊢
  have hl : lv_has ls 1 [(0, .ref a)] := hl
  refine lv_aload_n hx hb d_I_canBePlanned_0 rfl (lv_at hl 0 rfl) ?_
  refine va_get (D := D) (ci := 2) (v := .int f3) (C := R_I) (T := F_I) (N := 10) hx hb hG in_I hown hK hP 0 rfl rfl 3 (by decide) (hG _ kw_292) (fun _ h9 => h9) rfl d_I_canBePlanned_1 ?_
  refine lv_if_eq (tgt := 15) hx hb d_I_canBePlanned_4 (by decide) (fun c_1 => ?_) (fun c_1 => ?_)
  · refine lv_iconst (v := 1) hx hb d_I_canBePlanned_15 (by decide) ?_
    refine lv_goto (tgt := 20) hx hb d_I_canBePlanned_16 (by decide) ?_
    exact W.zret (v := 1) (ty := .boolean) hx hb hr (by rfl) (fun t ht hW => ⟨1, rfl, (b2i_t (by ((try simp only [b2i_eq0, Classical.not_not] at c_1); simp only [i32_eq, i32_lt, i32_le, i32_nm1, i32_n0, i32_n1, i32_n2, i32_n3, i32_n4, i32_n5, i32_n6, i32_n7, i32_n8, i32_n9, i32_n10, i32_n20, i32_n30, i32_n31, i32_n39, i32_n40, i32_n49, i32_n50, i32_n100, i32_n160, i32_n1000, i32_n100000, i32_n1000000] at c_1 ⊢; omega))).symm, ht⟩) (fun q h => nomatch h) d_I_canBePlanned_20
  · refine lv_aload_n hx hb d_I_canBePlanned_7 rfl (lv_at hl 0 rfl) ?_
    refine va_get (D := D) (ci := 2) (v := .int f3) (C := R_I) (T := F_I) (N := 10) hx hb hG in_I hown hK hP 0 rfl rfl 3 (by decide) (hG _ kw_292) (fun _ h9 => h9) rfl d_I_canBePlanned_8 ?_
    refine lv_iconst (v := 4) hx hb d_I_canBePlanned_11 (by decide) ?_
    refine lv_icmp_ne (tgt := 19) hx hb d_I_canBePlanned_12 (by decide) (fun c_2 => ?_) (fun c_2 => ?_)
    · refine lv_iconst (v := 0) hx hb d_I_canBePlanned_19 (by decide) ?_
      exact W.zret (v := 0) (ty := .boolean) hx hb hr (by rfl) (fun t ht hW => ⟨0, rfl, (b2i_f (by ((try simp only [b2i_eq0, Classical.not_not] at c_1 c_2); simp only [i32_eq, i32_lt, i32_le, i32_nm1, i32_n0, i32_n1, i32_n2, i32_n3, i32_n4, i32_n5, i32_n6, i32_n7, i32_n8, i32_n9, i32_n10, i32_n20, i32_n30, i32_n31, i32_n39, i32_n40, i32_n49, i32_n50, i32_n100, i32_n160, i32_n1000, i32_n100000, i32_n1000000] at c_1 c_2 ⊢; omega))).symm, ht⟩) (fun q h => nomatch h) d_I_canBePlanned_20
    · refine lv_iconst (v := 1) hx hb d_I_canBePlanned_15 (by decide) ?_
      refine lv_goto (tgt := 20) hx hb d_I_canBePlanned_16 (by decide) ?_
      exact W.zret (v := 1) (ty := .boolean) hx hb hr (by rfl) (fun t ht hW => ⟨1, rfl, (b2i_t (by ((try simp only [b2i_eq0, Classical.not_not] at c_1 c_2); simp only [i32_eq, i32_lt, i32_le, i32_nm1, i32_n0, i32_n1, i32_n2, i32_n3, i32_n4, i32_n5, i32_n6, i32_n7, i32_n8, i32_n9, i32_n10, i32_n20, i32_n30, i32_n31, i32_n39, i32_n40, i32_n49, i32_n50, i32_n100, i32_n160, i32_n1000, i32_n100000, i32_n1000000] at c_1 c_2 ⊢; omega))).symm, ht⟩) (fun q h => nomatch h) d_I_canBePlanned_20
set_option maxHeartbeats 4000000 in
set_option maxRecDepth 100000 in
theorem c_I_canBeBegunAt (l : Launch) (D : va_G) (tys : List (ClassId × FieldType)) (a : Nat) (f0 f1 f2 f3 f4 f5 f6 f7 f8 f9 : Int32) (p0 : Int32) : Met l y_I_canBeBegunAt (Cond.code y_I_canBeBegunAt b_I_canBeBegunAt 2 (some .boolean) :: GW) ({ frames := 0, cells := 0, slots := 0, locals := 0 }) (va_Pc [.ref a, .int p0] (rd_B D tys [(a, .inr (2, [.int f0, .int f1, .int f2, .int f3, .int f4, .int f5, .int f6, .int f7, .int f8, .int f9]))])) (vp_Si (fun r => r = b2i (f3 = 1 ∧ f6 ≤ p0 ∧ p0 ≤ f7))) 0 0 (fun _ => False) := by
  refine Met.ofW (cc := b_I_canBeBegunAt) (maxL := 2) (ret := (some .boolean)) (by decide) rfl ?_
  intro p e s m args below meth c s₁ B hml hv
  obtain ⟨rfl, hP, hK⟩ := hv
  have hx := B.exec
  have hb := B.bytes
  have hr := B.returns
  have hts := atoms_spec (ws := Cond.code y_I_canBeBegunAt b_I_canBeBegunAt 2 (some .boolean) :: GW) B.pre
  have hG : ∀ w ∈ GW, w.before _ s = true := fun w h => hts w (List.mem_cons_of_mem _ h)
  have hown : s.vm.findClass R_I = some m.cls := findClass_of_methodNamed B.named
  have hlocks := B.notSynchronized
  have hl := lv_entry ([.ref a, .int p0]) (n := 2) (Nat.le_of_ble_eq_true rfl)
  rw [lg_entry_eq]
  generalize (lg_sl ([.ref a, .int p0]) ++ List.replicate (2 - (lg_sl ([.ref a, .int p0])).length) Slot.unset).toArray = ls at hl ⊢
  have hl : lv_has ls 2 [(0, .ref a), (1, .int p0)] := hl
  refine lv_aload_n hx hb d_I_canBeBegunAt_0 rfl (lv_at hl 0 rfl) ?_
  refine va_get (D := D) (ci := 2) (v := .int f3) (C := R_I) (T := F_I) (N := 10) hx hb hG in_I hown hK hP 0 rfl rfl 3 (by decide) (hG _ kw_292) (fun _ h9 => h9) rfl d_I_canBeBegunAt_1 ?_
  refine lv_iconst (v := 1) hx hb d_I_canBeBegunAt_4 (by decide) ?_
  refine lv_icmp_ne (tgt := 28) hx hb d_I_canBeBegunAt_5 (by decide) (fun c_1 => ?_) (fun c_1 => ?_)
  · refine lv_iconst (v := 0) hx hb d_I_canBeBegunAt_28 (by decide) ?_
    exact W.zret (v := 0) (ty := .boolean) hx hb hr (by rfl) (fun t ht hW => ⟨0, rfl, (b2i_f (by ((try simp only [b2i_eq0, Classical.not_not] at c_1); simp only [i32_eq, i32_lt, i32_le, i32_nm1, i32_n0, i32_n1, i32_n2, i32_n3, i32_n4, i32_n5, i32_n6, i32_n7, i32_n8, i32_n9, i32_n10, i32_n20, i32_n30, i32_n31, i32_n39, i32_n40, i32_n49, i32_n50, i32_n100, i32_n160, i32_n1000, i32_n100000, i32_n1000000] at c_1 ⊢; omega))).symm, ht⟩) (fun q h => nomatch h) d_I_canBeBegunAt_29
  · refine lv_aload_n hx hb d_I_canBeBegunAt_8 rfl (lv_at hl 0 rfl) ?_
    refine va_get (D := D) (ci := 2) (v := .int f6) (C := R_I) (T := F_I) (N := 10) hx hb hG in_I hown hK hP 0 rfl rfl 6 (by decide) (hG _ kw_298) (fun _ h9 => h9) rfl d_I_canBeBegunAt_9 ?_
    refine lv_iload_n hx hb d_I_canBeBegunAt_12 rfl (lv_at hl 1 rfl) ?_
    refine lv_icmp_gt (tgt := 28) hx hb d_I_canBeBegunAt_13 (by decide) (fun c_2 => ?_) (fun c_2 => ?_)
    · refine lv_iconst (v := 0) hx hb d_I_canBeBegunAt_28 (by decide) ?_
      exact W.zret (v := 0) (ty := .boolean) hx hb hr (by rfl) (fun t ht hW => ⟨0, rfl, (b2i_f (by ((try simp only [b2i_eq0, Classical.not_not] at c_1 c_2); simp only [i32_eq, i32_lt, i32_le, i32_nm1, i32_n0, i32_n1, i32_n2, i32_n3, i32_n4, i32_n5, i32_n6, i32_n7, i32_n8, i32_n9, i32_n10, i32_n20, i32_n30, i32_n31, i32_n39, i32_n40, i32_n49, i32_n50, i32_n100, i32_n160, i32_n1000, i32_n100000, i32_n1000000] at c_1 c_2 ⊢; omega))).symm, ht⟩) (fun q h => nomatch h) d_I_canBeBegunAt_29
    · refine lv_iload_n hx hb d_I_canBeBegunAt_16 rfl (lv_at hl 1 rfl) ?_
      refine lv_aload_n hx hb d_I_canBeBegunAt_17 rfl (lv_at hl 0 rfl) ?_
      refine va_get (D := D) (ci := 2) (v := .int f7) (C := R_I) (T := F_I) (N := 10) hx hb hG in_I hown hK hP 0 rfl rfl 7 (by decide) (hG _ kw_300) (fun _ h9 => h9) rfl d_I_canBeBegunAt_18 ?_
      refine lv_icmp_gt (tgt := 28) hx hb d_I_canBeBegunAt_21 (by decide) (fun c_3 => ?_) (fun c_3 => ?_)
      · refine lv_iconst (v := 0) hx hb d_I_canBeBegunAt_28 (by decide) ?_
        exact W.zret (v := 0) (ty := .boolean) hx hb hr (by rfl) (fun t ht hW => ⟨0, rfl, (b2i_f (by ((try simp only [b2i_eq0, Classical.not_not] at c_1 c_2 c_3); simp only [i32_eq, i32_lt, i32_le, i32_nm1, i32_n0, i32_n1, i32_n2, i32_n3, i32_n4, i32_n5, i32_n6, i32_n7, i32_n8, i32_n9, i32_n10, i32_n20, i32_n30, i32_n31, i32_n39, i32_n40, i32_n49, i32_n50, i32_n100, i32_n160, i32_n1000, i32_n100000, i32_n1000000] at c_1 c_2 c_3 ⊢; omega))).symm, ht⟩) (fun q h => nomatch h) d_I_canBeBegunAt_29
      · refine lv_iconst (v := 1) hx hb d_I_canBeBegunAt_24 (by decide) ?_
        refine lv_goto (tgt := 29) hx hb d_I_canBeBegunAt_25 (by decide) ?_
        exact W.zret (v := 1) (ty := .boolean) hx hb hr (by rfl) (fun t ht hW => ⟨1, rfl, (b2i_t (by ((try simp only [b2i_eq0, Classical.not_not] at c_1 c_2 c_3); simp only [i32_eq, i32_lt, i32_le, i32_nm1, i32_n0, i32_n1, i32_n2, i32_n3, i32_n4, i32_n5, i32_n6, i32_n7, i32_n8, i32_n9, i32_n10, i32_n20, i32_n30, i32_n31, i32_n39, i32_n40, i32_n49, i32_n50, i32_n100, i32_n160, i32_n1000, i32_n100000, i32_n1000000] at c_1 c_2 c_3 ⊢; omega))).symm, ht⟩) (fun q h => nomatch h) d_I_canBeBegunAt_29
set_option maxHeartbeats 4000000 in
set_option maxRecDepth 100000 in
theorem c_I_canBeGivenUp (l : Launch) (D : va_G) (tys : List (ClassId × FieldType)) (a : Nat) (f0 f1 f2 f3 f4 f5 f6 f7 f8 f9 : Int32) : Met l y_I_canBeGivenUp (Cond.code y_I_canBeGivenUp b_I_canBeGivenUp 1 (some .boolean) :: GW) ({ frames := 0, cells := 0, slots := 0, locals := 0 }) (va_Pc [.ref a] (rd_B D tys [(a, .inr (2, [.int f0, .int f1, .int f2, .int f3, .int f4, .int f5, .int f6, .int f7, .int f8, .int f9]))])) (vp_Si (fun r => r = b2i (f3 = 0 ∨ f3 = 1 ∨ f3 = 4))) 0 0 (fun _ => False) := by
  refine Met.ofW (cc := b_I_canBeGivenUp) (maxL := 1) (ret := (some .boolean)) (by decide) rfl ?_
  intro p e s m args below meth c s₁ B hml hv
  obtain ⟨rfl, hP, hK⟩ := hv
  have hx := B.exec
  have hb := B.bytes
  have hr := B.returns
  have hts := atoms_spec (ws := Cond.code y_I_canBeGivenUp b_I_canBeGivenUp 1 (some .boolean) :: GW) B.pre
  have hG : ∀ w ∈ GW, w.before _ s = true := fun w h => hts w (List.mem_cons_of_mem _ h)
  have hown : s.vm.findClass R_I = some m.cls := findClass_of_methodNamed B.named
  have hlocks := B.notSynchronized
  have hl := lv_entry ([.ref a]) (n := 1) (Nat.le_of_ble_eq_true rfl)
  rw [lg_entry_eq]
  generalize (lg_sl ([.ref a]) ++ List.replicate (1 - (lg_sl ([.ref a])).length) Slot.unset).toArray = ls at hl ⊢
  have hl : lv_has ls 1 [(0, .ref a)] := hl
  refine lv_aload_n hx hb d_I_canBeGivenUp_0 rfl (lv_at hl 0 rfl) ?_
  refine va_get (D := D) (ci := 2) (v := .int f3) (C := R_I) (T := F_I) (N := 10) hx hb hG in_I hown hK hP 0 rfl rfl 3 (by decide) (hG _ kw_292) (fun _ h9 => h9) rfl d_I_canBeGivenUp_1 ?_
  refine lv_if_eq (tgt := 23) hx hb d_I_canBeGivenUp_4 (by decide) (fun c_1 => ?_) (fun c_1 => ?_)
  · refine lv_iconst (v := 1) hx hb d_I_canBeGivenUp_23 (by decide) ?_
    refine lv_goto (tgt := 28) hx hb d_I_canBeGivenUp_24 (by decide) ?_
    exact W.zret (v := 1) (ty := .boolean) hx hb hr (by rfl) (fun t ht hW => ⟨1, rfl, (b2i_t (by ((try simp only [b2i_eq0, Classical.not_not] at c_1); simp only [i32_eq, i32_lt, i32_le, i32_nm1, i32_n0, i32_n1, i32_n2, i32_n3, i32_n4, i32_n5, i32_n6, i32_n7, i32_n8, i32_n9, i32_n10, i32_n20, i32_n30, i32_n31, i32_n39, i32_n40, i32_n49, i32_n50, i32_n100, i32_n160, i32_n1000, i32_n100000, i32_n1000000] at c_1 ⊢; omega))).symm, ht⟩) (fun q h => nomatch h) d_I_canBeGivenUp_28
  · refine lv_aload_n hx hb d_I_canBeGivenUp_7 rfl (lv_at hl 0 rfl) ?_
    refine va_get (D := D) (ci := 2) (v := .int f3) (C := R_I) (T := F_I) (N := 10) hx hb hG in_I hown hK hP 0 rfl rfl 3 (by decide) (hG _ kw_292) (fun _ h9 => h9) rfl d_I_canBeGivenUp_8 ?_
    refine lv_iconst (v := 1) hx hb d_I_canBeGivenUp_11 (by decide) ?_
    refine lv_icmp_eq (tgt := 23) hx hb d_I_canBeGivenUp_12 (by decide) (fun c_2 => ?_) (fun c_2 => ?_)
    · refine lv_iconst (v := 1) hx hb d_I_canBeGivenUp_23 (by decide) ?_
      refine lv_goto (tgt := 28) hx hb d_I_canBeGivenUp_24 (by decide) ?_
      exact W.zret (v := 1) (ty := .boolean) hx hb hr (by rfl) (fun t ht hW => ⟨1, rfl, (b2i_t (by ((try simp only [b2i_eq0, Classical.not_not] at c_1 c_2); simp only [i32_eq, i32_lt, i32_le, i32_nm1, i32_n0, i32_n1, i32_n2, i32_n3, i32_n4, i32_n5, i32_n6, i32_n7, i32_n8, i32_n9, i32_n10, i32_n20, i32_n30, i32_n31, i32_n39, i32_n40, i32_n49, i32_n50, i32_n100, i32_n160, i32_n1000, i32_n100000, i32_n1000000] at c_1 c_2 ⊢; omega))).symm, ht⟩) (fun q h => nomatch h) d_I_canBeGivenUp_28
    · refine lv_aload_n hx hb d_I_canBeGivenUp_15 rfl (lv_at hl 0 rfl) ?_
      refine va_get (D := D) (ci := 2) (v := .int f3) (C := R_I) (T := F_I) (N := 10) hx hb hG in_I hown hK hP 0 rfl rfl 3 (by decide) (hG _ kw_292) (fun _ h9 => h9) rfl d_I_canBeGivenUp_16 ?_
      refine lv_iconst (v := 4) hx hb d_I_canBeGivenUp_19 (by decide) ?_
      refine lv_icmp_ne (tgt := 27) hx hb d_I_canBeGivenUp_20 (by decide) (fun c_3 => ?_) (fun c_3 => ?_)
      · refine lv_iconst (v := 0) hx hb d_I_canBeGivenUp_27 (by decide) ?_
        exact W.zret (v := 0) (ty := .boolean) hx hb hr (by rfl) (fun t ht hW => ⟨0, rfl, (b2i_f (by ((try simp only [b2i_eq0, Classical.not_not] at c_1 c_2 c_3); simp only [i32_eq, i32_lt, i32_le, i32_nm1, i32_n0, i32_n1, i32_n2, i32_n3, i32_n4, i32_n5, i32_n6, i32_n7, i32_n8, i32_n9, i32_n10, i32_n20, i32_n30, i32_n31, i32_n39, i32_n40, i32_n49, i32_n50, i32_n100, i32_n160, i32_n1000, i32_n100000, i32_n1000000] at c_1 c_2 c_3 ⊢; omega))).symm, ht⟩) (fun q h => nomatch h) d_I_canBeGivenUp_28
      · refine lv_iconst (v := 1) hx hb d_I_canBeGivenUp_23 (by decide) ?_
        refine lv_goto (tgt := 28) hx hb d_I_canBeGivenUp_24 (by decide) ?_
        exact W.zret (v := 1) (ty := .boolean) hx hb hr (by rfl) (fun t ht hW => ⟨1, rfl, (b2i_t (by ((try simp only [b2i_eq0, Classical.not_not] at c_1 c_2 c_3); simp only [i32_eq, i32_lt, i32_le, i32_nm1, i32_n0, i32_n1, i32_n2, i32_n3, i32_n4, i32_n5, i32_n6, i32_n7, i32_n8, i32_n9, i32_n10, i32_n20, i32_n30, i32_n31, i32_n39, i32_n40, i32_n49, i32_n50, i32_n100, i32_n160, i32_n1000, i32_n100000, i32_n1000000] at c_1 c_2 c_3 ⊢; omega))).symm, ht⟩) (fun q h => nomatch h) d_I_canBeGivenUp_28
set_option maxHeartbeats 4000000 in
set_option maxRecDepth 100000 in
theorem c_I_hasAppointment (l : Launch) (D : va_G) (tys : List (ClassId × FieldType)) (a : Nat) (f0 f1 f2 f3 f4 f5 f6 f7 f8 f9 : Int32) : Met l y_I_hasAppointment (Cond.code y_I_hasAppointment b_I_hasAppointment 1 (some .boolean) :: GW) ({ frames := 0, cells := 0, slots := 0, locals := 0 }) (va_Pc [.ref a] (rd_B D tys [(a, .inr (2, [.int f0, .int f1, .int f2, .int f3, .int f4, .int f5, .int f6, .int f7, .int f8, .int f9]))])) (vp_Si (fun r => r = b2i (f3 = 1 ∨ f3 = 2))) 0 0 (fun _ => False) := by
  refine Met.ofW (cc := b_I_hasAppointment) (maxL := 1) (ret := (some .boolean)) (by decide) rfl ?_
  intro p e s m args below meth c s₁ B hml hv
  obtain ⟨rfl, hP, hK⟩ := hv
  have hx := B.exec
  have hb := B.bytes
  have hr := B.returns
  have hts := atoms_spec (ws := Cond.code y_I_hasAppointment b_I_hasAppointment 1 (some .boolean) :: GW) B.pre
  have hG : ∀ w ∈ GW, w.before _ s = true := fun w h => hts w (List.mem_cons_of_mem _ h)
  have hown : s.vm.findClass R_I = some m.cls := findClass_of_methodNamed B.named
  have hlocks := B.notSynchronized
  have hl := lv_entry ([.ref a]) (n := 1) (Nat.le_of_ble_eq_true rfl)
  rw [lg_entry_eq]
  generalize (lg_sl ([.ref a]) ++ List.replicate (1 - (lg_sl ([.ref a])).length) Slot.unset).toArray = ls at hl ⊢
  have hl : lv_has ls 1 [(0, .ref a)] := hl
  refine lv_aload_n hx hb d_I_hasAppointment_0 rfl (lv_at hl 0 rfl) ?_
  refine va_get (D := D) (ci := 2) (v := .int f3) (C := R_I) (T := F_I) (N := 10) hx hb hG in_I hown hK hP 0 rfl rfl 3 (by decide) (hG _ kw_292) (fun _ h9 => h9) rfl d_I_hasAppointment_1 ?_
  refine lv_iconst (v := 1) hx hb d_I_hasAppointment_4 (by decide) ?_
  refine lv_icmp_eq (tgt := 16) hx hb d_I_hasAppointment_5 (by decide) (fun c_1 => ?_) (fun c_1 => ?_)
  · refine lv_iconst (v := 1) hx hb d_I_hasAppointment_16 (by decide) ?_
    refine lv_goto (tgt := 21) hx hb d_I_hasAppointment_17 (by decide) ?_
    exact W.zret (v := 1) (ty := .boolean) hx hb hr (by rfl) (fun t ht hW => ⟨1, rfl, (b2i_t (by ((try simp only [b2i_eq0, Classical.not_not] at c_1); simp only [i32_eq, i32_lt, i32_le, i32_nm1, i32_n0, i32_n1, i32_n2, i32_n3, i32_n4, i32_n5, i32_n6, i32_n7, i32_n8, i32_n9, i32_n10, i32_n20, i32_n30, i32_n31, i32_n39, i32_n40, i32_n49, i32_n50, i32_n100, i32_n160, i32_n1000, i32_n100000, i32_n1000000] at c_1 ⊢; omega))).symm, ht⟩) (fun q h => nomatch h) d_I_hasAppointment_21
  · refine lv_aload_n hx hb d_I_hasAppointment_8 rfl (lv_at hl 0 rfl) ?_
    refine va_get (D := D) (ci := 2) (v := .int f3) (C := R_I) (T := F_I) (N := 10) hx hb hG in_I hown hK hP 0 rfl rfl 3 (by decide) (hG _ kw_292) (fun _ h9 => h9) rfl d_I_hasAppointment_9 ?_
    refine lv_iconst (v := 2) hx hb d_I_hasAppointment_12 (by decide) ?_
    refine lv_icmp_ne (tgt := 20) hx hb d_I_hasAppointment_13 (by decide) (fun c_2 => ?_) (fun c_2 => ?_)
    · refine lv_iconst (v := 0) hx hb d_I_hasAppointment_20 (by decide) ?_
      exact W.zret (v := 0) (ty := .boolean) hx hb hr (by rfl) (fun t ht hW => ⟨0, rfl, (b2i_f (by ((try simp only [b2i_eq0, Classical.not_not] at c_1 c_2); simp only [i32_eq, i32_lt, i32_le, i32_nm1, i32_n0, i32_n1, i32_n2, i32_n3, i32_n4, i32_n5, i32_n6, i32_n7, i32_n8, i32_n9, i32_n10, i32_n20, i32_n30, i32_n31, i32_n39, i32_n40, i32_n49, i32_n50, i32_n100, i32_n160, i32_n1000, i32_n100000, i32_n1000000] at c_1 c_2 ⊢; omega))).symm, ht⟩) (fun q h => nomatch h) d_I_hasAppointment_21
    · refine lv_iconst (v := 1) hx hb d_I_hasAppointment_16 (by decide) ?_
      refine lv_goto (tgt := 21) hx hb d_I_hasAppointment_17 (by decide) ?_
      exact W.zret (v := 1) (ty := .boolean) hx hb hr (by rfl) (fun t ht hW => ⟨1, rfl, (b2i_t (by ((try simp only [b2i_eq0, Classical.not_not] at c_1 c_2); simp only [i32_eq, i32_lt, i32_le, i32_nm1, i32_n0, i32_n1, i32_n2, i32_n3, i32_n4, i32_n5, i32_n6, i32_n7, i32_n8, i32_n9, i32_n10, i32_n20, i32_n30, i32_n31, i32_n39, i32_n40, i32_n49, i32_n50, i32_n100, i32_n160, i32_n1000, i32_n100000, i32_n1000000] at c_1 c_2 ⊢; omega))).symm, ht⟩) (fun q h => nomatch h) d_I_hasAppointment_21
set_option maxHeartbeats 4000000 in
set_option maxRecDepth 100000 in
theorem c_I_takes (l : Launch) (D : va_G) (tys : List (ClassId × FieldType)) (a : Nat) (f0 f1 f2 f3 f4 f5 f6 f7 f8 f9 : Int32) (p0 p1 p2 : Int32) : Met l y_I_takes (Cond.code y_I_takes b_I_takes 4 (some .boolean) :: GW) ({ frames := 1, cells := 0, slots := 0, locals := 32 }) (va_Pc [.ref a, .int p0, .int p1, .int p2] (rd_B D tys [(a, .inr (2, [.int f0, .int f1, .int f2, .int f3, .int f4, .int f5, .int f6, .int f7, .int f8, .int f9]))])) (vp_Si (fun r => r = b2i ((f3 = 1 ∨ f3 = 2) ∧ f5 = p0 ∧ f6 < p2 ∧ p1 < f7))) 0 0 (fun _ => False) := by
  refine Met.ofW (cc := b_I_takes) (maxL := 4) (ret := (some .boolean)) (by decide) rfl ?_
  intro p e s m args below meth c s₁ B hml hv
  obtain ⟨rfl, hP, hK⟩ := hv
  have hx := B.exec
  have hb := B.bytes
  have hr := B.returns
  have hts := atoms_spec (ws := Cond.code y_I_takes b_I_takes 4 (some .boolean) :: GW) B.pre
  have hG : ∀ w ∈ GW, w.before _ s = true := fun w h => hts w (List.mem_cons_of_mem _ h)
  have hown : s.vm.findClass R_I = some m.cls := findClass_of_methodNamed B.named
  have hlocks := B.notSynchronized
  have hl := lv_entry ([.ref a, .int p0, .int p1, .int p2]) (n := 4) (Nat.le_of_ble_eq_true rfl)
  rw [lg_entry_eq]
  generalize (lg_sl ([.ref a, .int p0, .int p1, .int p2]) ++ List.replicate (4 - (lg_sl ([.ref a, .int p0, .int p1, .int p2])).length) Slot.unset).toArray = ls at hl ⊢
  have hl : lv_has ls 4 [(0, .ref a), (1, .int p0), (2, .int p1), (3, .int p2)] := hl
  refine lv_aload_n hx hb d_I_takes_0 rfl (lv_at hl 0 rfl) ?_
  refine vp_callSi (W.runV (As := []) (rest := []) ⟨hx, hb, hml, hown, hts⟩ (c_I_hasAppointment l D tys a f0 f1 f2 f3 f4 f5 f6 f7 f8 f9) (cwV 0 hts (gw_V kw_403 kw_404 kw_405 kw_12 kw_406) rfl rfl rfl (by decide +kernel) ⟨Nat.le_of_ble_eq_true rfl, Nat.le_of_ble_eq_true rfl⟩) (rd_V hP hK (va_recv hK hP (ci := 2) (q0 := 0) rfl rfl)) rfl rfl hl.1 rfl (lv_room (Nat.le_of_ble_eq_true rfl)) d_I_takes_1 ⟨Nat.zero_le _, Nat.zero_le _⟩) (fun r_1 h_2 => ?_)
  subst h_2
  refine lv_if_eq (tgt := 35) hx hb d_I_takes_4 (by decide) (fun c_3 => ?_) (fun c_3 => ?_)
  · refine lv_iconst (v := 0) hx hb d_I_takes_35 (by decide) ?_
    exact W.zret (v := 0) (ty := .boolean) hx hb hr (by rfl) (fun t ht hW => ⟨0, rfl, (b2i_f (by ((try simp only [b2i_eq0, Classical.not_not] at c_3); simp only [i32_eq, i32_lt, i32_le, i32_nm1, i32_n0, i32_n1, i32_n2, i32_n3, i32_n4, i32_n5, i32_n6, i32_n7, i32_n8, i32_n9, i32_n10, i32_n20, i32_n30, i32_n31, i32_n39, i32_n40, i32_n49, i32_n50, i32_n100, i32_n160, i32_n1000, i32_n100000, i32_n1000000] at c_3 ⊢; omega))).symm, ht⟩) (fun q h => nomatch h) d_I_takes_36
  · refine lv_aload_n hx hb d_I_takes_7 rfl (lv_at hl 0 rfl) ?_
    refine va_get (D := D) (ci := 2) (v := .int f5) (C := R_I) (T := F_I) (N := 10) hx hb hG in_I hown hK hP 0 rfl rfl 5 (by decide) (hG _ kw_296) (fun _ h9 => h9) rfl d_I_takes_8 ?_
    refine lv_iload_n hx hb d_I_takes_11 rfl (lv_at hl 1 rfl) ?_
    refine lv_icmp_ne (tgt := 35) hx hb d_I_takes_12 (by decide) (fun c_4 => ?_) (fun c_4 => ?_)
    · refine lv_iconst (v := 0) hx hb d_I_takes_35 (by decide) ?_
      exact W.zret (v := 0) (ty := .boolean) hx hb hr (by rfl) (fun t ht hW => ⟨0, rfl, (b2i_f (by ((try simp only [b2i_eq0, Classical.not_not] at c_3 c_4); simp only [i32_eq, i32_lt, i32_le, i32_nm1, i32_n0, i32_n1, i32_n2, i32_n3, i32_n4, i32_n5, i32_n6, i32_n7, i32_n8, i32_n9, i32_n10, i32_n20, i32_n30, i32_n31, i32_n39, i32_n40, i32_n49, i32_n50, i32_n100, i32_n160, i32_n1000, i32_n100000, i32_n1000000] at c_3 c_4 ⊢; omega))).symm, ht⟩) (fun q h => nomatch h) d_I_takes_36
    · refine lv_aload_n hx hb d_I_takes_15 rfl (lv_at hl 0 rfl) ?_
      refine va_get (D := D) (ci := 2) (v := .int f6) (C := R_I) (T := F_I) (N := 10) hx hb hG in_I hown hK hP 0 rfl rfl 6 (by decide) (hG _ kw_298) (fun _ h9 => h9) rfl d_I_takes_16 ?_
      refine lv_iload_n hx hb d_I_takes_19 rfl (lv_at hl 3 rfl) ?_
      refine lv_icmp_ge (tgt := 35) hx hb d_I_takes_20 (by decide) (fun c_5 => ?_) (fun c_5 => ?_)
      · refine lv_iconst (v := 0) hx hb d_I_takes_35 (by decide) ?_
        exact W.zret (v := 0) (ty := .boolean) hx hb hr (by rfl) (fun t ht hW => ⟨0, rfl, (b2i_f (by ((try simp only [b2i_eq0, Classical.not_not] at c_3 c_4 c_5); simp only [i32_eq, i32_lt, i32_le, i32_nm1, i32_n0, i32_n1, i32_n2, i32_n3, i32_n4, i32_n5, i32_n6, i32_n7, i32_n8, i32_n9, i32_n10, i32_n20, i32_n30, i32_n31, i32_n39, i32_n40, i32_n49, i32_n50, i32_n100, i32_n160, i32_n1000, i32_n100000, i32_n1000000] at c_3 c_4 c_5 ⊢; omega))).symm, ht⟩) (fun q h => nomatch h) d_I_takes_36
      · refine lv_iload_n hx hb d_I_takes_23 rfl (lv_at hl 2 rfl) ?_
        refine lv_aload_n hx hb d_I_takes_24 rfl (lv_at hl 0 rfl) ?_
        refine va_get (D := D) (ci := 2) (v := .int f7) (C := R_I) (T := F_I) (N := 10) hx hb hG in_I hown hK hP 0 rfl rfl 7 (by decide) (hG _ kw_300) (fun _ h9 => h9) rfl d_I_takes_25 ?_
        refine lv_icmp_ge (tgt := 35) hx hb d_I_takes_28 (by decide) (fun c_6 => ?_) (fun c_6 => ?_)
        · refine lv_iconst (v := 0) hx hb d_I_takes_35 (by decide) ?_
          exact W.zret (v := 0) (ty := .boolean) hx hb hr (by rfl) (fun t ht hW => ⟨0, rfl, (b2i_f (by ((try simp only [b2i_eq0, Classical.not_not] at c_3 c_4 c_5 c_6); simp only [i32_eq, i32_lt, i32_le, i32_nm1, i32_n0, i32_n1, i32_n2, i32_n3, i32_n4, i32_n5, i32_n6, i32_n7, i32_n8, i32_n9, i32_n10, i32_n20, i32_n30, i32_n31, i32_n39, i32_n40, i32_n49, i32_n50, i32_n100, i32_n160, i32_n1000, i32_n100000, i32_n1000000] at c_3 c_4 c_5 c_6 ⊢; omega))).symm, ht⟩) (fun q h => nomatch h) d_I_takes_36
        · refine lv_iconst (v := 1) hx hb d_I_takes_31 (by decide) ?_
          refine lv_goto (tgt := 36) hx hb d_I_takes_32 (by decide) ?_
          exact W.zret (v := 1) (ty := .boolean) hx hb hr (by rfl) (fun t ht hW => ⟨1, rfl, (b2i_t (by ((try simp only [b2i_eq0, Classical.not_not] at c_3 c_4 c_5 c_6); simp only [i32_eq, i32_lt, i32_le, i32_nm1, i32_n0, i32_n1, i32_n2, i32_n3, i32_n4, i32_n5, i32_n6, i32_n7, i32_n8, i32_n9, i32_n10, i32_n20, i32_n30, i32_n31, i32_n39, i32_n40, i32_n49, i32_n50, i32_n100, i32_n160, i32_n1000, i32_n100000, i32_n1000000] at c_3 c_4 c_5 c_6 ⊢; omega))).symm, ht⟩) (fun q h => nomatch h) d_I_takes_36
set_option maxHeartbeats 4000000 in
set_option maxRecDepth 100000 in
theorem c_I_lateTimes (l : Launch) (D : va_G) (tys : List (ClassId × FieldType)) (a : Nat) (f0 f1 f2 f3 f4 f5 f6 f7 f8 f9 : Int32) (p0 : Int32) : Met l y_I_lateTimes (Cond.code y_I_lateTimes b_I_lateTimes 2 (some .int) :: GW) ({ frames := 0, cells := 0, slots := 0, locals := 0 }) (va_Pc [.ref a, .int p0] (rd_B D tys [(a, .inr (2, [.int f0, .int f1, .int f2, .int f3, .int f4, .int f5, .int f6, .int f7, .int f8, .int f9]))])) (vp_Si (fun r => r = if p0 ≤ f2 then 0 else (p0 - f2 - 1) / 100 + 1)) 0 0 (fun _ => False) := by
  refine Met.ofW (cc := b_I_lateTimes) (maxL := 2) (ret := (some .int)) (by decide) rfl ?_
  intro p e s m args below meth c s₁ B hml hv
  obtain ⟨rfl, hP, hK⟩ := hv
  have hx := B.exec
  have hb := B.bytes
  have hr := B.returns
  have hts := atoms_spec (ws := Cond.code y_I_lateTimes b_I_lateTimes 2 (some .int) :: GW) B.pre
  have hG : ∀ w ∈ GW, w.before _ s = true := fun w h => hts w (List.mem_cons_of_mem _ h)
  have hown : s.vm.findClass R_I = some m.cls := findClass_of_methodNamed B.named
  have hlocks := B.notSynchronized
  have hl := lv_entry ([.ref a, .int p0]) (n := 2) (Nat.le_of_ble_eq_true rfl)
  rw [lg_entry_eq]
  generalize (lg_sl ([.ref a, .int p0]) ++ List.replicate (2 - (lg_sl ([.ref a, .int p0])).length) Slot.unset).toArray = ls at hl ⊢
  have hl : lv_has ls 2 [(0, .ref a), (1, .int p0)] := hl
  refine lv_iload_n hx hb d_I_lateTimes_0 rfl (lv_at hl 1 rfl) ?_
  refine lv_aload_n hx hb d_I_lateTimes_1 rfl (lv_at hl 0 rfl) ?_
  refine va_get (D := D) (ci := 2) (v := .int f2) (C := R_I) (T := F_I) (N := 10) hx hb hG in_I hown hK hP 0 rfl rfl 2 (by decide) (hG _ kw_291) (fun _ h9 => h9) rfl d_I_lateTimes_2 ?_
  refine lv_icmp_gt (tgt := 12) hx hb d_I_lateTimes_5 (by decide) (fun c_1 => ?_) (fun c_1 => ?_)
  · refine lv_iload_n hx hb d_I_lateTimes_12 rfl (lv_at hl 1 rfl) ?_
    refine lv_aload_n hx hb d_I_lateTimes_13 rfl (lv_at hl 0 rfl) ?_
    refine va_get (D := D) (ci := 2) (v := .int f2) (C := R_I) (T := F_I) (N := 10) hx hb hG in_I hown hK hP 0 rfl rfl 2 (by decide) (hG _ kw_291) (fun _ h9 => h9) rfl d_I_lateTimes_14 ?_
    refine lv_isub hx hb d_I_lateTimes_17 ?_
    refine lv_iconst (v := 1) hx hb d_I_lateTimes_18 (by decide) ?_
    refine lv_isub hx hb d_I_lateTimes_19 ?_
    refine lv_bipush (v := 100) hx hb d_I_lateTimes_20 (by decide) ?_
    refine lv_idiv hx hb d_I_lateTimes_22 (by decide) ?_
    refine lv_iconst (v := 1) hx hb d_I_lateTimes_23 (by decide) ?_
    refine lv_iadd hx hb d_I_lateTimes_24 ?_
    exact W.iret (v := (((p0 - f2) - 1) / 100) + 1) hx hb hr (fun t ht hW => ⟨(((p0 - f2) - 1) / 100) + 1, rfl, (if_neg (by ((try simp only [b2i_eq0, Classical.not_not] at c_1); simp only [i32_eq, i32_lt, i32_le, i32_nm1, i32_n0, i32_n1, i32_n2, i32_n3, i32_n4, i32_n5, i32_n6, i32_n7, i32_n8, i32_n9, i32_n10, i32_n20, i32_n30, i32_n31, i32_n39, i32_n40, i32_n49, i32_n50, i32_n100, i32_n160, i32_n1000, i32_n100000, i32_n1000000] at c_1 ⊢; omega))).symm, ht⟩) (fun q h => nomatch h) d_I_lateTimes_25
  · refine lv_iconst (v := 0) hx hb d_I_lateTimes_8 (by decide) ?_
    refine lv_goto (tgt := 25) hx hb d_I_lateTimes_9 (by decide) ?_
    exact W.iret (v := 0) hx hb hr (fun t ht hW => ⟨0, rfl, (if_pos (by ((try simp only [b2i_eq0, Classical.not_not] at c_1); simp only [i32_eq, i32_lt, i32_le, i32_nm1, i32_n0, i32_n1, i32_n2, i32_n3, i32_n4, i32_n5, i32_n6, i32_n7, i32_n8, i32_n9, i32_n10, i32_n20, i32_n30, i32_n31, i32_n39, i32_n40, i32_n49, i32_n50, i32_n100, i32_n160, i32_n1000, i32_n100000, i32_n1000000] at c_1 ⊢; omega))).symm, ht⟩) (fun q h => nomatch h) d_I_lateTimes_25
end
section
set_option maxHeartbeats 4000000 in
set_option maxRecDepth 100000 in
theorem c_Pr_checkIndex (l : Launch) (i n : Nat) (hi : i < n) (hn : n < 2 ^ 31) : Met l y_Pr_checkIndex (Cond.code y_Pr_checkIndex b_Pr_checkIndex 3 (some .int) :: GW) ({ frames := 0, cells := 0, slots := 0, locals := 0 }) (va_Pc [.int (nI i), .int (nI n), .null] (fun _ => True)) (vp_Si (fun r => r = nI i)) 0 0 (fun _ => False) := by
  refine Met.ofW (cc := b_Pr_checkIndex) (maxL := 3) (ret := (some .int)) (by decide) rfl ?_
  intro p e s m args below meth c s₁ B hml hv
  obtain ⟨rfl, -⟩ := hv
  have hx := B.exec
  have hb := B.bytes
  have hr := B.returns
  have hts := atoms_spec (ws := Cond.code y_Pr_checkIndex b_Pr_checkIndex 3 (some .int) :: GW) B.pre
  have hG : ∀ w ∈ GW, w.before _ s = true := fun w h => hts w (List.mem_cons_of_mem _ h)
  have hown : s.vm.findClass R_Pr = some m.cls := findClass_of_methodNamed B.named
  have hlocks := B.notSynchronized
  have hl := lv_entry ([.int (nI i), .int (nI n), .null]) (n := 3) (Nat.le_of_ble_eq_true rfl)
  rw [lg_entry_eq]
  generalize (lg_sl ([.int (nI i), .int (nI n), .null]) ++ List.replicate (3 - (lg_sl ([.int (nI i), .int (nI n), .null])).length) Slot.unset).toArray = ls at hl ⊢
  have hl : lv_has ls 3 [(0, .int (nI i)), (1, .int (nI n)), (2, .null)] := hl
  refine lv_iload_n hx hb d_Pr_checkIndex_0 rfl (lv_at hl 0 rfl) ?_
  refine lv_if_lt (tgt := 9) hx hb d_Pr_checkIndex_1 (by decide) (fun c_1 => ?_) (fun c_1 => ?_)
  · exact absurd c_1 (nI_pos (by omega))
  · refine lv_iload_n hx hb d_Pr_checkIndex_4 rfl (lv_at hl 0 rfl) ?_
    refine lv_iload_n hx hb d_Pr_checkIndex_5 rfl (lv_at hl 1 rfl) ?_
    refine lv_icmp_lt (tgt := 16) hx hb d_Pr_checkIndex_6 (by decide) (fun c_2 => ?_) (fun c_2 => ?_)
    · refine lv_iload_n hx hb d_Pr_checkIndex_16 rfl (lv_at hl 0 rfl) ?_
      exact W.iret (v := nI i) hx hb hr (fun t ht hW => ⟨nI i, rfl, rfl, ht⟩) (fun q h => nomatch h) d_Pr_checkIndex_17
    · exact absurd (nI_lt hi hn) c_2
set_option maxHeartbeats 4000000 in
set_option maxRecDepth 100000 in
theorem c_Ob_checkIndex (l : Launch) (i n : Nat) (hi : i < n) (hn : n < 2 ^ 31) : Met l y_Ob_checkIndex (Cond.code y_Ob_checkIndex b_Ob_checkIndex 2 (some .int) :: GW) ({ frames := 1, cells := 0, slots := 0, locals := 32 }) (va_Pc [.int (nI i), .int (nI n)] (fun _ => True)) (vp_Si (fun r => r = nI i)) 0 0 (fun _ => False) := by
  refine Met.ofW (cc := b_Ob_checkIndex) (maxL := 2) (ret := (some .int)) (by decide) rfl ?_
  intro p e s m args below meth c s₁ B hml hv
  obtain ⟨rfl, -⟩ := hv
  have hx := B.exec
  have hb := B.bytes
  have hr := B.returns
  have hts := atoms_spec (ws := Cond.code y_Ob_checkIndex b_Ob_checkIndex 2 (some .int) :: GW) B.pre
  have hG : ∀ w ∈ GW, w.before _ s = true := fun w h => hts w (List.mem_cons_of_mem _ h)
  have hown : s.vm.findClass R_Ob = some m.cls := findClass_of_methodNamed B.named
  have hlocks := B.notSynchronized
  have hl := lv_entry ([.int (nI i), .int (nI n)]) (n := 2) (Nat.le_of_ble_eq_true rfl)
  rw [lg_entry_eq]
  generalize (lg_sl ([.int (nI i), .int (nI n)]) ++ List.replicate (2 - (lg_sl ([.int (nI i), .int (nI n)])).length) Slot.unset).toArray = ls at hl ⊢
  have hl : lv_has ls 2 [(0, .int (nI i)), (1, .int (nI n))] := hl
  refine lv_iload_n hx hb d_Ob_checkIndex_0 rfl (lv_at hl 0 rfl) ?_
  refine lv_iload_n hx hb d_Ob_checkIndex_1 rfl (lv_at hl 1 rfl) ?_
  refine lv_null hx hb d_Ob_checkIndex_2 ?_
  refine vp_callSi (W.runS (As := [.int (nI i), .int (nI n), .null]) (rest := []) ⟨hx, hb, hml, hown, hts⟩ (c_Pr_checkIndex l i n hi hn) (va_cwS 3 hts (gw_S kw_127 kw_128 kw_17 kw_129) rfl rfl rfl (by decide +kernel) ⟨Nat.le_of_ble_eq_true rfl, Nat.le_of_ble_eq_true rfl⟩) ⟨fun _ _ _ _ q => q, fun U _ _ => ⟨rfl, trivial⟩⟩ rfl rfl hl.1 rfl (lv_room (Nat.le_of_ble_eq_true rfl)) d_Ob_checkIndex_3 ⟨Nat.zero_le _, Nat.zero_le _⟩) (fun r_1 h_2 => ?_)
  subst h_2
  exact W.iret (v := nI i) hx hb hr (fun t ht hW => ⟨nI i, rfl, rfl, ht⟩) (fun q h => nomatch h) d_Ob_checkIndex_6
set_option maxHeartbeats 4000000 in
set_option maxRecDepth 100000 in
theorem c_Al_size (l : Launch) (D : va_G) (tys : List (ClassId × FieldType)) (a : Nat) (v0 : Value) (k k2 : Int32) : Met l y_Al_size (Cond.code y_Al_size b_Al_size 1 (some .int) :: GW) ({ frames := 0, cells := 0, slots := 0, locals := 0 }) (va_Pc [.ref a] (rd_B D tys [(a, .inr (0, [v0, .int k, .int k2]))])) (vp_Si (fun r => r = k)) 0 0 (fun _ => False) := by
  refine Met.ofW (cc := b_Al_size) (maxL := 1) (ret := (some .int)) (by decide) rfl ?_
  intro p e s m args below meth c s₁ B hml hv
  obtain ⟨rfl, hP, hK⟩ := hv
  have hx := B.exec
  have hb := B.bytes
  have hr := B.returns
  have hts := atoms_spec (ws := Cond.code y_Al_size b_Al_size 1 (some .int) :: GW) B.pre
  have hG : ∀ w ∈ GW, w.before _ s = true := fun w h => hts w (List.mem_cons_of_mem _ h)
  have hown : s.vm.findClass R_Al = some m.cls := findClass_of_methodNamed B.named
  have hlocks := B.notSynchronized
  have hl := lv_entry ([.ref a]) (n := 1) (Nat.le_of_ble_eq_true rfl)
  rw [lg_entry_eq]
  generalize (lg_sl ([.ref a]) ++ List.replicate (1 - (lg_sl ([.ref a])).length) Slot.unset).toArray = ls at hl ⊢
  have hl : lv_has ls 1 [(0, .ref a)] := hl
  refine lv_aload_n hx hb d_Al_size_0 rfl (lv_at hl 0 rfl) ?_
  refine va_get (D := D) (ci := 0) (v := .int k) (C := R_Al) (T := F_Al) (N := 3) hx hb hG in_Al hown hK hP 0 rfl rfl 1 (by decide) (hG _ kw_43) (fun _ h9 => h9) rfl d_Al_size_1 ?_
  exact W.iret (v := k) hx hb hr (fun t ht hW => ⟨k, rfl, rfl, ht⟩) (fun q h => nomatch h) d_Al_size_4
set_option maxHeartbeats 4000000 in
set_option maxRecDepth 100000 in
theorem c_Al_elementData (l : Launch) (D : va_G) (tys : List (ClassId × FieldType)) (a b : Nat) (n cap i x : Nat) (k2 : Int32) (cA : ClassId) (f : Nat → Option Nat) (hi : i < n) (hn : n ≤ cap) (hc : cap < 2 ^ 31) (t0 : Nat) (ht : tys[t0]? = some (cA, .object "java/lang/Object")) (hf : f i = some x) : Met l y_Al_elementData (Cond.code y_Al_elementData b_Al_elementData 2 (some (.object "java/lang/Object")) :: GW) ({ frames := 0, cells := 0, slots := 0, locals := 0 }) (va_Pc [.ref a, .int (nI i)] (rd_B D tys [(a, .inr (0, [.ref b, .int (nI n), .int k2])), (b, .inl (cA, cap, .inr (.inr (.inr (.inr f)))))])) (va_Sr (fun k => k = x) (fun k => .ref k)) 0 0 (fun _ => False) := by
  refine Met.ofW (cc := b_Al_elementData) (maxL := 2) (ret := (some (.object "java/lang/Object"))) (by decide) rfl ?_
  intro p e s m args below meth c s₁ B hml hv
  obtain ⟨rfl, hP, hK⟩ := hv
  have hx := B.exec
  have hb := B.bytes
  have hr := B.returns
  have hts := atoms_spec (ws := Cond.code y_Al_elementData b_Al_elementData 2 (some (.object "java/lang/Object")) :: GW) B.pre
  have hG : ∀ w ∈ GW, w.before _ s = true := fun w h => hts w (List.mem_cons_of_mem _ h)
  have hown : s.vm.findClass R_Al = some m.cls := findClass_of_methodNamed B.named
  have hlocks := B.notSynchronized
  have hl := lv_entry ([.ref a, .int (nI i)]) (n := 2) (Nat.le_of_ble_eq_true rfl)
  rw [lg_entry_eq]
  generalize (lg_sl ([.ref a, .int (nI i)]) ++ List.replicate (2 - (lg_sl ([.ref a, .int (nI i)])).length) Slot.unset).toArray = ls at hl ⊢
  have hl : lv_has ls 2 [(0, .ref a), (1, .int (nI i))] := hl
  refine lv_aload_n hx hb d_Al_elementData_0 rfl (lv_at hl 0 rfl) ?_
  refine va_get (D := D) (ci := 0) (v := .ref b) (C := R_Al) (T := F_Al) (N := 3) hx hb hG in_Al hown hK hP 0 rfl rfl 0 (by decide) (hG _ kw_42) (fun _ h9 => h9) rfl d_Al_elementData_1 ?_
  refine lv_iload_n hx hb d_Al_elementData_4 rfl (lv_at hl 1 rfl) ?_
  refine va_aldq hx hb hK hP 1 t0 rfl ht (vp_in_nI (Nat.lt_of_lt_of_le hi hn) hc) d_Al_elementData_5 ?_
  rw [nI_clamp (Nat.lt_trans (Nat.lt_of_lt_of_le hi hn) hc), hf]
  exact W.aret (v := .ref x) hx hb hr (Or.inl ⟨_, rfl⟩) (Or.inr ⟨_, rfl⟩) (fun t ht hW => ⟨x, rfl, rfl, ht⟩) (fun q h => nomatch h) d_Al_elementData_6
set_option maxHeartbeats 4000000 in
set_option maxRecDepth 100000 in
theorem c_Al_get (l : Launch) (D : va_G) (tys : List (ClassId × FieldType)) (a b : Nat) (n cap i x : Nat) (k2 : Int32) (cA : ClassId) (f : Nat → Option Nat) (hi : i < n) (hn : n ≤ cap) (hc : cap < 2 ^ 31) (t0 : Nat) (ht : tys[t0]? = some (cA, .object "java/lang/Object")) (hf : f i = some x) : Met l y_Al_get (Cond.code y_Al_get b_Al_get 2 (some (.object "java/lang/Object")) :: GW) ({ frames := 2, cells := 0, slots := 0, locals := 64 }) (va_Pc [.ref a, .int (nI i)] (rd_B D tys [(a, .inr (0, [.ref b, .int (nI n), .int k2])), (b, .inl (cA, cap, .inr (.inr (.inr (.inr f)))))])) (va_Sr (fun k => k = x) (fun k => .ref k)) 0 0 (fun _ => False) := by
  refine Met.ofW (cc := b_Al_get) (maxL := 2) (ret := (some (.object "java/lang/Object"))) (by decide) rfl ?_
  intro p e s m args below meth c s₁ B hml hv
  obtain ⟨rfl, hP, hK⟩ := hv
  have hx := B.exec
  have hb := B.bytes
  have hr := B.returns
  have hts := atoms_spec (ws := Cond.code y_Al_get b_Al_get 2 (some (.object "java/lang/Object")) :: GW) B.pre
  have hG : ∀ w ∈ GW, w.before _ s = true := fun w h => hts w (List.mem_cons_of_mem _ h)
  have hown : s.vm.findClass R_Al = some m.cls := findClass_of_methodNamed B.named
  have hlocks := B.notSynchronized
  have hl := lv_entry ([.ref a, .int (nI i)]) (n := 2) (Nat.le_of_ble_eq_true rfl)
  rw [lg_entry_eq]
  generalize (lg_sl ([.ref a, .int (nI i)]) ++ List.replicate (2 - (lg_sl ([.ref a, .int (nI i)])).length) Slot.unset).toArray = ls at hl ⊢
  have hl : lv_has ls 2 [(0, .ref a), (1, .int (nI i))] := hl
  refine lv_iload_n hx hb d_Al_get_0 rfl (lv_at hl 1 rfl) ?_
  refine lv_aload_n hx hb d_Al_get_1 rfl (lv_at hl 0 rfl) ?_
  refine va_get (D := D) (ci := 0) (v := .int (nI n)) (C := R_Al) (T := F_Al) (N := 3) hx hb hG in_Al hown hK hP 0 rfl rfl 1 (by decide) (hG _ kw_43) (fun _ h9 => h9) rfl d_Al_get_2 ?_
  refine vp_callSi (W.runS (As := [.int (nI i), .int (nI n)]) (rest := []) ⟨hx, hb, hml, hown, hts⟩ (c_Ob_checkIndex l i n hi (by omega)) (va_cwS 2 hts (gw_S kw_124 kw_125 kw_16 kw_126) rfl rfl rfl (by decide +kernel) ⟨Nat.le_of_ble_eq_true rfl, Nat.le_of_ble_eq_true rfl⟩) ⟨fun _ _ _ _ q => q, fun U _ _ => ⟨rfl, trivial⟩⟩ rfl rfl hl.1 rfl (lv_room (Nat.le_of_ble_eq_true rfl)) d_Al_get_5 ⟨Nat.zero_le _, Nat.zero_le _⟩) (fun r_1 h_2 => ?_)
  subst h_2
  refine lv_pop hx hb d_Al_get_8 rfl ?_
  refine lv_aload_n hx hb d_Al_get_9 rfl (lv_at hl 0 rfl) ?_
  refine lv_iload_n hx hb d_Al_get_10 rfl (lv_at hl 1 rfl) ?_
  refine va_csr (W.runV (As := [.int (nI i)]) (rest := []) ⟨hx, hb, hml, hown, hts⟩ (c_Al_elementData l D tys a b n cap i x k2 cA f hi hn hc t0 ht hf) (cwV 1 hts (gw_V kw_130 kw_131 kw_132 kw_4 kw_133) rfl rfl rfl (by decide +kernel) ⟨Nat.le_of_ble_eq_true rfl, Nat.le_of_ble_eq_true rfl⟩) (rd_V hP hK (va_recv hK hP (ci := 0) (q0 := 0) rfl rfl)) rfl rfl hl.1 rfl (lv_room (Nat.le_of_ble_eq_true rfl)) d_Al_get_11 ⟨Nat.zero_le _, Nat.zero_le _⟩) (fun r_9 h_9 => ?_)
  subst h_9
  exact W.aret (v := .ref r_9) hx hb hr (Or.inl ⟨_, rfl⟩) (Or.inr ⟨_, rfl⟩) (fun t ht hW => ⟨r_9, rfl, rfl, ht⟩) (fun q h => nomatch h) d_Al_get_14
end
section
/-! The class's state: s k i is component k at place i. 0 0: now; 1 rights, 2 seals, 3 holders, 4 costs, 5 up, 6 down; 7: the lists' counts of changes; 10 + d: row d of the declared values; 20 + k: field k of the inspections; 30, 31: declaration and seal of the samples; 1000 + i, 2000 + i: found and settled of sample i. -/
abbrev tys_ (cs : Nat → ClassId) : List (ClassId × FieldType) := [(cs 0, .int), (cs 1, .boolean), (cs 2, .object "java/lang/Object"), (cs 3, .array .int), (cs 4, .long)]
def su (σ : Nat → Nat → Int32) (k i : Nat) (x : Int32) : Nat → Nat → Int32 := fun a b => if a = k ∧ b = i then x else σ a b
def insF (σ : Nat → Nat → Int32) (i : Nat) : List Value := [.int (σ 20 i), .int (σ 21 i), .int (σ 22 i), .int (σ 23 i), .int (σ 24 i), .int (σ 25 i), .int (σ 26 i), .int (σ 27 i), .int (σ 28 i), .int (σ 29 i)]
def samF (ad : Nat → Nat) (σ : Nat → Nat → Int32) (i : Nat) : List Value := [.int (σ 30 i), .int (σ 31 i), .ref (ad (300 + i)), .ref (ad (400 + i))]
abbrev arI (cA : ClassId) (n : Nat) (f : Nat → Int32) : va_E := .inl (cA, n, .inl f)
abbrev arQ (cA : ClassId) (n : Nat) (f : Nat → Option Nat) : va_E := .inl (cA, n, .inr (.inr (.inr (.inr f))))
def rowsF (b n : Nat) (ad : Nat → Nat) : Nat → Option Nat := fun j => if j < n then some (ad (b + j)) else none
def gC (cs : Nat → ClassId) (ad : Nat → Nat) (σ : Nat → Nat → Int32) (n m ci cj E : Nat) : Nat → va_E := fun r =>
  if r < 100 then
    (if r = 0 then .inr (1, [.ref (ad 1), .ref (ad 2), .ref (ad 5), .ref (ad 6), .ref (ad 7), .ref (ad 8), .ref (ad 9), .ref (ad 10), .ref (ad 11), .int (σ 0 0)])
    else if r = 1 then .inr (0, [.ref (if n = 0 then E else ad 3), .int (nI n), .int (σ 7 0)])
    else if r = 2 then .inr (0, [.ref (if m = 0 then E else ad 4), .int (nI m), .int (σ 7 1)])
    else if r = 3 then arQ (cs 2) ci (rowsF 100 n ad)
    else if r = 4 then arQ (cs 2) cj (rowsF 200 m ad)
    else if r = 5 then arI (cs 0) 10 (σ 1)
    else if r = 6 then arI (cs 0) 10 (σ 2)
    else if r = 7 then arI (cs 0) 10 (σ 3)
    else if r = 8 then arI (cs 0) 10 (σ 4)
    else if r = 9 then arQ (cs 3) 10 (rowsF 20 10 ad)
    else if r = 10 then arI (cs 0) 4 (σ 5)
    else if r = 11 then arI (cs 0) 4 (σ 6)
    else arI (cs 0) 4 (σ (r - 10)))
  else if r < 200 then .inr (2, insF σ (r - 100))
  else if r < 300 then .inr (3, samF ad σ (r - 200))
  else if r < 400 then arI (cs 0) 4 (σ (1000 + (r - 300)))
  else arI (cs 1) 4 (σ (2000 + (r - 400)))
def RC (n m : Nat) : List Nat := [0, 1, 2, 5, 6, 7, 8, 9, 10, 11] ++ ((List.range 10).map (fun j => 20 + j) ++ ((if n = 0 then [] else [3]) ++ ((if m = 0 then [] else [4]) ++ ((List.range n).map (fun j => 100 + j) ++ ((List.range m).map (fun j => 200 + j) ++ ((List.range m).map (fun j => 300 + j) ++ (List.range m).map (fun j => 400 + j)))))))
abbrev wC (cs : Nat → ClassId) (ad : Nat → Nat) (σ : Nat → Nat → Int32) (n m ci cj E : Nat) : va_W := rl_w (RC n m) ad (gC cs ad σ n m ci cj E)
/-- sizes -/
def Iv (n m ci cj : Nat) : Prop := n ≤ 30 ∧ m ≤ 40 ∧ n ≤ ci ∧ m ≤ cj ∧ ci ≤ 100 ∧ cj ≤ 100
theorem RC_f {n m r : Nat} (h : r ∈ [0, 1, 2, 5, 6, 7, 8, 9, 10, 11]) : r ∈ RC n m := List.mem_append_left _ h
theorem RC_row {n m d : Nat} (h : d < 10) : 20 + d ∈ RC n m := List.mem_append_right _ (List.mem_append_left _ (List.mem_map.mpr ⟨d, List.mem_range.mpr h, rfl⟩))
theorem RC_3 {n m : Nat} (h : 0 < n) : 3 ∈ RC n m := List.mem_append_right _ (List.mem_append_right _ (List.mem_append_left _ (by rw [if_neg (by omega)]; exact List.mem_singleton.mpr rfl)))
theorem RC_4 {n m : Nat} (h : 0 < m) : 4 ∈ RC n m := List.mem_append_right _ (List.mem_append_right _ (List.mem_append_right _ (List.mem_append_left _ (by rw [if_neg (by omega)]; exact List.mem_singleton.mpr rfl))))
theorem RC_ins {n m i : Nat} (h : i < n) : 100 + i ∈ RC n m := List.mem_append_right _ (List.mem_append_right _ (List.mem_append_right _ (List.mem_append_right _ (List.mem_append_left _ (List.mem_map.mpr ⟨i, List.mem_range.mpr h, rfl⟩)))))
theorem RC_sam {n m i : Nat} (h : i < m) : 200 + i ∈ RC n m := List.mem_append_right _ (List.mem_append_right _ (List.mem_append_right _ (List.mem_append_right _ (List.mem_append_right _ (List.mem_append_left _ (List.mem_map.mpr ⟨i, List.mem_range.mpr h, rfl⟩))))))
theorem RC_fou {n m i : Nat} (h : i < m) : 300 + i ∈ RC n m := List.mem_append_right _ (List.mem_append_right _ (List.mem_append_right _ (List.mem_append_right _ (List.mem_append_right _ (List.mem_append_right _ (List.mem_append_left _ (List.mem_map.mpr ⟨i, List.mem_range.mpr h, rfl⟩)))))))
theorem RC_set {n m i : Nat} (h : i < m) : 400 + i ∈ RC n m := List.mem_append_right _ (List.mem_append_right _ (List.mem_append_right _ (List.mem_append_right _ (List.mem_append_right _ (List.mem_append_right _ (List.mem_append_right _ (List.mem_map.mpr ⟨i, List.mem_range.mpr h, rfl⟩)))))))
section GC
variable {cs : Nat → ClassId} {ad : Nat → Nat} {σ : Nat → Nat → Int32} {n m ci cj E : Nat}
theorem gC_0 : gC cs ad σ n m ci cj E 0 = .inr (1, [.ref (ad 1), .ref (ad 2), .ref (ad 5), .ref (ad 6), .ref (ad 7), .ref (ad 8), .ref (ad 9), .ref (ad 10), .ref (ad 11), .int (σ 0 0)]) := rfl
theorem gC_1 (h : 0 < n) : gC cs ad σ n m ci cj E 1 = .inr (0, [.ref (ad 3), .int (nI n), .int (σ 7 0)]) := by
  show Sum.inr (0, [Value.ref (if n = 0 then E else ad 3), _, _]) = _
  rw [if_neg (by omega)]
theorem gC_1' : gC cs ad σ n m ci cj E 1 = .inr (0, [.ref (if n = 0 then E else ad 3), .int (nI n), .int (σ 7 0)]) := rfl
theorem gC_2 (h : 0 < m) : gC cs ad σ n m ci cj E 2 = .inr (0, [.ref (ad 4), .int (nI m), .int (σ 7 1)]) := by
  show Sum.inr (0, [Value.ref (if m = 0 then E else ad 4), _, _]) = _
  rw [if_neg (by omega)]
theorem gC_2' : gC cs ad σ n m ci cj E 2 = .inr (0, [.ref (if m = 0 then E else ad 4), .int (nI m), .int (σ 7 1)]) := rfl
theorem gC_3 : gC cs ad σ n m ci cj E 3 = arQ (cs 2) ci (rowsF 100 n ad) := rfl
theorem gC_4 : gC cs ad σ n m ci cj E 4 = arQ (cs 2) cj (rowsF 200 m ad) := rfl
theorem gC_5 : gC cs ad σ n m ci cj E 5 = arI (cs 0) 10 (σ 1) := rfl
theorem gC_6 : gC cs ad σ n m ci cj E 6 = arI (cs 0) 10 (σ 2) := rfl
theorem gC_7 : gC cs ad σ n m ci cj E 7 = arI (cs 0) 10 (σ 3) := rfl
theorem gC_8 : gC cs ad σ n m ci cj E 8 = arI (cs 0) 10 (σ 4) := rfl
theorem gC_9 : gC cs ad σ n m ci cj E 9 = arQ (cs 3) 10 (rowsF 20 10 ad) := rfl
theorem gC_10 : gC cs ad σ n m ci cj E 10 = arI (cs 0) 4 (σ 5) := rfl
theorem gC_11 : gC cs ad σ n m ci cj E 11 = arI (cs 0) 4 (σ 6) := rfl
theorem gC_row {d : Nat} (h : d < 10) : gC cs ad σ n m ci cj E (20 + d) = arI (cs 0) 4 (σ (10 + d)) := by
  have e : 20 + d - 10 = 10 + d := by omega
  simp only [gC, e]
  rw [if_pos (by omega), if_neg (by omega), if_neg (by omega), if_neg (by omega), if_neg (by omega), if_neg (by omega), if_neg (by omega), if_neg (by omega), if_neg (by omega), if_neg (by omega), if_neg (by omega), if_neg (by omega), if_neg (by omega)]
theorem gC_ins {i : Nat} (h : i < 100) : gC cs ad σ n m ci cj E (100 + i) = .inr (2, insF σ i) := by
  have e : 100 + i - 100 = i := by omega
  simp only [gC, e]
  rw [if_neg (by omega), if_pos (by omega)]
theorem gC_sam {i : Nat} (h : i < 100) : gC cs ad σ n m ci cj E (200 + i) = .inr (3, samF ad σ i) := by
  have e : 200 + i - 200 = i := by omega
  simp only [gC, e]
  rw [if_neg (by omega), if_neg (by omega), if_pos (by omega)]
theorem gC_fou {i : Nat} (h : i < 100) : gC cs ad σ n m ci cj E (300 + i) = arI (cs 0) 4 (σ (1000 + i)) := by
  have e : 300 + i - 300 = i := by omega
  simp only [gC, e]
  rw [if_neg (by omega), if_neg (by omega), if_neg (by omega), if_pos (by omega)]
theorem gC_set {i : Nat} (h : i < 100) : gC cs ad σ n m ci cj E (400 + i) = arI (cs 1) 4 (σ (2000 + i)) := by
  have e : 400 + i - 400 = i := by omega
  simp only [gC, e]
  rw [if_neg (by omega), if_neg (by omega), if_neg (by omega), if_neg (by omega)]
end GC
theorem rl_two {D : va_G} {cl : List vw_C} {H : Heap} {Rl : List Nat} {ad : Nat → Nat} {g : Nat → va_E} {r q : Nat} {x y : va_E} (hP : va_P D cl (rl_w Rl ad g) H) (hr : r ∈ Rl) (hg : g r = x) (hq : q ∈ Rl) (hg' : g q = y) : va_P D cl [(ad r, x), (ad q, y)] H := by
  have h := (rl_one hP hr hg).app (rl_one hP hq hg')
  exact h
end
section
set_option maxHeartbeats 4000000 in
set_option maxRecDepth 100000 in
theorem c_C_isInspection (l : Launch) (D : va_G) (cs : Nat → ClassId) (ad : Nat → Nat) (σ : Nat → Nat → Int32) (n nm ci cj E : Nat) (hI : Iv n nm ci cj) (p0 : Int32) : Met l y_C_isInspection (Cond.code y_C_isInspection b_C_isInspection 2 (some .boolean) :: GW) ({ frames := 2, cells := 0, slots := 0, locals := 64 }) (va_Pc [.ref (ad 0), .int p0] (rd_B D (tys_ cs) (wC cs ad σ n nm ci cj E))) (vp_Si (fun r => r = b2i (0 ≤ p0 ∧ p0 ≤ nI n - 1))) 0 0 (fun _ => False) := by
  refine Met.ofW (cc := b_C_isInspection) (maxL := 2) (ret := (some .boolean)) (by decide) rfl ?_
  intro p e s m args below meth c s₁ B hml hv
  obtain ⟨rfl, hP, hK⟩ := hv
  have hx := B.exec
  have hb := B.bytes
  have hr := B.returns
  have hts := atoms_spec (ws := Cond.code y_C_isInspection b_C_isInspection 2 (some .boolean) :: GW) B.pre
  have hG : ∀ w ∈ GW, w.before _ s = true := fun w h => hts w (List.mem_cons_of_mem _ h)
  have hown : s.vm.findClass R_C = some m.cls := findClass_of_methodNamed B.named
  have hlocks := B.notSynchronized
  have hl := lv_entry ([.ref (ad 0), .int p0]) (n := 2) (Nat.le_of_ble_eq_true rfl)
  rw [lg_entry_eq]
  generalize (lg_sl ([.ref (ad 0), .int p0]) ++ List.replicate (2 - (lg_sl ([.ref (ad 0), .int p0])).length) Slot.unset).toArray = ls at hl ⊢
  have hl : lv_has ls 2 [(0, .ref (ad 0)), (1, .int p0)] := hl
  refine lv_iload_n hx hb d_C_isInspection_0 rfl (lv_at hl 1 rfl) ?_
  refine lv_iconst (v := 0) hx hb d_C_isInspection_1 (by decide) ?_
  refine lv_aload_n hx hb d_C_isInspection_2 rfl (lv_at hl 0 rfl) ?_
  refine rl_get (r := 0) (ci := 1) (v := .ref (ad 1)) (C := R_C) (T := F_C) (N := 10) hx hb hG in_C hown hK hP (RC_f (by decide)) gC_0 rfl 0 (by decide) kw_59 (fun _ h9 => h9) rfl d_C_isInspection_3 ?_
  refine vp_callSi (W.runV (As := []) (rest := [.int 0, .int p0]) ⟨hx, hb, hml, hown, hts⟩ (c_Al_size l D (tys_ cs) (ad 1) (.ref (if n = 0 then E else ad 3)) (nI n) (σ 7 0)) (cwV 0 hts (gw_V kw_116 kw_117 kw_118 kw_4 kw_119) rfl rfl rfl (by decide +kernel) ⟨Nat.le_of_ble_eq_true rfl, Nat.le_of_ble_eq_true rfl⟩) (rd_V (rl_one hP (RC_f (by decide)) gC_1') hK (rl_recv hK hP (RC_f (by decide)) gC_1' rfl)) rfl rfl hl.1 rfl (lv_room (Nat.le_of_ble_eq_true rfl)) d_C_isInspection_6 ⟨Nat.zero_le _, Nat.zero_le _⟩) (fun r_1 h_2 => ?_)
  subst h_2
  refine lv_iconst (v := 1) hx hb d_C_isInspection_9 (by decide) ?_
  refine lv_isub hx hb d_C_isInspection_10 ?_
  refine vp_callSi (W.runS (As := [.int p0, .int 0, .int ((nI n) - 1)]) (rest := []) ⟨hx, hb, hml, hown, hts⟩ (c_C_isWithin l p0 0 ((nI n) - 1)) (va_cwS 3 hts (gw_S kw_98 kw_99 kw_1 kw_100) rfl rfl rfl (by decide +kernel) ⟨Nat.le_of_ble_eq_true rfl, Nat.le_of_ble_eq_true rfl⟩) ⟨fun _ _ _ _ q => q, fun U _ _ => ⟨rfl, trivial⟩⟩ rfl rfl hl.1 rfl (lv_room (Nat.le_of_ble_eq_true rfl)) d_C_isInspection_11 ⟨Nat.zero_le _, Nat.zero_le _⟩) (fun r_3 h_4 => ?_)
  subst h_4
  exact W.zret (v := b2i (0 ≤ p0 ∧ p0 ≤ ((nI n) - 1))) (ty := .boolean) hx hb hr (b2i_nar _) (fun t ht hW => ⟨b2i (0 ≤ p0 ∧ p0 ≤ ((nI n) - 1)), rfl, rfl, ht⟩) (fun q h => nomatch h) d_C_isInspection_14
set_option maxHeartbeats 4000000 in
set_option maxRecDepth 100000 in
theorem c_C_isTimeToCome (l : Launch) (D : va_G) (cs : Nat → ClassId) (ad : Nat → Nat) (σ : Nat → Nat → Int32) (n nm ci cj E : Nat) (hI : Iv n nm ci cj) (p0 : Int32) : Met l y_C_isTimeToCome (Cond.code y_C_isTimeToCome b_C_isTimeToCome 2 (some .boolean) :: GW) ({ frames := 2, cells := 0, slots := 0, locals := 64 }) (va_Pc [.ref (ad 0), .int p0] (rd_B D (tys_ cs) (wC cs ad σ n nm ci cj E))) (vp_Si (fun r => r = b2i (σ 0 0 ≤ p0 ∧ p0 ≤ 100000))) 0 0 (fun _ => False) := by
  refine Met.ofW (cc := b_C_isTimeToCome) (maxL := 2) (ret := (some .boolean)) (by decide) rfl ?_
  intro p e s m args below meth c s₁ B hml hv
  obtain ⟨rfl, hP, hK⟩ := hv
  have hx := B.exec
  have hb := B.bytes
  have hr := B.returns
  have hts := atoms_spec (ws := Cond.code y_C_isTimeToCome b_C_isTimeToCome 2 (some .boolean) :: GW) B.pre
  have hG : ∀ w ∈ GW, w.before _ s = true := fun w h => hts w (List.mem_cons_of_mem _ h)
  have hown : s.vm.findClass R_C = some m.cls := findClass_of_methodNamed B.named
  have hlocks := B.notSynchronized
  have hl := lv_entry ([.ref (ad 0), .int p0]) (n := 2) (Nat.le_of_ble_eq_true rfl)
  rw [lg_entry_eq]
  generalize (lg_sl ([.ref (ad 0), .int p0]) ++ List.replicate (2 - (lg_sl ([.ref (ad 0), .int p0])).length) Slot.unset).toArray = ls at hl ⊢
  have hl : lv_has ls 2 [(0, .ref (ad 0)), (1, .int p0)] := hl
  refine lv_iload_n hx hb d_C_isTimeToCome_0 rfl (lv_at hl 1 rfl) ?_
  refine lv_aload_n hx hb d_C_isTimeToCome_1 rfl (lv_at hl 0 rfl) ?_
  refine rl_get (r := 0) (ci := 1) (v := .int (σ 0 0)) (C := R_C) (T := F_C) (N := 10) hx hb hG in_C hown hK hP (RC_f (by decide)) gC_0 rfl 9 (by decide) kw_68 (fun _ h9 => h9) rfl d_C_isTimeToCome_2 ?_
  refine lv_ldcw (v := 100000) hx hb hown (hG _ kw_264) d_C_isTimeToCome_5 ?_
  refine vp_callSi (W.runS (As := [.int p0, .int (σ 0 0), .int 100000]) (rest := []) ⟨hx, hb, hml, hown, hts⟩ (c_C_isWithin l p0 (σ 0 0) 100000) (va_cwS 3 hts (gw_S kw_98 kw_99 kw_1 kw_100) rfl rfl rfl (by decide +kernel) ⟨Nat.le_of_ble_eq_true rfl, Nat.le_of_ble_eq_true rfl⟩) ⟨fun _ _ _ _ q => q, fun U _ _ => ⟨rfl, trivial⟩⟩ rfl rfl hl.1 rfl (lv_room (Nat.le_of_ble_eq_true rfl)) d_C_isTimeToCome_8 ⟨Nat.zero_le _, Nat.zero_le _⟩) (fun r_1 h_2 => ?_)
  subst h_2
  exact W.zret (v := b2i ((σ 0 0) ≤ p0 ∧ p0 ≤ 100000)) (ty := .boolean) hx hb hr (b2i_nar _) (fun t ht hW => ⟨b2i ((σ 0 0) ≤ p0 ∧ p0 ≤ 100000), rfl, rfl, ht⟩) (fun q h => nomatch h) d_C_isTimeToCome_11
set_option maxHeartbeats 4000000 in
set_option maxRecDepth 100000 in
theorem c_C_mayDo (l : Launch) (D : va_G) (cs : Nat → ClassId) (ad : Nat → Nat) (σ : Nat → Nat → Int32) (n nm ci cj E : Nat) (hI : Iv n nm ci cj) (p0 p1 : Int32) : Met l y_C_mayDo (Cond.code y_C_mayDo b_C_mayDo 3 (some .boolean) :: GW) ({ frames := 2, cells := 0, slots := 0, locals := 64 }) (va_Pc [.ref (ad 0), .int p0, .int p1] (rd_B D (tys_ cs) (wC cs ad σ n nm ci cj E))) (vp_Si (fun r => r = b2i ((0 ≤ p0 ∧ p0 ≤ 9) ∧ σ 1 p0.toNatClampNeg >>> (p1 &&& 31) &&& 1 = 1))) 0 0 (fun _ => False) := by
  refine Met.ofW (cc := b_C_mayDo) (maxL := 3) (ret := (some .boolean)) (by decide) rfl ?_
  intro p e s m args below meth c s₁ B hml hv
  obtain ⟨rfl, hP, hK⟩ := hv
  have hx := B.exec
  have hb := B.bytes
  have hr := B.returns
  have hts := atoms_spec (ws := Cond.code y_C_mayDo b_C_mayDo 3 (some .boolean) :: GW) B.pre
  have hG : ∀ w ∈ GW, w.before _ s = true := fun w h => hts w (List.mem_cons_of_mem _ h)
  have hown : s.vm.findClass R_C = some m.cls := findClass_of_methodNamed B.named
  have hlocks := B.notSynchronized
  have hl := lv_entry ([.ref (ad 0), .int p0, .int p1]) (n := 3) (Nat.le_of_ble_eq_true rfl)
  rw [lg_entry_eq]
  generalize (lg_sl ([.ref (ad 0), .int p0, .int p1]) ++ List.replicate (3 - (lg_sl ([.ref (ad 0), .int p0, .int p1])).length) Slot.unset).toArray = ls at hl ⊢
  have hl : lv_has ls 3 [(0, .ref (ad 0)), (1, .int p0), (2, .int p1)] := hl
  refine lv_iload_n hx hb d_C_mayDo_0 rfl (lv_at hl 1 rfl) ?_
  refine vp_callSi (W.runS (As := [.int p0]) (rest := []) ⟨hx, hb, hml, hown, hts⟩ (c_C_isPerson l p0) (va_cwS 1 hts (gw_S kw_95 kw_96 kw_1 kw_97) rfl rfl rfl (by decide +kernel) ⟨Nat.le_of_ble_eq_true rfl, Nat.le_of_ble_eq_true rfl⟩) ⟨fun _ _ _ _ q => q, fun U _ _ => ⟨rfl, trivial⟩⟩ rfl rfl hl.1 rfl (lv_room (Nat.le_of_ble_eq_true rfl)) d_C_mayDo_1 ⟨Nat.zero_le _, Nat.zero_le _⟩) (fun r_1 h_2 => ?_)
  subst h_2
  refine lv_if_eq (tgt := 24) hx hb d_C_mayDo_4 (by decide) (fun c_3 => ?_) (fun c_3 => ?_)
  · refine lv_iconst (v := 0) hx hb d_C_mayDo_24 (by decide) ?_
    exact W.zret (v := 0) (ty := .boolean) hx hb hr rfl (fun t ht hW => ⟨0, rfl, (b2i_f (by ((try simp only [b2i_eq0, Classical.not_not] at c_3); simp only [i32_eq, i32_lt, i32_le, i32_nm1, i32_n0, i32_n1, i32_n2, i32_n3, i32_n4, i32_n5, i32_n6, i32_n7, i32_n8, i32_n9, i32_n10, i32_n20, i32_n30, i32_n31, i32_n39, i32_n40, i32_n49, i32_n50, i32_n100, i32_n160, i32_n1000, i32_n100000, i32_n1000000] at c_3 ⊢; omega))).symm, ht⟩) (fun q h => nomatch h) d_C_mayDo_25
  · refine lv_aload_n hx hb d_C_mayDo_7 rfl (lv_at hl 0 rfl) ?_
    refine rl_get (r := 0) (ci := 1) (v := .ref (ad 5)) (C := R_C) (T := F_C) (N := 10) hx hb hG in_C hown hK hP (RC_f (by decide)) gC_0 rfl 2 (by decide) kw_61 (fun _ h9 => h9) rfl d_C_mayDo_8 ?_
    refine lv_iload_n hx hb d_C_mayDo_11 rfl (lv_at hl 1 rfl) ?_
    refine rl_iald (r := 5) (i := p0) hx hb hK hP (RC_f (by decide)) 0 gC_5 rfl (vp_in_iff.mpr (by ((try simp only [b2i_eq0, Classical.not_not] at c_3); simp only [i32_eq, i32_lt, i32_le, i32_nm1, i32_n0, i32_n1, i32_n2, i32_n3, i32_n4, i32_n5, i32_n6, i32_n7, i32_n8, i32_n9, i32_n10, i32_n20, i32_n30, i32_n31, i32_n39, i32_n40, i32_n49, i32_n50, i32_n100, i32_n160, i32_n1000, i32_n100000, i32_n1000000] at c_3 ⊢; omega))) d_C_mayDo_12 ?_
    refine lv_iload_n hx hb d_C_mayDo_13 rfl (lv_at hl 2 rfl) ?_
    refine vp_callSi (W.runS (As := [.int (σ 1 p0.toNatClampNeg), .int p1]) (rest := []) ⟨hx, hb, hml, hown, hts⟩ (c_C_hasBit l (σ 1 p0.toNatClampNeg) p1) (va_cwS 2 hts (gw_S kw_105 kw_106 kw_1 kw_107) rfl rfl rfl (by decide +kernel) ⟨Nat.le_of_ble_eq_true rfl, Nat.le_of_ble_eq_true rfl⟩) ⟨fun _ _ _ _ q => q, fun U _ _ => ⟨rfl, trivial⟩⟩ rfl rfl hl.1 rfl (lv_room (Nat.le_of_ble_eq_true rfl)) d_C_mayDo_14 ⟨Nat.zero_le _, Nat.zero_le _⟩) (fun r_4 h_5 => ?_)
    subst h_5
    refine lv_if_eq (tgt := 24) hx hb d_C_mayDo_17 (by decide) (fun c_6 => ?_) (fun c_6 => ?_)
    · refine lv_iconst (v := 0) hx hb d_C_mayDo_24 (by decide) ?_
      exact W.zret (v := 0) (ty := .boolean) hx hb hr rfl (fun t ht hW => ⟨0, rfl, (b2i_f (by ((try simp only [b2i_eq0, Classical.not_not] at c_3 c_6); simp only [i32_eq, i32_lt, i32_le, i32_nm1, i32_n0, i32_n1, i32_n2, i32_n3, i32_n4, i32_n5, i32_n6, i32_n7, i32_n8, i32_n9, i32_n10, i32_n20, i32_n30, i32_n31, i32_n39, i32_n40, i32_n49, i32_n50, i32_n100, i32_n160, i32_n1000, i32_n100000, i32_n1000000] at c_3 c_6 ⊢; omega))).symm, ht⟩) (fun q h => nomatch h) d_C_mayDo_25
    · refine lv_iconst (v := 1) hx hb d_C_mayDo_20 (by decide) ?_
      refine lv_goto (tgt := 25) hx hb d_C_mayDo_21 (by decide) ?_
      exact W.zret (v := 1) (ty := .boolean) hx hb hr rfl (fun t ht hW => ⟨1, rfl, (b2i_t (by ((try simp only [b2i_eq0, Classical.not_not] at c_3 c_6); simp only [i32_eq, i32_lt, i32_le, i32_nm1, i32_n0, i32_n1, i32_n2, i32_n3, i32_n4, i32_n5, i32_n6, i32_n7, i32_n8, i32_n9, i32_n10, i32_n20, i32_n30, i32_n31, i32_n39, i32_n40, i32_n49, i32_n50, i32_n100, i32_n160, i32_n1000, i32_n100000, i32_n1000000] at c_3 c_6 ⊢; omega))).symm, ht⟩) (fun q h => nomatch h) d_C_mayDo_25
end
section
set_option maxHeartbeats 4000000 in
set_option maxRecDepth 100000 in
theorem c_C_isTaken (l : Launch) (D : va_G) (cs : Nat → ClassId) (ad : Nat → Nat) (σ : Nat → Nat → Int32) (n nm ci cj E : Nat) (hI : Iv n nm ci cj) (p0 p1 p2 : Int32) : Met l y_C_isTaken (Cond.code y_C_isTaken b_C_isTaken 5 (some .boolean) :: GW) ({ frames := 3, cells := 0, slots := 0, locals := 96 }) (va_Pc [.ref (ad 0), .int p0, .int p1, .int p2] (rd_B D (tys_ cs) (wC cs ad σ n nm ci cj E))) (vp_Si (fun r => r = b2i (∃ j, j < n ∧ (σ 23 j = 1 ∨ σ 23 j = 2) ∧ σ 25 j = p0 ∧ σ 26 j < p2 ∧ p1 < σ 27 j))) 0 0 (fun _ => False) := by
  refine Met.ofW (cc := b_C_isTaken) (maxL := 5) (ret := (some .boolean)) (by decide) rfl ?_
  intro p e s m args below meth c s₁ B hml hv
  obtain ⟨rfl, hP, hK⟩ := hv
  have hx := B.exec
  have hb := B.bytes
  have hr := B.returns
  have hts := atoms_spec (ws := Cond.code y_C_isTaken b_C_isTaken 5 (some .boolean) :: GW) B.pre
  have hG : ∀ w ∈ GW, w.before _ s = true := fun w h => hts w (List.mem_cons_of_mem _ h)
  have hown : s.vm.findClass R_C = some m.cls := findClass_of_methodNamed B.named
  have hlocks := B.notSynchronized
  have hl := lv_entry ([.ref (ad 0), .int p0, .int p1, .int p2]) (n := 5) (Nat.le_of_ble_eq_true rfl)
  rw [lg_entry_eq]
  generalize (lg_sl ([.ref (ad 0), .int p0, .int p1, .int p2]) ++ List.replicate (5 - (lg_sl ([.ref (ad 0), .int p0, .int p1, .int p2])).length) Slot.unset).toArray = ls at hl ⊢
  have hl : lv_has ls 5 [(0, .ref (ad 0)), (1, .int p0), (2, .int p1), (3, .int p2)] := hl
  refine lv_iconst (v := 0) hx hb d_C_isTaken_0 (by decide) ?_
  refine lv_istore (lv' := [(4, .int 0), (0, .ref (ad 0)), (1, .int p0), (2, .int p1), (3, .int p2)]) hx hb d_C_isTaken_1 hl (by decide) rfl (fun ls hl => ?_)
  replace hl : ∃ z : Nat, lv_has ls 5 [(4, .int (nI z)), (0, .ref (ad 0)), (1, .int p0), (2, .int p1), (3, .int p2)] ∧ z ≤ n ∧ (∀ j, j < z → ¬ ((σ 23 j = 1 ∨ σ 23 j = 2) ∧ σ 25 j = p0 ∧ σ 26 j < p2 ∧ p1 < σ 27 j)) := ⟨0, lv_sub hl [0, 1, 2, 3, 4] rfl, Nat.zero_le _, fun _ h => absurd h (Nat.not_lt_zero _)⟩
  obtain ⟨z, hl, hle_z, hinv_z⟩ := hl
  obtain ⟨k_z, hk_z⟩ : ∃ k, n - z = k := ⟨_, rfl⟩
  induction k_z using Nat.strongRecOn generalizing z ls with
  | _ k_z ih_z =>
    refine lv_iload hx hb d_C_isTaken_3 (lv_at hl 0 rfl) ?_
    refine lv_aload_n hx hb d_C_isTaken_5 rfl (lv_at hl 1 rfl) ?_
    refine rl_get (r := 0) (ci := 1) (v := .ref (ad 1)) (C := R_C) (T := F_C) (N := 10) hx hb hG in_C hown hK hP (RC_f (by decide)) gC_0 rfl 0 (by decide) kw_59 (fun _ h9 => h9) rfl d_C_isTaken_6 ?_
    refine vp_callSi (W.runV (As := []) (rest := [.int (nI z)]) ⟨hx, hb, hml, hown, hts⟩ (c_Al_size l D (tys_ cs) (ad 1) (.ref (if n = 0 then E else ad 3)) (nI n) (σ 7 0)) (cwV 0 hts (gw_V kw_116 kw_117 kw_118 kw_4 kw_119) rfl rfl rfl (by decide +kernel) ⟨Nat.le_of_ble_eq_true rfl, Nat.le_of_ble_eq_true rfl⟩) (rd_V (rl_one hP (RC_f (by decide)) gC_1') hK (rl_recv hK hP (RC_f (by decide)) gC_1' rfl)) rfl rfl hl.1 rfl (lv_room (Nat.le_of_ble_eq_true rfl)) d_C_isTaken_9 ⟨Nat.zero_le _, Nat.zero_le _⟩) (fun r_1 h_2 => ?_)
    subst h_2
    refine lv_icmp_ge (tgt := 44) hx hb d_C_isTaken_12 (by decide) (fun c_3 => ?_) (fun c_3 => ?_)
    · have hz_z : z = n := nI_exit hle_z c_3 (by have := hI; unfold Iv at this; omega)
      subst hz_z
      refine lv_iconst (v := 0) hx hb d_C_isTaken_44 (by decide) ?_
      exact W.zret (v := 0) (ty := .boolean) hx hb hr rfl (fun t ht hW => ⟨0, rfl, (b2i_f (fun ⟨j, hj, h⟩ => hinv_z j hj h)).symm, ht⟩) (fun q h => nomatch h) d_C_isTaken_45
    · have hlt_z : z < n := nI_go hle_z c_3 (by have := hI; unfold Iv at this; omega)
      refine lv_aload_n hx hb d_C_isTaken_15 rfl (lv_at hl 1 rfl) ?_
      refine rl_get (r := 0) (ci := 1) (v := .ref (ad 1)) (C := R_C) (T := F_C) (N := 10) hx hb hG in_C hown hK hP (RC_f (by decide)) gC_0 rfl 0 (by decide) kw_59 (fun _ h9 => h9) rfl d_C_isTaken_16 ?_
      refine lv_iload hx hb d_C_isTaken_19 (lv_at hl 0 rfl) ?_
      refine va_csr (W.runV (As := [.int (nI z)]) (rest := []) ⟨hx, hb, hml, hown, hts⟩ (c_Al_get l D (tys_ cs) (ad 1) (ad 3) n ci z (ad (100 + z)) (σ 7 0) (cs 2) (rowsF 100 n ad) hlt_z hI.2.2.1 (by have := hI; unfold Iv at this; omega) 2 rfl (if_pos hlt_z)) (cwV 1 hts (gw_V kw_120 kw_121 kw_122 kw_4 kw_123) rfl rfl rfl (by decide +kernel) ⟨Nat.le_of_ble_eq_true rfl, Nat.le_of_ble_eq_true rfl⟩) (rd_V (rl_two hP (RC_f (by decide)) (gC_1 (Nat.lt_of_le_of_lt (Nat.zero_le _) hlt_z)) (RC_3 (Nat.lt_of_le_of_lt (Nat.zero_le _) hlt_z)) gC_3) hK (rl_recv hK hP (RC_f (by decide)) (gC_1 (Nat.lt_of_le_of_lt (Nat.zero_le _) hlt_z)) rfl)) rfl rfl hl.1 rfl (lv_room (Nat.le_of_ble_eq_true rfl)) d_C_isTaken_21 ⟨Nat.zero_le _, Nat.zero_le _⟩) (fun r_4 h_5 => ?_)
      subst h_5
      refine va_castS hx hb hown (hG _ kw_134) ((hK.1 2 _ rfl).2) (rl_recv hK hP (RC_ins hlt_z) (gC_ins (by have := hI; unfold Iv at this; omega)) rfl) d_C_isTaken_24 ?_
      refine lv_iload_n hx hb d_C_isTaken_27 rfl (lv_at hl 2 rfl) ?_
      refine lv_iload_n hx hb d_C_isTaken_28 rfl (lv_at hl 3 rfl) ?_
      refine lv_iload_n hx hb d_C_isTaken_29 rfl (lv_at hl 4 rfl) ?_
      refine vp_callSi (W.runV (As := [.int p0, .int p1, .int p2]) (rest := []) ⟨hx, hb, hml, hown, hts⟩ (c_I_takes l D (tys_ cs) (ad (100 + z)) (σ 20 z) (σ 21 z) (σ 22 z) (σ 23 z) (σ 24 z) (σ 25 z) (σ 26 z) (σ 27 z) (σ 28 z) (σ 29 z) p0 p1 p2) (cwV 3 hts (gw_V kw_399 kw_400 kw_401 kw_12 kw_402) rfl rfl rfl (by decide +kernel) ⟨Nat.le_of_ble_eq_true rfl, Nat.le_of_ble_eq_true rfl⟩) (rd_V (rl_one hP (RC_ins hlt_z) (gC_ins (by have := hI; unfold Iv at this; omega))) hK (rl_recv hK hP (RC_ins hlt_z) (gC_ins (by have := hI; unfold Iv at this; omega)) rfl)) rfl rfl hl.1 rfl (lv_room (Nat.le_of_ble_eq_true rfl)) d_C_isTaken_30 ⟨Nat.zero_le _, Nat.zero_le _⟩) (fun r_6 h_7 => ?_)
      subst h_7
      refine lv_if_eq (tgt := 38) hx hb d_C_isTaken_33 (by decide) (fun c_8 => ?_) (fun c_8 => ?_)
      · refine lv_iinc (v := nI (z + 1)) (lv' := [(4, .int (nI (z + 1))), (0, .ref (ad 0)), (1, .int p0), (2, .int p1), (3, .int p2)]) hx hb d_C_isTaken_38 hl (k := 0) rfl (by exact nI_1 z) (by decide) rfl (fun ls hl => ?_)
        refine lv_goto (tgt := 3) hx hb d_C_isTaken_41 (by decide) ?_
        exact ih_z (n - (z + 1)) (by omega) ls (z + 1) (lv_sub hl [0, 1, 2, 3, 4] rfl) hlt_z (lt_s hinv_z (by ((try simp only [b2i_eq0, Classical.not_not] at c_8); first | (simp only [i32_eq, i32_lt, i32_le, i32_nm1, i32_n0, i32_n1, i32_n2, i32_n3, i32_n4, i32_n5, i32_n6, i32_n7, i32_n8, i32_n9, i32_n10, i32_n20, i32_n30, i32_n31, i32_n39, i32_n40, i32_n49, i32_n50, i32_n100, i32_n160, i32_n1000, i32_n100000, i32_n1000000] at c_8 ⊢; omega) | grind))) rfl
      · refine lv_iconst (v := 1) hx hb d_C_isTaken_36 (by decide) ?_
        exact W.zret (v := 1) (ty := .boolean) hx hb hr rfl (fun t ht hW => ⟨1, rfl, (b2i_t ⟨z, hlt_z, by ((try simp only [b2i_eq0, Classical.not_not] at c_8); first | (simp only [i32_eq, i32_lt, i32_le, i32_nm1, i32_n0, i32_n1, i32_n2, i32_n3, i32_n4, i32_n5, i32_n6, i32_n7, i32_n8, i32_n9, i32_n10, i32_n20, i32_n30, i32_n31, i32_n39, i32_n40, i32_n49, i32_n50, i32_n100, i32_n160, i32_n1000, i32_n100000, i32_n1000000] at c_8 ⊢; omega) | grind)⟩).symm, ht⟩) (fun q h => nomatch h) d_C_isTaken_37
set_option maxHeartbeats 4000000 in
set_option maxRecDepth 100000 in
theorem c_C_isBeingOpened (l : Launch) (D : va_G) (cs : Nat → ClassId) (ad : Nat → Nat) (σ : Nat → Nat → Int32) (n nm ci cj E : Nat) (hI : Iv n nm ci cj) (p0 : Int32) : Met l y_C_isBeingOpened (Cond.code y_C_isBeingOpened b_C_isBeingOpened 4 (some .boolean) :: GW) ({ frames := 3, cells := 0, slots := 0, locals := 96 }) (va_Pc [.ref (ad 0), .int p0] (rd_B D (tys_ cs) (wC cs ad σ n nm ci cj E))) (vp_Si (fun r => r = b2i (∃ j, j < n ∧ σ 20 j = p0 ∧ 3 ≤ σ 21 j ∧ σ 23 j = 2))) 0 0 (fun _ => False) := by
  refine Met.ofW (cc := b_C_isBeingOpened) (maxL := 4) (ret := (some .boolean)) (by decide) rfl ?_
  intro p e s m args below meth c s₁ B hml hv
  obtain ⟨rfl, hP, hK⟩ := hv
  have hx := B.exec
  have hb := B.bytes
  have hr := B.returns
  have hts := atoms_spec (ws := Cond.code y_C_isBeingOpened b_C_isBeingOpened 4 (some .boolean) :: GW) B.pre
  have hG : ∀ w ∈ GW, w.before _ s = true := fun w h => hts w (List.mem_cons_of_mem _ h)
  have hown : s.vm.findClass R_C = some m.cls := findClass_of_methodNamed B.named
  have hlocks := B.notSynchronized
  have hl := lv_entry ([.ref (ad 0), .int p0]) (n := 4) (Nat.le_of_ble_eq_true rfl)
  rw [lg_entry_eq]
  generalize (lg_sl ([.ref (ad 0), .int p0]) ++ List.replicate (4 - (lg_sl ([.ref (ad 0), .int p0])).length) Slot.unset).toArray = ls at hl ⊢
  have hl : lv_has ls 4 [(0, .ref (ad 0)), (1, .int p0)] := hl
  refine lv_iconst (v := 0) hx hb d_C_isBeingOpened_0 (by decide) ?_
  refine lv_istore_n (lv' := [(2, .int 0), (0, .ref (ad 0)), (1, .int p0)]) hx hb d_C_isBeingOpened_1 rfl hl (by decide) rfl (fun ls hl => ?_)
  replace hl : ∃ z : Nat, lv_has ls 4 [(2, .int (nI z)), (0, .ref (ad 0)), (1, .int p0)] ∧ z ≤ n ∧ (∀ j, j < z → ¬ (σ 20 j = p0 ∧ 3 ≤ σ 21 j ∧ σ 23 j = 2)) := ⟨0, lv_sub hl [0, 1, 2] rfl, Nat.zero_le _, fun _ h => absurd h (Nat.not_lt_zero _)⟩
  obtain ⟨z, hl, hle_z, hinv_z⟩ := hl
  obtain ⟨k_z, hk_z⟩ : ∃ k, n - z = k := ⟨_, rfl⟩
  induction k_z using Nat.strongRecOn generalizing z ls with
  | _ k_z ih_z =>
    refine lv_iload_n hx hb d_C_isBeingOpened_2 rfl (lv_at hl 0 rfl) ?_
    refine lv_aload_n hx hb d_C_isBeingOpened_3 rfl (lv_at hl 1 rfl) ?_
    refine rl_get (r := 0) (ci := 1) (v := .ref (ad 1)) (C := R_C) (T := F_C) (N := 10) hx hb hG in_C hown hK hP (RC_f (by decide)) gC_0 rfl 0 (by decide) kw_59 (fun _ h9 => h9) rfl d_C_isBeingOpened_4 ?_
    refine vp_callSi (W.runV (As := []) (rest := [.int (nI z)]) ⟨hx, hb, hml, hown, hts⟩ (c_Al_size l D (tys_ cs) (ad 1) (.ref (if n = 0 then E else ad 3)) (nI n) (σ 7 0)) (cwV 0 hts (gw_V kw_116 kw_117 kw_118 kw_4 kw_119) rfl rfl rfl (by decide +kernel) ⟨Nat.le_of_ble_eq_true rfl, Nat.le_of_ble_eq_true rfl⟩) (rd_V (rl_one hP (RC_f (by decide)) gC_1') hK (rl_recv hK hP (RC_f (by decide)) gC_1' rfl)) rfl rfl hl.1 rfl (lv_room (Nat.le_of_ble_eq_true rfl)) d_C_isBeingOpened_7 ⟨Nat.zero_le _, Nat.zero_le _⟩) (fun r_1 h_2 => ?_)
    subst h_2
    refine lv_icmp_ge (tgt := 56) hx hb d_C_isBeingOpened_10 (by decide) (fun c_3 => ?_) (fun c_3 => ?_)
    · have hz_z : z = n := nI_exit hle_z c_3 (by have := hI; unfold Iv at this; omega)
      subst hz_z
      refine lv_iconst (v := 0) hx hb d_C_isBeingOpened_56 (by decide) ?_
      exact W.zret (v := 0) (ty := .boolean) hx hb hr rfl (fun t ht hW => ⟨0, rfl, (b2i_f (fun ⟨j, hj, h⟩ => hinv_z j hj h)).symm, ht⟩) (fun q h => nomatch h) d_C_isBeingOpened_57
    · have hlt_z : z < n := nI_go hle_z c_3 (by have := hI; unfold Iv at this; omega)
      refine lv_aload_n hx hb d_C_isBeingOpened_13 rfl (lv_at hl 1 rfl) ?_
      refine rl_get (r := 0) (ci := 1) (v := .ref (ad 1)) (C := R_C) (T := F_C) (N := 10) hx hb hG in_C hown hK hP (RC_f (by decide)) gC_0 rfl 0 (by decide) kw_59 (fun _ h9 => h9) rfl d_C_isBeingOpened_14 ?_
      refine lv_iload_n hx hb d_C_isBeingOpened_17 rfl (lv_at hl 0 rfl) ?_
      refine va_csr (W.runV (As := [.int (nI z)]) (rest := []) ⟨hx, hb, hml, hown, hts⟩ (c_Al_get l D (tys_ cs) (ad 1) (ad 3) n ci z (ad (100 + z)) (σ 7 0) (cs 2) (rowsF 100 n ad) hlt_z hI.2.2.1 (by have := hI; unfold Iv at this; omega) 2 rfl (if_pos hlt_z)) (cwV 1 hts (gw_V kw_120 kw_121 kw_122 kw_4 kw_123) rfl rfl rfl (by decide +kernel) ⟨Nat.le_of_ble_eq_true rfl, Nat.le_of_ble_eq_true rfl⟩) (rd_V (rl_two hP (RC_f (by decide)) (gC_1 (Nat.lt_of_le_of_lt (Nat.zero_le _) hlt_z)) (RC_3 (Nat.lt_of_le_of_lt (Nat.zero_le _) hlt_z)) gC_3) hK (rl_recv hK hP (RC_f (by decide)) (gC_1 (Nat.lt_of_le_of_lt (Nat.zero_le _) hlt_z)) rfl)) rfl rfl hl.1 rfl (lv_room (Nat.le_of_ble_eq_true rfl)) d_C_isBeingOpened_18 ⟨Nat.zero_le _, Nat.zero_le _⟩) (fun r_4 h_5 => ?_)
      subst h_5
      refine va_castS hx hb hown (hG _ kw_134) ((hK.1 2 _ rfl).2) (rl_recv hK hP (RC_ins hlt_z) (gC_ins (by have := hI; unfold Iv at this; omega)) rfl) d_C_isBeingOpened_21 ?_
      refine lv_astore_n (lv' := [(3, .ref (ad (100 + z))), (2, .int (nI z)), (0, .ref (ad 0)), (1, .int p0)]) hx hb d_C_isBeingOpened_24 rfl hl (by decide) rfl (fun ls hl => ?_)
      refine lv_aload_n hx hb d_C_isBeingOpened_25 rfl (lv_at hl 0 rfl) ?_
      refine rl_get (r := 100 + z) (ci := 2) (v := .int (σ 20 z)) (C := R_I) (T := F_I) (N := 10) hx hb hG in_I hown hK hP (RC_ins hlt_z) (gC_ins (by have := hI; unfold Iv at this; omega)) rfl 0 (by decide) kw_288 (fun _ h9 => h9) rfl d_C_isBeingOpened_26 ?_
      refine lv_iload_n hx hb d_C_isBeingOpened_29 rfl (lv_at hl 3 rfl) ?_
      refine lv_icmp_ne (tgt := 50) hx hb d_C_isBeingOpened_30 (by decide) (fun c_6 => ?_) (fun c_6 => ?_)
      · refine lv_iinc (v := nI (z + 1)) (lv' := [(2, .int (nI (z + 1))), (3, .ref (ad (100 + z))), (0, .ref (ad 0)), (1, .int p0)]) hx hb d_C_isBeingOpened_50 hl (k := 1) rfl (by exact nI_1 z) (by decide) rfl (fun ls hl => ?_)
        refine lv_goto (tgt := 2) hx hb d_C_isBeingOpened_53 (by decide) ?_
        exact ih_z (n - (z + 1)) (by omega) ls (z + 1) (lv_sub hl [0, 2, 3] rfl) hlt_z (lt_s hinv_z (by ((try simp only [b2i_eq0, Classical.not_not] at c_6); first | (simp only [i32_eq, i32_lt, i32_le, i32_nm1, i32_n0, i32_n1, i32_n2, i32_n3, i32_n4, i32_n5, i32_n6, i32_n7, i32_n8, i32_n9, i32_n10, i32_n20, i32_n30, i32_n31, i32_n39, i32_n40, i32_n49, i32_n50, i32_n100, i32_n160, i32_n1000, i32_n100000, i32_n1000000] at c_6 ⊢; omega) | grind))) rfl
      · refine lv_aload_n hx hb d_C_isBeingOpened_33 rfl (lv_at hl 0 rfl) ?_
        refine vp_callSi (W.runV (As := []) (rest := []) ⟨hx, hb, hml, hown, hts⟩ (c_I_isOpening l D (tys_ cs) (ad (100 + z)) (σ 20 z) (σ 21 z) (σ 22 z) (σ 23 z) (σ 24 z) (σ 25 z) (σ 26 z) (σ 27 z) (σ 28 z) (σ 29 z)) (cwV 0 hts (gw_V kw_423 kw_424 kw_425 kw_12 kw_426) rfl rfl rfl (by decide +kernel) ⟨Nat.le_of_ble_eq_true rfl, Nat.le_of_ble_eq_true rfl⟩) (rd_V (rl_one hP (RC_ins hlt_z) (gC_ins (by have := hI; unfold Iv at this; omega))) hK (rl_recv hK hP (RC_ins hlt_z) (gC_ins (by have := hI; unfold Iv at this; omega)) rfl)) rfl rfl hl.1 rfl (lv_room (Nat.le_of_ble_eq_true rfl)) d_C_isBeingOpened_34 ⟨Nat.zero_le _, Nat.zero_le _⟩) (fun r_7 h_8 => ?_)
        subst h_8
        refine lv_if_eq (tgt := 50) hx hb d_C_isBeingOpened_37 (by decide) (fun c_9 => ?_) (fun c_9 => ?_)
        · refine lv_iinc (v := nI (z + 1)) (lv' := [(2, .int (nI (z + 1))), (3, .ref (ad (100 + z))), (0, .ref (ad 0)), (1, .int p0)]) hx hb d_C_isBeingOpened_50 hl (k := 1) rfl (by exact nI_1 z) (by decide) rfl (fun ls hl => ?_)
          refine lv_goto (tgt := 2) hx hb d_C_isBeingOpened_53 (by decide) ?_
          exact ih_z (n - (z + 1)) (by omega) ls (z + 1) (lv_sub hl [0, 2, 3] rfl) hlt_z (lt_s hinv_z (by ((try simp only [b2i_eq0, Classical.not_not] at c_6 c_9); first | (simp only [i32_eq, i32_lt, i32_le, i32_nm1, i32_n0, i32_n1, i32_n2, i32_n3, i32_n4, i32_n5, i32_n6, i32_n7, i32_n8, i32_n9, i32_n10, i32_n20, i32_n30, i32_n31, i32_n39, i32_n40, i32_n49, i32_n50, i32_n100, i32_n160, i32_n1000, i32_n100000, i32_n1000000] at c_6 c_9 ⊢; omega) | grind))) rfl
        · refine lv_aload_n hx hb d_C_isBeingOpened_40 rfl (lv_at hl 0 rfl) ?_
          refine rl_get (r := 100 + z) (ci := 2) (v := .int (σ 23 z)) (C := R_I) (T := F_I) (N := 10) hx hb hG in_I hown hK hP (RC_ins hlt_z) (gC_ins (by have := hI; unfold Iv at this; omega)) rfl 3 (by decide) kw_293 (fun _ h9 => h9) rfl d_C_isBeingOpened_41 ?_
          refine lv_iconst (v := 2) hx hb d_C_isBeingOpened_44 (by decide) ?_
          refine lv_icmp_ne (tgt := 50) hx hb d_C_isBeingOpened_45 (by decide) (fun c_10 => ?_) (fun c_10 => ?_)
          · refine lv_iinc (v := nI (z + 1)) (lv' := [(2, .int (nI (z + 1))), (3, .ref (ad (100 + z))), (0, .ref (ad 0)), (1, .int p0)]) hx hb d_C_isBeingOpened_50 hl (k := 1) rfl (by exact nI_1 z) (by decide) rfl (fun ls hl => ?_)
            refine lv_goto (tgt := 2) hx hb d_C_isBeingOpened_53 (by decide) ?_
            exact ih_z (n - (z + 1)) (by omega) ls (z + 1) (lv_sub hl [0, 2, 3] rfl) hlt_z (lt_s hinv_z (by ((try simp only [b2i_eq0, Classical.not_not] at c_6 c_9 c_10); first | (simp only [i32_eq, i32_lt, i32_le, i32_nm1, i32_n0, i32_n1, i32_n2, i32_n3, i32_n4, i32_n5, i32_n6, i32_n7, i32_n8, i32_n9, i32_n10, i32_n20, i32_n30, i32_n31, i32_n39, i32_n40, i32_n49, i32_n50, i32_n100, i32_n160, i32_n1000, i32_n100000, i32_n1000000] at c_6 c_9 c_10 ⊢; omega) | grind))) rfl
          · refine lv_iconst (v := 1) hx hb d_C_isBeingOpened_48 (by decide) ?_
            exact W.zret (v := 1) (ty := .boolean) hx hb hr rfl (fun t ht hW => ⟨1, rfl, (b2i_t ⟨z, hlt_z, by ((try simp only [b2i_eq0, Classical.not_not] at c_6 c_9 c_10); first | (simp only [i32_eq, i32_lt, i32_le, i32_nm1, i32_n0, i32_n1, i32_n2, i32_n3, i32_n4, i32_n5, i32_n6, i32_n7, i32_n8, i32_n9, i32_n10, i32_n20, i32_n30, i32_n31, i32_n39, i32_n40, i32_n49, i32_n50, i32_n100, i32_n160, i32_n1000, i32_n100000, i32_n1000000] at c_6 c_9 c_10 ⊢; omega) | grind)⟩).symm, ht⟩) (fun q h => nomatch h) d_C_isBeingOpened_49
set_option maxHeartbeats 4000000 in
set_option maxRecDepth 100000 in
theorem c_C_hasPendingInspection (l : Launch) (D : va_G) (cs : Nat → ClassId) (ad : Nat → Nat) (σ : Nat → Nat → Int32) (n nm ci cj E : Nat) (hI : Iv n nm ci cj) (p0 : Int32) : Met l y_C_hasPendingInspection (Cond.code y_C_hasPendingInspection b_C_hasPendingInspection 4 (some .boolean) :: GW) ({ frames := 3, cells := 0, slots := 0, locals := 96 }) (va_Pc [.ref (ad 0), .int p0] (rd_B D (tys_ cs) (wC cs ad σ n nm ci cj E))) (vp_Si (fun r => r = b2i (∃ j, j < n ∧ σ 20 j = p0 ∧ ¬ σ 23 j = 3 ∧ ¬ σ 23 j = 5))) 0 0 (fun _ => False) := by
  refine Met.ofW (cc := b_C_hasPendingInspection) (maxL := 4) (ret := (some .boolean)) (by decide) rfl ?_
  intro p e s m args below meth c s₁ B hml hv
  obtain ⟨rfl, hP, hK⟩ := hv
  have hx := B.exec
  have hb := B.bytes
  have hr := B.returns
  have hts := atoms_spec (ws := Cond.code y_C_hasPendingInspection b_C_hasPendingInspection 4 (some .boolean) :: GW) B.pre
  have hG : ∀ w ∈ GW, w.before _ s = true := fun w h => hts w (List.mem_cons_of_mem _ h)
  have hown : s.vm.findClass R_C = some m.cls := findClass_of_methodNamed B.named
  have hlocks := B.notSynchronized
  have hl := lv_entry ([.ref (ad 0), .int p0]) (n := 4) (Nat.le_of_ble_eq_true rfl)
  rw [lg_entry_eq]
  generalize (lg_sl ([.ref (ad 0), .int p0]) ++ List.replicate (4 - (lg_sl ([.ref (ad 0), .int p0])).length) Slot.unset).toArray = ls at hl ⊢
  have hl : lv_has ls 4 [(0, .ref (ad 0)), (1, .int p0)] := hl
  refine lv_iconst (v := 0) hx hb d_C_hasPendingInspection_0 (by decide) ?_
  refine lv_istore_n (lv' := [(2, .int 0), (0, .ref (ad 0)), (1, .int p0)]) hx hb d_C_hasPendingInspection_1 rfl hl (by decide) rfl (fun ls hl => ?_)
  replace hl : ∃ z : Nat, lv_has ls 4 [(2, .int (nI z)), (0, .ref (ad 0)), (1, .int p0)] ∧ z ≤ n ∧ (∀ j, j < z → ¬ (σ 20 j = p0 ∧ ¬ σ 23 j = 3 ∧ ¬ σ 23 j = 5)) := ⟨0, lv_sub hl [0, 1, 2] rfl, Nat.zero_le _, fun _ h => absurd h (Nat.not_lt_zero _)⟩
  obtain ⟨z, hl, hle_z, hinv_z⟩ := hl
  obtain ⟨k_z, hk_z⟩ : ∃ k, n - z = k := ⟨_, rfl⟩
  induction k_z using Nat.strongRecOn generalizing z ls with
  | _ k_z ih_z =>
    refine lv_iload_n hx hb d_C_hasPendingInspection_2 rfl (lv_at hl 0 rfl) ?_
    refine lv_aload_n hx hb d_C_hasPendingInspection_3 rfl (lv_at hl 1 rfl) ?_
    refine rl_get (r := 0) (ci := 1) (v := .ref (ad 1)) (C := R_C) (T := F_C) (N := 10) hx hb hG in_C hown hK hP (RC_f (by decide)) gC_0 rfl 0 (by decide) kw_59 (fun _ h9 => h9) rfl d_C_hasPendingInspection_4 ?_
    refine vp_callSi (W.runV (As := []) (rest := [.int (nI z)]) ⟨hx, hb, hml, hown, hts⟩ (c_Al_size l D (tys_ cs) (ad 1) (.ref (if n = 0 then E else ad 3)) (nI n) (σ 7 0)) (cwV 0 hts (gw_V kw_116 kw_117 kw_118 kw_4 kw_119) rfl rfl rfl (by decide +kernel) ⟨Nat.le_of_ble_eq_true rfl, Nat.le_of_ble_eq_true rfl⟩) (rd_V (rl_one hP (RC_f (by decide)) gC_1') hK (rl_recv hK hP (RC_f (by decide)) gC_1' rfl)) rfl rfl hl.1 rfl (lv_room (Nat.le_of_ble_eq_true rfl)) d_C_hasPendingInspection_7 ⟨Nat.zero_le _, Nat.zero_le _⟩) (fun r_1 h_2 => ?_)
    subst h_2
    refine lv_icmp_ge (tgt := 48) hx hb d_C_hasPendingInspection_10 (by decide) (fun c_3 => ?_) (fun c_3 => ?_)
    · have hz_z : z = n := nI_exit hle_z c_3 (by have := hI; unfold Iv at this; omega)
      subst hz_z
      refine lv_iconst (v := 0) hx hb d_C_hasPendingInspection_48 (by decide) ?_
      exact W.zret (v := 0) (ty := .boolean) hx hb hr rfl (fun t ht hW => ⟨0, rfl, (b2i_f (fun ⟨j, hj, h⟩ => hinv_z j hj h)).symm, ht⟩) (fun q h => nomatch h) d_C_hasPendingInspection_49
    · have hlt_z : z < n := nI_go hle_z c_3 (by have := hI; unfold Iv at this; omega)
      refine lv_aload_n hx hb d_C_hasPendingInspection_13 rfl (lv_at hl 1 rfl) ?_
      refine rl_get (r := 0) (ci := 1) (v := .ref (ad 1)) (C := R_C) (T := F_C) (N := 10) hx hb hG in_C hown hK hP (RC_f (by decide)) gC_0 rfl 0 (by decide) kw_59 (fun _ h9 => h9) rfl d_C_hasPendingInspection_14 ?_
      refine lv_iload_n hx hb d_C_hasPendingInspection_17 rfl (lv_at hl 0 rfl) ?_
      refine va_csr (W.runV (As := [.int (nI z)]) (rest := []) ⟨hx, hb, hml, hown, hts⟩ (c_Al_get l D (tys_ cs) (ad 1) (ad 3) n ci z (ad (100 + z)) (σ 7 0) (cs 2) (rowsF 100 n ad) hlt_z hI.2.2.1 (by have := hI; unfold Iv at this; omega) 2 rfl (if_pos hlt_z)) (cwV 1 hts (gw_V kw_120 kw_121 kw_122 kw_4 kw_123) rfl rfl rfl (by decide +kernel) ⟨Nat.le_of_ble_eq_true rfl, Nat.le_of_ble_eq_true rfl⟩) (rd_V (rl_two hP (RC_f (by decide)) (gC_1 (Nat.lt_of_le_of_lt (Nat.zero_le _) hlt_z)) (RC_3 (Nat.lt_of_le_of_lt (Nat.zero_le _) hlt_z)) gC_3) hK (rl_recv hK hP (RC_f (by decide)) (gC_1 (Nat.lt_of_le_of_lt (Nat.zero_le _) hlt_z)) rfl)) rfl rfl hl.1 rfl (lv_room (Nat.le_of_ble_eq_true rfl)) d_C_hasPendingInspection_18 ⟨Nat.zero_le _, Nat.zero_le _⟩) (fun r_4 h_5 => ?_)
      subst h_5
      refine va_castS hx hb hown (hG _ kw_134) ((hK.1 2 _ rfl).2) (rl_recv hK hP (RC_ins hlt_z) (gC_ins (by have := hI; unfold Iv at this; omega)) rfl) d_C_hasPendingInspection_21 ?_
      refine lv_astore_n (lv' := [(3, .ref (ad (100 + z))), (2, .int (nI z)), (0, .ref (ad 0)), (1, .int p0)]) hx hb d_C_hasPendingInspection_24 rfl hl (by decide) rfl (fun ls hl => ?_)
      refine lv_aload_n hx hb d_C_hasPendingInspection_25 rfl (lv_at hl 0 rfl) ?_
      refine rl_get (r := 100 + z) (ci := 2) (v := .int (σ 20 z)) (C := R_I) (T := F_I) (N := 10) hx hb hG in_I hown hK hP (RC_ins hlt_z) (gC_ins (by have := hI; unfold Iv at this; omega)) rfl 0 (by decide) kw_288 (fun _ h9 => h9) rfl d_C_hasPendingInspection_26 ?_
      refine lv_iload_n hx hb d_C_hasPendingInspection_29 rfl (lv_at hl 3 rfl) ?_
      refine lv_icmp_ne (tgt := 42) hx hb d_C_hasPendingInspection_30 (by decide) (fun c_6 => ?_) (fun c_6 => ?_)
      · refine lv_iinc (v := nI (z + 1)) (lv' := [(2, .int (nI (z + 1))), (3, .ref (ad (100 + z))), (0, .ref (ad 0)), (1, .int p0)]) hx hb d_C_hasPendingInspection_42 hl (k := 1) rfl (by exact nI_1 z) (by decide) rfl (fun ls hl => ?_)
        refine lv_goto (tgt := 2) hx hb d_C_hasPendingInspection_45 (by decide) ?_
        exact ih_z (n - (z + 1)) (by omega) ls (z + 1) (lv_sub hl [0, 2, 3] rfl) hlt_z (lt_s hinv_z (by ((try simp only [b2i_eq0, Classical.not_not] at c_6); first | (simp only [i32_eq, i32_lt, i32_le, i32_nm1, i32_n0, i32_n1, i32_n2, i32_n3, i32_n4, i32_n5, i32_n6, i32_n7, i32_n8, i32_n9, i32_n10, i32_n20, i32_n30, i32_n31, i32_n39, i32_n40, i32_n49, i32_n50, i32_n100, i32_n160, i32_n1000, i32_n100000, i32_n1000000] at c_6 ⊢; omega) | grind))) rfl
      · refine lv_aload_n hx hb d_C_hasPendingInspection_33 rfl (lv_at hl 0 rfl) ?_
        refine vp_callSi (W.runV (As := []) (rest := []) ⟨hx, hb, hml, hown, hts⟩ (c_I_isPending l D (tys_ cs) (ad (100 + z)) (σ 20 z) (σ 21 z) (σ 22 z) (σ 23 z) (σ 24 z) (σ 25 z) (σ 26 z) (σ 27 z) (σ 28 z) (σ 29 z)) (cwV 0 hts (gw_V kw_540 kw_521 kw_522 kw_12 kw_523) rfl rfl rfl (by decide +kernel) ⟨Nat.le_of_ble_eq_true rfl, Nat.le_of_ble_eq_true rfl⟩) (rd_V (rl_one hP (RC_ins hlt_z) (gC_ins (by have := hI; unfold Iv at this; omega))) hK (rl_recv hK hP (RC_ins hlt_z) (gC_ins (by have := hI; unfold Iv at this; omega)) rfl)) rfl rfl hl.1 rfl (lv_room (Nat.le_of_ble_eq_true rfl)) d_C_hasPendingInspection_34 ⟨Nat.zero_le _, Nat.zero_le _⟩) (fun r_7 h_8 => ?_)
        subst h_8
        refine lv_if_eq (tgt := 42) hx hb d_C_hasPendingInspection_37 (by decide) (fun c_9 => ?_) (fun c_9 => ?_)
        · refine lv_iinc (v := nI (z + 1)) (lv' := [(2, .int (nI (z + 1))), (3, .ref (ad (100 + z))), (0, .ref (ad 0)), (1, .int p0)]) hx hb d_C_hasPendingInspection_42 hl (k := 1) rfl (by exact nI_1 z) (by decide) rfl (fun ls hl => ?_)
          refine lv_goto (tgt := 2) hx hb d_C_hasPendingInspection_45 (by decide) ?_
          exact ih_z (n - (z + 1)) (by omega) ls (z + 1) (lv_sub hl [0, 2, 3] rfl) hlt_z (lt_s hinv_z (by ((try simp only [b2i_eq0, Classical.not_not] at c_6 c_9); first | (simp only [i32_eq, i32_lt, i32_le, i32_nm1, i32_n0, i32_n1, i32_n2, i32_n3, i32_n4, i32_n5, i32_n6, i32_n7, i32_n8, i32_n9, i32_n10, i32_n20, i32_n30, i32_n31, i32_n39, i32_n40, i32_n49, i32_n50, i32_n100, i32_n160, i32_n1000, i32_n100000, i32_n1000000] at c_6 c_9 ⊢; omega) | grind))) rfl
        · refine lv_iconst (v := 1) hx hb d_C_hasPendingInspection_40 (by decide) ?_
          exact W.zret (v := 1) (ty := .boolean) hx hb hr rfl (fun t ht hW => ⟨1, rfl, (b2i_t ⟨z, hlt_z, by ((try simp only [b2i_eq0, Classical.not_not] at c_6 c_9); first | (simp only [i32_eq, i32_lt, i32_le, i32_nm1, i32_n0, i32_n1, i32_n2, i32_n3, i32_n4, i32_n5, i32_n6, i32_n7, i32_n8, i32_n9, i32_n10, i32_n20, i32_n30, i32_n31, i32_n39, i32_n40, i32_n49, i32_n50, i32_n100, i32_n160, i32_n1000, i32_n100000, i32_n1000000] at c_6 c_9 ⊢; omega) | grind)⟩).symm, ht⟩) (fun q h => nomatch h) d_C_hasPendingInspection_41
set_option maxHeartbeats 4000000 in
set_option maxRecDepth 100000 in
theorem c_C_isSealOfSample (l : Launch) (D : va_G) (cs : Nat → ClassId) (ad : Nat → Nat) (σ : Nat → Nat → Int32) (n nm ci cj E : Nat) (hI : Iv n nm ci cj) (p0 : Int32) : Met l y_C_isSealOfSample (Cond.code y_C_isSealOfSample b_C_isSealOfSample 3 (some .boolean) :: GW) ({ frames := 3, cells := 0, slots := 0, locals := 96 }) (va_Pc [.ref (ad 0), .int p0] (rd_B D (tys_ cs) (wC cs ad σ n nm ci cj E))) (vp_Si (fun r => r = b2i (∃ j, j < nm ∧ σ 31 j = p0))) 0 0 (fun _ => False) := by
  refine Met.ofW (cc := b_C_isSealOfSample) (maxL := 3) (ret := (some .boolean)) (by decide) rfl ?_
  intro p e s m args below meth c s₁ B hml hv
  obtain ⟨rfl, hP, hK⟩ := hv
  have hx := B.exec
  have hb := B.bytes
  have hr := B.returns
  have hts := atoms_spec (ws := Cond.code y_C_isSealOfSample b_C_isSealOfSample 3 (some .boolean) :: GW) B.pre
  have hG : ∀ w ∈ GW, w.before _ s = true := fun w h => hts w (List.mem_cons_of_mem _ h)
  have hown : s.vm.findClass R_C = some m.cls := findClass_of_methodNamed B.named
  have hlocks := B.notSynchronized
  have hl := lv_entry ([.ref (ad 0), .int p0]) (n := 3) (Nat.le_of_ble_eq_true rfl)
  rw [lg_entry_eq]
  generalize (lg_sl ([.ref (ad 0), .int p0]) ++ List.replicate (3 - (lg_sl ([.ref (ad 0), .int p0])).length) Slot.unset).toArray = ls at hl ⊢
  have hl : lv_has ls 3 [(0, .ref (ad 0)), (1, .int p0)] := hl
  refine lv_iconst (v := 0) hx hb d_C_isSealOfSample_0 (by decide) ?_
  refine lv_istore_n (lv' := [(2, .int 0), (0, .ref (ad 0)), (1, .int p0)]) hx hb d_C_isSealOfSample_1 rfl hl (by decide) rfl (fun ls hl => ?_)
  replace hl : ∃ z : Nat, lv_has ls 3 [(2, .int (nI z)), (0, .ref (ad 0)), (1, .int p0)] ∧ z ≤ nm ∧ (∀ j, j < z → ¬ (σ 31 j = p0)) := ⟨0, lv_sub hl [0, 1, 2] rfl, Nat.zero_le _, fun _ h => absurd h (Nat.not_lt_zero _)⟩
  obtain ⟨z, hl, hle_z, hinv_z⟩ := hl
  obtain ⟨k_z, hk_z⟩ : ∃ k, nm - z = k := ⟨_, rfl⟩
  induction k_z using Nat.strongRecOn generalizing z ls with
  | _ k_z ih_z =>
    refine lv_iload_n hx hb d_C_isSealOfSample_2 rfl (lv_at hl 0 rfl) ?_
    refine lv_aload_n hx hb d_C_isSealOfSample_3 rfl (lv_at hl 1 rfl) ?_
    refine rl_get (r := 0) (ci := 1) (v := .ref (ad 2)) (C := R_C) (T := F_C) (N := 10) hx hb hG in_C hown hK hP (RC_f (by decide)) gC_0 rfl 1 (by decide) kw_60 (fun _ h9 => h9) rfl d_C_isSealOfSample_4 ?_
    refine vp_callSi (W.runV (As := []) (rest := [.int (nI z)]) ⟨hx, hb, hml, hown, hts⟩ (c_Al_size l D (tys_ cs) (ad 2) (.ref (if nm = 0 then E else ad 4)) (nI nm) (σ 7 1)) (cwV 0 hts (gw_V kw_116 kw_117 kw_118 kw_4 kw_119) rfl rfl rfl (by decide +kernel) ⟨Nat.le_of_ble_eq_true rfl, Nat.le_of_ble_eq_true rfl⟩) (rd_V (rl_one hP (RC_f (by decide)) gC_2') hK (rl_recv hK hP (RC_f (by decide)) gC_2' rfl)) rfl rfl hl.1 rfl (lv_room (Nat.le_of_ble_eq_true rfl)) d_C_isSealOfSample_7 ⟨Nat.zero_le _, Nat.zero_le _⟩) (fun r_1 h_2 => ?_)
    subst h_2
    refine lv_icmp_ge (tgt := 39) hx hb d_C_isSealOfSample_10 (by decide) (fun c_3 => ?_) (fun c_3 => ?_)
    · have hz_z : z = nm := nI_exit hle_z c_3 (by have := hI; unfold Iv at this; omega)
      subst hz_z
      refine lv_iconst (v := 0) hx hb d_C_isSealOfSample_39 (by decide) ?_
      exact W.zret (v := 0) (ty := .boolean) hx hb hr rfl (fun t ht hW => ⟨0, rfl, (b2i_f (fun ⟨j, hj, h⟩ => hinv_z j hj h)).symm, ht⟩) (fun q h => nomatch h) d_C_isSealOfSample_40
    · have hlt_z : z < nm := nI_go hle_z c_3 (by have := hI; unfold Iv at this; omega)
      refine lv_aload_n hx hb d_C_isSealOfSample_13 rfl (lv_at hl 1 rfl) ?_
      refine rl_get (r := 0) (ci := 1) (v := .ref (ad 2)) (C := R_C) (T := F_C) (N := 10) hx hb hG in_C hown hK hP (RC_f (by decide)) gC_0 rfl 1 (by decide) kw_60 (fun _ h9 => h9) rfl d_C_isSealOfSample_14 ?_
      refine lv_iload_n hx hb d_C_isSealOfSample_17 rfl (lv_at hl 0 rfl) ?_
      refine va_csr (W.runV (As := [.int (nI z)]) (rest := []) ⟨hx, hb, hml, hown, hts⟩ (c_Al_get l D (tys_ cs) (ad 2) (ad 4) nm cj z (ad (200 + z)) (σ 7 1) (cs 2) (rowsF 200 nm ad) hlt_z hI.2.2.2.1 (by have := hI; unfold Iv at this; omega) 2 rfl (if_pos hlt_z)) (cwV 1 hts (gw_V kw_120 kw_121 kw_122 kw_4 kw_123) rfl rfl rfl (by decide +kernel) ⟨Nat.le_of_ble_eq_true rfl, Nat.le_of_ble_eq_true rfl⟩) (rd_V (rl_two hP (RC_f (by decide)) (gC_2 (Nat.lt_of_le_of_lt (Nat.zero_le _) hlt_z)) (RC_4 (Nat.lt_of_le_of_lt (Nat.zero_le _) hlt_z)) gC_4) hK (rl_recv hK hP (RC_f (by decide)) (gC_2 (Nat.lt_of_le_of_lt (Nat.zero_le _) hlt_z)) rfl)) rfl rfl hl.1 rfl (lv_room (Nat.le_of_ble_eq_true rfl)) d_C_isSealOfSample_18 ⟨Nat.zero_le _, Nat.zero_le _⟩) (fun r_4 h_5 => ?_)
      subst h_5
      refine va_castS hx hb hown (hG _ kw_173) ((hK.1 3 _ rfl).2) (rl_recv hK hP (RC_sam hlt_z) (gC_sam (by have := hI; unfold Iv at this; omega)) rfl) d_C_isSealOfSample_21 ?_
      refine rl_get (r := 200 + z) (ci := 3) (v := .int (σ 31 z)) (C := R_S) (T := F_S) (N := 4) hx hb hG in_S hown hK hP (RC_sam hlt_z) (gC_sam (by have := hI; unfold Iv at this; omega)) rfl 1 (by decide) kw_472 (fun _ h9 => h9) rfl d_C_isSealOfSample_24 ?_
      refine lv_iload_n hx hb d_C_isSealOfSample_27 rfl (lv_at hl 2 rfl) ?_
      refine lv_icmp_ne (tgt := 33) hx hb d_C_isSealOfSample_28 (by decide) (fun c_6 => ?_) (fun c_6 => ?_)
      · refine lv_iinc (v := nI (z + 1)) (lv' := [(2, .int (nI (z + 1))), (0, .ref (ad 0)), (1, .int p0)]) hx hb d_C_isSealOfSample_33 hl (k := 0) rfl (by exact nI_1 z) (by decide) rfl (fun ls hl => ?_)
        refine lv_goto (tgt := 2) hx hb d_C_isSealOfSample_36 (by decide) ?_
        exact ih_z (nm - (z + 1)) (by omega) ls (z + 1) (lv_sub hl [0, 1, 2] rfl) hlt_z (lt_s hinv_z (by ((try simp only [b2i_eq0, Classical.not_not] at c_6); first | (simp only [i32_eq, i32_lt, i32_le, i32_nm1, i32_n0, i32_n1, i32_n2, i32_n3, i32_n4, i32_n5, i32_n6, i32_n7, i32_n8, i32_n9, i32_n10, i32_n20, i32_n30, i32_n31, i32_n39, i32_n40, i32_n49, i32_n50, i32_n100, i32_n160, i32_n1000, i32_n100000, i32_n1000000] at c_6 ⊢; omega) | grind))) rfl
      · refine lv_iconst (v := 1) hx hb d_C_isSealOfSample_31 (by decide) ?_
        exact W.zret (v := 1) (ty := .boolean) hx hb hr rfl (fun t ht hW => ⟨1, rfl, (b2i_t ⟨z, hlt_z, by ((try simp only [b2i_eq0, Classical.not_not] at c_6); first | (simp only [i32_eq, i32_lt, i32_le, i32_nm1, i32_n0, i32_n1, i32_n2, i32_n3, i32_n4, i32_n5, i32_n6, i32_n7, i32_n8, i32_n9, i32_n10, i32_n20, i32_n30, i32_n31, i32_n39, i32_n40, i32_n49, i32_n50, i32_n100, i32_n160, i32_n1000, i32_n100000, i32_n1000000] at c_6 ⊢; omega) | grind)⟩).symm, ht⟩) (fun q h => nomatch h) d_C_isSealOfSample_32
set_option maxHeartbeats 4000000 in
set_option maxRecDepth 100000 in
theorem c_S_hasResult (l : Launch) (D : va_G) (cs : Nat → ClassId) (a b : Nat) (d0 s0 : Int32) (v : Value) (f : Nat → Int32) : Met l y_S_hasResult (Cond.code y_S_hasResult b_S_hasResult 2 (some .boolean) :: GW) ({ frames := 0, cells := 0, slots := 0, locals := 0 }) (va_Pc [.ref a] (rd_B D (tys_ cs) [(a, .inr (3, [.int d0, .int s0, .ref b, v])), (b, arI (cs 0) 4 f)])) (vp_Si (fun r => r = b2i (∃ j, j < 4 ∧ ¬ f j = -1))) 0 0 (fun _ => False) := by
  refine Met.ofW (cc := b_S_hasResult) (maxL := 2) (ret := (some .boolean)) (by decide) rfl ?_
  intro p e s m args below meth c s₁ B hml hv
  obtain ⟨rfl, hP, hK⟩ := hv
  have hx := B.exec
  have hb := B.bytes
  have hr := B.returns
  have hts := atoms_spec (ws := Cond.code y_S_hasResult b_S_hasResult 2 (some .boolean) :: GW) B.pre
  have hG : ∀ w ∈ GW, w.before _ s = true := fun w h => hts w (List.mem_cons_of_mem _ h)
  have hown : s.vm.findClass R_S = some m.cls := findClass_of_methodNamed B.named
  have hlocks := B.notSynchronized
  have hl := lv_entry ([.ref a]) (n := 2) (Nat.le_of_ble_eq_true rfl)
  rw [lg_entry_eq]
  generalize (lg_sl ([.ref a]) ++ List.replicate (2 - (lg_sl ([.ref a])).length) Slot.unset).toArray = ls at hl ⊢
  have hl : lv_has ls 2 [(0, .ref a)] := hl
  refine lv_iconst (v := 0) hx hb d_S_hasResult_0 (by decide) ?_
  refine lv_istore_n (lv' := [(1, .int 0), (0, .ref a)]) hx hb d_S_hasResult_1 rfl hl (by decide) rfl (fun ls hl => ?_)
  replace hl : ∃ z : Nat, lv_has ls 2 [(1, .int (nI z)), (0, .ref a)] ∧ z ≤ 4 ∧ (∀ j, j < z → ¬ (¬ f j = -1)) := ⟨0, lv_sub hl [0, 1] rfl, Nat.zero_le _, fun _ h => absurd h (Nat.not_lt_zero _)⟩
  obtain ⟨z, hl, hle_z, hinv_z⟩ := hl
  obtain ⟨k_z, hk_z⟩ : ∃ k, 4 - z = k := ⟨_, rfl⟩
  induction k_z using Nat.strongRecOn generalizing z ls with
  | _ k_z ih_z =>
    refine lv_iload_n hx hb d_S_hasResult_2 rfl (lv_at hl 0 rfl) ?_
    refine lv_iconst (v := 4) hx hb d_S_hasResult_3 (by decide) ?_
    refine lv_icmp_ge (tgt := 25) hx hb d_S_hasResult_4 (by decide) (fun c_1 => ?_) (fun c_1 => ?_)
    · have hz_z : z = 4 := nI_exit hle_z c_1 (by decide)
      subst hz_z
      refine lv_iconst (v := 0) hx hb d_S_hasResult_25 (by decide) ?_
      exact W.zret (v := 0) (ty := .boolean) hx hb hr rfl (fun t ht hW => ⟨0, rfl, (b2i_f (fun ⟨j, hj, h⟩ => hinv_z j hj h)).symm, ht⟩) (fun q h => nomatch h) d_S_hasResult_26
    · have hlt_z : z < 4 := nI_go hle_z c_1 (by decide)
      refine lv_aload_n hx hb d_S_hasResult_7 rfl (lv_at hl 1 rfl) ?_
      refine va_get (D := D) (ci := 3) (v := .ref b) (C := R_S) (T := F_S) (N := 4) hx hb hG in_S hown hK hP 0 rfl rfl 2 (by decide) (hG _ kw_473) (fun _ h9 => h9) rfl d_S_hasResult_8 ?_
      refine lv_iload_n hx hb d_S_hasResult_11 rfl (lv_at hl 0 rfl) ?_
      refine va_iald hx hb hK hP 1 0 rfl rfl (vp_in_nI hlt_z (by decide)) d_S_hasResult_12 ?_
      rw [nI_clamp (Nat.lt_trans hlt_z (by decide))]
      refine lv_iconst (v := (-1)) hx hb d_S_hasResult_13 (by decide) ?_
      refine lv_icmp_eq (tgt := 19) hx hb d_S_hasResult_14 (by decide) (fun c_2 => ?_) (fun c_2 => ?_)
      · refine lv_iinc (v := nI (z + 1)) (lv' := [(1, .int (nI (z + 1))), (0, .ref a)]) hx hb d_S_hasResult_19 hl (k := 0) rfl (by exact nI_1 z) (by decide) rfl (fun ls hl => ?_)
        refine lv_goto (tgt := 2) hx hb d_S_hasResult_22 (by decide) ?_
        exact ih_z (4 - (z + 1)) (by omega) ls (z + 1) (lv_sub hl [0, 1] rfl) hlt_z (lt_s hinv_z (by ((try simp only [b2i_eq0, Classical.not_not] at c_2); first | (simp only [i32_eq, i32_lt, i32_le, i32_nm1, i32_n0, i32_n1, i32_n2, i32_n3, i32_n4, i32_n5, i32_n6, i32_n7, i32_n8, i32_n9, i32_n10, i32_n20, i32_n30, i32_n31, i32_n39, i32_n40, i32_n49, i32_n50, i32_n100, i32_n160, i32_n1000, i32_n100000, i32_n1000000] at c_2 ⊢; omega) | grind))) rfl
      · refine lv_iconst (v := 1) hx hb d_S_hasResult_17 (by decide) ?_
        exact W.zret (v := 1) (ty := .boolean) hx hb hr rfl (fun t ht hW => ⟨1, rfl, (b2i_t ⟨z, hlt_z, by ((try simp only [b2i_eq0, Classical.not_not] at c_2); first | (simp only [i32_eq, i32_lt, i32_le, i32_nm1, i32_n0, i32_n1, i32_n2, i32_n3, i32_n4, i32_n5, i32_n6, i32_n7, i32_n8, i32_n9, i32_n10, i32_n20, i32_n30, i32_n31, i32_n39, i32_n40, i32_n49, i32_n50, i32_n100, i32_n160, i32_n1000, i32_n100000, i32_n1000000] at c_2 ⊢; omega) | grind)⟩).symm, ht⟩) (fun q h => nomatch h) d_S_hasResult_18
set_option maxHeartbeats 4000000 in
set_option maxRecDepth 100000 in
theorem c_C_hasSampleWithoutResult (l : Launch) (D : va_G) (cs : Nat → ClassId) (ad : Nat → Nat) (σ : Nat → Nat → Int32) (n nm ci cj E : Nat) (hI : Iv n nm ci cj) (p0 : Int32) : Met l y_C_hasSampleWithoutResult (Cond.code y_C_hasSampleWithoutResult b_C_hasSampleWithoutResult 4 (some .boolean) :: GW) ({ frames := 3, cells := 0, slots := 0, locals := 96 }) (va_Pc [.ref (ad 0), .int p0] (rd_B D (tys_ cs) (wC cs ad σ n nm ci cj E))) (vp_Si (fun r => r = b2i (∃ j, j < nm ∧ σ 30 j = p0 ∧ ¬ ∃ q, q < 4 ∧ ¬ σ (1000 + j) q = -1))) 0 0 (fun _ => False) := by
  refine Met.ofW (cc := b_C_hasSampleWithoutResult) (maxL := 4) (ret := (some .boolean)) (by decide) rfl ?_
  intro p e s m args below meth c s₁ B hml hv
  obtain ⟨rfl, hP, hK⟩ := hv
  have hx := B.exec
  have hb := B.bytes
  have hr := B.returns
  have hts := atoms_spec (ws := Cond.code y_C_hasSampleWithoutResult b_C_hasSampleWithoutResult 4 (some .boolean) :: GW) B.pre
  have hG : ∀ w ∈ GW, w.before _ s = true := fun w h => hts w (List.mem_cons_of_mem _ h)
  have hown : s.vm.findClass R_C = some m.cls := findClass_of_methodNamed B.named
  have hlocks := B.notSynchronized
  have hl := lv_entry ([.ref (ad 0), .int p0]) (n := 4) (Nat.le_of_ble_eq_true rfl)
  rw [lg_entry_eq]
  generalize (lg_sl ([.ref (ad 0), .int p0]) ++ List.replicate (4 - (lg_sl ([.ref (ad 0), .int p0])).length) Slot.unset).toArray = ls at hl ⊢
  have hl : lv_has ls 4 [(0, .ref (ad 0)), (1, .int p0)] := hl
  refine lv_iconst (v := 0) hx hb d_C_hasSampleWithoutResult_0 (by decide) ?_
  refine lv_istore_n (lv' := [(2, .int 0), (0, .ref (ad 0)), (1, .int p0)]) hx hb d_C_hasSampleWithoutResult_1 rfl hl (by decide) rfl (fun ls hl => ?_)
  replace hl : ∃ z : Nat, lv_has ls 4 [(2, .int (nI z)), (0, .ref (ad 0)), (1, .int p0)] ∧ z ≤ nm ∧ (∀ j, j < z → ¬ (σ 30 j = p0 ∧ ¬ ∃ q, q < 4 ∧ ¬ σ (1000 + j) q = -1)) := ⟨0, lv_sub hl [0, 1, 2] rfl, Nat.zero_le _, fun _ h => absurd h (Nat.not_lt_zero _)⟩
  obtain ⟨z, hl, hle_z, hinv_z⟩ := hl
  obtain ⟨k_z, hk_z⟩ : ∃ k, nm - z = k := ⟨_, rfl⟩
  induction k_z using Nat.strongRecOn generalizing z ls with
  | _ k_z ih_z =>
    refine lv_iload_n hx hb d_C_hasSampleWithoutResult_2 rfl (lv_at hl 0 rfl) ?_
    refine lv_aload_n hx hb d_C_hasSampleWithoutResult_3 rfl (lv_at hl 1 rfl) ?_
    refine rl_get (r := 0) (ci := 1) (v := .ref (ad 2)) (C := R_C) (T := F_C) (N := 10) hx hb hG in_C hown hK hP (RC_f (by decide)) gC_0 rfl 1 (by decide) kw_60 (fun _ h9 => h9) rfl d_C_hasSampleWithoutResult_4 ?_
    refine vp_callSi (W.runV (As := []) (rest := [.int (nI z)]) ⟨hx, hb, hml, hown, hts⟩ (c_Al_size l D (tys_ cs) (ad 2) (.ref (if nm = 0 then E else ad 4)) (nI nm) (σ 7 1)) (cwV 0 hts (gw_V kw_116 kw_117 kw_118 kw_4 kw_119) rfl rfl rfl (by decide +kernel) ⟨Nat.le_of_ble_eq_true rfl, Nat.le_of_ble_eq_true rfl⟩) (rd_V (rl_one hP (RC_f (by decide)) gC_2') hK (rl_recv hK hP (RC_f (by decide)) gC_2' rfl)) rfl rfl hl.1 rfl (lv_room (Nat.le_of_ble_eq_true rfl)) d_C_hasSampleWithoutResult_7 ⟨Nat.zero_le _, Nat.zero_le _⟩) (fun r_1 h_2 => ?_)
    subst h_2
    refine lv_icmp_ge (tgt := 48) hx hb d_C_hasSampleWithoutResult_10 (by decide) (fun c_3 => ?_) (fun c_3 => ?_)
    · have hz_z : z = nm := nI_exit hle_z c_3 (by have := hI; unfold Iv at this; omega)
      subst hz_z
      refine lv_iconst (v := 0) hx hb d_C_hasSampleWithoutResult_48 (by decide) ?_
      exact W.zret (v := 0) (ty := .boolean) hx hb hr rfl (fun t ht hW => ⟨0, rfl, (b2i_f (fun ⟨j, hj, h⟩ => hinv_z j hj h)).symm, ht⟩) (fun q h => nomatch h) d_C_hasSampleWithoutResult_49
    · have hlt_z : z < nm := nI_go hle_z c_3 (by have := hI; unfold Iv at this; omega)
      refine lv_aload_n hx hb d_C_hasSampleWithoutResult_13 rfl (lv_at hl 1 rfl) ?_
      refine rl_get (r := 0) (ci := 1) (v := .ref (ad 2)) (C := R_C) (T := F_C) (N := 10) hx hb hG in_C hown hK hP (RC_f (by decide)) gC_0 rfl 1 (by decide) kw_60 (fun _ h9 => h9) rfl d_C_hasSampleWithoutResult_14 ?_
      refine lv_iload_n hx hb d_C_hasSampleWithoutResult_17 rfl (lv_at hl 0 rfl) ?_
      refine va_csr (W.runV (As := [.int (nI z)]) (rest := []) ⟨hx, hb, hml, hown, hts⟩ (c_Al_get l D (tys_ cs) (ad 2) (ad 4) nm cj z (ad (200 + z)) (σ 7 1) (cs 2) (rowsF 200 nm ad) hlt_z hI.2.2.2.1 (by have := hI; unfold Iv at this; omega) 2 rfl (if_pos hlt_z)) (cwV 1 hts (gw_V kw_120 kw_121 kw_122 kw_4 kw_123) rfl rfl rfl (by decide +kernel) ⟨Nat.le_of_ble_eq_true rfl, Nat.le_of_ble_eq_true rfl⟩) (rd_V (rl_two hP (RC_f (by decide)) (gC_2 (Nat.lt_of_le_of_lt (Nat.zero_le _) hlt_z)) (RC_4 (Nat.lt_of_le_of_lt (Nat.zero_le _) hlt_z)) gC_4) hK (rl_recv hK hP (RC_f (by decide)) (gC_2 (Nat.lt_of_le_of_lt (Nat.zero_le _) hlt_z)) rfl)) rfl rfl hl.1 rfl (lv_room (Nat.le_of_ble_eq_true rfl)) d_C_hasSampleWithoutResult_18 ⟨Nat.zero_le _, Nat.zero_le _⟩) (fun r_4 h_5 => ?_)
      subst h_5
      refine va_castS hx hb hown (hG _ kw_173) ((hK.1 3 _ rfl).2) (rl_recv hK hP (RC_sam hlt_z) (gC_sam (by have := hI; unfold Iv at this; omega)) rfl) d_C_hasSampleWithoutResult_21 ?_
      refine lv_astore_n (lv' := [(3, .ref (ad (200 + z))), (2, .int (nI z)), (0, .ref (ad 0)), (1, .int p0)]) hx hb d_C_hasSampleWithoutResult_24 rfl hl (by decide) rfl (fun ls hl => ?_)
      refine lv_aload_n hx hb d_C_hasSampleWithoutResult_25 rfl (lv_at hl 0 rfl) ?_
      refine rl_get (r := 200 + z) (ci := 3) (v := .int (σ 30 z)) (C := R_S) (T := F_S) (N := 4) hx hb hG in_S hown hK hP (RC_sam hlt_z) (gC_sam (by have := hI; unfold Iv at this; omega)) rfl 0 (by decide) kw_470 (fun _ h9 => h9) rfl d_C_hasSampleWithoutResult_26 ?_
      refine lv_iload_n hx hb d_C_hasSampleWithoutResult_29 rfl (lv_at hl 3 rfl) ?_
      refine lv_icmp_ne (tgt := 42) hx hb d_C_hasSampleWithoutResult_30 (by decide) (fun c_6 => ?_) (fun c_6 => ?_)
      · refine lv_iinc (v := nI (z + 1)) (lv' := [(2, .int (nI (z + 1))), (3, .ref (ad (200 + z))), (0, .ref (ad 0)), (1, .int p0)]) hx hb d_C_hasSampleWithoutResult_42 hl (k := 1) rfl (by exact nI_1 z) (by decide) rfl (fun ls hl => ?_)
        refine lv_goto (tgt := 2) hx hb d_C_hasSampleWithoutResult_45 (by decide) ?_
        exact ih_z (nm - (z + 1)) (by omega) ls (z + 1) (lv_sub hl [0, 2, 3] rfl) hlt_z (lt_s hinv_z (by ((try simp only [b2i_eq0, Classical.not_not] at c_6); first | (simp only [i32_eq, i32_lt, i32_le, i32_nm1, i32_n0, i32_n1, i32_n2, i32_n3, i32_n4, i32_n5, i32_n6, i32_n7, i32_n8, i32_n9, i32_n10, i32_n20, i32_n30, i32_n31, i32_n39, i32_n40, i32_n49, i32_n50, i32_n100, i32_n160, i32_n1000, i32_n100000, i32_n1000000] at c_6 ⊢; omega) | grind))) rfl
      · refine lv_aload_n hx hb d_C_hasSampleWithoutResult_33 rfl (lv_at hl 0 rfl) ?_
        refine vp_callSi (W.runV (As := []) (rest := []) ⟨hx, hb, hml, hown, hts⟩ (c_S_hasResult l D cs (ad (200 + z)) (ad (300 + z)) (σ 30 z) (σ 31 z) (.ref (ad (400 + z))) (σ (1000 + z))) (cwV 0 hts (gw_V kw_545 kw_546 kw_547 kw_18 kw_548) rfl rfl rfl (by decide +kernel) ⟨Nat.le_of_ble_eq_true rfl, Nat.le_of_ble_eq_true rfl⟩) (rd_V (rl_two hP (RC_sam hlt_z) (gC_sam (by have := hI; unfold Iv at this; omega)) (RC_fou hlt_z) (gC_fou (by have := hI; unfold Iv at this; omega))) hK (rl_recv hK hP (RC_sam hlt_z) (gC_sam (by have := hI; unfold Iv at this; omega)) rfl)) rfl rfl hl.1 rfl (lv_room (Nat.le_of_ble_eq_true rfl)) d_C_hasSampleWithoutResult_34 ⟨Nat.zero_le _, Nat.zero_le _⟩) (fun r_7 h_8 => ?_)
        subst h_8
        refine lv_if_ne (tgt := 42) hx hb d_C_hasSampleWithoutResult_37 (by decide) (fun c_9 => ?_) (fun c_9 => ?_)
        · refine lv_iinc (v := nI (z + 1)) (lv' := [(2, .int (nI (z + 1))), (3, .ref (ad (200 + z))), (0, .ref (ad 0)), (1, .int p0)]) hx hb d_C_hasSampleWithoutResult_42 hl (k := 1) rfl (by exact nI_1 z) (by decide) rfl (fun ls hl => ?_)
          refine lv_goto (tgt := 2) hx hb d_C_hasSampleWithoutResult_45 (by decide) ?_
          exact ih_z (nm - (z + 1)) (by omega) ls (z + 1) (lv_sub hl [0, 2, 3] rfl) hlt_z (lt_s hinv_z (by ((try simp only [b2i_eq0, Classical.not_not] at c_6 c_9); first | (simp only [i32_eq, i32_lt, i32_le, i32_nm1, i32_n0, i32_n1, i32_n2, i32_n3, i32_n4, i32_n5, i32_n6, i32_n7, i32_n8, i32_n9, i32_n10, i32_n20, i32_n30, i32_n31, i32_n39, i32_n40, i32_n49, i32_n50, i32_n100, i32_n160, i32_n1000, i32_n100000, i32_n1000000] at c_6 c_9 ⊢; omega) | grind))) rfl
        · refine lv_iconst (v := 1) hx hb d_C_hasSampleWithoutResult_40 (by decide) ?_
          exact W.zret (v := 1) (ty := .boolean) hx hb hr rfl (fun t ht hW => ⟨1, rfl, (b2i_t ⟨z, hlt_z, by ((try simp only [b2i_eq0, Classical.not_not] at c_6 c_9); first | (simp only [i32_eq, i32_lt, i32_le, i32_nm1, i32_n0, i32_n1, i32_n2, i32_n3, i32_n4, i32_n5, i32_n6, i32_n7, i32_n8, i32_n9, i32_n10, i32_n20, i32_n30, i32_n31, i32_n39, i32_n40, i32_n49, i32_n50, i32_n100, i32_n160, i32_n1000, i32_n100000, i32_n1000000] at c_6 c_9 ⊢; omega) | grind)⟩).symm, ht⟩) (fun q h => nomatch h) d_C_hasSampleWithoutResult_41
end
section
theorem lcmp_gt {x y : Int64} : 0 < lg_cmp x y ↔ y < x := by
  unfold lg_cmp
  by_cases h : y < x
  · simp [h]
  · by_cases h2 : x = y
    · simp [h2]
    · simp [h, h2]
theorem lcmp_le {x y : Int64} : lg_cmp x y ≤ 0 ↔ ¬ y < x := by
  unfold lg_cmp
  by_cases h : y < x
  · simp [h]
  · by_cases h2 : x = y
    · simp [h2]
    · simp [h, h2]
theorem lcmp_ge {x y : Int64} : 0 ≤ lg_cmp x y ↔ ¬ x < y := by
  unfold lg_cmp
  by_cases h : y < x
  · have : ¬ x < y := by
      rw [Int64.lt_iff_toInt_lt] at h ⊢
      omega
    simp [h, this]
  · by_cases h2 : x = y
    · subst h2
      simp
    · have : x < y := by
        rw [Int64.lt_iff_toInt_lt] at h ⊢
        have : x.toInt ≠ y.toInt := fun q => h2 (Int64.toInt_inj.mp q)
        omega
      simp [h, h2, this]
def absL (x : Int64) : Int64 := if 0 < x then x else -x
def diffS (f d u w : Int32) : Int32 := if f = -1 ∨ d = -1 then 0 else if d.toInt64 * (if d < f then u else w).toInt64 < absL (f.toInt64 - d.toInt64) * 1000 then (if 2 * (d.toInt64 * (if d < f then u else w).toInt64) < absL (f.toInt64 - d.toInt64) * 1000 then 2 else 1) else 0
/-- how the result of sample i in measure q differs -/
def dfS (σ : Nat → Nat → Int32) (i q : Nat) : Int32 := diffS (σ (1000 + i) q) (σ (10 + (σ 30 i).toNatClampNeg) q) (σ 5 q) (σ 6 q)
def cntM (σ : Nat → Nat → Int32) (b : Int32) (i : Nat) : Nat → Int32
  | 0 => 0
  | k + 1 => if (¬ b = 0 ∨ σ (2000 + i) k = 0) ∧ dfS σ i k = 2 then cntM σ b i k + 1 else cntM σ b i k
def cntS (σ : Nat → Nat → Int32) (d b : Int32) : Nat → Int32
  | 0 => 0
  | k + 1 => if σ 30 k = d then cntS σ d b k + cntM σ b k 4 else cntS σ d b k
/-- the declarations of inspections and samples are declarations, their kinds kinds -/
def Jv (σ : Nat → Nat → Int32) (n nm : Nat) : Prop := (∀ i, i < n → vp_in (σ 20 i) 10 ∧ vp_in (σ 21 i) 5) ∧ ∀ i, i < nm → vp_in (σ 30 i) 10
section RL2
variable {p : Program} {l : Launch} {e : Env} {R : Room} {s : State} {m : MethodId} {args : Array Value} {below : List Frame} {meth : Method} {c : Code} {H : Heap} {locs : List Loc} {cells slots : Nat} {Q : State → Prop}
variable {cc : ByteArray} {pc : Nat} {ls : Array Slot} {rest : List Value} {D : va_G} {cl : List vw_C} {tys : List (ClassId × FieldType)} {Rl : List Nat} {ad : Nat → Nat} {g : Nat → va_E}
theorem rl_aldA (hexec : p.tables.exec = Jvm.exec) (hb : c.code = cc) (hK : va_K D cl tys s) (hP : va_P D cl (rl_w Rl ad g) H) {r : Nat} (hr : r ∈ Rl) (t0 : Nat) {cA : ClassId} {ty : FieldType} {n : Nat} {f : Nat → Option Nat} (hg : g r = .inl (cA, n, .inr (.inr (.inr (.inr f))))) (ht : tys[t0]? = some (cA, .array ty)) {i : Int32} (hin : vp_in i n) {v : Value} (hv : va_rf (f i.toNatClampNeg) = v) (hdg : decode cc pc = .ok (.aaload, 1))
    (kk : W p l e R s m args below meth c H locs cells slots Q (F0 m (pc + 1) ls (v :: rest))) : W p l e R s m args below meth c H locs cells slots Q (F0 m pc ls (.int i :: .ref (ad r) :: rest)) := by
  obtain ⟨j, hj, hj'⟩ := rl_at (ad := ad) (g := g) hr
  rw [hg] at hj'
  subst hv
  have hlt : i.toNatClampNeg < n := Nat.not_le.mp fun q => hin (Or.inr q)
  exact W.aald (v := va_rf (f i.toNatClampNeg)) (ty := .array ty) hexec hb (hP j _ hj') ((hK.2 t0 _ ht).1 n (fun j => va_rf (f j))) rfl (fun q => by cases q) (by show ¬ (i < 0 ∨ (arrV _ _ _).slots.size ≤ _); rw [arrV_size]; exact hin) (by show (arrV _ _ _).slots[_]? = _; rw [arrV_read _ _ hlt]) rfl rfl hdg kk
end RL2
theorem ka_abs : (Cond.code Lib.MathLoose.abs_long.x Lib.MathLoose.abs_long.code 2 (some .long)) ∈ GW := kw_180
theorem ka_min : (Cond.code Lib.Math.min.name Lib.Math.min.code 2 (some .int)) ∈ GW := kw_376
theorem ka_max : (Cond.code Lib.Math.max.name Lib.Math.max.code 2 (some .int)) ∈ GW := kw_348
end
section
set_option maxHeartbeats 4000000 in
set_option maxRecDepth 100000 in
theorem c_C_difference (l : Launch) (D : va_G) (cs : Nat → ClassId) (ad : Nat → Nat) (σ : Nat → Nat → Int32) (n nm ci cj E : Nat) (hI : Iv n nm ci cj) (i q : Nat) (hi : i < nm) (hq : q < 4) (hsd : vp_in (σ 30 i) 10) : Met l y_C_difference (Cond.code y_C_difference b_C_difference 9 (some .int) :: GW) ({ frames := 1, cells := 0, slots := 0, locals := 32 }) (va_Pc [.ref (ad 0), .ref (ad (200 + i)), .int (nI q)] (rd_B D (tys_ cs) (wC cs ad σ n nm ci cj E))) (vp_Si (fun r => r = dfS σ i q)) 0 0 (fun _ => False) := by
  refine Met.ofW (cc := b_C_difference) (maxL := 9) (ret := (some .int)) (by decide) rfl ?_
  intro p e s m args below meth c s₁ B hml hv
  obtain ⟨rfl, hP, hK⟩ := hv
  have hx := B.exec
  have hb := B.bytes
  have hr := B.returns
  have hts := atoms_spec (ws := Cond.code y_C_difference b_C_difference 9 (some .int) :: GW) B.pre
  have hG : ∀ w ∈ GW, w.before _ s = true := fun w h => hts w (List.mem_cons_of_mem _ h)
  have hown : s.vm.findClass R_C = some m.cls := findClass_of_methodNamed B.named
  have hlocks := B.notSynchronized
  have hdc : (σ 30 i).toNatClampNeg < 10 := Nat.not_le.mp fun q9 => hsd (Or.inr q9)
  have hl := lv_entry ([.ref (ad 0), .ref (ad (200 + i)), .int (nI q)]) (n := 9) (Nat.le_of_ble_eq_true rfl)
  rw [lg_entry_eq]
  generalize (lg_sl ([.ref (ad 0), .ref (ad (200 + i)), .int (nI q)]) ++ List.replicate (9 - (lg_sl ([.ref (ad 0), .ref (ad (200 + i)), .int (nI q)])).length) Slot.unset).toArray = ls at hl ⊢
  have hl : lv_has ls 9 [(0, .ref (ad 0)), (1, .ref (ad (200 + i))), (2, .int (nI q))] := hl
  refine lv_aload_n hx hb d_C_difference_0 rfl (lv_at hl 1 rfl) ?_
  refine rl_get (r := 200 + i) (ci := 3) (v := .ref (ad (300 + i))) (C := R_S) (T := F_S) (N := 4) hx hb hG in_S hown hK hP (RC_sam hi) (gC_sam (by have := hI; unfold Iv at this; omega)) rfl 2 (by decide) kw_474 (fun _ h9 => h9) rfl d_C_difference_1 ?_
  refine lv_iload_n hx hb d_C_difference_4 rfl (lv_at hl 2 rfl) ?_
  refine rl_iald (r := 300 + i) (i := nI q) hx hb hK hP (RC_fou hi) 0 (gC_fou (by have := hI; unfold Iv at this; omega)) rfl (vp_in_nI (Nat.lt_of_lt_of_le hq (by decide)) (by decide)) d_C_difference_5 ?_
  rw [nI_clamp (Nat.lt_of_lt_of_le hq (by decide))]
  refine lv_istore_n (lv' := [(3, .int (σ (1000 + i) q)), (0, .ref (ad 0)), (1, .ref (ad (200 + i))), (2, .int (nI q))]) hx hb d_C_difference_6 rfl hl (by decide) rfl (fun ls hl => ?_)
  refine lv_aload_n hx hb d_C_difference_7 rfl (lv_at hl 1 rfl) ?_
  refine rl_get (r := 0) (ci := 1) (v := .ref (ad 9)) (C := R_C) (T := F_C) (N := 10) hx hb hG in_C hown hK hP (RC_f (by decide)) gC_0 rfl 6 (by decide) kw_65 (fun _ h9 => h9) rfl d_C_difference_8 ?_
  refine lv_aload_n hx hb d_C_difference_11 rfl (lv_at hl 2 rfl) ?_
  refine rl_get (r := 200 + i) (ci := 3) (v := .int (σ 30 i)) (C := R_S) (T := F_S) (N := 4) hx hb hG in_S hown hK hP (RC_sam hi) (gC_sam (by have := hI; unfold Iv at this; omega)) rfl 0 (by decide) kw_470 (fun _ h9 => h9) rfl d_C_difference_12 ?_
  refine rl_aldA (r := 9) (i := σ 30 i) (v := .ref (ad (20 + (σ 30 i).toNatClampNeg))) hx hb hK hP (RC_f (by decide)) 3 gC_9 rfl hsd (by simp only [rowsF, if_pos hdc]; rfl) d_C_difference_15 ?_
  refine lv_iload_n hx hb d_C_difference_16 rfl (lv_at hl 3 rfl) ?_
  refine rl_iald (r := 20 + (σ 30 i).toNatClampNeg) (i := nI q) hx hb hK hP (RC_row hdc) 0 (gC_row hdc) rfl (vp_in_nI (Nat.lt_of_lt_of_le hq (by decide)) (by decide)) d_C_difference_17 ?_
  rw [nI_clamp (Nat.lt_of_lt_of_le hq (by decide))]
  refine lv_istore (lv' := [(4, .int (σ (10 + (σ 30 i).toNatClampNeg) q)), (3, .int (σ (1000 + i) q)), (0, .ref (ad 0)), (1, .ref (ad (200 + i))), (2, .int (nI q))]) hx hb d_C_difference_18 hl (by decide) rfl (fun ls hl => ?_)
  refine lv_iload_n hx hb d_C_difference_20 rfl (lv_at hl 1 rfl) ?_
  refine lv_iconst (v := (-1)) hx hb d_C_difference_21 (by decide) ?_
  refine lv_icmp_eq (tgt := 31) hx hb d_C_difference_22 (by decide) (fun c_1 => ?_) (fun c_1 => ?_)
  · refine lv_iconst (v := 0) hx hb d_C_difference_31 (by decide) ?_
    exact W.iret (v := 0) hx hb hr (fun t ht hW => ⟨0, rfl, (if_pos (by first | exact Or.inl c_1 | exact Or.inr c_1)).symm, ht⟩) (fun q h => nomatch h) d_C_difference_32
  · refine lv_iload hx hb d_C_difference_25 (lv_at hl 0 rfl) ?_
    refine lv_iconst (v := (-1)) hx hb d_C_difference_27 (by decide) ?_
    refine lv_icmp_ne (tgt := 33) hx hb d_C_difference_28 (by decide) (fun c_2 => ?_) (fun c_2 => ?_)
    · refine lv_iload_n hx hb d_C_difference_33 rfl (lv_at hl 1 rfl) ?_
      refine lv_i2l hx hb d_C_difference_34 rfl ?_
      refine lv_iload hx hb d_C_difference_35 (lv_at hl 0 rfl) ?_
      refine lv_i2l hx hb d_C_difference_37 rfl ?_
      refine lv_lsub hx hb d_C_difference_38 ?_
      refine va_mabs_long hx hb (hml.trans hl.1.symm) hown (hG _ kw_178) (hG _ kw_179) (hG _ kw_14) (hG _ ka_abs) (Nat.le_of_ble_eq_true rfl) (Nat.le_of_ble_eq_true rfl) (Nat.zero_le _) (Nat.zero_le _) (x := ((σ (1000 + i) q).toInt64) - ((σ (10 + (σ 30 i).toNatClampNeg) q).toInt64)) d_C_difference_39 ?_
      refine W.eq (g2 := F0 m 42 ls [.long (absL (((σ (1000 + i) q).toInt64) - ((σ (10 + (σ 30 i).toNatClampNeg) q).toInt64)))]) rfl ?_
      refine lv_ldc2 (v := 1000) hx hb hown (hG _ kw_181) d_C_difference_42 ?_
      refine lv_lmul hx hb d_C_difference_45 ?_
      refine lv_lstore (lv' := [(5, .long ((absL (((σ (1000 + i) q).toInt64) - ((σ (10 + (σ 30 i).toNatClampNeg) q).toInt64))) * 1000)), (4, .int (σ (10 + (σ 30 i).toNatClampNeg) q)), (3, .int (σ (1000 + i) q)), (0, .ref (ad 0)), (1, .ref (ad (200 + i))), (2, .int (nI q))]) hx hb d_C_difference_46 hl (by decide) rfl (fun ls hl => ?_)
      refine lv_iload hx hb d_C_difference_48 (lv_at hl 1 rfl) ?_
      refine lv_i2l hx hb d_C_difference_50 rfl ?_
      refine lv_iload_n hx hb d_C_difference_51 rfl (lv_at hl 2 rfl) ?_
      refine lv_iload hx hb d_C_difference_52 (lv_at hl 1 rfl) ?_
      refine lv_icmp_le (tgt := 66) hx hb d_C_difference_54 (by decide) (fun c_3 => ?_) (fun c_3 => ?_)
      · have hA : (if σ (10 + (σ 30 i).toNatClampNeg) q < σ (1000 + i) q then σ 5 q else σ 6 q) = σ 6 q := if_neg (fun h => by rw [i32_lt] at h; rw [i32_le] at c_3; omega)
        refine lv_aload_n hx hb d_C_difference_66 rfl (lv_at hl 3 rfl) ?_
        refine rl_get (r := 0) (ci := 1) (v := .ref (ad 11)) (C := R_C) (T := F_C) (N := 10) hx hb hG in_C hown hK hP (RC_f (by decide)) gC_0 rfl 8 (by decide) kw_67 (fun _ h9 => h9) rfl d_C_difference_67 ?_
        refine lv_iload_n hx hb d_C_difference_70 rfl (lv_at hl 5 rfl) ?_
        refine rl_iald (r := 11) (i := nI q) hx hb hK hP (RC_f (by decide)) 0 gC_11 rfl (vp_in_nI (Nat.lt_of_lt_of_le hq (by decide)) (by decide)) d_C_difference_71 ?_
        rw [nI_clamp (Nat.lt_of_lt_of_le hq (by decide))]
        refine lv_i2l hx hb d_C_difference_72 rfl ?_
        refine lv_lmul hx hb d_C_difference_73 ?_
        refine lv_lstore (lv' := [(7, .long (((σ (10 + (σ 30 i).toNatClampNeg) q).toInt64) * ((σ 6 q).toInt64))), (5, .long ((absL (((σ (1000 + i) q).toInt64) - ((σ (10 + (σ 30 i).toNatClampNeg) q).toInt64))) * 1000)), (4, .int (σ (10 + (σ 30 i).toNatClampNeg) q)), (3, .int (σ (1000 + i) q)), (0, .ref (ad 0)), (1, .ref (ad (200 + i))), (2, .int (nI q))]) hx hb d_C_difference_74 hl (by decide) rfl (fun ls hl => ?_)
        refine lv_lload hx hb d_C_difference_76 (lv_at hl 1 rfl) ?_
        refine lv_lload hx hb d_C_difference_78 (lv_at hl 0 rfl) ?_
        refine W.lcmp hx hb d_C_difference_80 ?_
        refine lv_if_gt (tgt := 86) hx hb d_C_difference_81 (by decide) (fun c_4 => ?_) (fun c_4 => ?_)
        · refine lv_lload hx hb d_C_difference_86 (lv_at hl 1 rfl) ?_
          refine lv_ldc2 (v := 2) hx hb hown (hG _ kw_182) d_C_difference_88 ?_
          refine lv_lload hx hb d_C_difference_91 (lv_at hl 0 rfl) ?_
          refine lv_lmul hx hb d_C_difference_93 ?_
          refine W.lcmp hx hb d_C_difference_94 ?_
          refine lv_if_le (tgt := 102) hx hb d_C_difference_95 (by decide) (fun c_5 => ?_) (fun c_5 => ?_)
          · refine lv_iconst (v := 1) hx hb d_C_difference_102 (by decide) ?_
            exact W.iret (v := 1) hx hb hr (fun t ht hW => ⟨1, rfl, (by unfold dfS diffS; rw [if_neg (fun h => h.elim c_1 c_2), hA, if_pos (lcmp_gt.mp c_4), if_neg (lcmp_le.mp c_5)]), ht⟩) (fun q h => nomatch h) d_C_difference_103
          · refine lv_iconst (v := 2) hx hb d_C_difference_98 (by decide) ?_
            refine lv_goto (tgt := 103) hx hb d_C_difference_99 (by decide) ?_
            exact W.iret (v := 2) hx hb hr (fun t ht hW => ⟨2, rfl, (by unfold dfS diffS; rw [if_neg (fun h => h.elim c_1 c_2), hA, if_pos (lcmp_gt.mp c_4), if_pos (Classical.not_not.mp (fun h => c_5 (lcmp_le.mpr h)))]), ht⟩) (fun q h => nomatch h) d_C_difference_103
        · refine lv_iconst (v := 0) hx hb d_C_difference_84 (by decide) ?_
          exact W.iret (v := 0) hx hb hr (fun t ht hW => ⟨0, rfl, (by unfold dfS diffS; rw [if_neg (fun h => h.elim c_1 c_2), hA, if_neg (fun h => c_4 (lcmp_gt.mpr h))]), ht⟩) (fun q h => nomatch h) d_C_difference_85
      · have hA : (if σ (10 + (σ 30 i).toNatClampNeg) q < σ (1000 + i) q then σ 5 q else σ 6 q) = σ 5 q := if_pos (by rw [i32_lt]; rw [i32_le] at c_3; omega)
        refine lv_aload_n hx hb d_C_difference_57 rfl (lv_at hl 3 rfl) ?_
        refine rl_get (r := 0) (ci := 1) (v := .ref (ad 10)) (C := R_C) (T := F_C) (N := 10) hx hb hG in_C hown hK hP (RC_f (by decide)) gC_0 rfl 7 (by decide) kw_66 (fun _ h9 => h9) rfl d_C_difference_58 ?_
        refine lv_iload_n hx hb d_C_difference_61 rfl (lv_at hl 5 rfl) ?_
        refine rl_iald (r := 10) (i := nI q) hx hb hK hP (RC_f (by decide)) 0 gC_10 rfl (vp_in_nI (Nat.lt_of_lt_of_le hq (by decide)) (by decide)) d_C_difference_62 ?_
        rw [nI_clamp (Nat.lt_of_lt_of_le hq (by decide))]
        refine lv_goto (tgt := 72) hx hb d_C_difference_63 (by decide) ?_
        refine lv_i2l hx hb d_C_difference_72 rfl ?_
        refine lv_lmul hx hb d_C_difference_73 ?_
        refine lv_lstore (lv' := [(7, .long (((σ (10 + (σ 30 i).toNatClampNeg) q).toInt64) * ((σ 5 q).toInt64))), (5, .long ((absL (((σ (1000 + i) q).toInt64) - ((σ (10 + (σ 30 i).toNatClampNeg) q).toInt64))) * 1000)), (4, .int (σ (10 + (σ 30 i).toNatClampNeg) q)), (3, .int (σ (1000 + i) q)), (0, .ref (ad 0)), (1, .ref (ad (200 + i))), (2, .int (nI q))]) hx hb d_C_difference_74 hl (by decide) rfl (fun ls hl => ?_)
        refine lv_lload hx hb d_C_difference_76 (lv_at hl 1 rfl) ?_
        refine lv_lload hx hb d_C_difference_78 (lv_at hl 0 rfl) ?_
        refine W.lcmp hx hb d_C_difference_80 ?_
        refine lv_if_gt (tgt := 86) hx hb d_C_difference_81 (by decide) (fun c_6 => ?_) (fun c_6 => ?_)
        · refine lv_lload hx hb d_C_difference_86 (lv_at hl 1 rfl) ?_
          refine lv_ldc2 (v := 2) hx hb hown (hG _ kw_182) d_C_difference_88 ?_
          refine lv_lload hx hb d_C_difference_91 (lv_at hl 0 rfl) ?_
          refine lv_lmul hx hb d_C_difference_93 ?_
          refine W.lcmp hx hb d_C_difference_94 ?_
          refine lv_if_le (tgt := 102) hx hb d_C_difference_95 (by decide) (fun c_7 => ?_) (fun c_7 => ?_)
          · refine lv_iconst (v := 1) hx hb d_C_difference_102 (by decide) ?_
            exact W.iret (v := 1) hx hb hr (fun t ht hW => ⟨1, rfl, (by unfold dfS diffS; rw [if_neg (fun h => h.elim c_1 c_2), hA, if_pos (lcmp_gt.mp c_6), if_neg (lcmp_le.mp c_7)]), ht⟩) (fun q h => nomatch h) d_C_difference_103
          · refine lv_iconst (v := 2) hx hb d_C_difference_98 (by decide) ?_
            refine lv_goto (tgt := 103) hx hb d_C_difference_99 (by decide) ?_
            exact W.iret (v := 2) hx hb hr (fun t ht hW => ⟨2, rfl, (by unfold dfS diffS; rw [if_neg (fun h => h.elim c_1 c_2), hA, if_pos (lcmp_gt.mp c_6), if_pos (Classical.not_not.mp (fun h => c_7 (lcmp_le.mpr h)))]), ht⟩) (fun q h => nomatch h) d_C_difference_103
        · refine lv_iconst (v := 0) hx hb d_C_difference_84 (by decide) ?_
          exact W.iret (v := 0) hx hb hr (fun t ht hW => ⟨0, rfl, (by unfold dfS diffS; rw [if_neg (fun h => h.elim c_1 c_2), hA, if_neg (fun h => c_6 (lcmp_gt.mpr h))]), ht⟩) (fun q h => nomatch h) d_C_difference_85
    · refine lv_iconst (v := 0) hx hb d_C_difference_31 (by decide) ?_
      exact W.iret (v := 0) hx hb hr (fun t ht hW => ⟨0, rfl, (if_pos (by first | exact Or.inl c_2 | exact Or.inr c_2)).symm, ht⟩) (fun q h => nomatch h) d_C_difference_32
end
section
theorem add_z0 (x : Int32) : x + 0 = x := by
  rw [← Int32.toBitVec_inj]
  simp
theorem add_a3 (x y : Int32) : x + y + 1 = x + (y + 1) := Int32.add_assoc x y 1
set_option maxHeartbeats 4000000 in
set_option maxRecDepth 100000 in
theorem c_C_muchDifferent (l : Launch) (D : va_G) (cs : Nat → ClassId) (ad : Nat → Nat) (σ : Nat → Nat → Int32) (n nm ci cj E : Nat) (hI : Iv n nm ci cj) (hJ : Jv σ n nm) (p0 p1 : Int32) : Met l y_C_muchDifferent (Cond.code y_C_muchDifferent b_C_muchDifferent 7 (some .int) :: GW) ({ frames := 3, cells := 0, slots := 0, locals := 96 }) (va_Pc [.ref (ad 0), .int p0, .int p1] (rd_B D (tys_ cs) (wC cs ad σ n nm ci cj E))) (vp_Si (fun r => r = cntS σ p0 p1 nm)) 0 0 (fun _ => False) := by
  refine Met.ofW (cc := b_C_muchDifferent) (maxL := 7) (ret := (some .int)) (by decide) rfl ?_
  intro p e s m args below meth c s₁ B hml hv
  obtain ⟨rfl, hP, hK⟩ := hv
  have hx := B.exec
  have hb := B.bytes
  have hr := B.returns
  have hts := atoms_spec (ws := Cond.code y_C_muchDifferent b_C_muchDifferent 7 (some .int) :: GW) B.pre
  have hG : ∀ w ∈ GW, w.before _ s = true := fun w h => hts w (List.mem_cons_of_mem _ h)
  have hown : s.vm.findClass R_C = some m.cls := findClass_of_methodNamed B.named
  have hlocks := B.notSynchronized
  have hl := lv_entry ([.ref (ad 0), .int p0, .int p1]) (n := 7) (Nat.le_of_ble_eq_true rfl)
  rw [lg_entry_eq]
  generalize (lg_sl ([.ref (ad 0), .int p0, .int p1]) ++ List.replicate (7 - (lg_sl ([.ref (ad 0), .int p0, .int p1])).length) Slot.unset).toArray = ls at hl ⊢
  have hl : lv_has ls 7 [(0, .ref (ad 0)), (1, .int p0), (2, .int p1)] := hl
  refine lv_iconst (v := 0) hx hb d_C_muchDifferent_0 (by decide) ?_
  refine lv_istore_n (lv' := [(3, .int 0), (0, .ref (ad 0)), (1, .int p0), (2, .int p1)]) hx hb d_C_muchDifferent_1 rfl hl (by decide) rfl (fun ls hl => ?_)
  refine lv_iconst (v := 0) hx hb d_C_muchDifferent_2 (by decide) ?_
  refine lv_istore (lv' := [(4, .int 0), (3, .int 0), (0, .ref (ad 0)), (1, .int p0), (2, .int p1)]) hx hb d_C_muchDifferent_3 hl (by decide) rfl (fun ls hl => ?_)
  replace hl : ∃ z : Nat, lv_has ls 7 [(4, .int (nI z)), (3, .int (cntS σ p0 p1 z)), (0, .ref (ad 0)), (1, .int p0), (2, .int p1)] ∧ z ≤ nm ∧ (0 ≤ z) := ⟨0, lv_sub hl [0, 1, 2, 3, 4] rfl, Nat.zero_le _, Nat.zero_le _⟩
  obtain ⟨z, hl, hle_z, hinv_z⟩ := hl
  obtain ⟨k_z, hk_z⟩ : ∃ k, nm - z = k := ⟨_, rfl⟩
  induction k_z using Nat.strongRecOn generalizing z ls with
  | _ k_z ih_z =>
    refine lv_iload hx hb d_C_muchDifferent_5 (lv_at hl 0 rfl) ?_
    refine lv_aload_n hx hb d_C_muchDifferent_7 rfl (lv_at hl 2 rfl) ?_
    refine rl_get (r := 0) (ci := 1) (v := .ref (ad 2)) (C := R_C) (T := F_C) (N := 10) hx hb hG in_C hown hK hP (RC_f (by decide)) gC_0 rfl 1 (by decide) kw_60 (fun _ h9 => h9) rfl d_C_muchDifferent_8 ?_
    refine vp_callSi (W.runV (As := []) (rest := [.int (nI z)]) ⟨hx, hb, hml, hown, hts⟩ (c_Al_size l D (tys_ cs) (ad 2) (.ref (if nm = 0 then E else ad 4)) (nI nm) (σ 7 1)) (cwV 0 hts (gw_V kw_116 kw_117 kw_118 kw_4 kw_119) rfl rfl rfl (by decide +kernel) ⟨Nat.le_of_ble_eq_true rfl, Nat.le_of_ble_eq_true rfl⟩) (rd_V (rl_one hP (RC_f (by decide)) gC_2') hK (rl_recv hK hP (RC_f (by decide)) gC_2' rfl)) rfl rfl hl.1 rfl (lv_room (Nat.le_of_ble_eq_true rfl)) d_C_muchDifferent_11 ⟨Nat.zero_le _, Nat.zero_le _⟩) (fun r_1 h_2 => ?_)
    subst h_2
    refine lv_icmp_ge (tgt := 94) hx hb d_C_muchDifferent_14 (by decide) (fun c_3 => ?_) (fun c_3 => ?_)
    · have hz_z : z = nm := nI_exit hle_z c_3 (by have := hI; unfold Iv at this; omega)
      subst hz_z
      refine lv_iload_n hx hb d_C_muchDifferent_94 rfl (lv_at hl 1 rfl) ?_
      exact W.iret (v := cntS σ p0 p1 z) hx hb hr (fun t ht hW => ⟨_, rfl, rfl, ht⟩) (fun q h => nomatch h) d_C_muchDifferent_95
    · have hlt_z : z < nm := nI_go hle_z c_3 (by have := hI; unfold Iv at this; omega)
      refine lv_aload_n hx hb d_C_muchDifferent_17 rfl (lv_at hl 2 rfl) ?_
      refine rl_get (r := 0) (ci := 1) (v := .ref (ad 2)) (C := R_C) (T := F_C) (N := 10) hx hb hG in_C hown hK hP (RC_f (by decide)) gC_0 rfl 1 (by decide) kw_60 (fun _ h9 => h9) rfl d_C_muchDifferent_18 ?_
      refine lv_iload hx hb d_C_muchDifferent_21 (lv_at hl 0 rfl) ?_
      refine va_csr (W.runV (As := [.int (nI z)]) (rest := []) ⟨hx, hb, hml, hown, hts⟩ (c_Al_get l D (tys_ cs) (ad 2) (ad 4) nm cj z (ad (200 + z)) (σ 7 1) (cs 2) (rowsF 200 nm ad) hlt_z hI.2.2.2.1 (by have := hI; unfold Iv at this; omega) 2 rfl (if_pos hlt_z)) (cwV 1 hts (gw_V kw_120 kw_121 kw_122 kw_4 kw_123) rfl rfl rfl (by decide +kernel) ⟨Nat.le_of_ble_eq_true rfl, Nat.le_of_ble_eq_true rfl⟩) (rd_V (rl_two hP (RC_f (by decide)) (gC_2 (Nat.lt_of_le_of_lt (Nat.zero_le _) hlt_z)) (RC_4 (Nat.lt_of_le_of_lt (Nat.zero_le _) hlt_z)) gC_4) hK (rl_recv hK hP (RC_f (by decide)) (gC_2 (Nat.lt_of_le_of_lt (Nat.zero_le _) hlt_z)) rfl)) rfl rfl hl.1 rfl (lv_room (Nat.le_of_ble_eq_true rfl)) d_C_muchDifferent_23 ⟨Nat.zero_le _, Nat.zero_le _⟩) (fun r_4 h_5 => ?_)
      subst h_5
      refine va_castS hx hb hown (hG _ kw_173) ((hK.1 3 _ rfl).2) (rl_recv hK hP (RC_sam hlt_z) (gC_sam (by have := hI; unfold Iv at this; omega)) rfl) d_C_muchDifferent_26 ?_
      refine lv_astore (lv' := [(5, .ref (ad (200 + z))), (4, .int (nI z)), (3, .int (cntS σ p0 p1 z)), (0, .ref (ad 0)), (1, .int p0), (2, .int p1)]) hx hb d_C_muchDifferent_29 hl (by decide) rfl (fun ls hl => ?_)
      refine lv_aload hx hb d_C_muchDifferent_31 (lv_at hl 0 rfl) ?_
      refine rl_get (r := 200 + z) (ci := 3) (v := .int (σ 30 z)) (C := R_S) (T := F_S) (N := 4) hx hb hG in_S hown hK hP (RC_sam hlt_z) (gC_sam (by have := hI; unfold Iv at this; omega)) rfl 0 (by decide) kw_470 (fun _ h9 => h9) rfl d_C_muchDifferent_33 ?_
      refine lv_iload_n hx hb d_C_muchDifferent_36 rfl (lv_at hl 4 rfl) ?_
      refine lv_icmp_eq (tgt := 43) hx hb d_C_muchDifferent_37 (by decide) (fun c_6 => ?_) (fun c_6 => ?_)
      · refine lv_iconst (v := 0) hx hb d_C_muchDifferent_43 (by decide) ?_
        refine lv_istore (lv' := [(6, .int 0), (5, .ref (ad (200 + z))), (4, .int (nI z)), (3, .int (cntS σ p0 p1 z)), (0, .ref (ad 0)), (1, .int p0), (2, .int p1)]) hx hb d_C_muchDifferent_44 hl (by decide) rfl (fun ls hl => ?_)
        replace hl : ∃ y : Nat, lv_has ls 7 [(6, .int (nI y)), (5, .ref (ad (200 + z))), (4, .int (nI z)), (3, .int (cntS σ p0 p1 z + cntM σ p1 z y)), (0, .ref (ad 0)), (1, .int p0), (2, .int p1)] ∧ y ≤ 4 ∧ (0 ≤ y) := ⟨0, (by rw [show cntS σ p0 p1 z + cntM σ p1 z 0 = cntS σ p0 p1 z from add_z0 _]; exact lv_sub hl [0, 1, 2, 3, 4, 5, 6] rfl), Nat.zero_le _, Nat.zero_le _⟩
        obtain ⟨y, hl, hle_y, hinv_y⟩ := hl
        obtain ⟨k_y, hk_y⟩ : ∃ k, 4 - y = k := ⟨_, rfl⟩
        induction k_y using Nat.strongRecOn generalizing y ls with
        | _ k_y ih_y =>
          refine lv_iload hx hb d_C_muchDifferent_46 (lv_at hl 0 rfl) ?_
          refine lv_iconst (v := 4) hx hb d_C_muchDifferent_48 (by decide) ?_
          refine lv_icmp_ge (tgt := 88) hx hb d_C_muchDifferent_49 (by decide) (fun c_7 => ?_) (fun c_7 => ?_)
          · have hz_y : y = 4 := nI_exit hle_y c_7 (by decide)
            subst hz_y
            refine lv_iinc (v := nI (z + 1)) (lv' := [(4, .int (nI (z + 1))), (6, .int (nI 4)), (5, .ref (ad (200 + z))), (3, .int (cntS σ p0 p1 z + cntM σ p1 z 4)), (0, .ref (ad 0)), (1, .int p0), (2, .int p1)]) hx hb d_C_muchDifferent_88 hl (k := 2) rfl (by first | exact nI_1 _ | rfl) (by decide) rfl (fun ls hl => ?_)
            refine lv_goto (tgt := 5) hx hb d_C_muchDifferent_91 (by decide) ?_
            exact ih_z (nm - (z + 1)) (by omega) ls (z + 1) (by rw [show cntS σ p0 p1 (z + 1) = cntS σ p0 p1 z + cntM σ p1 z 4 from if_pos c_6]; exact (lv_sub hl [0, 3, 4, 5, 6] rfl)) hlt_z (Nat.zero_le _) rfl
          · have hlt_y : y < 4 := nI_go hle_y c_7 (by decide)
            refine lv_iload_n hx hb d_C_muchDifferent_52 rfl (lv_at hl 6 rfl) ?_
            refine lv_if_ne (tgt := 67) hx hb d_C_muchDifferent_53 (by decide) (fun c_8 => ?_) (fun c_8 => ?_)
            · refine lv_aload_n hx hb d_C_muchDifferent_67 rfl (lv_at hl 4 rfl) ?_
              refine lv_aload hx hb d_C_muchDifferent_68 (lv_at hl 1 rfl) ?_
              refine lv_iload hx hb d_C_muchDifferent_70 (lv_at hl 0 rfl) ?_
              refine vp_callSi (W.runV (As := [.ref (ad (200 + z)), .int (nI y)]) (rest := []) ⟨hx, hb, hml, hown, hts⟩ (c_C_difference l D cs ad σ n nm ci cj E hI z y hlt_z hlt_y (hJ.2 z hlt_z)) (cwV 2 hts (gw_V kw_174 kw_176 ks_0_4 kw_1 kw_177) rfl rfl rfl (by decide +kernel) ⟨Nat.le_of_ble_eq_true rfl, Nat.le_of_ble_eq_true rfl⟩) (rd_V hP hK (rl_recv hK hP (RC_f (by decide)) gC_0 rfl)) rfl rfl hl.1 rfl (lv_room (Nat.le_of_ble_eq_true rfl)) d_C_muchDifferent_72 ⟨Nat.zero_le _, Nat.zero_le _⟩) (fun r_9 h_10 => ?_)
              subst h_10
              refine lv_iconst (v := 2) hx hb d_C_muchDifferent_75 (by decide) ?_
              refine lv_icmp_ne (tgt := 82) hx hb d_C_muchDifferent_76 (by decide) (fun c_11 => ?_) (fun c_11 => ?_)
              · refine lv_iinc (v := nI (y + 1)) (lv' := [(6, .int (nI (y + 1))), (5, .ref (ad (200 + z))), (4, .int (nI z)), (3, .int (cntS σ p0 p1 z + cntM σ p1 z y)), (0, .ref (ad 0)), (1, .int p0), (2, .int p1)]) hx hb d_C_muchDifferent_82 hl (k := 0) rfl (by first | exact nI_1 _ | rfl) (by decide) rfl (fun ls hl => ?_)
                refine lv_goto (tgt := 46) hx hb d_C_muchDifferent_85 (by decide) ?_
                exact ih_y (4 - (y + 1)) (by omega) ls (y + 1) (by rw [show cntM σ p1 z (y + 1) = cntM σ p1 z y from if_neg (by grind)]; exact (lv_sub hl [0, 1, 2, 3, 4, 5, 6] rfl)) hlt_y (Nat.zero_le _) rfl
              · refine lv_iinc (v := (cntS σ p0 p1 z + cntM σ p1 z y) + 1) (lv' := [(3, .int ((cntS σ p0 p1 z + cntM σ p1 z y) + 1)), (6, .int (nI y)), (5, .ref (ad (200 + z))), (4, .int (nI z)), (0, .ref (ad 0)), (1, .int p0), (2, .int p1)]) hx hb d_C_muchDifferent_79 hl (k := 3) rfl (by first | exact nI_1 _ | rfl) (by decide) rfl (fun ls hl => ?_)
                refine lv_iinc (v := nI (y + 1)) (lv' := [(6, .int (nI (y + 1))), (3, .int ((cntS σ p0 p1 z + cntM σ p1 z y) + 1)), (5, .ref (ad (200 + z))), (4, .int (nI z)), (0, .ref (ad 0)), (1, .int p0), (2, .int p1)]) hx hb d_C_muchDifferent_82 hl (k := 1) rfl (by first | exact nI_1 _ | rfl) (by decide) rfl (fun ls hl => ?_)
                refine lv_goto (tgt := 46) hx hb d_C_muchDifferent_85 (by decide) ?_
                exact ih_y (4 - (y + 1)) (by omega) ls (y + 1) (by rw [show cntM σ p1 z (y + 1) = cntM σ p1 z y + 1 from if_pos (by grind), ← add_a3]; exact (lv_sub hl [0, 2, 3, 1, 4, 5, 6] rfl)) hlt_y (Nat.zero_le _) rfl
            · refine lv_aload hx hb d_C_muchDifferent_56 (lv_at hl 1 rfl) ?_
              refine rl_get (r := 200 + z) (ci := 3) (v := .ref (ad (400 + z))) (C := R_S) (T := F_S) (N := 4) hx hb hG in_S hown hK hP (RC_sam hlt_z) (gC_sam (by have := hI; unfold Iv at this; omega)) rfl 3 (by decide) kw_476 (fun _ h9 => h9) rfl d_C_muchDifferent_58 ?_
              refine lv_iload hx hb d_C_muchDifferent_61 (lv_at hl 0 rfl) ?_
              refine rl_zald (r := 400 + z) (i := nI y) hx hb hK hP (RC_set hlt_z) 1 (gC_set (by have := hI; unfold Iv at this; omega)) rfl (vp_in_nI (Nat.lt_of_lt_of_le hlt_y (by decide)) (by decide)) d_C_muchDifferent_63 ?_
              rw [nI_clamp (Nat.lt_of_lt_of_le hlt_y (by decide))]
              refine lv_if_ne (tgt := 82) hx hb d_C_muchDifferent_64 (by decide) (fun c_12 => ?_) (fun c_12 => ?_)
              · refine lv_iinc (v := nI (y + 1)) (lv' := [(6, .int (nI (y + 1))), (5, .ref (ad (200 + z))), (4, .int (nI z)), (3, .int (cntS σ p0 p1 z + cntM σ p1 z y)), (0, .ref (ad 0)), (1, .int p0), (2, .int p1)]) hx hb d_C_muchDifferent_82 hl (k := 0) rfl (by first | exact nI_1 _ | rfl) (by decide) rfl (fun ls hl => ?_)
                refine lv_goto (tgt := 46) hx hb d_C_muchDifferent_85 (by decide) ?_
                exact ih_y (4 - (y + 1)) (by omega) ls (y + 1) (by rw [show cntM σ p1 z (y + 1) = cntM σ p1 z y from if_neg (by grind)]; exact (lv_sub hl [0, 1, 2, 3, 4, 5, 6] rfl)) hlt_y (Nat.zero_le _) rfl
              · refine lv_aload_n hx hb d_C_muchDifferent_67 rfl (lv_at hl 4 rfl) ?_
                refine lv_aload hx hb d_C_muchDifferent_68 (lv_at hl 1 rfl) ?_
                refine lv_iload hx hb d_C_muchDifferent_70 (lv_at hl 0 rfl) ?_
                refine vp_callSi (W.runV (As := [.ref (ad (200 + z)), .int (nI y)]) (rest := []) ⟨hx, hb, hml, hown, hts⟩ (c_C_difference l D cs ad σ n nm ci cj E hI z y hlt_z hlt_y (hJ.2 z hlt_z)) (cwV 2 hts (gw_V kw_174 kw_176 ks_0_4 kw_1 kw_177) rfl rfl rfl (by decide +kernel) ⟨Nat.le_of_ble_eq_true rfl, Nat.le_of_ble_eq_true rfl⟩) (rd_V hP hK (rl_recv hK hP (RC_f (by decide)) gC_0 rfl)) rfl rfl hl.1 rfl (lv_room (Nat.le_of_ble_eq_true rfl)) d_C_muchDifferent_72 ⟨Nat.zero_le _, Nat.zero_le _⟩) (fun r_13 h_14 => ?_)
                subst h_14
                refine lv_iconst (v := 2) hx hb d_C_muchDifferent_75 (by decide) ?_
                refine lv_icmp_ne (tgt := 82) hx hb d_C_muchDifferent_76 (by decide) (fun c_15 => ?_) (fun c_15 => ?_)
                · refine lv_iinc (v := nI (y + 1)) (lv' := [(6, .int (nI (y + 1))), (5, .ref (ad (200 + z))), (4, .int (nI z)), (3, .int (cntS σ p0 p1 z + cntM σ p1 z y)), (0, .ref (ad 0)), (1, .int p0), (2, .int p1)]) hx hb d_C_muchDifferent_82 hl (k := 0) rfl (by first | exact nI_1 _ | rfl) (by decide) rfl (fun ls hl => ?_)
                  refine lv_goto (tgt := 46) hx hb d_C_muchDifferent_85 (by decide) ?_
                  exact ih_y (4 - (y + 1)) (by omega) ls (y + 1) (by rw [show cntM σ p1 z (y + 1) = cntM σ p1 z y from if_neg (by grind)]; exact (lv_sub hl [0, 1, 2, 3, 4, 5, 6] rfl)) hlt_y (Nat.zero_le _) rfl
                · refine lv_iinc (v := (cntS σ p0 p1 z + cntM σ p1 z y) + 1) (lv' := [(3, .int ((cntS σ p0 p1 z + cntM σ p1 z y) + 1)), (6, .int (nI y)), (5, .ref (ad (200 + z))), (4, .int (nI z)), (0, .ref (ad 0)), (1, .int p0), (2, .int p1)]) hx hb d_C_muchDifferent_79 hl (k := 3) rfl (by first | exact nI_1 _ | rfl) (by decide) rfl (fun ls hl => ?_)
                  refine lv_iinc (v := nI (y + 1)) (lv' := [(6, .int (nI (y + 1))), (3, .int ((cntS σ p0 p1 z + cntM σ p1 z y) + 1)), (5, .ref (ad (200 + z))), (4, .int (nI z)), (0, .ref (ad 0)), (1, .int p0), (2, .int p1)]) hx hb d_C_muchDifferent_82 hl (k := 1) rfl (by first | exact nI_1 _ | rfl) (by decide) rfl (fun ls hl => ?_)
                  refine lv_goto (tgt := 46) hx hb d_C_muchDifferent_85 (by decide) ?_
                  exact ih_y (4 - (y + 1)) (by omega) ls (y + 1) (by rw [show cntM σ p1 z (y + 1) = cntM σ p1 z y + 1 from if_pos (by grind), ← add_a3]; exact (lv_sub hl [0, 2, 3, 1, 4, 5, 6] rfl)) hlt_y (Nat.zero_le _) rfl
      · refine lv_goto (tgt := 88) hx hb d_C_muchDifferent_40 (by decide) ?_
        refine lv_iinc (v := nI (z + 1)) (lv' := [(4, .int (nI (z + 1))), (5, .ref (ad (200 + z))), (3, .int (cntS σ p0 p1 z)), (0, .ref (ad 0)), (1, .int p0), (2, .int p1)]) hx hb d_C_muchDifferent_88 hl (k := 1) rfl (by first | exact nI_1 _ | rfl) (by decide) rfl (fun ls hl => ?_)
        refine lv_goto (tgt := 5) hx hb d_C_muchDifferent_91 (by decide) ?_
        exact ih_z (nm - (z + 1)) (by omega) ls (z + 1) (by rw [show cntS σ p0 p1 (z + 1) = cntS σ p0 p1 z from if_neg c_6]; exact (lv_sub hl [0, 2, 3, 4, 5] rfl)) hlt_z (Nat.zero_le _) rfl
end
section
/-! Writes: a changed cell is a changed state. -/
theorem RC_cases {n nm q : Nat} (h : q ∈ RC n nm) (hn : n ≤ 30) (hm : nm ≤ 40) : q ∈ [0, 1, 2, 5, 6, 7, 8, 9, 10, 11] ∨ (∃ d, d < 10 ∧ q = 20 + d) ∨ q = 3 ∨ q = 4 ∨ (∃ i, i < 100 ∧ q = 100 + i) ∨ (∃ i, i < 100 ∧ q = 200 + i) ∨ (∃ i, i < 100 ∧ q = 300 + i) ∨ ∃ i, i < 100 ∧ q = 400 + i := by
  unfold RC at h
  rcases List.mem_append.mp h with h | h
  · exact Or.inl h
  rcases List.mem_append.mp h with h | h
  · obtain ⟨d, hd, rfl⟩ := List.mem_map.mp h
    exact Or.inr (Or.inl ⟨d, List.mem_range.mp hd, rfl⟩)
  rcases List.mem_append.mp h with h | h
  · by_cases h0 : n = 0
    · rw [if_pos h0] at h
      cases h
    · rw [if_neg h0] at h
      exact Or.inr (Or.inr (Or.inl (List.mem_singleton.mp h)))
  rcases List.mem_append.mp h with h | h
  · by_cases h0 : nm = 0
    · rw [if_pos h0] at h
      cases h
    · rw [if_neg h0] at h
      exact Or.inr (Or.inr (Or.inr (Or.inl (List.mem_singleton.mp h))))
  rcases List.mem_append.mp h with h | h
  · obtain ⟨d, hd, rfl⟩ := List.mem_map.mp h
    have := List.mem_range.mp hd
    exact Or.inr (Or.inr (Or.inr (Or.inr (Or.inl ⟨d, by omega, rfl⟩))))
  rcases List.mem_append.mp h with h | h
  · obtain ⟨d, hd, rfl⟩ := List.mem_map.mp h
    have := List.mem_range.mp hd
    exact Or.inr (Or.inr (Or.inr (Or.inr (Or.inr (Or.inl ⟨d, by omega, rfl⟩)))))
  rcases List.mem_append.mp h with h | h
  · obtain ⟨d, hd, rfl⟩ := List.mem_map.mp h
    have := List.mem_range.mp hd
    exact Or.inr (Or.inr (Or.inr (Or.inr (Or.inr (Or.inr (Or.inl ⟨d, by omega, rfl⟩))))))
  · obtain ⟨d, hd, rfl⟩ := List.mem_map.mp h
    have := List.mem_range.mp hd
    exact Or.inr (Or.inr (Or.inr (Or.inr (Or.inr (Or.inr (Or.inr ⟨d, by omega, rfl⟩))))))
theorem su_ne {σ : Nat → Nat → Int32} {k j a b : Nat} {x : Int32} (h : a ≠ k) : su σ k j x a b = σ a b := if_neg (fun q => h q.1)
theorem su_row {σ : Nat → Nat → Int32} {k j a : Nat} {x : Int32} (h : a ≠ k) : su σ k j x a = σ a := funext fun _ => su_ne h
theorem su_same {σ : Nat → Nat → Int32} {k j : Nat} {x : Int32} : su σ k j x k = upd (σ k) j x := funext fun b => by
  unfold su upd
  by_cases h : b = j
  · rw [if_pos ⟨rfl, h⟩, if_pos h]
  · rw [if_neg (fun q => h q.2), if_neg h]
theorem su_nj {σ : Nat → Nat → Int32} {k j a b : Nat} {x : Int32} (h : b ≠ j) : su σ k j x a b = σ a b := if_neg (fun q => h q.2)
theorem su_at {σ : Nat → Nat → Int32} {k j : Nat} {x : Int32} : su σ k j x k j = x := if_pos ⟨rfl, rfl⟩
section GU
variable {cs : Nat → ClassId} {ad : Nat → Nat} {σ : Nat → Nat → Int32} {n nm ci cj E : Nat}
/-- a component that no other cell shows -/
theorem gC_away {k j : Nat} {x : Int32} {q : Nat} (hq : q ∈ RC n nm) (hn : n ≤ 30) (hm : nm ≤ 40)
    (h0 : q = 0 → k ≠ 0) (h1 : q = 1 ∨ q = 2 → k ≠ 7) (hA : ∀ r c, (r, c) ∈ [(5, 1), (6, 2), (7, 3), (8, 4), (10, 5), (11, 6)] → q = r → k ≠ c) (hR : ∀ d, q = 20 + d → k ≠ 10 + d)
    (hi : ∀ i, i < 100 → q = 100 + i → i ≠ j ∨ k < 20 ∨ 29 < k) (hs : ∀ i, i < 100 → q = 200 + i → i ≠ j ∨ (k ≠ 30 ∧ k ≠ 31)) (hf : ∀ i, q = 300 + i → k ≠ 1000 + i) (ht : ∀ i, q = 400 + i → k ≠ 2000 + i) :
    gC cs ad (su σ k j x) n nm ci cj E q = gC cs ad σ n nm ci cj E q := by
  rcases RC_cases hq hn hm with h | ⟨d, hd, rfl⟩ | rfl | rfl | ⟨i, hi', rfl⟩ | ⟨i, hi', rfl⟩ | ⟨i, hi', rfl⟩ | ⟨i, hi', rfl⟩
  · simp only [List.mem_cons, List.not_mem_nil, or_false] at h
    rcases h with rfl | rfl | rfl | rfl | rfl | rfl | rfl | rfl | rfl | rfl
    · rw [gC_0, gC_0, su_ne (h0 rfl).symm]
    · rw [gC_1', gC_1', su_ne (h1 (Or.inl rfl)).symm]
    · rw [gC_2', gC_2', su_ne (h1 (Or.inr rfl)).symm]
    · rw [gC_5, gC_5, su_row (hA 5 1 (by decide) rfl).symm]
    · rw [gC_6, gC_6, su_row (hA 6 2 (by decide) rfl).symm]
    · rw [gC_7, gC_7, su_row (hA 7 3 (by decide) rfl).symm]
    · rw [gC_8, gC_8, su_row (hA 8 4 (by decide) rfl).symm]
    · rw [gC_9, gC_9]
    · rw [gC_10, gC_10, su_row (hA 10 5 (by decide) rfl).symm]
    · rw [gC_11, gC_11, su_row (hA 11 6 (by decide) rfl).symm]
  · rw [gC_row hd, gC_row hd, su_row (hR d rfl).symm]
  · rw [gC_3, gC_3]
  · rw [gC_4, gC_4]
  · rw [gC_ins hi', gC_ins hi']
    rcases hi i hi' rfl with h | h
    · simp only [insF, su_nj h]
    · have e : ∀ f, f < 10 → su σ k j x (20 + f) i = σ (20 + f) i := fun f hf => su_ne (by omega)
      simp only [insF]
      rw [show su σ k j x 20 i = σ 20 i from e 0 (by decide), show su σ k j x 21 i = σ 21 i from e 1 (by decide), show su σ k j x 22 i = σ 22 i from e 2 (by decide), show su σ k j x 23 i = σ 23 i from e 3 (by decide), show su σ k j x 24 i = σ 24 i from e 4 (by decide), show su σ k j x 25 i = σ 25 i from e 5 (by decide), show su σ k j x 26 i = σ 26 i from e 6 (by decide), show su σ k j x 27 i = σ 27 i from e 7 (by decide), show su σ k j x 28 i = σ 28 i from e 8 (by decide), show su σ k j x 29 i = σ 29 i from e 9 (by decide)]
  · rw [gC_sam hi', gC_sam hi']
    rcases hs i hi' rfl with h | ⟨h, h'⟩
    · simp only [samF, su_nj h]
    · simp only [samF, su_ne h.symm, su_ne h'.symm]
  · rw [gC_fou hi', gC_fou hi', su_row (hf i rfl).symm]
  · rw [gC_set hi', gC_set hi', su_row (ht i rfl).symm]
theorem wC_arr {r k N j : Nat} {x : Int32} (hn : n ≤ 30) (hm : nm ≤ 40) (hrk : (r, k, N) ∈ [(5, 1, 10), (6, 2, 10), (7, 3, 10), (8, 4, 10), (10, 5, 4), (11, 6, 4)]) : rl_w (RC n nm) ad (va_up (gC cs ad σ n nm ci cj E) r (arI (cs 0) N (upd (σ k) j x))) = wC cs ad (su σ k j x) n nm ci cj E := by
  apply rl_congr
  intro q hq
  simp only [List.mem_cons, Prod.mk.injEq, List.not_mem_nil, or_false] at hrk
  by_cases e : q = r
  · subst e
    rw [va_up_self]
    rcases hrk with ⟨rfl, rfl, rfl⟩ | ⟨rfl, rfl, rfl⟩ | ⟨rfl, rfl, rfl⟩ | ⟨rfl, rfl, rfl⟩ | ⟨rfl, rfl, rfl⟩ | ⟨rfl, rfl, rfl⟩
    · rw [gC_5, su_same]
    · rw [gC_6, su_same]
    · rw [gC_7, su_same]
    · rw [gC_8, su_same]
    · rw [gC_10, su_same]
    · rw [gC_11, su_same]
  · rw [va_up_ne _ _ e]
    refine (gC_away hq hn hm (by omega) (by omega) (fun r' c h hqr => ?_) (by omega) (fun i hi hqi => Or.inr (by omega)) (fun i hi hqi => Or.inr (by omega)) (by omega) (by omega)).symm
    simp only [List.mem_cons, Prod.mk.injEq, List.not_mem_nil, or_false] at h
    omega
theorem wC_row {d j : Nat} {x : Int32} (hn : n ≤ 30) (hm : nm ≤ 40) (hd : d < 10) : rl_w (RC n nm) ad (va_up (gC cs ad σ n nm ci cj E) (20 + d) (arI (cs 0) 4 (upd (σ (10 + d)) j x))) = wC cs ad (su σ (10 + d) j x) n nm ci cj E := by
  apply rl_congr
  intro q hq
  by_cases e : q = 20 + d
  · subst e
    rw [va_up_self, gC_row hd, su_same]
  · rw [va_up_ne _ _ e]
    refine (gC_away hq hn hm (by omega) (by omega) (fun r' c h hqr => ?_) (by omega) (fun i hi hqi => Or.inr (by omega)) (fun i hi hqi => Or.inr (by omega)) (by omega) (by omega)).symm
    simp only [List.mem_cons, Prod.mk.injEq, List.not_mem_nil, or_false] at h
    omega
theorem wC_fou {i j : Nat} {x : Int32} (hn : n ≤ 30) (hm : nm ≤ 40) (hi : i < 100) : rl_w (RC n nm) ad (va_up (gC cs ad σ n nm ci cj E) (300 + i) (arI (cs 0) 4 (upd (σ (1000 + i)) j x))) = wC cs ad (su σ (1000 + i) j x) n nm ci cj E := by
  apply rl_congr
  intro q hq
  by_cases e : q = 300 + i
  · subst e
    rw [va_up_self, gC_fou hi, su_same]
  · rw [va_up_ne _ _ e]
    refine (gC_away hq hn hm (by omega) (by omega) (fun r' c h hqr => ?_) (fun d hqd => by rcases RC_cases hq hn hm with h | ⟨d', hd', h⟩ | h | h | ⟨d', hd', h⟩ | ⟨d', hd', h⟩ | ⟨d', hd', h⟩ | ⟨d', hd', h⟩ <;> first | omega | (simp only [List.mem_cons, List.not_mem_nil, or_false] at h; omega)) (fun i hi hqi => Or.inr (by omega)) (fun i hi hqi => Or.inr (by omega)) (by omega) (fun i' hqi => by rcases RC_cases hq hn hm with h | ⟨d', hd', h⟩ | h | h | ⟨d', hd', h⟩ | ⟨d', hd', h⟩ | ⟨d', hd', h⟩ | ⟨d', hd', h⟩ <;> first | omega | (simp only [List.mem_cons, List.not_mem_nil, or_false] at h; omega))).symm
    simp only [List.mem_cons, Prod.mk.injEq, List.not_mem_nil, or_false] at h
    omega
theorem wC_now {x : Int32} (hn : n ≤ 30) (hm : nm ≤ 40) : rl_w (RC n nm) ad (va_up (gC cs ad σ n nm ci cj E) 0 (.inr (1, [.ref (ad 1), .ref (ad 2), .ref (ad 5), .ref (ad 6), .ref (ad 7), .ref (ad 8), .ref (ad 9), .ref (ad 10), .ref (ad 11), .int x]))) = wC cs ad (su σ 0 0 x) n nm ci cj E := by
  apply rl_congr
  intro q hq
  by_cases e : q = 0
  · subst e
    rw [va_up_self, gC_0, su_at]
  · rw [va_up_ne _ _ e]
    refine (gC_away hq hn hm (by omega) (by omega) (fun r' c h hqr => ?_) (by omega) (fun i hi hqi => Or.inr (by omega)) (fun i hi hqi => Or.inr (by omega)) (by omega) (by omega)).symm
    simp only [List.mem_cons, Prod.mk.injEq, List.not_mem_nil, or_false] at h
    omega
theorem insF_set {i f : Nat} {x : Int32} (hf : f < 10) : (insF σ i).set f (.int x) = insF (su σ (20 + f) i x) i := by
  have h : f = 0 ∨ f = 1 ∨ f = 2 ∨ f = 3 ∨ f = 4 ∨ f = 5 ∨ f = 6 ∨ f = 7 ∨ f = 8 ∨ f = 9 := by omega
  rcases h with rfl | rfl | rfl | rfl | rfl | rfl | rfl | rfl | rfl | rfl <;> simp [insF, su]
theorem wC_ins {i f : Nat} {x : Int32} (hn : n ≤ 30) (hm : nm ≤ 40) (hi : i < 100) (hf : f < 10) : rl_w (RC n nm) ad (va_up (gC cs ad σ n nm ci cj E) (100 + i) (.inr (2, (insF σ i).set f (.int x)))) = wC cs ad (su σ (20 + f) i x) n nm ci cj E := by
  apply rl_congr
  intro q hq
  by_cases e : q = 100 + i
  · subst e
    rw [va_up_self, gC_ins hi, insF_set hf]
  · rw [va_up_ne _ _ e]
    refine (gC_away hq hn hm (by omega) (by omega) (fun r' c h hqr => ?_) (fun d hqd => by rcases RC_cases hq hn hm with h | ⟨d', hd', h⟩ | h | h | ⟨d', hd', h⟩ | ⟨d', hd', h⟩ | ⟨d', hd', h⟩ | ⟨d', hd', h⟩ <;> first | omega | (simp only [List.mem_cons, List.not_mem_nil, or_false] at h; omega)) (fun i' hi' hqi => Or.inl (by omega)) (fun i hi hqi => Or.inr (by omega)) (by omega) (by omega)).symm
    simp only [List.mem_cons, Prod.mk.injEq, List.not_mem_nil, or_false] at h
    omega
end GU
end
section
abbrev wr_B (D : va_G) (cs : Nat → ClassId) (ws : va_W) (sz : Nat) : State → Prop := fun U => U.heap.size = sz ∧ va_P D cls_ ws U.heap ∧ va_K D cls_ (tys_ cs) U ∧ va_D (fun _ => True) ws
abbrev wr_T (D : va_G) (cs : Nat → ClassId) (ws : va_W) (A : Nat → Prop) : State → Prop := fun t => va_P D cls_ ws t.heap ∧ va_K D cls_ (tys_ cs) t ∧ va_D A ws
theorem hn_ {n nm ci cj : Nat} (h : Iv n nm ci cj) : n ≤ 30 := h.1
theorem hm_ {n nm ci cj : Nat} (h : Iv n nm ci cj) : nm ≤ 40 := h.2.1
/-- a place of a list, from what the guard says -/
theorem at_ {p : Int32} {n : Nat} (hn : n < 2 ^ 31) (h : 0 ≤ p ∧ p ≤ nI n - 1) : ∃ i : Nat, i < n ∧ p = nI i := by
  obtain ⟨h0, h1⟩ := h
  have hp : ¬ p < 0 := fun q => by rw [i32_lt, i32_n0] at q; rw [i32_le, i32_n0] at h0; omega
  obtain ⟨j, hj, rfl⟩ := nI_of hp
  refine ⟨j, ?_, rfl⟩
  rcases Nat.eq_zero_or_pos n with rfl | hpos
  · exfalso
    rw [i32_le, nI_toInt hj, show (nI 0 - 1).toInt = -1 by decide] at h1
    omega
  · rw [show nI n - 1 = nI (n - 1) by have := nI_pred (n - 1); rwa [Nat.sub_add_cancel hpos] at this, nI_leI hj (by omega)] at h1
    omega
set_option maxHeartbeats 4000000 in
set_option maxRecDepth 100000 in
theorem c_C_tolerance (l : Launch) (D : va_G) (cs : Nat → ClassId) (ad : Nat → Nat) (σ : Nat → Nat → Int32) (n nm ci cj E : Nat) (hI : Iv n nm ci cj) (sz : Nat) (p0 p1 p2 : Int32) : Met l y_C_tolerance (Cond.code y_C_tolerance b_C_tolerance 4 (some .boolean) :: GW) ({ frames := 3, cells := 0, slots := 0, locals := 96 }) (va_Pc [.ref (ad 0), .int p0, .int p1, .int p2] (wr_B D cs (wC cs ad σ n nm ci cj E) sz)) (va_Qi (fun r (u : Nat → Nat → Int32) => (((0 ≤ p0 ∧ p0 ≤ 3) ∧ (0 ≤ p1 ∧ p1 ≤ 1000) ∧ (0 ≤ p2 ∧ p2 ≤ 1000)) ∧ r = 1 ∧ u = su (su σ 5 p0.toNatClampNeg p1) 6 p0.toNatClampNeg p2) ∨ (¬ ((0 ≤ p0 ∧ p0 ≤ 3) ∧ (0 ≤ p1 ∧ p1 ≤ 1000) ∧ (0 ≤ p2 ∧ p2 ≤ 1000)) ∧ r = 0 ∧ u = σ)) (fun u => wr_T D cs (wC cs ad u n nm ci cj E) (va_A (wC cs ad σ n nm ci cj E) sz)) (va_A (wC cs ad σ n nm ci cj E) sz)) 0 0 (va_A (wC cs ad σ n nm ci cj E) sz) := by
  refine Met.ofW (cc := b_C_tolerance) (maxL := 4) (ret := (some .boolean)) (by decide) rfl ?_
  intro p e s m args below meth c s₁ B hml hv
  obtain ⟨rfl, hsz, hP, hK, hD0⟩ := hv
  have hx := B.exec
  have hb := B.bytes
  have hr := B.returns
  have hts := atoms_spec (ws := Cond.code y_C_tolerance b_C_tolerance 4 (some .boolean) :: GW) B.pre
  have hG : ∀ w ∈ GW, w.before _ s = true := fun w h => hts w (List.mem_cons_of_mem _ h)
  have hown : s.vm.findClass R_C = some m.cls := findClass_of_methodNamed B.named
  have hlocks := B.notSynchronized
  subst hsz
  have hD := hD0.self (sz := s.heap.size)
  generalize hAe : va_A (wC cs ad σ n nm ci cj E) s.heap.size = A at hD ⊢
  have hA : ∀ q : Nat, s.heap.size ≤ q → A q := fun q h => by rw [← hAe]; exact Or.inr h
  have hS : va_S A s.heap s.heap [] := va_S.rf
  have hl := lv_entry ([.ref (ad 0), .int p0, .int p1, .int p2]) (n := 4) (Nat.le_of_ble_eq_true rfl)
  rw [lg_entry_eq]
  generalize (lg_sl ([.ref (ad 0), .int p0, .int p1, .int p2]) ++ List.replicate (4 - (lg_sl ([.ref (ad 0), .int p0, .int p1, .int p2])).length) Slot.unset).toArray = ls at hl ⊢
  have hl : lv_has ls 4 [(0, .ref (ad 0)), (1, .int p0), (2, .int p1), (3, .int p2)] := hl
  refine lv_iload_n hx hb d_C_tolerance_0 rfl (lv_at hl 1 rfl) ?_
  refine vp_callSi (W.runS (As := [.int p0]) (rest := []) ⟨hx, hb, hml, hown, hts⟩ (c_C_isMeasure l p0) (va_cwS 1 hts (gw_S kw_146 kw_147 kw_1 kw_148) rfl rfl rfl (by decide +kernel) ⟨Nat.le_of_ble_eq_true rfl, Nat.le_of_ble_eq_true rfl⟩) ⟨fun _ _ _ _ q => q, fun U _ _ => ⟨rfl, trivial⟩⟩ rfl rfl hl.1 rfl (lv_room (Nat.le_of_ble_eq_true rfl)) d_C_tolerance_1 ⟨Nat.zero_le _, Nat.zero_le _⟩) (fun r_1 h_2 => ?_)
  subst h_2
  refine lv_if_eq (tgt := 29) hx hb d_C_tolerance_4 (by decide) (fun c_3 => ?_) (fun c_3 => ?_)
  · refine lv_iconst (v := 0) hx hb d_C_tolerance_29 (by decide) ?_
    exact W.zret (v := 0) (ty := .boolean) hx hb hr rfl (fun t ht hW => ⟨⟨0, σ, rfl, Or.inr ⟨by ((try simp only [b2i_eq0, Classical.not_not] at c_3); first | (simp only [i32_eq, i32_lt, i32_le, i32_nm1, i32_n0, i32_n1, i32_n2, i32_n3, i32_n4, i32_n5, i32_n6, i32_n7, i32_n8, i32_n9, i32_n10, i32_n20, i32_n30, i32_n31, i32_n39, i32_n40, i32_n49, i32_n50, i32_n100, i32_n160, i32_n1000, i32_n100000, i32_n1000000] at c_3 ⊢; omega) | grind), rfl, rfl⟩, by rw [ht]; exact hP, va_K.moved hW.alike hK, hD⟩, hS.F ht⟩) hS.2.2 d_C_tolerance_30
  · refine lv_iload_n hx hb d_C_tolerance_7 rfl (lv_at hl 2 rfl) ?_
    refine lv_iconst (v := 0) hx hb d_C_tolerance_8 (by decide) ?_
    refine lv_sipush (v := 1000) hx hb d_C_tolerance_9 (by decide) ?_
    refine vp_callSi (W.runS (As := [.int p1, .int 0, .int 1000]) (rest := []) ⟨hx, hb, hml, hown, hts⟩ (c_C_isWithin l p1 0 1000) (va_cwS 3 hts (gw_S kw_98 kw_99 kw_1 kw_100) rfl rfl rfl (by decide +kernel) ⟨Nat.le_of_ble_eq_true rfl, Nat.le_of_ble_eq_true rfl⟩) ⟨fun _ _ _ _ q => q, fun U _ _ => ⟨rfl, trivial⟩⟩ rfl rfl hl.1 rfl (lv_room (Nat.le_of_ble_eq_true rfl)) d_C_tolerance_12 ⟨Nat.zero_le _, Nat.zero_le _⟩) (fun r_4 h_5 => ?_)
    subst h_5
    refine lv_if_eq (tgt := 29) hx hb d_C_tolerance_15 (by decide) (fun c_6 => ?_) (fun c_6 => ?_)
    · refine lv_iconst (v := 0) hx hb d_C_tolerance_29 (by decide) ?_
      exact W.zret (v := 0) (ty := .boolean) hx hb hr rfl (fun t ht hW => ⟨⟨0, σ, rfl, Or.inr ⟨by ((try simp only [b2i_eq0, Classical.not_not] at c_3 c_6); first | (simp only [i32_eq, i32_lt, i32_le, i32_nm1, i32_n0, i32_n1, i32_n2, i32_n3, i32_n4, i32_n5, i32_n6, i32_n7, i32_n8, i32_n9, i32_n10, i32_n20, i32_n30, i32_n31, i32_n39, i32_n40, i32_n49, i32_n50, i32_n100, i32_n160, i32_n1000, i32_n100000, i32_n1000000] at c_3 c_6 ⊢; omega) | grind), rfl, rfl⟩, by rw [ht]; exact hP, va_K.moved hW.alike hK, hD⟩, hS.F ht⟩) hS.2.2 d_C_tolerance_30
    · refine lv_iload_n hx hb d_C_tolerance_18 rfl (lv_at hl 3 rfl) ?_
      refine lv_iconst (v := 0) hx hb d_C_tolerance_19 (by decide) ?_
      refine lv_sipush (v := 1000) hx hb d_C_tolerance_20 (by decide) ?_
      refine vp_callSi (W.runS (As := [.int p2, .int 0, .int 1000]) (rest := []) ⟨hx, hb, hml, hown, hts⟩ (c_C_isWithin l p2 0 1000) (va_cwS 3 hts (gw_S kw_98 kw_99 kw_1 kw_100) rfl rfl rfl (by decide +kernel) ⟨Nat.le_of_ble_eq_true rfl, Nat.le_of_ble_eq_true rfl⟩) ⟨fun _ _ _ _ q => q, fun U _ _ => ⟨rfl, trivial⟩⟩ rfl rfl hl.1 rfl (lv_room (Nat.le_of_ble_eq_true rfl)) d_C_tolerance_23 ⟨Nat.zero_le _, Nat.zero_le _⟩) (fun r_7 h_8 => ?_)
      subst h_8
      refine lv_if_ne (tgt := 31) hx hb d_C_tolerance_26 (by decide) (fun c_9 => ?_) (fun c_9 => ?_)
      · refine lv_aload_n hx hb d_C_tolerance_31 rfl (lv_at hl 0 rfl) ?_
        refine rl_get (r := 0) (ci := 1) (v := .ref (ad 10)) (C := R_C) (T := F_C) (N := 10) hx hb hG in_C hown hK hP (RC_f (by decide)) gC_0 rfl 7 (by decide) kw_66 (fun _ h9 => h9) rfl d_C_tolerance_32 ?_
        refine lv_iload_n hx hb d_C_tolerance_35 rfl (lv_at hl 1 rfl) ?_
        refine lv_iload_n hx hb d_C_tolerance_36 rfl (lv_at hl 2 rfl) ?_
        refine rl_iast (r := 10) (i := p0) (x := p1) hx hb hK hP hD hS (RC_f (by decide)) 0 gC_10 rfl (vp_in_iff.mpr (by ((try simp only [b2i_eq0, Classical.not_not] at c_3 c_6 c_9); simp only [i32_eq, i32_lt, i32_le, i32_nm1, i32_n0, i32_n1, i32_n2, i32_n3, i32_n4, i32_n5, i32_n6, i32_n7, i32_n8, i32_n9, i32_n10, i32_n20, i32_n30, i32_n31, i32_n39, i32_n40, i32_n49, i32_n50, i32_n100, i32_n160, i32_n1000, i32_n100000, i32_n1000000] at c_3 c_6 c_9 ⊢; omega))) d_C_tolerance_37 (fun H locs hP hD hS => ?_)
        rw [wC_arr (k := 5) (hn_ hI) (hm_ hI) (by decide)] at hP hD
        refine lv_aload_n hx hb d_C_tolerance_38 rfl (lv_at hl 0 rfl) ?_
        refine rl_get (r := 0) (ci := 1) (v := .ref (ad 11)) (C := R_C) (T := F_C) (N := 10) hx hb hG in_C hown hK hP (RC_f (by decide)) gC_0 rfl 8 (by decide) kw_67 (fun _ h9 => h9) rfl d_C_tolerance_39 ?_
        refine lv_iload_n hx hb d_C_tolerance_42 rfl (lv_at hl 1 rfl) ?_
        refine lv_iload_n hx hb d_C_tolerance_43 rfl (lv_at hl 3 rfl) ?_
        refine rl_iast (r := 11) (i := p0) (x := p2) hx hb hK hP hD hS (RC_f (by decide)) 0 gC_11 rfl (vp_in_iff.mpr (by ((try simp only [b2i_eq0, Classical.not_not] at c_3 c_6 c_9); simp only [i32_eq, i32_lt, i32_le, i32_nm1, i32_n0, i32_n1, i32_n2, i32_n3, i32_n4, i32_n5, i32_n6, i32_n7, i32_n8, i32_n9, i32_n10, i32_n20, i32_n30, i32_n31, i32_n39, i32_n40, i32_n49, i32_n50, i32_n100, i32_n160, i32_n1000, i32_n100000, i32_n1000000] at c_3 c_6 c_9 ⊢; omega))) d_C_tolerance_44 (fun H locs hP hD hS => ?_)
        rw [wC_arr (k := 6) (hn_ hI) (hm_ hI) (by decide)] at hP hD
        refine lv_iconst (v := 1) hx hb d_C_tolerance_45 (by decide) ?_
        exact W.zret (v := 1) (ty := .boolean) hx hb hr rfl (fun t ht hW => ⟨⟨1, su (su σ 5 p0.toNatClampNeg p1) 6 p0.toNatClampNeg p2, rfl, Or.inl ⟨by ((try simp only [b2i_eq0, Classical.not_not] at c_3 c_6 c_9); first | (simp only [i32_eq, i32_lt, i32_le, i32_nm1, i32_n0, i32_n1, i32_n2, i32_n3, i32_n4, i32_n5, i32_n6, i32_n7, i32_n8, i32_n9, i32_n10, i32_n20, i32_n30, i32_n31, i32_n39, i32_n40, i32_n49, i32_n50, i32_n100, i32_n160, i32_n1000, i32_n100000, i32_n1000000] at c_3 c_6 c_9 ⊢; omega) | grind), rfl, rfl⟩, by rw [ht]; exact hP, va_K.moved hW.alike hK, hD⟩, hS.F ht⟩) hS.2.2 d_C_tolerance_46
      · refine lv_iconst (v := 0) hx hb d_C_tolerance_29 (by decide) ?_
        exact W.zret (v := 0) (ty := .boolean) hx hb hr rfl (fun t ht hW => ⟨⟨0, σ, rfl, Or.inr ⟨by ((try simp only [b2i_eq0, Classical.not_not] at c_3 c_6 c_9); first | (simp only [i32_eq, i32_lt, i32_le, i32_nm1, i32_n0, i32_n1, i32_n2, i32_n3, i32_n4, i32_n5, i32_n6, i32_n7, i32_n8, i32_n9, i32_n10, i32_n20, i32_n30, i32_n31, i32_n39, i32_n40, i32_n49, i32_n50, i32_n100, i32_n160, i32_n1000, i32_n100000, i32_n1000000] at c_3 c_6 c_9 ⊢; omega) | grind), rfl, rfl⟩, by rw [ht]; exact hP, va_K.moved hW.alike hK, hD⟩, hS.F ht⟩) hS.2.2 d_C_tolerance_30
set_option maxHeartbeats 4000000 in
set_option maxRecDepth 100000 in
theorem c_C_right (l : Launch) (D : va_G) (cs : Nat → ClassId) (ad : Nat → Nat) (σ : Nat → Nat → Int32) (n nm ci cj E : Nat) (hI : Iv n nm ci cj) (sz : Nat) (p0 p1 p2 : Int32) : Met l y_C_right (Cond.code y_C_right b_C_right 4 (some .boolean) :: GW) ({ frames := 3, cells := 0, slots := 0, locals := 96 }) (va_Pc [.ref (ad 0), .int p0, .int p1, .int p2] (wr_B D cs (wC cs ad σ n nm ci cj E) sz)) (va_Qi (fun r (u : Nat → Nat → Int32) => (((0 ≤ p0 ∧ p0 ≤ 9) ∧ (0 ≤ p1 ∧ p1 ≤ 5) ∧ ¬ b2i ((0 ≤ p0 ∧ p0 ≤ 9) ∧ σ 1 p0.toNatClampNeg >>> (p1 &&& 31) &&& 1 = 1) = p2) ∧ r = 1 ∧ u = su σ 1 p0.toNatClampNeg (σ 1 p0.toNatClampNeg ^^^ 1 <<< (p1 &&& 31))) ∨ (¬ ((0 ≤ p0 ∧ p0 ≤ 9) ∧ (0 ≤ p1 ∧ p1 ≤ 5) ∧ ¬ b2i ((0 ≤ p0 ∧ p0 ≤ 9) ∧ σ 1 p0.toNatClampNeg >>> (p1 &&& 31) &&& 1 = 1) = p2) ∧ r = 0 ∧ u = σ)) (fun u => wr_T D cs (wC cs ad u n nm ci cj E) (va_A (wC cs ad σ n nm ci cj E) sz)) (va_A (wC cs ad σ n nm ci cj E) sz)) 0 0 (va_A (wC cs ad σ n nm ci cj E) sz) := by
  refine Met.ofW (cc := b_C_right) (maxL := 4) (ret := (some .boolean)) (by decide) rfl ?_
  intro p e s m args below meth c s₁ B hml hv
  obtain ⟨rfl, hsz, hP, hK, hD0⟩ := hv
  have hx := B.exec
  have hb := B.bytes
  have hr := B.returns
  have hts := atoms_spec (ws := Cond.code y_C_right b_C_right 4 (some .boolean) :: GW) B.pre
  have hG : ∀ w ∈ GW, w.before _ s = true := fun w h => hts w (List.mem_cons_of_mem _ h)
  have hown : s.vm.findClass R_C = some m.cls := findClass_of_methodNamed B.named
  have hlocks := B.notSynchronized
  subst hsz
  have hD := hD0.self (sz := s.heap.size)
  generalize hAe : va_A (wC cs ad σ n nm ci cj E) s.heap.size = A at hD ⊢
  have hA : ∀ q : Nat, s.heap.size ≤ q → A q := fun q h => by rw [← hAe]; exact Or.inr h
  have hS : va_S A s.heap s.heap [] := va_S.rf
  have hl := lv_entry ([.ref (ad 0), .int p0, .int p1, .int p2]) (n := 4) (Nat.le_of_ble_eq_true rfl)
  rw [lg_entry_eq]
  generalize (lg_sl ([.ref (ad 0), .int p0, .int p1, .int p2]) ++ List.replicate (4 - (lg_sl ([.ref (ad 0), .int p0, .int p1, .int p2])).length) Slot.unset).toArray = ls at hl ⊢
  have hl : lv_has ls 4 [(0, .ref (ad 0)), (1, .int p0), (2, .int p1), (3, .int p2)] := hl
  refine lv_iload_n hx hb d_C_right_0 rfl (lv_at hl 1 rfl) ?_
  refine vp_callSi (W.runS (As := [.int p0]) (rest := []) ⟨hx, hb, hml, hown, hts⟩ (c_C_isPerson l p0) (va_cwS 1 hts (gw_S kw_95 kw_96 kw_1 kw_97) rfl rfl rfl (by decide +kernel) ⟨Nat.le_of_ble_eq_true rfl, Nat.le_of_ble_eq_true rfl⟩) ⟨fun _ _ _ _ q => q, fun U _ _ => ⟨rfl, trivial⟩⟩ rfl rfl hl.1 rfl (lv_room (Nat.le_of_ble_eq_true rfl)) d_C_right_1 ⟨Nat.zero_le _, Nat.zero_le _⟩) (fun r_1 h_2 => ?_)
  subst h_2
  refine lv_if_eq (tgt := 26) hx hb d_C_right_4 (by decide) (fun c_3 => ?_) (fun c_3 => ?_)
  · refine lv_iconst (v := 0) hx hb d_C_right_26 (by decide) ?_
    exact W.zret (v := 0) (ty := .boolean) hx hb hr rfl (fun t ht hW => ⟨⟨0, σ, rfl, Or.inr ⟨by ((try simp only [b2i_eq0, Classical.not_not] at c_3); first | (simp only [i32_eq, i32_lt, i32_le, i32_nm1, i32_n0, i32_n1, i32_n2, i32_n3, i32_n4, i32_n5, i32_n6, i32_n7, i32_n8, i32_n9, i32_n10, i32_n20, i32_n30, i32_n31, i32_n39, i32_n40, i32_n49, i32_n50, i32_n100, i32_n160, i32_n1000, i32_n100000, i32_n1000000] at c_3 ⊢; omega) | grind), rfl, rfl⟩, by rw [ht]; exact hP, va_K.moved hW.alike hK, hD⟩, hS.F ht⟩) hS.2.2 d_C_right_27
  · refine lv_iload_n hx hb d_C_right_7 rfl (lv_at hl 2 rfl) ?_
    refine lv_iconst (v := 0) hx hb d_C_right_8 (by decide) ?_
    refine lv_iconst (v := 5) hx hb d_C_right_9 (by decide) ?_
    refine vp_callSi (W.runS (As := [.int p1, .int 0, .int 5]) (rest := []) ⟨hx, hb, hml, hown, hts⟩ (c_C_isWithin l p1 0 5) (va_cwS 3 hts (gw_S kw_98 kw_99 kw_1 kw_100) rfl rfl rfl (by decide +kernel) ⟨Nat.le_of_ble_eq_true rfl, Nat.le_of_ble_eq_true rfl⟩) ⟨fun _ _ _ _ q => q, fun U _ _ => ⟨rfl, trivial⟩⟩ rfl rfl hl.1 rfl (lv_room (Nat.le_of_ble_eq_true rfl)) d_C_right_10 ⟨Nat.zero_le _, Nat.zero_le _⟩) (fun r_4 h_5 => ?_)
    subst h_5
    refine lv_if_eq (tgt := 26) hx hb d_C_right_13 (by decide) (fun c_6 => ?_) (fun c_6 => ?_)
    · refine lv_iconst (v := 0) hx hb d_C_right_26 (by decide) ?_
      exact W.zret (v := 0) (ty := .boolean) hx hb hr rfl (fun t ht hW => ⟨⟨0, σ, rfl, Or.inr ⟨by ((try simp only [b2i_eq0, Classical.not_not] at c_3 c_6); first | (simp only [i32_eq, i32_lt, i32_le, i32_nm1, i32_n0, i32_n1, i32_n2, i32_n3, i32_n4, i32_n5, i32_n6, i32_n7, i32_n8, i32_n9, i32_n10, i32_n20, i32_n30, i32_n31, i32_n39, i32_n40, i32_n49, i32_n50, i32_n100, i32_n160, i32_n1000, i32_n100000, i32_n1000000] at c_3 c_6 ⊢; omega) | grind), rfl, rfl⟩, by rw [ht]; exact hP, va_K.moved hW.alike hK, hD⟩, hS.F ht⟩) hS.2.2 d_C_right_27
    · refine lv_aload_n hx hb d_C_right_16 rfl (lv_at hl 0 rfl) ?_
      refine lv_iload_n hx hb d_C_right_17 rfl (lv_at hl 1 rfl) ?_
      refine lv_iload_n hx hb d_C_right_18 rfl (lv_at hl 2 rfl) ?_
      refine vp_callSi (W.runV (As := [.int p0, .int p1]) (rest := []) ⟨hx, hb, hml, hown, hts⟩ (c_C_mayDo l D cs ad σ n nm ci cj E hI p0 p1) (cwV 2 hts (gw_V kw_101 kw_103 ks_0_0 kw_1 kw_104) rfl rfl rfl (by decide +kernel) ⟨Nat.le_of_ble_eq_true rfl, Nat.le_of_ble_eq_true rfl⟩) (rd_V hP hK (rl_recv hK hP (RC_f (by decide)) gC_0 rfl)) rfl rfl hl.1 rfl (lv_room (Nat.le_of_ble_eq_true rfl)) d_C_right_19 ⟨Nat.zero_le _, Nat.zero_le _⟩) (fun r_7 h_8 => ?_)
      subst h_8
      refine lv_iload_n hx hb d_C_right_22 rfl (lv_at hl 3 rfl) ?_
      refine lv_icmp_ne (tgt := 28) hx hb d_C_right_23 (by decide) (fun c_9 => ?_) (fun c_9 => ?_)
      · refine lv_aload_n hx hb d_C_right_28 rfl (lv_at hl 0 rfl) ?_
        refine rl_get (r := 0) (ci := 1) (v := .ref (ad 5)) (C := R_C) (T := F_C) (N := 10) hx hb hG in_C hown hK hP (RC_f (by decide)) gC_0 rfl 2 (by decide) kw_61 (fun _ h9 => h9) rfl d_C_right_29 ?_
        refine lv_iload_n hx hb d_C_right_32 rfl (lv_at hl 1 rfl) ?_
        refine lv_dup2_11 hx hb d_C_right_33 rfl rfl ?_
        refine rl_iald (r := 5) (i := p0) hx hb hK hP (RC_f (by decide)) 0 gC_5 rfl (vp_in_iff.mpr (by ((try simp only [b2i_eq0, Classical.not_not] at c_3 c_6 c_9); simp only [i32_eq, i32_lt, i32_le, i32_nm1, i32_n0, i32_n1, i32_n2, i32_n3, i32_n4, i32_n5, i32_n6, i32_n7, i32_n8, i32_n9, i32_n10, i32_n20, i32_n30, i32_n31, i32_n39, i32_n40, i32_n49, i32_n50, i32_n100, i32_n160, i32_n1000, i32_n100000, i32_n1000000] at c_3 c_6 c_9 ⊢; omega))) d_C_right_34 ?_
        refine lv_iconst (v := 1) hx hb d_C_right_35 (by decide) ?_
        refine lv_iload_n hx hb d_C_right_36 rfl (lv_at hl 2 rfl) ?_
        refine lv_ishl hx hb d_C_right_37 ?_
        refine lv_ixor hx hb d_C_right_38 ?_
        refine rl_iast (r := 5) (i := p0) (x := (σ 1 p0.toNatClampNeg) ^^^ (1 <<< (p1 &&& 31))) hx hb hK hP hD hS (RC_f (by decide)) 0 gC_5 rfl (vp_in_iff.mpr (by ((try simp only [b2i_eq0, Classical.not_not] at c_3 c_6 c_9); simp only [i32_eq, i32_lt, i32_le, i32_nm1, i32_n0, i32_n1, i32_n2, i32_n3, i32_n4, i32_n5, i32_n6, i32_n7, i32_n8, i32_n9, i32_n10, i32_n20, i32_n30, i32_n31, i32_n39, i32_n40, i32_n49, i32_n50, i32_n100, i32_n160, i32_n1000, i32_n100000, i32_n1000000] at c_3 c_6 c_9 ⊢; omega))) d_C_right_39 (fun H locs hP hD hS => ?_)
        rw [wC_arr (k := 1) (hn_ hI) (hm_ hI) (by decide)] at hP hD
        refine lv_iconst (v := 1) hx hb d_C_right_40 (by decide) ?_
        exact W.zret (v := 1) (ty := .boolean) hx hb hr rfl (fun t ht hW => ⟨⟨1, su σ 1 p0.toNatClampNeg ((σ 1 p0.toNatClampNeg) ^^^ (1 <<< (p1 &&& 31))), rfl, Or.inl ⟨by ((try simp only [b2i_eq0, Classical.not_not] at c_3 c_6 c_9); first | (simp only [i32_eq, i32_lt, i32_le, i32_nm1, i32_n0, i32_n1, i32_n2, i32_n3, i32_n4, i32_n5, i32_n6, i32_n7, i32_n8, i32_n9, i32_n10, i32_n20, i32_n30, i32_n31, i32_n39, i32_n40, i32_n49, i32_n50, i32_n100, i32_n160, i32_n1000, i32_n100000, i32_n1000000] at c_3 c_6 c_9 ⊢; omega) | grind), rfl, rfl⟩, by rw [ht]; exact hP, va_K.moved hW.alike hK, hD⟩, hS.F ht⟩) hS.2.2 d_C_right_41
      · refine lv_iconst (v := 0) hx hb d_C_right_26 (by decide) ?_
        exact W.zret (v := 0) (ty := .boolean) hx hb hr rfl (fun t ht hW => ⟨⟨0, σ, rfl, Or.inr ⟨by ((try simp only [b2i_eq0, Classical.not_not] at c_3 c_6 c_9); first | (simp only [i32_eq, i32_lt, i32_le, i32_nm1, i32_n0, i32_n1, i32_n2, i32_n3, i32_n4, i32_n5, i32_n6, i32_n7, i32_n8, i32_n9, i32_n10, i32_n20, i32_n30, i32_n31, i32_n39, i32_n40, i32_n49, i32_n50, i32_n100, i32_n160, i32_n1000, i32_n100000, i32_n1000000] at c_3 c_6 c_9 ⊢; omega) | grind), rfl, rfl⟩, by rw [ht]; exact hP, va_K.moved hW.alike hK, hD⟩, hS.F ht⟩) hS.2.2 d_C_right_27
set_option maxHeartbeats 4000000 in
set_option maxRecDepth 100000 in
theorem c_C_hold (l : Launch) (D : va_G) (cs : Nat → ClassId) (ad : Nat → Nat) (σ : Nat → Nat → Int32) (n nm ci cj E : Nat) (hI : Iv n nm ci cj) (sz : Nat) (p0 p1 p2 : Int32) : Met l y_C_hold (Cond.code y_C_hold b_C_hold 4 (some .boolean) :: GW) ({ frames := 3, cells := 0, slots := 0, locals := 96 }) (va_Pc [.ref (ad 0), .int p0, .int p1, .int p2] (wr_B D cs (wC cs ad σ n nm ci cj E) sz)) (va_Qi (fun r (u : Nat → Nat → Int32) => (((0 ≤ p0 ∧ p0 ≤ 9) ∧ (0 ≤ p1 ∧ p1 ≤ 7) ∧ ¬ b2i (σ 3 p0.toNatClampNeg >>> (p1 &&& 31) &&& 1 = 1) = p2) ∧ r = 1 ∧ u = su σ 3 p0.toNatClampNeg (σ 3 p0.toNatClampNeg ^^^ 1 <<< (p1 &&& 31))) ∨ (¬ ((0 ≤ p0 ∧ p0 ≤ 9) ∧ (0 ≤ p1 ∧ p1 ≤ 7) ∧ ¬ b2i (σ 3 p0.toNatClampNeg >>> (p1 &&& 31) &&& 1 = 1) = p2) ∧ r = 0 ∧ u = σ)) (fun u => wr_T D cs (wC cs ad u n nm ci cj E) (va_A (wC cs ad σ n nm ci cj E) sz)) (va_A (wC cs ad σ n nm ci cj E) sz)) 0 0 (va_A (wC cs ad σ n nm ci cj E) sz) := by
  refine Met.ofW (cc := b_C_hold) (maxL := 4) (ret := (some .boolean)) (by decide) rfl ?_
  intro p e s m args below meth c s₁ B hml hv
  obtain ⟨rfl, hsz, hP, hK, hD0⟩ := hv
  have hx := B.exec
  have hb := B.bytes
  have hr := B.returns
  have hts := atoms_spec (ws := Cond.code y_C_hold b_C_hold 4 (some .boolean) :: GW) B.pre
  have hG : ∀ w ∈ GW, w.before _ s = true := fun w h => hts w (List.mem_cons_of_mem _ h)
  have hown : s.vm.findClass R_C = some m.cls := findClass_of_methodNamed B.named
  have hlocks := B.notSynchronized
  subst hsz
  have hD := hD0.self (sz := s.heap.size)
  generalize hAe : va_A (wC cs ad σ n nm ci cj E) s.heap.size = A at hD ⊢
  have hA : ∀ q : Nat, s.heap.size ≤ q → A q := fun q h => by rw [← hAe]; exact Or.inr h
  have hS : va_S A s.heap s.heap [] := va_S.rf
  have hl := lv_entry ([.ref (ad 0), .int p0, .int p1, .int p2]) (n := 4) (Nat.le_of_ble_eq_true rfl)
  rw [lg_entry_eq]
  generalize (lg_sl ([.ref (ad 0), .int p0, .int p1, .int p2]) ++ List.replicate (4 - (lg_sl ([.ref (ad 0), .int p0, .int p1, .int p2])).length) Slot.unset).toArray = ls at hl ⊢
  have hl : lv_has ls 4 [(0, .ref (ad 0)), (1, .int p0), (2, .int p1), (3, .int p2)] := hl
  refine lv_iload_n hx hb d_C_hold_0 rfl (lv_at hl 1 rfl) ?_
  refine vp_callSi (W.runS (As := [.int p0]) (rest := []) ⟨hx, hb, hml, hown, hts⟩ (c_C_isDeclaration l p0) (va_cwS 1 hts (gw_S kw_143 kw_144 kw_1 kw_145) rfl rfl rfl (by decide +kernel) ⟨Nat.le_of_ble_eq_true rfl, Nat.le_of_ble_eq_true rfl⟩) ⟨fun _ _ _ _ q => q, fun U _ _ => ⟨rfl, trivial⟩⟩ rfl rfl hl.1 rfl (lv_room (Nat.le_of_ble_eq_true rfl)) d_C_hold_1 ⟨Nat.zero_le _, Nat.zero_le _⟩) (fun r_1 h_2 => ?_)
  subst h_2
  refine lv_if_eq (tgt := 31) hx hb d_C_hold_4 (by decide) (fun c_3 => ?_) (fun c_3 => ?_)
  · refine lv_iconst (v := 0) hx hb d_C_hold_31 (by decide) ?_
    exact W.zret (v := 0) (ty := .boolean) hx hb hr rfl (fun t ht hW => ⟨⟨0, σ, rfl, Or.inr ⟨by ((try simp only [b2i_eq0, Classical.not_not] at c_3); first | (simp only [i32_eq, i32_lt, i32_le, i32_nm1, i32_n0, i32_n1, i32_n2, i32_n3, i32_n4, i32_n5, i32_n6, i32_n7, i32_n8, i32_n9, i32_n10, i32_n20, i32_n30, i32_n31, i32_n39, i32_n40, i32_n49, i32_n50, i32_n100, i32_n160, i32_n1000, i32_n100000, i32_n1000000] at c_3 ⊢; omega) | grind), rfl, rfl⟩, by rw [ht]; exact hP, va_K.moved hW.alike hK, hD⟩, hS.F ht⟩) hS.2.2 d_C_hold_32
  · refine lv_iload_n hx hb d_C_hold_7 rfl (lv_at hl 2 rfl) ?_
    refine lv_iconst (v := 0) hx hb d_C_hold_8 (by decide) ?_
    refine lv_bipush (v := 7) hx hb d_C_hold_9 (by decide) ?_
    refine vp_callSi (W.runS (As := [.int p1, .int 0, .int 7]) (rest := []) ⟨hx, hb, hml, hown, hts⟩ (c_C_isWithin l p1 0 7) (va_cwS 3 hts (gw_S kw_98 kw_99 kw_1 kw_100) rfl rfl rfl (by decide +kernel) ⟨Nat.le_of_ble_eq_true rfl, Nat.le_of_ble_eq_true rfl⟩) ⟨fun _ _ _ _ q => q, fun U _ _ => ⟨rfl, trivial⟩⟩ rfl rfl hl.1 rfl (lv_room (Nat.le_of_ble_eq_true rfl)) d_C_hold_11 ⟨Nat.zero_le _, Nat.zero_le _⟩) (fun r_4 h_5 => ?_)
    subst h_5
    refine lv_if_eq (tgt := 31) hx hb d_C_hold_14 (by decide) (fun c_6 => ?_) (fun c_6 => ?_)
    · refine lv_iconst (v := 0) hx hb d_C_hold_31 (by decide) ?_
      exact W.zret (v := 0) (ty := .boolean) hx hb hr rfl (fun t ht hW => ⟨⟨0, σ, rfl, Or.inr ⟨by ((try simp only [b2i_eq0, Classical.not_not] at c_3 c_6); first | (simp only [i32_eq, i32_lt, i32_le, i32_nm1, i32_n0, i32_n1, i32_n2, i32_n3, i32_n4, i32_n5, i32_n6, i32_n7, i32_n8, i32_n9, i32_n10, i32_n20, i32_n30, i32_n31, i32_n39, i32_n40, i32_n49, i32_n50, i32_n100, i32_n160, i32_n1000, i32_n100000, i32_n1000000] at c_3 c_6 ⊢; omega) | grind), rfl, rfl⟩, by rw [ht]; exact hP, va_K.moved hW.alike hK, hD⟩, hS.F ht⟩) hS.2.2 d_C_hold_32
    · refine lv_aload_n hx hb d_C_hold_17 rfl (lv_at hl 0 rfl) ?_
      refine rl_get (r := 0) (ci := 1) (v := .ref (ad 7)) (C := R_C) (T := F_C) (N := 10) hx hb hG in_C hown hK hP (RC_f (by decide)) gC_0 rfl 4 (by decide) kw_63 (fun _ h9 => h9) rfl d_C_hold_18 ?_
      refine lv_iload_n hx hb d_C_hold_21 rfl (lv_at hl 1 rfl) ?_
      refine rl_iald (r := 7) (i := p0) hx hb hK hP (RC_f (by decide)) 0 gC_7 rfl (vp_in_iff.mpr (by ((try simp only [b2i_eq0, Classical.not_not] at c_3 c_6); simp only [i32_eq, i32_lt, i32_le, i32_nm1, i32_n0, i32_n1, i32_n2, i32_n3, i32_n4, i32_n5, i32_n6, i32_n7, i32_n8, i32_n9, i32_n10, i32_n20, i32_n30, i32_n31, i32_n39, i32_n40, i32_n49, i32_n50, i32_n100, i32_n160, i32_n1000, i32_n100000, i32_n1000000] at c_3 c_6 ⊢; omega))) d_C_hold_22 ?_
      refine lv_iload_n hx hb d_C_hold_23 rfl (lv_at hl 2 rfl) ?_
      refine vp_callSi (W.runS (As := [.int (σ 3 p0.toNatClampNeg), .int p1]) (rest := []) ⟨hx, hb, hml, hown, hts⟩ (c_C_hasBit l (σ 3 p0.toNatClampNeg) p1) (va_cwS 2 hts (gw_S kw_105 kw_106 kw_1 kw_107) rfl rfl rfl (by decide +kernel) ⟨Nat.le_of_ble_eq_true rfl, Nat.le_of_ble_eq_true rfl⟩) ⟨fun _ _ _ _ q => q, fun U _ _ => ⟨rfl, trivial⟩⟩ rfl rfl hl.1 rfl (lv_room (Nat.le_of_ble_eq_true rfl)) d_C_hold_24 ⟨Nat.zero_le _, Nat.zero_le _⟩) (fun r_7 h_8 => ?_)
      subst h_8
      refine lv_iload_n hx hb d_C_hold_27 rfl (lv_at hl 3 rfl) ?_
      refine lv_icmp_ne (tgt := 33) hx hb d_C_hold_28 (by decide) (fun c_9 => ?_) (fun c_9 => ?_)
      · refine lv_aload_n hx hb d_C_hold_33 rfl (lv_at hl 0 rfl) ?_
        refine rl_get (r := 0) (ci := 1) (v := .ref (ad 7)) (C := R_C) (T := F_C) (N := 10) hx hb hG in_C hown hK hP (RC_f (by decide)) gC_0 rfl 4 (by decide) kw_63 (fun _ h9 => h9) rfl d_C_hold_34 ?_
        refine lv_iload_n hx hb d_C_hold_37 rfl (lv_at hl 1 rfl) ?_
        refine lv_dup2_11 hx hb d_C_hold_38 rfl rfl ?_
        refine rl_iald (r := 7) (i := p0) hx hb hK hP (RC_f (by decide)) 0 gC_7 rfl (vp_in_iff.mpr (by ((try simp only [b2i_eq0, Classical.not_not] at c_3 c_6 c_9); simp only [i32_eq, i32_lt, i32_le, i32_nm1, i32_n0, i32_n1, i32_n2, i32_n3, i32_n4, i32_n5, i32_n6, i32_n7, i32_n8, i32_n9, i32_n10, i32_n20, i32_n30, i32_n31, i32_n39, i32_n40, i32_n49, i32_n50, i32_n100, i32_n160, i32_n1000, i32_n100000, i32_n1000000] at c_3 c_6 c_9 ⊢; omega))) d_C_hold_39 ?_
        refine lv_iconst (v := 1) hx hb d_C_hold_40 (by decide) ?_
        refine lv_iload_n hx hb d_C_hold_41 rfl (lv_at hl 2 rfl) ?_
        refine lv_ishl hx hb d_C_hold_42 ?_
        refine lv_ixor hx hb d_C_hold_43 ?_
        refine rl_iast (r := 7) (i := p0) (x := (σ 3 p0.toNatClampNeg) ^^^ (1 <<< (p1 &&& 31))) hx hb hK hP hD hS (RC_f (by decide)) 0 gC_7 rfl (vp_in_iff.mpr (by ((try simp only [b2i_eq0, Classical.not_not] at c_3 c_6 c_9); simp only [i32_eq, i32_lt, i32_le, i32_nm1, i32_n0, i32_n1, i32_n2, i32_n3, i32_n4, i32_n5, i32_n6, i32_n7, i32_n8, i32_n9, i32_n10, i32_n20, i32_n30, i32_n31, i32_n39, i32_n40, i32_n49, i32_n50, i32_n100, i32_n160, i32_n1000, i32_n100000, i32_n1000000] at c_3 c_6 c_9 ⊢; omega))) d_C_hold_44 (fun H locs hP hD hS => ?_)
        rw [wC_arr (k := 3) (hn_ hI) (hm_ hI) (by decide)] at hP hD
        refine lv_iconst (v := 1) hx hb d_C_hold_45 (by decide) ?_
        exact W.zret (v := 1) (ty := .boolean) hx hb hr rfl (fun t ht hW => ⟨⟨1, su σ 3 p0.toNatClampNeg ((σ 3 p0.toNatClampNeg) ^^^ (1 <<< (p1 &&& 31))), rfl, Or.inl ⟨by ((try simp only [b2i_eq0, Classical.not_not] at c_3 c_6 c_9); first | (simp only [i32_eq, i32_lt, i32_le, i32_nm1, i32_n0, i32_n1, i32_n2, i32_n3, i32_n4, i32_n5, i32_n6, i32_n7, i32_n8, i32_n9, i32_n10, i32_n20, i32_n30, i32_n31, i32_n39, i32_n40, i32_n49, i32_n50, i32_n100, i32_n160, i32_n1000, i32_n100000, i32_n1000000] at c_3 c_6 c_9 ⊢; omega) | grind), rfl, rfl⟩, by rw [ht]; exact hP, va_K.moved hW.alike hK, hD⟩, hS.F ht⟩) hS.2.2 d_C_hold_46
      · refine lv_iconst (v := 0) hx hb d_C_hold_31 (by decide) ?_
        exact W.zret (v := 0) (ty := .boolean) hx hb hr rfl (fun t ht hW => ⟨⟨0, σ, rfl, Or.inr ⟨by ((try simp only [b2i_eq0, Classical.not_not] at c_3 c_6 c_9); first | (simp only [i32_eq, i32_lt, i32_le, i32_nm1, i32_n0, i32_n1, i32_n2, i32_n3, i32_n4, i32_n5, i32_n6, i32_n7, i32_n8, i32_n9, i32_n10, i32_n20, i32_n30, i32_n31, i32_n39, i32_n40, i32_n49, i32_n50, i32_n100, i32_n160, i32_n1000, i32_n100000, i32_n1000000] at c_3 c_6 c_9 ⊢; omega) | grind), rfl, rfl⟩, by rw [ht]; exact hP, va_K.moved hW.alike hK, hD⟩, hS.F ht⟩) hS.2.2 d_C_hold_32
end
section
def cntOf (σ : Nat → Nat → Int32) (nm : Nat) (d w : Int32) : Int32 := if 0 ≤ d ∧ d ≤ 9 then (if w = 1 then σ 2 d.toNatClampNeg else if w = 2 then σ 3 d.toNatClampNeg else if w = 3 then σ 4 d.toNatClampNeg else if w = 4 then cntS σ d 1 nm else -1) else -1
def cntF (σ : Nat → Nat → Int32) (n nm : Nat) (w : Int32) : Int32 := if w = 0 then nI n else if w = 1 then nI nm else if w = 2 then σ 0 0 else if w < 10 then -1 else cntOf σ nm (w - w / 10 * 10) (w / 10)
set_option maxHeartbeats 4000000 in
set_option maxRecDepth 100000 in
theorem c_C_countOf (l : Launch) (D : va_G) (cs : Nat → ClassId) (ad : Nat → Nat) (σ : Nat → Nat → Int32) (n nm ci cj E : Nat) (hI : Iv n nm ci cj) (hJ : Jv σ n nm) (p0 p1 : Int32) : Met l y_C_countOf (Cond.code y_C_countOf b_C_countOf 3 (some .int) :: GW) ({ frames := 4, cells := 0, slots := 0, locals := 128 }) (va_Pc [.ref (ad 0), .int p0, .int p1] (rd_B D (tys_ cs) (wC cs ad σ n nm ci cj E))) (vp_Si (fun r => r = cntOf σ nm p0 p1)) 0 0 (fun _ => False) := by
  refine Met.ofW (cc := b_C_countOf) (maxL := 3) (ret := (some .int)) (by decide) rfl ?_
  intro p e s m args below meth c s₁ B hml hv
  obtain ⟨rfl, hP, hK⟩ := hv
  have hx := B.exec
  have hb := B.bytes
  have hr := B.returns
  have hts := atoms_spec (ws := Cond.code y_C_countOf b_C_countOf 3 (some .int) :: GW) B.pre
  have hG : ∀ w ∈ GW, w.before _ s = true := fun w h => hts w (List.mem_cons_of_mem _ h)
  have hown : s.vm.findClass R_C = some m.cls := findClass_of_methodNamed B.named
  have hlocks := B.notSynchronized
  have hl := lv_entry ([.ref (ad 0), .int p0, .int p1]) (n := 3) (Nat.le_of_ble_eq_true rfl)
  rw [lg_entry_eq]
  generalize (lg_sl ([.ref (ad 0), .int p0, .int p1]) ++ List.replicate (3 - (lg_sl ([.ref (ad 0), .int p0, .int p1])).length) Slot.unset).toArray = ls at hl ⊢
  have hl : lv_has ls 3 [(0, .ref (ad 0)), (1, .int p0), (2, .int p1)] := hl
  refine lv_iload_n hx hb d_C_countOf_0 rfl (lv_at hl 1 rfl) ?_
  refine vp_callSi (W.runS (As := [.int p0]) (rest := []) ⟨hx, hb, hml, hown, hts⟩ (c_C_isDeclaration l p0) (va_cwS 1 hts (gw_S kw_143 kw_144 kw_1 kw_145) rfl rfl rfl (by decide +kernel) ⟨Nat.le_of_ble_eq_true rfl, Nat.le_of_ble_eq_true rfl⟩) ⟨fun _ _ _ _ q => q, fun U _ _ => ⟨rfl, trivial⟩⟩ rfl rfl hl.1 rfl (lv_room (Nat.le_of_ble_eq_true rfl)) d_C_countOf_1 ⟨Nat.zero_le _, Nat.zero_le _⟩) (fun r_1 h_2 => ?_)
  subst h_2
  refine lv_if_ne (tgt := 9) hx hb d_C_countOf_4 (by decide) (fun c_3 => ?_) (fun c_3 => ?_)
  · refine lv_iload_n hx hb d_C_countOf_9 rfl (lv_at hl 2 rfl) ?_
    by_cases e_4 : p1 = 1
    · subst e_4
      refine lv_tableIn (x := 1) (tgt := 40) hx hb d_C_countOf_10 (by decide) (by decide) rfl (by decide) ?_
      refine lv_aload_n hx hb d_C_countOf_40 rfl (lv_at hl 0 rfl) ?_
      refine rl_get (r := 0) (ci := 1) (v := .ref (ad 6)) (C := R_C) (T := F_C) (N := 10) hx hb hG in_C hown hK hP (RC_f (by decide)) gC_0 rfl 3 (by decide) kw_62 (fun _ h9 => h9) rfl d_C_countOf_41 ?_
      refine lv_iload_n hx hb d_C_countOf_44 rfl (lv_at hl 1 rfl) ?_
      refine rl_iald (r := 6) (i := p0) hx hb hK hP (RC_f (by decide)) 0 gC_6 rfl (vp_in_iff.mpr (by ((try simp only [b2i_eq0, Classical.not_not] at c_3); simp only [i32_eq, i32_lt, i32_le, i32_nm1, i32_n0, i32_n1, i32_n2, i32_n3, i32_n4, i32_n5, i32_n6, i32_n7, i32_n8, i32_n9, i32_n10, i32_n20, i32_n30, i32_n31, i32_n39, i32_n40, i32_n49, i32_n50, i32_n100, i32_n160, i32_n1000, i32_n100000, i32_n1000000] at c_3 ⊢; omega))) d_C_countOf_45 ?_
      exact W.iret (v := σ 2 p0.toNatClampNeg) hx hb hr (fun t ht hW => ⟨σ 2 p0.toNatClampNeg, rfl, (by unfold cntOf; rw [if_pos (Classical.not_not.mp (fun h => c_3 (b2i_eq0.mpr h)))]; rfl), ht⟩) (fun q h => nomatch h) d_C_countOf_46
    by_cases e_5 : p1 = 2
    · subst e_5
      refine lv_tableIn (x := 2) (tgt := 47) hx hb d_C_countOf_10 (by decide) (by decide) rfl (by decide) ?_
      refine lv_aload_n hx hb d_C_countOf_47 rfl (lv_at hl 0 rfl) ?_
      refine rl_get (r := 0) (ci := 1) (v := .ref (ad 7)) (C := R_C) (T := F_C) (N := 10) hx hb hG in_C hown hK hP (RC_f (by decide)) gC_0 rfl 4 (by decide) kw_63 (fun _ h9 => h9) rfl d_C_countOf_48 ?_
      refine lv_iload_n hx hb d_C_countOf_51 rfl (lv_at hl 1 rfl) ?_
      refine rl_iald (r := 7) (i := p0) hx hb hK hP (RC_f (by decide)) 0 gC_7 rfl (vp_in_iff.mpr (by ((try simp only [b2i_eq0, Classical.not_not] at c_3 e_4); simp only [i32_eq, i32_lt, i32_le, i32_nm1, i32_n0, i32_n1, i32_n2, i32_n3, i32_n4, i32_n5, i32_n6, i32_n7, i32_n8, i32_n9, i32_n10, i32_n20, i32_n30, i32_n31, i32_n39, i32_n40, i32_n49, i32_n50, i32_n100, i32_n160, i32_n1000, i32_n100000, i32_n1000000] at c_3 e_4 ⊢; omega))) d_C_countOf_52 ?_
      exact W.iret (v := σ 3 p0.toNatClampNeg) hx hb hr (fun t ht hW => ⟨σ 3 p0.toNatClampNeg, rfl, (by unfold cntOf; rw [if_pos (Classical.not_not.mp (fun h => c_3 (b2i_eq0.mpr h)))]; rfl), ht⟩) (fun q h => nomatch h) d_C_countOf_53
    by_cases e_6 : p1 = 3
    · subst e_6
      refine lv_tableIn (x := 3) (tgt := 54) hx hb d_C_countOf_10 (by decide) (by decide) rfl (by decide) ?_
      refine lv_aload_n hx hb d_C_countOf_54 rfl (lv_at hl 0 rfl) ?_
      refine rl_get (r := 0) (ci := 1) (v := .ref (ad 8)) (C := R_C) (T := F_C) (N := 10) hx hb hG in_C hown hK hP (RC_f (by decide)) gC_0 rfl 5 (by decide) kw_64 (fun _ h9 => h9) rfl d_C_countOf_55 ?_
      refine lv_iload_n hx hb d_C_countOf_58 rfl (lv_at hl 1 rfl) ?_
      refine rl_iald (r := 8) (i := p0) hx hb hK hP (RC_f (by decide)) 0 gC_8 rfl (vp_in_iff.mpr (by ((try simp only [b2i_eq0, Classical.not_not] at c_3 e_4 e_5); simp only [i32_eq, i32_lt, i32_le, i32_nm1, i32_n0, i32_n1, i32_n2, i32_n3, i32_n4, i32_n5, i32_n6, i32_n7, i32_n8, i32_n9, i32_n10, i32_n20, i32_n30, i32_n31, i32_n39, i32_n40, i32_n49, i32_n50, i32_n100, i32_n160, i32_n1000, i32_n100000, i32_n1000000] at c_3 e_4 e_5 ⊢; omega))) d_C_countOf_59 ?_
      exact W.iret (v := σ 4 p0.toNatClampNeg) hx hb hr (fun t ht hW => ⟨σ 4 p0.toNatClampNeg, rfl, (by unfold cntOf; rw [if_pos (Classical.not_not.mp (fun h => c_3 (b2i_eq0.mpr h)))]; rfl), ht⟩) (fun q h => nomatch h) d_C_countOf_60
    by_cases e_7 : p1 = 4
    · subst e_7
      refine lv_tableIn (x := 4) (tgt := 61) hx hb d_C_countOf_10 (by decide) (by decide) rfl (by decide) ?_
      refine lv_aload_n hx hb d_C_countOf_61 rfl (lv_at hl 0 rfl) ?_
      refine lv_iload_n hx hb d_C_countOf_62 rfl (lv_at hl 1 rfl) ?_
      refine lv_iconst (v := 1) hx hb d_C_countOf_63 (by decide) ?_
      refine vp_callSi (W.runV (As := [.int p0, .int 1]) (rest := []) ⟨hx, hb, hml, hown, hts⟩ (c_C_muchDifferent l D cs ad σ n nm ci cj E hI hJ p0 1) (cwV 2 hts (gw_V kw_169 kw_171 ks_0_3 kw_1 kw_172) rfl rfl rfl (by decide +kernel) ⟨Nat.le_of_ble_eq_true rfl, Nat.le_of_ble_eq_true rfl⟩) (rd_V hP hK (rl_recv hK hP (RC_f (by decide)) gC_0 rfl)) rfl rfl hl.1 rfl (lv_room (Nat.le_of_ble_eq_true rfl)) d_C_countOf_64 ⟨Nat.zero_le _, Nat.zero_le _⟩) (fun r_8 h_9 => ?_)
      subst h_9
      exact W.iret (v := cntS σ p0 1 nm) hx hb hr (fun t ht hW => ⟨cntS σ p0 1 nm, rfl, (by unfold cntOf; rw [if_pos (Classical.not_not.mp (fun h => c_3 (b2i_eq0.mpr h)))]; rfl), ht⟩) (fun q h => nomatch h) d_C_countOf_67
    refine lv_tableOut (tgt := 68) hx hb d_C_countOf_10 (by simp only [i32_eq, i32_lt, i32_le, i32_nm1, i32_n0, i32_n1, i32_n2, i32_n3, i32_n4, i32_n5, i32_n6, i32_n7, i32_n8, i32_n9, i32_n10, i32_n20, i32_n30, i32_n31, i32_n39, i32_n40, i32_n49, i32_n50, i32_n100, i32_n160, i32_n1000, i32_n100000, i32_n1000000] at e_4 e_5 e_6 e_7 ⊢; omega) (by decide) ?_
    refine lv_iconst (v := (-1)) hx hb d_C_countOf_68 (by decide) ?_
    exact W.iret (v := (-1)) hx hb hr (fun t ht hW => ⟨(-1), rfl, (by unfold cntOf; rw [if_pos (Classical.not_not.mp (fun h => c_3 (b2i_eq0.mpr h))), if_neg e_4, if_neg e_5, if_neg e_6, if_neg e_7]), ht⟩) (fun q h => nomatch h) d_C_countOf_69
  · refine lv_iconst (v := (-1)) hx hb d_C_countOf_7 (by decide) ?_
    exact W.iret (v := (-1)) hx hb hr (fun t ht hW => ⟨(-1), rfl, (if_neg (b2i_eq0.mp c_3)).symm, ht⟩) (fun q h => nomatch h) d_C_countOf_8
set_option maxHeartbeats 4000000 in
set_option maxRecDepth 100000 in
theorem c_C_count (l : Launch) (D : va_G) (cs : Nat → ClassId) (ad : Nat → Nat) (σ : Nat → Nat → Int32) (n nm ci cj E : Nat) (hI : Iv n nm ci cj) (hJ : Jv σ n nm) (p0 : Int32) : Met l y_C_count (Cond.code y_C_count b_C_count 2 (some .int) :: GW) ({ frames := 5, cells := 0, slots := 0, locals := 160 }) (va_Pc [.ref (ad 0), .int p0] (rd_B D (tys_ cs) (wC cs ad σ n nm ci cj E))) (vp_Si (fun r => r = cntF σ n nm p0)) 0 0 (fun _ => False) := by
  refine Met.ofW (cc := b_C_count) (maxL := 2) (ret := (some .int)) (by decide) rfl ?_
  intro p e s m args below meth c s₁ B hml hv
  obtain ⟨rfl, hP, hK⟩ := hv
  have hx := B.exec
  have hb := B.bytes
  have hr := B.returns
  have hts := atoms_spec (ws := Cond.code y_C_count b_C_count 2 (some .int) :: GW) B.pre
  have hG : ∀ w ∈ GW, w.before _ s = true := fun w h => hts w (List.mem_cons_of_mem _ h)
  have hown : s.vm.findClass R_C = some m.cls := findClass_of_methodNamed B.named
  have hlocks := B.notSynchronized
  have hl := lv_entry ([.ref (ad 0), .int p0]) (n := 2) (Nat.le_of_ble_eq_true rfl)
  rw [lg_entry_eq]
  generalize (lg_sl ([.ref (ad 0), .int p0]) ++ List.replicate (2 - (lg_sl ([.ref (ad 0), .int p0])).length) Slot.unset).toArray = ls at hl ⊢
  have hl : lv_has ls 2 [(0, .ref (ad 0)), (1, .int p0)] := hl
  refine lv_iload_n hx hb d_C_count_0 rfl (lv_at hl 1 rfl) ?_
  by_cases e_1 : p0 = 0
  · subst e_1
    refine lv_tableIn (x := 0) (tgt := 28) hx hb d_C_count_1 (by decide) (by decide) rfl (by decide) ?_
    refine lv_aload_n hx hb d_C_count_28 rfl (lv_at hl 0 rfl) ?_
    refine rl_get (r := 0) (ci := 1) (v := .ref (ad 1)) (C := R_C) (T := F_C) (N := 10) hx hb hG in_C hown hK hP (RC_f (by decide)) gC_0 rfl 0 (by decide) kw_59 (fun _ h9 => h9) rfl d_C_count_29 ?_
    refine vp_callSi (W.runV (As := []) (rest := []) ⟨hx, hb, hml, hown, hts⟩ (c_Al_size l D (tys_ cs) (ad 1) (.ref (if n = 0 then E else ad 3)) (nI n) (σ 7 0)) (cwV 0 hts (gw_V kw_116 kw_117 kw_118 kw_4 kw_119) rfl rfl rfl (by decide +kernel) ⟨Nat.le_of_ble_eq_true rfl, Nat.le_of_ble_eq_true rfl⟩) (rd_V (rl_one hP (RC_f (by decide)) gC_1') hK (rl_recv hK hP (RC_f (by decide)) gC_1' rfl)) rfl rfl hl.1 rfl (lv_room (Nat.le_of_ble_eq_true rfl)) d_C_count_32 ⟨Nat.zero_le _, Nat.zero_le _⟩) (fun r_2 h_3 => ?_)
    subst h_3
    exact W.iret (v := nI n) hx hb hr (fun t ht hW => ⟨nI n, rfl, rfl, ht⟩) (fun q h => nomatch h) d_C_count_35
  by_cases e_4 : p0 = 1
  · subst e_4
    refine lv_tableIn (x := 1) (tgt := 36) hx hb d_C_count_1 (by decide) (by decide) rfl (by decide) ?_
    refine lv_aload_n hx hb d_C_count_36 rfl (lv_at hl 0 rfl) ?_
    refine rl_get (r := 0) (ci := 1) (v := .ref (ad 2)) (C := R_C) (T := F_C) (N := 10) hx hb hG in_C hown hK hP (RC_f (by decide)) gC_0 rfl 1 (by decide) kw_60 (fun _ h9 => h9) rfl d_C_count_37 ?_
    refine vp_callSi (W.runV (As := []) (rest := []) ⟨hx, hb, hml, hown, hts⟩ (c_Al_size l D (tys_ cs) (ad 2) (.ref (if nm = 0 then E else ad 4)) (nI nm) (σ 7 1)) (cwV 0 hts (gw_V kw_116 kw_117 kw_118 kw_4 kw_119) rfl rfl rfl (by decide +kernel) ⟨Nat.le_of_ble_eq_true rfl, Nat.le_of_ble_eq_true rfl⟩) (rd_V (rl_one hP (RC_f (by decide)) gC_2') hK (rl_recv hK hP (RC_f (by decide)) gC_2' rfl)) rfl rfl hl.1 rfl (lv_room (Nat.le_of_ble_eq_true rfl)) d_C_count_40 ⟨Nat.zero_le _, Nat.zero_le _⟩) (fun r_5 h_6 => ?_)
    subst h_6
    exact W.iret (v := nI nm) hx hb hr (fun t ht hW => ⟨nI nm, rfl, rfl, ht⟩) (fun q h => nomatch h) d_C_count_43
  by_cases e_7 : p0 = 2
  · subst e_7
    refine lv_tableIn (x := 2) (tgt := 44) hx hb d_C_count_1 (by decide) (by decide) rfl (by decide) ?_
    refine lv_aload_n hx hb d_C_count_44 rfl (lv_at hl 0 rfl) ?_
    refine rl_get (r := 0) (ci := 1) (v := .int (σ 0 0)) (C := R_C) (T := F_C) (N := 10) hx hb hG in_C hown hK hP (RC_f (by decide)) gC_0 rfl 9 (by decide) kw_68 (fun _ h9 => h9) rfl d_C_count_45 ?_
    exact W.iret (v := σ 0 0) hx hb hr (fun t ht hW => ⟨σ 0 0, rfl, rfl, ht⟩) (fun q h => nomatch h) d_C_count_48
  refine lv_tableOut (tgt := 49) hx hb d_C_count_1 (by simp only [i32_eq, i32_lt, i32_le, i32_nm1, i32_n0, i32_n1, i32_n2, i32_n3, i32_n4, i32_n5, i32_n6, i32_n7, i32_n8, i32_n9, i32_n10, i32_n20, i32_n30, i32_n31, i32_n39, i32_n40, i32_n49, i32_n50, i32_n100, i32_n160, i32_n1000, i32_n100000, i32_n1000000] at e_1 e_4 e_7 ⊢; omega) (by decide) ?_
  refine lv_iload_n hx hb d_C_count_49 rfl (lv_at hl 1 rfl) ?_
  refine lv_bipush (v := 10) hx hb d_C_count_50 (by decide) ?_
  refine lv_icmp_ge (tgt := 59) hx hb d_C_count_52 (by decide) (fun c_8 => ?_) (fun c_8 => ?_)
  · refine lv_aload_n hx hb d_C_count_59 rfl (lv_at hl 0 rfl) ?_
    refine lv_iload_n hx hb d_C_count_60 rfl (lv_at hl 1 rfl) ?_
    refine lv_bipush (v := 10) hx hb d_C_count_61 (by decide) ?_
    refine lv_irem hx hb d_C_count_63 (by decide) ?_
    refine lv_iload_n hx hb d_C_count_64 rfl (lv_at hl 1 rfl) ?_
    refine lv_bipush (v := 10) hx hb d_C_count_65 (by decide) ?_
    refine lv_idiv hx hb d_C_count_67 (by decide) ?_
    refine vp_callSi (W.runV (As := [.int (p0 - p0 / 10 * 10), .int (p0 / 10)]) (rest := []) ⟨hx, hb, hml, hown, hts⟩ (c_C_countOf l D cs ad σ n nm ci cj E hI hJ (p0 - p0 / 10 * 10) (p0 / 10)) (cwV 2 hts (gw_V kw_165 kw_167 ks_0_2 kw_1 kw_168) rfl rfl rfl (by decide +kernel) ⟨Nat.le_of_ble_eq_true rfl, Nat.le_of_ble_eq_true rfl⟩) (rd_V hP hK (rl_recv hK hP (RC_f (by decide)) gC_0 rfl)) rfl rfl hl.1 rfl (lv_room (Nat.le_of_ble_eq_true rfl)) d_C_count_68 ⟨Nat.zero_le _, Nat.zero_le _⟩) (fun r_9 h_10 => ?_)
    subst h_10
    exact W.iret (v := cntOf σ nm (p0 - p0 / 10 * 10) (p0 / 10)) hx hb hr (fun t ht hW => ⟨cntOf σ nm (p0 - p0 / 10 * 10) (p0 / 10), rfl, (by unfold cntF; rw [if_neg e_1, if_neg e_4, if_neg e_7, if_neg (by simp only [i32_eq, i32_lt, i32_le, i32_nm1, i32_n0, i32_n1, i32_n2, i32_n3, i32_n4, i32_n5, i32_n6, i32_n7, i32_n8, i32_n9, i32_n10, i32_n20, i32_n30, i32_n31, i32_n39, i32_n40, i32_n49, i32_n50, i32_n100, i32_n160, i32_n1000, i32_n100000, i32_n1000000] at c_8 ⊢; omega)]), ht⟩) (fun q h => nomatch h) d_C_count_71
  · refine lv_iconst (v := (-1)) hx hb d_C_count_55 (by decide) ?_
    refine lv_goto (tgt := 71) hx hb d_C_count_56 (by decide) ?_
    exact W.iret (v := (-1)) hx hb hr (fun t ht hW => ⟨(-1), rfl, (by unfold cntF; rw [if_neg e_1, if_neg e_4, if_neg e_7, if_pos (by simp only [i32_eq, i32_lt, i32_le, i32_nm1, i32_n0, i32_n1, i32_n2, i32_n3, i32_n4, i32_n5, i32_n6, i32_n7, i32_n8, i32_n9, i32_n10, i32_n20, i32_n30, i32_n31, i32_n39, i32_n40, i32_n49, i32_n50, i32_n100, i32_n160, i32_n1000, i32_n100000, i32_n1000000] at c_8 ⊢; omega)]), ht⟩) (fun q h => nomatch h) d_C_count_71
end
section
theorem at_not {i n : Nat} (hn : n < 2 ^ 31) (hi : i < n) : 0 ≤ nI i ∧ nI i ≤ nI n - 1 := by
  refine ⟨nI_pos' (by omega), ?_⟩
  rw [show nI n - 1 = nI (n - 1) by have := nI_pred (n - 1); rwa [Nat.sub_add_cancel (by omega)] at this]
  exact nI_le (by omega) (by omega)
theorem nI_inj {i j : Nat} (hi : i < 2 ^ 31) (hj : j < 2 ^ 31) (h : nI i = nI j) : i = j := (nI_eq hi hj).mp h
set_option maxHeartbeats 4000000 in
set_option maxRecDepth 100000 in
theorem c_C_giveUp (l : Launch) (D : va_G) (cs : Nat → ClassId) (ad : Nat → Nat) (σ : Nat → Nat → Int32) (n nm ci cj E : Nat) (hI : Iv n nm ci cj) (sz : Nat) (p0 : Int32) : Met l y_C_giveUp (Cond.code y_C_giveUp b_C_giveUp 3 (some .boolean) :: GW) ({ frames := 3, cells := 0, slots := 0, locals := 96 }) (va_Pc [.ref (ad 0), .int p0] (wr_B D cs (wC cs ad σ n nm ci cj E) sz)) (va_Qi (fun r (u : Nat → Nat → Int32) => (∃ i, i < n ∧ p0 = nI i ∧ (σ 23 i = 0 ∨ σ 23 i = 1 ∨ σ 23 i = 4) ∧ r = 1 ∧ u = su σ 23 i 5) ∨ ((¬ ∃ i, i < n ∧ p0 = nI i ∧ (σ 23 i = 0 ∨ σ 23 i = 1 ∨ σ 23 i = 4)) ∧ r = 0 ∧ u = σ)) (fun u => wr_T D cs (wC cs ad u n nm ci cj E) (va_A (wC cs ad σ n nm ci cj E) sz)) (va_A (wC cs ad σ n nm ci cj E) sz)) 0 0 (va_A (wC cs ad σ n nm ci cj E) sz) := by
  refine Met.ofW (cc := b_C_giveUp) (maxL := 3) (ret := (some .boolean)) (by decide) rfl ?_
  intro p e s m args below meth c s₁ B hml hv
  obtain ⟨rfl, hsz, hP, hK, hD0⟩ := hv
  have hx := B.exec
  have hb := B.bytes
  have hr := B.returns
  have hts := atoms_spec (ws := Cond.code y_C_giveUp b_C_giveUp 3 (some .boolean) :: GW) B.pre
  have hG : ∀ w ∈ GW, w.before _ s = true := fun w h => hts w (List.mem_cons_of_mem _ h)
  have hown : s.vm.findClass R_C = some m.cls := findClass_of_methodNamed B.named
  have hlocks := B.notSynchronized
  subst hsz
  have hD := hD0.self (sz := s.heap.size)
  generalize hAe : va_A (wC cs ad σ n nm ci cj E) s.heap.size = A at hD ⊢
  have hA : ∀ q : Nat, s.heap.size ≤ q → A q := fun q h => by rw [← hAe]; exact Or.inr h
  have hS : va_S A s.heap s.heap [] := va_S.rf
  have hl := lv_entry ([.ref (ad 0), .int p0]) (n := 3) (Nat.le_of_ble_eq_true rfl)
  rw [lg_entry_eq]
  generalize (lg_sl ([.ref (ad 0), .int p0]) ++ List.replicate (3 - (lg_sl ([.ref (ad 0), .int p0])).length) Slot.unset).toArray = ls at hl ⊢
  have hl : lv_has ls 3 [(0, .ref (ad 0)), (1, .int p0)] := hl
  refine lv_aload_n hx hb d_C_giveUp_0 rfl (lv_at hl 0 rfl) ?_
  refine lv_iload_n hx hb d_C_giveUp_1 rfl (lv_at hl 1 rfl) ?_
  refine vp_callSi (W.runV (As := [.int p0]) (rest := []) ⟨hx, hb, hml, hown, hts⟩ (c_C_isInspection l D cs ad σ n nm ci cj E hI p0) (cwV 1 hts (gw_V kw_112 kw_114 ks_0_1 kw_1 kw_115) rfl rfl rfl (by decide +kernel) ⟨Nat.le_of_ble_eq_true rfl, Nat.le_of_ble_eq_true rfl⟩) (rd_V hP hK (rl_recv hK hP (RC_f (by decide)) gC_0 rfl)) rfl rfl hl.1 rfl (lv_room (Nat.le_of_ble_eq_true rfl)) d_C_giveUp_2 ⟨Nat.zero_le _, Nat.zero_le _⟩) (fun r_1 h_2 => ?_)
  subst h_2
  refine lv_if_ne (tgt := 10) hx hb d_C_giveUp_5 (by decide) (fun c_3 => ?_) (fun c_3 => ?_)
  · obtain ⟨i, hi, rfl⟩ := at_ (by have := hI; unfold Iv at this; omega) (Classical.not_not.mp (fun h => c_3 (b2i_eq0.mpr h)))
    refine lv_aload_n hx hb d_C_giveUp_10 rfl (lv_at hl 0 rfl) ?_
    refine rl_get (r := 0) (ci := 1) (v := .ref (ad 1)) (C := R_C) (T := F_C) (N := 10) hx hb hG in_C hown hK hP (RC_f (by decide)) gC_0 rfl 0 (by decide) kw_59 (fun _ h9 => h9) rfl d_C_giveUp_11 ?_
    refine lv_iload_n hx hb d_C_giveUp_14 rfl (lv_at hl 1 rfl) ?_
    refine va_csr (W.runV (As := [.int (nI i)]) (rest := []) ⟨hx, hb, hml, hown, hts⟩ (c_Al_get l D (tys_ cs) (ad 1) (ad 3) n ci i (ad (100 + i)) (σ 7 0) (cs 2) (rowsF 100 n ad) hi hI.2.2.1 (by have := hI; unfold Iv at this; omega) 2 rfl (if_pos hi)) (cwV 1 hts (gw_V kw_120 kw_121 kw_122 kw_4 kw_123) rfl rfl rfl (by decide +kernel) ⟨Nat.le_of_ble_eq_true rfl, Nat.le_of_ble_eq_true rfl⟩) (rd_V (rl_two hP (RC_f (by decide)) (gC_1 (Nat.lt_of_le_of_lt (Nat.zero_le _) hi)) (RC_3 (Nat.lt_of_le_of_lt (Nat.zero_le _) hi)) gC_3) hK (rl_recv hK hP (RC_f (by decide)) (gC_1 (Nat.lt_of_le_of_lt (Nat.zero_le _) hi)) rfl)) rfl rfl hl.1 rfl (lv_room (Nat.le_of_ble_eq_true rfl)) d_C_giveUp_15 ⟨Nat.zero_le _, Nat.zero_le _⟩) (fun r_4 h_5 => ?_)
    subst h_5
    refine va_castS hx hb hown (hG _ kw_134) ((hK.1 2 _ rfl).2) (rl_recv hK hP (RC_ins hi) (gC_ins (by have := hI; unfold Iv at this; omega)) rfl) d_C_giveUp_18 ?_
    refine lv_astore_n (lv' := [(2, .ref (ad (100 + i))), (0, .ref (ad 0)), (1, .int (nI i))]) hx hb d_C_giveUp_21 rfl hl (by decide) rfl (fun ls hl => ?_)
    refine lv_aload_n hx hb d_C_giveUp_22 rfl (lv_at hl 0 rfl) ?_
    refine vp_callSi (W.runV (As := []) (rest := []) ⟨hx, hb, hml, hown, hts⟩ (c_I_canBeGivenUp l D (tys_ cs) (ad (100 + i)) (σ 20 i) (σ 21 i) (σ 22 i) (σ 23 i) (σ 24 i) (σ 25 i) (σ 26 i) (σ 27 i) (σ 28 i) (σ 29 i)) (cwV 0 hts (gw_V kw_135 kw_136 kw_137 kw_12 kw_138) rfl rfl rfl (by decide +kernel) ⟨Nat.le_of_ble_eq_true rfl, Nat.le_of_ble_eq_true rfl⟩) (rd_V (rl_one hP (RC_ins hi) (gC_ins (by have := hI; unfold Iv at this; omega))) hK (rl_recv hK hP (RC_ins hi) (gC_ins (by have := hI; unfold Iv at this; omega)) rfl)) rfl rfl hl.1 rfl (lv_room (Nat.le_of_ble_eq_true rfl)) d_C_giveUp_23 ⟨Nat.zero_le _, Nat.zero_le _⟩) (fun r_6 h_7 => ?_)
    subst h_7
    refine lv_if_ne (tgt := 31) hx hb d_C_giveUp_26 (by decide) (fun c_8 => ?_) (fun c_8 => ?_)
    · refine lv_aload_n hx hb d_C_giveUp_31 rfl (lv_at hl 0 rfl) ?_
      refine lv_iconst (v := 5) hx hb d_C_giveUp_32 (by decide) ?_
      refine rl_put (r := 100 + i) (ci := 2) (v := .int 5) (ty := .int) (C := R_I) (T := F_I) (N := 10) hx hb hG in_I T_I T_I_ok n_I hown hK hP hD hS (RC_ins hi) (gC_ins (by have := hI; unfold Iv at this; omega)) rfl 3 (by decide) kw_293 (fun _ h9 => h9) rfl (by decide +kernel) rfl rfl (Nat.le_of_ble_eq_true rfl) d_C_giveUp_33 (fun H locs hP hD hS => ?_)
      rw [wC_ins (f := 3) (hn_ hI) (hm_ hI) (by have := hI; unfold Iv at this; omega) (by decide)] at hP hD
      refine lv_iconst (v := 1) hx hb d_C_giveUp_36 (by decide) ?_
      exact W.zret (v := 1) (ty := .boolean) hx hb hr rfl (fun t ht hW => ⟨⟨1, su σ 23 i 5, rfl, Or.inl ⟨i, hi, rfl, by ((try simp only [b2i_eq0, Classical.not_not] at c_8); first | (simp only [i32_eq, i32_lt, i32_le, i32_nm1, i32_n0, i32_n1, i32_n2, i32_n3, i32_n4, i32_n5, i32_n6, i32_n7, i32_n8, i32_n9, i32_n10, i32_n20, i32_n30, i32_n31, i32_n39, i32_n40, i32_n49, i32_n50, i32_n100, i32_n160, i32_n1000, i32_n100000, i32_n1000000] at c_8 ⊢; omega) | grind), rfl, rfl⟩, by rw [ht]; exact hP, va_K.moved hW.alike hK, hD⟩, hS.F ht⟩) hS.2.2 d_C_giveUp_37
    · refine lv_iconst (v := 0) hx hb d_C_giveUp_29 (by decide) ?_
      exact W.zret (v := 0) (ty := .boolean) hx hb hr rfl (fun t ht hW => ⟨⟨0, σ, rfl, Or.inr ⟨fun ⟨j, hj, e9, h9⟩ => by cases nI_inj (by have := hI; unfold Iv at this; omega) (by have := hI; unfold Iv at this; omega) e9; revert h9; ((try simp only [b2i_eq0, Classical.not_not] at c_8); first | (simp only [i32_eq, i32_lt, i32_le, i32_nm1, i32_n0, i32_n1, i32_n2, i32_n3, i32_n4, i32_n5, i32_n6, i32_n7, i32_n8, i32_n9, i32_n10, i32_n20, i32_n30, i32_n31, i32_n39, i32_n40, i32_n49, i32_n50, i32_n100, i32_n160, i32_n1000, i32_n100000, i32_n1000000] at c_8 ⊢; omega) | grind), rfl, rfl⟩, by rw [ht]; exact hP, va_K.moved hW.alike hK, hD⟩, hS.F ht⟩) hS.2.2 d_C_giveUp_30
  · refine lv_iconst (v := 0) hx hb d_C_giveUp_8 (by decide) ?_
    exact W.zret (v := 0) (ty := .boolean) hx hb hr rfl (fun t ht hW => ⟨⟨0, σ, rfl, Or.inr ⟨fun ⟨j, hj, e9, _⟩ => (b2i_eq0.mp c_3) (e9 ▸ at_not (by have := hI; unfold Iv at this; omega) hj), rfl, rfl⟩, by rw [ht]; exact hP, va_K.moved hW.alike hK, hD⟩, hS.F ht⟩) hS.2.2 d_C_giveUp_9
set_option maxHeartbeats 4000000 in
set_option maxRecDepth 100000 in
theorem c_C_declared (l : Launch) (D : va_G) (cs : Nat → ClassId) (ad : Nat → Nat) (σ : Nat → Nat → Int32) (n nm ci cj E : Nat) (hI : Iv n nm ci cj) (sz : Nat) (p0 p1 p2 : Int32) : Met l y_C_declared (Cond.code y_C_declared b_C_declared 4 (some .boolean) :: GW) ({ frames := 3, cells := 0, slots := 0, locals := 96 }) (va_Pc [.ref (ad 0), .int p0, .int p1, .int p2] (wr_B D cs (wC cs ad σ n nm ci cj E) sz)) (va_Qi (fun r (u : Nat → Nat → Int32) => (((0 ≤ p0 ∧ p0 ≤ 9) ∧ (0 ≤ p1 ∧ p1 ≤ 3) ∧ (0 ≤ p2 ∧ p2 ≤ 1000000)) ∧ r = 1 ∧ u = su σ (10 + p0.toNatClampNeg) p1.toNatClampNeg p2) ∨ (¬ ((0 ≤ p0 ∧ p0 ≤ 9) ∧ (0 ≤ p1 ∧ p1 ≤ 3) ∧ (0 ≤ p2 ∧ p2 ≤ 1000000)) ∧ r = 0 ∧ u = σ)) (fun u => wr_T D cs (wC cs ad u n nm ci cj E) (va_A (wC cs ad σ n nm ci cj E) sz)) (va_A (wC cs ad σ n nm ci cj E) sz)) 0 0 (va_A (wC cs ad σ n nm ci cj E) sz) := by
  refine Met.ofW (cc := b_C_declared) (maxL := 4) (ret := (some .boolean)) (by decide) rfl ?_
  intro p e s m args below meth c s₁ B hml hv
  obtain ⟨rfl, hsz, hP, hK, hD0⟩ := hv
  have hx := B.exec
  have hb := B.bytes
  have hr := B.returns
  have hts := atoms_spec (ws := Cond.code y_C_declared b_C_declared 4 (some .boolean) :: GW) B.pre
  have hG : ∀ w ∈ GW, w.before _ s = true := fun w h => hts w (List.mem_cons_of_mem _ h)
  have hown : s.vm.findClass R_C = some m.cls := findClass_of_methodNamed B.named
  have hlocks := B.notSynchronized
  subst hsz
  have hD := hD0.self (sz := s.heap.size)
  generalize hAe : va_A (wC cs ad σ n nm ci cj E) s.heap.size = A at hD ⊢
  have hA : ∀ q : Nat, s.heap.size ≤ q → A q := fun q h => by rw [← hAe]; exact Or.inr h
  have hS : va_S A s.heap s.heap [] := va_S.rf
  have hl := lv_entry ([.ref (ad 0), .int p0, .int p1, .int p2]) (n := 4) (Nat.le_of_ble_eq_true rfl)
  rw [lg_entry_eq]
  generalize (lg_sl ([.ref (ad 0), .int p0, .int p1, .int p2]) ++ List.replicate (4 - (lg_sl ([.ref (ad 0), .int p0, .int p1, .int p2])).length) Slot.unset).toArray = ls at hl ⊢
  have hl : lv_has ls 4 [(0, .ref (ad 0)), (1, .int p0), (2, .int p1), (3, .int p2)] := hl
  refine lv_iload_n hx hb d_C_declared_0 rfl (lv_at hl 1 rfl) ?_
  refine vp_callSi (W.runS (As := [.int p0]) (rest := []) ⟨hx, hb, hml, hown, hts⟩ (c_C_isDeclaration l p0) (va_cwS 1 hts (gw_S kw_143 kw_144 kw_1 kw_145) rfl rfl rfl (by decide +kernel) ⟨Nat.le_of_ble_eq_true rfl, Nat.le_of_ble_eq_true rfl⟩) ⟨fun _ _ _ _ q => q, fun U _ _ => ⟨rfl, trivial⟩⟩ rfl rfl hl.1 rfl (lv_room (Nat.le_of_ble_eq_true rfl)) d_C_declared_1 ⟨Nat.zero_le _, Nat.zero_le _⟩) (fun r_1 h_2 => ?_)
  subst h_2
  refine lv_if_eq (tgt := 21) hx hb d_C_declared_4 (by decide) (fun c_3 => ?_) (fun c_3 => ?_)
  · refine lv_iconst (v := 0) hx hb d_C_declared_21 (by decide) ?_
    exact W.zret (v := 0) (ty := .boolean) hx hb hr rfl (fun t ht hW => ⟨⟨0, σ, rfl, Or.inr ⟨by ((try simp only [b2i_eq0, Classical.not_not] at c_3); first | (simp only [i32_eq, i32_lt, i32_le, i32_nm1, i32_n0, i32_n1, i32_n2, i32_n3, i32_n4, i32_n5, i32_n6, i32_n7, i32_n8, i32_n9, i32_n10, i32_n20, i32_n30, i32_n31, i32_n39, i32_n40, i32_n49, i32_n50, i32_n100, i32_n160, i32_n1000, i32_n100000, i32_n1000000] at c_3 ⊢; omega) | grind), rfl, rfl⟩, by rw [ht]; exact hP, va_K.moved hW.alike hK, hD⟩, hS.F ht⟩) hS.2.2 d_C_declared_22
  · refine lv_iload_n hx hb d_C_declared_7 rfl (lv_at hl 2 rfl) ?_
    refine vp_callSi (W.runS (As := [.int p1]) (rest := []) ⟨hx, hb, hml, hown, hts⟩ (c_C_isMeasure l p1) (va_cwS 1 hts (gw_S kw_146 kw_147 kw_1 kw_148) rfl rfl rfl (by decide +kernel) ⟨Nat.le_of_ble_eq_true rfl, Nat.le_of_ble_eq_true rfl⟩) ⟨fun _ _ _ _ q => q, fun U _ _ => ⟨rfl, trivial⟩⟩ rfl rfl hl.1 rfl (lv_room (Nat.le_of_ble_eq_true rfl)) d_C_declared_8 ⟨Nat.zero_le _, Nat.zero_le _⟩) (fun r_4 h_5 => ?_)
    subst h_5
    refine lv_if_eq (tgt := 21) hx hb d_C_declared_11 (by decide) (fun c_6 => ?_) (fun c_6 => ?_)
    · refine lv_iconst (v := 0) hx hb d_C_declared_21 (by decide) ?_
      exact W.zret (v := 0) (ty := .boolean) hx hb hr rfl (fun t ht hW => ⟨⟨0, σ, rfl, Or.inr ⟨by ((try simp only [b2i_eq0, Classical.not_not] at c_3 c_6); first | (simp only [i32_eq, i32_lt, i32_le, i32_nm1, i32_n0, i32_n1, i32_n2, i32_n3, i32_n4, i32_n5, i32_n6, i32_n7, i32_n8, i32_n9, i32_n10, i32_n20, i32_n30, i32_n31, i32_n39, i32_n40, i32_n49, i32_n50, i32_n100, i32_n160, i32_n1000, i32_n100000, i32_n1000000] at c_3 c_6 ⊢; omega) | grind), rfl, rfl⟩, by rw [ht]; exact hP, va_K.moved hW.alike hK, hD⟩, hS.F ht⟩) hS.2.2 d_C_declared_22
    · refine lv_iload_n hx hb d_C_declared_14 rfl (lv_at hl 3 rfl) ?_
      refine vp_callSi (W.runS (As := [.int p2]) (rest := []) ⟨hx, hb, hml, hown, hts⟩ (c_C_isValue l p2) (va_cwS 1 hts (gw_S kw_149 kw_150 kw_1 kw_151) rfl rfl rfl (by decide +kernel) ⟨Nat.le_of_ble_eq_true rfl, Nat.le_of_ble_eq_true rfl⟩) ⟨fun _ _ _ _ q => q, fun U _ _ => ⟨rfl, trivial⟩⟩ rfl rfl hl.1 rfl (lv_room (Nat.le_of_ble_eq_true rfl)) d_C_declared_15 ⟨Nat.zero_le _, Nat.zero_le _⟩) (fun r_7 h_8 => ?_)
      subst h_8
      refine lv_if_ne (tgt := 23) hx hb d_C_declared_18 (by decide) (fun c_9 => ?_) (fun c_9 => ?_)
      · refine lv_aload_n hx hb d_C_declared_23 rfl (lv_at hl 0 rfl) ?_
        refine rl_get (r := 0) (ci := 1) (v := .ref (ad 9)) (C := R_C) (T := F_C) (N := 10) hx hb hG in_C hown hK hP (RC_f (by decide)) gC_0 rfl 6 (by decide) kw_65 (fun _ h9 => h9) rfl d_C_declared_24 ?_
        refine lv_iload_n hx hb d_C_declared_27 rfl (lv_at hl 1 rfl) ?_
        have hv9 : vp_in p0 10 := vp_in_iff.mpr (by ((try simp only [b2i_eq0, Classical.not_not] at c_3 c_6 c_9); simp only [i32_eq, i32_lt, i32_le, i32_nm1, i32_n0, i32_n1, i32_n2, i32_n3, i32_n4, i32_n5, i32_n6, i32_n7, i32_n8, i32_n9, i32_n10, i32_n20, i32_n30, i32_n31, i32_n39, i32_n40, i32_n49, i32_n50, i32_n100, i32_n160, i32_n1000, i32_n100000, i32_n1000000] at c_3 c_6 c_9 ⊢; omega))
        have hdc : p0.toNatClampNeg < 10 := Nat.not_le.mp fun q9 => hv9 (Or.inr q9)
        refine rl_aldA (r := 9) (i := p0) (v := .ref (ad (20 + p0.toNatClampNeg))) hx hb hK hP (RC_f (by decide)) 3 gC_9 rfl hv9 (by simp only [rowsF, if_pos hdc]; rfl) d_C_declared_28 ?_
        refine lv_iload_n hx hb d_C_declared_29 rfl (lv_at hl 2 rfl) ?_
        refine lv_iload_n hx hb d_C_declared_30 rfl (lv_at hl 3 rfl) ?_
        refine rl_iast (r := 20 + p0.toNatClampNeg) (i := p1) (x := p2) hx hb hK hP hD hS (RC_row hdc) 0 (gC_row hdc) rfl (vp_in_iff.mpr (by ((try simp only [b2i_eq0, Classical.not_not] at c_3 c_6 c_9); simp only [i32_eq, i32_lt, i32_le, i32_nm1, i32_n0, i32_n1, i32_n2, i32_n3, i32_n4, i32_n5, i32_n6, i32_n7, i32_n8, i32_n9, i32_n10, i32_n20, i32_n30, i32_n31, i32_n39, i32_n40, i32_n49, i32_n50, i32_n100, i32_n160, i32_n1000, i32_n100000, i32_n1000000] at c_3 c_6 c_9 ⊢; omega))) d_C_declared_31 (fun H locs hP hD hS => ?_)
        rw [wC_row (hn_ hI) (hm_ hI) hdc] at hP hD
        refine lv_iconst (v := 1) hx hb d_C_declared_32 (by decide) ?_
        exact W.zret (v := 1) (ty := .boolean) hx hb hr rfl (fun t ht hW => ⟨⟨1, su σ (10 + p0.toNatClampNeg) p1.toNatClampNeg p2, rfl, Or.inl ⟨by ((try simp only [b2i_eq0, Classical.not_not] at c_3 c_6 c_9); first | (simp only [i32_eq, i32_lt, i32_le, i32_nm1, i32_n0, i32_n1, i32_n2, i32_n3, i32_n4, i32_n5, i32_n6, i32_n7, i32_n8, i32_n9, i32_n10, i32_n20, i32_n30, i32_n31, i32_n39, i32_n40, i32_n49, i32_n50, i32_n100, i32_n160, i32_n1000, i32_n100000, i32_n1000000] at c_3 c_6 c_9 ⊢; omega) | grind), rfl, rfl⟩, by rw [ht]; exact hP, va_K.moved hW.alike hK, hD⟩, hS.F ht⟩) hS.2.2 d_C_declared_33
      · refine lv_iconst (v := 0) hx hb d_C_declared_21 (by decide) ?_
        exact W.zret (v := 0) (ty := .boolean) hx hb hr rfl (fun t ht hW => ⟨⟨0, σ, rfl, Or.inr ⟨by ((try simp only [b2i_eq0, Classical.not_not] at c_3 c_6 c_9); first | (simp only [i32_eq, i32_lt, i32_le, i32_nm1, i32_n0, i32_n1, i32_n2, i32_n3, i32_n4, i32_n5, i32_n6, i32_n7, i32_n8, i32_n9, i32_n10, i32_n20, i32_n30, i32_n31, i32_n39, i32_n40, i32_n49, i32_n50, i32_n100, i32_n160, i32_n1000, i32_n100000, i32_n1000000] at c_3 c_6 c_9 ⊢; omega) | grind), rfl, rfl⟩, by rw [ht]; exact hP, va_K.moved hW.alike hK, hD⟩, hS.F ht⟩) hS.2.2 d_C_declared_22
end
section
/-! What a throwing method needs beside its world: words that are not good, the texts, two statics. -/
abbrev xe_A : String := "java/lang/IllegalArgumentException"
abbrev xe_S : String := "java/lang/IllegalStateException"
abbrev xe_I : String := "java/lang/IndexOutOfBoundsException"
abbrev xe_up : List String := ["java/lang/RuntimeException", "java/lang/Exception"]
def xs_l : List (Nat × String) := [(70, "no such declaration or kind"), (78, "due at no time from now on"), (86, "no more inspections"), (101, "no such inspection or place"), (103, "no times from now on, in order"), (119, "no such inspection or person"), (142, "no such declaration or people"), (147, "no such seal, or one person alone"), (152, "no such inspection or seal"), (154, "no more samples"), (170, "no such sample or measure"), (175, "no such seal or value"), (190, "no such declaration"), (200, "no time from now on"), (214, "no such inspection"), (232, "nothing such to look at")]
abbrev xd_1 : Cond := .declares (Bundle.initS "java/lang/RuntimeException")
abbrev xd_2 : Cond := .declares (Bundle.initS "java/lang/Exception")
abbrev xd_3 : Cond := .declares (Bundle.initS Bundle.tN)
def xk_K (U : State) : Prop := (va_Nw (.castable xe_A xe_A) U ∧ va_Nw (.castable xe_S xe_S) U ∧ va_Nw (.castable xe_I xe_I) U ∧ va_Nw xd_1 U ∧ va_Nw xd_2 U ∧ va_Nw xd_3 U) ∧ ∀ q ∈ xs_l, ∃ a : Nat, vk_R "InspectSteps" q.1 q.2 a U
def xk_Z (A : Nat → Prop) (U : State) (H : Heap) : Prop := vx_Zq Bundle.tN "UNASSIGNED_STACK" Bundle.steD A U H ∧ vx_Zq Bundle.tN "SUPPRESSED_SENTINEL" Bundle.listD A U H
theorem xk_K.warm {s U : State} (hW : s.WarmedH U.vm) (h : xk_K s) : xk_K U := ⟨⟨va_Nw.warmC hW h.1.1, va_Nw.warmC hW h.1.2.1, va_Nw.warmC hW h.1.2.2.1, va_Nw.warmD hW h.1.2.2.2.1, va_Nw.warmD hW h.1.2.2.2.2.1, va_Nw.warmD hW h.1.2.2.2.2.2⟩, fun q hq => by
  obtain ⟨a, ha⟩ := h.2 q hq
  exact ⟨a, vk_R.warm hW ha⟩⟩
theorem xk_K.same {s U : State} (hv : U.vm = s.vm) (h : xk_K s) : xk_K U := ⟨⟨va_Nw.same rfl hv.symm h.1.1, va_Nw.same rfl hv.symm h.1.2.1, va_Nw.same rfl hv.symm h.1.2.2.1, va_Nw.same rfl hv.symm h.1.2.2.2.1, va_Nw.same rfl hv.symm h.1.2.2.2.2.1, va_Nw.same rfl hv.symm h.1.2.2.2.2.2⟩, fun q hq => by
  obtain ⟨a, ha⟩ := h.2 q hq
  exact ⟨a, vk_R.same hv ha⟩⟩
theorem xk_Z.moved {A : Nat → Prop} {u U : State} {H : Heap} (hvm : u.vm.Alike U.vm) (h : xk_Z A u H) : xk_Z A U H := ⟨vx_Zq.moved hvm h.1, vx_Zq.moved hvm h.2⟩
theorem xk_Z.kept {A : Nat → Prop} {U : State} {H H1 : Heap} (h : xk_Z A U H) (hq : ∀ a : Nat, a < H.size → ¬ A a → H1[a]? = H[a]?) : xk_Z A U H1 := ⟨h.1.kept hq, h.2.kept hq⟩
theorem xk_Z.narrow {A B : Nat → Prop} {U : State} {H : Heap} (h : xk_Z A U H) (hAB : ∀ q, B q → A q) : xk_Z B U H := ⟨h.1.narrow hAB, h.2.narrow hAB⟩
/-- a throwing method's start -/
abbrev xr_B (D : va_G) (cs : Nat → ClassId) (ws : va_W) (sz : Nat) : State → Prop := fun U => wr_B D cs ws sz U ∧ xk_K U ∧ xk_Z (va_A ws sz) U U.heap
theorem xr_blind {D : va_G} {cs : Nat → ClassId} {ws : va_W} {sz : Nat} {av : List Value} : FrameBlind (va_Pc av (xr_B D cs ws sz)) := fun a U g mk q => by
  obtain ⟨q0, ⟨q1, qP, qK, qD⟩, qX, qZ⟩ := q
  exact ⟨q0, ⟨q1, qP, va_K.moved (u := U) (U := U.calling g mk a) (Vm.Alike.refl U.vm) qK, qD⟩, xk_K.same (s := U) rfl qX, xk_Z.moved (u := U) (U := U.calling g mk a) (Vm.Alike.refl U.vm) qZ⟩
theorem thr_T {D : va_G} {cs : Nat → ClassId} {ws : va_W} {A : Nat → Prop} {s : State} {H : Heap} {locs : List Loc} (hS : va_S A s.heap H locs) (hP : va_P D cls_ ws H) (hK : va_K D cls_ (tys_ cs) s) (hD : va_D A ws) {t : State} (ha : s.vm.Alike t.vm) (hz : H.size ≤ t.heap.size) (hk : ∀ q : Nat, q < H.size → t.heap[q]? = H[q]?) : wr_T D cs ws A t ∧ va_F A s t :=
  ⟨⟨hP.kept (fun k q hq => hk q.1 ((hP k q hq).lt)), va_K.moved ha hK, hD⟩, Nat.le_trans hS.1 hz, fun q h1 h2 => by rw [hk q (Nat.lt_of_lt_of_le h1 hS.1)]; exact hS.2.1 q h1 h2⟩
theorem xa_A1 : ∀ w ∈ (vx_atS "InspectSteps" 72 xe_A xe_up).filter goodWord, w ∈ lw_tbl := by decide +kernel
theorem xa_A2 : ∀ w ∈ (vx_atS "InspectSteps" 72 xe_A xe_up).filter (fun w => !goodWord w), w ∈ [Cond.castable xe_A xe_A, xd_1, xd_2, xd_3] := by decide +kernel
theorem xa_A3 : ∀ w ∈ Cond.classLink "InspectSteps" 68 xe_A :: Cond.initialized xe_A :: vx_atS "InspectSteps" 72 xe_A xe_up, vx_ot w = true := by decide +kernel
theorem xa_A {args : Array Value} {s : State} (hG : ∀ w ∈ GW, w.before args s = true) (hX : xk_K s) : ∀ w ∈ vx_atS "InspectSteps" 72 xe_A xe_up, w.before args s = true :=
  vx_hat (fun w hw => hG w (gw_of (xa_A1 w hw) (List.mem_filter.mp hw).2)) xa_A2 (vx_c (va_Nw.use rfl hX.1.1) (vx_c (va_Nw.use rfl hX.1.2.2.2.1) (vx_c (va_Nw.use rfl hX.1.2.2.2.2.1) (vx_c (va_Nw.use rfl hX.1.2.2.2.2.2) vx_n))))
theorem xa_S1 : ∀ w ∈ (vx_atS "InspectSteps" 88 xe_S xe_up).filter goodWord, w ∈ lw_tbl := by decide +kernel
theorem xa_S2 : ∀ w ∈ (vx_atS "InspectSteps" 88 xe_S xe_up).filter (fun w => !goodWord w), w ∈ [Cond.castable xe_S xe_S, xd_1, xd_2, xd_3] := by decide +kernel
theorem xa_S3 : ∀ w ∈ Cond.classLink "InspectSteps" 84 xe_S :: Cond.initialized xe_S :: vx_atS "InspectSteps" 88 xe_S xe_up, vx_ot w = true := by decide +kernel
theorem xa_S {args : Array Value} {s : State} (hG : ∀ w ∈ GW, w.before args s = true) (hX : xk_K s) : ∀ w ∈ vx_atS "InspectSteps" 88 xe_S xe_up, w.before args s = true :=
  vx_hat (fun w hw => hG w (gw_of (xa_S1 w hw) (List.mem_filter.mp hw).2)) xa_S2 (vx_c (va_Nw.use rfl hX.1.2.1) (vx_c (va_Nw.use rfl hX.1.2.2.2.1) (vx_c (va_Nw.use rfl hX.1.2.2.2.2.1) (vx_c (va_Nw.use rfl hX.1.2.2.2.2.2) vx_n))))
theorem xa_I1 : ∀ w ∈ (vx_atS "InspectSteps" 216 xe_I xe_up).filter goodWord, w ∈ lw_tbl := by decide +kernel
theorem xa_I2 : ∀ w ∈ (vx_atS "InspectSteps" 216 xe_I xe_up).filter (fun w => !goodWord w), w ∈ [Cond.castable xe_I xe_I, xd_1, xd_2, xd_3] := by decide +kernel
theorem xa_I3 : ∀ w ∈ Cond.classLink "InspectSteps" 212 xe_I :: Cond.initialized xe_I :: vx_atS "InspectSteps" 216 xe_I xe_up, vx_ot w = true := by decide +kernel
theorem xa_I {args : Array Value} {s : State} (hG : ∀ w ∈ GW, w.before args s = true) (hX : xk_K s) : ∀ w ∈ vx_atS "InspectSteps" 216 xe_I xe_up, w.before args s = true :=
  vx_hat (fun w hw => hG w (gw_of (xa_I1 w hw) (List.mem_filter.mp hw).2)) xa_I2 (vx_c (va_Nw.use rfl hX.1.2.2.1) (vx_c (va_Nw.use rfl hX.1.2.2.2.1) (vx_c (va_Nw.use rfl hX.1.2.2.2.2.1) (vx_c (va_Nw.use rfl hX.1.2.2.2.2.2) vx_n))))
end
section
set_option maxHeartbeats 4000000 in
set_option maxRecDepth 100000 in
theorem c_C_end (l : Launch) (D : va_G) (cs : Nat → ClassId) (ad : Nat → Nat) (σ : Nat → Nat → Int32) (n nm ci cj E : Nat) (hI : Iv n nm ci cj) (hst : l.stackTraces = false) (sz : Nat) (p0 p1 p2 : Int32) : vx_Met l y_C_end (Cond.code y_C_end b_C_end 5 (some .int) :: GW) ({ frames := 8, cells := 1, slots := 6, locals := 256 }) (va_Pc [.ref (ad 0), .int p0, .int p1, .int p2] (xr_B D cs (wC cs ad σ n nm ci cj E) sz)) (va_Qi (fun r (u : Nat → Nat → Int32) => ∃ i, i < n ∧ p0 = nI i ∧ (0 ≤ p1 ∧ p1 ≤ 9) ∧ ((σ 23 i = 2 ∧ σ 28 i = p1 ∧ r = 1 ∧ u = su σ 23 i (if p2 = 0 then 4 else 3)) ∨ (¬ (σ 23 i = 2 ∧ σ 28 i = p1) ∧ r = 0 ∧ u = σ))) (fun u => wr_T D cs (wC cs ad u n nm ci cj E) (va_A (wC cs ad σ n nm ci cj E) sz)) (va_A (wC cs ad σ n nm ci cj E) sz)) (vx_X (fun _ : Unit => ¬ ((∃ i, i < n ∧ p0 = nI i) ∧ (0 ≤ p1 ∧ p1 ≤ 9))) (fun E9 _ t => E9 = xe_A ∧ wr_T D cs (wC cs ad σ n nm ci cj E) (va_A (wC cs ad σ n nm ci cj E) sz) t) (va_A (wC cs ad σ n nm ci cj E) sz)) 1 6 (va_A (wC cs ad σ n nm ci cj E) sz) := by
  refine vx_ofW (cc := b_C_end) (maxL := 5) (ret := (some .int)) (by decide) rfl ?_
  intro p e s m args below meth c s₁ B hml hnt hv
  obtain ⟨rfl, ⟨hsz, hP, hK, hD0⟩, hX, hZ⟩ := hv
  have hx := B.exec
  have hb := B.bytes
  have hr := B.returns
  have hts := atoms_spec (ws := Cond.code y_C_end b_C_end 5 (some .int) :: GW) B.pre
  have hG : ∀ w ∈ GW, w.before _ s = true := fun w h => hts w (List.mem_cons_of_mem _ h)
  have hown : s.vm.findClass R_C = some m.cls := findClass_of_methodNamed B.named
  have hlocks := B.notSynchronized
  subst hsz
  have hD := hD0.self (sz := s.heap.size)
  generalize hAe : va_A (wC cs ad σ n nm ci cj E) s.heap.size = A at hD hZ ⊢
  have hA : ∀ q : Nat, s.heap.size ≤ q → A q := fun q h => by rw [← hAe]; exact Or.inr h
  have hS : va_S A s.heap s.heap [] := va_S.rf
  have hl := lv_entry ([.ref (ad 0), .int p0, .int p1, .int p2]) (n := 5) (Nat.le_of_ble_eq_true rfl)
  rw [lg_entry_eq]
  generalize (lg_sl ([.ref (ad 0), .int p0, .int p1, .int p2]) ++ List.replicate (5 - (lg_sl ([.ref (ad 0), .int p0, .int p1, .int p2])).length) Slot.unset).toArray = ls at hl ⊢
  have hl : lv_has ls 5 [(0, .ref (ad 0)), (1, .int p0), (2, .int p1), (3, .int p2)] := hl
  refine lv_aload_n hx hb d_C_end_0 rfl (lv_at hl 0 rfl) ?_
  refine lv_iload_n hx hb d_C_end_1 rfl (lv_at hl 1 rfl) ?_
  refine vp_callSi (W.runV (As := [.int p0]) (rest := []) ⟨hx, hb, hml, hown, hts⟩ (c_C_isInspection l D cs ad σ n nm ci cj E hI p0) (cwV 1 hts (gw_V kw_112 kw_114 ks_0_1 kw_1 kw_115) rfl rfl rfl (by decide +kernel) ⟨Nat.le_of_ble_eq_true rfl, Nat.le_of_ble_eq_true rfl⟩) (rd_V hP hK (rl_recv hK hP (RC_f (by decide)) gC_0 rfl)) rfl rfl hl.1 rfl (lv_room (Nat.le_of_ble_eq_true rfl)) d_C_end_2 ⟨Nat.zero_le _, Nat.zero_le _⟩) (fun r_1 h_2 => ?_)
  subst h_2
  refine lv_if_eq (tgt := 15) hx hb d_C_end_5 (by decide) (fun c_3 => ?_) (fun c_3 => ?_)
  · exact vx_throwS (own := "InspectSteps") (cls := xe_A) (text := "no such inspection or person") (names := xe_up) (ik := 68) (is := 119) (ic := 72) (A := A) hx hb hst hown (by decide) (by decide) (hG _ kw_192) (hG _ kw_10) (hX.2 (119, "no such inspection or person") (by decide)).choose_spec (xa_A hG hX) xa_A3 hZ.1 hZ.2 hS (hl.1.trans hml.symm) d_C_end_15 d_C_end_18 d_C_end_19 d_C_end_21 d_C_end_24 (fun x h => (hnt x h).elim) (Nat.le_of_ble_eq_true rfl) (Nat.le_of_ble_eq_true rfl) (Nat.le_of_ble_eq_true rfl) (Nat.le_of_ble_eq_true rfl) hlocks (fun t ha hz hk => ⟨(), fun ⟨⟨j, hj, e9⟩, _⟩ => (b2i_eq0.mp c_3) (e9 ▸ at_not (by have := hI; unfold Iv at this; omega) hj), ⟨rfl, (thr_T hS hP hK hD ha hz hk).1⟩, (thr_T hS hP hK hD ha hz hk).2⟩) hS.2.2 (Nat.le_of_ble_eq_true rfl) (Nat.le_of_ble_eq_true rfl)
  · obtain ⟨i, hi, rfl⟩ := at_ (by have := hI; unfold Iv at this; omega) (Classical.not_not.mp (fun h => c_3 (b2i_eq0.mpr h)))
    refine lv_iload_n hx hb d_C_end_8 rfl (lv_at hl 2 rfl) ?_
    refine vp_callSi (W.runS (As := [.int p1]) (rest := []) ⟨hx, hb, hml, hown, hts⟩ (c_C_isPerson l p1) (va_cwS 1 hts (gw_S kw_95 kw_96 kw_1 kw_97) rfl rfl rfl (by decide +kernel) ⟨Nat.le_of_ble_eq_true rfl, Nat.le_of_ble_eq_true rfl⟩) ⟨fun _ _ _ _ q => q, fun U _ _ => ⟨rfl, trivial⟩⟩ rfl rfl hl.1 rfl (lv_room (Nat.le_of_ble_eq_true rfl)) d_C_end_9 ⟨Nat.zero_le _, Nat.zero_le _⟩) (fun r_4 h_5 => ?_)
    subst h_5
    refine lv_if_ne (tgt := 25) hx hb d_C_end_12 (by decide) (fun c_6 => ?_) (fun c_6 => ?_)
    · refine lv_aload_n hx hb d_C_end_25 rfl (lv_at hl 0 rfl) ?_
      refine rl_get (r := 0) (ci := 1) (v := .ref (ad 1)) (C := R_C) (T := F_C) (N := 10) hx hb hG in_C hown hK hP (RC_f (by decide)) gC_0 rfl 0 (by decide) kw_59 (fun _ h9 => h9) rfl d_C_end_26 ?_
      refine lv_iload_n hx hb d_C_end_29 rfl (lv_at hl 1 rfl) ?_
      refine va_csr (W.runV (As := [.int (nI i)]) (rest := []) ⟨hx, hb, hml, hown, hts⟩ (c_Al_get l D (tys_ cs) (ad 1) (ad 3) n ci i (ad (100 + i)) (σ 7 0) (cs 2) (rowsF 100 n ad) hi hI.2.2.1 (by have := hI; unfold Iv at this; omega) 2 rfl (if_pos hi)) (cwV 1 hts (gw_V kw_120 kw_121 kw_122 kw_4 kw_123) rfl rfl rfl (by decide +kernel) ⟨Nat.le_of_ble_eq_true rfl, Nat.le_of_ble_eq_true rfl⟩) (rd_V (rl_two hP (RC_f (by decide)) (gC_1 (Nat.lt_of_le_of_lt (Nat.zero_le _) hi)) (RC_3 (Nat.lt_of_le_of_lt (Nat.zero_le _) hi)) gC_3) hK (rl_recv hK hP (RC_f (by decide)) (gC_1 (Nat.lt_of_le_of_lt (Nat.zero_le _) hi)) rfl)) rfl rfl hl.1 rfl (lv_room (Nat.le_of_ble_eq_true rfl)) d_C_end_30 ⟨Nat.zero_le _, Nat.zero_le _⟩) (fun r_7 h_8 => ?_)
      subst h_8
      refine va_castS hx hb hown (hG _ kw_134) ((hK.1 2 _ rfl).2) (rl_recv hK hP (RC_ins hi) (gC_ins (by have := hI; unfold Iv at this; omega)) rfl) d_C_end_33 ?_
      refine lv_astore (lv' := [(4, .ref (ad (100 + i))), (0, .ref (ad 0)), (1, .int (nI i)), (2, .int p1), (3, .int p2)]) hx hb d_C_end_36 hl (by decide) rfl (fun ls hl => ?_)
      refine lv_aload hx hb d_C_end_38 (lv_at hl 0 rfl) ?_
      refine rl_get (r := 100 + i) (ci := 2) (v := .int (σ 23 i)) (C := R_I) (T := F_I) (N := 10) hx hb hG in_I hown hK hP (RC_ins hi) (gC_ins (by have := hI; unfold Iv at this; omega)) rfl 3 (by decide) kw_293 (fun _ h9 => h9) rfl d_C_end_40 ?_
      refine lv_iconst (v := 2) hx hb d_C_end_43 (by decide) ?_
      refine lv_icmp_ne (tgt := 56) hx hb d_C_end_44 (by decide) (fun c_9 => ?_) (fun c_9 => ?_)
      · refine lv_iconst (v := 0) hx hb d_C_end_56 (by decide) ?_
        refine W.widen (k := 1) (n := 6) (Nat.zero_le _) (Nat.zero_le _) (vx_ret ?_)
        exact W.iret (v := 0) hx hb hr (fun t ht hW => ⟨⟨0, σ, rfl, ⟨i, hi, rfl, Classical.not_not.mp (fun h => c_6 (b2i_eq0.mpr h)), Or.inr ⟨fun h9 => c_9 h9.1, rfl, rfl⟩⟩, by rw [ht]; exact hP, va_K.moved hW.alike hK, hD⟩, hS.F ht⟩) hS.2.2 d_C_end_57
      · refine lv_aload hx hb d_C_end_47 (lv_at hl 0 rfl) ?_
        refine rl_get (r := 100 + i) (ci := 2) (v := .int (σ 28 i)) (C := R_I) (T := F_I) (N := 10) hx hb hG in_I hown hK hP (RC_ins hi) (gC_ins (by have := hI; unfold Iv at this; omega)) rfl 8 (by decide) kw_303 (fun _ h9 => h9) rfl d_C_end_49 ?_
        refine lv_iload_n hx hb d_C_end_52 rfl (lv_at hl 3 rfl) ?_
        refine lv_icmp_eq (tgt := 58) hx hb d_C_end_53 (by decide) (fun c_10 => ?_) (fun c_10 => ?_)
        · refine lv_aload hx hb d_C_end_58 (lv_at hl 0 rfl) ?_
          refine lv_iload_n hx hb d_C_end_60 rfl (lv_at hl 4 rfl) ?_
          refine lv_if_eq (tgt := 68) hx hb d_C_end_61 (by decide) (fun c_11 => ?_) (fun c_11 => ?_)
          · refine lv_iconst (v := 4) hx hb d_C_end_68 (by decide) ?_
            refine rl_put (r := 100 + i) (ci := 2) (v := .int 4) (ty := .int) (C := R_I) (T := F_I) (N := 10) hx hb hG in_I T_I T_I_ok n_I hown hK hP hD hS (RC_ins hi) (gC_ins (by have := hI; unfold Iv at this; omega)) rfl 3 (by decide) kw_293 (fun _ h9 => h9) rfl (by decide +kernel) rfl rfl (Nat.le_of_ble_eq_true rfl) d_C_end_69 (fun H locs hP hD hS => ?_)
            rw [wC_ins (f := 3) (hn_ hI) (hm_ hI) (by have := hI; unfold Iv at this; omega) (by decide)] at hP hD
            refine lv_iconst (v := 1) hx hb d_C_end_72 (by decide) ?_
            refine W.widen (k := 1) (n := 6) (Nat.zero_le _) (Nat.zero_le _) (vx_ret ?_)
            exact W.iret (v := 1) hx hb hr (fun t ht hW => ⟨⟨1, su σ 23 i 4, rfl, ⟨i, hi, rfl, Classical.not_not.mp (fun h => c_6 (b2i_eq0.mpr h)), Or.inl ⟨c_9, c_10, rfl, by rw [if_pos c_11]⟩⟩, by rw [ht]; exact hP, va_K.moved hW.alike hK, hD⟩, hS.F ht⟩) hS.2.2 d_C_end_73
          · refine lv_iconst (v := 3) hx hb d_C_end_64 (by decide) ?_
            refine lv_goto (tgt := 69) hx hb d_C_end_65 (by decide) ?_
            refine rl_put (r := 100 + i) (ci := 2) (v := .int 3) (ty := .int) (C := R_I) (T := F_I) (N := 10) hx hb hG in_I T_I T_I_ok n_I hown hK hP hD hS (RC_ins hi) (gC_ins (by have := hI; unfold Iv at this; omega)) rfl 3 (by decide) kw_293 (fun _ h9 => h9) rfl (by decide +kernel) rfl rfl (Nat.le_of_ble_eq_true rfl) d_C_end_69 (fun H locs hP hD hS => ?_)
            rw [wC_ins (f := 3) (hn_ hI) (hm_ hI) (by have := hI; unfold Iv at this; omega) (by decide)] at hP hD
            refine lv_iconst (v := 1) hx hb d_C_end_72 (by decide) ?_
            refine W.widen (k := 1) (n := 6) (Nat.zero_le _) (Nat.zero_le _) (vx_ret ?_)
            exact W.iret (v := 1) hx hb hr (fun t ht hW => ⟨⟨1, su σ 23 i 3, rfl, ⟨i, hi, rfl, Classical.not_not.mp (fun h => c_6 (b2i_eq0.mpr h)), Or.inl ⟨c_9, c_10, rfl, by rw [if_neg c_11]⟩⟩, by rw [ht]; exact hP, va_K.moved hW.alike hK, hD⟩, hS.F ht⟩) hS.2.2 d_C_end_73
        · refine lv_iconst (v := 0) hx hb d_C_end_56 (by decide) ?_
          refine W.widen (k := 1) (n := 6) (Nat.zero_le _) (Nat.zero_le _) (vx_ret ?_)
          exact W.iret (v := 0) hx hb hr (fun t ht hW => ⟨⟨0, σ, rfl, ⟨i, hi, rfl, Classical.not_not.mp (fun h => c_6 (b2i_eq0.mpr h)), Or.inr ⟨fun h9 => c_10 h9.2, rfl, rfl⟩⟩, by rw [ht]; exact hP, va_K.moved hW.alike hK, hD⟩, hS.F ht⟩) hS.2.2 d_C_end_57
    · exact vx_throwS (own := "InspectSteps") (cls := xe_A) (text := "no such inspection or person") (names := xe_up) (ik := 68) (is := 119) (ic := 72) (A := A) hx hb hst hown (by decide) (by decide) (hG _ kw_192) (hG _ kw_10) (hX.2 (119, "no such inspection or person") (by decide)).choose_spec (xa_A hG hX) xa_A3 hZ.1 hZ.2 hS (hl.1.trans hml.symm) d_C_end_15 d_C_end_18 d_C_end_19 d_C_end_21 d_C_end_24 (fun x h => (hnt x h).elim) (Nat.le_of_ble_eq_true rfl) (Nat.le_of_ble_eq_true rfl) (Nat.le_of_ble_eq_true rfl) (Nat.le_of_ble_eq_true rfl) hlocks (fun t ha hz hk => ⟨(), fun h9 => (b2i_eq0.mp c_6) h9.2, ⟨rfl, (thr_T hS hP hK hD ha hz hk).1⟩, (thr_T hS hP hK hD ha hz hk).2⟩) hS.2.2 (Nat.le_of_ble_eq_true rfl) (Nat.le_of_ble_eq_true rfl)
end
section
set_option maxHeartbeats 4000000 in
set_option maxRecDepth 100000 in
theorem c_C_seal (l : Launch) (D : va_G) (cs : Nat → ClassId) (ad : Nat → Nat) (σ : Nat → Nat → Int32) (n nm ci cj E : Nat) (hI : Iv n nm ci cj) (hst : l.stackTraces = false) (sz : Nat) (p0 p1 p2 p3 : Int32) : vx_Met l y_C_seal (Cond.code y_C_seal b_C_seal 5 (some .int) :: GW) ({ frames := 8, cells := 1, slots := 6, locals := 256 }) (va_Pc [.ref (ad 0), .int p0, .int p1, .int p2, .int p3] (xr_B D cs (wC cs ad σ n nm ci cj E) sz)) (va_Qi (fun r (u : Nat → Nat → Int32) => ((0 ≤ p0 ∧ p0 ≤ 9) ∧ (0 ≤ p2 ∧ p2 ≤ 9) ∧ (0 ≤ p3 ∧ p3 ≤ 9) ∧ (1 ≤ p1 ∧ p1 ≤ 1000000) ∧ ¬ p2 = p3) ∧ (((σ 2 p0.toNatClampNeg = -1 ∧ (¬ ∃ j, j < n ∧ σ 20 j = p0 ∧ 3 ≤ σ 21 j ∧ σ 23 j = 2) ∧ ((0 ≤ p2 ∧ p2 ≤ 9) ∧ σ 1 p2.toNatClampNeg >>> (5 &&& 31) &&& 1 = 1) ∧ ((0 ≤ p3 ∧ p3 ≤ 9) ∧ σ 1 p3.toNatClampNeg >>> (5 &&& 31) &&& 1 = 1)) ∧ r = 1 ∧ u = su σ 2 p0.toNatClampNeg p1) ∨ (¬ (σ 2 p0.toNatClampNeg = -1 ∧ (¬ ∃ j, j < n ∧ σ 20 j = p0 ∧ 3 ≤ σ 21 j ∧ σ 23 j = 2) ∧ ((0 ≤ p2 ∧ p2 ≤ 9) ∧ σ 1 p2.toNatClampNeg >>> (5 &&& 31) &&& 1 = 1) ∧ ((0 ≤ p3 ∧ p3 ≤ 9) ∧ σ 1 p3.toNatClampNeg >>> (5 &&& 31) &&& 1 = 1)) ∧ r = 0 ∧ u = σ))) (fun u => wr_T D cs (wC cs ad u n nm ci cj E) (va_A (wC cs ad σ n nm ci cj E) sz)) (va_A (wC cs ad σ n nm ci cj E) sz)) (vx_X (fun _ : Unit => ¬ ((0 ≤ p0 ∧ p0 ≤ 9) ∧ (0 ≤ p2 ∧ p2 ≤ 9) ∧ (0 ≤ p3 ∧ p3 ≤ 9) ∧ (1 ≤ p1 ∧ p1 ≤ 1000000) ∧ ¬ p2 = p3)) (fun E9 _ t => E9 = xe_A ∧ wr_T D cs (wC cs ad σ n nm ci cj E) (va_A (wC cs ad σ n nm ci cj E) sz) t) (va_A (wC cs ad σ n nm ci cj E) sz)) 1 6 (va_A (wC cs ad σ n nm ci cj E) sz) := by
  refine vx_ofW (cc := b_C_seal) (maxL := 5) (ret := (some .int)) (by decide) rfl ?_
  intro p e s m args below meth c s₁ B hml hnt hv
  obtain ⟨rfl, ⟨hsz, hP, hK, hD0⟩, hX, hZ⟩ := hv
  have hx := B.exec
  have hb := B.bytes
  have hr := B.returns
  have hts := atoms_spec (ws := Cond.code y_C_seal b_C_seal 5 (some .int) :: GW) B.pre
  have hG : ∀ w ∈ GW, w.before _ s = true := fun w h => hts w (List.mem_cons_of_mem _ h)
  have hown : s.vm.findClass R_C = some m.cls := findClass_of_methodNamed B.named
  have hlocks := B.notSynchronized
  subst hsz
  have hD := hD0.self (sz := s.heap.size)
  generalize hAe : va_A (wC cs ad σ n nm ci cj E) s.heap.size = A at hD hZ ⊢
  have hA : ∀ q : Nat, s.heap.size ≤ q → A q := fun q h => by rw [← hAe]; exact Or.inr h
  have hS : va_S A s.heap s.heap [] := va_S.rf
  have hl := lv_entry ([.ref (ad 0), .int p0, .int p1, .int p2, .int p3]) (n := 5) (Nat.le_of_ble_eq_true rfl)
  rw [lg_entry_eq]
  generalize (lg_sl ([.ref (ad 0), .int p0, .int p1, .int p2, .int p3]) ++ List.replicate (5 - (lg_sl ([.ref (ad 0), .int p0, .int p1, .int p2, .int p3])).length) Slot.unset).toArray = ls at hl ⊢
  have hl : lv_has ls 5 [(0, .ref (ad 0)), (1, .int p0), (2, .int p1), (3, .int p2), (4, .int p3)] := hl
  refine lv_iload_n hx hb d_C_seal_0 rfl (lv_at hl 1 rfl) ?_
  refine vp_callSi (W.runS (As := [.int p0]) (rest := []) ⟨hx, hb, hml, hown, hts⟩ (c_C_isDeclaration l p0) (va_cwS 1 hts (gw_S kw_143 kw_144 kw_1 kw_145) rfl rfl rfl (by decide +kernel) ⟨Nat.le_of_ble_eq_true rfl, Nat.le_of_ble_eq_true rfl⟩) ⟨fun _ _ _ _ q => q, fun U _ _ => ⟨rfl, trivial⟩⟩ rfl rfl hl.1 rfl (lv_room (Nat.le_of_ble_eq_true rfl)) d_C_seal_1 ⟨Nat.zero_le _, Nat.zero_le _⟩) (fun r_1 h_2 => ?_)
  subst h_2
  refine lv_if_eq (tgt := 22) hx hb d_C_seal_4 (by decide) (fun c_3 => ?_) (fun c_3 => ?_)
  · exact vx_throwS (own := "InspectSteps") (cls := xe_A) (text := "no such declaration or people") (names := xe_up) (ik := 68) (is := 142) (ic := 72) (A := A) hx hb hst hown (by decide) (by decide) (hG _ kw_192) (hG _ kw_10) (hX.2 (142, "no such declaration or people") (by decide)).choose_spec (xa_A hG hX) xa_A3 hZ.1 hZ.2 hS (hl.1.trans hml.symm) d_C_seal_22 d_C_seal_25 d_C_seal_26 d_C_seal_28 d_C_seal_31 (fun x h => (hnt x h).elim) (Nat.le_of_ble_eq_true rfl) (Nat.le_of_ble_eq_true rfl) (Nat.le_of_ble_eq_true rfl) (Nat.le_of_ble_eq_true rfl) hlocks (fun t ha hz hk => ⟨(), (by ((try simp only [b2i_eq0, Classical.not_not] at c_3); grind)), ⟨rfl, (thr_T hS hP hK hD ha hz hk).1⟩, (thr_T hS hP hK hD ha hz hk).2⟩) hS.2.2 (Nat.le_of_ble_eq_true rfl) (Nat.le_of_ble_eq_true rfl)
  · refine lv_iload_n hx hb d_C_seal_7 rfl (lv_at hl 3 rfl) ?_
    refine vp_callSi (W.runS (As := [.int p2]) (rest := []) ⟨hx, hb, hml, hown, hts⟩ (c_C_isPerson l p2) (va_cwS 1 hts (gw_S kw_95 kw_96 kw_1 kw_97) rfl rfl rfl (by decide +kernel) ⟨Nat.le_of_ble_eq_true rfl, Nat.le_of_ble_eq_true rfl⟩) ⟨fun _ _ _ _ q => q, fun U _ _ => ⟨rfl, trivial⟩⟩ rfl rfl hl.1 rfl (lv_room (Nat.le_of_ble_eq_true rfl)) d_C_seal_8 ⟨Nat.zero_le _, Nat.zero_le _⟩) (fun r_4 h_5 => ?_)
    subst h_5
    refine lv_if_eq (tgt := 22) hx hb d_C_seal_11 (by decide) (fun c_6 => ?_) (fun c_6 => ?_)
    · exact vx_throwS (own := "InspectSteps") (cls := xe_A) (text := "no such declaration or people") (names := xe_up) (ik := 68) (is := 142) (ic := 72) (A := A) hx hb hst hown (by decide) (by decide) (hG _ kw_192) (hG _ kw_10) (hX.2 (142, "no such declaration or people") (by decide)).choose_spec (xa_A hG hX) xa_A3 hZ.1 hZ.2 hS (hl.1.trans hml.symm) d_C_seal_22 d_C_seal_25 d_C_seal_26 d_C_seal_28 d_C_seal_31 (fun x h => (hnt x h).elim) (Nat.le_of_ble_eq_true rfl) (Nat.le_of_ble_eq_true rfl) (Nat.le_of_ble_eq_true rfl) (Nat.le_of_ble_eq_true rfl) hlocks (fun t ha hz hk => ⟨(), (by ((try simp only [b2i_eq0, Classical.not_not] at c_3 c_6); grind)), ⟨rfl, (thr_T hS hP hK hD ha hz hk).1⟩, (thr_T hS hP hK hD ha hz hk).2⟩) hS.2.2 (Nat.le_of_ble_eq_true rfl) (Nat.le_of_ble_eq_true rfl)
    · refine lv_iload hx hb d_C_seal_14 (lv_at hl 4 rfl) ?_
      refine vp_callSi (W.runS (As := [.int p3]) (rest := []) ⟨hx, hb, hml, hown, hts⟩ (c_C_isPerson l p3) (va_cwS 1 hts (gw_S kw_95 kw_96 kw_1 kw_97) rfl rfl rfl (by decide +kernel) ⟨Nat.le_of_ble_eq_true rfl, Nat.le_of_ble_eq_true rfl⟩) ⟨fun _ _ _ _ q => q, fun U _ _ => ⟨rfl, trivial⟩⟩ rfl rfl hl.1 rfl (lv_room (Nat.le_of_ble_eq_true rfl)) d_C_seal_16 ⟨Nat.zero_le _, Nat.zero_le _⟩) (fun r_7 h_8 => ?_)
      subst h_8
      refine lv_if_ne (tgt := 32) hx hb d_C_seal_19 (by decide) (fun c_9 => ?_) (fun c_9 => ?_)
      · refine lv_iload_n hx hb d_C_seal_32 rfl (lv_at hl 2 rfl) ?_
        refine vp_callSi (W.runS (As := [.int p1]) (rest := []) ⟨hx, hb, hml, hown, hts⟩ (c_C_isSeal l p1) (va_cwS 1 hts (gw_S kw_442 kw_443 kw_1 kw_444) rfl rfl rfl (by decide +kernel) ⟨Nat.le_of_ble_eq_true rfl, Nat.le_of_ble_eq_true rfl⟩) ⟨fun _ _ _ _ q => q, fun U _ _ => ⟨rfl, trivial⟩⟩ rfl rfl hl.1 rfl (lv_room (Nat.le_of_ble_eq_true rfl)) d_C_seal_33 ⟨Nat.zero_le _, Nat.zero_le _⟩) (fun r_10 h_11 => ?_)
        subst h_11
        refine lv_if_eq (tgt := 45) hx hb d_C_seal_36 (by decide) (fun c_12 => ?_) (fun c_12 => ?_)
        · exact vx_throwS (own := "InspectSteps") (cls := xe_A) (text := "no such seal, or one person alone") (names := xe_up) (ik := 68) (is := 147) (ic := 72) (A := A) hx hb hst hown (by decide) (by decide) (hG _ kw_192) (hG _ kw_10) (hX.2 (147, "no such seal, or one person alone") (by decide)).choose_spec (xa_A hG hX) xa_A3 hZ.1 hZ.2 hS (hl.1.trans hml.symm) d_C_seal_45 d_C_seal_48 d_C_seal_49 d_C_seal_51 d_C_seal_54 (fun x h => (hnt x h).elim) (Nat.le_of_ble_eq_true rfl) (Nat.le_of_ble_eq_true rfl) (Nat.le_of_ble_eq_true rfl) (Nat.le_of_ble_eq_true rfl) hlocks (fun t ha hz hk => ⟨(), (by ((try simp only [b2i_eq0, Classical.not_not] at c_3 c_6 c_9 c_12); grind)), ⟨rfl, (thr_T hS hP hK hD ha hz hk).1⟩, (thr_T hS hP hK hD ha hz hk).2⟩) hS.2.2 (Nat.le_of_ble_eq_true rfl) (Nat.le_of_ble_eq_true rfl)
        · refine lv_iload_n hx hb d_C_seal_39 rfl (lv_at hl 3 rfl) ?_
          refine lv_iload hx hb d_C_seal_40 (lv_at hl 4 rfl) ?_
          refine lv_icmp_ne (tgt := 55) hx hb d_C_seal_42 (by decide) (fun c_13 => ?_) (fun c_13 => ?_)
          · refine lv_aload_n hx hb d_C_seal_55 rfl (lv_at hl 0 rfl) ?_
            refine rl_get (r := 0) (ci := 1) (v := .ref (ad 6)) (C := R_C) (T := F_C) (N := 10) hx hb hG in_C hown hK hP (RC_f (by decide)) gC_0 rfl 3 (by decide) kw_62 (fun _ h9 => h9) rfl d_C_seal_56 ?_
            refine lv_iload_n hx hb d_C_seal_59 rfl (lv_at hl 1 rfl) ?_
            refine rl_iald (r := 6) (i := p0) hx hb hK hP (RC_f (by decide)) 0 gC_6 rfl (vp_in_iff.mpr (by ((try simp only [b2i_eq0, Classical.not_not] at c_3 c_6 c_9 c_12 c_13); simp only [i32_eq, i32_lt, i32_le, i32_nm1, i32_n0, i32_n1, i32_n2, i32_n3, i32_n4, i32_n5, i32_n6, i32_n7, i32_n8, i32_n9, i32_n10, i32_n20, i32_n30, i32_n31, i32_n39, i32_n40, i32_n49, i32_n50, i32_n100, i32_n160, i32_n1000, i32_n100000, i32_n1000000] at c_3 c_6 c_9 c_12 c_13 ⊢; omega))) d_C_seal_60 ?_
            refine lv_iconst (v := (-1)) hx hb d_C_seal_61 (by decide) ?_
            refine lv_icmp_ne (tgt := 92) hx hb d_C_seal_62 (by decide) (fun c_14 => ?_) (fun c_14 => ?_)
            · refine lv_iconst (v := 0) hx hb d_C_seal_92 (by decide) ?_
              refine W.widen (k := 1) (n := 6) (Nat.zero_le _) (Nat.zero_le _) (vx_ret ?_)
              exact W.iret (v := 0) hx hb hr (fun t ht hW => ⟨⟨0, σ, rfl, ⟨by ((try simp only [b2i_eq0, Classical.not_not] at c_3 c_6 c_9 c_12 c_13 c_14); grind), Or.inr ⟨by ((try simp only [b2i_eq0, Classical.not_not] at c_3 c_6 c_9 c_12 c_13 c_14); grind), rfl, rfl⟩⟩, by rw [ht]; exact hP, va_K.moved hW.alike hK, hD⟩, hS.F ht⟩) hS.2.2 d_C_seal_93
            · refine lv_aload_n hx hb d_C_seal_65 rfl (lv_at hl 0 rfl) ?_
              refine lv_iload_n hx hb d_C_seal_66 rfl (lv_at hl 1 rfl) ?_
              refine vp_callSi (W.runV (As := [.int p0]) (rest := []) ⟨hx, hb, hml, hown, hts⟩ (c_C_isBeingOpened l D cs ad σ n nm ci cj E hI p0) (cwV 1 hts (gw_V kw_446 kw_448 ks_0_11 kw_1 kw_449) rfl rfl rfl (by decide +kernel) ⟨Nat.le_of_ble_eq_true rfl, Nat.le_of_ble_eq_true rfl⟩) (rd_V hP hK (rl_recv hK hP (RC_f (by decide)) gC_0 rfl)) rfl rfl hl.1 rfl (lv_room (Nat.le_of_ble_eq_true rfl)) d_C_seal_67 ⟨Nat.zero_le _, Nat.zero_le _⟩) (fun r_15 h_16 => ?_)
              subst h_16
              refine lv_if_ne (tgt := 92) hx hb d_C_seal_70 (by decide) (fun c_17 => ?_) (fun c_17 => ?_)
              · refine lv_iconst (v := 0) hx hb d_C_seal_92 (by decide) ?_
                refine W.widen (k := 1) (n := 6) (Nat.zero_le _) (Nat.zero_le _) (vx_ret ?_)
                exact W.iret (v := 0) hx hb hr (fun t ht hW => ⟨⟨0, σ, rfl, ⟨by ((try simp only [b2i_eq0, Classical.not_not] at c_3 c_6 c_9 c_12 c_13 c_14 c_17); grind), Or.inr ⟨by ((try simp only [b2i_eq0, Classical.not_not] at c_3 c_6 c_9 c_12 c_13 c_14 c_17); grind), rfl, rfl⟩⟩, by rw [ht]; exact hP, va_K.moved hW.alike hK, hD⟩, hS.F ht⟩) hS.2.2 d_C_seal_93
              · refine lv_aload_n hx hb d_C_seal_73 rfl (lv_at hl 0 rfl) ?_
                refine lv_iload_n hx hb d_C_seal_74 rfl (lv_at hl 3 rfl) ?_
                refine lv_iconst (v := 5) hx hb d_C_seal_75 (by decide) ?_
                refine vp_callSi (W.runV (As := [.int p2, .int 5]) (rest := []) ⟨hx, hb, hml, hown, hts⟩ (c_C_mayDo l D cs ad σ n nm ci cj E hI p2 5) (cwV 2 hts (gw_V kw_101 kw_103 ks_0_0 kw_1 kw_104) rfl rfl rfl (by decide +kernel) ⟨Nat.le_of_ble_eq_true rfl, Nat.le_of_ble_eq_true rfl⟩) (rd_V hP hK (rl_recv hK hP (RC_f (by decide)) gC_0 rfl)) rfl rfl hl.1 rfl (lv_room (Nat.le_of_ble_eq_true rfl)) d_C_seal_76 ⟨Nat.zero_le _, Nat.zero_le _⟩) (fun r_18 h_19 => ?_)
                subst h_19
                refine lv_if_eq (tgt := 92) hx hb d_C_seal_79 (by decide) (fun c_20 => ?_) (fun c_20 => ?_)
                · refine lv_iconst (v := 0) hx hb d_C_seal_92 (by decide) ?_
                  refine W.widen (k := 1) (n := 6) (Nat.zero_le _) (Nat.zero_le _) (vx_ret ?_)
                  exact W.iret (v := 0) hx hb hr (fun t ht hW => ⟨⟨0, σ, rfl, ⟨by ((try simp only [b2i_eq0, Classical.not_not] at c_3 c_6 c_9 c_12 c_13 c_14 c_17 c_20); grind), Or.inr ⟨by ((try simp only [b2i_eq0, Classical.not_not] at c_3 c_6 c_9 c_12 c_13 c_14 c_17 c_20); grind), rfl, rfl⟩⟩, by rw [ht]; exact hP, va_K.moved hW.alike hK, hD⟩, hS.F ht⟩) hS.2.2 d_C_seal_93
                · refine lv_aload_n hx hb d_C_seal_82 rfl (lv_at hl 0 rfl) ?_
                  refine lv_iload hx hb d_C_seal_83 (lv_at hl 4 rfl) ?_
                  refine lv_iconst (v := 5) hx hb d_C_seal_85 (by decide) ?_
                  refine vp_callSi (W.runV (As := [.int p3, .int 5]) (rest := []) ⟨hx, hb, hml, hown, hts⟩ (c_C_mayDo l D cs ad σ n nm ci cj E hI p3 5) (cwV 2 hts (gw_V kw_101 kw_103 ks_0_0 kw_1 kw_104) rfl rfl rfl (by decide +kernel) ⟨Nat.le_of_ble_eq_true rfl, Nat.le_of_ble_eq_true rfl⟩) (rd_V hP hK (rl_recv hK hP (RC_f (by decide)) gC_0 rfl)) rfl rfl hl.1 rfl (lv_room (Nat.le_of_ble_eq_true rfl)) d_C_seal_86 ⟨Nat.zero_le _, Nat.zero_le _⟩) (fun r_21 h_22 => ?_)
                  subst h_22
                  refine lv_if_ne (tgt := 94) hx hb d_C_seal_89 (by decide) (fun c_23 => ?_) (fun c_23 => ?_)
                  · refine lv_aload_n hx hb d_C_seal_94 rfl (lv_at hl 0 rfl) ?_
                    refine rl_get (r := 0) (ci := 1) (v := .ref (ad 6)) (C := R_C) (T := F_C) (N := 10) hx hb hG in_C hown hK hP (RC_f (by decide)) gC_0 rfl 3 (by decide) kw_62 (fun _ h9 => h9) rfl d_C_seal_95 ?_
                    refine lv_iload_n hx hb d_C_seal_98 rfl (lv_at hl 1 rfl) ?_
                    refine lv_iload_n hx hb d_C_seal_99 rfl (lv_at hl 2 rfl) ?_
                    refine rl_iast (r := 6) (i := p0) (x := p1) hx hb hK hP hD hS (RC_f (by decide)) 0 gC_6 rfl (vp_in_iff.mpr (by ((try simp only [b2i_eq0, Classical.not_not] at c_3 c_6 c_9 c_12 c_13 c_14 c_17 c_20 c_23); simp only [i32_eq, i32_lt, i32_le, i32_nm1, i32_n0, i32_n1, i32_n2, i32_n3, i32_n4, i32_n5, i32_n6, i32_n7, i32_n8, i32_n9, i32_n10, i32_n20, i32_n30, i32_n31, i32_n39, i32_n40, i32_n49, i32_n50, i32_n100, i32_n160, i32_n1000, i32_n100000, i32_n1000000] at c_3 c_6 c_9 c_12 c_13 c_14 c_17 c_20 c_23 ⊢; omega))) d_C_seal_100 (fun H locs hP hD hS => ?_)
                    rw [wC_arr (k := 2) (hn_ hI) (hm_ hI) (by decide)] at hP hD
                    refine lv_iconst (v := 1) hx hb d_C_seal_101 (by decide) ?_
                    refine W.widen (k := 1) (n := 6) (Nat.zero_le _) (Nat.zero_le _) (vx_ret ?_)
                    exact W.iret (v := 1) hx hb hr (fun t ht hW => ⟨⟨1, su σ 2 p0.toNatClampNeg p1, rfl, ⟨by ((try simp only [b2i_eq0, Classical.not_not] at c_3 c_6 c_9 c_12 c_13 c_14 c_17 c_20 c_23); grind), Or.inl ⟨by ((try simp only [b2i_eq0, Classical.not_not] at c_3 c_6 c_9 c_12 c_13 c_14 c_17 c_20 c_23); grind), rfl, rfl⟩⟩, by rw [ht]; exact hP, va_K.moved hW.alike hK, hD⟩, hS.F ht⟩) hS.2.2 d_C_seal_102
                  · refine lv_iconst (v := 0) hx hb d_C_seal_92 (by decide) ?_
                    refine W.widen (k := 1) (n := 6) (Nat.zero_le _) (Nat.zero_le _) (vx_ret ?_)
                    exact W.iret (v := 0) hx hb hr (fun t ht hW => ⟨⟨0, σ, rfl, ⟨by ((try simp only [b2i_eq0, Classical.not_not] at c_3 c_6 c_9 c_12 c_13 c_14 c_17 c_20 c_23); grind), Or.inr ⟨by ((try simp only [b2i_eq0, Classical.not_not] at c_3 c_6 c_9 c_12 c_13 c_14 c_17 c_20 c_23); grind), rfl, rfl⟩⟩, by rw [ht]; exact hP, va_K.moved hW.alike hK, hD⟩, hS.F ht⟩) hS.2.2 d_C_seal_93
          · exact vx_throwS (own := "InspectSteps") (cls := xe_A) (text := "no such seal, or one person alone") (names := xe_up) (ik := 68) (is := 147) (ic := 72) (A := A) hx hb hst hown (by decide) (by decide) (hG _ kw_192) (hG _ kw_10) (hX.2 (147, "no such seal, or one person alone") (by decide)).choose_spec (xa_A hG hX) xa_A3 hZ.1 hZ.2 hS (hl.1.trans hml.symm) d_C_seal_45 d_C_seal_48 d_C_seal_49 d_C_seal_51 d_C_seal_54 (fun x h => (hnt x h).elim) (Nat.le_of_ble_eq_true rfl) (Nat.le_of_ble_eq_true rfl) (Nat.le_of_ble_eq_true rfl) (Nat.le_of_ble_eq_true rfl) hlocks (fun t ha hz hk => ⟨(), (by ((try simp only [b2i_eq0, Classical.not_not] at c_3 c_6 c_9 c_12 c_13); grind)), ⟨rfl, (thr_T hS hP hK hD ha hz hk).1⟩, (thr_T hS hP hK hD ha hz hk).2⟩) hS.2.2 (Nat.le_of_ble_eq_true rfl) (Nat.le_of_ble_eq_true rfl)
      · exact vx_throwS (own := "InspectSteps") (cls := xe_A) (text := "no such declaration or people") (names := xe_up) (ik := 68) (is := 142) (ic := 72) (A := A) hx hb hst hown (by decide) (by decide) (hG _ kw_192) (hG _ kw_10) (hX.2 (142, "no such declaration or people") (by decide)).choose_spec (xa_A hG hX) xa_A3 hZ.1 hZ.2 hS (hl.1.trans hml.symm) d_C_seal_22 d_C_seal_25 d_C_seal_26 d_C_seal_28 d_C_seal_31 (fun x h => (hnt x h).elim) (Nat.le_of_ble_eq_true rfl) (Nat.le_of_ble_eq_true rfl) (Nat.le_of_ble_eq_true rfl) (Nat.le_of_ble_eq_true rfl) hlocks (fun t ha hz hk => ⟨(), (by ((try simp only [b2i_eq0, Classical.not_not] at c_3 c_6 c_9); grind)), ⟨rfl, (thr_T hS hP hK hD ha hz hk).1⟩, (thr_T hS hP hK hD ha hz hk).2⟩) hS.2.2 (Nat.le_of_ble_eq_true rfl) (Nat.le_of_ble_eq_true rfl)
set_option maxHeartbeats 4000000 in
set_option maxRecDepth 100000 in
theorem c_C_begin (l : Launch) (D : va_G) (cs : Nat → ClassId) (ad : Nat → Nat) (σ : Nat → Nat → Int32) (n nm ci cj E : Nat) (hI : Iv n nm ci cj) (hJ : Jv σ n nm) (hst : l.stackTraces = false) (sz : Nat) (p0 p1 : Int32) : vx_Met l y_C_begin (Cond.code y_C_begin b_C_begin 4 (some .int) :: GW) ({ frames := 8, cells := 1, slots := 6, locals := 256 }) (va_Pc [.ref (ad 0), .int p0, .int p1] (xr_B D cs (wC cs ad σ n nm ci cj E) sz)) (va_Qi (fun r (u : Nat → Nat → Int32) => ∃ i, i < n ∧ p0 = nI i ∧ (0 ≤ p1 ∧ p1 ≤ 9) ∧ ((((σ 23 i = 1 ∧ σ 26 i ≤ σ 0 0 ∧ σ 0 0 ≤ σ 27 i) ∧ (0 ≤ p1 ∧ p1 ≤ 9) ∧ σ 1 p1.toNatClampNeg >>> (σ 21 i &&& 31) &&& 1 = 1) ∧ r = 1 ∧ ((3 ≤ σ 21 i ∧ u = su (su (su (su σ 23 i 2) 28 i p1) 4 (σ 20 i).toNatClampNeg (σ 4 (σ 20 i).toNatClampNeg + 100 * (σ 21 i + 1))) 2 (σ 20 i).toNatClampNeg (-1)) ∨ (¬ 3 ≤ σ 21 i ∧ u = su (su (su σ 23 i 2) 28 i p1) 4 (σ 20 i).toNatClampNeg (σ 4 (σ 20 i).toNatClampNeg + 100 * (σ 21 i + 1))))) ∨ (¬ ((σ 23 i = 1 ∧ σ 26 i ≤ σ 0 0 ∧ σ 0 0 ≤ σ 27 i) ∧ (0 ≤ p1 ∧ p1 ≤ 9) ∧ σ 1 p1.toNatClampNeg >>> (σ 21 i &&& 31) &&& 1 = 1) ∧ r = 0 ∧ u = σ))) (fun u => wr_T D cs (wC cs ad u n nm ci cj E) (va_A (wC cs ad σ n nm ci cj E) sz)) (va_A (wC cs ad σ n nm ci cj E) sz)) (vx_X (fun _ : Unit => ¬ ((∃ i, i < n ∧ p0 = nI i) ∧ (0 ≤ p1 ∧ p1 ≤ 9))) (fun E9 _ t => E9 = xe_A ∧ wr_T D cs (wC cs ad σ n nm ci cj E) (va_A (wC cs ad σ n nm ci cj E) sz) t) (va_A (wC cs ad σ n nm ci cj E) sz)) 1 6 (va_A (wC cs ad σ n nm ci cj E) sz) := by
  refine vx_ofW (cc := b_C_begin) (maxL := 4) (ret := (some .int)) (by decide) rfl ?_
  intro p e s m args below meth c s₁ B hml hnt hv
  obtain ⟨rfl, ⟨hsz, hP, hK, hD0⟩, hX, hZ⟩ := hv
  have hx := B.exec
  have hb := B.bytes
  have hr := B.returns
  have hts := atoms_spec (ws := Cond.code y_C_begin b_C_begin 4 (some .int) :: GW) B.pre
  have hG : ∀ w ∈ GW, w.before _ s = true := fun w h => hts w (List.mem_cons_of_mem _ h)
  have hown : s.vm.findClass R_C = some m.cls := findClass_of_methodNamed B.named
  have hlocks := B.notSynchronized
  subst hsz
  have hD := hD0.self (sz := s.heap.size)
  generalize hAe : va_A (wC cs ad σ n nm ci cj E) s.heap.size = A at hD hZ ⊢
  have hA : ∀ q : Nat, s.heap.size ≤ q → A q := fun q h => by rw [← hAe]; exact Or.inr h
  have hS : va_S A s.heap s.heap [] := va_S.rf
  have hl := lv_entry ([.ref (ad 0), .int p0, .int p1]) (n := 4) (Nat.le_of_ble_eq_true rfl)
  rw [lg_entry_eq]
  generalize (lg_sl ([.ref (ad 0), .int p0, .int p1]) ++ List.replicate (4 - (lg_sl ([.ref (ad 0), .int p0, .int p1])).length) Slot.unset).toArray = ls at hl ⊢
  have hl : lv_has ls 4 [(0, .ref (ad 0)), (1, .int p0), (2, .int p1)] := hl
  refine lv_aload_n hx hb d_C_begin_0 rfl (lv_at hl 0 rfl) ?_
  refine lv_iload_n hx hb d_C_begin_1 rfl (lv_at hl 1 rfl) ?_
  refine vp_callSi (W.runV (As := [.int p0]) (rest := []) ⟨hx, hb, hml, hown, hts⟩ (c_C_isInspection l D cs ad σ n nm ci cj E hI p0) (cwV 1 hts (gw_V kw_112 kw_114 ks_0_1 kw_1 kw_115) rfl rfl rfl (by decide +kernel) ⟨Nat.le_of_ble_eq_true rfl, Nat.le_of_ble_eq_true rfl⟩) (rd_V hP hK (rl_recv hK hP (RC_f (by decide)) gC_0 rfl)) rfl rfl hl.1 rfl (lv_room (Nat.le_of_ble_eq_true rfl)) d_C_begin_2 ⟨Nat.zero_le _, Nat.zero_le _⟩) (fun r_1 h_2 => ?_)
  subst h_2
  refine lv_if_eq (tgt := 15) hx hb d_C_begin_5 (by decide) (fun c_3 => ?_) (fun c_3 => ?_)
  · exact vx_throwS (own := "InspectSteps") (cls := xe_A) (text := "no such inspection or person") (names := xe_up) (ik := 68) (is := 119) (ic := 72) (A := A) hx hb hst hown (by decide) (by decide) (hG _ kw_192) (hG _ kw_10) (hX.2 (119, "no such inspection or person") (by decide)).choose_spec (xa_A hG hX) xa_A3 hZ.1 hZ.2 hS (hl.1.trans hml.symm) d_C_begin_15 d_C_begin_18 d_C_begin_19 d_C_begin_21 d_C_begin_24 (fun x h => (hnt x h).elim) (Nat.le_of_ble_eq_true rfl) (Nat.le_of_ble_eq_true rfl) (Nat.le_of_ble_eq_true rfl) (Nat.le_of_ble_eq_true rfl) hlocks (fun t ha hz hk => ⟨(), fun ⟨⟨j, hj, e9⟩, _⟩ => (b2i_eq0.mp c_3) (e9 ▸ at_not (by have := hI; unfold Iv at this; omega) hj), ⟨rfl, (thr_T hS hP hK hD ha hz hk).1⟩, (thr_T hS hP hK hD ha hz hk).2⟩) hS.2.2 (Nat.le_of_ble_eq_true rfl) (Nat.le_of_ble_eq_true rfl)
  · obtain ⟨i, hi, rfl⟩ := at_ (by have := hI; unfold Iv at this; omega) (Classical.not_not.mp (fun h => c_3 (b2i_eq0.mpr h)))
    refine lv_iload_n hx hb d_C_begin_8 rfl (lv_at hl 2 rfl) ?_
    refine vp_callSi (W.runS (As := [.int p1]) (rest := []) ⟨hx, hb, hml, hown, hts⟩ (c_C_isPerson l p1) (va_cwS 1 hts (gw_S kw_95 kw_96 kw_1 kw_97) rfl rfl rfl (by decide +kernel) ⟨Nat.le_of_ble_eq_true rfl, Nat.le_of_ble_eq_true rfl⟩) ⟨fun _ _ _ _ q => q, fun U _ _ => ⟨rfl, trivial⟩⟩ rfl rfl hl.1 rfl (lv_room (Nat.le_of_ble_eq_true rfl)) d_C_begin_9 ⟨Nat.zero_le _, Nat.zero_le _⟩) (fun r_4 h_5 => ?_)
    subst h_5
    refine lv_if_ne (tgt := 25) hx hb d_C_begin_12 (by decide) (fun c_6 => ?_) (fun c_6 => ?_)
    · refine lv_aload_n hx hb d_C_begin_25 rfl (lv_at hl 0 rfl) ?_
      refine rl_get (r := 0) (ci := 1) (v := .ref (ad 1)) (C := R_C) (T := F_C) (N := 10) hx hb hG in_C hown hK hP (RC_f (by decide)) gC_0 rfl 0 (by decide) kw_59 (fun _ h9 => h9) rfl d_C_begin_26 ?_
      refine lv_iload_n hx hb d_C_begin_29 rfl (lv_at hl 1 rfl) ?_
      refine va_csr (W.runV (As := [.int (nI i)]) (rest := []) ⟨hx, hb, hml, hown, hts⟩ (c_Al_get l D (tys_ cs) (ad 1) (ad 3) n ci i (ad (100 + i)) (σ 7 0) (cs 2) (rowsF 100 n ad) hi hI.2.2.1 (by have := hI; unfold Iv at this; omega) 2 rfl (if_pos hi)) (cwV 1 hts (gw_V kw_120 kw_121 kw_122 kw_4 kw_123) rfl rfl rfl (by decide +kernel) ⟨Nat.le_of_ble_eq_true rfl, Nat.le_of_ble_eq_true rfl⟩) (rd_V (rl_two hP (RC_f (by decide)) (gC_1 (Nat.lt_of_le_of_lt (Nat.zero_le _) hi)) (RC_3 (Nat.lt_of_le_of_lt (Nat.zero_le _) hi)) gC_3) hK (rl_recv hK hP (RC_f (by decide)) (gC_1 (Nat.lt_of_le_of_lt (Nat.zero_le _) hi)) rfl)) rfl rfl hl.1 rfl (lv_room (Nat.le_of_ble_eq_true rfl)) d_C_begin_30 ⟨Nat.zero_le _, Nat.zero_le _⟩) (fun r_7 h_8 => ?_)
      subst h_8
      refine va_castS hx hb hown (hG _ kw_134) ((hK.1 2 _ rfl).2) (rl_recv hK hP (RC_ins hi) (gC_ins (by have := hI; unfold Iv at this; omega)) rfl) d_C_begin_33 ?_
      refine lv_astore_n (lv' := [(3, .ref (ad (100 + i))), (0, .ref (ad 0)), (1, .int (nI i)), (2, .int p1)]) hx hb d_C_begin_36 rfl hl (by decide) rfl (fun ls hl => ?_)
      refine lv_aload_n hx hb d_C_begin_37 rfl (lv_at hl 0 rfl) ?_
      refine lv_aload_n hx hb d_C_begin_38 rfl (lv_at hl 1 rfl) ?_
      refine rl_get (r := 0) (ci := 1) (v := .int (σ 0 0)) (C := R_C) (T := F_C) (N := 10) hx hb hG in_C hown hK hP (RC_f (by decide)) gC_0 rfl 9 (by decide) kw_68 (fun _ h9 => h9) rfl d_C_begin_39 ?_
      refine vp_callSi (W.runV (As := [.int (σ 0 0)]) (rest := []) ⟨hx, hb, hml, hown, hts⟩ (c_I_canBeBegunAt l D (tys_ cs) (ad (100 + i)) (σ 20 i) (σ 21 i) (σ 22 i) (σ 23 i) (σ 24 i) (σ 25 i) (σ 26 i) (σ 27 i) (σ 28 i) (σ 29 i) (σ 0 0)) (cwV 1 hts (gw_V kw_419 kw_420 kw_421 kw_12 kw_422) rfl rfl rfl (by decide +kernel) ⟨Nat.le_of_ble_eq_true rfl, Nat.le_of_ble_eq_true rfl⟩) (rd_V (rl_one hP (RC_ins hi) (gC_ins (by have := hI; unfold Iv at this; omega))) hK (rl_recv hK hP (RC_ins hi) (gC_ins (by have := hI; unfold Iv at this; omega)) rfl)) rfl rfl hl.1 rfl (lv_room (Nat.le_of_ble_eq_true rfl)) d_C_begin_42 ⟨Nat.zero_le _, Nat.zero_le _⟩) (fun r_9 h_10 => ?_)
      subst h_10
      refine lv_if_eq (tgt := 60) hx hb d_C_begin_45 (by decide) (fun c_11 => ?_) (fun c_11 => ?_)
      · refine lv_iconst (v := 0) hx hb d_C_begin_60 (by decide) ?_
        refine W.widen (k := 1) (n := 6) (Nat.zero_le _) (Nat.zero_le _) (vx_ret ?_)
        exact W.iret (v := 0) hx hb hr (fun t ht hW => ⟨⟨0, σ, rfl, ⟨i, hi, rfl, Classical.not_not.mp (fun h => c_6 (b2i_eq0.mpr h)), Or.inr ⟨by ((try simp only [b2i_eq0, Classical.not_not] at c_6 c_11); grind), rfl, rfl⟩⟩, by rw [ht]; exact hP, va_K.moved hW.alike hK, hD⟩, hS.F ht⟩) hS.2.2 d_C_begin_61
      · refine lv_aload_n hx hb d_C_begin_48 rfl (lv_at hl 1 rfl) ?_
        refine lv_iload_n hx hb d_C_begin_49 rfl (lv_at hl 3 rfl) ?_
        refine lv_aload_n hx hb d_C_begin_50 rfl (lv_at hl 0 rfl) ?_
        refine rl_get (r := 100 + i) (ci := 2) (v := .int (σ 21 i)) (C := R_I) (T := F_I) (N := 10) hx hb hG in_I hown hK hP (RC_ins hi) (gC_ins (by have := hI; unfold Iv at this; omega)) rfl 1 (by decide) kw_290 (fun _ h9 => h9) rfl d_C_begin_51 ?_
        refine vp_callSi (W.runV (As := [.int p1, .int (σ 21 i)]) (rest := []) ⟨hx, hb, hml, hown, hts⟩ (c_C_mayDo l D cs ad σ n nm ci cj E hI p1 (σ 21 i)) (cwV 2 hts (gw_V kw_101 kw_103 ks_0_0 kw_1 kw_104) rfl rfl rfl (by decide +kernel) ⟨Nat.le_of_ble_eq_true rfl, Nat.le_of_ble_eq_true rfl⟩) (rd_V hP hK (rl_recv hK hP (RC_f (by decide)) gC_0 rfl)) rfl rfl hl.1 rfl (lv_room (Nat.le_of_ble_eq_true rfl)) d_C_begin_54 ⟨Nat.zero_le _, Nat.zero_le _⟩) (fun r_12 h_13 => ?_)
        subst h_13
        refine lv_if_ne (tgt := 62) hx hb d_C_begin_57 (by decide) (fun c_14 => ?_) (fun c_14 => ?_)
        · refine lv_aload_n hx hb d_C_begin_62 rfl (lv_at hl 0 rfl) ?_
          refine lv_iconst (v := 2) hx hb d_C_begin_63 (by decide) ?_
          refine rl_put (r := 100 + i) (ci := 2) (v := .int 2) (ty := .int) (C := R_I) (T := F_I) (N := 10) hx hb hG in_I T_I T_I_ok n_I hown hK hP hD hS (RC_ins hi) (gC_ins (by have := hI; unfold Iv at this; omega)) rfl 3 (by decide) kw_293 (fun _ h9 => h9) rfl (by decide +kernel) rfl rfl (Nat.le_of_ble_eq_true rfl) d_C_begin_64 (fun H locs hP hD hS => ?_)
          rw [wC_ins (f := 3) (hn_ hI) (hm_ hI) (by have := hI; unfold Iv at this; omega) (by decide)] at hP hD
          refine lv_aload_n hx hb d_C_begin_67 rfl (lv_at hl 0 rfl) ?_
          refine lv_iload_n hx hb d_C_begin_68 rfl (lv_at hl 3 rfl) ?_
          refine rl_put (r := 100 + i) (ci := 2) (v := .int p1) (ty := .int) (C := R_I) (T := F_I) (N := 10) hx hb hG in_I T_I T_I_ok n_I hown hK hP hD hS (RC_ins hi) (gC_ins (by have := hI; unfold Iv at this; omega)) rfl 8 (by decide) kw_303 (fun _ h9 => h9) rfl (by decide +kernel) rfl rfl (Nat.le_of_ble_eq_true rfl) d_C_begin_69 (fun H locs hP hD hS => ?_)
          rw [wC_ins (f := 8) (hn_ hI) (hm_ hI) (by have := hI; unfold Iv at this; omega) (by decide)] at hP hD
          refine lv_aload_n hx hb d_C_begin_72 rfl (lv_at hl 1 rfl) ?_
          refine rl_get (r := 0) (ci := 1) (v := .ref (ad 8)) (C := R_C) (T := F_C) (N := 10) hx hb hG in_C hown hK hP (RC_f (by decide)) gC_0 rfl 5 (by decide) kw_64 (fun _ h9 => h9) rfl d_C_begin_73 ?_
          refine lv_aload_n hx hb d_C_begin_76 rfl (lv_at hl 0 rfl) ?_
          refine rl_get (r := 100 + i) (ci := 2) (v := .int (σ 20 i)) (C := R_I) (T := F_I) (N := 10) hx hb hG in_I hown hK hP (RC_ins hi) (gC_ins (by have := hI; unfold Iv at this; omega)) rfl 0 (by decide) kw_288 (fun _ h9 => h9) rfl d_C_begin_77 ?_
          refine lv_dup2_11 hx hb d_C_begin_80 rfl rfl ?_
          refine rl_iald (r := 8) (i := σ 20 i) hx hb hK hP (RC_f (by decide)) 0 gC_8 rfl (hJ.1 i hi).1 d_C_begin_81 ?_
          refine lv_bipush (v := 100) hx hb d_C_begin_82 (by decide) ?_
          refine lv_aload_n hx hb d_C_begin_84 rfl (lv_at hl 0 rfl) ?_
          refine rl_get (r := 100 + i) (ci := 2) (v := .int (σ 21 i)) (C := R_I) (T := F_I) (N := 10) hx hb hG in_I hown hK hP (RC_ins hi) (gC_ins (by have := hI; unfold Iv at this; omega)) rfl 1 (by decide) kw_290 (fun _ h9 => h9) rfl d_C_begin_85 ?_
          refine lv_iconst (v := 1) hx hb d_C_begin_88 (by decide) ?_
          refine lv_iadd hx hb d_C_begin_89 ?_
          refine lv_imul hx hb d_C_begin_90 ?_
          refine lv_iadd hx hb d_C_begin_91 ?_
          refine rl_iast (r := 8) (i := σ 20 i) (x := (σ 4 ((σ 20 i).toNatClampNeg)) + (100 * ((σ 21 i) + 1))) hx hb hK hP hD hS (RC_f (by decide)) 0 gC_8 rfl (hJ.1 i hi).1 d_C_begin_92 (fun H locs hP hD hS => ?_)
          rw [wC_arr (k := 4) (hn_ hI) (hm_ hI) (by decide)] at hP hD
          refine lv_aload_n hx hb d_C_begin_93 rfl (lv_at hl 0 rfl) ?_
          refine vp_callSi (W.runV (As := []) (rest := []) ⟨hx, hb, hml, hown, hts⟩ (c_I_isOpening l D (tys_ cs) (ad (100 + i)) (σ 20 i) (σ 21 i) (σ 22 i) ((su σ 23 i 2) 23 i) (σ 24 i) (σ 25 i) (σ 26 i) (σ 27 i) ((su (su σ 23 i 2) 28 i p1) 28 i) (σ 29 i)) (cwV 0 hts (gw_V kw_423 kw_424 kw_425 kw_12 kw_426) rfl rfl rfl (by decide +kernel) ⟨Nat.le_of_ble_eq_true rfl, Nat.le_of_ble_eq_true rfl⟩) (rd_V (rl_one hP (RC_ins hi) (gC_ins (by have := hI; unfold Iv at this; omega))) hK (rl_recv hK hP (RC_ins hi) (gC_ins (by have := hI; unfold Iv at this; omega)) rfl)) rfl rfl hl.1 rfl (lv_room (Nat.le_of_ble_eq_true rfl)) d_C_begin_94 ⟨Nat.zero_le _, Nat.zero_le _⟩) (fun r_15 h_16 => ?_)
          subst h_16
          refine lv_if_eq (tgt := 110) hx hb d_C_begin_97 (by decide) (fun c_17 => ?_) (fun c_17 => ?_)
          · refine lv_iconst (v := 1) hx hb d_C_begin_110 (by decide) ?_
            refine W.widen (k := 1) (n := 6) (Nat.zero_le _) (Nat.zero_le _) (vx_ret ?_)
            exact W.iret (v := 1) hx hb hr (fun t ht hW => ⟨⟨1, su (su (su σ 23 i 2) 28 i p1) 4 ((σ 20 i).toNatClampNeg) ((σ 4 ((σ 20 i).toNatClampNeg)) + (100 * ((σ 21 i) + 1))), rfl, ⟨i, hi, rfl, Classical.not_not.mp (fun h => c_6 (b2i_eq0.mpr h)), Or.inl ⟨by ((try simp only [b2i_eq0, Classical.not_not] at c_6 c_11 c_14 c_17); grind), rfl, Or.inr ⟨by ((try simp only [b2i_eq0, Classical.not_not] at c_6 c_11 c_14 c_17); grind), rfl⟩⟩⟩, by rw [ht]; exact hP, va_K.moved hW.alike hK, hD⟩, hS.F ht⟩) hS.2.2 d_C_begin_111
          · refine lv_aload_n hx hb d_C_begin_100 rfl (lv_at hl 1 rfl) ?_
            refine rl_get (r := 0) (ci := 1) (v := .ref (ad 6)) (C := R_C) (T := F_C) (N := 10) hx hb hG in_C hown hK hP (RC_f (by decide)) gC_0 rfl 3 (by decide) kw_62 (fun _ h9 => h9) rfl d_C_begin_101 ?_
            refine lv_aload_n hx hb d_C_begin_104 rfl (lv_at hl 0 rfl) ?_
            refine rl_get (r := 100 + i) (ci := 2) (v := .int (σ 20 i)) (C := R_I) (T := F_I) (N := 10) hx hb hG in_I hown hK hP (RC_ins hi) (gC_ins (by have := hI; unfold Iv at this; omega)) rfl 0 (by decide) kw_288 (fun _ h9 => h9) rfl d_C_begin_105 ?_
            refine lv_iconst (v := (-1)) hx hb d_C_begin_108 (by decide) ?_
            refine rl_iast (r := 6) (i := σ 20 i) (x := (-1)) hx hb hK hP hD hS (RC_f (by decide)) 0 gC_6 rfl (hJ.1 i hi).1 d_C_begin_109 (fun H locs hP hD hS => ?_)
            rw [wC_arr (k := 2) (hn_ hI) (hm_ hI) (by decide)] at hP hD
            refine lv_iconst (v := 1) hx hb d_C_begin_110 (by decide) ?_
            refine W.widen (k := 1) (n := 6) (Nat.zero_le _) (Nat.zero_le _) (vx_ret ?_)
            exact W.iret (v := 1) hx hb hr (fun t ht hW => ⟨⟨1, su (su (su (su σ 23 i 2) 28 i p1) 4 ((σ 20 i).toNatClampNeg) ((σ 4 ((σ 20 i).toNatClampNeg)) + (100 * ((σ 21 i) + 1)))) 2 ((σ 20 i).toNatClampNeg) (-1), rfl, ⟨i, hi, rfl, Classical.not_not.mp (fun h => c_6 (b2i_eq0.mpr h)), Or.inl ⟨by ((try simp only [b2i_eq0, Classical.not_not] at c_6 c_11 c_14 c_17); grind), rfl, Or.inl ⟨by ((try simp only [b2i_eq0, Classical.not_not] at c_6 c_11 c_14 c_17); grind), rfl⟩⟩⟩, by rw [ht]; exact hP, va_K.moved hW.alike hK, hD⟩, hS.F ht⟩) hS.2.2 d_C_begin_111
        · refine lv_iconst (v := 0) hx hb d_C_begin_60 (by decide) ?_
          refine W.widen (k := 1) (n := 6) (Nat.zero_le _) (Nat.zero_le _) (vx_ret ?_)
          exact W.iret (v := 0) hx hb hr (fun t ht hW => ⟨⟨0, σ, rfl, ⟨i, hi, rfl, Classical.not_not.mp (fun h => c_6 (b2i_eq0.mpr h)), Or.inr ⟨by ((try simp only [b2i_eq0, Classical.not_not] at c_6 c_11 c_14); grind), rfl, rfl⟩⟩, by rw [ht]; exact hP, va_K.moved hW.alike hK, hD⟩, hS.F ht⟩) hS.2.2 d_C_begin_61
    · exact vx_throwS (own := "InspectSteps") (cls := xe_A) (text := "no such inspection or person") (names := xe_up) (ik := 68) (is := 119) (ic := 72) (A := A) hx hb hst hown (by decide) (by decide) (hG _ kw_192) (hG _ kw_10) (hX.2 (119, "no such inspection or person") (by decide)).choose_spec (xa_A hG hX) xa_A3 hZ.1 hZ.2 hS (hl.1.trans hml.symm) d_C_begin_15 d_C_begin_18 d_C_begin_19 d_C_begin_21 d_C_begin_24 (fun x h => (hnt x h).elim) (Nat.le_of_ble_eq_true rfl) (Nat.le_of_ble_eq_true rfl) (Nat.le_of_ble_eq_true rfl) (Nat.le_of_ble_eq_true rfl) hlocks (fun t ha hz hk => ⟨(), fun h9 => (b2i_eq0.mp c_6) h9.2, ⟨rfl, (thr_T hS hP hK hD ha hz hk).1⟩, (thr_T hS hP hK hD ha hz hk).2⟩) hS.2.2 (Nat.le_of_ble_eq_true rfl) (Nat.le_of_ble_eq_true rfl)
end
section
noncomputable def ifP (P : Prop) (a b : Int32) : Int32 := @ite _ P (Classical.propDecidable P) a b
theorem ifP_t {P : Prop} {a b : Int32} (h : P) : ifP P a b = a := if_pos h
theorem ifP_f {P : Prop} {a b : Int32} (h : ¬ P) : ifP P a b = b := if_neg h
noncomputable def relF (σ : Nat → Nat → Int32) (n nm : Nat) (d : Int32) : Int32 := ifP (∃ j, j < n ∧ σ 20 j = d ∧ ¬ σ 23 j = 3 ∧ ¬ σ 23 j = 5) 1 (ifP (σ 2 d.toNatClampNeg = -1) 2 (ifP (¬ σ 3 d.toNatClampNeg = 0) 3 (ifP (∃ j, j < nm ∧ σ 30 j = d ∧ ¬ ∃ q, q < 4 ∧ ¬ σ (1000 + j) q = -1) 4 (ifP (0 < cntS σ d 0 nm) 5 0))))
noncomputable def lookF (σ : Nat → Nat → Int32) (i : Nat) (w : Int32) : Int32 := if w = 0 then σ 20 i else if w = 1 then σ 21 i else if w = 2 then σ 23 i else if w = 3 then σ 24 i else if w = 4 then ifP (σ 23 i = 1 ∨ σ 23 i = 2) (σ 25 i) (-1) else if w = 5 then ifP (σ 23 i = 1 ∨ σ 23 i = 2) (σ 26 i) (-1) else if w = 6 then ifP (σ 23 i = 1 ∨ σ 23 i = 2) (σ 27 i) (-1) else if w = 7 then σ 28 i else σ 29 i
set_option maxHeartbeats 4000000 in
set_option maxRecDepth 100000 in
theorem c_C_release (l : Launch) (D : va_G) (cs : Nat → ClassId) (ad : Nat → Nat) (σ : Nat → Nat → Int32) (n nm ci cj E : Nat) (hI : Iv n nm ci cj) (hJ : Jv σ n nm) (hst : l.stackTraces = false) (sz : Nat) (p0 : Int32) : vx_Met l y_C_release (Cond.code y_C_release b_C_release 2 (some .int) :: GW) ({ frames := 8, cells := 1, slots := 6, locals := 256 }) (va_Pc [.ref (ad 0), .int p0] (xr_B D cs (wC cs ad σ n nm ci cj E) sz)) (va_Qi (fun r (u : Nat → Nat → Int32) => (0 ≤ p0 ∧ p0 ≤ 9) ∧ r = relF σ n nm p0 ∧ u = σ) (fun u => wr_T D cs (wC cs ad u n nm ci cj E) (va_A (wC cs ad σ n nm ci cj E) sz)) (va_A (wC cs ad σ n nm ci cj E) sz)) (vx_X (fun _ : Unit => ¬ (0 ≤ p0 ∧ p0 ≤ 9)) (fun E9 _ t => E9 = xe_A ∧ wr_T D cs (wC cs ad σ n nm ci cj E) (va_A (wC cs ad σ n nm ci cj E) sz) t) (va_A (wC cs ad σ n nm ci cj E) sz)) 1 6 (va_A (wC cs ad σ n nm ci cj E) sz) := by
  refine vx_ofW (cc := b_C_release) (maxL := 2) (ret := (some .int)) (by decide) rfl ?_
  intro p e s m args below meth c s₁ B hml hnt hv
  obtain ⟨rfl, ⟨hsz, hP, hK, hD0⟩, hX, hZ⟩ := hv
  have hx := B.exec
  have hb := B.bytes
  have hr := B.returns
  have hts := atoms_spec (ws := Cond.code y_C_release b_C_release 2 (some .int) :: GW) B.pre
  have hG : ∀ w ∈ GW, w.before _ s = true := fun w h => hts w (List.mem_cons_of_mem _ h)
  have hown : s.vm.findClass R_C = some m.cls := findClass_of_methodNamed B.named
  have hlocks := B.notSynchronized
  subst hsz
  have hD := hD0.self (sz := s.heap.size)
  generalize hAe : va_A (wC cs ad σ n nm ci cj E) s.heap.size = A at hD hZ ⊢
  have hA : ∀ q : Nat, s.heap.size ≤ q → A q := fun q h => by rw [← hAe]; exact Or.inr h
  have hS : va_S A s.heap s.heap [] := va_S.rf
  have hl := lv_entry ([.ref (ad 0), .int p0]) (n := 2) (Nat.le_of_ble_eq_true rfl)
  rw [lg_entry_eq]
  generalize (lg_sl ([.ref (ad 0), .int p0]) ++ List.replicate (2 - (lg_sl ([.ref (ad 0), .int p0])).length) Slot.unset).toArray = ls at hl ⊢
  have hl : lv_has ls 2 [(0, .ref (ad 0)), (1, .int p0)] := hl
  refine lv_iload_n hx hb d_C_release_0 rfl (lv_at hl 1 rfl) ?_
  refine vp_callSi (W.runS (As := [.int p0]) (rest := []) ⟨hx, hb, hml, hown, hts⟩ (c_C_isDeclaration l p0) (va_cwS 1 hts (gw_S kw_143 kw_144 kw_1 kw_145) rfl rfl rfl (by decide +kernel) ⟨Nat.le_of_ble_eq_true rfl, Nat.le_of_ble_eq_true rfl⟩) ⟨fun _ _ _ _ q => q, fun U _ _ => ⟨rfl, trivial⟩⟩ rfl rfl hl.1 rfl (lv_room (Nat.le_of_ble_eq_true rfl)) d_C_release_1 ⟨Nat.zero_le _, Nat.zero_le _⟩) (fun r_1 h_2 => ?_)
  subst h_2
  refine lv_if_ne (tgt := 17) hx hb d_C_release_4 (by decide) (fun c_3 => ?_) (fun c_3 => ?_)
  · refine lv_aload_n hx hb d_C_release_17 rfl (lv_at hl 0 rfl) ?_
    refine lv_iload_n hx hb d_C_release_18 rfl (lv_at hl 1 rfl) ?_
    refine vp_callSi (W.runV (As := [.int p0]) (rest := []) ⟨hx, hb, hml, hown, hts⟩ (c_C_hasPendingInspection l D cs ad σ n nm ci cj E hI p0) (cwV 1 hts (gw_V kw_536 kw_538 ks_0_14 kw_1 kw_539) rfl rfl rfl (by decide +kernel) ⟨Nat.le_of_ble_eq_true rfl, Nat.le_of_ble_eq_true rfl⟩) (rd_V hP hK (rl_recv hK hP (RC_f (by decide)) gC_0 rfl)) rfl rfl hl.1 rfl (lv_room (Nat.le_of_ble_eq_true rfl)) d_C_release_19 ⟨Nat.zero_le _, Nat.zero_le _⟩) (fun r_4 h_5 => ?_)
    subst h_5
    refine lv_if_eq (tgt := 27) hx hb d_C_release_22 (by decide) (fun c_6 => ?_) (fun c_6 => ?_)
    · refine lv_aload_n hx hb d_C_release_27 rfl (lv_at hl 0 rfl) ?_
      refine rl_get (r := 0) (ci := 1) (v := .ref (ad 6)) (C := R_C) (T := F_C) (N := 10) hx hb hG in_C hown hK hP (RC_f (by decide)) gC_0 rfl 3 (by decide) kw_62 (fun _ h9 => h9) rfl d_C_release_28 ?_
      refine lv_iload_n hx hb d_C_release_31 rfl (lv_at hl 1 rfl) ?_
      refine rl_iald (r := 6) (i := p0) hx hb hK hP (RC_f (by decide)) 0 gC_6 rfl (vp_in_iff.mpr (by ((try simp only [b2i_eq0, Classical.not_not] at c_3 c_6); simp only [i32_eq, i32_lt, i32_le, i32_nm1, i32_n0, i32_n1, i32_n2, i32_n3, i32_n4, i32_n5, i32_n6, i32_n7, i32_n8, i32_n9, i32_n10, i32_n20, i32_n30, i32_n31, i32_n39, i32_n40, i32_n49, i32_n50, i32_n100, i32_n160, i32_n1000, i32_n100000, i32_n1000000] at c_3 c_6 ⊢; omega))) d_C_release_32 ?_
      refine lv_iconst (v := (-1)) hx hb d_C_release_33 (by decide) ?_
      refine lv_icmp_ne (tgt := 39) hx hb d_C_release_34 (by decide) (fun c_7 => ?_) (fun c_7 => ?_)
      · refine lv_aload_n hx hb d_C_release_39 rfl (lv_at hl 0 rfl) ?_
        refine rl_get (r := 0) (ci := 1) (v := .ref (ad 7)) (C := R_C) (T := F_C) (N := 10) hx hb hG in_C hown hK hP (RC_f (by decide)) gC_0 rfl 4 (by decide) kw_63 (fun _ h9 => h9) rfl d_C_release_40 ?_
        refine lv_iload_n hx hb d_C_release_43 rfl (lv_at hl 1 rfl) ?_
        refine rl_iald (r := 7) (i := p0) hx hb hK hP (RC_f (by decide)) 0 gC_7 rfl (vp_in_iff.mpr (by ((try simp only [b2i_eq0, Classical.not_not] at c_3 c_6 c_7); simp only [i32_eq, i32_lt, i32_le, i32_nm1, i32_n0, i32_n1, i32_n2, i32_n3, i32_n4, i32_n5, i32_n6, i32_n7, i32_n8, i32_n9, i32_n10, i32_n20, i32_n30, i32_n31, i32_n39, i32_n40, i32_n49, i32_n50, i32_n100, i32_n160, i32_n1000, i32_n100000, i32_n1000000] at c_3 c_6 c_7 ⊢; omega))) d_C_release_44 ?_
        refine lv_if_eq (tgt := 50) hx hb d_C_release_45 (by decide) (fun c_8 => ?_) (fun c_8 => ?_)
        · refine lv_aload_n hx hb d_C_release_50 rfl (lv_at hl 0 rfl) ?_
          refine lv_iload_n hx hb d_C_release_51 rfl (lv_at hl 1 rfl) ?_
          refine vp_callSi (W.runV (As := [.int p0]) (rest := []) ⟨hx, hb, hml, hown, hts⟩ (c_C_hasSampleWithoutResult l D cs ad σ n nm ci cj E hI p0) (cwV 1 hts (gw_V kw_541 kw_543 ks_0_15 kw_1 kw_544) rfl rfl rfl (by decide +kernel) ⟨Nat.le_of_ble_eq_true rfl, Nat.le_of_ble_eq_true rfl⟩) (rd_V hP hK (rl_recv hK hP (RC_f (by decide)) gC_0 rfl)) rfl rfl hl.1 rfl (lv_room (Nat.le_of_ble_eq_true rfl)) d_C_release_52 ⟨Nat.zero_le _, Nat.zero_le _⟩) (fun r_9 h_10 => ?_)
          subst h_10
          refine lv_if_eq (tgt := 60) hx hb d_C_release_55 (by decide) (fun c_11 => ?_) (fun c_11 => ?_)
          · refine lv_aload_n hx hb d_C_release_60 rfl (lv_at hl 0 rfl) ?_
            refine lv_iload_n hx hb d_C_release_61 rfl (lv_at hl 1 rfl) ?_
            refine lv_iconst (v := 0) hx hb d_C_release_62 (by decide) ?_
            refine vp_callSi (W.runV (As := [.int p0, .int 0]) (rest := []) ⟨hx, hb, hml, hown, hts⟩ (c_C_muchDifferent l D cs ad σ n nm ci cj E hI hJ p0 0) (cwV 2 hts (gw_V kw_169 kw_171 ks_0_3 kw_1 kw_172) rfl rfl rfl (by decide +kernel) ⟨Nat.le_of_ble_eq_true rfl, Nat.le_of_ble_eq_true rfl⟩) (rd_V hP hK (rl_recv hK hP (RC_f (by decide)) gC_0 rfl)) rfl rfl hl.1 rfl (lv_room (Nat.le_of_ble_eq_true rfl)) d_C_release_63 ⟨Nat.zero_le _, Nat.zero_le _⟩) (fun r_12 h_13 => ?_)
            subst h_13
            refine lv_if_le (tgt := 73) hx hb d_C_release_66 (by decide) (fun c_14 => ?_) (fun c_14 => ?_)
            · refine lv_iconst (v := 0) hx hb d_C_release_73 (by decide) ?_
              refine W.widen (k := 1) (n := 6) (Nat.zero_le _) (Nat.zero_le _) (vx_ret ?_)
              exact W.iret (v := 0) hx hb hr (fun t ht hW => ⟨⟨0, σ, rfl, ⟨Classical.not_not.mp (fun h => c_3 (b2i_eq0.mpr h)), by unfold relF; rw [ifP_f (b2i_eq0.mp c_6), ifP_f (by ((try simp only [b2i_eq0, Classical.not_not] at c_7); grind)), ifP_f (by ((try simp only [b2i_eq0, Classical.not_not] at c_8); grind)), ifP_f (b2i_eq0.mp c_11), ifP_f (by ((try simp only [b2i_eq0, Classical.not_not] at c_14); simp only [i32_eq, i32_lt, i32_le, i32_nm1, i32_n0, i32_n1, i32_n2, i32_n3, i32_n4, i32_n5, i32_n6, i32_n7, i32_n8, i32_n9, i32_n10, i32_n20, i32_n30, i32_n31, i32_n39, i32_n40, i32_n49, i32_n50, i32_n100, i32_n160, i32_n1000, i32_n100000, i32_n1000000] at c_14 ⊢; omega))], rfl⟩, by rw [ht]; exact hP, va_K.moved hW.alike hK, hD⟩, hS.F ht⟩) hS.2.2 d_C_release_74
            · refine lv_iconst (v := 5) hx hb d_C_release_69 (by decide) ?_
              refine lv_goto (tgt := 74) hx hb d_C_release_70 (by decide) ?_
              refine W.widen (k := 1) (n := 6) (Nat.zero_le _) (Nat.zero_le _) (vx_ret ?_)
              exact W.iret (v := 5) hx hb hr (fun t ht hW => ⟨⟨5, σ, rfl, ⟨Classical.not_not.mp (fun h => c_3 (b2i_eq0.mpr h)), by unfold relF; rw [ifP_f (b2i_eq0.mp c_6), ifP_f (by ((try simp only [b2i_eq0, Classical.not_not] at c_7); grind)), ifP_f (by ((try simp only [b2i_eq0, Classical.not_not] at c_8); grind)), ifP_f (b2i_eq0.mp c_11), ifP_t (by ((try simp only [b2i_eq0, Classical.not_not] at c_14); simp only [i32_eq, i32_lt, i32_le, i32_nm1, i32_n0, i32_n1, i32_n2, i32_n3, i32_n4, i32_n5, i32_n6, i32_n7, i32_n8, i32_n9, i32_n10, i32_n20, i32_n30, i32_n31, i32_n39, i32_n40, i32_n49, i32_n50, i32_n100, i32_n160, i32_n1000, i32_n100000, i32_n1000000] at c_14 ⊢; omega))], rfl⟩, by rw [ht]; exact hP, va_K.moved hW.alike hK, hD⟩, hS.F ht⟩) hS.2.2 d_C_release_74
          · refine lv_iconst (v := 4) hx hb d_C_release_58 (by decide) ?_
            refine W.widen (k := 1) (n := 6) (Nat.zero_le _) (Nat.zero_le _) (vx_ret ?_)
            exact W.iret (v := 4) hx hb hr (fun t ht hW => ⟨⟨4, σ, rfl, ⟨Classical.not_not.mp (fun h => c_3 (b2i_eq0.mpr h)), by unfold relF; rw [ifP_f (b2i_eq0.mp c_6), ifP_f (by ((try simp only [b2i_eq0, Classical.not_not] at c_7); grind)), ifP_f (by ((try simp only [b2i_eq0, Classical.not_not] at c_8); grind)), ifP_t (Classical.not_not.mp (fun h => c_11 (b2i_eq0.mpr h)))], rfl⟩, by rw [ht]; exact hP, va_K.moved hW.alike hK, hD⟩, hS.F ht⟩) hS.2.2 d_C_release_59
        · refine lv_iconst (v := 3) hx hb d_C_release_48 (by decide) ?_
          refine W.widen (k := 1) (n := 6) (Nat.zero_le _) (Nat.zero_le _) (vx_ret ?_)
          exact W.iret (v := 3) hx hb hr (fun t ht hW => ⟨⟨3, σ, rfl, ⟨Classical.not_not.mp (fun h => c_3 (b2i_eq0.mpr h)), by unfold relF; rw [ifP_f (b2i_eq0.mp c_6), ifP_f (by ((try simp only [b2i_eq0, Classical.not_not] at c_7); grind)), ifP_t (by ((try simp only [b2i_eq0, Classical.not_not] at c_8); grind))], rfl⟩, by rw [ht]; exact hP, va_K.moved hW.alike hK, hD⟩, hS.F ht⟩) hS.2.2 d_C_release_49
      · refine lv_iconst (v := 2) hx hb d_C_release_37 (by decide) ?_
        refine W.widen (k := 1) (n := 6) (Nat.zero_le _) (Nat.zero_le _) (vx_ret ?_)
        exact W.iret (v := 2) hx hb hr (fun t ht hW => ⟨⟨2, σ, rfl, ⟨Classical.not_not.mp (fun h => c_3 (b2i_eq0.mpr h)), by unfold relF; rw [ifP_f (b2i_eq0.mp c_6), ifP_t (by ((try simp only [b2i_eq0, Classical.not_not] at c_7); grind))], rfl⟩, by rw [ht]; exact hP, va_K.moved hW.alike hK, hD⟩, hS.F ht⟩) hS.2.2 d_C_release_38
    · refine lv_iconst (v := 1) hx hb d_C_release_25 (by decide) ?_
      refine W.widen (k := 1) (n := 6) (Nat.zero_le _) (Nat.zero_le _) (vx_ret ?_)
      exact W.iret (v := 1) hx hb hr (fun t ht hW => ⟨⟨1, σ, rfl, ⟨Classical.not_not.mp (fun h => c_3 (b2i_eq0.mpr h)), by unfold relF; rw [ifP_t (Classical.not_not.mp (fun h => c_6 (b2i_eq0.mpr h)))], rfl⟩, by rw [ht]; exact hP, va_K.moved hW.alike hK, hD⟩, hS.F ht⟩) hS.2.2 d_C_release_26
  · exact vx_throwS (own := "InspectSteps") (cls := xe_A) (text := "no such declaration") (names := xe_up) (ik := 68) (is := 190) (ic := 72) (A := A) hx hb hst hown (by decide) (by decide) (hG _ kw_192) (hG _ kw_10) (hX.2 (190, "no such declaration") (by decide)).choose_spec (xa_A hG hX) xa_A3 hZ.1 hZ.2 hS (hl.1.trans hml.symm) d_C_release_7 d_C_release_10 d_C_release_11 d_C_release_13 d_C_release_16 (fun x h => (hnt x h).elim) (Nat.le_of_ble_eq_true rfl) (Nat.le_of_ble_eq_true rfl) (Nat.le_of_ble_eq_true rfl) (Nat.le_of_ble_eq_true rfl) hlocks (fun t ha hz hk => ⟨(), b2i_eq0.mp c_3, ⟨rfl, (thr_T hS hP hK hD ha hz hk).1⟩, (thr_T hS hP hK hD ha hz hk).2⟩) hS.2.2 (Nat.le_of_ble_eq_true rfl) (Nat.le_of_ble_eq_true rfl)
set_option maxHeartbeats 4000000 in
set_option maxRecDepth 100000 in
theorem c_C_look (l : Launch) (D : va_G) (cs : Nat → ClassId) (ad : Nat → Nat) (σ : Nat → Nat → Int32) (n nm ci cj E : Nat) (hI : Iv n nm ci cj) (hst : l.stackTraces = false) (sz : Nat) (p0 p1 : Int32) : vx_Met l y_C_look (Cond.code y_C_look b_C_look 4 (some .int) :: GW) ({ frames := 8, cells := 1, slots := 6, locals := 256 }) (va_Pc [.ref (ad 0), .int p0, .int p1] (xr_B D cs (wC cs ad σ n nm ci cj E) sz)) (va_Qi (fun r (u : Nat → Nat → Int32) => ∃ i, i < n ∧ p0 = nI i ∧ (0 ≤ p1 ∧ p1 ≤ 8) ∧ r = lookF σ i p1 ∧ u = σ) (fun u => wr_T D cs (wC cs ad u n nm ci cj E) (va_A (wC cs ad σ n nm ci cj E) sz)) (va_A (wC cs ad σ n nm ci cj E) sz)) (vx_X (fun _ : Unit => ¬ ((∃ i, i < n ∧ p0 = nI i) ∧ (0 ≤ p1 ∧ p1 ≤ 8))) (fun E9 _ t => E9 = xe_I ∧ wr_T D cs (wC cs ad σ n nm ci cj E) (va_A (wC cs ad σ n nm ci cj E) sz) t) (va_A (wC cs ad σ n nm ci cj E) sz)) 1 6 (va_A (wC cs ad σ n nm ci cj E) sz) := by
  refine vx_ofW (cc := b_C_look) (maxL := 4) (ret := (some .int)) (by decide) rfl ?_
  intro p e s m args below meth c s₁ B hml hnt hv
  obtain ⟨rfl, ⟨hsz, hP, hK, hD0⟩, hX, hZ⟩ := hv
  have hx := B.exec
  have hb := B.bytes
  have hr := B.returns
  have hts := atoms_spec (ws := Cond.code y_C_look b_C_look 4 (some .int) :: GW) B.pre
  have hG : ∀ w ∈ GW, w.before _ s = true := fun w h => hts w (List.mem_cons_of_mem _ h)
  have hown : s.vm.findClass R_C = some m.cls := findClass_of_methodNamed B.named
  have hlocks := B.notSynchronized
  subst hsz
  have hD := hD0.self (sz := s.heap.size)
  generalize hAe : va_A (wC cs ad σ n nm ci cj E) s.heap.size = A at hD hZ ⊢
  have hA : ∀ q : Nat, s.heap.size ≤ q → A q := fun q h => by rw [← hAe]; exact Or.inr h
  have hS : va_S A s.heap s.heap [] := va_S.rf
  have hl := lv_entry ([.ref (ad 0), .int p0, .int p1]) (n := 4) (Nat.le_of_ble_eq_true rfl)
  rw [lg_entry_eq]
  generalize (lg_sl ([.ref (ad 0), .int p0, .int p1]) ++ List.replicate (4 - (lg_sl ([.ref (ad 0), .int p0, .int p1])).length) Slot.unset).toArray = ls at hl ⊢
  have hl : lv_has ls 4 [(0, .ref (ad 0)), (1, .int p0), (2, .int p1)] := hl
  refine lv_aload_n hx hb d_C_look_0 rfl (lv_at hl 0 rfl) ?_
  refine lv_iload_n hx hb d_C_look_1 rfl (lv_at hl 1 rfl) ?_
  refine vp_callSi (W.runV (As := [.int p0]) (rest := []) ⟨hx, hb, hml, hown, hts⟩ (c_C_isInspection l D cs ad σ n nm ci cj E hI p0) (cwV 1 hts (gw_V kw_112 kw_114 ks_0_1 kw_1 kw_115) rfl rfl rfl (by decide +kernel) ⟨Nat.le_of_ble_eq_true rfl, Nat.le_of_ble_eq_true rfl⟩) (rd_V hP hK (rl_recv hK hP (RC_f (by decide)) gC_0 rfl)) rfl rfl hl.1 rfl (lv_room (Nat.le_of_ble_eq_true rfl)) d_C_look_2 ⟨Nat.zero_le _, Nat.zero_le _⟩) (fun r_1 h_2 => ?_)
  subst h_2
  refine lv_if_ne (tgt := 18) hx hb d_C_look_5 (by decide) (fun c_3 => ?_) (fun c_3 => ?_)
  · obtain ⟨i, hi, rfl⟩ := at_ (by have := hI; unfold Iv at this; omega) (Classical.not_not.mp (fun h => c_3 (b2i_eq0.mpr h)))
    refine lv_aload_n hx hb d_C_look_18 rfl (lv_at hl 0 rfl) ?_
    refine rl_get (r := 0) (ci := 1) (v := .ref (ad 1)) (C := R_C) (T := F_C) (N := 10) hx hb hG in_C hown hK hP (RC_f (by decide)) gC_0 rfl 0 (by decide) kw_59 (fun _ h9 => h9) rfl d_C_look_19 ?_
    refine lv_iload_n hx hb d_C_look_22 rfl (lv_at hl 1 rfl) ?_
    refine va_csr (W.runV (As := [.int (nI i)]) (rest := []) ⟨hx, hb, hml, hown, hts⟩ (c_Al_get l D (tys_ cs) (ad 1) (ad 3) n ci i (ad (100 + i)) (σ 7 0) (cs 2) (rowsF 100 n ad) hi hI.2.2.1 (by have := hI; unfold Iv at this; omega) 2 rfl (if_pos hi)) (cwV 1 hts (gw_V kw_120 kw_121 kw_122 kw_4 kw_123) rfl rfl rfl (by decide +kernel) ⟨Nat.le_of_ble_eq_true rfl, Nat.le_of_ble_eq_true rfl⟩) (rd_V (rl_two hP (RC_f (by decide)) (gC_1 (Nat.lt_of_le_of_lt (Nat.zero_le _) hi)) (RC_3 (Nat.lt_of_le_of_lt (Nat.zero_le _) hi)) gC_3) hK (rl_recv hK hP (RC_f (by decide)) (gC_1 (Nat.lt_of_le_of_lt (Nat.zero_le _) hi)) rfl)) rfl rfl hl.1 rfl (lv_room (Nat.le_of_ble_eq_true rfl)) d_C_look_23 ⟨Nat.zero_le _, Nat.zero_le _⟩) (fun r_4 h_5 => ?_)
    subst h_5
    refine va_castS hx hb hown (hG _ kw_134) ((hK.1 2 _ rfl).2) (rl_recv hK hP (RC_ins hi) (gC_ins (by have := hI; unfold Iv at this; omega)) rfl) d_C_look_26 ?_
    refine lv_astore_n (lv' := [(3, .ref (ad (100 + i))), (0, .ref (ad 0)), (1, .int (nI i)), (2, .int p1)]) hx hb d_C_look_29 rfl hl (by decide) rfl (fun ls hl => ?_)
    refine lv_iload_n hx hb d_C_look_30 rfl (lv_at hl 3 rfl) ?_
    by_cases e_6 : p1 = 0
    · subst e_6
      refine lv_tableIn (x := 0) (tgt := 80) hx hb d_C_look_31 (by decide) (by decide) rfl (by decide) ?_
      refine lv_aload_n hx hb d_C_look_80 rfl (lv_at hl 0 rfl) ?_
      refine rl_get (r := 100 + i) (ci := 2) (v := .int (σ 20 i)) (C := R_I) (T := F_I) (N := 10) hx hb hG in_I hown hK hP (RC_ins hi) (gC_ins (by have := hI; unfold Iv at this; omega)) rfl 0 (by decide) kw_288 (fun _ h9 => h9) rfl d_C_look_81 ?_
      refine W.widen (k := 1) (n := 6) (Nat.zero_le _) (Nat.zero_le _) (vx_ret ?_)
      exact W.iret (v := σ 20 i) hx hb hr (fun t ht hW => ⟨⟨σ 20 i, σ, rfl, ⟨i, hi, rfl, by decide, rfl, rfl⟩, by rw [ht]; exact hP, va_K.moved hW.alike hK, hD⟩, hS.F ht⟩) hS.2.2 d_C_look_84
    by_cases e_7 : p1 = 1
    · subst e_7
      refine lv_tableIn (x := 1) (tgt := 85) hx hb d_C_look_31 (by decide) (by decide) rfl (by decide) ?_
      refine lv_aload_n hx hb d_C_look_85 rfl (lv_at hl 0 rfl) ?_
      refine rl_get (r := 100 + i) (ci := 2) (v := .int (σ 21 i)) (C := R_I) (T := F_I) (N := 10) hx hb hG in_I hown hK hP (RC_ins hi) (gC_ins (by have := hI; unfold Iv at this; omega)) rfl 1 (by decide) kw_290 (fun _ h9 => h9) rfl d_C_look_86 ?_
      refine W.widen (k := 1) (n := 6) (Nat.zero_le _) (Nat.zero_le _) (vx_ret ?_)
      exact W.iret (v := σ 21 i) hx hb hr (fun t ht hW => ⟨⟨σ 21 i, σ, rfl, ⟨i, hi, rfl, by decide, rfl, rfl⟩, by rw [ht]; exact hP, va_K.moved hW.alike hK, hD⟩, hS.F ht⟩) hS.2.2 d_C_look_89
    by_cases e_8 : p1 = 2
    · subst e_8
      refine lv_tableIn (x := 2) (tgt := 90) hx hb d_C_look_31 (by decide) (by decide) rfl (by decide) ?_
      refine lv_aload_n hx hb d_C_look_90 rfl (lv_at hl 0 rfl) ?_
      refine rl_get (r := 100 + i) (ci := 2) (v := .int (σ 23 i)) (C := R_I) (T := F_I) (N := 10) hx hb hG in_I hown hK hP (RC_ins hi) (gC_ins (by have := hI; unfold Iv at this; omega)) rfl 3 (by decide) kw_293 (fun _ h9 => h9) rfl d_C_look_91 ?_
      refine W.widen (k := 1) (n := 6) (Nat.zero_le _) (Nat.zero_le _) (vx_ret ?_)
      exact W.iret (v := σ 23 i) hx hb hr (fun t ht hW => ⟨⟨σ 23 i, σ, rfl, ⟨i, hi, rfl, by decide, rfl, rfl⟩, by rw [ht]; exact hP, va_K.moved hW.alike hK, hD⟩, hS.F ht⟩) hS.2.2 d_C_look_94
    by_cases e_9 : p1 = 3
    · subst e_9
      refine lv_tableIn (x := 3) (tgt := 95) hx hb d_C_look_31 (by decide) (by decide) rfl (by decide) ?_
      refine lv_aload_n hx hb d_C_look_95 rfl (lv_at hl 0 rfl) ?_
      refine rl_get (r := 100 + i) (ci := 2) (v := .int (σ 24 i)) (C := R_I) (T := F_I) (N := 10) hx hb hG in_I hown hK hP (RC_ins hi) (gC_ins (by have := hI; unfold Iv at this; omega)) rfl 4 (by decide) kw_295 (fun _ h9 => h9) rfl d_C_look_96 ?_
      refine W.widen (k := 1) (n := 6) (Nat.zero_le _) (Nat.zero_le _) (vx_ret ?_)
      exact W.iret (v := σ 24 i) hx hb hr (fun t ht hW => ⟨⟨σ 24 i, σ, rfl, ⟨i, hi, rfl, by decide, rfl, rfl⟩, by rw [ht]; exact hP, va_K.moved hW.alike hK, hD⟩, hS.F ht⟩) hS.2.2 d_C_look_99
    by_cases e_10 : p1 = 4
    · subst e_10
      refine lv_tableIn (x := 4) (tgt := 100) hx hb d_C_look_31 (by decide) (by decide) rfl (by decide) ?_
      refine lv_aload_n hx hb d_C_look_100 rfl (lv_at hl 0 rfl) ?_
      refine vp_callSi (W.runV (As := []) (rest := []) ⟨hx, hb, hml, hown, hts⟩ (c_I_hasAppointment l D (tys_ cs) (ad (100 + i)) (σ 20 i) (σ 21 i) (σ 22 i) (σ 23 i) (σ 24 i) (σ 25 i) (σ 26 i) (σ 27 i) (σ 28 i) (σ 29 i)) (cwV 0 hts (gw_V kw_573 kw_404 kw_405 kw_12 kw_406) rfl rfl rfl (by decide +kernel) ⟨Nat.le_of_ble_eq_true rfl, Nat.le_of_ble_eq_true rfl⟩) (rd_V (rl_one hP (RC_ins hi) (gC_ins (by have := hI; unfold Iv at this; omega))) hK (rl_recv hK hP (RC_ins hi) (gC_ins (by have := hI; unfold Iv at this; omega)) rfl)) rfl rfl hl.1 rfl (lv_room (Nat.le_of_ble_eq_true rfl)) d_C_look_101 ⟨Nat.zero_le _, Nat.zero_le _⟩) (fun r_11 h_12 => ?_)
      subst h_12
      refine lv_if_eq (tgt := 114) hx hb d_C_look_104 (by decide) (fun c_13 => ?_) (fun c_13 => ?_)
      · refine lv_iconst (v := (-1)) hx hb d_C_look_114 (by decide) ?_
        refine W.widen (k := 1) (n := 6) (Nat.zero_le _) (Nat.zero_le _) (vx_ret ?_)
        exact W.iret (v := (-1)) hx hb hr (fun t ht hW => ⟨⟨(-1), σ, rfl, ⟨i, hi, rfl, by decide, (ifP_f (b2i_eq0.mp c_13)).symm, rfl⟩, by rw [ht]; exact hP, va_K.moved hW.alike hK, hD⟩, hS.F ht⟩) hS.2.2 d_C_look_115
      · refine lv_aload_n hx hb d_C_look_107 rfl (lv_at hl 0 rfl) ?_
        refine rl_get (r := 100 + i) (ci := 2) (v := .int (σ 25 i)) (C := R_I) (T := F_I) (N := 10) hx hb hG in_I hown hK hP (RC_ins hi) (gC_ins (by have := hI; unfold Iv at this; omega)) rfl 5 (by decide) kw_297 (fun _ h9 => h9) rfl d_C_look_108 ?_
        refine lv_goto (tgt := 115) hx hb d_C_look_111 (by decide) ?_
        refine W.widen (k := 1) (n := 6) (Nat.zero_le _) (Nat.zero_le _) (vx_ret ?_)
        exact W.iret (v := σ 25 i) hx hb hr (fun t ht hW => ⟨⟨σ 25 i, σ, rfl, ⟨i, hi, rfl, by decide, (ifP_t (Classical.not_not.mp (fun h => c_13 (b2i_eq0.mpr h)))).symm, rfl⟩, by rw [ht]; exact hP, va_K.moved hW.alike hK, hD⟩, hS.F ht⟩) hS.2.2 d_C_look_115
    by_cases e_14 : p1 = 5
    · subst e_14
      refine lv_tableIn (x := 5) (tgt := 116) hx hb d_C_look_31 (by decide) (by decide) rfl (by decide) ?_
      refine lv_aload_n hx hb d_C_look_116 rfl (lv_at hl 0 rfl) ?_
      refine vp_callSi (W.runV (As := []) (rest := []) ⟨hx, hb, hml, hown, hts⟩ (c_I_hasAppointment l D (tys_ cs) (ad (100 + i)) (σ 20 i) (σ 21 i) (σ 22 i) (σ 23 i) (σ 24 i) (σ 25 i) (σ 26 i) (σ 27 i) (σ 28 i) (σ 29 i)) (cwV 0 hts (gw_V kw_573 kw_404 kw_405 kw_12 kw_406) rfl rfl rfl (by decide +kernel) ⟨Nat.le_of_ble_eq_true rfl, Nat.le_of_ble_eq_true rfl⟩) (rd_V (rl_one hP (RC_ins hi) (gC_ins (by have := hI; unfold Iv at this; omega))) hK (rl_recv hK hP (RC_ins hi) (gC_ins (by have := hI; unfold Iv at this; omega)) rfl)) rfl rfl hl.1 rfl (lv_room (Nat.le_of_ble_eq_true rfl)) d_C_look_117 ⟨Nat.zero_le _, Nat.zero_le _⟩) (fun r_15 h_16 => ?_)
      subst h_16
      refine lv_if_eq (tgt := 130) hx hb d_C_look_120 (by decide) (fun c_17 => ?_) (fun c_17 => ?_)
      · refine lv_iconst (v := (-1)) hx hb d_C_look_130 (by decide) ?_
        refine W.widen (k := 1) (n := 6) (Nat.zero_le _) (Nat.zero_le _) (vx_ret ?_)
        exact W.iret (v := (-1)) hx hb hr (fun t ht hW => ⟨⟨(-1), σ, rfl, ⟨i, hi, rfl, by decide, (ifP_f (b2i_eq0.mp c_17)).symm, rfl⟩, by rw [ht]; exact hP, va_K.moved hW.alike hK, hD⟩, hS.F ht⟩) hS.2.2 d_C_look_131
      · refine lv_aload_n hx hb d_C_look_123 rfl (lv_at hl 0 rfl) ?_
        refine rl_get (r := 100 + i) (ci := 2) (v := .int (σ 26 i)) (C := R_I) (T := F_I) (N := 10) hx hb hG in_I hown hK hP (RC_ins hi) (gC_ins (by have := hI; unfold Iv at this; omega)) rfl 6 (by decide) kw_299 (fun _ h9 => h9) rfl d_C_look_124 ?_
        refine lv_goto (tgt := 131) hx hb d_C_look_127 (by decide) ?_
        refine W.widen (k := 1) (n := 6) (Nat.zero_le _) (Nat.zero_le _) (vx_ret ?_)
        exact W.iret (v := σ 26 i) hx hb hr (fun t ht hW => ⟨⟨σ 26 i, σ, rfl, ⟨i, hi, rfl, by decide, (ifP_t (Classical.not_not.mp (fun h => c_17 (b2i_eq0.mpr h)))).symm, rfl⟩, by rw [ht]; exact hP, va_K.moved hW.alike hK, hD⟩, hS.F ht⟩) hS.2.2 d_C_look_131
    by_cases e_18 : p1 = 6
    · subst e_18
      refine lv_tableIn (x := 6) (tgt := 132) hx hb d_C_look_31 (by decide) (by decide) rfl (by decide) ?_
      refine lv_aload_n hx hb d_C_look_132 rfl (lv_at hl 0 rfl) ?_
      refine vp_callSi (W.runV (As := []) (rest := []) ⟨hx, hb, hml, hown, hts⟩ (c_I_hasAppointment l D (tys_ cs) (ad (100 + i)) (σ 20 i) (σ 21 i) (σ 22 i) (σ 23 i) (σ 24 i) (σ 25 i) (σ 26 i) (σ 27 i) (σ 28 i) (σ 29 i)) (cwV 0 hts (gw_V kw_573 kw_404 kw_405 kw_12 kw_406) rfl rfl rfl (by decide +kernel) ⟨Nat.le_of_ble_eq_true rfl, Nat.le_of_ble_eq_true rfl⟩) (rd_V (rl_one hP (RC_ins hi) (gC_ins (by have := hI; unfold Iv at this; omega))) hK (rl_recv hK hP (RC_ins hi) (gC_ins (by have := hI; unfold Iv at this; omega)) rfl)) rfl rfl hl.1 rfl (lv_room (Nat.le_of_ble_eq_true rfl)) d_C_look_133 ⟨Nat.zero_le _, Nat.zero_le _⟩) (fun r_19 h_20 => ?_)
      subst h_20
      refine lv_if_eq (tgt := 146) hx hb d_C_look_136 (by decide) (fun c_21 => ?_) (fun c_21 => ?_)
      · refine lv_iconst (v := (-1)) hx hb d_C_look_146 (by decide) ?_
        refine W.widen (k := 1) (n := 6) (Nat.zero_le _) (Nat.zero_le _) (vx_ret ?_)
        exact W.iret (v := (-1)) hx hb hr (fun t ht hW => ⟨⟨(-1), σ, rfl, ⟨i, hi, rfl, by decide, (ifP_f (b2i_eq0.mp c_21)).symm, rfl⟩, by rw [ht]; exact hP, va_K.moved hW.alike hK, hD⟩, hS.F ht⟩) hS.2.2 d_C_look_147
      · refine lv_aload_n hx hb d_C_look_139 rfl (lv_at hl 0 rfl) ?_
        refine rl_get (r := 100 + i) (ci := 2) (v := .int (σ 27 i)) (C := R_I) (T := F_I) (N := 10) hx hb hG in_I hown hK hP (RC_ins hi) (gC_ins (by have := hI; unfold Iv at this; omega)) rfl 7 (by decide) kw_301 (fun _ h9 => h9) rfl d_C_look_140 ?_
        refine lv_goto (tgt := 147) hx hb d_C_look_143 (by decide) ?_
        refine W.widen (k := 1) (n := 6) (Nat.zero_le _) (Nat.zero_le _) (vx_ret ?_)
        exact W.iret (v := σ 27 i) hx hb hr (fun t ht hW => ⟨⟨σ 27 i, σ, rfl, ⟨i, hi, rfl, by decide, (ifP_t (Classical.not_not.mp (fun h => c_21 (b2i_eq0.mpr h)))).symm, rfl⟩, by rw [ht]; exact hP, va_K.moved hW.alike hK, hD⟩, hS.F ht⟩) hS.2.2 d_C_look_147
    by_cases e_22 : p1 = 7
    · subst e_22
      refine lv_tableIn (x := 7) (tgt := 148) hx hb d_C_look_31 (by decide) (by decide) rfl (by decide) ?_
      refine lv_aload_n hx hb d_C_look_148 rfl (lv_at hl 0 rfl) ?_
      refine rl_get (r := 100 + i) (ci := 2) (v := .int (σ 28 i)) (C := R_I) (T := F_I) (N := 10) hx hb hG in_I hown hK hP (RC_ins hi) (gC_ins (by have := hI; unfold Iv at this; omega)) rfl 8 (by decide) kw_303 (fun _ h9 => h9) rfl d_C_look_149 ?_
      refine W.widen (k := 1) (n := 6) (Nat.zero_le _) (Nat.zero_le _) (vx_ret ?_)
      exact W.iret (v := σ 28 i) hx hb hr (fun t ht hW => ⟨⟨σ 28 i, σ, rfl, ⟨i, hi, rfl, by decide, rfl, rfl⟩, by rw [ht]; exact hP, va_K.moved hW.alike hK, hD⟩, hS.F ht⟩) hS.2.2 d_C_look_152
    by_cases e_23 : p1 = 8
    · subst e_23
      refine lv_tableIn (x := 8) (tgt := 153) hx hb d_C_look_31 (by decide) (by decide) rfl (by decide) ?_
      refine lv_aload_n hx hb d_C_look_153 rfl (lv_at hl 0 rfl) ?_
      refine rl_get (r := 100 + i) (ci := 2) (v := .int (σ 29 i)) (C := R_I) (T := F_I) (N := 10) hx hb hG in_I hown hK hP (RC_ins hi) (gC_ins (by have := hI; unfold Iv at this; omega)) rfl 9 (by decide) kw_305 (fun _ h9 => h9) rfl d_C_look_154 ?_
      refine W.widen (k := 1) (n := 6) (Nat.zero_le _) (Nat.zero_le _) (vx_ret ?_)
      exact W.iret (v := σ 29 i) hx hb hr (fun t ht hW => ⟨⟨σ 29 i, σ, rfl, ⟨i, hi, rfl, by decide, rfl, rfl⟩, by rw [ht]; exact hP, va_K.moved hW.alike hK, hD⟩, hS.F ht⟩) hS.2.2 d_C_look_157
    refine lv_tableOut (tgt := 158) hx hb d_C_look_31 (by simp only [i32_eq, i32_lt, i32_le, i32_nm1, i32_n0, i32_n1, i32_n2, i32_n3, i32_n4, i32_n5, i32_n6, i32_n7, i32_n8, i32_n9, i32_n10, i32_n20, i32_n30, i32_n31, i32_n39, i32_n40, i32_n49, i32_n50, i32_n100, i32_n160, i32_n1000, i32_n100000, i32_n1000000] at e_6 e_7 e_8 e_9 e_10 e_14 e_18 e_22 e_23 ⊢; omega) (by decide) ?_
    exact vx_throwS (own := "InspectSteps") (cls := xe_I) (text := "nothing such to look at") (names := xe_up) (ik := 212) (is := 232) (ic := 216) (A := A) hx hb hst hown (by decide) (by decide) (hG _ kw_557) (hG _ kw_19) (hX.2 (232, "nothing such to look at") (by decide)).choose_spec (xa_I hG hX) xa_I3 hZ.1 hZ.2 hS (hl.1.trans hml.symm) d_C_look_158 d_C_look_161 d_C_look_162 d_C_look_164 d_C_look_167 (fun x h => (hnt x h).elim) (Nat.le_of_ble_eq_true rfl) (Nat.le_of_ble_eq_true rfl) (Nat.le_of_ble_eq_true rfl) (Nat.le_of_ble_eq_true rfl) hlocks (fun t ha hz hk => ⟨(), fun h9 => by have h8 := h9.2; ((try simp only [b2i_eq0, Classical.not_not] at e_6 e_7 e_8 e_9 e_10 e_14 e_18 e_22 e_23 h8); simp only [i32_eq, i32_lt, i32_le, i32_nm1, i32_n0, i32_n1, i32_n2, i32_n3, i32_n4, i32_n5, i32_n6, i32_n7, i32_n8, i32_n9, i32_n10, i32_n20, i32_n30, i32_n31, i32_n39, i32_n40, i32_n49, i32_n50, i32_n100, i32_n160, i32_n1000, i32_n100000, i32_n1000000] at e_6 e_7 e_8 e_9 e_10 e_14 e_18 e_22 e_23 h8; omega), ⟨rfl, (thr_T hS hP hK hD ha hz hk).1⟩, (thr_T hS hP hK hD ha hz hk).2⟩) hS.2.2 (Nat.le_of_ble_eq_true rfl) (Nat.le_of_ble_eq_true rfl)
  · exact vx_throwS (own := "InspectSteps") (cls := xe_I) (text := "no such inspection") (names := xe_up) (ik := 212) (is := 214) (ic := 216) (A := A) hx hb hst hown (by decide) (by decide) (hG _ kw_557) (hG _ kw_19) (hX.2 (214, "no such inspection") (by decide)).choose_spec (xa_I hG hX) xa_I3 hZ.1 hZ.2 hS (hl.1.trans hml.symm) d_C_look_8 d_C_look_11 d_C_look_12 d_C_look_14 d_C_look_17 (fun x h => (hnt x h).elim) (Nat.le_of_ble_eq_true rfl) (Nat.le_of_ble_eq_true rfl) (Nat.le_of_ble_eq_true rfl) (Nat.le_of_ble_eq_true rfl) hlocks (fun t ha hz hk => ⟨(), fun ⟨⟨j, hj, e9⟩, _⟩ => (b2i_eq0.mp c_3) (e9 ▸ at_not (by have := hI; unfold Iv at this; omega) hj), ⟨rfl, (thr_T hS hP hK hD ha hz hk).1⟩, (thr_T hS hP hK hD ha hz hk).2⟩) hS.2.2 (Nat.le_of_ble_eq_true rfl) (Nat.le_of_ble_eq_true rfl)
end
section
theorem rl_D {A : Nat → Prop} {Rl : List Nat} {ad : Nat → Nat} {g g' : Nat → va_E} (hD : va_D A (rl_w Rl ad g)) : va_D A (rl_w Rl ad g') := by
  have conv : ∀ (k : Nat) (q : Nat × va_E), (rl_w Rl ad g')[k]? = some q → ∃ q', (rl_w Rl ad g)[k]? = some q' ∧ q'.1 = q.1 := by
    intro k q hk
    simp only [rl_w, List.getElem?_map] at hk ⊢
    cases hb : Rl[k]? with
    | none => rw [hb] at hk; cases hk
    | some b =>
      rw [hb] at hk
      cases hk
      exact ⟨_, rfl, rfl⟩
  refine ⟨fun i j x y hx hy e => ?_, fun k q hk => ?_⟩
  · obtain ⟨x', hx', ex⟩ := conv i x hx
    obtain ⟨y', hy', ey⟩ := conv j y hy
    exact hD.1 i j x' y' hx' hy' (by rw [ex, ey]; exact e)
  · obtain ⟨q', hq', e⟩ := conv k q hk
    rw [← e]
    exact hD.2 k q' hq'
/-- one cell went to a callee and came back changed -/
theorem rl_join1 {D : va_G} {cl : List vw_C} {A : Nat → Prop} {Rl : List Nat} {ad : Nat → Nat} {g : Nat → va_E} {H H1 : Heap} {r : Nat} {x x' : va_E} (hP : va_P D cl (rl_w Rl ad g) H) (hD : va_D A (rl_w Rl ad g)) (hr : r ∈ Rl) (hk : ∀ q : Nat, q < H.size → ¬ va_A [(ad r, x)] H.size q → H1[q]? = H[q]?) (hP1 : va_P D cl [(ad r, x')] H1) : va_P D cl (rl_w Rl ad (va_up g r x')) H1 ∧ va_D A (rl_w Rl ad (va_up g r x')) := by
  refine ⟨fun k q hq => ?_, rl_D hD⟩
  simp only [rl_w, List.getElem?_map] at hq
  cases hb : Rl[k]? with
  | none => rw [hb] at hq; cases hq
  | some b =>
    rw [hb] at hq
    cases hq
    have hbm : b ∈ Rl := List.mem_of_getElem? hb
    show va_at D cl (ad b, va_up g r x' b) H1
    by_cases e : b = r
    · subst e
      rw [va_up_self]
      exact hP1 0 _ rfl
    · rw [va_up_ne _ _ e]
      have hk' : (rl_w Rl ad g)[k]? = some (ad b, g b) := by simp [rl_w, hb]
      have hat := hP k _ hk'
      refine hat.kept (hk _ hat.lt (fun h => ?_))
      rcases h with ⟨j, y, hj⟩ | h
      · have hj0 : j = 0 := by
          have := (List.getElem?_eq_some_iff.mp hj).1
          simp at this
          exact this
        subst hj0
        have : ad r = ad b := by
          have := Option.some.inj hj
          exact congrArg Prod.fst this
        exact rl_ne hD hbm hr e this.symm
      · exact absurd hat.lt (Nat.not_lt.mpr h)
/-- one cell's part is a part of the whole -/
theorem rl_free1 {A0 : Nat → Prop} {Rl : List Nat} {ad : Nat → Nat} {g : Nat → va_E} {H0 H : Heap} {locs : List Loc} {r : Nat} {x : va_E} (hD : va_D A0 (rl_w Rl ad g)) (hS : va_S A0 H0 H locs) (hA : ∀ q, H0.size ≤ q → A0 q) (hr : r ∈ Rl) : ∀ q, va_A [(ad r, x)] H.size q → A0 q := by
  intro q h
  rcases h with ⟨j, y, hj⟩ | h
  · have hj0 : j = 0 := by
      have := (List.getElem?_eq_some_iff.mp hj).1
      simp at this
      exact this
    subst hj0
    obtain ⟨k, hk, hk'⟩ := rl_at (ad := ad) (g := g) hr
    have e : ad r = q := congrArg Prod.fst (Option.some.inj hj)
    rw [← e]
    exact hD.2 k _ hk'
  · exact hA q (Nat.le_trans hS.1 h)
theorem va_D1 {a : Nat} {x : va_E} : va_D (fun _ => True) [(a, x)] := ⟨fun i j p q h1 h2 _ => by
  have h3 := (List.getElem?_eq_some_iff.mp h1).1
  have h4 := (List.getElem?_eq_some_iff.mp h2).1
  simp at h3 h4
  omega, fun _ _ _ => trivial⟩
abbrev w1_B (D : va_G) (tys : List (ClassId × FieldType)) (a : Nat) (x : va_E) (sz : Nat) : State → Prop := fun U => U.heap.size = sz ∧ va_P D cls_ [(a, x)] U.heap ∧ va_K D cls_ tys U
theorem w1_blind {D : va_G} {tys : List (ClassId × FieldType)} {a : Nat} {x : va_E} {sz : Nat} {av : List Value} : FrameBlind (va_Pc av (w1_B D tys a x sz)) := fun _ U g mk q => by
  obtain ⟨q0, q1, qP, qK⟩ := q
  exact ⟨q0, q1, qP, va_K.moved (u := U) (U := U.calling g mk _) (Vm.Alike.refl U.vm) qK⟩
theorem w1_V {D : va_G} {tys : List (ClassId × FieldType)} {x : va_E} {s : State} {H : Heap} {C : String} {b : Nat} {As : List Value} (hP : va_P D cls_ [(b, x)] H) (hK : va_K D cls_ tys s) (hr : ∃ cell : Cell, H[b]? = some cell ∧ cell.vm.isStatics = false ∧ s.vm.findClass C = some cell.cls) : PreV s H C b (va_Pc (.ref b :: As) (w1_B D tys b x H.size)) As :=
  ⟨w1_blind, hr, fun U hU hW => ⟨rfl, by rw [hU], by rw [hU]; exact hP, va_K.moved hW.alike hK⟩⟩
section GI
variable {cs : Nat → ClassId} {ad : Nat → Nat} {σ σ' : Nat → Nat → Int32} {n nm ci cj E : Nat}
/-- an inspection's fields change, nothing else -/
theorem wC_insG {i : Nat} (hn : n ≤ 30) (hm : nm ≤ 40) (hi : i < 100) (h : ∀ k b, ¬ (20 ≤ k ∧ k ≤ 29 ∧ b = i) → σ' k b = σ k b) : rl_w (RC n nm) ad (va_up (gC cs ad σ n nm ci cj E) (100 + i) (.inr (2, insF σ' i))) = wC cs ad σ' n nm ci cj E := by
  apply rl_congr
  intro q hq
  by_cases e : q = 100 + i
  · subst e
    rw [va_up_self, gC_ins hi]
  · rw [va_up_ne _ _ e]
    have hf : ∀ k, ¬ (20 ≤ k ∧ k ≤ 29) → σ' k = σ k := fun k hk => funext fun b => h k b (fun z => hk ⟨z.1, z.2.1⟩)
    rcases RC_cases hq hn hm with h9 | ⟨d, hd, rfl⟩ | rfl | rfl | ⟨j, hj, rfl⟩ | ⟨j, hj, rfl⟩ | ⟨j, hj, rfl⟩ | ⟨j, hj, rfl⟩
    · simp only [List.mem_cons, List.not_mem_nil, or_false] at h9
      rcases h9 with rfl | rfl | rfl | rfl | rfl | rfl | rfl | rfl | rfl | rfl
      · rw [gC_0, gC_0, hf 0 (by omega)]
      · rw [gC_1', gC_1', hf 7 (by omega)]
      · rw [gC_2', gC_2', hf 7 (by omega)]
      · rw [gC_5, gC_5, hf 1 (by omega)]
      · rw [gC_6, gC_6, hf 2 (by omega)]
      · rw [gC_7, gC_7, hf 3 (by omega)]
      · rw [gC_8, gC_8, hf 4 (by omega)]
      · rw [gC_9, gC_9]
      · rw [gC_10, gC_10, hf 5 (by omega)]
      · rw [gC_11, gC_11, hf 6 (by omega)]
    · rw [gC_row hd, gC_row hd, hf (10 + d) (by omega)]
    · rw [gC_3, gC_3]
    · rw [gC_4, gC_4]
    · rw [gC_ins hj, gC_ins hj]
      have hji : j ≠ i := fun z => e (by rw [z])
      simp only [insF, h _ j (fun z => hji z.2.2)]
    · rw [gC_sam hj, gC_sam hj]
      simp only [samF]
      rw [hf 30 (by omega), hf 31 (by omega)]
    · rw [gC_fou hj, gC_fou hj, hf (1000 + j) (by omega)]
    · rw [gC_set hj, gC_set hj, hf (2000 + j) (by omega)]
end GI
end
section
set_option maxHeartbeats 4000000 in
set_option maxRecDepth 100000 in
theorem c_I_appoint (l : Launch) (D : va_G) (tys : List (ClassId × FieldType)) (a : Nat) (f0 f1 f2 f3 f4 f5 f6 f7 f8 f9 : Int32) (p0 p1 p2 : Int32) (sz : Nat) : Met l y_I_appoint (Cond.code y_I_appoint b_I_appoint 4 none :: GW) ({ frames := 0, cells := 0, slots := 0, locals := 0 }) (va_Pc [.ref a, .int p0, .int p1, .int p2] (w1_B D tys a (.inr (2, [.int f0, .int f1, .int f2, .int f3, .int f4, .int f5, .int f6, .int f7, .int f8, .int f9])) sz)) (va_Qv (fun _ : Unit => True) (fun _ t => va_P D cls_ [(a, .inr (2, [.int f0, .int f1, .int f2, .int 1, .int f4, .int p0, .int p1, .int p2, .int f8, .int f9]))] t.heap) (va_A [(a, .inr (2, [.int f0, .int f1, .int f2, .int f3, .int f4, .int f5, .int f6, .int f7, .int f8, .int f9]))] sz)) 0 0 (va_A [(a, .inr (2, [.int f0, .int f1, .int f2, .int f3, .int f4, .int f5, .int f6, .int f7, .int f8, .int f9]))] sz) := by
  refine Met.ofW (cc := b_I_appoint) (maxL := 4) (ret := none) (by decide) rfl ?_
  intro p e s m args below meth c s₁ B hml hv
  obtain ⟨rfl, hsz, hP, hK⟩ := hv
  have hx := B.exec
  have hb := B.bytes
  have hr := B.returns
  have hts := atoms_spec (ws := Cond.code y_I_appoint b_I_appoint 4 none :: GW) B.pre
  have hG : ∀ w ∈ GW, w.before _ s = true := fun w h => hts w (List.mem_cons_of_mem _ h)
  have hown : s.vm.findClass R_I = some m.cls := findClass_of_methodNamed B.named
  have hlocks := B.notSynchronized
  subst hsz
  have hD0 : va_D (fun _ => True) [(a, .inr (2, [.int f0, .int f1, .int f2, .int f3, .int f4, .int f5, .int f6, .int f7, .int f8, .int f9]))] := va_D1
  have hD := hD0.self (sz := s.heap.size)
  generalize hAe : va_A [(a, .inr (2, [.int f0, .int f1, .int f2, .int f3, .int f4, .int f5, .int f6, .int f7, .int f8, .int f9]))] s.heap.size = A at hD ⊢
  have hA : ∀ q : Nat, s.heap.size ≤ q → A q := fun q h => by rw [← hAe]; exact Or.inr h
  have hS : va_S A s.heap s.heap [] := va_S.rf
  have hl := lv_entry ([.ref a, .int p0, .int p1, .int p2]) (n := 4) (Nat.le_of_ble_eq_true rfl)
  rw [lg_entry_eq]
  generalize (lg_sl ([.ref a, .int p0, .int p1, .int p2]) ++ List.replicate (4 - (lg_sl ([.ref a, .int p0, .int p1, .int p2])).length) Slot.unset).toArray = ls at hl ⊢
  have hl : lv_has ls 4 [(0, .ref a), (1, .int p0), (2, .int p1), (3, .int p2)] := hl
  refine lv_aload_n hx hb d_I_appoint_0 rfl (lv_at hl 0 rfl) ?_
  refine lv_iconst (v := 1) hx hb d_I_appoint_1 (by decide) ?_
  refine va_put (D := D) (ci := 2) (v := .int 1) (ty := .int) (C := R_I) (T := F_I) (N := 10) hx hb hG in_I T_I T_I_ok n_I hown hK hP hD hS 0 rfl rfl 3 (by decide) (hG _ kw_292) (fun _ h9 => h9) rfl (by decide +kernel) rfl rfl (Nat.le_of_ble_eq_true rfl) d_I_appoint_2 (fun H locs hP hD hS => ?_)
  have hP : va_P D cls_ [(a, .inr (2, [.int f0, .int f1, .int f2, .int 1, .int f4, .int f5, .int f6, .int f7, .int f8, .int f9]))] H := hP
  have hD : va_D A [(a, .inr (2, [.int f0, .int f1, .int f2, .int 1, .int f4, .int f5, .int f6, .int f7, .int f8, .int f9]))] := hD
  refine lv_aload_n hx hb d_I_appoint_5 rfl (lv_at hl 0 rfl) ?_
  refine lv_iload_n hx hb d_I_appoint_6 rfl (lv_at hl 1 rfl) ?_
  refine va_put (D := D) (ci := 2) (v := .int p0) (ty := .int) (C := R_I) (T := F_I) (N := 10) hx hb hG in_I T_I T_I_ok n_I hown hK hP hD hS 0 rfl rfl 5 (by decide) (hG _ kw_296) (fun _ h9 => h9) rfl (by decide +kernel) rfl rfl (Nat.le_of_ble_eq_true rfl) d_I_appoint_7 (fun H locs hP hD hS => ?_)
  have hP : va_P D cls_ [(a, .inr (2, [.int f0, .int f1, .int f2, .int 1, .int f4, .int p0, .int f6, .int f7, .int f8, .int f9]))] H := hP
  have hD : va_D A [(a, .inr (2, [.int f0, .int f1, .int f2, .int 1, .int f4, .int p0, .int f6, .int f7, .int f8, .int f9]))] := hD
  refine lv_aload_n hx hb d_I_appoint_10 rfl (lv_at hl 0 rfl) ?_
  refine lv_iload_n hx hb d_I_appoint_11 rfl (lv_at hl 2 rfl) ?_
  refine va_put (D := D) (ci := 2) (v := .int p1) (ty := .int) (C := R_I) (T := F_I) (N := 10) hx hb hG in_I T_I T_I_ok n_I hown hK hP hD hS 0 rfl rfl 6 (by decide) (hG _ kw_298) (fun _ h9 => h9) rfl (by decide +kernel) rfl rfl (Nat.le_of_ble_eq_true rfl) d_I_appoint_12 (fun H locs hP hD hS => ?_)
  have hP : va_P D cls_ [(a, .inr (2, [.int f0, .int f1, .int f2, .int 1, .int f4, .int p0, .int p1, .int f7, .int f8, .int f9]))] H := hP
  have hD : va_D A [(a, .inr (2, [.int f0, .int f1, .int f2, .int 1, .int f4, .int p0, .int p1, .int f7, .int f8, .int f9]))] := hD
  refine lv_aload_n hx hb d_I_appoint_15 rfl (lv_at hl 0 rfl) ?_
  refine lv_iload_n hx hb d_I_appoint_16 rfl (lv_at hl 3 rfl) ?_
  refine va_put (D := D) (ci := 2) (v := .int p2) (ty := .int) (C := R_I) (T := F_I) (N := 10) hx hb hG in_I T_I T_I_ok n_I hown hK hP hD hS 0 rfl rfl 7 (by decide) (hG _ kw_300) (fun _ h9 => h9) rfl (by decide +kernel) rfl rfl (Nat.le_of_ble_eq_true rfl) d_I_appoint_17 (fun H locs hP hD hS => ?_)
  have hP : va_P D cls_ [(a, .inr (2, [.int f0, .int f1, .int f2, .int 1, .int f4, .int p0, .int p1, .int p2, .int f8, .int f9]))] H := hP
  have hD : va_D A [(a, .inr (2, [.int f0, .int f1, .int f2, .int 1, .int f4, .int p0, .int p1, .int p2, .int f8, .int f9]))] := hD
  exact W.vret hx hb hr (fun t ht hW => ⟨⟨(), rfl, trivial, by show va_P _ _ _ t.heap; rw [ht]; exact hP⟩, hS.F ht⟩) hS.2.2 d_I_appoint_20
set_option maxHeartbeats 4000000 in
set_option maxRecDepth 100000 in
theorem c_C_plan (l : Launch) (D : va_G) (cs : Nat → ClassId) (ad : Nat → Nat) (σ : Nat → Nat → Int32) (n nm ci cj E : Nat) (hI : Iv n nm ci cj) (hst : l.stackTraces = false) (sz : Nat) (p0 p1 p2 p3 : Int32) : vx_Met l y_C_plan (Cond.code y_C_plan b_C_plan 6 (some .int) :: GW) ({ frames := 8, cells := 1, slots := 6, locals := 256 }) (va_Pc [.ref (ad 0), .int p0, .int p1, .int p2, .int p3] (xr_B D cs (wC cs ad σ n nm ci cj E) sz)) (va_Qi (fun r (u : Nat → Nat → Int32) => ∃ i, i < n ∧ p0 = nI i ∧ ((0 ≤ p1 ∧ p1 ≤ 3) ∧ (σ 0 0 ≤ p2 ∧ p2 ≤ 100000) ∧ (σ 0 0 ≤ p3 ∧ p3 ≤ 100000) ∧ p2 < p3) ∧ ((((σ 23 i = 0 ∨ σ 23 i = 4) ∧ ¬ ∃ j, j < n ∧ (σ 23 j = 1 ∨ σ 23 j = 2) ∧ σ 25 j = p1 ∧ σ 26 j < p3 ∧ p2 < σ 27 j) ∧ r = 1 ∧ u = su (su (su (su σ 23 i 1) 25 i p1) 26 i p2) 27 i p3) ∨ (¬ ((σ 23 i = 0 ∨ σ 23 i = 4) ∧ ¬ ∃ j, j < n ∧ (σ 23 j = 1 ∨ σ 23 j = 2) ∧ σ 25 j = p1 ∧ σ 26 j < p3 ∧ p2 < σ 27 j) ∧ r = 0 ∧ u = σ))) (fun u => wr_T D cs (wC cs ad u n nm ci cj E) (va_A (wC cs ad σ n nm ci cj E) sz)) (va_A (wC cs ad σ n nm ci cj E) sz)) (vx_X (fun _ : Unit => ¬ ((∃ i, i < n ∧ p0 = nI i) ∧ ((0 ≤ p1 ∧ p1 ≤ 3) ∧ (σ 0 0 ≤ p2 ∧ p2 ≤ 100000) ∧ (σ 0 0 ≤ p3 ∧ p3 ≤ 100000) ∧ p2 < p3))) (fun E9 _ t => E9 = xe_A ∧ wr_T D cs (wC cs ad σ n nm ci cj E) (va_A (wC cs ad σ n nm ci cj E) sz) t) (va_A (wC cs ad σ n nm ci cj E) sz)) 1 6 (va_A (wC cs ad σ n nm ci cj E) sz) := by
  refine vx_ofW (cc := b_C_plan) (maxL := 6) (ret := (some .int)) (by decide) rfl ?_
  intro p e s m args below meth c s₁ B hml hnt hv
  obtain ⟨rfl, ⟨hsz, hP, hK, hD0⟩, hX, hZ⟩ := hv
  have hx := B.exec
  have hb := B.bytes
  have hr := B.returns
  have hts := atoms_spec (ws := Cond.code y_C_plan b_C_plan 6 (some .int) :: GW) B.pre
  have hG : ∀ w ∈ GW, w.before _ s = true := fun w h => hts w (List.mem_cons_of_mem _ h)
  have hown : s.vm.findClass R_C = some m.cls := findClass_of_methodNamed B.named
  have hlocks := B.notSynchronized
  subst hsz
  have hD := hD0.self (sz := s.heap.size)
  generalize hAe : va_A (wC cs ad σ n nm ci cj E) s.heap.size = A at hD hZ ⊢
  have hA : ∀ q : Nat, s.heap.size ≤ q → A q := fun q h => by rw [← hAe]; exact Or.inr h
  have hS : va_S A s.heap s.heap [] := va_S.rf
  have hl := lv_entry ([.ref (ad 0), .int p0, .int p1, .int p2, .int p3]) (n := 6) (Nat.le_of_ble_eq_true rfl)
  rw [lg_entry_eq]
  generalize (lg_sl ([.ref (ad 0), .int p0, .int p1, .int p2, .int p3]) ++ List.replicate (6 - (lg_sl ([.ref (ad 0), .int p0, .int p1, .int p2, .int p3])).length) Slot.unset).toArray = ls at hl ⊢
  have hl : lv_has ls 6 [(0, .ref (ad 0)), (1, .int p0), (2, .int p1), (3, .int p2), (4, .int p3)] := hl
  refine lv_aload_n hx hb d_C_plan_0 rfl (lv_at hl 0 rfl) ?_
  refine lv_iload_n hx hb d_C_plan_1 rfl (lv_at hl 1 rfl) ?_
  refine vp_callSi (W.runV (As := [.int p0]) (rest := []) ⟨hx, hb, hml, hown, hts⟩ (c_C_isInspection l D cs ad σ n nm ci cj E hI p0) (cwV 1 hts (gw_V kw_112 kw_114 ks_0_1 kw_1 kw_115) rfl rfl rfl (by decide +kernel) ⟨Nat.le_of_ble_eq_true rfl, Nat.le_of_ble_eq_true rfl⟩) (rd_V hP hK (rl_recv hK hP (RC_f (by decide)) gC_0 rfl)) rfl rfl hl.1 rfl (lv_room (Nat.le_of_ble_eq_true rfl)) d_C_plan_2 ⟨Nat.zero_le _, Nat.zero_le _⟩) (fun r_1 h_2 => ?_)
  subst h_2
  refine lv_if_eq (tgt := 17) hx hb d_C_plan_5 (by decide) (fun c_3 => ?_) (fun c_3 => ?_)
  · exact vx_throwS (own := "InspectSteps") (cls := xe_A) (text := "no such inspection or place") (names := xe_up) (ik := 68) (is := 101) (ic := 72) (A := A) hx hb hst hown (by decide) (by decide) (hG _ kw_192) (hG _ kw_10) (hX.2 (101, "no such inspection or place") (by decide)).choose_spec (xa_A hG hX) xa_A3 hZ.1 hZ.2 hS (hl.1.trans hml.symm) d_C_plan_17 d_C_plan_20 d_C_plan_21 d_C_plan_23 d_C_plan_26 (fun x h => (hnt x h).elim) (Nat.le_of_ble_eq_true rfl) (Nat.le_of_ble_eq_true rfl) (Nat.le_of_ble_eq_true rfl) (Nat.le_of_ble_eq_true rfl) hlocks (fun t ha hz hk => ⟨(), fun ⟨⟨j, hj, e9⟩, _⟩ => (b2i_eq0.mp c_3) (e9 ▸ at_not (by have := hI; unfold Iv at this; omega) hj), ⟨rfl, (thr_T hS hP hK hD ha hz hk).1⟩, (thr_T hS hP hK hD ha hz hk).2⟩) hS.2.2 (Nat.le_of_ble_eq_true rfl) (Nat.le_of_ble_eq_true rfl)
  · obtain ⟨i, hi, rfl⟩ := at_ (by have := hI; unfold Iv at this; omega) (Classical.not_not.mp (fun h => c_3 (b2i_eq0.mpr h)))
    refine lv_iload_n hx hb d_C_plan_8 rfl (lv_at hl 2 rfl) ?_
    refine lv_iconst (v := 0) hx hb d_C_plan_9 (by decide) ?_
    refine lv_iconst (v := 3) hx hb d_C_plan_10 (by decide) ?_
    refine vp_callSi (W.runS (As := [.int p1, .int 0, .int 3]) (rest := []) ⟨hx, hb, hml, hown, hts⟩ (c_C_isWithin l p1 0 3) (va_cwS 3 hts (gw_S kw_98 kw_99 kw_1 kw_100) rfl rfl rfl (by decide +kernel) ⟨Nat.le_of_ble_eq_true rfl, Nat.le_of_ble_eq_true rfl⟩) ⟨fun _ _ _ _ q => q, fun U _ _ => ⟨rfl, trivial⟩⟩ rfl rfl hl.1 rfl (lv_room (Nat.le_of_ble_eq_true rfl)) d_C_plan_11 ⟨Nat.zero_le _, Nat.zero_le _⟩) (fun r_4 h_5 => ?_)
    subst h_5
    refine lv_if_ne (tgt := 27) hx hb d_C_plan_14 (by decide) (fun c_6 => ?_) (fun c_6 => ?_)
    · refine lv_aload_n hx hb d_C_plan_27 rfl (lv_at hl 0 rfl) ?_
      refine lv_iload_n hx hb d_C_plan_28 rfl (lv_at hl 3 rfl) ?_
      refine vp_callSi (W.runV (As := [.int p2]) (rest := []) ⟨hx, hb, hml, hown, hts⟩ (c_C_isTimeToCome l D cs ad σ n nm ci cj E hI p2) (cwV 1 hts (gw_V kw_260 kw_262 ks_0_6 kw_1 kw_263) rfl rfl rfl (by decide +kernel) ⟨Nat.le_of_ble_eq_true rfl, Nat.le_of_ble_eq_true rfl⟩) (rd_V hP hK (rl_recv hK hP (RC_f (by decide)) gC_0 rfl)) rfl rfl hl.1 rfl (lv_room (Nat.le_of_ble_eq_true rfl)) d_C_plan_29 ⟨Nat.zero_le _, Nat.zero_le _⟩) (fun r_7 h_8 => ?_)
      subst h_8
      refine lv_if_eq (tgt := 50) hx hb d_C_plan_32 (by decide) (fun c_9 => ?_) (fun c_9 => ?_)
      · exact vx_throwS (own := "InspectSteps") (cls := xe_A) (text := "no times from now on, in order") (names := xe_up) (ik := 68) (is := 103) (ic := 72) (A := A) hx hb hst hown (by decide) (by decide) (hG _ kw_192) (hG _ kw_10) (hX.2 (103, "no times from now on, in order") (by decide)).choose_spec (xa_A hG hX) xa_A3 hZ.1 hZ.2 hS (hl.1.trans hml.symm) d_C_plan_50 d_C_plan_53 d_C_plan_54 d_C_plan_56 d_C_plan_59 (fun x h => (hnt x h).elim) (Nat.le_of_ble_eq_true rfl) (Nat.le_of_ble_eq_true rfl) (Nat.le_of_ble_eq_true rfl) (Nat.le_of_ble_eq_true rfl) hlocks (fun t ha hz hk => ⟨(), fun h9 => by have h8 := h9.2; (try simp only [b2i_eq0, Classical.not_not] at c_6 c_9); simp only [i32_eq, i32_lt, i32_le, i32_nm1, i32_n0, i32_n1, i32_n2, i32_n3, i32_n4, i32_n5, i32_n6, i32_n7, i32_n8, i32_n9, i32_n10, i32_n20, i32_n30, i32_n31, i32_n39, i32_n40, i32_n49, i32_n50, i32_n100, i32_n160, i32_n1000, i32_n100000, i32_n1000000] at c_6 c_9 h8; omega, ⟨rfl, (thr_T hS hP hK hD ha hz hk).1⟩, (thr_T hS hP hK hD ha hz hk).2⟩) hS.2.2 (Nat.le_of_ble_eq_true rfl) (Nat.le_of_ble_eq_true rfl)
      · refine lv_aload_n hx hb d_C_plan_35 rfl (lv_at hl 0 rfl) ?_
        refine lv_iload hx hb d_C_plan_36 (lv_at hl 4 rfl) ?_
        refine vp_callSi (W.runV (As := [.int p3]) (rest := []) ⟨hx, hb, hml, hown, hts⟩ (c_C_isTimeToCome l D cs ad σ n nm ci cj E hI p3) (cwV 1 hts (gw_V kw_260 kw_262 ks_0_6 kw_1 kw_263) rfl rfl rfl (by decide +kernel) ⟨Nat.le_of_ble_eq_true rfl, Nat.le_of_ble_eq_true rfl⟩) (rd_V hP hK (rl_recv hK hP (RC_f (by decide)) gC_0 rfl)) rfl rfl hl.1 rfl (lv_room (Nat.le_of_ble_eq_true rfl)) d_C_plan_38 ⟨Nat.zero_le _, Nat.zero_le _⟩) (fun r_10 h_11 => ?_)
        subst h_11
        refine lv_if_eq (tgt := 50) hx hb d_C_plan_41 (by decide) (fun c_12 => ?_) (fun c_12 => ?_)
        · exact vx_throwS (own := "InspectSteps") (cls := xe_A) (text := "no times from now on, in order") (names := xe_up) (ik := 68) (is := 103) (ic := 72) (A := A) hx hb hst hown (by decide) (by decide) (hG _ kw_192) (hG _ kw_10) (hX.2 (103, "no times from now on, in order") (by decide)).choose_spec (xa_A hG hX) xa_A3 hZ.1 hZ.2 hS (hl.1.trans hml.symm) d_C_plan_50 d_C_plan_53 d_C_plan_54 d_C_plan_56 d_C_plan_59 (fun x h => (hnt x h).elim) (Nat.le_of_ble_eq_true rfl) (Nat.le_of_ble_eq_true rfl) (Nat.le_of_ble_eq_true rfl) (Nat.le_of_ble_eq_true rfl) hlocks (fun t ha hz hk => ⟨(), fun h9 => by have h8 := h9.2; (try simp only [b2i_eq0, Classical.not_not] at c_6 c_9 c_12); simp only [i32_eq, i32_lt, i32_le, i32_nm1, i32_n0, i32_n1, i32_n2, i32_n3, i32_n4, i32_n5, i32_n6, i32_n7, i32_n8, i32_n9, i32_n10, i32_n20, i32_n30, i32_n31, i32_n39, i32_n40, i32_n49, i32_n50, i32_n100, i32_n160, i32_n1000, i32_n100000, i32_n1000000] at c_6 c_9 c_12 h8; omega, ⟨rfl, (thr_T hS hP hK hD ha hz hk).1⟩, (thr_T hS hP hK hD ha hz hk).2⟩) hS.2.2 (Nat.le_of_ble_eq_true rfl) (Nat.le_of_ble_eq_true rfl)
        · refine lv_iload_n hx hb d_C_plan_44 rfl (lv_at hl 3 rfl) ?_
          refine lv_iload hx hb d_C_plan_45 (lv_at hl 4 rfl) ?_
          refine lv_icmp_lt (tgt := 60) hx hb d_C_plan_47 (by decide) (fun c_13 => ?_) (fun c_13 => ?_)
          · refine lv_aload_n hx hb d_C_plan_60 rfl (lv_at hl 0 rfl) ?_
            refine rl_get (r := 0) (ci := 1) (v := .ref (ad 1)) (C := R_C) (T := F_C) (N := 10) hx hb hG in_C hown hK hP (RC_f (by decide)) gC_0 rfl 0 (by decide) kw_59 (fun _ h9 => h9) rfl d_C_plan_61 ?_
            refine lv_iload_n hx hb d_C_plan_64 rfl (lv_at hl 1 rfl) ?_
            refine va_csr (W.runV (As := [.int (nI i)]) (rest := []) ⟨hx, hb, hml, hown, hts⟩ (c_Al_get l D (tys_ cs) (ad 1) (ad 3) n ci i (ad (100 + i)) (σ 7 0) (cs 2) (rowsF 100 n ad) hi hI.2.2.1 (by have := hI; unfold Iv at this; omega) 2 rfl (if_pos hi)) (cwV 1 hts (gw_V kw_120 kw_121 kw_122 kw_4 kw_123) rfl rfl rfl (by decide +kernel) ⟨Nat.le_of_ble_eq_true rfl, Nat.le_of_ble_eq_true rfl⟩) (rd_V (rl_two hP (RC_f (by decide)) (gC_1 (Nat.lt_of_le_of_lt (Nat.zero_le _) hi)) (RC_3 (Nat.lt_of_le_of_lt (Nat.zero_le _) hi)) gC_3) hK (rl_recv hK hP (RC_f (by decide)) (gC_1 (Nat.lt_of_le_of_lt (Nat.zero_le _) hi)) rfl)) rfl rfl hl.1 rfl (lv_room (Nat.le_of_ble_eq_true rfl)) d_C_plan_65 ⟨Nat.zero_le _, Nat.zero_le _⟩) (fun r_14 h_15 => ?_)
            subst h_15
            refine va_castS hx hb hown (hG _ kw_134) ((hK.1 2 _ rfl).2) (rl_recv hK hP (RC_ins hi) (gC_ins (by have := hI; unfold Iv at this; omega)) rfl) d_C_plan_68 ?_
            refine lv_astore (lv' := [(5, .ref (ad (100 + i))), (0, .ref (ad 0)), (1, .int (nI i)), (2, .int p1), (3, .int p2), (4, .int p3)]) hx hb d_C_plan_71 hl (by decide) rfl (fun ls hl => ?_)
            refine lv_aload hx hb d_C_plan_73 (lv_at hl 0 rfl) ?_
            refine vp_callSi (W.runV (As := []) (rest := []) ⟨hx, hb, hml, hown, hts⟩ (c_I_canBePlanned l D (tys_ cs) (ad (100 + i)) (σ 20 i) (σ 21 i) (σ 22 i) (σ 23 i) (σ 24 i) (σ 25 i) (σ 26 i) (σ 27 i) (σ 28 i) (σ 29 i)) (cwV 0 hts (gw_V kw_391 kw_392 kw_393 kw_12 kw_394) rfl rfl rfl (by decide +kernel) ⟨Nat.le_of_ble_eq_true rfl, Nat.le_of_ble_eq_true rfl⟩) (rd_V (rl_one hP (RC_ins hi) (gC_ins (by have := hI; unfold Iv at this; omega))) hK (rl_recv hK hP (RC_ins hi) (gC_ins (by have := hI; unfold Iv at this; omega)) rfl)) rfl rfl hl.1 rfl (lv_room (Nat.le_of_ble_eq_true rfl)) d_C_plan_75 ⟨Nat.zero_le _, Nat.zero_le _⟩) (fun r_16 h_17 => ?_)
            subst h_17
            refine lv_if_eq (tgt := 92) hx hb d_C_plan_78 (by decide) (fun c_18 => ?_) (fun c_18 => ?_)
            · refine lv_iconst (v := 0) hx hb d_C_plan_92 (by decide) ?_
              refine W.widen (k := 1) (n := 6) (Nat.zero_le _) (Nat.zero_le _) (vx_ret ?_)
              exact W.iret (v := 0) hx hb hr (fun t ht hW => ⟨⟨0, σ, rfl, ⟨i, hi, rfl, by (try simp only [b2i_eq0, Classical.not_not] at c_6 c_9 c_12 c_13); simp only [i32_eq, i32_lt, i32_le, i32_nm1, i32_n0, i32_n1, i32_n2, i32_n3, i32_n4, i32_n5, i32_n6, i32_n7, i32_n8, i32_n9, i32_n10, i32_n20, i32_n30, i32_n31, i32_n39, i32_n40, i32_n49, i32_n50, i32_n100, i32_n160, i32_n1000, i32_n100000, i32_n1000000] at c_6 c_9 c_12 c_13 ⊢; omega, Or.inr ⟨fun h9 => (b2i_eq0.mp c_18) h9.1, rfl, rfl⟩⟩, by rw [ht]; exact hP, va_K.moved hW.alike hK, hD⟩, hS.F ht⟩) hS.2.2 d_C_plan_93
            · refine lv_aload_n hx hb d_C_plan_81 rfl (lv_at hl 1 rfl) ?_
              refine lv_iload_n hx hb d_C_plan_82 rfl (lv_at hl 3 rfl) ?_
              refine lv_iload_n hx hb d_C_plan_83 rfl (lv_at hl 4 rfl) ?_
              refine lv_iload hx hb d_C_plan_84 (lv_at hl 5 rfl) ?_
              refine vp_callSi (W.runV (As := [.int p1, .int p2, .int p3]) (rest := []) ⟨hx, hb, hml, hown, hts⟩ (c_C_isTaken l D cs ad σ n nm ci cj E hI p1 p2 p3) (cwV 3 hts (gw_V kw_395 kw_397 ks_0_10 kw_1 kw_398) rfl rfl rfl (by decide +kernel) ⟨Nat.le_of_ble_eq_true rfl, Nat.le_of_ble_eq_true rfl⟩) (rd_V hP hK (rl_recv hK hP (RC_f (by decide)) gC_0 rfl)) rfl rfl hl.1 rfl (lv_room (Nat.le_of_ble_eq_true rfl)) d_C_plan_86 ⟨Nat.zero_le _, Nat.zero_le _⟩) (fun r_19 h_20 => ?_)
              subst h_20
              refine lv_if_eq (tgt := 94) hx hb d_C_plan_89 (by decide) (fun c_21 => ?_) (fun c_21 => ?_)
              · refine lv_aload hx hb d_C_plan_94 (lv_at hl 0 rfl) ?_
                refine lv_iload_n hx hb d_C_plan_96 rfl (lv_at hl 3 rfl) ?_
                refine lv_iload_n hx hb d_C_plan_97 rfl (lv_at hl 4 rfl) ?_
                refine lv_iload hx hb d_C_plan_98 (lv_at hl 5 rfl) ?_
                have hFc := rl_free1 (r := 100 + i) (x := .inr (2, insF σ i)) hD hS hA (RC_ins hi)
                refine va_callv (va_runV (As := [.int p1, .int p2, .int p3]) (rest := []) ⟨hx, hb, hml, hown, hts⟩ (c_I_appoint l D (tys_ cs) (ad (100 + i)) (σ 20 i) (σ 21 i) (σ 22 i) (σ 23 i) (σ 24 i) (σ 25 i) (σ 26 i) (σ 27 i) (σ 28 i) (σ 29 i) p1 p2 p3 s.heap.size) (cwV 3 hts (gw_V kw_407 kw_408 kw_409 kw_12 kw_410) rfl rfl rfl (by decide +kernel) ⟨Nat.le_of_ble_eq_true rfl, Nat.le_of_ble_eq_true rfl⟩) (w1_V (rl_one hP (RC_ins hi) (gC_ins (by have := hI; unfold Iv at this; omega))) hK (rl_recv hK hP (RC_ins hi) (gC_ins (by have := hI; unfold Iv at this; omega)) rfl)) rfl rfl hl.1 rfl (lv_room (Nat.le_of_ble_eq_true rfl)) d_C_plan_100 ⟨Nat.le_of_ble_eq_true rfl, Nat.le_of_ble_eq_true rfl⟩) hS (fun q _ h => hFc q h) hFc (fun u t H1 locs ht hvm hw hB hz1 hk1 hS => ?_)
                rw [ht] at hB
                obtain ⟨hP, hD⟩ := rl_join1 (r := 100 + i) (x := .inr (2, insF σ i)) hP hD (RC_ins hi) hk1 hB
                have eN : ([.int (σ 20 i), .int (σ 21 i), .int (σ 22 i), .int 1, .int (σ 24 i), .int p1, .int p2, .int p3, .int (σ 28 i), .int (σ 29 i)] : List Value) = insF (su (su (su (su σ 23 i 1) 25 i p1) 26 i p2) 27 i p3) i := by simp [insF, su]
                rw [eN, wC_insG (σ' := su (su (su (su σ 23 i 1) 25 i p1) 26 i p2) 27 i p3) (hn_ hI) (hm_ hI) (by have := hI; unfold Iv at this; omega) (fun k b h9 => by unfold su; repeat rw [if_neg (by omega)])] at hP hD
                refine lv_iconst (v := 1) hx hb d_C_plan_103 (by decide) ?_
                refine W.widen (k := 1) (n := 6) (Nat.zero_le _) (Nat.zero_le _) (vx_ret ?_)
                exact W.iret (v := 1) hx hb hr (fun t ht hW => ⟨⟨1, su (su (su (su σ 23 i 1) 25 i p1) 26 i p2) 27 i p3, rfl, ⟨i, hi, rfl, by (try simp only [b2i_eq0, Classical.not_not] at c_6 c_9 c_12 c_13); simp only [i32_eq, i32_lt, i32_le, i32_nm1, i32_n0, i32_n1, i32_n2, i32_n3, i32_n4, i32_n5, i32_n6, i32_n7, i32_n8, i32_n9, i32_n10, i32_n20, i32_n30, i32_n31, i32_n39, i32_n40, i32_n49, i32_n50, i32_n100, i32_n160, i32_n1000, i32_n100000, i32_n1000000] at c_6 c_9 c_12 c_13 ⊢; omega, Or.inl ⟨⟨Classical.not_not.mp (fun h => c_18 (b2i_eq0.mpr h)), b2i_eq0.mp c_21⟩, rfl, rfl⟩⟩, by rw [ht]; exact hP, va_K.moved hW.alike hK, hD⟩, hS.F ht⟩) hS.2.2 d_C_plan_104
              · refine lv_iconst (v := 0) hx hb d_C_plan_92 (by decide) ?_
                refine W.widen (k := 1) (n := 6) (Nat.zero_le _) (Nat.zero_le _) (vx_ret ?_)
                exact W.iret (v := 0) hx hb hr (fun t ht hW => ⟨⟨0, σ, rfl, ⟨i, hi, rfl, by (try simp only [b2i_eq0, Classical.not_not] at c_6 c_9 c_12 c_13); simp only [i32_eq, i32_lt, i32_le, i32_nm1, i32_n0, i32_n1, i32_n2, i32_n3, i32_n4, i32_n5, i32_n6, i32_n7, i32_n8, i32_n9, i32_n10, i32_n20, i32_n30, i32_n31, i32_n39, i32_n40, i32_n49, i32_n50, i32_n100, i32_n160, i32_n1000, i32_n100000, i32_n1000000] at c_6 c_9 c_12 c_13 ⊢; omega, Or.inr ⟨fun h9 => h9.2 (Classical.not_not.mp (fun h => c_21 (b2i_eq0.mpr h))), rfl, rfl⟩⟩, by rw [ht]; exact hP, va_K.moved hW.alike hK, hD⟩, hS.F ht⟩) hS.2.2 d_C_plan_93
          · exact vx_throwS (own := "InspectSteps") (cls := xe_A) (text := "no times from now on, in order") (names := xe_up) (ik := 68) (is := 103) (ic := 72) (A := A) hx hb hst hown (by decide) (by decide) (hG _ kw_192) (hG _ kw_10) (hX.2 (103, "no times from now on, in order") (by decide)).choose_spec (xa_A hG hX) xa_A3 hZ.1 hZ.2 hS (hl.1.trans hml.symm) d_C_plan_50 d_C_plan_53 d_C_plan_54 d_C_plan_56 d_C_plan_59 (fun x h => (hnt x h).elim) (Nat.le_of_ble_eq_true rfl) (Nat.le_of_ble_eq_true rfl) (Nat.le_of_ble_eq_true rfl) (Nat.le_of_ble_eq_true rfl) hlocks (fun t ha hz hk => ⟨(), fun h9 => by have h8 := h9.2; (try simp only [b2i_eq0, Classical.not_not] at c_6 c_9 c_12 c_13); simp only [i32_eq, i32_lt, i32_le, i32_nm1, i32_n0, i32_n1, i32_n2, i32_n3, i32_n4, i32_n5, i32_n6, i32_n7, i32_n8, i32_n9, i32_n10, i32_n20, i32_n30, i32_n31, i32_n39, i32_n40, i32_n49, i32_n50, i32_n100, i32_n160, i32_n1000, i32_n100000, i32_n1000000] at c_6 c_9 c_12 c_13 h8; omega, ⟨rfl, (thr_T hS hP hK hD ha hz hk).1⟩, (thr_T hS hP hK hD ha hz hk).2⟩) hS.2.2 (Nat.le_of_ble_eq_true rfl) (Nat.le_of_ble_eq_true rfl)
    · exact vx_throwS (own := "InspectSteps") (cls := xe_A) (text := "no such inspection or place") (names := xe_up) (ik := 68) (is := 101) (ic := 72) (A := A) hx hb hst hown (by decide) (by decide) (hG _ kw_192) (hG _ kw_10) (hX.2 (101, "no such inspection or place") (by decide)).choose_spec (xa_A hG hX) xa_A3 hZ.1 hZ.2 hS (hl.1.trans hml.symm) d_C_plan_17 d_C_plan_20 d_C_plan_21 d_C_plan_23 d_C_plan_26 (fun x h => (hnt x h).elim) (Nat.le_of_ble_eq_true rfl) (Nat.le_of_ble_eq_true rfl) (Nat.le_of_ble_eq_true rfl) (Nat.le_of_ble_eq_true rfl) hlocks (fun t ha hz hk => ⟨(), fun h9 => by have h8 := h9.2; (try simp only [b2i_eq0, Classical.not_not] at c_6); simp only [i32_eq, i32_lt, i32_le, i32_nm1, i32_n0, i32_n1, i32_n2, i32_n3, i32_n4, i32_n5, i32_n6, i32_n7, i32_n8, i32_n9, i32_n10, i32_n20, i32_n30, i32_n31, i32_n39, i32_n40, i32_n49, i32_n50, i32_n100, i32_n160, i32_n1000, i32_n100000, i32_n1000000] at c_6 h8; omega, ⟨rfl, (thr_T hS hP hK hD ha hz hk).1⟩, (thr_T hS hP hK hD ha hz hk).2⟩) hS.2.2 (Nat.le_of_ble_eq_true rfl) (Nat.le_of_ble_eq_true rfl)
end
section
def lateF (due t : Int32) : Int32 := if t ≤ due then 0 else (t - due - 1) / 100 + 1
def minF (x y : Int32) : Int32 := if y < x then y else x
noncomputable def ifQ (P : Prop) (a b : Int32) : Int32 := ifP P a b
/-- how often an inspection passes up between two times -/
noncomputable def puF (due st lev b u : Int32) : Int32 := ifP (¬ st = 3 ∧ ¬ st = 5) (minF (lateF due u - lateF due b) (3 - lev)) 0
noncomputable def puL (due st lev b u : Int32) : Int32 := ifP (¬ st = 3 ∧ ¬ st = 5) (lev + minF (lateF due u - lateF due b) (3 - lev)) lev
set_option maxHeartbeats 4000000 in
set_option maxRecDepth 100000 in
theorem c_I_passUp (l : Launch) (D : va_G) (tys : List (ClassId × FieldType)) (a : Nat) (f0 f1 f2 f3 f4 f5 f6 f7 f8 f9 : Int32) (p0 p1 : Int32) (sz : Nat) : Met l y_I_passUp (Cond.code y_I_passUp b_I_passUp 4 (some .int) :: GW) ({ frames := 1, cells := 0, slots := 0, locals := 32 }) (va_Pc [.ref a, .int p0, .int p1] (w1_B D tys a (.inr (2, [.int f0, .int f1, .int f2, .int f3, .int f4, .int f5, .int f6, .int f7, .int f8, .int f9])) sz)) (va_Qi (fun r (_ : Unit) => r = puF f2 f3 f4 p0 p1) (fun _ t => va_P D cls_ [(a, .inr (2, [.int f0, .int f1, .int f2, .int f3, .int (puL f2 f3 f4 p0 p1), .int f5, .int f6, .int f7, .int f8, .int f9]))] t.heap) (va_A [(a, .inr (2, [.int f0, .int f1, .int f2, .int f3, .int f4, .int f5, .int f6, .int f7, .int f8, .int f9]))] sz)) 0 0 (va_A [(a, .inr (2, [.int f0, .int f1, .int f2, .int f3, .int f4, .int f5, .int f6, .int f7, .int f8, .int f9]))] sz) := by
  refine Met.ofW (cc := b_I_passUp) (maxL := 4) (ret := (some .int)) (by decide) rfl ?_
  intro p e s m args below meth c s₁ B hml hv
  obtain ⟨rfl, hsz, hP, hK⟩ := hv
  have hx := B.exec
  have hb := B.bytes
  have hr := B.returns
  have hts := atoms_spec (ws := Cond.code y_I_passUp b_I_passUp 4 (some .int) :: GW) B.pre
  have hG : ∀ w ∈ GW, w.before _ s = true := fun w h => hts w (List.mem_cons_of_mem _ h)
  have hown : s.vm.findClass R_I = some m.cls := findClass_of_methodNamed B.named
  have hlocks := B.notSynchronized
  subst hsz
  have hD0 : va_D (fun _ => True) [(a, .inr (2, [.int f0, .int f1, .int f2, .int f3, .int f4, .int f5, .int f6, .int f7, .int f8, .int f9]))] := va_D1
  have hD := hD0.self (sz := s.heap.size)
  generalize hAe : va_A [(a, .inr (2, [.int f0, .int f1, .int f2, .int f3, .int f4, .int f5, .int f6, .int f7, .int f8, .int f9]))] s.heap.size = A at hD ⊢
  have hA : ∀ q : Nat, s.heap.size ≤ q → A q := fun q h => by rw [← hAe]; exact Or.inr h
  have hS : va_S A s.heap s.heap [] := va_S.rf
  have hl := lv_entry ([.ref a, .int p0, .int p1]) (n := 4) (Nat.le_of_ble_eq_true rfl)
  rw [lg_entry_eq]
  generalize (lg_sl ([.ref a, .int p0, .int p1]) ++ List.replicate (4 - (lg_sl ([.ref a, .int p0, .int p1])).length) Slot.unset).toArray = ls at hl ⊢
  have hl : lv_has ls 4 [(0, .ref a), (1, .int p0), (2, .int p1)] := hl
  refine lv_aload_n hx hb d_I_passUp_0 rfl (lv_at hl 0 rfl) ?_
  refine vp_callSi (W.runV (As := []) (rest := []) ⟨hx, hb, hml, hown, hts⟩ (c_I_isPending l D tys a f0 f1 f2 f3 f4 f5 f6 f7 f8 f9) (cwV 0 hts (gw_V kw_520 kw_521 kw_522 kw_12 kw_523) rfl rfl rfl (by decide +kernel) ⟨Nat.le_of_ble_eq_true rfl, Nat.le_of_ble_eq_true rfl⟩) (rd_V hP hK (va_recv hK hP (ci := 2) (q0 := 0) rfl rfl)) rfl rfl hl.1 rfl (lv_room (Nat.le_of_ble_eq_true rfl)) d_I_passUp_1 ⟨Nat.zero_le _, Nat.zero_le _⟩) (fun r_1 h_2 => ?_)
  subst h_2
  refine lv_if_ne (tgt := 9) hx hb d_I_passUp_4 (by decide) (fun c_3 => ?_) (fun c_3 => ?_)
  · refine lv_aload_n hx hb d_I_passUp_9 rfl (lv_at hl 0 rfl) ?_
    refine lv_iload_n hx hb d_I_passUp_10 rfl (lv_at hl 2 rfl) ?_
    refine vp_callSi (W.runV (As := [.int p1]) (rest := []) ⟨hx, hb, hml, hown, hts⟩ (c_I_lateTimes l D tys a f0 f1 f2 f3 f4 f5 f6 f7 f8 f9 p1) (cwV 1 hts (gw_V kw_524 kw_526 ks_0_13 kw_12 kw_527) rfl rfl rfl (by decide +kernel) ⟨Nat.le_of_ble_eq_true rfl, Nat.le_of_ble_eq_true rfl⟩) (rd_V hP hK (va_recv hK hP (ci := 2) (q0 := 0) rfl rfl)) rfl rfl hl.1 rfl (lv_room (Nat.le_of_ble_eq_true rfl)) d_I_passUp_11 ⟨Nat.zero_le _, Nat.zero_le _⟩) (fun r_4 h_5 => ?_)
    subst h_5
    refine lv_aload_n hx hb d_I_passUp_14 rfl (lv_at hl 0 rfl) ?_
    refine lv_iload_n hx hb d_I_passUp_15 rfl (lv_at hl 1 rfl) ?_
    refine vp_callSi (W.runV (As := [.int p0]) (rest := [.int (lateF f2 p1)]) ⟨hx, hb, hml, hown, hts⟩ (c_I_lateTimes l D tys a f0 f1 f2 f3 f4 f5 f6 f7 f8 f9 p0) (cwV 1 hts (gw_V kw_524 kw_526 ks_0_13 kw_12 kw_527) rfl rfl rfl (by decide +kernel) ⟨Nat.le_of_ble_eq_true rfl, Nat.le_of_ble_eq_true rfl⟩) (rd_V hP hK (va_recv hK hP (ci := 2) (q0 := 0) rfl rfl)) rfl rfl hl.1 rfl (lv_room (Nat.le_of_ble_eq_true rfl)) d_I_passUp_16 ⟨Nat.zero_le _, Nat.zero_le _⟩) (fun r_6 h_7 => ?_)
    subst h_7
    refine lv_isub hx hb d_I_passUp_19 ?_
    refine lv_iconst (v := 3) hx hb d_I_passUp_20 (by decide) ?_
    refine lv_aload_n hx hb d_I_passUp_21 rfl (lv_at hl 0 rfl) ?_
    refine va_get (D := D) (ci := 2) (v := .int f4) (C := R_I) (T := F_I) (N := 10) hx hb hG in_I hown hK hP 0 rfl rfl 4 (by decide) (hG _ kw_294) (fun _ h9 => h9) rfl d_I_passUp_22 ?_
    refine lv_isub hx hb d_I_passUp_25 ?_
    refine va_mmin hx hb (hml.trans hl.1.symm) hown (hG _ kw_528) (hG _ kw_375) (hG _ kw_14) (hG _ ka_min) (Nat.le_of_ble_eq_true rfl) (Nat.le_of_ble_eq_true rfl) (Nat.zero_le _) (Nat.zero_le _) (x := (lateF f2 p1) - (lateF f2 p0)) (y := 3 - f4) d_I_passUp_26 ?_
    refine W.eq (g2 := F0 m 29 ls [.int (minF ((lateF f2 p1) - (lateF f2 p0)) (3 - f4))]) rfl ?_
    refine lv_istore_n (lv' := [(3, .int (minF ((lateF f2 p1) - (lateF f2 p0)) (3 - f4))), (0, .ref a), (1, .int p0), (2, .int p1)]) hx hb d_I_passUp_29 rfl hl (by decide) rfl (fun ls hl => ?_)
    refine lv_aload_n hx hb d_I_passUp_30 rfl (lv_at hl 1 rfl) ?_
    refine lv_dup hx hb d_I_passUp_31 rfl ?_
    refine va_get (D := D) (ci := 2) (v := .int f4) (C := R_I) (T := F_I) (N := 10) hx hb hG in_I hown hK hP 0 rfl rfl 4 (by decide) (hG _ kw_294) (fun _ h9 => h9) rfl d_I_passUp_32 ?_
    refine lv_iload_n hx hb d_I_passUp_35 rfl (lv_at hl 0 rfl) ?_
    refine lv_iadd hx hb d_I_passUp_36 ?_
    refine va_put (D := D) (ci := 2) (v := .int (f4 + (minF ((lateF f2 p1) - (lateF f2 p0)) (3 - f4)))) (ty := .int) (C := R_I) (T := F_I) (N := 10) hx hb hG in_I T_I T_I_ok n_I hown hK hP hD hS 0 rfl rfl 4 (by decide) (hG _ kw_294) (fun _ h9 => h9) rfl (by decide +kernel) rfl rfl (Nat.le_of_ble_eq_true rfl) d_I_passUp_37 (fun H locs hP hD hS => ?_)
    have hP : va_P D cls_ [(a, .inr (2, [.int f0, .int f1, .int f2, .int f3, .int (f4 + (minF ((lateF f2 p1) - (lateF f2 p0)) (3 - f4))), .int f5, .int f6, .int f7, .int f8, .int f9]))] H := hP
    have hD : va_D A [(a, .inr (2, [.int f0, .int f1, .int f2, .int f3, .int (f4 + (minF ((lateF f2 p1) - (lateF f2 p0)) (3 - f4))), .int f5, .int f6, .int f7, .int f8, .int f9]))] := hD
    refine lv_iload_n hx hb d_I_passUp_40 rfl (lv_at hl 0 rfl) ?_
    exact W.iret (v := minF ((lateF f2 p1) - (lateF f2 p0)) (3 - f4)) hx hb hr (fun t ht hW => ⟨⟨_, (), rfl, (ifP_t (Classical.not_not.mp (fun h => c_3 (b2i_eq0.mpr h)))).symm, by show va_P _ _ _ t.heap; rw [ht, show puL f2 f3 f4 p0 p1 = f4 + minF (lateF f2 p1 - lateF f2 p0) (3 - f4) from ifP_t (Classical.not_not.mp (fun h => c_3 (b2i_eq0.mpr h)))]; exact hP⟩, hS.F ht⟩) hS.2.2 d_I_passUp_41
  · refine lv_iconst (v := 0) hx hb d_I_passUp_7 (by decide) ?_
    exact W.iret (v := 0) hx hb hr (fun t ht hW => ⟨⟨_, (), rfl, (ifP_f (b2i_eq0.mp c_3)).symm, by show va_P _ _ _ t.heap; rw [ht, show puL f2 f3 f4 p0 p1 = f4 from ifP_f (b2i_eq0.mp c_3)]; exact hP⟩, hS.F ht⟩) hS.2.2 d_I_passUp_8
end
