section
-- ===== PART A: goes FIRST, ahead of the names: the tables' words, and 'selects' of the private methods out of them =====
/-- a private method of a class that the tables say can be made, by its rows of tables_1 -/
def lw_okq (q : MethodName × Nat) : Prop := (q.1.cls ≠ "java/lang/invoke/MethodHandle" ∧ q.1.cls ≠ "java/lang/invoke/VarHandle") ∧ Cond.instantiable q.1.cls q.2 ∈ tables_1 ∧ Cond.privateMethod q.1 ∈ tables_1 ∧ Cond.instanceMethod q.1 ∈ tables_1
theorem lw_p0 : lw_okq (⟨"TraceBook$Reader", "readMoment", "()LTraceBook$Moment;"⟩, 5) := ⟨⟨by decide +kernel, by decide +kernel⟩, List.mem_of_getElem? (i := 173) (by decide +kernel), List.mem_of_getElem? (i := 199) (by decide +kernel), List.mem_of_getElem? (i := 200) (by decide +kernel)⟩
theorem lw_p1 : lw_okq (⟨"TraceBook$Reader", "readCount", "()J"⟩, 5) := ⟨⟨by decide +kernel, by decide +kernel⟩, List.mem_of_getElem? (i := 173) (by decide +kernel), List.mem_of_getElem? (i := 203) (by decide +kernel), List.mem_of_getElem? (i := 204) (by decide +kernel)⟩
theorem lw_p2 : lw_okq (⟨"TraceBook$Reader", "readCountWithin", "(JJ)J"⟩, 5) := ⟨⟨by decide +kernel, by decide +kernel⟩, List.mem_of_getElem? (i := 173) (by decide +kernel), List.mem_of_getElem? (i := 248) (by decide +kernel), List.mem_of_getElem? (i := 249) (by decide +kernel)⟩
theorem lw_p3 : lw_okq (⟨"TraceBook$Reader", "readChange", "(Ljava/util/ArrayList;)V"⟩, 5) := ⟨⟨by decide +kernel, by decide +kernel⟩, List.mem_of_getElem? (i := 173) (by decide +kernel), List.mem_of_getElem? (i := 282) (by decide +kernel), List.mem_of_getElem? (i := 283) (by decide +kernel)⟩
theorem lw_p4 : lw_okq (⟨"java/util/ArrayList", "add", "(Ljava/lang/Object;[Ljava/lang/Object;I)V"⟩, 3) := ⟨⟨by decide +kernel, by decide +kernel⟩, List.mem_of_getElem? (i := 81) (by decide +kernel), List.mem_of_getElem? (i := 336) (by decide +kernel), List.mem_of_getElem? (i := 337) (by decide +kernel)⟩
theorem lw_p5 : lw_okq (⟨"java/util/ArrayList", "grow", "()[Ljava/lang/Object;"⟩, 3) := ⟨⟨by decide +kernel, by decide +kernel⟩, List.mem_of_getElem? (i := 81) (by decide +kernel), List.mem_of_getElem? (i := 340) (by decide +kernel), List.mem_of_getElem? (i := 341) (by decide +kernel)⟩
theorem lw_p6 : lw_okq (⟨"java/util/ArrayList", "grow", "(I)[Ljava/lang/Object;"⟩, 3) := ⟨⟨by decide +kernel, by decide +kernel⟩, List.mem_of_getElem? (i := 81) (by decide +kernel), List.mem_of_getElem? (i := 344) (by decide +kernel), List.mem_of_getElem? (i := 345) (by decide +kernel)⟩
theorem lw_p7 : lw_okq (⟨"TraceBook$Row", "writeMoment", "(LTraceBook$Moment;)V"⟩, 3) := ⟨⟨by decide +kernel, by decide +kernel⟩, List.mem_of_getElem? (i := 73) (by decide +kernel), List.mem_of_getElem? (i := 397) (by decide +kernel), List.mem_of_getElem? (i := 398) (by decide +kernel)⟩
theorem lw_p8 : lw_okq (⟨"TraceBook$Row", "keepValue", "(LTraceBook$Change;)V"⟩, 3) := ⟨⟨by decide +kernel, by decide +kernel⟩, List.mem_of_getElem? (i := 73) (by decide +kernel), List.mem_of_getElem? (i := 426) (by decide +kernel), List.mem_of_getElem? (i := 427) (by decide +kernel)⟩
theorem lw_p9 : lw_okq (⟨"TraceBook", "takeSpareRow", "()V"⟩, 6) := ⟨⟨by decide +kernel, by decide +kernel⟩, List.mem_of_getElem? (i := 32) (by decide +kernel), List.mem_of_getElem? (i := 433) (by decide +kernel), List.mem_of_getElem? (i := 434) (by decide +kernel)⟩
theorem lw_p10 : lw_okq (⟨"java/lang/Throwable", "fillInStackTrace", "(I)Ljava/lang/Throwable;"⟩, 6) := ⟨⟨by decide +kernel, by decide +kernel⟩, List.mem_of_getElem? (i := 485) (by decide +kernel), List.mem_of_getElem? (i := 483) (by decide +kernel), List.mem_of_getElem? (i := 484) (by decide +kernel)⟩
theorem lw_p11 : lw_okq (⟨"TraceBook", "closeOpenMoment", "()Z"⟩, 6) := ⟨⟨by decide +kernel, by decide +kernel⟩, List.mem_of_getElem? (i := 32) (by decide +kernel), List.mem_of_getElem? (i := 577) (by decide +kernel), List.mem_of_getElem? (i := 578) (by decide +kernel)⟩
theorem lw_p12 : lw_okq (⟨"TraceBook$Moment", "indexFor", "(II)I"⟩, 4) := ⟨⟨by decide +kernel, by decide +kernel⟩, List.mem_of_getElem? (i := 252) (by decide +kernel), List.mem_of_getElem? (i := 604) (by decide +kernel), List.mem_of_getElem? (i := 605) (by decide +kernel)⟩
theorem lw_p13 : lw_okq (⟨"TraceBook$Moment", "isChangeOf", "(III)Z"⟩, 4) := ⟨⟨by decide +kernel, by decide +kernel⟩, List.mem_of_getElem? (i := 252) (by decide +kernel), List.mem_of_getElem? (i := 615) (by decide +kernel), List.mem_of_getElem? (i := 616) (by decide +kernel)⟩
theorem lw_p14 : lw_okq (⟨"java/util/ArrayList", "rangeCheckForAdd", "(I)V"⟩, 3) := ⟨⟨by decide +kernel, by decide +kernel⟩, List.mem_of_getElem? (i := 81) (by decide +kernel), List.mem_of_getElem? (i := 628) (by decide +kernel), List.mem_of_getElem? (i := 629) (by decide +kernel)⟩
theorem lw_p15 : lw_okq (⟨"java/util/ArrayList", "outOfBoundsMsg", "(I)Ljava/lang/String;"⟩, 3) := ⟨⟨by decide +kernel, by decide +kernel⟩, List.mem_of_getElem? (i := 81) (by decide +kernel), List.mem_of_getElem? (i := 633) (by decide +kernel), List.mem_of_getElem? (i := 634) (by decide +kernel)⟩
def lw_privs_1 : List (MethodName × Nat) := [(⟨"TraceBook$Reader", "readMoment", "()LTraceBook$Moment;"⟩, 5), (⟨"TraceBook$Reader", "readCount", "()J"⟩, 5), (⟨"TraceBook$Reader", "readCountWithin", "(JJ)J"⟩, 5), (⟨"TraceBook$Reader", "readChange", "(Ljava/util/ArrayList;)V"⟩, 5), (⟨"java/util/ArrayList", "add", "(Ljava/lang/Object;[Ljava/lang/Object;I)V"⟩, 3), (⟨"java/util/ArrayList", "grow", "()[Ljava/lang/Object;"⟩, 3), (⟨"java/util/ArrayList", "grow", "(I)[Ljava/lang/Object;"⟩, 3), (⟨"TraceBook$Row", "writeMoment", "(LTraceBook$Moment;)V"⟩, 3), (⟨"TraceBook$Row", "keepValue", "(LTraceBook$Change;)V"⟩, 3), (⟨"TraceBook", "takeSpareRow", "()V"⟩, 6), (⟨"java/lang/Throwable", "fillInStackTrace", "(I)Ljava/lang/Throwable;"⟩, 6), (⟨"TraceBook", "closeOpenMoment", "()Z"⟩, 6), (⟨"TraceBook$Moment", "indexFor", "(II)I"⟩, 4), (⟨"TraceBook$Moment", "isChangeOf", "(III)Z"⟩, 4), (⟨"java/util/ArrayList", "rangeCheckForAdd", "(I)V"⟩, 3), (⟨"java/util/ArrayList", "outOfBoundsMsg", "(I)Ljava/lang/String;"⟩, 3)]
theorem lw_r1 : ∀ q ∈ lw_privs_1, lw_okq q := List.forall_mem_cons.mpr ⟨lw_p0, List.forall_mem_cons.mpr ⟨lw_p1, List.forall_mem_cons.mpr ⟨lw_p2, List.forall_mem_cons.mpr ⟨lw_p3, List.forall_mem_cons.mpr ⟨lw_p4, List.forall_mem_cons.mpr ⟨lw_p5, List.forall_mem_cons.mpr ⟨lw_p6, List.forall_mem_cons.mpr ⟨lw_p7, List.forall_mem_cons.mpr ⟨lw_p8, List.forall_mem_cons.mpr ⟨lw_p9, List.forall_mem_cons.mpr ⟨lw_p10, List.forall_mem_cons.mpr ⟨lw_p11, List.forall_mem_cons.mpr ⟨lw_p12, List.forall_mem_cons.mpr ⟨lw_p13, List.forall_mem_cons.mpr ⟨lw_p14, List.forall_mem_cons.mpr ⟨lw_p15, fun _ h => absurd h List.not_mem_nil⟩⟩⟩⟩⟩⟩⟩⟩⟩⟩⟩⟩⟩⟩⟩⟩
theorem lw_p16 : lw_okq (⟨"java/util/ArrayList", "fastRemove", "([Ljava/lang/Object;I)V"⟩, 3) := ⟨⟨by decide +kernel, by decide +kernel⟩, List.mem_of_getElem? (i := 81) (by decide +kernel), List.mem_of_getElem? (i := 865) (by decide +kernel), List.mem_of_getElem? (i := 866) (by decide +kernel)⟩
theorem lw_p17 : lw_okq (⟨"TraceBookModel", "none", "(I)Z"⟩, 33) := ⟨⟨by decide +kernel, by decide +kernel⟩, List.mem_of_getElem? (i := 954) (by decide +kernel), List.mem_of_getElem? (i := 1078) (by decide +kernel), List.mem_of_getElem? (i := 1079) (by decide +kernel)⟩
theorem lw_p18 : lw_okq (⟨"TraceBookModel", "finish", "()I"⟩, 33) := ⟨⟨by decide +kernel, by decide +kernel⟩, List.mem_of_getElem? (i := 954) (by decide +kernel), List.mem_of_getElem? (i := 1087) (by decide +kernel), List.mem_of_getElem? (i := 1088) (by decide +kernel)⟩
theorem lw_p19 : lw_okq (⟨"TraceBookModel", "many", "()I"⟩, 33) := ⟨⟨by decide +kernel, by decide +kernel⟩, List.mem_of_getElem? (i := 954) (by decide +kernel), List.mem_of_getElem? (i := 1091) (by decide +kernel), List.mem_of_getElem? (i := 1092) (by decide +kernel)⟩
theorem lw_p20 : lw_okq (⟨"TraceBookModel", "differs", "(I)Z"⟩, 33) := ⟨⟨by decide +kernel, by decide +kernel⟩, List.mem_of_getElem? (i := 954) (by decide +kernel), List.mem_of_getElem? (i := 1095) (by decide +kernel), List.mem_of_getElem? (i := 1096) (by decide +kernel)⟩
theorem lw_p21 : lw_okq (⟨"TraceBookModel", "head", "()J"⟩, 33) := ⟨⟨by decide +kernel, by decide +kernel⟩, List.mem_of_getElem? (i := 954) (by decide +kernel), List.mem_of_getElem? (i := 1099) (by decide +kernel), List.mem_of_getElem? (i := 1100) (by decide +kernel)⟩
theorem lw_p22 : lw_okq (⟨"TraceBookModel", "lastTime", "()J"⟩, 33) := ⟨⟨by decide +kernel, by decide +kernel⟩, List.mem_of_getElem? (i := 954) (by decide +kernel), List.mem_of_getElem? (i := 1103) (by decide +kernel), List.mem_of_getElem? (i := 1104) (by decide +kernel)⟩
theorem lw_p23 : lw_okq (⟨"TraceBookModel", "lastStep", "()J"⟩, 33) := ⟨⟨by decide +kernel, by decide +kernel⟩, List.mem_of_getElem? (i := 954) (by decide +kernel), List.mem_of_getElem? (i := 1108) (by decide +kernel), List.mem_of_getElem? (i := 1109) (by decide +kernel)⟩
theorem lw_p24 : lw_okq (⟨"TraceBookModel", "write", "(J)V"⟩, 33) := ⟨⟨by decide +kernel, by decide +kernel⟩, List.mem_of_getElem? (i := 954) (by decide +kernel), List.mem_of_getElem? (i := 1121) (by decide +kernel), List.mem_of_getElem? (i := 1122) (by decide +kernel)⟩
theorem lw_p25 : lw_okq (⟨"TraceBookModel", "changesOf", "(I)I"⟩, 33) := ⟨⟨by decide +kernel, by decide +kernel⟩, List.mem_of_getElem? (i := 954) (by decide +kernel), List.mem_of_getElem? (i := 1142) (by decide +kernel), List.mem_of_getElem? (i := 1143) (by decide +kernel)⟩
theorem lw_p26 : lw_okq (⟨"TraceBookModel", "readMoment", "()V"⟩, 33) := ⟨⟨by decide +kernel, by decide +kernel⟩, List.mem_of_getElem? (i := 954) (by decide +kernel), List.mem_of_getElem? (i := 1178) (by decide +kernel), List.mem_of_getElem? (i := 1179) (by decide +kernel)⟩
theorem lw_p27 : lw_okq (⟨"TraceBookModel", "count", "()J"⟩, 33) := ⟨⟨by decide +kernel, by decide +kernel⟩, List.mem_of_getElem? (i := 954) (by decide +kernel), List.mem_of_getElem? (i := 1182) (by decide +kernel), List.mem_of_getElem? (i := 1183) (by decide +kernel)⟩
theorem lw_p28 : lw_okq (⟨"TraceBookModel", "fail", "()V"⟩, 33) := ⟨⟨by decide +kernel, by decide +kernel⟩, List.mem_of_getElem? (i := 954) (by decide +kernel), List.mem_of_getElem? (i := 1186) (by decide +kernel), List.mem_of_getElem? (i := 1187) (by decide +kernel)⟩
theorem lw_p29 : lw_okq (⟨"TraceBookModel", "again", "()V"⟩, 33) := ⟨⟨by decide +kernel, by decide +kernel⟩, List.mem_of_getElem? (i := 954) (by decide +kernel), List.mem_of_getElem? (i := 1192) (by decide +kernel), List.mem_of_getElem? (i := 1193) (by decide +kernel)⟩
def lw_privs_2 : List (MethodName × Nat) := [(⟨"java/util/ArrayList", "fastRemove", "([Ljava/lang/Object;I)V"⟩, 3), (⟨"TraceBookModel", "none", "(I)Z"⟩, 33), (⟨"TraceBookModel", "finish", "()I"⟩, 33), (⟨"TraceBookModel", "many", "()I"⟩, 33), (⟨"TraceBookModel", "differs", "(I)Z"⟩, 33), (⟨"TraceBookModel", "head", "()J"⟩, 33), (⟨"TraceBookModel", "lastTime", "()J"⟩, 33), (⟨"TraceBookModel", "lastStep", "()J"⟩, 33), (⟨"TraceBookModel", "write", "(J)V"⟩, 33), (⟨"TraceBookModel", "changesOf", "(I)I"⟩, 33), (⟨"TraceBookModel", "readMoment", "()V"⟩, 33), (⟨"TraceBookModel", "count", "()J"⟩, 33), (⟨"TraceBookModel", "fail", "()V"⟩, 33), (⟨"TraceBookModel", "again", "()V"⟩, 33)]
theorem lw_r2 : ∀ q ∈ lw_privs_2, lw_okq q := List.forall_mem_cons.mpr ⟨lw_p16, List.forall_mem_cons.mpr ⟨lw_p17, List.forall_mem_cons.mpr ⟨lw_p18, List.forall_mem_cons.mpr ⟨lw_p19, List.forall_mem_cons.mpr ⟨lw_p20, List.forall_mem_cons.mpr ⟨lw_p21, List.forall_mem_cons.mpr ⟨lw_p22, List.forall_mem_cons.mpr ⟨lw_p23, List.forall_mem_cons.mpr ⟨lw_p24, List.forall_mem_cons.mpr ⟨lw_p25, List.forall_mem_cons.mpr ⟨lw_p26, List.forall_mem_cons.mpr ⟨lw_p27, List.forall_mem_cons.mpr ⟨lw_p28, List.forall_mem_cons.mpr ⟨lw_p29, fun _ h => absurd h List.not_mem_nil⟩⟩⟩⟩⟩⟩⟩⟩⟩⟩⟩⟩⟩⟩
def lw_privs : List (MethodName × Nat) := lw_privs_1 ++ (lw_privs_2)
def lw_tbl : List Cond := k2_sels lw_privs ++ tables_1
theorem lw_privs_ok : ∀ q ∈ lw_privs, lw_okq q := by
  show ∀ q ∈ lw_privs_1 ++ (lw_privs_2), lw_okq q
  exact List.forall_mem_append.mpr ⟨lw_r1, lw_r2⟩
end
section
/-! ===== BEGIN words of one list among another's, by their places ===== -/
theorem goodIn_r {big : List Cond} (ws : List Cond) (ps : List Nat) (hp : ws = ps.filterMap (fun i => big[i]?)) (h : ws.all goodWord = true) : GoodIn big ws := by
  intro w hw
  have h1 := List.all_eq_true.mp h w hw
  rw [hp] at hw
  obtain ⟨i, -, hi⟩ := List.mem_filterMap.mp hw
  have hm : w ∈ big := by first | exact List.mem_of_getElem? hi | exact List.getElem?_mem hi
  exact ⟨hm, good_of_word h1⟩
theorem goodIn_app {big a b : List Cond} (ha : GoodIn big a) (hb : GoodIn big b) : GoodIn big (a ++ b) := fun w h => (List.mem_append.mp h).elim (ha w) (hb w)
theorem goodIn_ca {big a b : List Cond} {c : Cond} (ha : GoodIn big (c :: a)) (hb : GoodIn big b) : GoodIn big (c :: (a ++ b)) := fun w h => (List.mem_cons.mp h).elim (fun e => ha w (List.mem_cons.mpr (Or.inl e))) (fun h => (List.mem_append.mp h).elim (fun h => ha w (List.mem_cons.mpr (Or.inr h))) (hb w))
theorem goodIn_sub {big ws : List Cond} (hm : ∀ w ∈ ws, w ∈ big) (h : ws.all goodWord = true) : GoodIn big ws := fun w hw => ⟨hm w hw, good_of_word (List.all_eq_true.mp h w hw)⟩
/-! ===== END ===== -/

/-! ===== BEGIN exceptions that leave a method, and their catching by the caller (launches without stack traces) ===== -/
section VXA
/-! The laws vx_back, vx_callV, vx_callS, vx_callSW, vx_throw0, vx_throwS follow proofs of the library, with one case more: JvmDerived/Free/Laws.lean (Back.of_free), Shelf42/LK1.lean (callV, callS), Shelf/KitTraced.lean (throwNew0V, throwNewS). -/
/-- where a method has thrown q: the class by its name, the cell, what was written, the world -/
def vx_T (XC : String → State → State → Prop) (st : State) (q : Addr) (t : State) (mc ms : Nat) (free : Addr → Prop) : Prop :=
  ∃ (E : String) (ce : Cell) (L : List Loc), XC E st t ∧ t.heap[q]? = some ce ∧ ce.vm = .none ∧ st.vm.findClass E = some ce.cls ∧ st.WarmedH t.vm ∧ st.sameButNew ({ t with vm := st.vm } : State) L mc ms ∧ ∀ z ∈ L, free z.base
def vx_Q (Qc : Array Value → State → Outcome → State → Prop) (XC : String → State → State → Prop) (mc ms : Nat) (free : Addr → Prop) : Array Value → State → Outcome → State → Prop := fun a st o t =>
  (Qc a st o t ∧ ∃ L, FrameEnd st o t L mc ms ∧ ∀ q ∈ L, free q.base) ∨ ∃ q, o = .threw q ∧ vx_T XC st q t mc ms free
/-- a callee that returns or throws -/
def vx_Met (l : Launch) (y : MethodName) (ws : List Cond) (rm : Room) (Pc : Array Value → State → Prop) (Qc : Array Value → State → Outcome → State → Prop) (XC : String → State → State → Prop) (mc ms : Nat) (free : Addr → Prop) : Prop :=
  MetFree l y (headSpec ws rm) Pc (fun _ _ _ _ _ => True) (vx_Q Qc XC mc ms free)
def vx_Post (XC : String → State → State → Prop) (mc ms : Nat) (free : Addr → Prop) : Pt → Array Value → Addr → Pt → Prop := fun A a q B =>
  ∃ (g : JFrame) (mk : MethodId) (t : State) (L : List Loc) (E : String) (ce : Cell), B.U.heap = t.heap ∧ B.U.vm = t.vm ∧ XC E (A.U.calling g mk a) t ∧ t.heap[q]? = some ce ∧ ce.vm = .none ∧ A.U.vm.findClass E = some ce.cls ∧ B.locs = A.locs ++ L ∧ (∀ z ∈ L, free z.base) ∧ B.cells = A.cells + mc ∧ B.slots = A.slots + ms
def vx_Back (l : Launch) (R : Room) (p : Program) (e : Env) (below : List Frame) (s : State) (sargs : Array Value) (y : MethodName) (len W9 : Nat)
    (Pre : Pt → Array Value → Prop) (Post : Pt → Array Value → Option Value → Pt → Prop) (PostX : Pt → Array Value → Addr → Pt → Prop) : Prop :=
  ∀ (m : MethodId) (meth : Method) (c : Code) (A : Pt) (g : JFrame) (ig : Instr) (mk : MethodId) (a : Array Value),
    Stand p l e R s m sargs below meth c A.U A.locs A.cells A.slots → g.method = m → g.locals.size = c.maxLocals → decode c.code g.pc = .ok (ig, len) →
    2 * g.monitorRoom + (g.stack.map fun v => v.category).sum ≤ W9 → A.U.methodNamed? y = some mk → Pre A a →
    (∃ (v : Option Value) (B : Pt), Stand p l e R s m sargs below meth c B.U B.locs B.cells B.slots ∧ Post A a v B ∧
      Steps p.tables e below (doInvoke e (A.U.setTop g) [] mk a).1 (B.U.setTop { g with pc := g.pc + len, stack := v.toList ++ g.stack })) ∨
    (∃ (q : Addr) (B : Pt), Stand p l e R s m sargs below meth c B.U B.locs B.cells B.slots ∧ PostX A a q B ∧
      Steps p.tables e below (doInvoke e (A.U.setTop g) [] mk a).1 ((B.U.setTop g).pushFrame (.throwing q)))
section Payer
variable {l : Launch} {R : Room} {p : Program} {e : Env} {below : List Frame} {s : State} {sargs : Array Value} {y : MethodName} {len W9 : Nat}
theorem vx_back {ws : List Cond} {rm : Room} {Pc : Array Value → State → Prop} {Qc : Array Value → State → Outcome → State → Prop} {XC : String → State → State → Prop} {mc ms : Nat} {free : Addr → Prop} {bytes : ByteArray} {maxL : Nat} {ret : Option FieldType}
    (hM : vx_Met l y ws rm Pc Qc XC mc ms free) (hblind : FrameBlind Pc) (hrc : rm.cells = mc) (hrs : rm.slots = ms)
    (hframes : rm.frames + 1 ≤ R.frames) (hlocals : W9 + (maxL + 11) + rm.locals ≤ R.locals)
    (hws : ∀ w ∈ ws, ∀ a' U, s.WarmedH U.vm → w.before a' U = true) (hcode : Cond.code y bytes maxL ret ∈ ws) (hinit : ∀ a' U, s.WarmedH U.vm → (Cond.initialized y.cls).before a' U = true) :
    vx_Back l R p e below s sargs y len W9 (PreOf R mc ms Pc) (PostOf Qc mc ms free) (vx_Post XC mc ms free) := by
  intro m meth c A g ig mk a X hg hsize hdg hW hn hp
  have h1 : (headSpec ws rm).pre.before a A.U = true := atoms_intro fun w hw => hws w hw _ _ X.warmed
  have h2 : (Cond.code y bytes maxL ret).before a A.U = true := hws _ hcode _ _ X.warmed
  have h3 : (Cond.initialized y.cls).before a A.U = true := hinit _ _ X.warmed
  have h4 : A.cells + (headSpec ws rm).room.cells ≤ R.cells := by rw [show (headSpec ws rm).room.cells = mc from hrc]; exact hp.1
  have h5 : A.slots + (headSpec ws rm).room.slots ≤ R.slots := by rw [show (headSpec ws rm).room.slots = ms from hrs]; exact hp.2.1
  have hPc : Pc a (A.U.calling g mk a) := hblind _ _ _ _ hp.2.2
  obtain ⟨U, Ls, c0, s0⟩ := A
  dsimp only [Pt.U, Pt.locs, Pt.cells, Pt.slots] at h1 h2 h3 h4 h5 X hn hPc ⊢
  obtain ⟨methY, cY, hmY, hcY, -, hlY, -, -, -, -⟩ := Cond.code_spec hn h2
  obtain ⟨kY, hkY, -⟩ := className_of_methodNamed hn
  have hinitY : kY.init = .initialized := Cond.initialized_spec (findClass_of_methodNamed hn) hkY h3
  have h : At U g.method c below := by rw [hg]; exact X.here
  have hlocals9 : W9 + (maxL + 11) + (headSpec ws rm).room.locals ≤ R.locals := hlocals
  have happ : (headSpec ws rm).appliesLoose y e.platform (U.calling g mk a) = true :=
    Spec.appliesLoose_calling (g := g) h hdg hn hkY hinitY
      (X.room_calling (g := g) (R' := (headSpec ws rm).room) hsize hmY hcY hframes (by rw [hlY]; omega) h4 h5) h1
  obtain ⟨mid, hmid⟩ := h.above
  have hfr : (U.setTop g).frames = (.java g :: mid) ++ below := by rw [State.frames_setTop' g h.top, hmid]; rfl
  obtain ⟨o, s₂, hsteps, -, hend, hq⟩ := Steps.callFree hM p X.admits X.cas X.clock (acts := []) hfr happ hPc trivial
  have hq' : vx_Q Qc XC mc ms free a (U.calling g mk a) o s₂ := hq
  rw [State.frames_setTop' g h.top] at hend
  obtain ⟨g₀, hg0⟩ := Option.isSome_iff_exists.mp h.top
  obtain ⟨r, hr⟩ := State.topJava?_eq_some.mp hg0
  have hr' : (({ U with heap := s₂.heap, slotsUsed := s₂.slotsUsed } : State).setVm s₂.vm).frames = .java g₀ :: r := hr
  rcases hq' with ⟨hqc, L, hfe, hL⟩ | ⟨q, rfl, E, ce, L, hx, hce, hcv, hcl, hW₂, hsm, hL⟩
  · obtain ⟨⟨v, rfl⟩, hW₂, e2, q2, q3, q4, q5, q6⟩ := id hfe
    have e3 : s₂ = ({ (U.calling g mk a).setFrames s₂.frames with heap := s₂.heap, slotsUsed := s₂.slotsUsed } : State).setVm s₂.vm := by
      have : s₂ = ({ s₂ with vm := (U.calling g mk a).vm } : State).setVm s₂.vm := rfl
      rw [e2] at this
      exact this
    obtain ⟨c₂, i₂, len₂, hc₂, hd₂, hf₂⟩ := hend
    have hW' : U.WarmedH s₂.vm := hW₂
    have hcc : c₂ = c := by
      have h1 : s₂.code? g.method = U.code? g.method := by
        rw [State.code?_eq, State.code?_eq, hW'.alike.method?]
      exact Option.some.inj (hc₂.symm.trans (h1.trans h.code))
    subst hcc
    have hlen : len₂ = len := by rw [hdg] at hd₂; cases hd₂; rfl
    subst hlen
    have hs₂ : s₂ = (({ U with heap := s₂.heap, slotsUsed := s₂.slotsUsed } : State).setVm s₂.vm).setTop { g with pc := g.pc + len₂, stack := v.toList ++ g.stack } := by
      refine e3.trans ?_
      rw [hf₂, State.calling_eq h.top, State.setFrames_setFrames, State.setTop_of_frames _ hr', hr]
      rfl
    have hsame : U.sameButNew ({ U with heap := s₂.heap, slotsUsed := s₂.slotsUsed } : State) L mc ms := by
      refine ⟨?_, q2, q3, q4, q5, q6⟩
      obtain ⟨t, ht, -⟩ := State.frames_cons hr
      show ({ U with heap := s₂.heap, slotsUsed := s₂.slotsUsed } : State) = { U.setFrames U.frames with heap := s₂.heap, slotsUsed := s₂.slotsUsed }
      rw [State.setFrames_self ht]
    subst hg
    refine Or.inl ⟨v, ⟨(({ U with heap := s₂.heap, slotsUsed := s₂.slotsUsed } : State).setVm s₂.vm), Ls ++ L, c0 + mc, s0 + ms⟩,
      ⟨X.admits, X.cas, X.clock, X.frames, X.room, X.hears, X.method, X.code, (X.here.setHeapUsed s₂.heap s₂.slotsUsed).setVm hW'.alike, X.tail, State.WarmedH.trans X.warmed hW', X.limits, X.bytes, X.same.trans (hsame.setVm s.vm)⟩,
      ⟨g, mk, s₂, L, rfl, rfl, hqc, rfl, hL, rfl, rfl⟩, ?_⟩
    show Steps p.tables e below _ ((({ U with heap := s₂.heap, slotsUsed := s₂.slotsUsed } : State).setVm s₂.vm).setTop { g with pc := g.pc + len₂, stack := v.toList ++ g.stack })
    rw [← hs₂]
    exact hsteps
  · obtain ⟨e2, q2, q3, q4, q5, q6⟩ := id hsm
    have e3 : s₂ = ({ (U.calling g mk a).setFrames s₂.frames with heap := s₂.heap, slotsUsed := s₂.slotsUsed } : State).setVm s₂.vm := by
      have : s₂ = ({ s₂ with vm := (U.calling g mk a).vm } : State).setVm s₂.vm := rfl
      rw [e2] at this
      exact this
    have hf₂ : s₂.frames = .throwing q :: .java g :: U.frames.tail := hend
    have hW' : U.WarmedH s₂.vm := hW₂
    have hs₂ : s₂ = ((({ U with heap := s₂.heap, slotsUsed := s₂.slotsUsed } : State).setVm s₂.vm).setTop g).pushFrame (.throwing q) := by
      refine e3.trans ?_
      rw [hf₂, State.calling_eq h.top, State.setFrames_setFrames, State.pushFrame, State.frames_setTop _ hr', State.setTop_of_frames _ hr', State.setFrames_setFrames, hr]
      rfl
    have hsame : U.sameButNew ({ U with heap := s₂.heap, slotsUsed := s₂.slotsUsed } : State) L mc ms := by
      refine ⟨?_, q2, q3, q4, q5, q6⟩
      obtain ⟨t, ht, -⟩ := State.frames_cons hr
      show ({ U with heap := s₂.heap, slotsUsed := s₂.slotsUsed } : State) = { U.setFrames U.frames with heap := s₂.heap, slotsUsed := s₂.slotsUsed }
      rw [State.setFrames_self ht]
    subst hg
    refine Or.inr ⟨q, ⟨(({ U with heap := s₂.heap, slotsUsed := s₂.slotsUsed } : State).setVm s₂.vm), Ls ++ L, c0 + mc, s0 + ms⟩,
      ⟨X.admits, X.cas, X.clock, X.frames, X.room, X.hears, X.method, X.code, (X.here.setHeapUsed s₂.heap s₂.slotsUsed).setVm hW'.alike, X.tail, State.WarmedH.trans X.warmed hW', X.limits, X.bytes, X.same.trans (hsame.setVm s.vm)⟩,
      ⟨g, mk, s₂, L, E, ce, rfl, rfl, hx, hce, hcv, hcl, rfl, hL, rfl, rfl⟩, ?_⟩
    show Steps p.tables e below _ (((({ U with heap := s₂.heap, slotsUsed := s₂.slotsUsed } : State).setVm s₂.vm).setTop g).pushFrame (.throwing q))
    rw [← hs₂]
    exact hsteps
end Payer
section Calls
variable {p : Program} {l : Launch} {e : Env} {R : Room} {s : State} {m : MethodId} {args : Array Value} {below : List Frame} {meth : Method} {c : Code} {T : State} {locs : List Loc} {cells slots : Nat}
theorem vx_callV (X : Stand p l e R s m args below meth c T locs cells slots) (hexec : p.tables.exec = Jvm.exec) {own C : String} {index : Nat} {y : MethodName} {bytes : ByteArray} {maxL : Nat} {ret : Option FieldType}
    (hown : s.vm.findClass own = some m.cls) (hlink : (Cond.methodLink own index y).before args s = true) (hinst : (Cond.instanceMethod y).before args s = true) (hsel : (Cond.selects C y y).before args s = true)
    (hcode : (Cond.code y bytes maxL ret).before args s = true) (hy : y.cls ≠ "java/lang/invoke/MethodHandle" ∧ y.cls ≠ "java/lang/invoke/VarHandle")
    {W9 : Nat} {Pre : Pt → Array Value → Prop} {Post : Pt → Array Value → Option Value → Pt → Prop} {PostX : Pt → Array Value → Addr → Pt → Prop} (hK : vx_Back l R p e below s args y 3 W9 Pre Post PostX)
    {b : Addr} {cellB : Cell} (hcell : T.heap[b]? = some cellB) (hobj : cellB.vm.isStatics = false) (hcls : s.vm.findClass C = some cellB.cls)
    {g : JFrame} (hg : g.method = m) (hsize : g.locals.size = c.maxLocals) {argsL rest : List Value} (hlen : ∀ sig, parseMethodDescriptor y.desc = some sig → argsL.length = sig.parameters.length)
    (hstack : g.stack = argsL.reverse ++ .ref b :: rest) (hW : 2 * g.monitorRoom + (rest.map fun v => v.category).sum ≤ W9) (hdg : decode c.code g.pc = .ok (.invokevirtual index, 3))
    (hpre : ∀ vm₁, s.WarmedH vm₁ → Pre ⟨T.setVm vm₁, locs, cells, slots⟩ (Value.ref b :: argsL).toArray) :
    (∃ (v : Option Value) (vm₁ : Vm) (B : Pt), s.WarmedH vm₁ ∧ Stand p l e R s m args below meth c B.U B.locs B.cells B.slots ∧ Post ⟨T.setVm vm₁, locs, cells, slots⟩ (Value.ref b :: argsL).toArray v B ∧
      ∀ target, Steps p.tables e below (B.U.setTop { g with pc := g.pc + 3, stack := v.toList ++ rest }) target → Steps p.tables e below (T.setTop g) target) ∨
    (∃ (q : Addr) (vm₁ : Vm) (B : Pt), s.WarmedH vm₁ ∧ Stand p l e R s m args below meth c B.U B.locs B.cells B.slots ∧ PostX ⟨T.setVm vm₁, locs, cells, slots⟩ (Value.ref b :: argsL).toArray q B ∧
      Steps p.tables e below (T.setTop g) ((B.U.setTop { g with stack := rest }).pushFrame (.throwing q))) := by
  obtain ⟨mk, methM, hnamed, hmethM, hstM, habM⟩ := Cond.instanceMethod_spec hinst
  obtain ⟨methM', cM, hmethM', -, -, -, -, -, -, hsigM⟩ := Cond.code_spec hnamed hcode
  cases hmethM.symm.trans hmethM'
  obtain ⟨c2, r2, m2, q1, q2, q3, q4, kP, hkP, hkPi⟩ := Cond.selects_spec hsel
  cases hcls.symm.trans q1
  cases (State.methodFound?_of_named hnamed hy).symm.trans q2
  cases hnamed.symm.trans q3
  have hselP : selectMethod e.platform s.vm cellB.cls mk = .method mk := by rw [Launch.admits_selectMethod X.admits]; exact q4
  obtain ⟨vm₁, X₁, hstep₁⟩ := X.invokevirtual hexec hown hlink hnamed hmethM hstM hkP hkPi hy (a := b) (cell := cellB) hcell
    (fun z h => by rw [h] at hobj; cases hobj) hselP hmethM habM hkP hkPi (g := g) hg (argsL := argsL) (rest := rest) (hlen _ hsigM) hstack hdg
  rcases hK m meth c ⟨T.setVm vm₁, locs, cells, slots⟩ { g with stack := rest } (.invokevirtual index) mk (Value.ref b :: argsL).toArray X₁ hg hsize hdg hW (X₁.named hnamed) (hpre vm₁ X₁.warmed) with ⟨v, B, X', hpost, hsteps⟩ | ⟨q, B, X', hpost, hsteps⟩
  · exact Or.inl ⟨v, vm₁, B, X₁.warmed, X', hpost, fun target h => hstep₁ _ fun acts => by rw [doInvoke_state]; exact hsteps.trans h⟩
  · exact Or.inr ⟨q, vm₁, B, X₁.warmed, X', hpost, hstep₁ _ fun acts => by rw [doInvoke_state]; exact hsteps⟩
theorem vx_callS (X : Stand p l e R s m args below meth c T locs cells slots) (hexec : p.tables.exec = Jvm.exec) {own : String} {index : Nat} {y : MethodName} {bytes : ByteArray} {maxL : Nat} {ret : Option FieldType}
    (hown : s.vm.findClass own = some m.cls) (hlink : (Cond.methodLink own index y).before args s = true) (hstat : (Cond.static y).before args s = true) (hinit : (Cond.initialized y.cls).before args s = true)
    (hcode : (Cond.code y bytes maxL ret).before args s = true) (hy : y.cls ≠ "java/lang/invoke/MethodHandle" ∧ y.cls ≠ "java/lang/invoke/VarHandle")
    {W9 : Nat} {Pre : Pt → Array Value → Prop} {Post : Pt → Array Value → Option Value → Pt → Prop} {PostX : Pt → Array Value → Addr → Pt → Prop} (hK : vx_Back l R p e below s args y 3 W9 Pre Post PostX)
    {g : JFrame} (hg : g.method = m) (hsize : g.locals.size = c.maxLocals) {argsL rest : List Value} (hlen : ∀ sig, parseMethodDescriptor y.desc = some sig → argsL.length = sig.parameters.length)
    (hstack : g.stack = argsL.reverse ++ rest) (hW : 2 * g.monitorRoom + (rest.map fun v => v.category).sum ≤ W9) (hdg : decode c.code g.pc = .ok (.invokestatic index, 3))
    (hpre : ∀ vm₁, s.WarmedH vm₁ → Pre ⟨T.setVm vm₁, locs, cells, slots⟩ argsL.toArray) :
    (∃ (v : Option Value) (vm₁ : Vm) (B : Pt), s.WarmedH vm₁ ∧ Stand p l e R s m args below meth c B.U B.locs B.cells B.slots ∧ Post ⟨T.setVm vm₁, locs, cells, slots⟩ argsL.toArray v B ∧
      ∀ target, Steps p.tables e below (B.U.setTop { g with pc := g.pc + 3, stack := v.toList ++ rest }) target → Steps p.tables e below (T.setTop g) target) ∨
    (∃ (q : Addr) (vm₁ : Vm) (B : Pt), s.WarmedH vm₁ ∧ Stand p l e R s m args below meth c B.U B.locs B.cells B.slots ∧ PostX ⟨T.setVm vm₁, locs, cells, slots⟩ argsL.toArray q B ∧
      Steps p.tables e below (T.setTop g) ((B.U.setTop { g with stack := rest }).pushFrame (.throwing q))) := by
  obtain ⟨mk, hnamed⟩ := Cond.code_named hcode
  obtain ⟨methM, cM, hmethM, -, -, -, -, -, -, hsigM⟩ := Cond.code_spec hnamed hcode
  have hstatic : methM.isStatic = true := Cond.static_spec hnamed hmethM hstat
  obtain ⟨kP, hkP, -⟩ := className_of_methodNamed hnamed
  have hinitP : kP.init = .initialized := Cond.initialized_spec (findClass_of_methodNamed hnamed) hkP hinit
  obtain ⟨vm₁, X₁, hstep₁⟩ := X.invokestatic hexec hown hlink hnamed hmethM hstatic hkP hinitP hy (g := g) hg (argsL := argsL) (rest := rest) (hlen _ hsigM) hstack hdg
  rcases hK m meth c ⟨T.setVm vm₁, locs, cells, slots⟩ { g with stack := rest } (.invokestatic index) mk argsL.toArray X₁ hg hsize hdg hW (X₁.named hnamed) (hpre vm₁ X₁.warmed) with ⟨v, B, X', hpost, hsteps⟩ | ⟨q, B, X', hpost, hsteps⟩
  · exact Or.inl ⟨v, vm₁, B, X₁.warmed, X', hpost, fun target h => hstep₁ _ fun acts => by rw [doInvoke_state]; exact hsteps.trans h⟩
  · exact Or.inr ⟨q, vm₁, B, X₁.warmed, X', hpost, hstep₁ _ fun acts => by rw [doInvoke_state]; exact hsteps⟩
end Calls
theorem vx_cls {s : State} {T : State} {vm₁ : Vm} {E : String} {k : ClassId} (hW : s.WarmedH vm₁) (h : (T.setVm vm₁).vm.findClass E = some k) : s.vm.findClass E = some k := by
  have h1 : vm₁.findClass E = some k := h
  rw [hW.alike.findClass] at h1
  exact h1
/-- the method's frame g, with q thrown over it -/
def vx_W (p : Program) (l : Launch) (e : Env) (R : Room) (s : State) (m : MethodId) (args : Array Value) (below : List Frame) (meth : Method) (c : Code) (H : Heap) (locs : List Loc) (cells slots : Nat) (Q : State → Prop) (g : JFrame) (q : Addr) : Prop :=
  ∀ T : State, T.heap = H → Stand p l e R s m args below meth c T locs cells slots → ∃ t, Steps p.tables e below ((T.setTop g).pushFrame (.throwing q)) t ∧ Q t
def vx_Run (p : Program) (l : Launch) (e : Env) (R : Room) (s : State) (m : MethodId) (args : Array Value) (below : List Frame) (meth : Method) (c : Code) (H : Heap) (locs : List Loc) (cells slots mc ms : Nat) (g : JFrame) (rest : List Value) (Qa : State → Outcome → State → Prop) (XC : String → State → State → Prop) (free : Addr → Prop) : Prop :=
  ∀ T : State, T.heap = H → Stand p l e R s m args below meth c T locs cells slots →
    (∃ (v : Option Value) (st₀ t T' : State) (L : List Loc), st₀.heap = H ∧ Stand p l e R s m args below meth c T' (locs ++ L) (cells + mc) (slots + ms) ∧ (∀ q ∈ L, free q.base) ∧ T'.heap = t.heap ∧ T'.vm = t.vm ∧ Qa st₀ (.returned v) t ∧
      Goes p e below T g T' { g with pc := g.pc + 3, stack := v.toList ++ rest }) ∨
    (∃ (q : Addr) (st₀ t T' : State) (L : List Loc) (E : String) (ce : Cell), st₀.heap = H ∧ Stand p l e R s m args below meth c T' (locs ++ L) (cells + mc) (slots + ms) ∧ (∀ z ∈ L, free z.base) ∧ T'.heap = t.heap ∧ T'.vm = t.vm ∧ XC E st₀ t ∧ t.heap[q]? = some ce ∧ ce.vm = .none ∧ s.vm.findClass E = some ce.cls ∧
      Steps p.tables e below (T.setTop g) ((T'.setTop { g with stack := rest }).pushFrame (.throwing q)))
def vx_X {S : Type} (px : S → Prop) (B : String → S → State → Prop) (A : Nat → Prop) : String → State → State → Prop := fun E st t => ∃ u : S, px u ∧ B E u t ∧ va_F A st t
section Runs
variable {p : Program} {l : Launch} {e : Env} {R : Room} {s : State} {m : MethodId} {args : Array Value} {below : List Frame} {meth : Method} {c : Code} {H : Heap} {locs : List Loc} {cells slots : Nat}
variable {y : MethodName} {bytes cc : ByteArray} {maxL nL mc ms n index : Nat} {ret : Option FieldType} {ws : List Cond} {rm : Room} {Pc : Array Value → State → Prop} {Qc : Array Value → State → Outcome → State → Prop} {XC : String → State → State → Prop} {free : Addr → Prop} {Ts : List Cond} {own C : String} {b : Addr} {As rest : List Value} {g : JFrame}
theorem vx_callBack (cb : CallB R s args own index y bytes maxL ret ws rm mc ms n) (hM : vx_Met l y ws rm Pc Qc XC mc ms free) (hbl : FrameBlind Pc) : vx_Back l R p e below s args y 3 8 (PreOf R mc ms Pc) (PostOf Qc mc ms free) (vx_Post XC mc ms free) := by
  obtain ⟨hrc, hrs, hfr, hlo, hws, hcw, -, hini, -⟩ := cb
  exact vx_back (bytes := bytes) (maxL := maxL) (ret := ret) hM hbl hrc hrs hfr hlo hws hcw (fun a' U hW => word_at hW (Or.inl (by first | rfl | simp [Cond.onTables, Cond.keeps, Cond.steady])) hini)
theorem vx_runV (S : CallFix p m c cc nL s args Ts own) (hM : vx_Met l y ws rm Pc Qc XC mc ms free) (cw : CallW R s args own C index y bytes maxL ret ws rm mc ms n) (hp : PreV s H C b Pc As)
    (hg : g.method = m) (hn : As.length = n) (hsize : g.locals.size = nL) (hstack : g.stack = As.reverse ++ .ref b :: rest) (hW : 2 * g.monitorRoom + (rest.map fun v => v.category).sum ≤ 8) (hdg : decode cc g.pc = .ok (.invokevirtual index, 3)) (hf : cells + mc ≤ R.cells ∧ slots + ms ≤ R.slots) :
    vx_Run p l e R s m args below meth c H locs cells slots mc ms g rest (Qc (Value.ref b :: As).toArray) XC free := by
  have hK : vx_Back l R p e below s args y 3 8 (PreOf R mc ms Pc) (PostOf Qc mc ms free) (vx_Post XC mc ms free) := vx_callBack cw.1 hM hp.1
  obtain ⟨⟨-, -, -, -, -, -, hcode, -, hy, hlen, hl⟩, hin, hse⟩ := cw
  obtain ⟨hx, hb, hml, ho, -⟩ := S
  obtain ⟨-, ⟨cellB, hcB, hoB, hclB⟩, hPc⟩ := hp
  intro T hT X
  rcases vx_callV X hx (C := C) (bytes := bytes) (maxL := maxL) (ret := ret) ho hl hin hse hcode hy hK (by rw [hT]; exact hcB) hoB hclB hg (hsize.trans hml.symm) (argsL := As) (rest := rest) (fun sig h => hn.trans (hlen sig h)) hstack hW (by rw [hb]; exact hdg)
    (fun vm₁ hW₁ => ⟨hf.1, hf.2, hPc (T.setVm vm₁) hT hW₁⟩) with ⟨v, vm₁, ⟨U', l2, c2, s2⟩, hW₁, X', ⟨g', mk, t, L, e1, e2, hq, h1, hL, h2, h3⟩, st⟩ | ⟨q, vm₁, ⟨U', l2, c2, s2⟩, hW₁, X', ⟨g', mk, t, L, E, ce, e1, e2, hq, hce, hcv, hcl, h1, hL, h2, h3⟩, st⟩
  · dsimp only [Pt.U, Pt.locs, Pt.cells, Pt.slots] at X' e1 e2 h1 h2 h3 st
    subst h1; subst h2; subst h3
    exact Or.inl ⟨v, (T.setVm vm₁).calling g' mk (Value.ref b :: As).toArray, t, U', L, hT, X', hL, e1, e2, hq, st⟩
  · dsimp only [Pt.U, Pt.locs, Pt.cells, Pt.slots] at X' e1 e2 h1 h2 h3 st hcl
    subst h1; subst h2; subst h3
    exact Or.inr ⟨q, (T.setVm vm₁).calling g' mk (Value.ref b :: As).toArray, t, U', L, E, ce, hT, X', hL, e1, e2, hq, hce, hcv, vx_cls hW₁ hcl, st⟩
theorem vx_runS (S : CallFix p m c cc nL s args Ts own) (hM : vx_Met l y ws rm Pc Qc XC mc ms free) (cw : CallB R s args own index y bytes maxL ret ws rm mc ms n ∧ (Cond.static y).before args s = true) (hp : PreS s H Pc As)
    (hg : g.method = m) (hn : As.length = n) (hsize : g.locals.size = nL) (hstack : g.stack = As.reverse ++ rest) (hW : 2 * g.monitorRoom + (rest.map fun v => v.category).sum ≤ 8) (hdg : decode cc g.pc = .ok (.invokestatic index, 3)) (hf : cells + mc ≤ R.cells ∧ slots + ms ≤ R.slots) :
    vx_Run p l e R s m args below meth c H locs cells slots mc ms g rest (Qc As.toArray) XC free := by
  have hK : vx_Back l R p e below s args y 3 8 (PreOf R mc ms Pc) (PostOf Qc mc ms free) (vx_Post XC mc ms free) := vx_callBack cw.1 hM hp.1
  obtain ⟨⟨-, -, -, -, -, -, hcode, hini, hy, hlen, hl⟩, hstt⟩ := cw
  obtain ⟨hx, hb, hml, ho, -⟩ := S
  intro T hT X
  rcases vx_callS X hx (bytes := bytes) (maxL := maxL) (ret := ret) ho hl hstt hini hcode hy hK hg (hsize.trans hml.symm) (argsL := As) (rest := rest) (fun sig h => hn.trans (hlen sig h)) hstack hW (by rw [hb]; exact hdg)
    (fun vm₁ hW₁ => ⟨hf.1, hf.2, hp.2 (T.setVm vm₁) hT hW₁⟩) with ⟨v, vm₁, ⟨U', l2, c2, s2⟩, hW₁, X', ⟨g', mk, t, L, e1, e2, hq, h1, hL, h2, h3⟩, st⟩ | ⟨q, vm₁, ⟨U', l2, c2, s2⟩, hW₁, X', ⟨g', mk, t, L, E, ce, e1, e2, hq, hce, hcv, hcl, h1, hL, h2, h3⟩, st⟩
  · dsimp only [Pt.U, Pt.locs, Pt.cells, Pt.slots] at X' e1 e2 h1 h2 h3 st
    subst h1; subst h2; subst h3
    exact Or.inl ⟨v, (T.setVm vm₁).calling g' mk As.toArray, t, U', L, hT, X', hL, e1, e2, hq, st⟩
  · dsimp only [Pt.U, Pt.locs, Pt.cells, Pt.slots] at X' e1 e2 h1 h2 h3 st hcl
    subst h1; subst h2; subst h3
    exact Or.inr ⟨q, (T.setVm vm₁).calling g' mk As.toArray, t, U', L, E, ce, hT, X', hL, e1, e2, hq, hce, hcv, vx_cls hW₁ hcl, st⟩
end Runs
section Rows
variable {p : Program} {l : Launch} {e : Env} {R : Room} {s : State} {m : MethodId} {args : Array Value} {below : List Frame} {meth : Method} {c : Code} {H : Heap} {locs : List Loc} {cells slots : Nat} {Q : State → Prop}
variable {mc ms : Nat} {free : Addr → Prop} {A0 A1 : Nat → Prop} {H0 : Heap} {a : Array Value} {pc : Nat} {ls : Array Slot} {st0 rest : List Value}
theorem vx_keep {st₀ t T' : State} {L : List Loc} (h0 : st₀.heap = H) (e1 : T'.heap = t.heap) (hS : va_S A0 H0 H locs) (hA : ∀ q, q < H.size → A1 q → A0 q) (hf : ∀ q, free q → A0 q) (hL : ∀ q ∈ L, free q.base) (hF : va_F A1 st₀ t) :
    H.size ≤ T'.heap.size ∧ (∀ q : Nat, q < H.size → ¬ A1 q → T'.heap[q]? = H[q]?) ∧ va_S A0 H0 T'.heap (locs ++ L) := by
  obtain ⟨hz, hk⟩ := hF
  rw [h0] at hz hk
  exact ⟨by rw [e1]; exact hz, fun q h1 h2 => by rw [e1]; exact hk q h1 h2,
    ⟨Nat.le_trans hS.1 (by rw [e1]; exact hz), fun q h1 h2 => by rw [e1, hk q (Nat.lt_of_lt_of_le h1 hS.1) (fun z => h2 (hA q (Nat.lt_of_lt_of_le h1 hS.1) z))]; exact hS.2.1 q h1 h2, fun q hq => by
      rcases List.mem_append.mp hq with h | h
      · exact hS.2.2 q h
      · exact hf _ (hL q h)⟩⟩
theorem vx_calli {S SX : Type} {post : Int32 → S → Prop} {px : SX → Prop} {B : S → State → Prop} {BX : String → SX → State → Prop} {AX : Nat → Prop} (hr : vx_Run p l e R s m args below meth c H locs cells slots mc ms (F0 m pc ls st0) rest (va_Qi post B A1 a) (vx_X px BX AX) free) (hS : va_S A0 H0 H locs) (hA : ∀ q, q < H.size → A1 q → A0 q) (hf : ∀ q, free q → A0 q) (hAX : ∀ q, q < H.size → AX q → A0 q)
    (kx : ∀ (E : String) (ce : Cell) (q9 : Addr) (u : SX) (t : State) (H1 : Heap) (locs1 : List Loc), t.heap = H1 → s.vm.Alike t.vm → px u → BX E u t → H.size ≤ H1.size → (∀ q : Nat, q < H.size → ¬ AX q → H1[q]? = H[q]?) → va_S A0 H0 H1 locs1 → H1[q9]? = some ce → ce.vm = .none → s.vm.findClass E = some ce.cls → vx_W p l e R s m args below meth c H1 locs1 (cells + mc) (slots + ms) Q (F0 m pc ls rest) q9)
    (kk : ∀ (r : Int32) (u : S) (t : State) (H1 : Heap) (locs1 : List Loc), t.heap = H1 → s.vm.Alike t.vm → post r u → B u t → H.size ≤ H1.size → (∀ q : Nat, q < H.size → ¬ A1 q → H1[q]? = H[q]?) → va_S A0 H0 H1 locs1 → W p l e R s m args below meth c H1 locs1 (cells + mc) (slots + ms) Q (F0 m (pc + 3) ls (.int r :: rest))) : W p l e R s m args below meth c H locs cells slots Q (F0 m pc ls st0) := by
  intro T hT X
  rcases hr T hT X with ⟨v, st₀, t, T', L, h0, X', hL, e1, e2, ⟨⟨r, u, hv, hp, hb⟩, hF⟩, st⟩ | ⟨q, st₀, t, T', L, E, ce, h0, X', hL, e1, e2, ⟨u, hp, hb, hF⟩, hce, hcv, hcl, st⟩
  · cases hv
    obtain ⟨k1, k2, k3⟩ := vx_keep h0 e1 hS hA hf hL hF
    obtain ⟨t2, a1, b1⟩ := kk r u t T'.heap (locs ++ L) e1.symm (by rw [← e2]; exact X'.warmed.alike) hp hb k1 k2 k3 T' rfl X'
    exact ⟨t2, st t2 a1, b1⟩
  · obtain ⟨k1, k2, k3⟩ := vx_keep h0 e1 hS hAX hf hL hF
    obtain ⟨t2, a1, b1⟩ := kx E ce q u t T'.heap (locs ++ L) e1.symm (by rw [← e2]; exact X'.warmed.alike) hp hb k1 k2 k3 (by rw [e1]; exact hce) hcv hcl T' rfl X'
    exact ⟨t2, st.trans a1, b1⟩
theorem vx_calll {S SX : Type} {post : Int64 → S → Prop} {px : SX → Prop} {B : S → State → Prop} {BX : String → SX → State → Prop} {AX : Nat → Prop} (hr : vx_Run p l e R s m args below meth c H locs cells slots mc ms (F0 m pc ls st0) rest (va_Ql post B A1 a) (vx_X px BX AX) free) (hS : va_S A0 H0 H locs) (hA : ∀ q, q < H.size → A1 q → A0 q) (hf : ∀ q, free q → A0 q) (hAX : ∀ q, q < H.size → AX q → A0 q)
    (kx : ∀ (E : String) (ce : Cell) (q9 : Addr) (u : SX) (t : State) (H1 : Heap) (locs1 : List Loc), t.heap = H1 → s.vm.Alike t.vm → px u → BX E u t → H.size ≤ H1.size → (∀ q : Nat, q < H.size → ¬ AX q → H1[q]? = H[q]?) → va_S A0 H0 H1 locs1 → H1[q9]? = some ce → ce.vm = .none → s.vm.findClass E = some ce.cls → vx_W p l e R s m args below meth c H1 locs1 (cells + mc) (slots + ms) Q (F0 m pc ls rest) q9)
    (kk : ∀ (r : Int64) (u : S) (t : State) (H1 : Heap) (locs1 : List Loc), t.heap = H1 → s.vm.Alike t.vm → post r u → B u t → H.size ≤ H1.size → (∀ q : Nat, q < H.size → ¬ A1 q → H1[q]? = H[q]?) → va_S A0 H0 H1 locs1 → W p l e R s m args below meth c H1 locs1 (cells + mc) (slots + ms) Q (F0 m (pc + 3) ls (.long r :: rest))) : W p l e R s m args below meth c H locs cells slots Q (F0 m pc ls st0) := by
  intro T hT X
  rcases hr T hT X with ⟨v, st₀, t, T', L, h0, X', hL, e1, e2, ⟨⟨r, u, hv, hp, hb⟩, hF⟩, st⟩ | ⟨q, st₀, t, T', L, E, ce, h0, X', hL, e1, e2, ⟨u, hp, hb, hF⟩, hce, hcv, hcl, st⟩
  · cases hv
    obtain ⟨k1, k2, k3⟩ := vx_keep h0 e1 hS hA hf hL hF
    obtain ⟨t2, a1, b1⟩ := kk r u t T'.heap (locs ++ L) e1.symm (by rw [← e2]; exact X'.warmed.alike) hp hb k1 k2 k3 T' rfl X'
    exact ⟨t2, st t2 a1, b1⟩
  · obtain ⟨k1, k2, k3⟩ := vx_keep h0 e1 hS hAX hf hL hF
    obtain ⟨t2, a1, b1⟩ := kx E ce q u t T'.heap (locs ++ L) e1.symm (by rw [← e2]; exact X'.warmed.alike) hp hb k1 k2 k3 (by rw [e1]; exact hce) hcv hcl T' rfl X'
    exact ⟨t2, st.trans a1, b1⟩
theorem vx_callf {S SX : Type} {post : UInt32 → S → Prop} {px : SX → Prop} {B : S → State → Prop} {BX : String → SX → State → Prop} {AX : Nat → Prop} (hr : vx_Run p l e R s m args below meth c H locs cells slots mc ms (F0 m pc ls st0) rest (va_Qf post B A1 a) (vx_X px BX AX) free) (hS : va_S A0 H0 H locs) (hA : ∀ q, q < H.size → A1 q → A0 q) (hf : ∀ q, free q → A0 q) (hAX : ∀ q, q < H.size → AX q → A0 q)
    (kx : ∀ (E : String) (ce : Cell) (q9 : Addr) (u : SX) (t : State) (H1 : Heap) (locs1 : List Loc), t.heap = H1 → s.vm.Alike t.vm → px u → BX E u t → H.size ≤ H1.size → (∀ q : Nat, q < H.size → ¬ AX q → H1[q]? = H[q]?) → va_S A0 H0 H1 locs1 → H1[q9]? = some ce → ce.vm = .none → s.vm.findClass E = some ce.cls → vx_W p l e R s m args below meth c H1 locs1 (cells + mc) (slots + ms) Q (F0 m pc ls rest) q9)
    (kk : ∀ (r : UInt32) (u : S) (t : State) (H1 : Heap) (locs1 : List Loc), t.heap = H1 → s.vm.Alike t.vm → post r u → B u t → H.size ≤ H1.size → (∀ q : Nat, q < H.size → ¬ A1 q → H1[q]? = H[q]?) → va_S A0 H0 H1 locs1 → W p l e R s m args below meth c H1 locs1 (cells + mc) (slots + ms) Q (F0 m (pc + 3) ls (.float r :: rest))) : W p l e R s m args below meth c H locs cells slots Q (F0 m pc ls st0) := by
  intro T hT X
  rcases hr T hT X with ⟨v, st₀, t, T', L, h0, X', hL, e1, e2, ⟨⟨r, u, hv, hp, hb⟩, hF⟩, st⟩ | ⟨q, st₀, t, T', L, E, ce, h0, X', hL, e1, e2, ⟨u, hp, hb, hF⟩, hce, hcv, hcl, st⟩
  · cases hv
    obtain ⟨k1, k2, k3⟩ := vx_keep h0 e1 hS hA hf hL hF
    obtain ⟨t2, a1, b1⟩ := kk r u t T'.heap (locs ++ L) e1.symm (by rw [← e2]; exact X'.warmed.alike) hp hb k1 k2 k3 T' rfl X'
    exact ⟨t2, st t2 a1, b1⟩
  · obtain ⟨k1, k2, k3⟩ := vx_keep h0 e1 hS hAX hf hL hF
    obtain ⟨t2, a1, b1⟩ := kx E ce q u t T'.heap (locs ++ L) e1.symm (by rw [← e2]; exact X'.warmed.alike) hp hb k1 k2 k3 (by rw [e1]; exact hce) hcv hcl T' rfl X'
    exact ⟨t2, st.trans a1, b1⟩
theorem vx_calld {S SX : Type} {post : UInt64 → S → Prop} {px : SX → Prop} {B : S → State → Prop} {BX : String → SX → State → Prop} {AX : Nat → Prop} (hr : vx_Run p l e R s m args below meth c H locs cells slots mc ms (F0 m pc ls st0) rest (va_Qd post B A1 a) (vx_X px BX AX) free) (hS : va_S A0 H0 H locs) (hA : ∀ q, q < H.size → A1 q → A0 q) (hf : ∀ q, free q → A0 q) (hAX : ∀ q, q < H.size → AX q → A0 q)
    (kx : ∀ (E : String) (ce : Cell) (q9 : Addr) (u : SX) (t : State) (H1 : Heap) (locs1 : List Loc), t.heap = H1 → s.vm.Alike t.vm → px u → BX E u t → H.size ≤ H1.size → (∀ q : Nat, q < H.size → ¬ AX q → H1[q]? = H[q]?) → va_S A0 H0 H1 locs1 → H1[q9]? = some ce → ce.vm = .none → s.vm.findClass E = some ce.cls → vx_W p l e R s m args below meth c H1 locs1 (cells + mc) (slots + ms) Q (F0 m pc ls rest) q9)
    (kk : ∀ (r : UInt64) (u : S) (t : State) (H1 : Heap) (locs1 : List Loc), t.heap = H1 → s.vm.Alike t.vm → post r u → B u t → H.size ≤ H1.size → (∀ q : Nat, q < H.size → ¬ A1 q → H1[q]? = H[q]?) → va_S A0 H0 H1 locs1 → W p l e R s m args below meth c H1 locs1 (cells + mc) (slots + ms) Q (F0 m (pc + 3) ls (.double r :: rest))) : W p l e R s m args below meth c H locs cells slots Q (F0 m pc ls st0) := by
  intro T hT X
  rcases hr T hT X with ⟨v, st₀, t, T', L, h0, X', hL, e1, e2, ⟨⟨r, u, hv, hp, hb⟩, hF⟩, st⟩ | ⟨q, st₀, t, T', L, E, ce, h0, X', hL, e1, e2, ⟨u, hp, hb, hF⟩, hce, hcv, hcl, st⟩
  · cases hv
    obtain ⟨k1, k2, k3⟩ := vx_keep h0 e1 hS hA hf hL hF
    obtain ⟨t2, a1, b1⟩ := kk r u t T'.heap (locs ++ L) e1.symm (by rw [← e2]; exact X'.warmed.alike) hp hb k1 k2 k3 T' rfl X'
    exact ⟨t2, st t2 a1, b1⟩
  · obtain ⟨k1, k2, k3⟩ := vx_keep h0 e1 hS hAX hf hL hF
    obtain ⟨t2, a1, b1⟩ := kx E ce q u t T'.heap (locs ++ L) e1.symm (by rw [← e2]; exact X'.warmed.alike) hp hb k1 k2 k3 (by rw [e1]; exact hce) hcv hcl T' rfl X'
    exact ⟨t2, st.trans a1, b1⟩
theorem vx_callv {S SX : Type} {post : S → Prop} {px : SX → Prop} {B : S → State → Prop} {BX : String → SX → State → Prop} {AX : Nat → Prop} (hr : vx_Run p l e R s m args below meth c H locs cells slots mc ms (F0 m pc ls st0) rest (va_Qv post B A1 a) (vx_X px BX AX) free) (hS : va_S A0 H0 H locs) (hA : ∀ q, q < H.size → A1 q → A0 q) (hf : ∀ q, free q → A0 q) (hAX : ∀ q, q < H.size → AX q → A0 q)
    (kx : ∀ (E : String) (ce : Cell) (q9 : Addr) (u : SX) (t : State) (H1 : Heap) (locs1 : List Loc), t.heap = H1 → s.vm.Alike t.vm → px u → BX E u t → H.size ≤ H1.size → (∀ q : Nat, q < H.size → ¬ AX q → H1[q]? = H[q]?) → va_S A0 H0 H1 locs1 → H1[q9]? = some ce → ce.vm = .none → s.vm.findClass E = some ce.cls → vx_W p l e R s m args below meth c H1 locs1 (cells + mc) (slots + ms) Q (F0 m pc ls rest) q9)
    (kk : ∀ (u : S) (t : State) (H1 : Heap) (locs1 : List Loc), t.heap = H1 → s.vm.Alike t.vm → post u → B u t → H.size ≤ H1.size → (∀ q : Nat, q < H.size → ¬ A1 q → H1[q]? = H[q]?) → va_S A0 H0 H1 locs1 → W p l e R s m args below meth c H1 locs1 (cells + mc) (slots + ms) Q (F0 m (pc + 3) ls (rest))) : W p l e R s m args below meth c H locs cells slots Q (F0 m pc ls st0) := by
  intro T hT X
  rcases hr T hT X with ⟨v, st₀, t, T', L, h0, X', hL, e1, e2, ⟨⟨u, hv, hp, hb⟩, hF⟩, st⟩ | ⟨q, st₀, t, T', L, E, ce, h0, X', hL, e1, e2, ⟨u, hp, hb, hF⟩, hce, hcv, hcl, st⟩
  · cases hv
    obtain ⟨k1, k2, k3⟩ := vx_keep h0 e1 hS hA hf hL hF
    obtain ⟨t2, a1, b1⟩ := kk u t T'.heap (locs ++ L) e1.symm (by rw [← e2]; exact X'.warmed.alike) hp hb k1 k2 k3 T' rfl X'
    exact ⟨t2, st t2 a1, b1⟩
  · obtain ⟨k1, k2, k3⟩ := vx_keep h0 e1 hS hAX hf hL hF
    obtain ⟨t2, a1, b1⟩ := kx E ce q u t T'.heap (locs ++ L) e1.symm (by rw [← e2]; exact X'.warmed.alike) hp hb k1 k2 k3 (by rw [e1]; exact hce) hcv hcl T' rfl X'
    exact ⟨t2, st.trans a1, b1⟩
/-- caught by the row x of this method's table; the rows ahead don't take it -/
theorem vx_catch {own name : String} {E : String} {ce : Cell} {q : Addr} (hown : s.vm.findClass own = some m.cls) (pre : List ExceptionTableEntry) (x : ExceptionTableEntry) (suf : List ExceptionTableEntry) (hsplit : c.exceptionTable.toList = pre ++ x :: suf)
    (hpass : ∀ z ∈ pre, covers z pc = false ∨ (z.catchType ≠ 0 ∧ ∃ nm : String, (Cond.classLink own z.catchType nm).before args s = true ∧ va_Nc E nm s)) (hx : covers x pc = true) (h0 : x.catchType ≠ 0)
    (hlink : (Cond.classLink own x.catchType name).before args s = true) (hcast : (Cond.castable E name).before args s = true) (hcell : H[q]? = some ce) (hv : ce.vm = .none) (hcl : s.vm.findClass E = some ce.cls)
    (kk : W p l e R s m args below meth c H locs cells slots Q (F0 m x.handlerPc ls [.ref q])) : vx_W p l e R s m args below meth c H locs cells slots Q (F0 m pc ls rest) q := by
  intro T hT X
  have hpl : e.platform.magicAccessors = ({} : Platform).magicAccessors := by rw [X.admits.platform]
  obtain ⟨c3, c4, hc3, hc4, hasg⟩ := Cond.castable_spec hcast
  cases Option.some.inj (hc3.symm.trans hcl)
  obtain ⟨c5, hc5, hcl5⟩ := Cond.classLink_spec hown hlink e.platform hpl
  cases Option.some.inj (hc4.symm.trans hc5)
  obtain ⟨vm', X', st⟩ := X.thenCaughtThrough q (g := F0 m pc ls rest) rfl (Steps.refl _) (by rw [hT]; exact hcell) (by rw [hv]; rfl) (by obtain ⟨k9, h9, -⟩ := Vm.findClass_spec hcl; exact ⟨k9, h9⟩) pre x suf hsplit
    (fun z hz => by
      rcases hpass z hz with h | ⟨hz0, nm, hl1, hn1⟩
      · exact Or.inl h
      · obtain ⟨c6, hc6, hcl6⟩ := Cond.classLink_spec hown hl1 e.platform hpl
        obtain ⟨a8, b8, h1, h2, h3⟩ := hn1
        cases Option.some.inj (h1.symm.trans hcl)
        cases Option.some.inj (h2.symm.trans hc6)
        exact Or.inr ⟨hz0, _, hcl6, h3⟩) hx (Or.inr ⟨h0, c4, hcl5, hasg⟩)
  obtain ⟨t, a1, b1⟩ := kk (T.setVm vm') hT X'
  exact ⟨t, st.trans a1, b1⟩
end Rows
section Ends
variable {p : Program} {l : Launch} {e : Env} {R : Room} {s : State} {m : MethodId} {args : Array Value} {below : List Frame} {meth : Method} {c : Code} {H : Heap} {locs : List Loc} {cells slots : Nat} {Q : State → Prop}
variable {mc ms : Nat} {free : Addr → Prop} {A0 A1 : Nat → Prop} {H0 : Heap} {a : Array Value} {ls : Array Slot} {st0 rest : List Value}
variable {Qc : Array Value → State → Outcome → State → Prop} {XC : String → State → State → Prop}
/-- what a body that may throw owes at its end -/
def vx_MQ (below : List Frame) (Qc : Array Value → State → Outcome → State → Prop) (XC : String → State → State → Prop) (a : Array Value) (s : State) (mc ms : Nat) (free : Addr → Prop) : State → Prop := fun t =>
  ∃ o, t.status = .running ∧ Ended t below o ∧ vx_Q Qc XC mc ms free a s o t
theorem vx_ret {g : JFrame} {mc ms : Nat} (k : W p l e R s m args below meth c H locs cells slots (MQ below Qc args s mc ms free) g) : W p l e R s m args below meth c H locs cells slots (vx_MQ below Qc XC args s mc ms free) g := by
  intro T hT X
  obtain ⟨t, a1, o, b1, b2, b3, b4⟩ := k T hT X
  exact ⟨t, a1, o, b1, b2, Or.inl ⟨b3, b4⟩⟩
/-- not caught here: it goes on to the caller -/
theorem vx_widen {g : JFrame} {q : Addr} {k n : Nat} (h1 : cells ≤ k) (h2 : slots ≤ n) (kk : vx_W p l e R s m args below meth c H locs k n Q g q) : vx_W p l e R s m args below meth c H locs cells slots Q g q := fun T hT X => kk T hT (stand_widen X h1 h2)
theorem vx_out {pc : Nat} {E : String} {ce : Cell} {q : Addr} {mc ms : Nat} (hout : ∀ x ∈ c.exceptionTable.toList, covers x pc = false) (hlocks : meth.locks = false) (hcell : H[q]? = some ce) (hv : ce.vm = .none) (hcl : s.vm.findClass E = some ce.cls)
    (hx : ∀ t : State, t.heap = H → s.vm.Alike t.vm → XC E s t) (hf : ∀ z ∈ locs, free z.base) (hc : cells ≤ mc) (hs : slots ≤ ms) :
    vx_W p l e R s m args below meth c H locs cells slots (vx_MQ below Qc XC args s mc ms free) (F0 m pc ls rest) q := by
  intro T hT X
  obtain ⟨st1, hrun, hend, hW, hsm⟩ := X.leaveThrown q (g := F0 m pc ls rest) rfl rfl rfl hout hlocks
  have hcell9 : (T.setFrames (.throwing q :: below)).heap[q]? = some ce := by
    show T.heap[q]? = some ce
    rw [hT]; exact hcell
  exact ⟨_, st1, .threw q, hrun, hend, Or.inr ⟨q, rfl, E, ce, locs, hx _ hT hW.alike, hcell9, hv, hcl, hW, hsm.mono hc hs, hf⟩⟩
theorem vx_frame {U : State} {k n : Nat} (h : s.sameButNew ({ U with vm := s.vm } : State) locs k n) : s.heap.size ≤ U.heap.size ∧ ∀ q : Nat, q < s.heap.size → (∀ z ∈ locs, z.base ≠ q) → U.heap[q]? = s.heap[q]? := by
  obtain ⟨-, h2, -, -, -, h6⟩ := h
  refine ⟨h2, fun q hq hz => ?_⟩
  obtain ⟨c9, e1, e2, e3, e4⟩ := h6 q _ (Array.getElem?_eq_getElem hq)
  have hs : c9.slots = (s.heap[q]).slots := Array.ext_getElem? fun i => e4 i fun hm => hz _ hm rfl
  have h9 : c9 = s.heap[q] := by
    rw [hs] at e2
    exact e2
  have e5 : U.heap[q]? = some c9 := e1
  rw [e5, h9, Array.getElem?_eq_getElem hq]
/-- the words of a throw but the four that speak of the heap -/
def vx_no (w : Cond) : Bool := decide (w ≠ .isRef (.static Bundle.tN "UNASSIGNED_STACK" Bundle.steD)) && decide (w ≠ .isRef (.static Bundle.tN "SUPPRESSED_SENTINEL" Bundle.listD)) && decide (w ≠ .laysStatic Bundle.tN "UNASSIGNED_STACK" Bundle.steD) && decide (w ≠ .laysStatic Bundle.tN "SUPPRESSED_SENTINEL" Bundle.listD)
def vx_at0 (own : String) (ic : Nat) (X : String) (names : List String) : List Cond := (Bundle.ownAtoms0 own ic X names).filter vx_no
def vx_atS (own : String) (ic : Nat) (X : String) (names : List String) : List Cond := (Bundle.ownAtoms own ic X names).filter vx_no
/-- a word that the tables alone decide, or a good one -/
def vx_ot (w : Cond) : Bool := w.onTables || goodWord w
theorem vx_ot_at {args a' : Array Value} {s U : State} {w : Cond} (hW : s.WarmedH U.vm) (hvm : s.vm = U.vm) (hg : vx_ot w = true) (h : w.before args s = true) : w.before a' U = true := by
  simp only [vx_ot, Bool.or_eq_true] at hg
  rcases hg with hg | hg
  · exact va_tabs hg hvm h
  · exact word_at hW (good_of_word hg) h
/-- a list's words: the good ones out of the method's own list, the others by premises of their own -/
theorem vx_hat {args : Array Value} {s : State} {L B : List Cond} (h1 : ∀ w ∈ L.filter goodWord, w.before args s = true) (h2 : ∀ w ∈ L.filter (fun w => !goodWord w), w ∈ B) (h3 : ∀ w ∈ B, w.before args s = true) : ∀ w ∈ L, w.before args s = true := by
  intro w hw
  by_cases g : goodWord w = true
  · exact h1 w (List.mem_filter.mpr ⟨hw, g⟩)
  · refine h3 w (h2 w (List.mem_filter.mpr ⟨hw, ?_⟩))
    show (!goodWord w) = true
    cases hgw : goodWord w
    · rfl
    · exact absurd hgw g
theorem vx_c {args : Array Value} {s : State} {w : Cond} {B : List Cond} (h : w.before args s = true) (t : ∀ w ∈ B, w.before args s = true) : ∀ w' ∈ w :: B, w'.before args s = true := fun w' h' => (List.mem_cons.mp h').elim (fun e => by rw [e]; exact h) (t w')
theorem vx_n {args : Array Value} {s : State} : ∀ w ∈ ([] : List Cond), w.before args s = true := fun _ h => nomatch h
theorem vx_own {args : Array Value} {s : State} {L : List Cond} (h1 : ∀ w ∈ L.filter vx_no, w.before args s = true)
    (hU : (Cond.isRef (.static Bundle.tN "UNASSIGNED_STACK" Bundle.steD)).before args s = true) (hN : (Cond.isRef (.static Bundle.tN "SUPPRESSED_SENTINEL" Bundle.listD)).before args s = true)
    (lU : (Cond.laysStatic Bundle.tN "UNASSIGNED_STACK" Bundle.steD).before args s = true) (lN : (Cond.laysStatic Bundle.tN "SUPPRESSED_SENTINEL" Bundle.listD).before args s = true) : ∀ w ∈ L, w.before args s = true := by
  intro w hw
  by_cases e1 : w = .isRef (.static Bundle.tN "UNASSIGNED_STACK" Bundle.steD)
  · rw [e1]; exact hU
  · by_cases e2 : w = .isRef (.static Bundle.tN "SUPPRESSED_SENTINEL" Bundle.listD)
    · rw [e2]; exact hN
    · by_cases e3 : w = .laysStatic Bundle.tN "UNASSIGNED_STACK" Bundle.steD
      · rw [e3]; exact lU
      · by_cases e4 : w = .laysStatic Bundle.tN "SUPPRESSED_SENTINEL" Bundle.listD
        · rw [e4]; exact lN
        · exact h1 w (List.mem_filter.mpr ⟨hw, by unfold vx_no; rw [decide_eq_true e1, decide_eq_true e2, decide_eq_true e3, decide_eq_true e4]; rfl⟩)
/-- where a static field lies, its class's statics cell in H -/
def vx_L (C n d : String) (A : Nat → Prop) (U : State) (H : Heap) : Prop := ∃ (c : ClassId) (k : Class) (i : Nat) (f : Field) (a : Nat) (cell : Cell), U.vm.findClass C = some c ∧ U.fieldFound? C n d = some (c, k, i, f) ∧ f.isStatic = true ∧ k.statics = some a ∧ H[a]? = some cell ∧ cell.vm.isStatics = true ∧ cell.cls = c ∧ f.slot < cell.slots.size ∧ k.staticTypes[f.slot]? = some f.type ∧ ¬ A a
theorem vx_L.moved {C n d : String} {A : Nat → Prop} {u U : State} {H : Heap} (hvm : u.vm.Alike U.vm) (h : vx_L C n d A u H) : vx_L C n d A U H := by
  obtain ⟨c, k, i, f, a, cell, h1, h2, h3, h4, h5, h6, h7, h8, h9, h10⟩ := h
  obtain ⟨k', hi', he⟩ := State.fieldFound?_setVm hvm h2
  exact ⟨c, k', i, f, a, cell, by rw [hvm.findClass]; exact h1, hi', h3, by rw [he]; exact h4, h5, h6, h7, h8, by rw [he]; exact h9, h10⟩
theorem vx_L.kept {C n d : String} {A : Nat → Prop} {U : State} {H H1 : Heap} (h : vx_L C n d A U H) (hq : ∀ a : Nat, a < H.size → ¬ A a → H1[a]? = H[a]?) : vx_L C n d A U H1 := by
  obtain ⟨c, k, i, f, a, cell, h1, h2, h3, h4, h5, h6, h7, h8, h9, h10⟩ := h
  exact ⟨c, k, i, f, a, cell, h1, h2, h3, h4, by rw [hq a (Array.getElem?_eq_some_iff.mp h5).1 h10]; exact h5, h6, h7, h8, h9, h10⟩
theorem vx_L.narrow {C n d : String} {A B : Nat → Prop} {U : State} {H : Heap} (h : vx_L C n d A U H) (hAB : ∀ q, B q → A q) : vx_L C n d B U H := by
  obtain ⟨c, k, i, f, a, cell, h1, h2, h3, h4, h5, h6, h7, h8, h9, h10⟩ := h
  exact ⟨c, k, i, f, a, cell, h1, h2, h3, h4, h5, h6, h7, h8, h9, fun z => h10 (hAB _ z)⟩
theorem vx_L.word {C n d : String} {A : Nat → Prop} {s : State} {args : Array Value} (h : vx_L C n d A s s.heap) : (Cond.laysStatic C n d).before args s = true := by
  obtain ⟨c, k, i, f, a, cell, h1, h2, h3, h4, h5, h6, h7, h8, h9, -⟩ := h
  show (Cond.laysStatic C n d).holds args s none s [] = true
  exact Cond.laysStatic_of h1 h2 h3 h4 h5 h6 h7 h8 h9
/-- .. and what it holds: null or some reference -/
def vx_Zq (C n d : String) (A : Nat → Prop) (U : State) (H : Heap) : Prop := va_Zq C n d A U H ∧ vx_L C n d A U H
theorem vx_Zq.moved {C n d : String} {A : Nat → Prop} {u U : State} {H : Heap} (hvm : u.vm.Alike U.vm) (h : vx_Zq C n d A u H) : vx_Zq C n d A U H := ⟨va_Zq.moved hvm h.1, vx_L.moved hvm h.2⟩
theorem vx_Zq.kept {C n d : String} {A : Nat → Prop} {U : State} {H H1 : Heap} (h : vx_Zq C n d A U H) (hq : ∀ a : Nat, a < H.size → ¬ A a → H1[a]? = H[a]?) : vx_Zq C n d A U H1 := ⟨va_Zq.kept h.1 hq, vx_L.kept h.2 hq⟩
theorem vx_Zq.narrow {C n d : String} {A B : Nat → Prop} {U : State} {H : Heap} (h : vx_Zq C n d A U H) (hAB : ∀ q, B q → A q) : vx_Zq C n d B U H := ⟨va_Zq.narrow h.1 hAB, vx_L.narrow h.2 hAB⟩
theorem vx_Zqof {args : Array Value} {s : State} {C n d : String} {A : Nat → Prop} (hl : (Cond.laysStatic C n d).before args s = true) (hini : (Cond.initialized C).before args s = true) (h : (Cond.isRef (.static C n d)).before args s = true) (hA : ∀ a : Nat, a < s.heap.size → ¬ A a) : vx_Zq C n d A s s.heap := by
  refine ⟨va_Zqof hl hini h hA, ?_⟩
  obtain ⟨c, k, i, f, a, cell, h1, h2, h3, h4, h5, h6, h7, h8, h9⟩ := Cond.laysStatic_spec hl
  exact ⟨c, k, i, f, a, cell, h1, h2, h3, h4, h5, h6, h7, h8, h9, hA a (Array.getElem?_eq_some_iff.mp h5).1⟩
theorem vx_isRef {C n d : String} {v : Value} {A : Nat → Prop} {s : State} {args : Array Value} (h : va_Z C n d v A s s.heap) (hv : v.isRef = true) : (Cond.isRef (.static C n d)).before args s = true := by
  obtain ⟨cf, kf, fi, f, a, cell, h1, h2, h3, h4, h5, h6, h7, -⟩ := h
  have he : (Term.static C n d).eval args s none [] s = some v := by
    simp [Term.eval, State.fieldNamed?, h1, h2, h4, h5, h6, h7]
  simp only [Cond.before, Cond.holds, Cond.value, he]
  cases v <;> simp_all [Value.isRef]
theorem vx_isRefq {C n d : String} {A : Nat → Prop} {s : State} {args : Array Value} (h : va_Zq C n d A s s.heap) : (Cond.isRef (.static C n d)).before args s = true := by
  rcases h with h | ⟨t, h⟩
  · exact vx_isRef h rfl
  · exact vx_isRef h rfl
/-- the same frame, seen from here: as if the method were called anew in this heap -/
theorem vx_rebase {T : State} (X : Stand p l e R s m args below meth c T locs cells slots) {R' : Room} (hf : R'.frames ≤ R.frames) (hl : R'.locals ≤ R.locals) (hc : cells + R'.cells ≤ R.cells) (hs : slots + R'.slots ≤ R.slots) :
    Stand p l e R' ((T.setVm s.vm).setFrames (.invoking m args :: below)) m args below meth c T [] 0 0 := by
  have htop : (T.setVm s.vm).topJava?.isSome := X.here.top
  have hF : ((T.setVm s.vm).setFrames (.invoking m args :: below)).frames = .invoking m args :: below := State.frames_setFrames _ (State.cur_lt_of_top htop)
  obtain ⟨g₀, hg0⟩ := Option.isSome_iff_exists.mp htop
  obtain ⟨r, hr⟩ := State.topJava?_eq_some.mp hg0
  have hl9 : e.platform.stackLimits (T.setVm s.vm).me = e.platform.stackLimits s.me := X.limits
  have hb9 : (T.setVm s.vm).me.stackBytes = s.me.stackBytes := X.bytes
  refine ⟨X.admits, X.cas, X.clock, hF, ?_, X.hears, X.method, X.code, X.here, X.tail, X.warmed, ?_, ?_, ?_⟩
  · have h := X.room
    have hU : ((T.setVm s.vm).setFrames (.invoking m args :: below)).localsInUse = s.localsInUse := by
      rw [State.localsInUse_invoking hF (meth := meth) (c := c) X.method X.code, State.localsInUse_invoking X.frames X.method X.code]
    simp only [State.hasRoom, Bool.and_eq_true, decide_eq_true_eq] at h ⊢
    obtain ⟨⟨⟨⟨h1, h2, h3, h4, h5, h6⟩, h7⟩, h8⟩, h9⟩ := h
    rw [X.frames, List.length_cons] at h2 h3
    have q1 := X.heapSize
    have q2 := X.used
    simp only [hF, hU, List.length_cons, State.stackLimits_setFrames, State.stackBytes_setFrames, hl9, hb9]
    refine ⟨⟨⟨⟨by omega, by omega, by omega, by omega, by omega, h6⟩, ?_⟩, ?_⟩, X.book⟩
    · show T.heap.size + R'.cells ≤ e.platform.maxCells
      omega
    · show T.slotsUsed + R'.slots ≤ e.platform.maxSlots
      omega
  · rw [State.stackLimits_setFrames]; rfl
  · rw [State.stackBytes_setFrames]; rfl
  · refine ⟨?_, Nat.le_refl _, Nat.le_refl _, ?_, ?_, fun a c9 h9 => ⟨c9, h9, rfl, rfl, fun _ _ => rfl⟩⟩
    · obtain ⟨t, ht, -⟩ := State.frames_cons hr
      show T.setVm s.vm = { ((T.setVm s.vm).setFrames (.invoking m args :: below)).setFrames (T.setVm s.vm).frames with heap := T.heap, slotsUsed := T.slotsUsed }
      rw [State.setFrames_setFrames, State.setFrames_self ht]
      rfl
    · show T.slotsUsed = T.slotsUsed + ((T.heap.toList.drop T.heap.size).map (·.slots.size)).sum
      rw [List.drop_eq_nil_of_le (Nat.le_of_eq Array.length_toList)]
      rfl
    · show ((T.heap.toList.drop T.heap.size).map (·.slots.size)).sum ≤ 0
      rw [List.drop_eq_nil_of_le (Nat.le_of_eq Array.length_toList)]
      exact Nat.le_refl _
/-- 'throw new E()': new; dup; invokespecial; athrow -/
theorem vx_throw0 {cc : ByteArray} {pc : Nat} (hexec : p.tables.exec = Jvm.exec) (hb : c.code = cc) (hl : l.stackTraces = false) {own cls : String} {names : List String} {ik ic mc ms : Nat} {A : Nat → Prop}
    (hown : s.vm.findClass own = some m.cls) (hcls : Bundle.fit cls = true) (hnames : ∀ n ∈ names, Bundle.fit n = true)
    (hk : (Cond.classLink own ik cls).before args s = true) (hini : (Cond.initialized cls).before args s = true) (hat : ∀ w ∈ vx_at0 own ic cls names, w.before args s = true)
    (hgood : ∀ w ∈ Cond.classLink own ik cls :: Cond.initialized cls :: vx_at0 own ic cls names, vx_ot w = true)
    (hU : vx_Zq Bundle.tN "UNASSIGNED_STACK" Bundle.steD A s s.heap) (hN : vx_Zq Bundle.tN "SUPPRESSED_SENTINEL" Bundle.listD A s s.heap) (hS : va_S A s.heap H locs) (hsize : ls.size = c.maxLocals)
    (d0 : decode cc pc = .ok (.new ik, 3)) (d3 : decode cc (pc + 3) = .ok (.dup, 1)) (d4 : decode cc (pc + 4) = .ok (.invokespecial ic, 3)) (d7 : decode cc (pc + 7) = .ok (.athrow, 1))
    (hout : ∀ x ∈ c.exceptionTable.toList, covers x (pc + 7) = false)
    (hRframes : names.length + 3 < R.frames) (hRlocals : (rest.map fun v => v.category).sum + (13 * (names.length + 1) + 42) ≤ R.locals) (hRcells : cells + 1 ≤ R.cells) (hRslots : slots + 6 ≤ R.slots) (hlocks : meth.locks = false)
    (hx : ∀ t : State, s.vm.Alike t.vm → H.size ≤ t.heap.size → (∀ q : Nat, q < H.size → t.heap[q]? = H[q]?) → XC cls s t)
    (hf : ∀ z ∈ locs, free z.base) (hc : cells + 1 ≤ mc) (hs : slots + 6 ≤ ms) :
    W p l e R s m args below meth c H locs cells slots (vx_MQ below Qc XC args s mc ms free) (F0 m pc ls rest) := by
  intro T hT X
  have htr : e.platform.stackTraces = false := (show e.platform.stackTraces = l.stackTraces by rw [X.admits.platform]).trans hl
  have Y := vx_rebase X (R' := { frames := R.frames, locals := R.locals, cells := 1, slots := 6 }) (Nat.le_refl _) (Nat.le_refl _) hRcells hRslots
  obtain ⟨s', hA⟩ : ∃ z, z = (T.setVm s.vm).setFrames (.invoking m args :: below) := ⟨_, rfl⟩
  rw [← hA] at Y
  have hvm : s'.vm = s.vm := by rw [hA]; rfl
  have hhp : s'.heap = H := by rw [hA]; exact hT
  have hW0 : s.WarmedH s'.vm := by rw [hvm]; exact State.WarmedH.refl s
  have hat' : ∀ w ∈ vx_at0 own ic cls names, w.before args s' = true := fun w hw => vx_ot_at hW0 hvm.symm (hgood w (List.mem_cons_of_mem _ (List.mem_cons_of_mem _ hw))) (hat w hw)
  have hk' : (Cond.classLink own ik cls).before args s' = true := vx_ot_at hW0 hvm.symm (hgood _ List.mem_cons_self) hk
  have hini' : (Cond.initialized cls).before args s' = true := vx_ot_at hW0 hvm.symm (hgood _ (List.mem_cons_of_mem _ List.mem_cons_self)) hini
  have hU' : vx_Zq Bundle.tN "UNASSIGNED_STACK" Bundle.steD A s' s'.heap := by rw [hhp]; exact vx_Zq.moved hW0.alike (hU.kept hS.2.1)
  have hN' : vx_Zq Bundle.tN "SUPPRESSED_SENTINEL" Bundle.listD A s' s'.heap := by rw [hhp]; exact vx_Zq.moved hW0.alike (hN.kept hS.2.1)
  have h : ∀ w ∈ Bundle.ownAtoms0 own ic cls names, w.before args s' = true := vx_own hat' (vx_isRefq hU'.1) (vx_isRefq hN'.1) hU'.2.word hN'.2.word
  have hown' : s'.vm.findClass own = some m.cls := by rw [hvm]; exact hown
  have hins : (Cond.instantiable cls 6).before args s' = true := h _ (by simp [Bundle.ownAtoms0])
  obtain ⟨vm₁, cX, kX, hfX, hkX, -, -, X₁, st1⟩ := Y.newCold hexec (own := own) (C := cls) (index := ik) (n := 6) hown' hk' hins hini'
    (g := F0 m pc ls rest) rfl (by rw [hb]; exact d0) (Nat.le_refl _) (Nat.le_refl _)
  generalize hT1 : (T.setVm vm₁).pushCell { cls := cX, slots := kX.instanceTypes.map defaultValue, vm := .none } = T1 at X₁ st1
  have hcat : (Value.ref T.heap.size).category = 1 := rfl
  have hcellA : T1.heap[T.heap.size]? = some (freshCell cX kX) := by rw [← hT1]; exact State.heap_pushCell_size _ _
  have d3' : decode c.code (pc + 3) = .ok (.dup, 1) := by rw [hb]; exact d3
  obtain ⟨U, hsteps, hrun, hend, hW, hsame, ce, hce, hO⟩ := X₁.ctorThrow0 hexec htr (own := own) (cls := cls) (names := names) (ic := ic) hown' hcls hnames h (fun x hx => nomatch hx) hfX hkX hcellA (by rw [hhp, hT]; exact Nat.le_refl _)
    (g := { method := m, pc := pc + 4, locals := ls, stack := .ref T.heap.size :: .ref T.heap.size :: rest, locked := none }) rfl hsize rfl rfl (rest := rest) rfl
    (by rw [hb]; exact d4) (by rw [hb]; exact d7) hout hRframes (by simp only [List.map_cons, List.sum_cons, hcat]; omega) hlocks
  obtain ⟨f1, f2⟩ := vx_frame hsame
  rw [hhp] at f1 f2
  have hWs : s.WarmedH U.vm := State.WarmedH.trans hW0 hW
  have hcl : s.vm.findClass cls = some ce.cls := by
    have h9 := hO.cls
    rw [hvm] at h9
    exact h9
  have hall : s.sameButNew ({ U with vm := s.vm } : State) locs mc ms := by
    subst hA
    obtain ⟨e1, e2⟩ := hsame
    rw [State.setFrames_setFrames] at e1
    have h2 : (T.setVm s.vm).sameButNew ({ U with vm := s.vm } : State) [] (0 + 1) (0 + 6) := ⟨e1, e2⟩
    have h3 := X.same.trans h2
    rw [List.append_nil] at h3
    exact h3.mono hc hs
  refine ⟨U, ?_, .threw T.heap.size, hrun, hend, Or.inr ⟨T.heap.size, rfl, cls, ce, locs, hx U hWs.alike f1 (fun q hq => f2 q hq (fun z hz => nomatch hz)), hce, hO.vm, hcl, hWs, hall, hf⟩⟩
  refine st1 _ ?_
  show Steps p.tables e below (T1.setTop { method := m, pc := pc + 3, locals := ls, stack := .ref T.heap.size :: rest, locked := none }) _
  jvm_step X₁.here [X₁.here.top, hexec, d3', Value.category]
  exact hsteps
/-- 'throw new E("text")': new; dup; ldc; invokespecial; athrow -/
theorem vx_throwS {cc : ByteArray} {pc : Nat} (hexec : p.tables.exec = Jvm.exec) (hb : c.code = cc) (hl : l.stackTraces = false) {own cls text : String} {names : List String} {ik is ic mc ms sa : Nat} {A : Nat → Prop}
    (hown : s.vm.findClass own = some m.cls) (hcls : Bundle.fit cls = true) (hnames : ∀ n ∈ names, Bundle.fit n = true)
    (hk : (Cond.classLink own ik cls).before args s = true) (hini : (Cond.initialized cls).before args s = true) (hstr : vk_R own is text sa s) (hat : ∀ w ∈ vx_atS own ic cls names, w.before args s = true)
    (hgood : ∀ w ∈ Cond.classLink own ik cls :: Cond.initialized cls :: vx_atS own ic cls names, vx_ot w = true)
    (hU : vx_Zq Bundle.tN "UNASSIGNED_STACK" Bundle.steD A s s.heap) (hN : vx_Zq Bundle.tN "SUPPRESSED_SENTINEL" Bundle.listD A s s.heap) (hS : va_S A s.heap H locs) (hsize : ls.size = c.maxLocals)
    (d0 : decode cc pc = .ok (.new ik, 3)) (d3 : decode cc (pc + 3) = .ok (.dup, 1)) (d4 : decode cc (pc + 4) = .ok (.ldc is, 2)) (d6 : decode cc (pc + 6) = .ok (.invokespecial ic, 3)) (d9 : decode cc (pc + 9) = .ok (.athrow, 1))
    (hout : ∀ x ∈ c.exceptionTable.toList, covers x (pc + 9) = false)
    (hRframes : names.length + 3 < R.frames) (hRlocals : (rest.map fun v => v.category).sum + (13 * (names.length + 1) + 43) ≤ R.locals) (hRcells : cells + 1 ≤ R.cells) (hRslots : slots + 6 ≤ R.slots) (hlocks : meth.locks = false)
    (hx : ∀ t : State, s.vm.Alike t.vm → H.size ≤ t.heap.size → (∀ q : Nat, q < H.size → t.heap[q]? = H[q]?) → XC cls s t)
    (hf : ∀ z ∈ locs, free z.base) (hc : cells + 1 ≤ mc) (hs : slots + 6 ≤ ms) :
    W p l e R s m args below meth c H locs cells slots (vx_MQ below Qc XC args s mc ms free) (F0 m pc ls rest) := by
  intro T hT X
  have htr : e.platform.stackTraces = false := (show e.platform.stackTraces = l.stackTraces by rw [X.admits.platform]).trans hl
  have Y := vx_rebase X (R' := { frames := R.frames, locals := R.locals, cells := 1, slots := 6 }) (Nat.le_refl _) (Nat.le_refl _) hRcells hRslots
  obtain ⟨s', hA⟩ : ∃ z, z = (T.setVm s.vm).setFrames (.invoking m args :: below) := ⟨_, rfl⟩
  rw [← hA] at Y
  have hvm : s'.vm = s.vm := by rw [hA]; rfl
  have hhp : s'.heap = H := by rw [hA]; exact hT
  have hW0 : s.WarmedH s'.vm := by rw [hvm]; exact State.WarmedH.refl s
  have hat' : ∀ w ∈ vx_atS own ic cls names, w.before args s' = true := fun w hw => vx_ot_at hW0 hvm.symm (hgood w (List.mem_cons_of_mem _ (List.mem_cons_of_mem _ hw))) (hat w hw)
  have hk' : (Cond.classLink own ik cls).before args s' = true := vx_ot_at hW0 hvm.symm (hgood _ List.mem_cons_self) hk
  have hini' : (Cond.initialized cls).before args s' = true := vx_ot_at hW0 hvm.symm (hgood _ (List.mem_cons_of_mem _ List.mem_cons_self)) hini
  have hU' : vx_Zq Bundle.tN "UNASSIGNED_STACK" Bundle.steD A s' s'.heap := by rw [hhp]; exact vx_Zq.moved hW0.alike (hU.kept hS.2.1)
  have hN' : vx_Zq Bundle.tN "SUPPRESSED_SENTINEL" Bundle.listD A s' s'.heap := by rw [hhp]; exact vx_Zq.moved hW0.alike (hN.kept hS.2.1)
  have h : ∀ w ∈ Bundle.ownAtoms own ic cls names, w.before args s' = true := vx_own hat' (vx_isRefq hU'.1) (vx_isRefq hN'.1) hU'.2.word hN'.2.word
  have hown' : s'.vm.findClass own = some m.cls := by rw [hvm]; exact hown
  have hins : (Cond.instantiable cls 6).before args s' = true := h _ (by simp [Bundle.ownAtoms])
  obtain ⟨vm₁, cX, kX, hfX, hkX, -, -, X₁, st1⟩ := Y.newCold hexec (own := own) (C := cls) (index := ik) (n := 6) hown' hk' hins hini'
    (g := F0 m pc ls rest) rfl (by rw [hb]; exact d0) (Nat.le_refl _) (Nat.le_refl _)
  generalize hT1 : (T.setVm vm₁).pushCell { cls := cX, slots := kX.instanceTypes.map defaultValue, vm := .none } = T1 at X₁ st1
  have hcat : (Value.ref T.heap.size).category = 1 := rfl
  have hcellA : T1.heap[T.heap.size]? = some (freshCell cX kX) := by rw [← hT1]; exact State.heap_pushCell_size _ _
  have d3' : decode c.code (pc + 3) = .ok (.dup, 1) := by rw [hb]; exact d3
  have d4' : decode c.code (pc + 4) = .ok (.ldc is, 2) := by rw [hb]; exact d4
  have hstr' : vk_R own is text sa s' := vk_R.warm hW0 hstr
  obtain ⟨U, hsteps, hrun, hend, hW, hsame, ce, hce, hO⟩ := X₁.ctorThrowS hexec htr (own := own) (cls := cls) (names := names) (ic := ic) hown' hcls hnames h (fun x hx => nomatch hx) hfX hkX hcellA (by rw [hhp, hT]; exact Nat.le_refl _) (msg := .ref sa) rfl
    (g := { method := m, pc := pc + 6, locals := ls, stack := .ref sa :: .ref T.heap.size :: .ref T.heap.size :: rest, locked := none }) rfl hsize rfl rfl (rest := rest) rfl
    (by rw [hb]; exact d6) (by rw [hb]; exact d9) hout hRframes (by simp only [List.map_cons, List.sum_cons, hcat]; omega) hlocks
  obtain ⟨f1, f2⟩ := vx_frame hsame
  rw [hhp] at f1 f2
  have hWs : s.WarmedH U.vm := State.WarmedH.trans hW0 hW
  have hcl : s.vm.findClass cls = some ce.cls := by
    have h9 := hO.cls
    rw [hvm] at h9
    exact h9
  have hall : s.sameButNew ({ U with vm := s.vm } : State) locs mc ms := by
    subst hA
    obtain ⟨e1, e2⟩ := hsame
    rw [State.setFrames_setFrames] at e1
    have h2 : (T.setVm s.vm).sameButNew ({ U with vm := s.vm } : State) [] (0 + 1) (0 + 6) := ⟨e1, e2⟩
    have h3 := X.same.trans h2
    rw [List.append_nil] at h3
    exact h3.mono hc hs
  refine ⟨U, ?_, .threw T.heap.size, hrun, hend, Or.inr ⟨T.heap.size, rfl, cls, ce, locs, hx U hWs.alike f1 (fun q hq => f2 q hq (fun z hz => nomatch hz)), hce, hO.vm, hcl, hWs, hall, hf⟩⟩
  refine st1 _ ?_
  show Steps p.tables e below (T1.setTop { method := m, pc := pc + 3, locals := ls, stack := .ref T.heap.size :: rest, locked := none }) _
  jvm_step X₁.here [X₁.here.top, hexec, d3', Value.category]
  exact X₁.ldcString hexec (own := own) (text := text) (index := is) (a := sa) hown' hstr'.1 hstr'.2
    (g := { method := m, pc := pc + 4, locals := ls, stack := .ref T.heap.size :: .ref T.heap.size :: rest, locked := none }) rfl d4' _ hsteps
/-- 'throw new E("text")', the text by a wide index -/
theorem vx_throwSW {cc : ByteArray} {pc : Nat} (hexec : p.tables.exec = Jvm.exec) (hb : c.code = cc) (hl : l.stackTraces = false) {own cls text : String} {names : List String} {ik is ic mc ms sa : Nat} {A : Nat → Prop}
    (hown : s.vm.findClass own = some m.cls) (hcls : Bundle.fit cls = true) (hnames : ∀ n ∈ names, Bundle.fit n = true)
    (hk : (Cond.classLink own ik cls).before args s = true) (hini : (Cond.initialized cls).before args s = true) (hstr : vk_R own is text sa s) (hat : ∀ w ∈ vx_atS own ic cls names, w.before args s = true)
    (hgood : ∀ w ∈ Cond.classLink own ik cls :: Cond.initialized cls :: vx_atS own ic cls names, vx_ot w = true)
    (hU : vx_Zq Bundle.tN "UNASSIGNED_STACK" Bundle.steD A s s.heap) (hN : vx_Zq Bundle.tN "SUPPRESSED_SENTINEL" Bundle.listD A s s.heap) (hS : va_S A s.heap H locs) (hsize : ls.size = c.maxLocals)
    (d0 : decode cc pc = .ok (.new ik, 3)) (d3 : decode cc (pc + 3) = .ok (.dup, 1)) (d4 : decode cc (pc + 4) = .ok (.ldc_w is, 3)) (d7 : decode cc (pc + 7) = .ok (.invokespecial ic, 3)) (d10 : decode cc (pc + 10) = .ok (.athrow, 1))
    (hout : ∀ x ∈ c.exceptionTable.toList, covers x (pc + 10) = false)
    (hRframes : names.length + 3 < R.frames) (hRlocals : (rest.map fun v => v.category).sum + (13 * (names.length + 1) + 43) ≤ R.locals) (hRcells : cells + 1 ≤ R.cells) (hRslots : slots + 6 ≤ R.slots) (hlocks : meth.locks = false)
    (hx : ∀ t : State, s.vm.Alike t.vm → H.size ≤ t.heap.size → (∀ q : Nat, q < H.size → t.heap[q]? = H[q]?) → XC cls s t)
    (hf : ∀ z ∈ locs, free z.base) (hc : cells + 1 ≤ mc) (hs : slots + 6 ≤ ms) :
    W p l e R s m args below meth c H locs cells slots (vx_MQ below Qc XC args s mc ms free) (F0 m pc ls rest) := by
  intro T hT X
  have htr : e.platform.stackTraces = false := (show e.platform.stackTraces = l.stackTraces by rw [X.admits.platform]).trans hl
  have Y := vx_rebase X (R' := { frames := R.frames, locals := R.locals, cells := 1, slots := 6 }) (Nat.le_refl _) (Nat.le_refl _) hRcells hRslots
  obtain ⟨s', hA⟩ : ∃ z, z = (T.setVm s.vm).setFrames (.invoking m args :: below) := ⟨_, rfl⟩
  rw [← hA] at Y
  have hvm : s'.vm = s.vm := by rw [hA]; rfl
  have hhp : s'.heap = H := by rw [hA]; exact hT
  have hW0 : s.WarmedH s'.vm := by rw [hvm]; exact State.WarmedH.refl s
  have hat' : ∀ w ∈ vx_atS own ic cls names, w.before args s' = true := fun w hw => vx_ot_at hW0 hvm.symm (hgood w (List.mem_cons_of_mem _ (List.mem_cons_of_mem _ hw))) (hat w hw)
  have hk' : (Cond.classLink own ik cls).before args s' = true := vx_ot_at hW0 hvm.symm (hgood _ List.mem_cons_self) hk
  have hini' : (Cond.initialized cls).before args s' = true := vx_ot_at hW0 hvm.symm (hgood _ (List.mem_cons_of_mem _ List.mem_cons_self)) hini
  have hU' : vx_Zq Bundle.tN "UNASSIGNED_STACK" Bundle.steD A s' s'.heap := by rw [hhp]; exact vx_Zq.moved hW0.alike (hU.kept hS.2.1)
  have hN' : vx_Zq Bundle.tN "SUPPRESSED_SENTINEL" Bundle.listD A s' s'.heap := by rw [hhp]; exact vx_Zq.moved hW0.alike (hN.kept hS.2.1)
  have h : ∀ w ∈ Bundle.ownAtoms own ic cls names, w.before args s' = true := vx_own hat' (vx_isRefq hU'.1) (vx_isRefq hN'.1) hU'.2.word hN'.2.word
  have hown' : s'.vm.findClass own = some m.cls := by rw [hvm]; exact hown
  have hins : (Cond.instantiable cls 6).before args s' = true := h _ (by simp [Bundle.ownAtoms])
  obtain ⟨vm₁, cX, kX, hfX, hkX, -, -, X₁, st1⟩ := Y.newCold hexec (own := own) (C := cls) (index := ik) (n := 6) hown' hk' hins hini'
    (g := F0 m pc ls rest) rfl (by rw [hb]; exact d0) (Nat.le_refl _) (Nat.le_refl _)
  generalize hT1 : (T.setVm vm₁).pushCell { cls := cX, slots := kX.instanceTypes.map defaultValue, vm := .none } = T1 at X₁ st1
  have hcat : (Value.ref T.heap.size).category = 1 := rfl
  have hcellA : T1.heap[T.heap.size]? = some (freshCell cX kX) := by rw [← hT1]; exact State.heap_pushCell_size _ _
  have d3' : decode c.code (pc + 3) = .ok (.dup, 1) := by rw [hb]; exact d3
  have d4' : decode c.code (pc + 4) = .ok (.ldc_w is, 3) := by rw [hb]; exact d4
  have hstr' : vk_R own is text sa s' := vk_R.warm hW0 hstr
  obtain ⟨U, hsteps, hrun, hend, hW, hsame, ce, hce, hO⟩ := X₁.ctorThrowS hexec htr (own := own) (cls := cls) (names := names) (ic := ic) hown' hcls hnames h (fun x hx => nomatch hx) hfX hkX hcellA (by rw [hhp, hT]; exact Nat.le_refl _) (msg := .ref sa) rfl
    (g := { method := m, pc := pc + 7, locals := ls, stack := .ref sa :: .ref T.heap.size :: .ref T.heap.size :: rest, locked := none }) rfl hsize rfl rfl (rest := rest) rfl
    (by rw [hb]; exact d7) (by rw [hb]; exact d10) hout hRframes (by simp only [List.map_cons, List.sum_cons, hcat]; omega) hlocks
  obtain ⟨f1, f2⟩ := vx_frame hsame
  rw [hhp] at f1 f2
  have hWs : s.WarmedH U.vm := State.WarmedH.trans hW0 hW
  have hcl : s.vm.findClass cls = some ce.cls := by
    have h9 := hO.cls
    rw [hvm] at h9
    exact h9
  have hall : s.sameButNew ({ U with vm := s.vm } : State) locs mc ms := by
    subst hA
    obtain ⟨e1, e2⟩ := hsame
    rw [State.setFrames_setFrames] at e1
    have h2 : (T.setVm s.vm).sameButNew ({ U with vm := s.vm } : State) [] (0 + 1) (0 + 6) := ⟨e1, e2⟩
    have h3 := X.same.trans h2
    rw [List.append_nil] at h3
    exact h3.mono hc hs
  refine ⟨U, ?_, .threw T.heap.size, hrun, hend, Or.inr ⟨T.heap.size, rfl, cls, ce, locs, hx U hWs.alike f1 (fun q hq => f2 q hq (fun z hz => nomatch hz)), hce, hO.vm, hcl, hWs, hall, hf⟩⟩
  refine st1 _ ?_
  show Steps p.tables e below (T1.setTop { method := m, pc := pc + 3, locals := ls, stack := .ref T.heap.size :: rest, locked := none }) _
  jvm_step X₁.here [X₁.here.top, hexec, d3', Value.category]
  exact X₁.ldcStringW hexec (own := own) (text := text) (index := is) (a := sa) hown' hstr'.1 hstr'.2
    (g := { method := m, pc := pc + 4, locals := ls, stack := .ref T.heap.size :: .ref T.heap.size :: rest, locked := none }) rfl d4' _ hsteps
end Ends
section Bodies
variable {l : Launch}
theorem vx_ofW {y : MethodName} {ws ws' : List Cond} {rm : Room} {Pc : Array Value → State → Prop} {Qc : Array Value → State → Outcome → State → Prop} {XC : String → State → State → Prop} {mc ms : Nat} {free : Addr → Prop} {cc : ByteArray} {maxL : Nat} {ret : Option FieldType}
    (hy : plainName y.cls = true) (hw : ws = Cond.code y cc maxL ret :: ws')
    (body : ∀ p e s m args below meth c s₁, BodyLoose p l y (headSpec ws rm) cc maxL ret e s m args below meth c s₁ → c.maxLocals = maxL → (∀ x ∈ c.exceptionTable.toList, False) → Pc args s →
      W p l e (headSpec ws rm).room s m args below meth c s.heap [] 0 0 (vx_MQ below Qc XC args s mc ms free) (entryFrame m args maxL)) : vx_Met l y ws rm Pc Qc XC mc ms free := by
  refine MetFree.of_bodyS (code := cc) (maxLocals := maxL) (ret := ret) hy ?_ ?_
  · intro args s m h hn
    obtain ⟨meth, c, h1, h2, h3, h4, h5, h6, -, -⟩ := Cond.code_spec hn (atoms_spec (ws := ws) h _ (by rw [hw]; exact List.mem_cons_self))
    exact ⟨meth, c, h1, h2, h3, h4, h5, h6⟩
  · intro p e s m args below meth c s₁ B hml hP _
    have hh0 : s₁.heap = s.heap := by rw [B.state]; rfl
    have ht : ∀ x ∈ c.exceptionTable.toList, False := by
      obtain ⟨meth9, c9, h1, h2, -, -, -, -, h7, -⟩ := Cond.code_spec B.named (atoms_spec (ws := ws) B.pre _ (by rw [hw]; exact List.mem_cons_self))
      cases Option.some.inj (h1.symm.trans B.method)
      cases Option.some.inj (h2.symm.trans (Stand.of_body B).code)
      intro x hx
      rw [Array.isEmpty_iff.mp h7] at hx
      cases hx
    obtain ⟨t, a1, o, b1, b2, b3⟩ := body p e s m args below meth c s₁ B hml ht hP s₁ hh0 (Stand.of_body B)
    exact ⟨t, o, a1, b1, b2, b3⟩
/-- the table of a body with handlers -/
theorem vx_table {p : Program} {x y : MethodName} {S : Spec} {cc bytes : ByteArray} {maxL maxL' : Nat} {ret ret' : Option FieldType} {e : Env} {s s₁ : State} {m : MethodId} {args : Array Value} {below : List Frame} {meth : Method} {c : Code} {hh : List (Nat × Nat × Nat × Nat)}
    (B : BodyLoose p l y S cc maxL ret e s m args below meth c s₁) (h : (Cond.codeWith y bytes maxL' ret' hh).before args s = true) : c.exceptionTable.toList = tableOf hh := by
  obtain ⟨m9, meth9, c9, hn9, h1, h2, -, -, h6, -⟩ := Cond.codeWith_spec h
  cases Option.some.inj (hn9.symm.trans B.named)
  cases Option.some.inj (h1.symm.trans B.method)
  cases Option.some.inj (h2.symm.trans (Stand.of_body B).code)
  rw [← h6, table_eq]
end Bodies
end VXA
/-! ===== END ===== -/
/-! ===== BEGIN a static call of a method with an exception table ===== -/
section VXS
variable {p : Program} {l : Launch} {e : Env} {R : Room} {s : State} {m : MethodId} {args : Array Value} {below : List Frame} {meth : Method} {c : Code} {T : State} {H : Heap} {locs : List Loc} {cells slots : Nat}
abbrev vx_CSW (R : Room) (s : State) (args : Array Value) (own : String) (index : Nat) (y : MethodName) (bytes : ByteArray) (maxL : Nat) (ret : Option FieldType) (hh : List (Nat × Nat × Nat × Nat)) (ws : List Cond) (rm : Room) (mc ms n : Nat) : Prop :=
  (rm.cells = mc ∧ rm.slots = ms ∧ rm.frames + 1 ≤ R.frames ∧ 8 + (maxL + 11) + rm.locals ≤ R.locals ∧ (∀ w ∈ ws, ∀ (a' : Array Value) (U : State), s.WarmedH U.vm → w.before a' U = true) ∧ Cond.codeWith y bytes maxL ret hh ∈ ws) ∧
  (Cond.codeWith y bytes maxL ret hh).before args s = true ∧ (Cond.initialized y.cls).before args s = true ∧ (y.cls ≠ "java/lang/invoke/MethodHandle" ∧ y.cls ≠ "java/lang/invoke/VarHandle") ∧
  (∀ sig, parseMethodDescriptor y.desc = some sig → n = sig.parameters.length) ∧ (Cond.methodLink own index y).before args s = true ∧ (Cond.static y).before args s = true
theorem vx_cwSW {own : String} {index maxL mc ms : Nat} {y : MethodName} {bytes : ByteArray} {ret : Option FieldType} {hh : List (Nat × Nat × Nat × Nat)} {Ts ws ws' : List Cond} {rm : Room} (n : Nat) (ht : ∀ w ∈ Ts, w.before args s = true) (hT : GoodIn Ts (va_wsS own index y ws)) (hw : ws = Cond.codeWith y bytes maxL ret hh :: ws') (hrc : rm.cells = mc) (hrs : rm.slots = ms)
    (hd : y.cls ≠ "java/lang/invoke/MethodHandle" ∧ y.cls ≠ "java/lang/invoke/VarHandle" ∧ (parseMethodDescriptor y.desc).map (fun d => d.parameters.length) = some n) (hR : rm.frames + 1 ≤ R.frames ∧ 8 + (maxL + 11) + rm.locals ≤ R.locals) :
    vx_CSW R s args own index y bytes maxL ret hh ws rm mc ms n := by
  have ok : ∀ w ∈ va_wsS own index y ws, w.before args s = true := fun w h => ht w (hT w h).1
  have hG : GoodIn Ts ws := fun w h => hT w (by unfold va_wsS; exact List.mem_append_right _ h)
  have hc : Cond.codeWith y bytes maxL ret hh ∈ ws := by rw [hw]; exact List.mem_cons_self
  refine ⟨⟨hrc, hrs, hR.1, hR.2, pay_in ht hG, hc⟩, ht _ (hG _ hc).1, ok _ (by simp [va_wsS]), ⟨hd.1, hd.2.1⟩, fun sig h => ?_, ok _ (by simp [va_wsS]), ok _ (by simp [va_wsS])⟩
  have h2 := hd.2.2
  rw [h] at h2
  exact (Option.some.inj h2).symm
theorem vx_callSW (X : Stand p l e R s m args below meth c T locs cells slots) (hexec : p.tables.exec = Jvm.exec) {own : String} {index : Nat} {y : MethodName} {bytes : ByteArray} {maxL : Nat} {ret : Option FieldType} {hh : List (Nat × Nat × Nat × Nat)}
    (hown : s.vm.findClass own = some m.cls) (hlink : (Cond.methodLink own index y).before args s = true) (hstat : (Cond.static y).before args s = true) (hinit : (Cond.initialized y.cls).before args s = true)
    (hcode : (Cond.codeWith y bytes maxL ret hh).before args s = true) (hy : y.cls ≠ "java/lang/invoke/MethodHandle" ∧ y.cls ≠ "java/lang/invoke/VarHandle")
    {W9 : Nat} {Pre : Pt → Array Value → Prop} {Post : Pt → Array Value → Option Value → Pt → Prop} (hK : Back l R p e below s args y 3 W9 Pre Post)
    {g : JFrame} (hg : g.method = m) (hsize : g.locals.size = c.maxLocals) {argsL rest : List Value} (hlen : ∀ sig, parseMethodDescriptor y.desc = some sig → argsL.length = sig.parameters.length)
    (hstack : g.stack = argsL.reverse ++ rest) (hW : 2 * g.monitorRoom + (rest.map fun v => v.category).sum ≤ W9) (hdg : decode c.code g.pc = .ok (.invokestatic index, 3))
    (hpre : ∀ vm₁, s.WarmedH vm₁ → Pre ⟨T.setVm vm₁, locs, cells, slots⟩ argsL.toArray) :
    ∃ (v : Option Value) (vm₁ : Vm) (B : Pt), s.WarmedH vm₁ ∧ Stand p l e R s m args below meth c B.U B.locs B.cells B.slots ∧ Post ⟨T.setVm vm₁, locs, cells, slots⟩ argsL.toArray v B ∧
      ∀ target, Steps p.tables e below (B.U.setTop { g with pc := g.pc + 3, stack := v.toList ++ rest }) target → Steps p.tables e below (T.setTop g) target := by
  obtain ⟨mk, methM, cM, hnamed, hmethM, -, -, -, -, -, -, hsigM⟩ := Cond.codeWith_spec hcode
  have hstatic : methM.isStatic = true := Cond.static_spec hnamed hmethM hstat
  obtain ⟨kP, hkP, -⟩ := className_of_methodNamed hnamed
  have hinitP : kP.init = .initialized := Cond.initialized_spec (findClass_of_methodNamed hnamed) hkP hinit
  obtain ⟨vm₁, X₁, hstep₁⟩ := X.invokestatic hexec hown hlink hnamed hmethM hstatic hkP hinitP hy (g := g) hg (argsL := argsL) (rest := rest) (hlen _ hsigM) hstack hdg
  obtain ⟨v, B, X', hpost, hsteps⟩ := hK m meth c ⟨T.setVm vm₁, locs, cells, slots⟩ { g with stack := rest } (.invokestatic index) mk argsL.toArray X₁ hg hsize hdg hW (X₁.named hnamed) (hpre vm₁ X₁.warmed)
  exact ⟨v, vm₁, B, X₁.warmed, X', hpost, fun target h => hstep₁ _ fun acts => by rw [doInvoke_state]; exact hsteps.trans h⟩
theorem vx_runSW {y : MethodName} {bytes cc : ByteArray} {maxL nL mc ms n index : Nat} {ret : Option FieldType} {hh : List (Nat × Nat × Nat × Nat)} {ws : List Cond} {rm : Room} {Pc : Array Value → State → Prop} {Qc : Array Value → State → Outcome → State → Prop} {free : Addr → Prop} {Ts : List Cond} {own : String} {As rest : List Value} {g : JFrame}
    (S : CallFix p m c cc nL s args Ts own) (hM : Met l y ws rm Pc Qc mc ms free) (cw : vx_CSW R s args own index y bytes maxL ret hh ws rm mc ms n) (hp : PreS s H Pc As)
    (hg : g.method = m) (hn : As.length = n) (hsize : g.locals.size = nL) (hstack : g.stack = As.reverse ++ rest) (hW : 2 * g.monitorRoom + (rest.map fun v => v.category).sum ≤ 8) (hdg : decode cc g.pc = .ok (.invokestatic index, 3)) (hf : cells + mc ≤ R.cells ∧ slots + ms ≤ R.slots) :
    va_Run p l e R s m args below meth c H locs cells slots mc ms g rest (Qc As.toArray) (free) := by
  obtain ⟨⟨hrc, hrs, hfr, hlo, hws, hcw⟩, hcode, hini, hy, hlen, hl, hstt⟩ := cw
  have hK : Back l R p e below s args y 3 8 (PreOf R mc ms Pc) (PostOf Qc mc ms free) := va_backW (hh := hh) (bytes := bytes) (maxL := maxL) (ret := ret) hM hp.1 hrc hrs hfr hlo hws hcw (fun a' U hW => word_at hW (Or.inl (by first | rfl | simp [Cond.onTables, Cond.keeps, Cond.steady])) hini)
  obtain ⟨hx, hb, hml, ho, -⟩ := S
  intro T hT X
  obtain ⟨v, vm₁, ⟨U', l2, c2, s2⟩, hW₁, X', ⟨g', mk, t, L, e1, e2, hq, h1, hL, h2, h3⟩, st⟩ := vx_callSW X hx (hh := hh) (bytes := bytes) (maxL := maxL) (ret := ret) ho hl hstt hini hcode hy hK hg (hsize.trans hml.symm) (argsL := As) (rest := rest) (fun sig h => hn.trans (hlen sig h)) hstack hW (by rw [hb]; exact hdg)
    (fun vm₁ hW₁ => ⟨hf.1, hf.2, hp.2 (T.setVm vm₁) hT hW₁⟩)
  dsimp only [Pt.U, Pt.locs, Pt.cells, Pt.slots] at X' e1 e2 h1 h2 h3 st
  subst h1; subst h2; subst h3
  exact ⟨v, (T.setVm vm₁).calling g' mk As.toArray, t, U', L, hT, X', hL, e1, e2, hq, st⟩
/-- not caught here, past rows that name other classes: it goes on to the caller -/
theorem vx_outP {p : Program} {l : Launch} {e : Env} {R : Room} {s : State} {m : MethodId} {args : Array Value} {below : List Frame} {meth : Method} {c : Code} {H : Heap} {locs : List Loc} {cells slots : Nat} {free : Addr → Prop} {ls : Array Slot} {rest : List Value} {Qc : Array Value → State → Outcome → State → Prop} {XC : String → State → State → Prop}
    {pc : Nat} {own E : String} {ce : Cell} {q : Addr} {mc ms : Nat} (hown : s.vm.findClass own = some m.cls) (hlocks : meth.locks = false)
    (hpass : ∀ z ∈ c.exceptionTable.toList, covers z pc = false ∨ (z.catchType ≠ 0 ∧ ∃ nm : String, (Cond.classLink own z.catchType nm).before args s = true ∧ va_Nc E nm s)) (hcell : H[q]? = some ce) (hv : ce.vm = .none) (hcl : s.vm.findClass E = some ce.cls)
    (hx : ∀ t : State, t.heap = H → s.vm.Alike t.vm → XC E s t) (hf : ∀ z ∈ locs, free z.base) (hc : cells ≤ mc) (hs : slots ≤ ms) :
    vx_W p l e R s m args below meth c H locs cells slots (vx_MQ below Qc XC args s mc ms free) (F0 m pc ls rest) q := by
  intro T hT X
  have hpl : e.platform.magicAccessors = ({} : Platform).magicAccessors := by rw [X.admits.platform]
  obtain ⟨vm', hW', X', st⟩ := X.outThrough hlocks q (g := F0 m pc ls rest) rfl rfl rfl (cell := ce) (by rw [hT]; exact hcell) (by rw [hv]; rfl)
    (by obtain ⟨k9, h9, -⟩ := Vm.findClass_spec hcl; exact ⟨k9, h9⟩) (fun z hz => by
      rcases hpass z hz with h | ⟨hz0, nm, hl1, hn1⟩
      · exact Or.inl h
      · obtain ⟨c6, hc6, hcl6⟩ := Cond.classLink_spec hown hl1 e.platform hpl
        obtain ⟨a8, b8, h1, h2, h3⟩ := hn1
        cases Option.some.inj (h1.symm.trans hcl)
        cases Option.some.inj (h2.symm.trans hc6)
        exact Or.inr ⟨hz0, _, hcl6, h3⟩)
  obtain ⟨g₀, hfr⟩ := X'.frames_eq
  have hcell9 : ((T.setVm vm').setFrames (.throwing q :: below)).heap[q]? = some ce := by
    show T.heap[q]? = some ce
    rw [hT]; exact hcell
  have hend : Ended ((T.setVm vm').setFrames (.throwing q :: below)) below (.threw q) := State.frames_setFrames _ (State.cur_lt_of_frames hfr)
  refine ⟨(T.setVm vm').setFrames (.throwing q :: below), ?_, .threw q, X'.here.running, hend, Or.inr ⟨q, rfl, E, ce, locs, hx _ hT (X'.ends _).1.alike, hcell9, hv, hcl, (X'.ends _).1, (X'.ends _).2.mono hc hs, hf⟩⟩
  rw [X.pushThrowing_eq]
  exact st
/-- a thing of a world lies in the heap -/
theorem vx_lt {D : va_G} {cl : List vw_C} {ws : va_W} {H1 : Heap} (h : va_P D cl ws H1) {k : Nat} {q : Nat × va_E} (hk : ws[k]? = some q) : q.1 < H1.size := (h k q hk).lt
end VXS
/-! ===== END ===== -/
/-! ===== BEGIN methods with a table of their own: called by a name, returning or throwing ===== -/
section VXH
/-! vx_backW, vx_callVX, vx_callSX, vx_callVW, vx_runVW, vx_runVX, vx_runSX, vx_ofWH follow the same proofs as their sisters above (Free/Laws.lean, Shelf42/LK1.lean); vx_outP calls Shelf42/NT130.lean (outThrough). -/
section
variable {l : Launch} {R : Room} {p : Program} {e : Env} {below : List Frame} {s : State} {sargs : Array Value} {y : MethodName} {len W9 : Nat}
theorem vx_backW {ws : List Cond} {rm : Room} {Pc : Array Value → State → Prop} {Qc : Array Value → State → Outcome → State → Prop} {XC : String → State → State → Prop} {mc ms : Nat} {free : Addr → Prop} {bytes : ByteArray} {maxL : Nat} {ret : Option FieldType} {hh : List (Nat × Nat × Nat × Nat)}
    (hM : vx_Met l y ws rm Pc Qc XC mc ms free) (hblind : FrameBlind Pc) (hrc : rm.cells = mc) (hrs : rm.slots = ms)
    (hframes : rm.frames + 1 ≤ R.frames) (hlocals : W9 + (maxL + 11) + rm.locals ≤ R.locals)
    (hws : ∀ w ∈ ws, ∀ a' U, s.WarmedH U.vm → w.before a' U = true) (hcode : Cond.codeWith y bytes maxL ret hh ∈ ws) (hinit : ∀ a' U, s.WarmedH U.vm → (Cond.initialized y.cls).before a' U = true) :
    vx_Back l R p e below s sargs y len W9 (PreOf R mc ms Pc) (PostOf Qc mc ms free) (vx_Post XC mc ms free) := by
  intro m meth c A g ig mk a X hg hsize hdg hW hn hp
  have h1 : (headSpec ws rm).pre.before a A.U = true := atoms_intro fun w hw => hws w hw _ _ X.warmed
  have h2 : (Cond.codeWith y bytes maxL ret hh).before a A.U = true := hws _ hcode _ _ X.warmed
  have h3 : (Cond.initialized y.cls).before a A.U = true := hinit _ _ X.warmed
  have h4 : A.cells + (headSpec ws rm).room.cells ≤ R.cells := by rw [show (headSpec ws rm).room.cells = mc from hrc]; exact hp.1
  have h5 : A.slots + (headSpec ws rm).room.slots ≤ R.slots := by rw [show (headSpec ws rm).room.slots = ms from hrs]; exact hp.2.1
  have hPc : Pc a (A.U.calling g mk a) := hblind _ _ _ _ hp.2.2
  obtain ⟨U, Ls, c0, s0⟩ := A
  dsimp only [Pt.U, Pt.locs, Pt.cells, Pt.slots] at h1 h2 h3 h4 h5 X hn hPc ⊢
  obtain ⟨m9, methY, cY, hn9, hmY, hcY, -, hlY, -⟩ := Cond.codeWith_spec h2
  cases Option.some.inj (hn9.symm.trans hn)
  obtain ⟨kY, hkY, -⟩ := className_of_methodNamed hn
  have hinitY : kY.init = .initialized := Cond.initialized_spec (findClass_of_methodNamed hn) hkY h3
  have h : At U g.method c below := by rw [hg]; exact X.here
  have hlocals9 : W9 + (maxL + 11) + (headSpec ws rm).room.locals ≤ R.locals := hlocals
  have happ : (headSpec ws rm).appliesLoose y e.platform (U.calling g mk a) = true :=
    Spec.appliesLoose_calling (g := g) h hdg hn hkY hinitY
      (X.room_calling (g := g) (R' := (headSpec ws rm).room) hsize hmY hcY hframes (by rw [hlY]; omega) h4 h5) h1
  obtain ⟨mid, hmid⟩ := h.above
  have hfr : (U.setTop g).frames = (.java g :: mid) ++ below := by rw [State.frames_setTop' g h.top, hmid]; rfl
  obtain ⟨o, s₂, hsteps, -, hend, hq⟩ := Steps.callFree hM p X.admits X.cas X.clock (acts := []) hfr happ hPc trivial
  have hq' : vx_Q Qc XC mc ms free a (U.calling g mk a) o s₂ := hq
  rw [State.frames_setTop' g h.top] at hend
  obtain ⟨g₀, hg0⟩ := Option.isSome_iff_exists.mp h.top
  obtain ⟨r, hr⟩ := State.topJava?_eq_some.mp hg0
  have hr' : (({ U with heap := s₂.heap, slotsUsed := s₂.slotsUsed } : State).setVm s₂.vm).frames = .java g₀ :: r := hr
  rcases hq' with ⟨hqc, L, hfe, hL⟩ | ⟨q, rfl, E, ce, L, hx, hce, hcv, hcl, hW₂, hsm, hL⟩
  · obtain ⟨⟨v, rfl⟩, hW₂, e2, q2, q3, q4, q5, q6⟩ := id hfe
    have e3 : s₂ = ({ (U.calling g mk a).setFrames s₂.frames with heap := s₂.heap, slotsUsed := s₂.slotsUsed } : State).setVm s₂.vm := by
      have : s₂ = ({ s₂ with vm := (U.calling g mk a).vm } : State).setVm s₂.vm := rfl
      rw [e2] at this
      exact this
    obtain ⟨c₂, i₂, len₂, hc₂, hd₂, hf₂⟩ := hend
    have hW' : U.WarmedH s₂.vm := hW₂
    have hcc : c₂ = c := by
      have h1 : s₂.code? g.method = U.code? g.method := by
        rw [State.code?_eq, State.code?_eq, hW'.alike.method?]
      exact Option.some.inj (hc₂.symm.trans (h1.trans h.code))
    subst hcc
    have hlen : len₂ = len := by rw [hdg] at hd₂; cases hd₂; rfl
    subst hlen
    have hs₂ : s₂ = (({ U with heap := s₂.heap, slotsUsed := s₂.slotsUsed } : State).setVm s₂.vm).setTop { g with pc := g.pc + len₂, stack := v.toList ++ g.stack } := by
      refine e3.trans ?_
      rw [hf₂, State.calling_eq h.top, State.setFrames_setFrames, State.setTop_of_frames _ hr', hr]
      rfl
    have hsame : U.sameButNew ({ U with heap := s₂.heap, slotsUsed := s₂.slotsUsed } : State) L mc ms := by
      refine ⟨?_, q2, q3, q4, q5, q6⟩
      obtain ⟨t, ht, -⟩ := State.frames_cons hr
      show ({ U with heap := s₂.heap, slotsUsed := s₂.slotsUsed } : State) = { U.setFrames U.frames with heap := s₂.heap, slotsUsed := s₂.slotsUsed }
      rw [State.setFrames_self ht]
    subst hg
    refine Or.inl ⟨v, ⟨(({ U with heap := s₂.heap, slotsUsed := s₂.slotsUsed } : State).setVm s₂.vm), Ls ++ L, c0 + mc, s0 + ms⟩,
      ⟨X.admits, X.cas, X.clock, X.frames, X.room, X.hears, X.method, X.code, (X.here.setHeapUsed s₂.heap s₂.slotsUsed).setVm hW'.alike, X.tail, State.WarmedH.trans X.warmed hW', X.limits, X.bytes, X.same.trans (hsame.setVm s.vm)⟩,
      ⟨g, mk, s₂, L, rfl, rfl, hqc, rfl, hL, rfl, rfl⟩, ?_⟩
    show Steps p.tables e below _ ((({ U with heap := s₂.heap, slotsUsed := s₂.slotsUsed } : State).setVm s₂.vm).setTop { g with pc := g.pc + len₂, stack := v.toList ++ g.stack })
    rw [← hs₂]
    exact hsteps
  · obtain ⟨e2, q2, q3, q4, q5, q6⟩ := id hsm
    have e3 : s₂ = ({ (U.calling g mk a).setFrames s₂.frames with heap := s₂.heap, slotsUsed := s₂.slotsUsed } : State).setVm s₂.vm := by
      have : s₂ = ({ s₂ with vm := (U.calling g mk a).vm } : State).setVm s₂.vm := rfl
      rw [e2] at this
      exact this
    have hf₂ : s₂.frames = .throwing q :: .java g :: U.frames.tail := hend
    have hW' : U.WarmedH s₂.vm := hW₂
    have hs₂ : s₂ = ((({ U with heap := s₂.heap, slotsUsed := s₂.slotsUsed } : State).setVm s₂.vm).setTop g).pushFrame (.throwing q) := by
      refine e3.trans ?_
      rw [hf₂, State.calling_eq h.top, State.setFrames_setFrames, State.pushFrame, State.frames_setTop _ hr', State.setTop_of_frames _ hr', State.setFrames_setFrames, hr]
      rfl
    have hsame : U.sameButNew ({ U with heap := s₂.heap, slotsUsed := s₂.slotsUsed } : State) L mc ms := by
      refine ⟨?_, q2, q3, q4, q5, q6⟩
      obtain ⟨t, ht, -⟩ := State.frames_cons hr
      show ({ U with heap := s₂.heap, slotsUsed := s₂.slotsUsed } : State) = { U.setFrames U.frames with heap := s₂.heap, slotsUsed := s₂.slotsUsed }
      rw [State.setFrames_self ht]
    subst hg
    refine Or.inr ⟨q, ⟨(({ U with heap := s₂.heap, slotsUsed := s₂.slotsUsed } : State).setVm s₂.vm), Ls ++ L, c0 + mc, s0 + ms⟩,
      ⟨X.admits, X.cas, X.clock, X.frames, X.room, X.hears, X.method, X.code, (X.here.setHeapUsed s₂.heap s₂.slotsUsed).setVm hW'.alike, X.tail, State.WarmedH.trans X.warmed hW', X.limits, X.bytes, X.same.trans (hsame.setVm s.vm)⟩,
      ⟨g, mk, s₂, L, E, ce, rfl, rfl, hx, hce, hcv, hcl, rfl, hL, rfl, rfl⟩, ?_⟩
    show Steps p.tables e below _ (((({ U with heap := s₂.heap, slotsUsed := s₂.slotsUsed } : State).setVm s₂.vm).setTop g).pushFrame (.throwing q))
    rw [← hs₂]
    exact hsteps
end
variable {p : Program} {l : Launch} {e : Env} {R : Room} {s : State} {m : MethodId} {args : Array Value} {below : List Frame} {meth : Method} {c : Code} {T : State} {H : Heap} {locs : List Loc} {cells slots : Nat}
theorem vx_callVX (X : Stand p l e R s m args below meth c T locs cells slots) (hexec : p.tables.exec = Jvm.exec) {own C : String} {index : Nat} {y : MethodName} {bytes : ByteArray} {maxL : Nat} {ret : Option FieldType} {hh : List (Nat × Nat × Nat × Nat)}
    (hown : s.vm.findClass own = some m.cls) (hlink : (Cond.methodLink own index y).before args s = true) (hinst : (Cond.instanceMethod y).before args s = true) (hsel : (Cond.selects C y y).before args s = true)
    (hcode : (Cond.codeWith y bytes maxL ret hh).before args s = true) (hy : y.cls ≠ "java/lang/invoke/MethodHandle" ∧ y.cls ≠ "java/lang/invoke/VarHandle")
    {W9 : Nat} {Pre : Pt → Array Value → Prop} {Post : Pt → Array Value → Option Value → Pt → Prop} {PostX : Pt → Array Value → Addr → Pt → Prop} (hK : vx_Back l R p e below s args y 3 W9 Pre Post PostX)
    {b : Addr} {cellB : Cell} (hcell : T.heap[b]? = some cellB) (hobj : cellB.vm.isStatics = false) (hcls : s.vm.findClass C = some cellB.cls)
    {g : JFrame} (hg : g.method = m) (hsize : g.locals.size = c.maxLocals) {argsL rest : List Value} (hlen : ∀ sig, parseMethodDescriptor y.desc = some sig → argsL.length = sig.parameters.length)
    (hstack : g.stack = argsL.reverse ++ .ref b :: rest) (hW : 2 * g.monitorRoom + (rest.map fun v => v.category).sum ≤ W9) (hdg : decode c.code g.pc = .ok (.invokevirtual index, 3))
    (hpre : ∀ vm₁, s.WarmedH vm₁ → Pre ⟨T.setVm vm₁, locs, cells, slots⟩ (Value.ref b :: argsL).toArray) :
    (∃ (v : Option Value) (vm₁ : Vm) (B : Pt), s.WarmedH vm₁ ∧ Stand p l e R s m args below meth c B.U B.locs B.cells B.slots ∧ Post ⟨T.setVm vm₁, locs, cells, slots⟩ (Value.ref b :: argsL).toArray v B ∧
      ∀ target, Steps p.tables e below (B.U.setTop { g with pc := g.pc + 3, stack := v.toList ++ rest }) target → Steps p.tables e below (T.setTop g) target) ∨
    (∃ (q : Addr) (vm₁ : Vm) (B : Pt), s.WarmedH vm₁ ∧ Stand p l e R s m args below meth c B.U B.locs B.cells B.slots ∧ PostX ⟨T.setVm vm₁, locs, cells, slots⟩ (Value.ref b :: argsL).toArray q B ∧
      Steps p.tables e below (T.setTop g) ((B.U.setTop { g with stack := rest }).pushFrame (.throwing q))) := by
  obtain ⟨mk, methM, hnamed, hmethM, hstM, habM⟩ := Cond.instanceMethod_spec hinst
  obtain ⟨m8, methM', cM, hn8, hmethM', -, -, -, -, -, -, hsigM⟩ := Cond.codeWith_spec hcode
  cases Option.some.inj (hn8.symm.trans hnamed)
  cases hmethM.symm.trans hmethM'
  obtain ⟨c2, r2, m2, q1, q2, q3, q4, kP, hkP, hkPi⟩ := Cond.selects_spec hsel
  cases hcls.symm.trans q1
  cases (State.methodFound?_of_named hnamed hy).symm.trans q2
  cases hnamed.symm.trans q3
  have hselP : selectMethod e.platform s.vm cellB.cls mk = .method mk := by rw [Launch.admits_selectMethod X.admits]; exact q4
  obtain ⟨vm₁, X₁, hstep₁⟩ := X.invokevirtual hexec hown hlink hnamed hmethM hstM hkP hkPi hy (a := b) (cell := cellB) hcell
    (fun z h => by rw [h] at hobj; cases hobj) hselP hmethM habM hkP hkPi (g := g) hg (argsL := argsL) (rest := rest) (hlen _ hsigM) hstack hdg
  rcases hK m meth c ⟨T.setVm vm₁, locs, cells, slots⟩ { g with stack := rest } (.invokevirtual index) mk (Value.ref b :: argsL).toArray X₁ hg hsize hdg hW (X₁.named hnamed) (hpre vm₁ X₁.warmed) with ⟨v, B, X', hpost, hsteps⟩ | ⟨q, B, X', hpost, hsteps⟩
  · exact Or.inl ⟨v, vm₁, B, X₁.warmed, X', hpost, fun target h => hstep₁ _ fun acts => by rw [doInvoke_state]; exact hsteps.trans h⟩
  · exact Or.inr ⟨q, vm₁, B, X₁.warmed, X', hpost, hstep₁ _ fun acts => by rw [doInvoke_state]; exact hsteps⟩
theorem vx_callSX (X : Stand p l e R s m args below meth c T locs cells slots) (hexec : p.tables.exec = Jvm.exec) {own : String} {index : Nat} {y : MethodName} {bytes : ByteArray} {maxL : Nat} {ret : Option FieldType} {hh : List (Nat × Nat × Nat × Nat)}
    (hown : s.vm.findClass own = some m.cls) (hlink : (Cond.methodLink own index y).before args s = true) (hstat : (Cond.static y).before args s = true) (hinit : (Cond.initialized y.cls).before args s = true)
    (hcode : (Cond.codeWith y bytes maxL ret hh).before args s = true) (hy : y.cls ≠ "java/lang/invoke/MethodHandle" ∧ y.cls ≠ "java/lang/invoke/VarHandle")
    {W9 : Nat} {Pre : Pt → Array Value → Prop} {Post : Pt → Array Value → Option Value → Pt → Prop} {PostX : Pt → Array Value → Addr → Pt → Prop} (hK : vx_Back l R p e below s args y 3 W9 Pre Post PostX)
    {g : JFrame} (hg : g.method = m) (hsize : g.locals.size = c.maxLocals) {argsL rest : List Value} (hlen : ∀ sig, parseMethodDescriptor y.desc = some sig → argsL.length = sig.parameters.length)
    (hstack : g.stack = argsL.reverse ++ rest) (hW : 2 * g.monitorRoom + (rest.map fun v => v.category).sum ≤ W9) (hdg : decode c.code g.pc = .ok (.invokestatic index, 3))
    (hpre : ∀ vm₁, s.WarmedH vm₁ → Pre ⟨T.setVm vm₁, locs, cells, slots⟩ argsL.toArray) :
    (∃ (v : Option Value) (vm₁ : Vm) (B : Pt), s.WarmedH vm₁ ∧ Stand p l e R s m args below meth c B.U B.locs B.cells B.slots ∧ Post ⟨T.setVm vm₁, locs, cells, slots⟩ argsL.toArray v B ∧
      ∀ target, Steps p.tables e below (B.U.setTop { g with pc := g.pc + 3, stack := v.toList ++ rest }) target → Steps p.tables e below (T.setTop g) target) ∨
    (∃ (q : Addr) (vm₁ : Vm) (B : Pt), s.WarmedH vm₁ ∧ Stand p l e R s m args below meth c B.U B.locs B.cells B.slots ∧ PostX ⟨T.setVm vm₁, locs, cells, slots⟩ argsL.toArray q B ∧
      Steps p.tables e below (T.setTop g) ((B.U.setTop { g with stack := rest }).pushFrame (.throwing q))) := by
  obtain ⟨mk, methM, cM, hnamed, hmethM, -, -, -, -, -, -, hsigM⟩ := Cond.codeWith_spec hcode
  have hstatic : methM.isStatic = true := Cond.static_spec hnamed hmethM hstat
  obtain ⟨kP, hkP, -⟩ := className_of_methodNamed hnamed
  have hinitP : kP.init = .initialized := Cond.initialized_spec (findClass_of_methodNamed hnamed) hkP hinit
  obtain ⟨vm₁, X₁, hstep₁⟩ := X.invokestatic hexec hown hlink hnamed hmethM hstatic hkP hinitP hy (g := g) hg (argsL := argsL) (rest := rest) (hlen _ hsigM) hstack hdg
  rcases hK m meth c ⟨T.setVm vm₁, locs, cells, slots⟩ { g with stack := rest } (.invokestatic index) mk argsL.toArray X₁ hg hsize hdg hW (X₁.named hnamed) (hpre vm₁ X₁.warmed) with ⟨v, B, X', hpost, hsteps⟩ | ⟨q, B, X', hpost, hsteps⟩
  · exact Or.inl ⟨v, vm₁, B, X₁.warmed, X', hpost, fun target h => hstep₁ _ fun acts => by rw [doInvoke_state]; exact hsteps.trans h⟩
  · exact Or.inr ⟨q, vm₁, B, X₁.warmed, X', hpost, hstep₁ _ fun acts => by rw [doInvoke_state]; exact hsteps⟩
theorem vx_callVW (X : Stand p l e R s m args below meth c T locs cells slots) (hexec : p.tables.exec = Jvm.exec) {own C : String} {index : Nat} {y : MethodName} {bytes : ByteArray} {maxL : Nat} {ret : Option FieldType} {hh : List (Nat × Nat × Nat × Nat)}
    (hown : s.vm.findClass own = some m.cls) (hlink : (Cond.methodLink own index y).before args s = true) (hinst : (Cond.instanceMethod y).before args s = true) (hsel : (Cond.selects C y y).before args s = true)
    (hcode : (Cond.codeWith y bytes maxL ret hh).before args s = true) (hy : y.cls ≠ "java/lang/invoke/MethodHandle" ∧ y.cls ≠ "java/lang/invoke/VarHandle")
    {W9 : Nat} {Pre : Pt → Array Value → Prop} {Post : Pt → Array Value → Option Value → Pt → Prop} (hK : Back l R p e below s args y 3 W9 Pre Post)
    {b : Addr} {cellB : Cell} (hcell : T.heap[b]? = some cellB) (hobj : cellB.vm.isStatics = false) (hcls : s.vm.findClass C = some cellB.cls)
    {g : JFrame} (hg : g.method = m) (hsize : g.locals.size = c.maxLocals) {argsL rest : List Value} (hlen : ∀ sig, parseMethodDescriptor y.desc = some sig → argsL.length = sig.parameters.length)
    (hstack : g.stack = argsL.reverse ++ .ref b :: rest) (hW : 2 * g.monitorRoom + (rest.map fun v => v.category).sum ≤ W9) (hdg : decode c.code g.pc = .ok (.invokevirtual index, 3))
    (hpre : ∀ vm₁, s.WarmedH vm₁ → Pre ⟨T.setVm vm₁, locs, cells, slots⟩ (Value.ref b :: argsL).toArray) :
    ∃ (v : Option Value) (vm₁ : Vm) (B : Pt), s.WarmedH vm₁ ∧ Stand p l e R s m args below meth c B.U B.locs B.cells B.slots ∧ Post ⟨T.setVm vm₁, locs, cells, slots⟩ (Value.ref b :: argsL).toArray v B ∧
      ∀ target, Steps p.tables e below (B.U.setTop { g with pc := g.pc + 3, stack := v.toList ++ rest }) target → Steps p.tables e below (T.setTop g) target := by
  obtain ⟨mk, methM, hnamed, hmethM, hstM, habM⟩ := Cond.instanceMethod_spec hinst
  obtain ⟨m8, methM', cM, hn8, hmethM', -, -, -, -, -, -, hsigM⟩ := Cond.codeWith_spec hcode
  cases Option.some.inj (hn8.symm.trans hnamed)
  cases hmethM.symm.trans hmethM'
  obtain ⟨c2, r2, m2, q1, q2, q3, q4, kP, hkP, hkPi⟩ := Cond.selects_spec hsel
  cases hcls.symm.trans q1
  cases (State.methodFound?_of_named hnamed hy).symm.trans q2
  cases hnamed.symm.trans q3
  have hselP : selectMethod e.platform s.vm cellB.cls mk = .method mk := by rw [Launch.admits_selectMethod X.admits]; exact q4
  obtain ⟨vm₁, X₁, hstep₁⟩ := X.invokevirtual hexec hown hlink hnamed hmethM hstM hkP hkPi hy (a := b) (cell := cellB) hcell
    (fun z h => by rw [h] at hobj; cases hobj) hselP hmethM habM hkP hkPi (g := g) hg (argsL := argsL) (rest := rest) (hlen _ hsigM) hstack hdg
  obtain ⟨v, B, X', hpost, hsteps⟩ := hK m meth c ⟨T.setVm vm₁, locs, cells, slots⟩ { g with stack := rest } (.invokevirtual index) mk (Value.ref b :: argsL).toArray X₁ hg hsize hdg hW (X₁.named hnamed) (hpre vm₁ X₁.warmed)
  exact ⟨v, vm₁, B, X₁.warmed, X', hpost, fun target h => hstep₁ _ fun acts => by rw [doInvoke_state]; exact hsteps.trans h⟩
abbrev vx_CVW (R : Room) (s : State) (args : Array Value) (own C : String) (index : Nat) (y : MethodName) (bytes : ByteArray) (maxL : Nat) (ret : Option FieldType) (hh : List (Nat × Nat × Nat × Nat)) (ws : List Cond) (rm : Room) (mc ms n : Nat) : Prop :=
  (rm.cells = mc ∧ rm.slots = ms ∧ rm.frames + 1 ≤ R.frames ∧ 8 + (maxL + 11) + rm.locals ≤ R.locals ∧ (∀ w ∈ ws, ∀ (a' : Array Value) (U : State), s.WarmedH U.vm → w.before a' U = true) ∧ Cond.codeWith y bytes maxL ret hh ∈ ws) ∧
  (Cond.codeWith y bytes maxL ret hh).before args s = true ∧ (Cond.initialized y.cls).before args s = true ∧ (y.cls ≠ "java/lang/invoke/MethodHandle" ∧ y.cls ≠ "java/lang/invoke/VarHandle") ∧
  (∀ sig, parseMethodDescriptor y.desc = some sig → n = sig.parameters.length) ∧ (Cond.methodLink own index y).before args s = true ∧ (Cond.instanceMethod y).before args s = true ∧ (Cond.selects C y y).before args s = true
theorem vx_cwVW {own C : String} {index maxL mc ms : Nat} {y : MethodName} {bytes : ByteArray} {ret : Option FieldType} {hh : List (Nat × Nat × Nat × Nat)} {Ts ws ws' : List Cond} {rm : Room} (n : Nat) (ht : ∀ w ∈ Ts, w.before args s = true) (hT : GoodIn Ts (wsV own index C y ws)) (hw : ws = Cond.codeWith y bytes maxL ret hh :: ws') (hrc : rm.cells = mc) (hrs : rm.slots = ms)
    (hd : y.cls = C ∧ y.cls ≠ "java/lang/invoke/MethodHandle" ∧ y.cls ≠ "java/lang/invoke/VarHandle" ∧ (parseMethodDescriptor y.desc).map (fun d => d.parameters.length) = some n) (hR : rm.frames + 1 ≤ R.frames ∧ 8 + (maxL + 11) + rm.locals ≤ R.locals) :
    vx_CVW R s args own C index y bytes maxL ret hh ws rm mc ms n := by
  obtain ⟨hC, hd⟩ := hd
  subst hC
  have ok : ∀ w ∈ wsV own index y.cls y ws, w.before args s = true := fun w h => ht w (hT w h).1
  have hG : GoodIn Ts ws := fun w h => hT w (by unfold wsV; exact List.mem_append_right _ h)
  have hc : Cond.codeWith y bytes maxL ret hh ∈ ws := by rw [hw]; exact List.mem_cons_self
  refine ⟨⟨hrc, hrs, hR.1, hR.2, pay_in ht hG, hc⟩, ht _ (hG _ hc).1, ok _ (by simp [wsV]), ⟨hd.1, hd.2.1⟩, fun sig h => ?_, ok _ (by simp [wsV]), ok _ (by simp [wsV]), ok _ (by simp [wsV])⟩
  have h2 := hd.2.2
  rw [h] at h2
  exact (Option.some.inj h2).symm
theorem vx_runVW {y : MethodName} {bytes cc : ByteArray} {maxL nL mc ms n index : Nat} {ret : Option FieldType} {hh : List (Nat × Nat × Nat × Nat)} {ws : List Cond} {rm : Room} {Pc : Array Value → State → Prop} {Qc : Array Value → State → Outcome → State → Prop} {free : Addr → Prop} {Ts : List Cond} {own C : String} {b : Addr} {As rest : List Value} {g : JFrame}
    (S : CallFix p m c cc nL s args Ts own) (hM : Met l y ws rm Pc Qc mc ms free) (cw : vx_CVW R s args own C index y bytes maxL ret hh ws rm mc ms n) (hp : PreV s H C b Pc As)
    (hg : g.method = m) (hn : As.length = n) (hsize : g.locals.size = nL) (hstack : g.stack = As.reverse ++ .ref b :: rest) (hW : 2 * g.monitorRoom + (rest.map fun v => v.category).sum ≤ 8) (hdg : decode cc g.pc = .ok (.invokevirtual index, 3)) (hf : cells + mc ≤ R.cells ∧ slots + ms ≤ R.slots) :
    va_Run p l e R s m args below meth c H locs cells slots mc ms g rest (Qc (Value.ref b :: As).toArray) free := by
  obtain ⟨⟨hrc, hrs, hfr, hlo, hws, hcw⟩, hcode, hini, hy, hlen, hl, hin, hse⟩ := cw
  have hK : Back l R p e below s args y 3 8 (PreOf R mc ms Pc) (PostOf Qc mc ms free) := va_backW (hh := hh) (bytes := bytes) (maxL := maxL) (ret := ret) hM hp.1 hrc hrs hfr hlo hws hcw (fun a' U hW => word_at hW (Or.inl (by first | rfl | simp [Cond.onTables, Cond.keeps, Cond.steady])) hini)
  obtain ⟨hx, hb, hml, ho, -⟩ := S
  obtain ⟨-, ⟨cellB, hcB, hoB, hclB⟩, hPc⟩ := hp
  intro T hT X
  obtain ⟨v, vm₁, ⟨U', l2, c2, s2⟩, hW₁, X', ⟨g', mk, t, L, e1, e2, hq, h1, hL, h2, h3⟩, st⟩ := vx_callVW X hx (C := C) (hh := hh) (bytes := bytes) (maxL := maxL) (ret := ret) ho hl hin hse hcode hy hK (by rw [hT]; exact hcB) hoB hclB hg (hsize.trans hml.symm) (argsL := As) (rest := rest) (fun sig h => hn.trans (hlen sig h)) hstack hW (by rw [hb]; exact hdg)
    (fun vm₁ hW₁ => ⟨hf.1, hf.2, hPc (T.setVm vm₁) hT hW₁⟩)
  dsimp only [Pt.U, Pt.locs, Pt.cells, Pt.slots] at X' e1 e2 h1 h2 h3 st
  subst h1; subst h2; subst h3
  exact ⟨v, (T.setVm vm₁).calling g' mk (Value.ref b :: As).toArray, t, U', L, hT, X', hL, e1, e2, hq, st⟩
section
variable {y : MethodName} {bytes cc : ByteArray} {maxL nL mc ms n index : Nat} {ret : Option FieldType} {ws : List Cond} {rm : Room} {Pc : Array Value → State → Prop} {Qc : Array Value → State → Outcome → State → Prop} {XC : String → State → State → Prop} {free : Addr → Prop} {Ts : List Cond} {own C : String} {b : Addr} {As rest : List Value} {g : JFrame}
theorem vx_runVX {hh : List (Nat × Nat × Nat × Nat)} (S : CallFix p m c cc nL s args Ts own) (hM : vx_Met l y ws rm Pc Qc XC mc ms free) (cw : vx_CVW R s args own C index y bytes maxL ret hh ws rm mc ms n) (hp : PreV s H C b Pc As)
    (hg : g.method = m) (hn : As.length = n) (hsize : g.locals.size = nL) (hstack : g.stack = As.reverse ++ .ref b :: rest) (hW : 2 * g.monitorRoom + (rest.map fun v => v.category).sum ≤ 8) (hdg : decode cc g.pc = .ok (.invokevirtual index, 3)) (hf : cells + mc ≤ R.cells ∧ slots + ms ≤ R.slots) :
    vx_Run p l e R s m args below meth c H locs cells slots mc ms g rest (Qc (Value.ref b :: As).toArray) XC free := by
  obtain ⟨⟨hrc, hrs, hfr, hlo, hws, hcw⟩, hcode, hini, hy, hlen, hl, hin, hse⟩ := cw
  have hK : vx_Back l R p e below s args y 3 8 (PreOf R mc ms Pc) (PostOf Qc mc ms free) (vx_Post XC mc ms free) := vx_backW (hh := hh) (bytes := bytes) (maxL := maxL) (ret := ret) hM hp.1 hrc hrs hfr hlo hws hcw (fun a' U hW => word_at hW (Or.inl (by first | rfl | simp [Cond.onTables, Cond.keeps, Cond.steady])) hini)
  obtain ⟨hx, hb, hml, ho, -⟩ := S
  obtain ⟨-, ⟨cellB, hcB, hoB, hclB⟩, hPc⟩ := hp
  intro T hT X
  rcases vx_callVX X hx (C := C) (hh := hh) (bytes := bytes) (maxL := maxL) (ret := ret) ho hl hin hse hcode hy hK (by rw [hT]; exact hcB) hoB hclB hg (hsize.trans hml.symm) (argsL := As) (rest := rest) (fun sig h => hn.trans (hlen sig h)) hstack hW (by rw [hb]; exact hdg)
    (fun vm₁ hW₁ => ⟨hf.1, hf.2, hPc (T.setVm vm₁) hT hW₁⟩) with ⟨v, vm₁, ⟨U', l2, c2, s2⟩, hW₁, X', ⟨g', mk, t, L, e1, e2, hq, h1, hL, h2, h3⟩, st⟩ | ⟨q, vm₁, ⟨U', l2, c2, s2⟩, hW₁, X', ⟨g', mk, t, L, E, ce, e1, e2, hq, hce, hcv, hcl, h1, hL, h2, h3⟩, st⟩
  · dsimp only [Pt.U, Pt.locs, Pt.cells, Pt.slots] at X' e1 e2 h1 h2 h3 st
    subst h1; subst h2; subst h3
    exact Or.inl ⟨v, (T.setVm vm₁).calling g' mk (Value.ref b :: As).toArray, t, U', L, hT, X', hL, e1, e2, hq, st⟩
  · dsimp only [Pt.U, Pt.locs, Pt.cells, Pt.slots] at X' e1 e2 h1 h2 h3 st hcl
    subst h1; subst h2; subst h3
    exact Or.inr ⟨q, (T.setVm vm₁).calling g' mk (Value.ref b :: As).toArray, t, U', L, E, ce, hT, X', hL, e1, e2, hq, hce, hcv, vx_cls hW₁ hcl, st⟩
theorem vx_runSX {hh : List (Nat × Nat × Nat × Nat)} (S : CallFix p m c cc nL s args Ts own) (hM : vx_Met l y ws rm Pc Qc XC mc ms free) (cw : vx_CSW R s args own index y bytes maxL ret hh ws rm mc ms n) (hp : PreS s H Pc As)
    (hg : g.method = m) (hn : As.length = n) (hsize : g.locals.size = nL) (hstack : g.stack = As.reverse ++ rest) (hW : 2 * g.monitorRoom + (rest.map fun v => v.category).sum ≤ 8) (hdg : decode cc g.pc = .ok (.invokestatic index, 3)) (hf : cells + mc ≤ R.cells ∧ slots + ms ≤ R.slots) :
    vx_Run p l e R s m args below meth c H locs cells slots mc ms g rest (Qc As.toArray) XC free := by
  obtain ⟨⟨hrc, hrs, hfr, hlo, hws, hcw⟩, hcode, hini, hy, hlen, hl, hstt⟩ := cw
  have hK : vx_Back l R p e below s args y 3 8 (PreOf R mc ms Pc) (PostOf Qc mc ms free) (vx_Post XC mc ms free) := vx_backW (hh := hh) (bytes := bytes) (maxL := maxL) (ret := ret) hM hp.1 hrc hrs hfr hlo hws hcw (fun a' U hW => word_at hW (Or.inl (by first | rfl | simp [Cond.onTables, Cond.keeps, Cond.steady])) hini)
  obtain ⟨hx, hb, hml, ho, -⟩ := S
  intro T hT X
  rcases vx_callSX X hx (hh := hh) (bytes := bytes) (maxL := maxL) (ret := ret) ho hl hstt hini hcode hy hK hg (hsize.trans hml.symm) (argsL := As) (rest := rest) (fun sig h => hn.trans (hlen sig h)) hstack hW (by rw [hb]; exact hdg)
    (fun vm₁ hW₁ => ⟨hf.1, hf.2, hp.2 (T.setVm vm₁) hT hW₁⟩) with ⟨v, vm₁, ⟨U', l2, c2, s2⟩, hW₁, X', ⟨g', mk, t, L, e1, e2, hq, h1, hL, h2, h3⟩, st⟩ | ⟨q, vm₁, ⟨U', l2, c2, s2⟩, hW₁, X', ⟨g', mk, t, L, E, ce, e1, e2, hq, hce, hcv, hcl, h1, hL, h2, h3⟩, st⟩
  · dsimp only [Pt.U, Pt.locs, Pt.cells, Pt.slots] at X' e1 e2 h1 h2 h3 st
    subst h1; subst h2; subst h3
    exact Or.inl ⟨v, (T.setVm vm₁).calling g' mk As.toArray, t, U', L, hT, X', hL, e1, e2, hq, st⟩
  · dsimp only [Pt.U, Pt.locs, Pt.cells, Pt.slots] at X' e1 e2 h1 h2 h3 st hcl
    subst h1; subst h2; subst h3
    exact Or.inr ⟨q, (T.setVm vm₁).calling g' mk As.toArray, t, U', L, E, ce, hT, X', hL, e1, e2, hq, hce, hcv, vx_cls hW₁ hcl, st⟩
end
end VXH
theorem vx_ofWH {l : Launch} {y : MethodName} {ws ws' : List Cond} {rm : Room} {Pc : Array Value → State → Prop} {Qc : Array Value → State → Outcome → State → Prop} {XC : String → State → State → Prop} {mc ms : Nat} {free : Addr → Prop} {cc : ByteArray} {maxL : Nat} {ret : Option FieldType} {hh : List (Nat × Nat × Nat × Nat)}
    (hy : plainName y.cls = true) (hw : ws = Cond.codeWith y cc maxL ret hh :: ws')
    (body : ∀ p e s m args below meth c s₁, BodyLoose p l y (headSpec ws rm) cc maxL ret e s m args below meth c s₁ → c.maxLocals = maxL → Pc args s →
      W p l e (headSpec ws rm).room s m args below meth c s.heap [] 0 0 (vx_MQ below Qc XC args s mc ms free) (entryFrame m args maxL)) : vx_Met l y ws rm Pc Qc XC mc ms free := by
  refine MetFree.of_bodyS (code := cc) (maxLocals := maxL) (ret := ret) hy ?_ ?_
  · intro args s m h hn
    obtain ⟨m9, meth, c, hn9, h1, h2, h3, h4, -, h5, h6, -⟩ := Cond.codeWith_spec (atoms_spec (ws := ws) h _ (by rw [hw]; exact List.mem_cons_self))
    cases hn.symm.trans hn9
    exact ⟨meth, c, h1, h2, h3, h4, h5, h6⟩
  · intro p e s m args below meth c s₁ B hml hP _
    have hh0 : s₁.heap = s.heap := by rw [B.state]; rfl
    obtain ⟨t, a1, o, b1, b2, b3⟩ := body p e s m args below meth c s₁ B hml hP s₁ hh0 (Stand.of_body B)
    exact ⟨t, o, a1, b1, b2, b3⟩
/-! ===== END ===== -/
end
section
/-! ===== BEGIN printed: names, fields, word lists, decode rows ===== -/
def RX0 : String := "TraceBook$Bytes"
def TX0 : u_T := fun k => match k with
  | 0 => ("TraceBook$Bytes", "kept", "[B", false)
  | _ => ("TraceBook$Bytes", "length", "I", false)
def tyX0 : Nat → FieldType := fun k => match k with
  | 0 => .array .byte
  | _ => .int
abbrev wsX00 : List Cond := u_ws RX0 TX0 2
theorem nmX0 : ∀ a, a < 2 → ∀ b, b < 2 → a ≠ b → (TX0 a).2.1 ≠ (TX0 b).2.1 := by decide +kernel
theorem tyX0_ok : ∀ k, k < 2 → parseFieldDescriptor (TX0 k).2.2.1 = some (tyX0 k) := by decide +kernel
abbrev cX0_init : ByteArray := prog_2_method_1_code
def yX0_init : MethodName := ⟨RX0, "<init>", "()V"⟩
abbrev cX0_get : ByteArray := prog_2_method_2_code
def yX0_get : MethodName := ⟨RX0, "get", "(I)I"⟩
abbrev cX0_add : ByteArray := prog_2_method_3_code
def yX0_add : MethodName := ⟨RX0, "add", "(I)V"⟩
abbrev cX0_addCount : ByteArray := prog_2_method_4_code
def yX0_addCount : MethodName := ⟨RX0, "addCount", "(J)V"⟩
abbrev cX0_cut : ByteArray := prog_2_method_5_code
def yX0_cut : MethodName := ⟨RX0, "cut", "(I)V"⟩
def RX1 : String := "TraceBook$Change"
def TX1 : u_T := fun k => match k with
  | 0 => ("TraceBook$Change", "wire", "I", true)
  | 1 => ("TraceBook$Change", "element", "I", true)
  | 2 => ("TraceBook$Change", "value", "I", true)
  | _ => ("TraceBook$Change", "before", "I", true)
def tyX1 : Nat → FieldType := fun k => match k with
  | 0 => .int
  | 1 => .int
  | 2 => .int
  | _ => .int
abbrev wsX10 : List Cond := u_ws RX1 TX1 4
theorem nmX1 : ∀ a, a < 4 → ∀ b, b < 4 → a ≠ b → (TX1 a).2.1 ≠ (TX1 b).2.1 := by decide +kernel
theorem tyX1_ok : ∀ k, k < 4 → parseFieldDescriptor (TX1 k).2.2.1 = some (tyX1 k) := by decide +kernel
abbrev cX1_init : ByteArray := prog_3_method_1_code
def yX1_init : MethodName := ⟨RX1, "<init>", "(IIII)V"⟩
abbrev cX1_isOf : ByteArray := prog_3_method_2_code
def yX1_isOf : MethodName := ⟨RX1, "isOf", "(II)Z"⟩
abbrev cX1_standsBefore : ByteArray := prog_3_method_3_code
def yX1_standsBefore : MethodName := ⟨RX1, "standsBefore", "(II)Z"⟩
def RX2 : String := "TraceBook$Moment"
def TX2 : u_T := fun k => match k with
  | 0 => ("TraceBook$Moment", "time", "J", true)
  | 1 => ("TraceBook$Moment", "step", "J", true)
  | 2 => ("TraceBook$Moment", "changes", "Ljava/util/ArrayList;", true)
  | _ => ("TraceBook$Moment", "place", "I", false)
def tyX2 : Nat → FieldType := fun k => match k with
  | 0 => .long
  | 1 => .long
  | 2 => .object "java/util/ArrayList"
  | _ => .int
abbrev wsX20 : List Cond := u_ws RX2 TX2 4
theorem nmX2 : ∀ a, a < 4 → ∀ b, b < 4 → a ≠ b → (TX2 a).2.1 ≠ (TX2 b).2.1 := by decide +kernel
theorem tyX2_ok : ∀ k, k < 4 → parseFieldDescriptor (TX2 k).2.2.1 = some (tyX2 k) := by decide +kernel
abbrev cX2_init : ByteArray := prog_4_method_1_code
def yX2_init : MethodName := ⟨RX2, "<init>", "(JJ)V"⟩
abbrev cX2_isLaterThan : ByteArray := prog_4_method_2_code
def yX2_isLaterThan : MethodName := ⟨RX2, "isLaterThan", "(JJ)Z"⟩
abbrev cX2_changesWire : ByteArray := prog_4_method_3_code
def yX2_changesWire : MethodName := ⟨RX2, "changesWire", "(I)Z"⟩
abbrev cX2_valueBehind : ByteArray := prog_4_method_4_code
def yX2_valueBehind : MethodName := ⟨RX2, "valueBehind", "(III)I"⟩
abbrev cX2_put : ByteArray := prog_4_method_5_code
def yX2_put : MethodName := ⟨RX2, "put", "(IIII)Z"⟩
abbrev cX2_indexFor : ByteArray := prog_4_method_6_code
def yX2_indexFor : MethodName := ⟨RX2, "indexFor", "(II)I"⟩
abbrev cX2_isChangeOf : ByteArray := prog_4_method_7_code
def yX2_isChangeOf : MethodName := ⟨RX2, "isChangeOf", "(III)Z"⟩
def RX3 : String := "TraceBook$Reader"
def TX3 : u_T := fun k => match k with
  | 0 => ("TraceBook$Reader", "tape", "LTraceBook$Bytes;", true)
  | 1 => ("TraceBook$Reader", "wires", "LTraceBook$Wires;", true)
  | 2 => ("TraceBook$Reader", "row", "LTraceBook$Row;", true)
  | 3 => ("TraceBook$Reader", "place", "I", false)
  | _ => ("TraceBook$Reader", "fault", "I", false)
def tyX3 : Nat → FieldType := fun k => match k with
  | 0 => .object "TraceBook$Bytes"
  | 1 => .object "TraceBook$Wires"
  | 2 => .object "TraceBook$Row"
  | 3 => .int
  | _ => .int
abbrev wsX30 : List Cond := u_ws RX3 TX3 5
theorem nmX3 : ∀ a, a < 5 → ∀ b, b < 5 → a ≠ b → (TX3 a).2.1 ≠ (TX3 b).2.1 := by decide +kernel
theorem tyX3_ok : ∀ k, k < 5 → parseFieldDescriptor (TX3 k).2.2.1 = some (tyX3 k) := by decide +kernel
abbrev cX3_init : ByteArray := prog_5_method_1_code
def yX3_init : MethodName := ⟨RX3, "<init>", "(LTraceBook$Bytes;LTraceBook$Wires;LTraceBook$Row;)V"⟩
abbrev cX3_readRow : ByteArray := prog_5_method_2_code
def yX3_readRow : MethodName := ⟨RX3, "readRow", "()I"⟩
abbrev cX3_readMoment : ByteArray := prog_5_method_3_code
def yX3_readMoment : MethodName := ⟨RX3, "readMoment", "()LTraceBook$Moment;"⟩
abbrev cX3_readChange : ByteArray := prog_5_method_4_code
def yX3_readChange : MethodName := ⟨RX3, "readChange", "(Ljava/util/ArrayList;)V"⟩
abbrev cX3_readCountWithin : ByteArray := prog_5_method_5_code
def yX3_readCountWithin : MethodName := ⟨RX3, "readCountWithin", "(JJ)J"⟩
abbrev cX3_readCount : ByteArray := prog_5_method_6_code
def yX3_readCount : MethodName := ⟨RX3, "readCount", "()J"⟩
def RX4 : String := "TraceBook$Row"
def TX4 : u_T := fun k => match k with
  | 0 => ("TraceBook$Row", "bytes", "LTraceBook$Bytes;", true)
  | 1 => ("TraceBook$Row", "moments", "Ljava/util/ArrayList;", true)
  | _ => ("TraceBook$Row", "values", "[B", false)
def tyX4 : Nat → FieldType := fun k => match k with
  | 0 => .object "TraceBook$Bytes"
  | 1 => .object "java/util/ArrayList"
  | _ => .array .byte
abbrev wsX40 : List Cond := u_ws RX4 TX4 3
theorem nmX4 : ∀ a, a < 3 → ∀ b, b < 3 → a ≠ b → (TX4 a).2.1 ≠ (TX4 b).2.1 := by decide +kernel
theorem tyX4_ok : ∀ k, k < 3 → parseFieldDescriptor (TX4 k).2.2.1 = some (tyX4 k) := by decide +kernel
abbrev cX4_init : ByteArray := prog_6_method_1_code
def yX4_init : MethodName := ⟨RX4, "<init>", "()V"⟩
abbrev cX4_clear : ByteArray := prog_6_method_2_code
def yX4_clear : MethodName := ⟨RX4, "clear", "()V"⟩
abbrev cX4_lastMoment : ByteArray := prog_6_method_3_code
def yX4_lastMoment : MethodName := ⟨RX4, "lastMoment", "()LTraceBook$Moment;"⟩
abbrev cX4_lastTime : ByteArray := prog_6_method_4_code
def yX4_lastTime : MethodName := ⟨RX4, "lastTime", "()J"⟩
abbrev cX4_lastStep : ByteArray := prog_6_method_5_code
def yX4_lastStep : MethodName := ⟨RX4, "lastStep", "()J"⟩
abbrev cX4_valueOf : ByteArray := prog_6_method_6_code
def yX4_valueOf : MethodName := ⟨RX4, "valueOf", "(II)I"⟩
abbrev cX4_valueBehind : ByteArray := prog_6_method_7_code
def yX4_valueBehind : MethodName := ⟨RX4, "valueBehind", "(JJII)I"⟩
abbrev cX4_append : ByteArray := prog_6_method_8_code
def yX4_append : MethodName := ⟨RX4, "append", "(LTraceBook$Moment;)Z"⟩
abbrev cX4_writeMoment : ByteArray := prog_6_method_9_code
def yX4_writeMoment : MethodName := ⟨RX4, "writeMoment", "(LTraceBook$Moment;)V"⟩
abbrev cX4_keepValue : ByteArray := prog_6_method_10_code
def yX4_keepValue : MethodName := ⟨RX4, "keepValue", "(LTraceBook$Change;)V"⟩
def RX5 : String := "TraceBook$Wires"
def TX5 : u_T := fun k => match k with
  | 0 => ("TraceBook$Wires", "widths", "[I", true)
  | _ => ("TraceBook$Wires", "count", "I", false)
def tyX5 : Nat → FieldType := fun k => match k with
  | 0 => .array .int
  | _ => .int
abbrev wsX50 : List Cond := u_ws RX5 TX5 2
theorem nmX5 : ∀ a, a < 2 → ∀ b, b < 2 → a ≠ b → (TX5 a).2.1 ≠ (TX5 b).2.1 := by decide +kernel
theorem tyX5_ok : ∀ k, k < 2 → parseFieldDescriptor (TX5 k).2.2.1 = some (tyX5 k) := by decide +kernel
abbrev cX5_init : ByteArray := prog_7_method_1_code
def yX5_init : MethodName := ⟨RX5, "<init>", "()V"⟩
abbrev cX5_has : ByteArray := prog_7_method_2_code
def yX5_has : MethodName := ⟨RX5, "has", "(I)Z"⟩
abbrev cX5_widthOf : ByteArray := prog_7_method_3_code
def yX5_widthOf : MethodName := ⟨RX5, "widthOf", "(I)I"⟩
abbrev cX5_hasElement : ByteArray := prog_7_method_4_code
def yX5_hasElement : MethodName := ⟨RX5, "hasElement", "(II)Z"⟩
abbrev cX5_add : ByteArray := prog_7_method_5_code
def yX5_add : MethodName := ⟨RX5, "add", "(I)I"⟩
def RX6 : String := "TraceBook"
def TX6 : u_T := fun k => match k with
  | 0 => ("TraceBook", "allWires", "LTraceBook$Wires;", true)
  | 1 => ("TraceBook", "tape", "LTraceBook$Bytes;", true)
  | 2 => ("TraceBook", "row", "LTraceBook$Row;", false)
  | 3 => ("TraceBook", "spareRow", "LTraceBook$Row;", false)
  | 4 => ("TraceBook", "latest", "LTraceBook$Moment;", false)
  | _ => ("TraceBook", "openMoment", "LTraceBook$Moment;", false)
def tyX6 : Nat → FieldType := fun k => match k with
  | 0 => .object "TraceBook$Wires"
  | 1 => .object "TraceBook$Bytes"
  | 2 => .object "TraceBook$Row"
  | 3 => .object "TraceBook$Row"
  | 4 => .object "TraceBook$Moment"
  | _ => .object "TraceBook$Moment"
abbrev wsX60 : List Cond := u_ws RX6 TX6 6
theorem nmX6 : ∀ a, a < 6 → ∀ b, b < 6 → a ≠ b → (TX6 a).2.1 ≠ (TX6 b).2.1 := by decide +kernel
theorem tyX6_ok : ∀ k, k < 6 → parseFieldDescriptor (TX6 k).2.2.1 = some (tyX6 k) := by decide +kernel
abbrev cX6_init : ByteArray := prog_1_method_1_code
def yX6_init : MethodName := ⟨RX6, "<init>", "()V"⟩
abbrev cX6_wire : ByteArray := prog_1_method_2_code
def yX6_wire : MethodName := ⟨RX6, "wire", "(I)I"⟩
abbrev cX6_wires : ByteArray := prog_1_method_3_code
def yX6_wires : MethodName := ⟨RX6, "wires", "()I"⟩
abbrev cX6_width : ByteArray := prog_1_method_4_code
def yX6_width : MethodName := ⟨RX6, "width", "(I)I"⟩
abbrev cX6_open : ByteArray := prog_1_method_5_code
def yX6_open : MethodName := ⟨RX6, "open", "(JJ)V"⟩
abbrev cX6_change : ByteArray := prog_1_method_6_code
def yX6_change : MethodName := ⟨RX6, "change", "(III)Z"⟩
abbrev cX6_close : ByteArray := prog_1_method_7_code
def yX6_close : MethodName := ⟨RX6, "close", "()I"⟩
abbrev cX6_moments : ByteArray := prog_1_method_8_code
def yX6_moments : MethodName := ⟨RX6, "moments", "()I"⟩
abbrev cX6_moment : ByteArray := prog_1_method_9_code
def yX6_moment : MethodName := ⟨RX6, "moment", "(II)J"⟩
abbrev cX6_changed : ByteArray := prog_1_method_10_code
def yX6_changed : MethodName := ⟨RX6, "changed", "(III)I"⟩
abbrev cX6_at : ByteArray := prog_1_method_11_code
def yX6_at : MethodName := ⟨RX6, "at", "(JJII)I"⟩
abbrev cX6_next : ByteArray := prog_1_method_12_code
def yX6_next : MethodName := ⟨RX6, "next", "(II)I"⟩
abbrev cX6_size : ByteArray := prog_1_method_13_code
def yX6_size : MethodName := ⟨RX6, "size", "()I"⟩
abbrev cX6_byteAt : ByteArray := prog_1_method_14_code
def yX6_byteAt : MethodName := ⟨RX6, "byteAt", "(I)I"⟩
abbrev cX6_feed : ByteArray := prog_1_method_15_code
def yX6_feed : MethodName := ⟨RX6, "feed", "(I)I"⟩
abbrev cX6_end : ByteArray := prog_1_method_16_code
def yX6_end : MethodName := ⟨RX6, "end", "(I)V"⟩
abbrev cX6_load : ByteArray := prog_1_method_17_code
def yX6_load : MethodName := ⟨RX6, "load", "()I"⟩
abbrev cX6_takeSpareRow : ByteArray := prog_1_method_18_code
def yX6_takeSpareRow : MethodName := ⟨RX6, "takeSpareRow", "()V"⟩
abbrev cX6_closeOpenMoment : ByteArray := prog_1_method_19_code
def yX6_closeOpenMoment : MethodName := ⟨RX6, "closeOpenMoment", "()Z"⟩
def RX7 : String := "TraceBookModel"
def TX7 : u_T := fun k => match k with
  | 0 => ("TraceBookModel", "code", "I", false)
  | 1 => ("TraceBookModel", "widths", "[I", true)
  | 2 => ("TraceBookModel", "wires", "I", false)
  | 3 => ("TraceBookModel", "settled", "[I", true)
  | 4 => ("TraceBookModel", "now", "[I", true)
  | 5 => ("TraceBookModel", "open", "Z", false)
  | 6 => ("TraceBookModel", "some", "Z", false)
  | 7 => ("TraceBookModel", "time", "J", false)
  | 8 => ("TraceBookModel", "step", "J", false)
  | 9 => ("TraceBookModel", "times", "[J", true)
  | 10 => ("TraceBookModel", "steps", "[J", true)
  | 11 => ("TraceBookModel", "begins", "[I", true)
  | 12 => ("TraceBookModel", "moments", "I", false)
  | 13 => ("TraceBookModel", "momentOf", "[I", true)
  | 14 => ("TraceBookModel", "placeOf", "[I", true)
  | 15 => ("TraceBookModel", "was", "[I", true)
  | 16 => ("TraceBookModel", "becomes", "[I", true)
  | 17 => ("TraceBookModel", "changes", "I", false)
  | 18 => ("TraceBookModel", "row", "[I", true)
  | 19 => ("TraceBookModel", "size", "I", false)
  | 20 => ("TraceBookModel", "tape", "[I", true)
  | 21 => ("TraceBookModel", "tapeSize", "I", false)
  | 22 => ("TraceBookModel", "at", "I", false)
  | 23 => ("TraceBookModel", "first", "I", false)
  | 24 => ("TraceBookModel", "wrong", "I", false)
  | 25 => ("TraceBookModel", "seen", "[I", true)
  | 26 => ("TraceBookModel", "readTimes", "[J", true)
  | 27 => ("TraceBookModel", "readSteps", "[J", true)
  | 28 => ("TraceBookModel", "readMany", "[I", true)
  | 29 => ("TraceBookModel", "readMoments", "I", false)
  | 30 => ("TraceBookModel", "readPlace", "[I", true)
  | 31 => ("TraceBookModel", "readValue", "[I", true)
  | _ => ("TraceBookModel", "readChanges", "I", false)
def tyX7 : Nat → FieldType := fun k => match k with
  | 0 => .int
  | 1 => .array .int
  | 2 => .int
  | 3 => .array .int
  | 4 => .array .int
  | 5 => .boolean
  | 6 => .boolean
  | 7 => .long
  | 8 => .long
  | 9 => .array .long
  | 10 => .array .long
  | 11 => .array .int
  | 12 => .int
  | 13 => .array .int
  | 14 => .array .int
  | 15 => .array .int
  | 16 => .array .int
  | 17 => .int
  | 18 => .array .int
  | 19 => .int
  | 20 => .array .int
  | 21 => .int
  | 22 => .int
  | 23 => .int
  | 24 => .int
  | 25 => .array .int
  | 26 => .array .long
  | 27 => .array .long
  | 28 => .array .int
  | 29 => .int
  | 30 => .array .int
  | 31 => .array .int
  | _ => .int
abbrev wsX70 : List Cond := u_ws RX7 TX7 33
theorem nmX7 : ∀ a, a < 33 → ∀ b, b < 33 → a ≠ b → (TX7 a).2.1 ≠ (TX7 b).2.1 := by decide +kernel
theorem tyX7_ok : ∀ k, k < 33 → parseFieldDescriptor (TX7 k).2.2.1 = some (tyX7 k) := by decide +kernel
abbrev cX7_init : ByteArray := prog_9_method_1_code
def yX7_init : MethodName := ⟨RX7, "<init>", "()V"⟩
abbrev cX7_thrown : ByteArray := prog_9_method_2_code
def yX7_thrown : MethodName := ⟨RX7, "thrown", "()I"⟩
abbrev cX7_wire : ByteArray := prog_9_method_3_code
def yX7_wire : MethodName := ⟨RX7, "wire", "(I)I"⟩
abbrev cX7_wires : ByteArray := prog_9_method_4_code
def yX7_wires : MethodName := ⟨RX7, "wires", "()I"⟩
abbrev cX7_none : ByteArray := prog_9_method_5_code
def yX7_none : MethodName := ⟨RX7, "none", "(I)Z"⟩
abbrev cX7_width : ByteArray := prog_9_method_6_code
def yX7_width : MethodName := ⟨RX7, "width", "(I)I"⟩
abbrev cX7_bytesOf : ByteArray := prog_9_method_7_code
def yX7_bytesOf : MethodName := ⟨RX7, "bytesOf", "(J)I"⟩
abbrev cX7_write : ByteArray := prog_9_method_8_code
def yX7_write : MethodName := ⟨RX7, "write", "(J)V"⟩
abbrev cX7_lastTime : ByteArray := prog_9_method_9_code
def yX7_lastTime : MethodName := ⟨RX7, "lastTime", "()J"⟩
abbrev cX7_lastStep : ByteArray := prog_9_method_10_code
def yX7_lastStep : MethodName := ⟨RX7, "lastStep", "()J"⟩
abbrev cX7_head : ByteArray := prog_9_method_11_code
def yX7_head : MethodName := ⟨RX7, "head", "()J"⟩
abbrev cX7_differs : ByteArray := prog_9_method_12_code
def yX7_differs : MethodName := ⟨RX7, "differs", "(I)Z"⟩
abbrev cX7_many : ByteArray := prog_9_method_13_code
def yX7_many : MethodName := ⟨RX7, "many", "()I"⟩
abbrev cX7_codeOf : ByteArray := prog_9_method_14_code
def yX7_codeOf : MethodName := ⟨RX7, "codeOf", "(II)J"⟩
abbrev cX7_finish : ByteArray := prog_9_method_15_code
def yX7_finish : MethodName := ⟨RX7, "finish", "()I"⟩
abbrev cX7_open : ByteArray := prog_9_method_16_code
def yX7_open : MethodName := ⟨RX7, "open", "(JJ)V"⟩
abbrev cX7_change : ByteArray := prog_9_method_17_code
def yX7_change : MethodName := ⟨RX7, "change", "(III)Z"⟩
abbrev cX7_close : ByteArray := prog_9_method_18_code
def yX7_close : MethodName := ⟨RX7, "close", "()I"⟩
abbrev cX7_moments : ByteArray := prog_9_method_19_code
def yX7_moments : MethodName := ⟨RX7, "moments", "()I"⟩
abbrev cX7_changesOf : ByteArray := prog_9_method_20_code
def yX7_changesOf : MethodName := ⟨RX7, "changesOf", "(I)I"⟩
abbrev cX7_moment : ByteArray := prog_9_method_21_code
def yX7_moment : MethodName := ⟨RX7, "moment", "(II)J"⟩
abbrev cX7_changed : ByteArray := prog_9_method_22_code
def yX7_changed : MethodName := ⟨RX7, "changed", "(III)I"⟩
abbrev cX7_at : ByteArray := prog_9_method_23_code
def yX7_at : MethodName := ⟨RX7, "at", "(JJII)I"⟩
abbrev cX7_next : ByteArray := prog_9_method_24_code
def yX7_next : MethodName := ⟨RX7, "next", "(II)I"⟩
abbrev cX7_size : ByteArray := prog_9_method_25_code
def yX7_size : MethodName := ⟨RX7, "size", "()I"⟩
abbrev cX7_byteAt : ByteArray := prog_9_method_26_code
def yX7_byteAt : MethodName := ⟨RX7, "byteAt", "(I)I"⟩
abbrev cX7_feed : ByteArray := prog_9_method_27_code
def yX7_feed : MethodName := ⟨RX7, "feed", "(I)I"⟩
abbrev cX7_end : ByteArray := prog_9_method_28_code
def yX7_end : MethodName := ⟨RX7, "end", "(I)V"⟩
abbrev cX7_fail : ByteArray := prog_9_method_29_code
def yX7_fail : MethodName := ⟨RX7, "fail", "()V"⟩
abbrev cX7_count : ByteArray := prog_9_method_30_code
def yX7_count : MethodName := ⟨RX7, "count", "()J"⟩
abbrev cX7_readMoment : ByteArray := prog_9_method_31_code
def yX7_readMoment : MethodName := ⟨RX7, "readMoment", "()V"⟩
abbrev cX7_load : ByteArray := prog_9_method_32_code
def yX7_load : MethodName := ⟨RX7, "load", "()I"⟩
abbrev cX7_again : ByteArray := prog_9_method_33_code
def yX7_again : MethodName := ⟨RX7, "again", "()V"⟩
def RJx145de : String := "java/io/Serializable"
def TJx145de : u_T := fun k => match k with
  | _ => ("", "", "", false)
def tyJx145de : Nat → FieldType := fun k => match k with
  | _ => .int
abbrev wsJx145de0 : List Cond := u_ws RJx145de TJx145de 0
theorem nmJx145de : ∀ a, a < 0 → ∀ b, b < 0 → a ≠ b → (TJx145de a).2.1 ≠ (TJx145de b).2.1 := by decide +kernel
theorem tyJx145de_ok : ∀ k, k < 0 → parseFieldDescriptor (TJx145de k).2.2.1 = some (tyJx145de k) := by decide +kernel
def RJ5 : String := "java/lang/AbstractStringBuilder"
def TJ5 : u_T := fun k => match k with
  | _ => ("", "", "", false)
def tyJ5 : Nat → FieldType := fun k => match k with
  | _ => .int
abbrev wsJ50 : List Cond := u_ws RJ5 TJ5 0
theorem nmJ5 : ∀ a, a < 0 → ∀ b, b < 0 → a ≠ b → (TJ5 a).2.1 ≠ (TJ5 b).2.1 := by decide +kernel
theorem tyJ5_ok : ∀ k, k < 0 → parseFieldDescriptor (TJ5 k).2.2.1 = some (tyJ5 k) := by decide +kernel
abbrev cJ5_init_d00df : ByteArray := prog_11_method_2_code
def yJ5_init_d00df : MethodName := ⟨RJ5, "<init>", "(I)V"⟩
abbrev cJ5_length_8abf5 : ByteArray := prog_11_method_6_code
def yJ5_length_8abf5 : MethodName := ⟨RJ5, "length", "()I"⟩
abbrev cJ5_ensureCapacityInternal_d00df : ByteArray := prog_11_method_9_code
def yJ5_ensureCapacityInternal_d00df : MethodName := ⟨RJ5, "ensureCapacityInternal", "(I)V"⟩
abbrev cJ5_newCapacity_0f7a4 : ByteArray := prog_11_method_10_code
def yJ5_newCapacity_0f7a4 : MethodName := ⟨RJ5, "newCapacity", "(I)I"⟩
abbrev cJ5_inflate_da8c8 : ByteArray := prog_11_method_11_code
def yJ5_inflate_da8c8 : MethodName := ⟨RJ5, "inflate", "()V"⟩
abbrev cJ5_append_cf1ce : ByteArray := prog_11_method_22_code
def yJ5_append_cf1ce : MethodName := ⟨RJ5, "append", "(Ljava/lang/String;)Ljava/lang/AbstractStringBuilder;"⟩
abbrev cJ5_appendNull_278bc : ByteArray := prog_11_method_26_code
def yJ5_appendNull_278bc : MethodName := ⟨RJ5, "appendNull", "()Ljava/lang/AbstractStringBuilder;"⟩
abbrev cJ5_append_c97b9 : ByteArray := prog_11_method_32_code
def yJ5_append_c97b9 : MethodName := ⟨RJ5, "append", "(I)Ljava/lang/AbstractStringBuilder;"⟩
abbrev cJ5_getValue_6d5f1 : ByteArray := prog_11_method_64_code
def yJ5_getValue_6d5f1 : MethodName := ⟨RJ5, "getValue", "()[B"⟩
abbrev cJ5_isLatin1_aae02 : ByteArray := prog_11_method_68_code
def yJ5_isLatin1_aae02 : MethodName := ⟨RJ5, "isLatin1", "()Z"⟩
abbrev cJ5_inflateIfNeededFor_a7421 : ByteArray := prog_11_method_71_code
def yJ5_inflateIfNeededFor_a7421 : MethodName := ⟨RJ5, "inflateIfNeededFor", "(Ljava/lang/String;)V"⟩
abbrev cJ5_putStringAt_47b60 : ByteArray := prog_11_method_73_code
def yJ5_putStringAt_47b60 : MethodName := ⟨RJ5, "putStringAt", "(ILjava/lang/String;)V"⟩
def RJx2cfe8 : String := "java/lang/Appendable"
def TJx2cfe8 : u_T := fun k => match k with
  | _ => ("", "", "", false)
def tyJx2cfe8 : Nat → FieldType := fun k => match k with
  | _ => .int
abbrev wsJx2cfe80 : List Cond := u_ws RJx2cfe8 TJx2cfe8 0
theorem nmJx2cfe8 : ∀ a, a < 0 → ∀ b, b < 0 → a ≠ b → (TJx2cfe8 a).2.1 ≠ (TJx2cfe8 b).2.1 := by decide +kernel
theorem tyJx2cfe8_ok : ∀ k, k < 0 → parseFieldDescriptor (TJx2cfe8 k).2.2.1 = some (tyJx2cfe8 k) := by decide +kernel
def RJx9f9b0 : String := "java/lang/CharSequence"
def TJx9f9b0 : u_T := fun k => match k with
  | _ => ("", "", "", false)
def tyJx9f9b0 : Nat → FieldType := fun k => match k with
  | _ => .int
abbrev wsJx9f9b00 : List Cond := u_ws RJx9f9b0 TJx9f9b0 0
theorem nmJx9f9b0 : ∀ a, a < 0 → ∀ b, b < 0 → a ≠ b → (TJx9f9b0 a).2.1 ≠ (TJx9f9b0 b).2.1 := by decide +kernel
theorem tyJx9f9b0_ok : ∀ k, k < 0 → parseFieldDescriptor (TJx9f9b0 k).2.2.1 = some (tyJx9f9b0 k) := by decide +kernel
def RJx8e188 : String := "java/lang/Cloneable"
def TJx8e188 : u_T := fun k => match k with
  | _ => ("", "", "", false)
def tyJx8e188 : Nat → FieldType := fun k => match k with
  | _ => .int
abbrev wsJx8e1880 : List Cond := u_ws RJx8e188 TJx8e188 0
theorem nmJx8e188 : ∀ a, a < 0 → ∀ b, b < 0 → a ≠ b → (TJx8e188 a).2.1 ≠ (TJx8e188 b).2.1 := by decide +kernel
theorem tyJx8e188_ok : ∀ k, k < 0 → parseFieldDescriptor (TJx8e188 k).2.2.1 = some (tyJx8e188 k) := by decide +kernel
def RJxb160c : String := "java/lang/Comparable"
def TJxb160c : u_T := fun k => match k with
  | _ => ("", "", "", false)
def tyJxb160c : Nat → FieldType := fun k => match k with
  | _ => .int
abbrev wsJxb160c0 : List Cond := u_ws RJxb160c TJxb160c 0
theorem nmJxb160c : ∀ a, a < 0 → ∀ b, b < 0 → a ≠ b → (TJxb160c a).2.1 ≠ (TJxb160c b).2.1 := by decide +kernel
theorem tyJxb160c_ok : ∀ k, k < 0 → parseFieldDescriptor (TJxb160c k).2.2.1 = some (tyJxb160c k) := by decide +kernel
def RJ6 : String := "java/lang/Integer"
def TJ6 : u_T := fun k => match k with
  | _ => ("", "", "", false)
def tyJ6 : Nat → FieldType := fun k => match k with
  | _ => .int
abbrev wsJ60 : List Cond := u_ws RJ6 TJ6 0
theorem nmJ6 : ∀ a, a < 0 → ∀ b, b < 0 → a ≠ b → (TJ6 a).2.1 ≠ (TJ6 b).2.1 := by decide +kernel
theorem tyJ6_ok : ∀ k, k < 0 → parseFieldDescriptor (TJ6 k).2.2.1 = some (tyJ6 k) := by decide +kernel
abbrev cJ6_getChars_ba4f3 : ByteArray := prog_20_method_12_code
def yJ6_getChars_ba4f3 : MethodName := ⟨RJ6, "getChars", "(II[B)I"⟩
abbrev cJ6_stringSize_0f7a4 : ByteArray := prog_20_method_13_code
def yJ6_stringSize_0f7a4 : MethodName := ⟨RJ6, "stringSize", "(I)I"⟩
def RJxab1ab : String := "java/lang/Iterable"
def TJxab1ab : u_T := fun k => match k with
  | _ => ("", "", "", false)
def tyJxab1ab : Nat → FieldType := fun k => match k with
  | _ => .int
abbrev wsJxab1ab0 : List Cond := u_ws RJxab1ab TJxab1ab 0
theorem nmJxab1ab : ∀ a, a < 0 → ∀ b, b < 0 → a ≠ b → (TJxab1ab a).2.1 ≠ (TJxab1ab b).2.1 := by decide +kernel
theorem tyJxab1ab_ok : ∀ k, k < 0 → parseFieldDescriptor (TJxab1ab k).2.2.1 = some (tyJxab1ab k) := by decide +kernel
def RJ9 : String := "java/lang/Math"
def TJ9 : u_T := fun k => match k with
  | _ => ("", "", "", false)
def tyJ9 : Nat → FieldType := fun k => match k with
  | _ => .int
abbrev wsJ90 : List Cond := u_ws RJ9 TJ9 0
theorem nmJ9 : ∀ a, a < 0 → ∀ b, b < 0 → a ≠ b → (TJ9 a).2.1 ≠ (TJ9 b).2.1 := by decide +kernel
theorem tyJ9_ok : ∀ k, k < 0 → parseFieldDescriptor (TJ9 k).2.2.1 = some (tyJ9 k) := by decide +kernel
abbrev cJ9_max_7cf53 : ByteArray := prog_22_method_65_code
def yJ9_max_7cf53 : MethodName := ⟨RJ9, "max", "(II)I"⟩
abbrev cJ9_min_7cf53 : ByteArray := prog_22_method_69_code
def yJ9_min_7cf53 : MethodName := ⟨RJ9, "min", "(II)I"⟩
def RJxd2413 : String := "java/lang/Number"
def TJxd2413 : u_T := fun k => match k with
  | _ => ("", "", "", false)
def tyJxd2413 : Nat → FieldType := fun k => match k with
  | _ => .int
abbrev wsJxd24130 : List Cond := u_ws RJxd2413 TJxd2413 0
theorem nmJxd2413 : ∀ a, a < 0 → ∀ b, b < 0 → a ≠ b → (TJxd2413 a).2.1 ≠ (TJxd2413 b).2.1 := by decide +kernel
theorem tyJxd2413_ok : ∀ k, k < 0 → parseFieldDescriptor (TJxd2413 k).2.2.1 = some (tyJxd2413 k) := by decide +kernel
def RJ0 : String := "java/lang/String"
def TJ0 : u_T := fun k => match k with
  | 0 => ("java/lang/String", "value", "[B", true)
  | 1 => ("java/lang/String", "coder", "B", true)
  | 2 => ("java/lang/String", "hash", "I", false)
  | _ => ("java/lang/String", "hashIsZero", "Z", false)
def tyJ0 : Nat → FieldType := fun k => match k with
  | 0 => .array .byte
  | 1 => .byte
  | 2 => .int
  | _ => .boolean
abbrev wsJ00 : List Cond := u_ws RJ0 TJ0 4
theorem nmJ0 : ∀ a, a < 4 → ∀ b, b < 4 → a ≠ b → (TJ0 a).2.1 ≠ (TJ0 b).2.1 := by decide +kernel
theorem tyJ0_ok : ∀ k, k < 4 → parseFieldDescriptor (TJ0 k).2.2.1 = some (tyJ0 k) := by decide +kernel
abbrev cJ0_init_81219 : ByteArray := prog_25_method_53_code
def yJ0_init_81219 : MethodName := ⟨RJ0, "<init>", "(Ljava/lang/StringBuilder;)V"⟩
abbrev cJ0_length_8abf5 : ByteArray := prog_25_method_54_code
def yJ0_length_8abf5 : MethodName := ⟨RJ0, "length", "()I"⟩
abbrev cJ0_getBytes_840e7 : ByteArray := prog_25_method_147_code
def yJ0_getBytes_840e7 : MethodName := ⟨RJ0, "getBytes", "([BIB)V"⟩
abbrev cJ0_init_db425 : ByteArray := prog_25_method_150_code
def yJ0_init_db425 : MethodName := ⟨RJ0, "<init>", "(Ljava/lang/AbstractStringBuilder;Ljava/lang/Void;)V"⟩
abbrev cJ0_coder_7d493 : ByteArray := prog_25_method_152_code
def yJ0_coder_7d493 : MethodName := ⟨RJ0, "coder", "()B"⟩
abbrev cJ0_checkBoundsOffCount_cabcc : ByteArray := prog_25_method_157_code
def yJ0_checkBoundsOffCount_cabcc : MethodName := ⟨RJ0, "checkBoundsOffCount", "(III)I"⟩
abbrev cJ0_checkBoundsBeginEnd_23922 : ByteArray := prog_25_method_158_code
def yJ0_checkBoundsBeginEnd_23922 : MethodName := ⟨RJ0, "checkBoundsBeginEnd", "(III)V"⟩
def RJ4 : String := "java/lang/StringBuilder"
def TJ4 : u_T := fun k => match k with
  | 0 => ("java/lang/AbstractStringBuilder", "value", "[B", false)
  | 1 => ("java/lang/AbstractStringBuilder", "coder", "B", false)
  | 2 => ("java/lang/AbstractStringBuilder", "maybeLatin1", "Z", false)
  | _ => ("java/lang/AbstractStringBuilder", "count", "I", false)
def tyJ4 : Nat → FieldType := fun k => match k with
  | 0 => .array .byte
  | 1 => .byte
  | 2 => .boolean
  | _ => .int
abbrev wsJ40 : List Cond := u_ws RJ4 TJ4 4
theorem nmJ4 : ∀ a, a < 4 → ∀ b, b < 4 → a ≠ b → (TJ4 a).2.1 ≠ (TJ4 b).2.1 := by decide +kernel
theorem tyJ4_ok : ∀ k, k < 4 → parseFieldDescriptor (TJ4 k).2.2.1 = some (tyJ4 k) := by decide +kernel
abbrev cJ4_init_da8c8 : ByteArray := prog_26_method_1_code
def yJ4_init_da8c8 : MethodName := ⟨RJ4, "<init>", "()V"⟩
abbrev cJ4_append_15ec4 : ByteArray := prog_26_method_7_code
def yJ4_append_15ec4 : MethodName := ⟨RJ4, "append", "(Ljava/lang/String;)Ljava/lang/StringBuilder;"⟩
abbrev cJ4_append_bf812 : ByteArray := prog_26_method_15_code
def yJ4_append_bf812 : MethodName := ⟨RJ4, "append", "(I)Ljava/lang/StringBuilder;"⟩
abbrev cJ4_toString_0e30d : ByteArray := prog_26_method_42_code
def yJ4_toString_0e30d : MethodName := ⟨RJ4, "toString", "()Ljava/lang/String;"⟩
abbrev cJ4_length_8abf5 : ByteArray := prog_26_method_93_code
def yJ4_length_8abf5 : MethodName := ⟨RJ4, "length", "()I"⟩
def RJ1 : String := "java/lang/StringLatin1"
def TJ1 : u_T := fun k => match k with
  | _ => ("", "", "", false)
def tyJ1 : Nat → FieldType := fun k => match k with
  | _ => .int
abbrev wsJ10 : List Cond := u_ws RJ1 TJ1 0
theorem nmJ1 : ∀ a, a < 0 → ∀ b, b < 0 → a ≠ b → (TJ1 a).2.1 ≠ (TJ1 b).2.1 := by decide +kernel
theorem tyJ1_ok : ∀ k, k < 0 → parseFieldDescriptor (TJ1 k).2.2.1 = some (tyJ1 k) := by decide +kernel
abbrev cJ1_inflate_0e8fd : ByteArray := prog_27_method_50_code
def yJ1_inflate_0e8fd : MethodName := ⟨RJ1, "inflate", "([BI[BII)V"⟩
def RJ2 : String := "java/lang/StringUTF16"
def TJ2 : u_T := fun k => match k with
  | _ => ("", "", "", false)
def tyJ2 : Nat → FieldType := fun k => match k with
  | _ => .int
abbrev wsJ20 : List Cond := u_ws RJ2 TJ2 0
theorem nmJ2 : ∀ a, a < 0 → ∀ b, b < 0 → a ≠ b → (TJ2 a).2.1 ≠ (TJ2 b).2.1 := by decide +kernel
theorem tyJ2_ok : ∀ k, k < 0 → parseFieldDescriptor (TJ2 k).2.2.1 = some (tyJ2 k) := by decide +kernel
abbrev cJ2_newBytesFor_77867 : ByteArray := prog_28_method_2_code
def yJ2_newBytesFor_77867 : MethodName := ⟨RJ2, "newBytesFor", "(I)[B"⟩
abbrev cJ2_newBytesLength_0f7a4 : ByteArray := prog_28_method_3_code
def yJ2_newBytesLength_0f7a4 : MethodName := ⟨RJ2, "newBytesLength", "(I)I"⟩
abbrev cJ2_putChar_b72d1 : ByteArray := prog_28_method_4_code
def yJ2_putChar_b72d1 : MethodName := ⟨RJ2, "putChar", "([BII)V"⟩
abbrev cJ2_getChar_3b067 : ByteArray := prog_28_method_5_code
def yJ2_getChar_3b067 : MethodName := ⟨RJ2, "getChar", "([BI)C"⟩
abbrev cJ2_length_9d52b : ByteArray := prog_28_method_6_code
def yJ2_length_9d52b : MethodName := ⟨RJ2, "length", "([B)I"⟩
abbrev cJ2_coderFromArrayLen_85cad : ByteArray := prog_28_method_15_code
def yJ2_coderFromArrayLen_85cad : MethodName := ⟨RJ2, "coderFromArrayLen", "([BI)B"⟩
abbrev cJ2_compress_39247 : ByteArray := prog_28_method_17_code
def yJ2_compress_39247 : MethodName := ⟨RJ2, "compress", "([BII)[B"⟩
abbrev cJ2_compress_5af95 : ByteArray := prog_28_method_22_code
def yJ2_compress_5af95 : MethodName := ⟨RJ2, "compress", "([BI[BII)I"⟩
abbrev cJ2_getChars_46870 : ByteArray := prog_28_method_77_code
def yJ2_getChars_46870 : MethodName := ⟨RJ2, "getChars", "(III[B)I"⟩
abbrev cJ2_putCharsAt_cd4e5 : ByteArray := prog_28_method_81_code
def yJ2_putCharsAt_cd4e5 : MethodName := ⟨RJ2, "putCharsAt", "([BICCCC)I"⟩
abbrev cJ2_inflate_0e8fd : ByteArray := prog_28_method_86_code
def yJ2_inflate_0e8fd : MethodName := ⟨RJ2, "inflate", "([BI[BII)V"⟩
abbrev cJ2_getChars_ba4f3 : ByteArray := prog_28_method_89_code
def yJ2_getChars_ba4f3 : MethodName := ⟨RJ2, "getChars", "(II[B)I"⟩
abbrev cJ2_checkBoundsBeginEnd_d044e : ByteArray := prog_28_method_93_code
def yJ2_checkBoundsBeginEnd_d044e : MethodName := ⟨RJ2, "checkBoundsBeginEnd", "(II[B)V"⟩
abbrev cJ2_checkBoundsOffCount_d044e : ByteArray := prog_28_method_94_code
def yJ2_checkBoundsOffCount_d044e : MethodName := ⟨RJ2, "checkBoundsOffCount", "(II[B)V"⟩
def RJ10 : String := "java/lang/System"
def TJ10 : u_T := fun k => match k with
  | _ => ("", "", "", false)
def tyJ10 : Nat → FieldType := fun k => match k with
  | _ => .int
abbrev wsJ100 : List Cond := u_ws RJ10 TJ10 0
theorem nmJ10 : ∀ a, a < 0 → ∀ b, b < 0 → a ≠ b → (TJ10 a).2.1 ≠ (TJ10 b).2.1 := by decide +kernel
theorem tyJ10_ok : ∀ k, k < 0 → parseFieldDescriptor (TJ10 k).2.2.1 = some (tyJ10 k) := by decide +kernel
def RJxfd54e : String := "java/lang/constant/Constable"
def TJxfd54e : u_T := fun k => match k with
  | _ => ("", "", "", false)
def tyJxfd54e : Nat → FieldType := fun k => match k with
  | _ => .int
abbrev wsJxfd54e0 : List Cond := u_ws RJxfd54e TJxfd54e 0
theorem nmJxfd54e : ∀ a, a < 0 → ∀ b, b < 0 → a ≠ b → (TJxfd54e a).2.1 ≠ (TJxfd54e b).2.1 := by decide +kernel
theorem tyJxfd54e_ok : ∀ k, k < 0 → parseFieldDescriptor (TJxfd54e k).2.2.1 = some (tyJxfd54e k) := by decide +kernel
def RJx3cf43 : String := "java/lang/constant/ConstantDesc"
def TJx3cf43 : u_T := fun k => match k with
  | _ => ("", "", "", false)
def tyJx3cf43 : Nat → FieldType := fun k => match k with
  | _ => .int
abbrev wsJx3cf430 : List Cond := u_ws RJx3cf43 TJx3cf43 0
theorem nmJx3cf43 : ∀ a, a < 0 → ∀ b, b < 0 → a ≠ b → (TJx3cf43 a).2.1 ≠ (TJx3cf43 b).2.1 := by decide +kernel
theorem tyJx3cf43_ok : ∀ k, k < 0 → parseFieldDescriptor (TJx3cf43 k).2.2.1 = some (tyJx3cf43 k) := by decide +kernel
def RJxa1e45 : String := "java/util/AbstractCollection"
def TJxa1e45 : u_T := fun k => match k with
  | _ => ("", "", "", false)
def tyJxa1e45 : Nat → FieldType := fun k => match k with
  | _ => .int
abbrev wsJxa1e450 : List Cond := u_ws RJxa1e45 TJxa1e45 0
theorem nmJxa1e45 : ∀ a, a < 0 → ∀ b, b < 0 → a ≠ b → (TJxa1e45 a).2.1 ≠ (TJxa1e45 b).2.1 := by decide +kernel
theorem tyJxa1e45_ok : ∀ k, k < 0 → parseFieldDescriptor (TJxa1e45 k).2.2.1 = some (tyJxa1e45 k) := by decide +kernel
abbrev cJxa1e45_init_da8c8 : ByteArray := prog_33_method_1_code
def yJxa1e45_init_da8c8 : MethodName := ⟨RJxa1e45, "<init>", "()V"⟩
def RJxc12de : String := "java/util/AbstractList"
def TJxc12de : u_T := fun k => match k with
  | _ => ("", "", "", false)
def tyJxc12de : Nat → FieldType := fun k => match k with
  | _ => .int
abbrev wsJxc12de0 : List Cond := u_ws RJxc12de TJxc12de 0
theorem nmJxc12de : ∀ a, a < 0 → ∀ b, b < 0 → a ≠ b → (TJxc12de a).2.1 ≠ (TJxc12de b).2.1 := by decide +kernel
theorem tyJxc12de_ok : ∀ k, k < 0 → parseFieldDescriptor (TJxc12de k).2.2.1 = some (tyJxc12de k) := by decide +kernel
abbrev cJxc12de_init_da8c8 : ByteArray := prog_34_method_1_code
def yJxc12de_init_da8c8 : MethodName := ⟨RJxc12de, "<init>", "()V"⟩
def RJx4a65c : String := "java/util/ArrayList"
def TJx4a65c : u_T := fun k => match k with
  | 0 => ("java/util/AbstractList", "modCount", "I", false)
  | 1 => ("java/util/ArrayList", "elementData", "[Ljava/lang/Object;", false)
  | _ => ("java/util/ArrayList", "size", "I", false)
def tyJx4a65c : Nat → FieldType := fun k => match k with
  | 0 => .int
  | 1 => .array (.object "java/lang/Object")
  | _ => .int
abbrev wsJx4a65c0 : List Cond := u_ws RJx4a65c TJx4a65c 3
theorem nmJx4a65c : ∀ a, a < 3 → ∀ b, b < 3 → a ≠ b → (TJx4a65c a).2.1 ≠ (TJx4a65c b).2.1 := by decide +kernel
theorem tyJx4a65c_ok : ∀ k, k < 3 → parseFieldDescriptor (TJx4a65c k).2.2.1 = some (tyJx4a65c k) := by decide +kernel
abbrev cJx4a65c_init_da8c8 : ByteArray := prog_35_method_2_code
def yJx4a65c_init_da8c8 : MethodName := ⟨RJx4a65c, "<init>", "()V"⟩
abbrev cJx4a65c_grow_92f84 : ByteArray := prog_35_method_6_code
def yJx4a65c_grow_92f84 : MethodName := ⟨RJx4a65c, "grow", "(I)[Ljava/lang/Object;"⟩
abbrev cJx4a65c_grow_d5877 : ByteArray := prog_35_method_7_code
def yJx4a65c_grow_d5877 : MethodName := ⟨RJx4a65c, "grow", "()[Ljava/lang/Object;"⟩
abbrev cJx4a65c_size_8abf5 : ByteArray := prog_35_method_8_code
def yJx4a65c_size_8abf5 : MethodName := ⟨RJx4a65c, "size", "()I"⟩
abbrev cJx4a65c_isEmpty_aae02 : ByteArray := prog_35_method_9_code
def yJx4a65c_isEmpty_aae02 : MethodName := ⟨RJx4a65c, "isEmpty", "()Z"⟩
abbrev cJx4a65c_elementData_915e3 : ByteArray := prog_35_method_18_code
def yJx4a65c_elementData_915e3 : MethodName := ⟨RJx4a65c, "elementData", "(I)Ljava/lang/Object;"⟩
abbrev cJx4a65c_get_915e3 : ByteArray := prog_35_method_20_code
def yJx4a65c_get_915e3 : MethodName := ⟨RJx4a65c, "get", "(I)Ljava/lang/Object;"⟩
abbrev cJx4a65c_set_bcc79 : ByteArray := prog_35_method_23_code
def yJx4a65c_set_bcc79 : MethodName := ⟨RJx4a65c, "set", "(ILjava/lang/Object;)Ljava/lang/Object;"⟩
abbrev cJx4a65c_add_72be8 : ByteArray := prog_35_method_24_code
def yJx4a65c_add_72be8 : MethodName := ⟨RJx4a65c, "add", "(Ljava/lang/Object;[Ljava/lang/Object;I)V"⟩
abbrev cJx4a65c_add_9ea2d : ByteArray := prog_35_method_25_code
def yJx4a65c_add_9ea2d : MethodName := ⟨RJx4a65c, "add", "(Ljava/lang/Object;)Z"⟩
abbrev cJx4a65c_add_7a177 : ByteArray := prog_35_method_26_code
def yJx4a65c_add_7a177 : MethodName := ⟨RJx4a65c, "add", "(ILjava/lang/Object;)V"⟩
abbrev cJx4a65c_remove_915e3 : ByteArray := prog_35_method_29_code
def yJx4a65c_remove_915e3 : MethodName := ⟨RJx4a65c, "remove", "(I)Ljava/lang/Object;"⟩
abbrev cJx4a65c_fastRemove_b59b0 : ByteArray := prog_35_method_39_code
def yJx4a65c_fastRemove_b59b0 : MethodName := ⟨RJx4a65c, "fastRemove", "([Ljava/lang/Object;I)V"⟩
abbrev cJx4a65c_clear_da8c8 : ByteArray := prog_35_method_40_code
def yJx4a65c_clear_da8c8 : MethodName := ⟨RJx4a65c, "clear", "()V"⟩
abbrev cJx4a65c_rangeCheckForAdd_d00df : ByteArray := prog_35_method_45_code
def yJx4a65c_rangeCheckForAdd_d00df : MethodName := ⟨RJx4a65c, "rangeCheckForAdd", "(I)V"⟩
abbrev cJx4a65c_outOfBoundsMsg_b52d3 : ByteArray := prog_35_method_46_code
def yJx4a65c_outOfBoundsMsg_b52d3 : MethodName := ⟨RJx4a65c, "outOfBoundsMsg", "(I)Ljava/lang/String;"⟩
def RJ7 : String := "java/util/Arrays"
def TJ7 : u_T := fun k => match k with
  | _ => ("", "", "", false)
def tyJ7 : Nat → FieldType := fun k => match k with
  | _ => .int
abbrev wsJ70 : List Cond := u_ws RJ7 TJ7 0
theorem nmJ7 : ∀ a, a < 0 → ∀ b, b < 0 → a ≠ b → (TJ7 a).2.1 ≠ (TJ7 b).2.1 := by decide +kernel
theorem tyJ7_ok : ∀ k, k < 0 → parseFieldDescriptor (TJ7 k).2.2.1 = some (tyJ7 k) := by decide +kernel
abbrev cJ7_fill_031fb : ByteArray := prog_36_method_109_code
def yJ7_fill_031fb : MethodName := ⟨RJ7, "fill", "([BB)V"⟩
abbrev cJ7_copyOf_1904c : ByteArray := prog_36_method_119_code
def yJ7_copyOf_1904c : MethodName := ⟨RJ7, "copyOf", "([Ljava/lang/Object;I)[Ljava/lang/Object;"⟩
abbrev cJ7_copyOf_6403c : ByteArray := prog_36_method_120_code
def yJ7_copyOf_6403c : MethodName := ⟨RJ7, "copyOf", "([Ljava/lang/Object;ILjava/lang/Class;)[Ljava/lang/Object;"⟩
abbrev cJ7_copyOf_9075b : ByteArray := prog_36_method_121_code
def yJ7_copyOf_9075b : MethodName := ⟨RJ7, "copyOf", "([BI)[B"⟩
abbrev cJ7_checkLength_df160 : ByteArray := prog_36_method_131_code
def yJ7_checkLength_df160 : MethodName := ⟨RJ7, "checkLength", "(II)V"⟩
abbrev cJ7_copyOfRange_39247 : ByteArray := prog_36_method_132_code
def yJ7_copyOfRange_39247 : MethodName := ⟨RJ7, "copyOfRange", "([BII)[B"⟩
abbrev cJ7_copyOfRangeByte_39247 : ByteArray := prog_36_method_133_code
def yJ7_copyOfRangeByte_39247 : MethodName := ⟨RJ7, "copyOfRangeByte", "([BII)[B"⟩
def RJx5ef63 : String := "java/util/Collection"
def TJx5ef63 : u_T := fun k => match k with
  | _ => ("", "", "", false)
def tyJx5ef63 : Nat → FieldType := fun k => match k with
  | _ => .int
abbrev wsJx5ef630 : List Cond := u_ws RJx5ef63 TJx5ef63 0
theorem nmJx5ef63 : ∀ a, a < 0 → ∀ b, b < 0 → a ≠ b → (TJx5ef63 a).2.1 ≠ (TJx5ef63 b).2.1 := by decide +kernel
theorem tyJx5ef63_ok : ∀ k, k < 0 → parseFieldDescriptor (TJx5ef63 k).2.2.1 = some (tyJx5ef63 k) := by decide +kernel
def RJxbd725 : String := "java/util/List"
def TJxbd725 : u_T := fun k => match k with
  | _ => ("", "", "", false)
def tyJxbd725 : Nat → FieldType := fun k => match k with
  | _ => .int
abbrev wsJxbd7250 : List Cond := u_ws RJxbd725 TJxbd725 0
theorem nmJxbd725 : ∀ a, a < 0 → ∀ b, b < 0 → a ≠ b → (TJxbd725 a).2.1 ≠ (TJxbd725 b).2.1 := by decide +kernel
theorem tyJxbd725_ok : ∀ k, k < 0 → parseFieldDescriptor (TJxbd725 k).2.2.1 = some (tyJxbd725 k) := by decide +kernel
def RJ15 : String := "java/util/Objects"
def TJ15 : u_T := fun k => match k with
  | _ => ("", "", "", false)
def tyJ15 : Nat → FieldType := fun k => match k with
  | _ => .int
abbrev wsJ150 : List Cond := u_ws RJ15 TJ15 0
theorem nmJ15 : ∀ a, a < 0 → ∀ b, b < 0 → a ≠ b → (TJ15 a).2.1 ≠ (TJ15 b).2.1 := by decide +kernel
theorem tyJ15_ok : ∀ k, k < 0 → parseFieldDescriptor (TJ15 k).2.2.1 = some (tyJ15 k) := by decide +kernel
abbrev cJ15_checkIndex_7cf53 : ByteArray := prog_39_method_17_code
def yJ15_checkIndex_7cf53 : MethodName := ⟨RJ15, "checkIndex", "(II)I"⟩
def RJxf0a74 : String := "java/util/RandomAccess"
def TJxf0a74 : u_T := fun k => match k with
  | _ => ("", "", "", false)
def tyJxf0a74 : Nat → FieldType := fun k => match k with
  | _ => .int
abbrev wsJxf0a740 : List Cond := u_ws RJxf0a74 TJxf0a74 0
theorem nmJxf0a74 : ∀ a, a < 0 → ∀ b, b < 0 → a ≠ b → (TJxf0a74 a).2.1 ≠ (TJxf0a74 b).2.1 := by decide +kernel
theorem tyJxf0a74_ok : ∀ k, k < 0 → parseFieldDescriptor (TJxf0a74 k).2.2.1 = some (tyJxf0a74 k) := by decide +kernel
def RJxa66e6 : String := "java/util/SequencedCollection"
def TJxa66e6 : u_T := fun k => match k with
  | _ => ("", "", "", false)
def tyJxa66e6 : Nat → FieldType := fun k => match k with
  | _ => .int
abbrev wsJxa66e60 : List Cond := u_ws RJxa66e6 TJxa66e6 0
theorem nmJxa66e6 : ∀ a, a < 0 → ∀ b, b < 0 → a ≠ b → (TJxa66e6 a).2.1 ≠ (TJxa66e6 b).2.1 := by decide +kernel
theorem tyJxa66e6_ok : ∀ k, k < 0 → parseFieldDescriptor (TJxa66e6 k).2.2.1 = some (tyJxa66e6 k) := by decide +kernel
def RJ8 : String := "jdk/internal/util/ArraysSupport"
def TJ8 : u_T := fun k => match k with
  | _ => ("", "", "", false)
def tyJ8 : Nat → FieldType := fun k => match k with
  | _ => .int
abbrev wsJ80 : List Cond := u_ws RJ8 TJ8 0
theorem nmJ8 : ∀ a, a < 0 → ∀ b, b < 0 → a ≠ b → (TJ8 a).2.1 ≠ (TJ8 b).2.1 := by decide +kernel
theorem tyJ8_ok : ∀ k, k < 0 → parseFieldDescriptor (TJ8 k).2.2.1 = some (tyJ8 k) := by decide +kernel
abbrev cJ8_newLength_cabcc : ByteArray := prog_42_method_27_code
def yJ8_newLength_cabcc : MethodName := ⟨RJ8, "newLength", "(III)I"⟩
abbrev cJ8_hugeLength_7cf53 : ByteArray := prog_42_method_28_code
def yJ8_hugeLength_7cf53 : MethodName := ⟨RJ8, "hugeLength", "(II)I"⟩
def RJ3 : String := "jdk/internal/util/Preconditions"
def TJ3 : u_T := fun k => match k with
  | _ => ("", "", "", false)
def tyJ3 : Nat → FieldType := fun k => match k with
  | _ => .int
abbrev wsJ30 : List Cond := u_ws RJ3 TJ3 0
theorem nmJ3 : ∀ a, a < 0 → ∀ b, b < 0 → a ≠ b → (TJ3 a).2.1 ≠ (TJ3 b).2.1 := by decide +kernel
theorem tyJ3_ok : ∀ k, k < 0 → parseFieldDescriptor (TJ3 k).2.2.1 = some (tyJ3 k) := by decide +kernel
abbrev cJ3_checkIndex_8e157 : ByteArray := prog_43_method_11_code
def yJ3_checkIndex_8e157 : MethodName := ⟨RJ3, "checkIndex", "(IILjava/util/function/BiFunction;)I"⟩
abbrev cJ3_checkFromToIndex_8c36e : ByteArray := prog_43_method_12_code
def yJ3_checkFromToIndex_8c36e : MethodName := ⟨RJ3, "checkFromToIndex", "(IIILjava/util/function/BiFunction;)I"⟩
abbrev cJ3_checkFromIndexSize_8c36e : ByteArray := prog_43_method_13_code
def yJ3_checkFromIndexSize_8c36e : MethodName := ⟨RJ3, "checkFromIndexSize", "(IIILjava/util/function/BiFunction;)I"⟩
def RL : String := "TraceBookLaw"
abbrev cL_wire : ByteArray := method_3_code
def yL_wire : MethodName := ⟨RL, "wire", "(LTraceBook;I[J)I"⟩
abbrev cL_width : ByteArray := method_4_code
def yL_width : MethodName := ⟨RL, "width", "(LTraceBook;I[J)I"⟩
abbrev cL_open : ByteArray := method_5_code
def yL_open : MethodName := ⟨RL, "open", "(LTraceBook;JJ)I"⟩
abbrev cL_change : ByteArray := method_6_code
def yL_change : MethodName := ⟨RL, "change", "(LTraceBook;III[J)I"⟩
abbrev cL_close : ByteArray := method_7_code
def yL_close : MethodName := ⟨RL, "close", "(LTraceBook;[J)I"⟩
abbrev cL_moment : ByteArray := method_8_code
def yL_moment : MethodName := ⟨RL, "moment", "(LTraceBook;II[J)I"⟩
abbrev cL_changed : ByteArray := method_9_code
def yL_changed : MethodName := ⟨RL, "changed", "(LTraceBook;III[J)I"⟩
abbrev cL_at : ByteArray := method_10_code
def yL_at : MethodName := ⟨RL, "at", "(LTraceBook;JJII[J)I"⟩
abbrev cL_next : ByteArray := method_11_code
def yL_next : MethodName := ⟨RL, "next", "(LTraceBook;II[J)I"⟩
abbrev cL_byteAt : ByteArray := method_12_code
def yL_byteAt : MethodName := ⟨RL, "byteAt", "(LTraceBook;I[J)I"⟩
abbrev cL_feed : ByteArray := method_13_code
def yL_feed : MethodName := ⟨RL, "feed", "(LTraceBook;I[J)I"⟩
abbrev cL_end : ByteArray := method_14_code
def yL_end : MethodName := ⟨RL, "end", "(LTraceBook;I)I"⟩
abbrev cL_law : ByteArray := code
def yL_law : MethodName := ⟨RL, "law", "([I)Z"⟩
def wsX0_init : List Cond := .code yX0_init cX0_init 1 none :: ([.methodLink RX0 3 objectInit, .instanceMethod objectInit, .code objectInit ⟨#[0xb1]⟩ 1 none, .arrayClass .byte, .fieldLink RX0 9 "TraceBook$Bytes" "kept" "[B", .fieldLink RX0 15 "TraceBook$Bytes" "length" "I"] ++ wsX00)
def wsX0_get : List Cond := .code yX0_get cX0_get 2 (some .int) :: ([.fieldLink RX0 15 "TraceBook$Bytes" "length" "I", .fieldLink RX0 9 "TraceBook$Bytes" "kept" "[B"] ++ wsX00)
def wsJ7_copyOf_9075b : List Cond := .code yJ7_copyOf_9075b cJ7_copyOf_9075b 3 (some (.array .byte)) :: ([.methodLink RJ7 310 ⟨"[B", "clone", "()Ljava/lang/Object;"⟩, .sameMethod "[B" "java/lang/Object" "clone" "()Ljava/lang/Object;", .native ⟨"java/lang/Object", "clone", "()Ljava/lang/Object;"⟩, .instanceMethod ⟨"java/lang/Object", "clone", "()Ljava/lang/Object;"⟩, .selects "[B" ⟨"[B", "clone", "()Ljava/lang/Object;"⟩ ⟨"java/lang/Object", "clone", "()Ljava/lang/Object;"⟩, .classLink RJ7 311 "[B", .arrayClass .byte, .methodLink RJ7 304 Lib.Math.min.name, .static Lib.Math.min.name, .initialized "java/lang/Math", .code Lib.Math.min.name Lib.Math.min.code 2 (some .int), .methodLink RJ7 150 arraycopyName, .native arraycopyName, .static arraycopyName, .initialized "java/lang/System"])
def wsX0_add : List Cond := .code yX0_add cX0_add 2 none :: ([.fieldLink RX0 15 "TraceBook$Bytes" "length" "I", .fieldLink RX0 9 "TraceBook$Bytes" "kept" "[B", .methodLink RX0 19 yJ7_copyOf_9075b, .static yJ7_copyOf_9075b, .initialized RJ7, .code yJ7_copyOf_9075b cJ7_copyOf_9075b 3 (some (.array .byte)), .methodLink RJ7 310 ⟨"[B", "clone", "()Ljava/lang/Object;"⟩, .sameMethod "[B" "java/lang/Object" "clone" "()Ljava/lang/Object;", .native ⟨"java/lang/Object", "clone", "()Ljava/lang/Object;"⟩, .instanceMethod ⟨"java/lang/Object", "clone", "()Ljava/lang/Object;"⟩, .selects "[B" ⟨"[B", "clone", "()Ljava/lang/Object;"⟩ ⟨"java/lang/Object", "clone", "()Ljava/lang/Object;"⟩, .classLink RJ7 311 "[B", .arrayClass .byte, .methodLink RJ7 304 Lib.Math.min.name, .static Lib.Math.min.name, .initialized "java/lang/Math", .code Lib.Math.min.name Lib.Math.min.code 2 (some .int), .methodLink RJ7 150 arraycopyName, .native arraycopyName, .static arraycopyName, .initialized "java/lang/System"] ++ wsX00)
def wsX0_addCount_r1 : List Cond := [Cond.constantLong RX0 25 (127), Cond.methodLink RX0 27 yX0_add, Cond.instanceMethod yX0_add, Cond.selects RX0 yX0_add yX0_add, Cond.initialized RX0, Cond.code yX0_add cX0_add 2 none, Cond.fieldLink RX0 15 "TraceBook$Bytes" "length" "I", Cond.fieldLink RX0 9 "TraceBook$Bytes" "kept" "[B", Cond.methodLink RX0 19 yJ7_copyOf_9075b, Cond.static yJ7_copyOf_9075b, Cond.initialized RJ7, Cond.code yJ7_copyOf_9075b cJ7_copyOf_9075b 3 (some (.array .byte)), Cond.methodLink RJ7 310 ⟨"[B", "clone", "()Ljava/lang/Object;"⟩, Cond.sameMethod "[B" "java/lang/Object" "clone" "()Ljava/lang/Object;", Cond.native ⟨"java/lang/Object", "clone", "()Ljava/lang/Object;"⟩, Cond.instanceMethod ⟨"java/lang/Object", "clone", "()Ljava/lang/Object;"⟩, Cond.selects "[B" ⟨"[B", "clone", "()Ljava/lang/Object;"⟩ ⟨"java/lang/Object", "clone", "()Ljava/lang/Object;"⟩, Cond.classLink RJ7 311 "[B", Cond.arrayClass .byte, Cond.methodLink RJ7 304 Lib.Math.min.name, Cond.static Lib.Math.min.name, Cond.initialized "java/lang/Math", Cond.code Lib.Math.min.name Lib.Math.min.code 2 (some .int), Cond.methodLink RJ7 150 arraycopyName]
def wsX0_addCount_r2 : List Cond := [Cond.native arraycopyName, Cond.static arraycopyName, Cond.initialized "java/lang/System"]
def wsX0_addCount : List Cond := .code yX0_addCount cX0_addCount 6 none :: ((wsX0_addCount_r1 ++ wsX0_addCount_r2) ++ wsX00)
def wsX0_cut : List Cond := .code yX0_cut cX0_cut 2 none :: ([.fieldLink RX0 15 "TraceBook$Bytes" "length" "I"] ++ wsX00)
def wsX1_init : List Cond := .code yX1_init cX1_init 5 none :: ([.methodLink RX1 1 objectInit, .instanceMethod objectInit, .code objectInit ⟨#[0xb1]⟩ 1 none, .fieldLink RX1 7 "TraceBook$Change" "wire" "I", .fieldLink RX1 13 "TraceBook$Change" "element" "I", .fieldLink RX1 16 "TraceBook$Change" "value" "I", .fieldLink RX1 19 "TraceBook$Change" "before" "I"] ++ wsX10)
def wsX1_isOf : List Cond := .code yX1_isOf cX1_isOf 3 (some .boolean) :: ([.fieldLink RX1 7 "TraceBook$Change" "wire" "I", .fieldLink RX1 13 "TraceBook$Change" "element" "I"] ++ wsX10)
def wsX1_standsBefore : List Cond := .code yX1_standsBefore cX1_standsBefore 3 (some .boolean) :: ([.fieldLink RX1 7 "TraceBook$Change" "wire" "I", .fieldLink RX1 13 "TraceBook$Change" "element" "I"] ++ wsX10)
def wsJxa1e45_init_da8c8 : List Cond := .code yJxa1e45_init_da8c8 cJxa1e45_init_da8c8 1 none :: ([.methodLink RJxa1e45 1 objectInit, .instanceMethod objectInit, .code objectInit ⟨#[0xb1]⟩ 1 none])
def wsJxc12de_init_da8c8 : List Cond := .code yJxc12de_init_da8c8 cJxc12de_init_da8c8 1 none :: ([.fieldLink RJxc12de 7 "java/util/AbstractList" "modCount" "I", .methodLink RJxc12de 1 yJxa1e45_init_da8c8, .instanceMethod yJxa1e45_init_da8c8, .initialized RJxa1e45, .code yJxa1e45_init_da8c8 cJxa1e45_init_da8c8 1 none, .methodLink RJxa1e45 1 objectInit, .instanceMethod objectInit, .code objectInit ⟨#[0xb1]⟩ 1 none] ++ wsJx4a65c0)
def wsJx4a65c_init_da8c8 : List Cond := .code yJx4a65c_init_da8c8 cJx4a65c_init_da8c8 1 none :: ([.fieldLink RJx4a65c 39 "java/util/ArrayList" "DEFAULTCAPACITY_EMPTY_ELEMENTDATA" "[Ljava/lang/Object;", .fieldLink RJx4a65c 9 "java/util/ArrayList" "elementData" "[Ljava/lang/Object;", .methodLink RJx4a65c 1 yJxc12de_init_da8c8, .instanceMethod yJxc12de_init_da8c8, .initialized RJxc12de, .code yJxc12de_init_da8c8 cJxc12de_init_da8c8 1 none, .fieldLink RJxc12de 7 "java/util/AbstractList" "modCount" "I", .methodLink RJxc12de 1 yJxa1e45_init_da8c8, .instanceMethod yJxa1e45_init_da8c8, .initialized RJxa1e45, .code yJxa1e45_init_da8c8 cJxa1e45_init_da8c8 1 none, .methodLink RJxa1e45 1 objectInit, .instanceMethod objectInit, .code objectInit ⟨#[0xb1]⟩ 1 none] ++ wsJx4a65c0)
def wsX2_init_r1 : List Cond := [Cond.methodLink RX2 3 objectInit, Cond.instanceMethod objectInit, Cond.code objectInit ⟨#[0xb1]⟩ 1 none, Cond.fieldLink RX2 9 "TraceBook$Moment" "time" "J", Cond.fieldLink RX2 15 "TraceBook$Moment" "step" "J", Cond.classLink RX2 18 RJx4a65c, Cond.instantiable RJx4a65c 3, Cond.initialized RJx4a65c, Cond.fieldLink RX2 21 "TraceBook$Moment" "changes" "Ljava/util/ArrayList;", Cond.fieldLink RX2 25 "TraceBook$Moment" "place" "I", Cond.methodLink RX2 20 yJx4a65c_init_da8c8, Cond.instanceMethod yJx4a65c_init_da8c8, Cond.code yJx4a65c_init_da8c8 cJx4a65c_init_da8c8 1 none, Cond.fieldLink RJx4a65c 39 "java/util/ArrayList" "DEFAULTCAPACITY_EMPTY_ELEMENTDATA" "[Ljava/lang/Object;", Cond.fieldLink RJx4a65c 9 "java/util/ArrayList" "elementData" "[Ljava/lang/Object;", Cond.methodLink RJx4a65c 1 yJxc12de_init_da8c8, Cond.instanceMethod yJxc12de_init_da8c8, Cond.initialized RJxc12de, Cond.code yJxc12de_init_da8c8 cJxc12de_init_da8c8 1 none, Cond.fieldLink RJxc12de 7 "java/util/AbstractList" "modCount" "I", Cond.methodLink RJxc12de 1 yJxa1e45_init_da8c8, Cond.instanceMethod yJxa1e45_init_da8c8, Cond.initialized RJxa1e45, Cond.code yJxa1e45_init_da8c8 cJxa1e45_init_da8c8 1 none]
def wsX2_init_r2 : List Cond := [Cond.methodLink RJxa1e45 1 objectInit]
def wsX2_init : List Cond := .code yX2_init cX2_init 5 none :: ((wsX2_init_r1 ++ wsX2_init_r2) ++ wsX20 ++ wsJx4a65c0)
def wsX2_isLaterThan : List Cond := .code yX2_isLaterThan cX2_isLaterThan 5 (some .boolean) :: ([.fieldLink RX2 9 "TraceBook$Moment" "time" "J", .fieldLink RX2 15 "TraceBook$Moment" "step" "J"] ++ wsX20)
def wsJx4a65c_size_8abf5 : List Cond := .code yJx4a65c_size_8abf5 cJx4a65c_size_8abf5 1 (some .int) :: ([.fieldLink RJx4a65c 48 "java/util/ArrayList" "size" "I"] ++ wsJx4a65c0)
def wsJ3_checkIndex_8e157 : List Cond := .code yJ3_checkIndex_8e157 cJ3_checkIndex_8e157 3 (some .int) :: ([])
def wsJ15_checkIndex_7cf53 : List Cond := .code yJ15_checkIndex_7cf53 cJ15_checkIndex_7cf53 2 (some .int) :: ([.methodLink RJ15 105 yJ3_checkIndex_8e157, .static yJ3_checkIndex_8e157, .initialized RJ3, .code yJ3_checkIndex_8e157 cJ3_checkIndex_8e157 3 (some .int)])
def wsJx4a65c_elementData_915e3 : List Cond := .code yJx4a65c_elementData_915e3 cJx4a65c_elementData_915e3 2 (some (.object "java/lang/Object")) :: ([.fieldLink RJx4a65c 9 "java/util/ArrayList" "elementData" "[Ljava/lang/Object;"] ++ wsJx4a65c0)
def wsJx4a65c_get_915e3 : List Cond := .code yJx4a65c_get_915e3 cJx4a65c_get_915e3 2 (some (.object "java/lang/Object")) :: ([.fieldLink RJx4a65c 48 "java/util/ArrayList" "size" "I", .methodLink RJx4a65c 118 yJ15_checkIndex_7cf53, .static yJ15_checkIndex_7cf53, .initialized RJ15, .code yJ15_checkIndex_7cf53 cJ15_checkIndex_7cf53 2 (some .int), .methodLink RJ15 105 yJ3_checkIndex_8e157, .static yJ3_checkIndex_8e157, .initialized RJ3, .code yJ3_checkIndex_8e157 cJ3_checkIndex_8e157 3 (some .int), .methodLink RJx4a65c 123 yJx4a65c_elementData_915e3, .instanceMethod yJx4a65c_elementData_915e3, .selects RJx4a65c yJx4a65c_elementData_915e3 yJx4a65c_elementData_915e3, .initialized RJx4a65c, .code yJx4a65c_elementData_915e3 cJx4a65c_elementData_915e3 2 (some (.object "java/lang/Object")), .fieldLink RJx4a65c 9 "java/util/ArrayList" "elementData" "[Ljava/lang/Object;"] ++ wsJx4a65c0)
def wsX2_indexFor_r1 : List Cond := [Cond.fieldLink RX2 21 "TraceBook$Moment" "changes" "Ljava/util/ArrayList;", Cond.classLink RX2 41 "TraceBook$Change", Cond.methodLink RX2 33 yJx4a65c_size_8abf5, Cond.instanceMethod yJx4a65c_size_8abf5, Cond.selects RJx4a65c yJx4a65c_size_8abf5 yJx4a65c_size_8abf5, Cond.initialized RJx4a65c, Cond.code yJx4a65c_size_8abf5 cJx4a65c_size_8abf5 1 (some .int), Cond.fieldLink RJx4a65c 48 "java/util/ArrayList" "size" "I", Cond.methodLink RX2 37 yJx4a65c_get_915e3, Cond.instanceMethod yJx4a65c_get_915e3, Cond.selects RJx4a65c yJx4a65c_get_915e3 yJx4a65c_get_915e3, Cond.code yJx4a65c_get_915e3 cJx4a65c_get_915e3 2 (some (.object "java/lang/Object")), Cond.methodLink RJx4a65c 118 yJ15_checkIndex_7cf53, Cond.static yJ15_checkIndex_7cf53, Cond.initialized RJ15, Cond.code yJ15_checkIndex_7cf53 cJ15_checkIndex_7cf53 2 (some .int), Cond.methodLink RJ15 105 yJ3_checkIndex_8e157, Cond.static yJ3_checkIndex_8e157, Cond.initialized RJ3, Cond.code yJ3_checkIndex_8e157 cJ3_checkIndex_8e157 3 (some .int), Cond.methodLink RJx4a65c 123 yJx4a65c_elementData_915e3, Cond.instanceMethod yJx4a65c_elementData_915e3, Cond.selects RJx4a65c yJx4a65c_elementData_915e3 yJx4a65c_elementData_915e3, Cond.code yJx4a65c_elementData_915e3 cJx4a65c_elementData_915e3 2 (some (.object "java/lang/Object"))]
def wsX2_indexFor_r2 : List Cond := [Cond.fieldLink RJx4a65c 9 "java/util/ArrayList" "elementData" "[Ljava/lang/Object;", Cond.methodLink RX2 67 yX1_standsBefore, Cond.instanceMethod yX1_standsBefore, Cond.selects RX1 yX1_standsBefore yX1_standsBefore, Cond.initialized RX1, Cond.code yX1_standsBefore cX1_standsBefore 3 (some .boolean), Cond.fieldLink RX1 7 "TraceBook$Change" "wire" "I", Cond.fieldLink RX1 13 "TraceBook$Change" "element" "I"]
def wsX2_indexFor : List Cond := .code yX2_indexFor cX2_indexFor 4 (some .int) :: ((wsX2_indexFor_r1 ++ wsX2_indexFor_r2) ++ wsX20 ++ wsJx4a65c0 ++ wsX10)
def wsX2_changesWire_r1 : List Cond := [Cond.fieldLink RX2 21 "TraceBook$Moment" "changes" "Ljava/util/ArrayList;", Cond.classLink RX2 41 "TraceBook$Change", Cond.methodLink RX2 29 yX2_indexFor, Cond.instanceMethod yX2_indexFor, Cond.selects RX2 yX2_indexFor yX2_indexFor, Cond.initialized RX2, Cond.code yX2_indexFor cX2_indexFor 4 (some .int), Cond.methodLink RX2 33 yJx4a65c_size_8abf5, Cond.instanceMethod yJx4a65c_size_8abf5, Cond.selects RJx4a65c yJx4a65c_size_8abf5 yJx4a65c_size_8abf5, Cond.initialized RJx4a65c, Cond.code yJx4a65c_size_8abf5 cJx4a65c_size_8abf5 1 (some .int), Cond.fieldLink RJx4a65c 48 "java/util/ArrayList" "size" "I", Cond.methodLink RX2 37 yJx4a65c_get_915e3, Cond.instanceMethod yJx4a65c_get_915e3, Cond.selects RJx4a65c yJx4a65c_get_915e3 yJx4a65c_get_915e3, Cond.code yJx4a65c_get_915e3 cJx4a65c_get_915e3 2 (some (.object "java/lang/Object")), Cond.methodLink RJx4a65c 118 yJ15_checkIndex_7cf53, Cond.static yJ15_checkIndex_7cf53, Cond.initialized RJ15, Cond.code yJ15_checkIndex_7cf53 cJ15_checkIndex_7cf53 2 (some .int), Cond.methodLink RJ15 105 yJ3_checkIndex_8e157, Cond.static yJ3_checkIndex_8e157, Cond.initialized RJ3]
def wsX2_changesWire_r2 : List Cond := [Cond.code yJ3_checkIndex_8e157 cJ3_checkIndex_8e157 3 (some .int), Cond.methodLink RJx4a65c 123 yJx4a65c_elementData_915e3, Cond.instanceMethod yJx4a65c_elementData_915e3, Cond.selects RJx4a65c yJx4a65c_elementData_915e3 yJx4a65c_elementData_915e3, Cond.code yJx4a65c_elementData_915e3 cJx4a65c_elementData_915e3 2 (some (.object "java/lang/Object")), Cond.fieldLink RJx4a65c 9 "java/util/ArrayList" "elementData" "[Ljava/lang/Object;", Cond.methodLink RX2 67 yX1_standsBefore, Cond.instanceMethod yX1_standsBefore, Cond.selects RX1 yX1_standsBefore yX1_standsBefore, Cond.initialized RX1, Cond.code yX1_standsBefore cX1_standsBefore 3 (some .boolean), Cond.fieldLink RX1 7 "TraceBook$Change" "wire" "I", Cond.fieldLink RX1 13 "TraceBook$Change" "element" "I"]
def wsX2_changesWire : List Cond := .code yX2_changesWire cX2_changesWire 3 (some .boolean) :: ((wsX2_changesWire_r1 ++ wsX2_changesWire_r2) ++ wsX20 ++ wsX10 ++ wsJx4a65c0)
def wsX2_isChangeOf_r1 : List Cond := [Cond.fieldLink RX2 21 "TraceBook$Moment" "changes" "Ljava/util/ArrayList;", Cond.classLink RX2 41 "TraceBook$Change", Cond.methodLink RX2 33 yJx4a65c_size_8abf5, Cond.instanceMethod yJx4a65c_size_8abf5, Cond.selects RJx4a65c yJx4a65c_size_8abf5 yJx4a65c_size_8abf5, Cond.initialized RJx4a65c, Cond.code yJx4a65c_size_8abf5 cJx4a65c_size_8abf5 1 (some .int), Cond.fieldLink RJx4a65c 48 "java/util/ArrayList" "size" "I", Cond.methodLink RX2 37 yJx4a65c_get_915e3, Cond.instanceMethod yJx4a65c_get_915e3, Cond.selects RJx4a65c yJx4a65c_get_915e3 yJx4a65c_get_915e3, Cond.code yJx4a65c_get_915e3 cJx4a65c_get_915e3 2 (some (.object "java/lang/Object")), Cond.methodLink RJx4a65c 118 yJ15_checkIndex_7cf53, Cond.static yJ15_checkIndex_7cf53, Cond.initialized RJ15, Cond.code yJ15_checkIndex_7cf53 cJ15_checkIndex_7cf53 2 (some .int), Cond.methodLink RJ15 105 yJ3_checkIndex_8e157, Cond.static yJ3_checkIndex_8e157, Cond.initialized RJ3, Cond.code yJ3_checkIndex_8e157 cJ3_checkIndex_8e157 3 (some .int), Cond.methodLink RJx4a65c 123 yJx4a65c_elementData_915e3, Cond.instanceMethod yJx4a65c_elementData_915e3, Cond.selects RJx4a65c yJx4a65c_elementData_915e3 yJx4a65c_elementData_915e3, Cond.code yJx4a65c_elementData_915e3 cJx4a65c_elementData_915e3 2 (some (.object "java/lang/Object"))]
def wsX2_isChangeOf_r2 : List Cond := [Cond.fieldLink RJx4a65c 9 "java/util/ArrayList" "elementData" "[Ljava/lang/Object;", Cond.methodLink RX2 71 yX1_isOf, Cond.instanceMethod yX1_isOf, Cond.selects RX1 yX1_isOf yX1_isOf, Cond.initialized RX1, Cond.code yX1_isOf cX1_isOf 3 (some .boolean), Cond.fieldLink RX1 7 "TraceBook$Change" "wire" "I", Cond.fieldLink RX1 13 "TraceBook$Change" "element" "I"]
def wsX2_isChangeOf : List Cond := .code yX2_isChangeOf cX2_isChangeOf 4 (some .boolean) :: ((wsX2_isChangeOf_r1 ++ wsX2_isChangeOf_r2) ++ wsX20 ++ wsJx4a65c0 ++ wsX10)
def wsX2_valueBehind_r1 : List Cond := [Cond.fieldLink RX2 21 "TraceBook$Moment" "changes" "Ljava/util/ArrayList;", Cond.classLink RX2 41 "TraceBook$Change", Cond.methodLink RX2 29 yX2_indexFor, Cond.instanceMethod yX2_indexFor, Cond.selects RX2 yX2_indexFor yX2_indexFor, Cond.initialized RX2, Cond.code yX2_indexFor cX2_indexFor 4 (some .int), Cond.methodLink RX2 33 yJx4a65c_size_8abf5, Cond.instanceMethod yJx4a65c_size_8abf5, Cond.selects RJx4a65c yJx4a65c_size_8abf5 yJx4a65c_size_8abf5, Cond.initialized RJx4a65c, Cond.code yJx4a65c_size_8abf5 cJx4a65c_size_8abf5 1 (some .int), Cond.fieldLink RJx4a65c 48 "java/util/ArrayList" "size" "I", Cond.methodLink RX2 37 yJx4a65c_get_915e3, Cond.instanceMethod yJx4a65c_get_915e3, Cond.selects RJx4a65c yJx4a65c_get_915e3 yJx4a65c_get_915e3, Cond.code yJx4a65c_get_915e3 cJx4a65c_get_915e3 2 (some (.object "java/lang/Object")), Cond.methodLink RJx4a65c 118 yJ15_checkIndex_7cf53, Cond.static yJ15_checkIndex_7cf53, Cond.initialized RJ15, Cond.code yJ15_checkIndex_7cf53 cJ15_checkIndex_7cf53 2 (some .int), Cond.methodLink RJ15 105 yJ3_checkIndex_8e157, Cond.static yJ3_checkIndex_8e157, Cond.initialized RJ3]
def wsX2_valueBehind_r2 : List Cond := [Cond.code yJ3_checkIndex_8e157 cJ3_checkIndex_8e157 3 (some .int), Cond.methodLink RJx4a65c 123 yJx4a65c_elementData_915e3, Cond.instanceMethod yJx4a65c_elementData_915e3, Cond.selects RJx4a65c yJx4a65c_elementData_915e3 yJx4a65c_elementData_915e3, Cond.code yJx4a65c_elementData_915e3 cJx4a65c_elementData_915e3 2 (some (.object "java/lang/Object")), Cond.fieldLink RJx4a65c 9 "java/util/ArrayList" "elementData" "[Ljava/lang/Object;", Cond.methodLink RX2 67 yX1_standsBefore, Cond.instanceMethod yX1_standsBefore, Cond.selects RX1 yX1_standsBefore yX1_standsBefore, Cond.initialized RX1, Cond.code yX1_standsBefore cX1_standsBefore 3 (some .boolean), Cond.fieldLink RX1 7 "TraceBook$Change" "wire" "I", Cond.fieldLink RX1 13 "TraceBook$Change" "element" "I", Cond.methodLink RX2 46 yX2_isChangeOf, Cond.instanceMethod yX2_isChangeOf, Cond.selects RX2 yX2_isChangeOf yX2_isChangeOf, Cond.code yX2_isChangeOf cX2_isChangeOf 4 (some .boolean), Cond.methodLink RX2 71 yX1_isOf, Cond.instanceMethod yX1_isOf, Cond.selects RX1 yX1_isOf yX1_isOf, Cond.code yX1_isOf cX1_isOf 3 (some .boolean)]
def wsX2_valueBehind : List Cond := .code yX2_valueBehind cX2_valueBehind 5 (some .int) :: ((wsX2_valueBehind_r1 ++ wsX2_valueBehind_r2) ++ wsX20 ++ wsX10 ++ wsJx4a65c0)
def wsJx4a65c_rangeCheckForAdd_d00df : List Cond := .code yJx4a65c_rangeCheckForAdd_d00df cJx4a65c_rangeCheckForAdd_d00df 2 none :: ([.fieldLink RJx4a65c 48 "java/util/ArrayList" "size" "I"] ++ wsJx4a65c0)
def wsJ8_hugeLength_7cf53 : List Cond := .code yJ8_hugeLength_7cf53 cJ8_hugeLength_7cf53 3 (some .int) :: ([.constant RJ8 200 (2147483639)])
def wsJ8_newLength_cabcc : List Cond := .code yJ8_newLength_cabcc cJ8_newLength_cabcc 4 (some .int) :: ([.methodLink RJ8 194 Lib.Math.max.name, .static Lib.Math.max.name, .initialized "java/lang/Math", .code Lib.Math.max.name Lib.Math.max.code 2 (some .int), .constant RJ8 200 (2147483639), .methodLink RJ8 201 yJ8_hugeLength_7cf53, .static yJ8_hugeLength_7cf53, .initialized RJ8, .code yJ8_hugeLength_7cf53 cJ8_hugeLength_7cf53 3 (some .int)])
def wsJ7_copyOf_6403c : List Cond := .code yJ7_copyOf_6403c cJ7_copyOf_6403c 4 (some (.array (.object "java/lang/Object"))) :: ([.classLink RJ7 110 "[Ljava/lang/Object;", .classLink RJ7 2 "java/lang/Object", .methodLink RJ7 304 Lib.Math.min.name, .static Lib.Math.min.name, .initialized "java/lang/Math", .code Lib.Math.min.name Lib.Math.min.code 2 (some .int), .methodLink RJ7 150 arraycopyName, .native arraycopyName, .static arraycopyName, .initialized "java/lang/System"])
def wsJ7_copyOf_1904c : List Cond := .code yJ7_copyOf_1904c cJ7_copyOf_1904c 2 (some (.array (.object "java/lang/Object"))) :: ([.methodLink RJ7 86 ⟨"java/lang/Object", "getClass", "()Ljava/lang/Class;"⟩, .selects "[Ljava/lang/Object;" ⟨"java/lang/Object", "getClass", "()Ljava/lang/Class;"⟩ ⟨"java/lang/Object", "getClass", "()Ljava/lang/Class;"⟩, .instanceMethod ⟨"java/lang/Object", "getClass", "()Ljava/lang/Class;"⟩, .native ⟨"java/lang/Object", "getClass", "()Ljava/lang/Class;"⟩, .methodLink RJ7 300 yJ7_copyOf_6403c, .static yJ7_copyOf_6403c, .initialized RJ7, .code yJ7_copyOf_6403c cJ7_copyOf_6403c 4 (some (.array (.object "java/lang/Object"))), .classLink RJ7 110 "[Ljava/lang/Object;", .classLink RJ7 2 "java/lang/Object", .methodLink RJ7 304 Lib.Math.min.name, .static Lib.Math.min.name, .initialized "java/lang/Math", .code Lib.Math.min.name Lib.Math.min.code 2 (some .int), .methodLink RJ7 150 arraycopyName, .native arraycopyName, .static arraycopyName, .initialized "java/lang/System"])
def wsJx4a65c_grow_92f84_r1 : List Cond := [Cond.fieldLink RJx4a65c 9 "java/util/ArrayList" "elementData" "[Ljava/lang/Object;", Cond.fieldLink RJx4a65c 39 "java/util/ArrayList" "DEFAULTCAPACITY_EMPTY_ELEMENTDATA" "[Ljava/lang/Object;", Cond.methodLink RJx4a65c 79 Lib.Math.max.name, Cond.static Lib.Math.max.name, Cond.initialized "java/lang/Math", Cond.code Lib.Math.max.name Lib.Math.max.code 2 (some .int), Cond.classLink RJx4a65c 7 "java/lang/Object", Cond.methodLink RJx4a65c 73 yJ8_newLength_cabcc, Cond.static yJ8_newLength_cabcc, Cond.initialized RJ8, Cond.code yJ8_newLength_cabcc cJ8_newLength_cabcc 4 (some .int), Cond.methodLink RJ8 194 Lib.Math.max.name, Cond.constant RJ8 200 (2147483639), Cond.methodLink RJ8 201 yJ8_hugeLength_7cf53, Cond.static yJ8_hugeLength_7cf53, Cond.code yJ8_hugeLength_7cf53 cJ8_hugeLength_7cf53 3 (some .int), Cond.methodLink RJx4a65c 66 yJ7_copyOf_1904c, Cond.static yJ7_copyOf_1904c, Cond.initialized RJ7, Cond.code yJ7_copyOf_1904c cJ7_copyOf_1904c 2 (some (.array (.object "java/lang/Object"))), Cond.methodLink RJ7 86 ⟨"java/lang/Object", "getClass", "()Ljava/lang/Class;"⟩, Cond.selects "[Ljava/lang/Object;" ⟨"java/lang/Object", "getClass", "()Ljava/lang/Class;"⟩ ⟨"java/lang/Object", "getClass", "()Ljava/lang/Class;"⟩, Cond.instanceMethod ⟨"java/lang/Object", "getClass", "()Ljava/lang/Class;"⟩, Cond.native ⟨"java/lang/Object", "getClass", "()Ljava/lang/Class;"⟩]
def wsJx4a65c_grow_92f84_r2 : List Cond := [Cond.methodLink RJ7 300 yJ7_copyOf_6403c, Cond.static yJ7_copyOf_6403c, Cond.code yJ7_copyOf_6403c cJ7_copyOf_6403c 4 (some (.array (.object "java/lang/Object"))), Cond.classLink RJ7 110 "[Ljava/lang/Object;", Cond.classLink RJ7 2 "java/lang/Object", Cond.methodLink RJ7 304 Lib.Math.min.name, Cond.static Lib.Math.min.name, Cond.code Lib.Math.min.name Lib.Math.min.code 2 (some .int), Cond.methodLink RJ7 150 arraycopyName, Cond.native arraycopyName, Cond.static arraycopyName, Cond.initialized "java/lang/System"]
def wsJx4a65c_grow_92f84 : List Cond := .code yJx4a65c_grow_92f84 cJx4a65c_grow_92f84 4 (some (.array (.object "java/lang/Object"))) :: ((wsJx4a65c_grow_92f84_r1 ++ wsJx4a65c_grow_92f84_r2) ++ wsJx4a65c0)
def wsJx4a65c_grow_d5877_r1 : List Cond := [Cond.fieldLink RJx4a65c 48 "java/util/ArrayList" "size" "I", Cond.methodLink RJx4a65c 69 yJx4a65c_grow_92f84, Cond.instanceMethod yJx4a65c_grow_92f84, Cond.selects RJx4a65c yJx4a65c_grow_92f84 yJx4a65c_grow_92f84, Cond.initialized RJx4a65c, Cond.code yJx4a65c_grow_92f84 cJx4a65c_grow_92f84 4 (some (.array (.object "java/lang/Object"))), Cond.fieldLink RJx4a65c 9 "java/util/ArrayList" "elementData" "[Ljava/lang/Object;", Cond.fieldLink RJx4a65c 39 "java/util/ArrayList" "DEFAULTCAPACITY_EMPTY_ELEMENTDATA" "[Ljava/lang/Object;", Cond.methodLink RJx4a65c 79 Lib.Math.max.name, Cond.static Lib.Math.max.name, Cond.initialized "java/lang/Math", Cond.code Lib.Math.max.name Lib.Math.max.code 2 (some .int), Cond.classLink RJx4a65c 7 "java/lang/Object", Cond.methodLink RJx4a65c 73 yJ8_newLength_cabcc, Cond.static yJ8_newLength_cabcc, Cond.initialized RJ8, Cond.code yJ8_newLength_cabcc cJ8_newLength_cabcc 4 (some .int), Cond.methodLink RJ8 194 Lib.Math.max.name, Cond.constant RJ8 200 (2147483639), Cond.methodLink RJ8 201 yJ8_hugeLength_7cf53, Cond.static yJ8_hugeLength_7cf53, Cond.code yJ8_hugeLength_7cf53 cJ8_hugeLength_7cf53 3 (some .int), Cond.methodLink RJx4a65c 66 yJ7_copyOf_1904c, Cond.static yJ7_copyOf_1904c]
def wsJx4a65c_grow_d5877_r2 : List Cond := [Cond.initialized RJ7, Cond.code yJ7_copyOf_1904c cJ7_copyOf_1904c 2 (some (.array (.object "java/lang/Object"))), Cond.methodLink RJ7 86 ⟨"java/lang/Object", "getClass", "()Ljava/lang/Class;"⟩, Cond.selects "[Ljava/lang/Object;" ⟨"java/lang/Object", "getClass", "()Ljava/lang/Class;"⟩ ⟨"java/lang/Object", "getClass", "()Ljava/lang/Class;"⟩, Cond.instanceMethod ⟨"java/lang/Object", "getClass", "()Ljava/lang/Class;"⟩, Cond.native ⟨"java/lang/Object", "getClass", "()Ljava/lang/Class;"⟩, Cond.methodLink RJ7 300 yJ7_copyOf_6403c, Cond.static yJ7_copyOf_6403c, Cond.code yJ7_copyOf_6403c cJ7_copyOf_6403c 4 (some (.array (.object "java/lang/Object"))), Cond.classLink RJ7 110 "[Ljava/lang/Object;", Cond.classLink RJ7 2 "java/lang/Object", Cond.methodLink RJ7 304 Lib.Math.min.name, Cond.static Lib.Math.min.name, Cond.code Lib.Math.min.name Lib.Math.min.code 2 (some .int), Cond.methodLink RJ7 150 arraycopyName, Cond.native arraycopyName, Cond.static arraycopyName, Cond.initialized "java/lang/System"]
def wsJx4a65c_grow_d5877 : List Cond := .code yJx4a65c_grow_d5877 cJx4a65c_grow_d5877 1 (some (.array (.object "java/lang/Object"))) :: ((wsJx4a65c_grow_d5877_r1 ++ wsJx4a65c_grow_d5877_r2) ++ wsJx4a65c0)
def wsJx4a65c_add_7a177_r1 : List Cond := [Cond.fieldLink RJx4a65c 63 "java/util/ArrayList" "modCount" "I", Cond.sameField "java/util/ArrayList" "java/util/AbstractList" "modCount" "I", Cond.fieldLink RJx4a65c 48 "java/util/ArrayList" "size" "I", Cond.fieldLink RJx4a65c 9 "java/util/ArrayList" "elementData" "[Ljava/lang/Object;", Cond.methodLink RJx4a65c 112 arraycopyName, Cond.native arraycopyName, Cond.static arraycopyName, Cond.initialized "java/lang/System", Cond.methodLink RJx4a65c 135 yJx4a65c_rangeCheckForAdd_d00df, Cond.instanceMethod yJx4a65c_rangeCheckForAdd_d00df, Cond.selects RJx4a65c yJx4a65c_rangeCheckForAdd_d00df yJx4a65c_rangeCheckForAdd_d00df, Cond.initialized RJx4a65c, Cond.code yJx4a65c_rangeCheckForAdd_d00df cJx4a65c_rangeCheckForAdd_d00df 2 none, Cond.methodLink RJx4a65c 129 yJx4a65c_grow_d5877, Cond.instanceMethod yJx4a65c_grow_d5877, Cond.selects RJx4a65c yJx4a65c_grow_d5877 yJx4a65c_grow_d5877, Cond.code yJx4a65c_grow_d5877 cJx4a65c_grow_d5877 1 (some (.array (.object "java/lang/Object"))), Cond.methodLink RJx4a65c 69 yJx4a65c_grow_92f84, Cond.instanceMethod yJx4a65c_grow_92f84, Cond.selects RJx4a65c yJx4a65c_grow_92f84 yJx4a65c_grow_92f84, Cond.code yJx4a65c_grow_92f84 cJx4a65c_grow_92f84 4 (some (.array (.object "java/lang/Object"))), Cond.fieldLink RJx4a65c 39 "java/util/ArrayList" "DEFAULTCAPACITY_EMPTY_ELEMENTDATA" "[Ljava/lang/Object;", Cond.methodLink RJx4a65c 79 Lib.Math.max.name, Cond.static Lib.Math.max.name]
def wsJx4a65c_add_7a177_r2 : List Cond := [Cond.initialized "java/lang/Math", Cond.code Lib.Math.max.name Lib.Math.max.code 2 (some .int), Cond.classLink RJx4a65c 7 "java/lang/Object", Cond.methodLink RJx4a65c 73 yJ8_newLength_cabcc, Cond.static yJ8_newLength_cabcc, Cond.initialized RJ8, Cond.code yJ8_newLength_cabcc cJ8_newLength_cabcc 4 (some .int), Cond.methodLink RJ8 194 Lib.Math.max.name, Cond.constant RJ8 200 (2147483639), Cond.methodLink RJ8 201 yJ8_hugeLength_7cf53, Cond.static yJ8_hugeLength_7cf53, Cond.code yJ8_hugeLength_7cf53 cJ8_hugeLength_7cf53 3 (some .int), Cond.methodLink RJx4a65c 66 yJ7_copyOf_1904c, Cond.static yJ7_copyOf_1904c, Cond.initialized RJ7, Cond.code yJ7_copyOf_1904c cJ7_copyOf_1904c 2 (some (.array (.object "java/lang/Object"))), Cond.methodLink RJ7 86 ⟨"java/lang/Object", "getClass", "()Ljava/lang/Class;"⟩, Cond.selects "[Ljava/lang/Object;" ⟨"java/lang/Object", "getClass", "()Ljava/lang/Class;"⟩ ⟨"java/lang/Object", "getClass", "()Ljava/lang/Class;"⟩, Cond.instanceMethod ⟨"java/lang/Object", "getClass", "()Ljava/lang/Class;"⟩, Cond.native ⟨"java/lang/Object", "getClass", "()Ljava/lang/Class;"⟩, Cond.methodLink RJ7 300 yJ7_copyOf_6403c, Cond.static yJ7_copyOf_6403c, Cond.code yJ7_copyOf_6403c cJ7_copyOf_6403c 4 (some (.array (.object "java/lang/Object"))), Cond.classLink RJ7 110 "[Ljava/lang/Object;"]
def wsJx4a65c_add_7a177_r3 : List Cond := [Cond.classLink RJ7 2 "java/lang/Object", Cond.methodLink RJ7 304 Lib.Math.min.name, Cond.static Lib.Math.min.name, Cond.code Lib.Math.min.name Lib.Math.min.code 2 (some .int), Cond.methodLink RJ7 150 arraycopyName]
def wsJx4a65c_add_7a177 : List Cond := .code yJx4a65c_add_7a177 cJx4a65c_add_7a177 5 none :: ((wsJx4a65c_add_7a177_r1 ++ (wsJx4a65c_add_7a177_r2 ++ wsJx4a65c_add_7a177_r3)) ++ wsJx4a65c0)
def wsJx4a65c_fastRemove_b59b0 : List Cond := .code yJx4a65c_fastRemove_b59b0 cJx4a65c_fastRemove_b59b0 4 none :: ([.fieldLink RJx4a65c 63 "java/util/ArrayList" "modCount" "I", .sameField "java/util/ArrayList" "java/util/AbstractList" "modCount" "I", .fieldLink RJx4a65c 48 "java/util/ArrayList" "size" "I", .methodLink RJx4a65c 112 arraycopyName, .native arraycopyName, .static arraycopyName, .initialized "java/lang/System"] ++ wsJx4a65c0)
def wsJx4a65c_remove_915e3 : List Cond := .code yJx4a65c_remove_915e3 cJx4a65c_remove_915e3 4 (some (.object "java/lang/Object")) :: ([.fieldLink RJx4a65c 48 "java/util/ArrayList" "size" "I", .fieldLink RJx4a65c 9 "java/util/ArrayList" "elementData" "[Ljava/lang/Object;", .methodLink RJx4a65c 118 yJ15_checkIndex_7cf53, .static yJ15_checkIndex_7cf53, .initialized RJ15, .code yJ15_checkIndex_7cf53 cJ15_checkIndex_7cf53 2 (some .int), .methodLink RJ15 105 yJ3_checkIndex_8e157, .static yJ3_checkIndex_8e157, .initialized RJ3, .code yJ3_checkIndex_8e157 cJ3_checkIndex_8e157 3 (some .int), .methodLink RJx4a65c 144 yJx4a65c_fastRemove_b59b0, .instanceMethod yJx4a65c_fastRemove_b59b0, .selects RJx4a65c yJx4a65c_fastRemove_b59b0 yJx4a65c_fastRemove_b59b0, .initialized RJx4a65c, .code yJx4a65c_fastRemove_b59b0 cJx4a65c_fastRemove_b59b0 4 none, .fieldLink RJx4a65c 63 "java/util/ArrayList" "modCount" "I", .sameField "java/util/ArrayList" "java/util/AbstractList" "modCount" "I", .methodLink RJx4a65c 112 arraycopyName, .native arraycopyName, .static arraycopyName, .initialized "java/lang/System"] ++ wsJx4a65c0)
def wsJx4a65c_set_bcc79 : List Cond := .code yJx4a65c_set_bcc79 cJx4a65c_set_bcc79 4 (some (.object "java/lang/Object")) :: ([.fieldLink RJx4a65c 48 "java/util/ArrayList" "size" "I", .fieldLink RJx4a65c 9 "java/util/ArrayList" "elementData" "[Ljava/lang/Object;", .methodLink RJx4a65c 118 yJ15_checkIndex_7cf53, .static yJ15_checkIndex_7cf53, .initialized RJ15, .code yJ15_checkIndex_7cf53 cJ15_checkIndex_7cf53 2 (some .int), .methodLink RJ15 105 yJ3_checkIndex_8e157, .static yJ3_checkIndex_8e157, .initialized RJ3, .code yJ3_checkIndex_8e157 cJ3_checkIndex_8e157 3 (some .int), .methodLink RJx4a65c 123 yJx4a65c_elementData_915e3, .instanceMethod yJx4a65c_elementData_915e3, .selects RJx4a65c yJx4a65c_elementData_915e3 yJx4a65c_elementData_915e3, .initialized RJx4a65c, .code yJx4a65c_elementData_915e3 cJx4a65c_elementData_915e3 2 (some (.object "java/lang/Object"))] ++ wsJx4a65c0)
def wsX2_put_r1 : List Cond := [Cond.fieldLink RX2 21 "TraceBook$Moment" "changes" "Ljava/util/ArrayList;", Cond.classLink RX2 41 "TraceBook$Change", Cond.classLink RX2 41 RX1, Cond.instantiable RX1 4, Cond.initialized RX1, Cond.methodLink RX2 29 yX2_indexFor, Cond.instanceMethod yX2_indexFor, Cond.selects RX2 yX2_indexFor yX2_indexFor, Cond.initialized RX2, Cond.code yX2_indexFor cX2_indexFor 4 (some .int), Cond.methodLink RX2 33 yJx4a65c_size_8abf5, Cond.instanceMethod yJx4a65c_size_8abf5, Cond.selects RJx4a65c yJx4a65c_size_8abf5 yJx4a65c_size_8abf5, Cond.initialized RJx4a65c, Cond.code yJx4a65c_size_8abf5 cJx4a65c_size_8abf5 1 (some .int), Cond.fieldLink RJx4a65c 48 "java/util/ArrayList" "size" "I", Cond.methodLink RX2 37 yJx4a65c_get_915e3, Cond.instanceMethod yJx4a65c_get_915e3, Cond.selects RJx4a65c yJx4a65c_get_915e3 yJx4a65c_get_915e3, Cond.code yJx4a65c_get_915e3 cJx4a65c_get_915e3 2 (some (.object "java/lang/Object")), Cond.methodLink RJx4a65c 118 yJ15_checkIndex_7cf53, Cond.static yJ15_checkIndex_7cf53, Cond.initialized RJ15, Cond.code yJ15_checkIndex_7cf53 cJ15_checkIndex_7cf53 2 (some .int)]
def wsX2_put_r2 : List Cond := [Cond.methodLink RJ15 105 yJ3_checkIndex_8e157, Cond.static yJ3_checkIndex_8e157, Cond.initialized RJ3, Cond.code yJ3_checkIndex_8e157 cJ3_checkIndex_8e157 3 (some .int), Cond.methodLink RJx4a65c 123 yJx4a65c_elementData_915e3, Cond.instanceMethod yJx4a65c_elementData_915e3, Cond.selects RJx4a65c yJx4a65c_elementData_915e3 yJx4a65c_elementData_915e3, Cond.code yJx4a65c_elementData_915e3 cJx4a65c_elementData_915e3 2 (some (.object "java/lang/Object")), Cond.fieldLink RJx4a65c 9 "java/util/ArrayList" "elementData" "[Ljava/lang/Object;", Cond.methodLink RX2 67 yX1_standsBefore, Cond.instanceMethod yX1_standsBefore, Cond.selects RX1 yX1_standsBefore yX1_standsBefore, Cond.code yX1_standsBefore cX1_standsBefore 3 (some .boolean), Cond.fieldLink RX1 7 "TraceBook$Change" "wire" "I", Cond.fieldLink RX1 13 "TraceBook$Change" "element" "I", Cond.methodLink RX2 46 yX2_isChangeOf, Cond.instanceMethod yX2_isChangeOf, Cond.selects RX2 yX2_isChangeOf yX2_isChangeOf, Cond.code yX2_isChangeOf cX2_isChangeOf 4 (some .boolean), Cond.methodLink RX2 71 yX1_isOf, Cond.instanceMethod yX1_isOf, Cond.selects RX1 yX1_isOf yX1_isOf, Cond.code yX1_isOf cX1_isOf 3 (some .boolean), Cond.methodLink RX2 53 yX1_init]
def wsX2_put_r3 : List Cond := [Cond.instanceMethod yX1_init, Cond.code yX1_init cX1_init 5 none, Cond.methodLink RX1 1 objectInit, Cond.instanceMethod objectInit, Cond.code objectInit ⟨#[0xb1]⟩ 1 none, Cond.fieldLink RX1 16 "TraceBook$Change" "value" "I", Cond.fieldLink RX1 19 "TraceBook$Change" "before" "I", Cond.methodLink RX2 56 yJx4a65c_add_7a177, Cond.instanceMethod yJx4a65c_add_7a177, Cond.selects RJx4a65c yJx4a65c_add_7a177 yJx4a65c_add_7a177, Cond.code yJx4a65c_add_7a177 cJx4a65c_add_7a177 5 none, Cond.fieldLink RJx4a65c 63 "java/util/ArrayList" "modCount" "I", Cond.sameField "java/util/ArrayList" "java/util/AbstractList" "modCount" "I", Cond.methodLink RJx4a65c 112 arraycopyName, Cond.native arraycopyName, Cond.static arraycopyName, Cond.initialized "java/lang/System", Cond.methodLink RJx4a65c 135 yJx4a65c_rangeCheckForAdd_d00df, Cond.instanceMethod yJx4a65c_rangeCheckForAdd_d00df, Cond.selects RJx4a65c yJx4a65c_rangeCheckForAdd_d00df yJx4a65c_rangeCheckForAdd_d00df, Cond.code yJx4a65c_rangeCheckForAdd_d00df cJx4a65c_rangeCheckForAdd_d00df 2 none, Cond.methodLink RJx4a65c 129 yJx4a65c_grow_d5877, Cond.instanceMethod yJx4a65c_grow_d5877, Cond.selects RJx4a65c yJx4a65c_grow_d5877 yJx4a65c_grow_d5877]
def wsX2_put_r4 : List Cond := [Cond.code yJx4a65c_grow_d5877 cJx4a65c_grow_d5877 1 (some (.array (.object "java/lang/Object"))), Cond.methodLink RJx4a65c 69 yJx4a65c_grow_92f84, Cond.instanceMethod yJx4a65c_grow_92f84, Cond.selects RJx4a65c yJx4a65c_grow_92f84 yJx4a65c_grow_92f84, Cond.code yJx4a65c_grow_92f84 cJx4a65c_grow_92f84 4 (some (.array (.object "java/lang/Object"))), Cond.fieldLink RJx4a65c 39 "java/util/ArrayList" "DEFAULTCAPACITY_EMPTY_ELEMENTDATA" "[Ljava/lang/Object;", Cond.methodLink RJx4a65c 79 Lib.Math.max.name, Cond.static Lib.Math.max.name, Cond.initialized "java/lang/Math", Cond.code Lib.Math.max.name Lib.Math.max.code 2 (some .int), Cond.classLink RJx4a65c 7 "java/lang/Object", Cond.methodLink RJx4a65c 73 yJ8_newLength_cabcc, Cond.static yJ8_newLength_cabcc, Cond.initialized RJ8, Cond.code yJ8_newLength_cabcc cJ8_newLength_cabcc 4 (some .int), Cond.methodLink RJ8 194 Lib.Math.max.name, Cond.constant RJ8 200 (2147483639), Cond.methodLink RJ8 201 yJ8_hugeLength_7cf53, Cond.static yJ8_hugeLength_7cf53, Cond.code yJ8_hugeLength_7cf53 cJ8_hugeLength_7cf53 3 (some .int), Cond.methodLink RJx4a65c 66 yJ7_copyOf_1904c, Cond.static yJ7_copyOf_1904c, Cond.initialized RJ7, Cond.code yJ7_copyOf_1904c cJ7_copyOf_1904c 2 (some (.array (.object "java/lang/Object")))]
def wsX2_put_r5 : List Cond := [Cond.methodLink RJ7 86 ⟨"java/lang/Object", "getClass", "()Ljava/lang/Class;"⟩, Cond.selects "[Ljava/lang/Object;" ⟨"java/lang/Object", "getClass", "()Ljava/lang/Class;"⟩ ⟨"java/lang/Object", "getClass", "()Ljava/lang/Class;"⟩, Cond.instanceMethod ⟨"java/lang/Object", "getClass", "()Ljava/lang/Class;"⟩, Cond.native ⟨"java/lang/Object", "getClass", "()Ljava/lang/Class;"⟩, Cond.methodLink RJ7 300 yJ7_copyOf_6403c, Cond.static yJ7_copyOf_6403c, Cond.code yJ7_copyOf_6403c cJ7_copyOf_6403c 4 (some (.array (.object "java/lang/Object"))), Cond.classLink RJ7 110 "[Ljava/lang/Object;", Cond.classLink RJ7 2 "java/lang/Object", Cond.methodLink RJ7 304 Lib.Math.min.name, Cond.static Lib.Math.min.name, Cond.code Lib.Math.min.name Lib.Math.min.code 2 (some .int), Cond.methodLink RJ7 150 arraycopyName, Cond.methodLink RX2 60 yJx4a65c_remove_915e3, Cond.instanceMethod yJx4a65c_remove_915e3, Cond.selects RJx4a65c yJx4a65c_remove_915e3 yJx4a65c_remove_915e3, Cond.code yJx4a65c_remove_915e3 cJx4a65c_remove_915e3 4 (some (.object "java/lang/Object")), Cond.methodLink RJx4a65c 144 yJx4a65c_fastRemove_b59b0, Cond.instanceMethod yJx4a65c_fastRemove_b59b0, Cond.selects RJx4a65c yJx4a65c_fastRemove_b59b0 yJx4a65c_fastRemove_b59b0, Cond.code yJx4a65c_fastRemove_b59b0 cJx4a65c_fastRemove_b59b0 4 none, Cond.methodLink RX2 63 yJx4a65c_set_bcc79, Cond.instanceMethod yJx4a65c_set_bcc79, Cond.selects RJx4a65c yJx4a65c_set_bcc79 yJx4a65c_set_bcc79]
def wsX2_put_r6 : List Cond := [Cond.code yJx4a65c_set_bcc79 cJx4a65c_set_bcc79 4 (some (.object "java/lang/Object"))]
def wsX2_put : List Cond := .code yX2_put cX2_put 8 (some .boolean) :: ((wsX2_put_r1 ++ (wsX2_put_r2 ++ (wsX2_put_r3 ++ (wsX2_put_r4 ++ (wsX2_put_r5 ++ wsX2_put_r6))))) ++ wsX20 ++ wsX10 ++ wsJx4a65c0)
def wsX3_init : List Cond := .code yX3_init cX3_init 4 none :: ([.methodLink RX3 3 objectInit, .instanceMethod objectInit, .code objectInit ⟨#[0xb1]⟩ 1 none, .fieldLink RX3 9 "TraceBook$Reader" "tape" "LTraceBook$Bytes;", .fieldLink RX3 15 "TraceBook$Reader" "wires" "LTraceBook$Wires;", .fieldLink RX3 19 "TraceBook$Reader" "row" "LTraceBook$Row;", .fieldLink RX3 23 "TraceBook$Reader" "place" "I", .fieldLink RX3 27 "TraceBook$Reader" "fault" "I"] ++ wsX30)
def wsX3_readCount : List Cond := .code yX3_readCount cX3_readCount 7 (some .long) :: ([.fieldLink RX3 27 "TraceBook$Reader" "fault" "I", .constantLong RX3 120 (-1), .fieldLink RX3 23 "TraceBook$Reader" "place" "I", .fieldLink RX3 9 "TraceBook$Reader" "tape" "LTraceBook$Bytes;", .constantLong RX3 124 (127), .constantLong RX3 61 (4611686018427387903), .methodLink RX3 122 yX0_get, .instanceMethod yX0_get, .selects RX0 yX0_get yX0_get, .initialized RX0, .code yX0_get cX0_get 2 (some .int), .fieldLink RX0 15 "TraceBook$Bytes" "length" "I", .fieldLink RX0 9 "TraceBook$Bytes" "kept" "[B"] ++ wsX30 ++ wsX00)
def wsJx4a65c_isEmpty_aae02 : List Cond := .code yJx4a65c_isEmpty_aae02 cJx4a65c_isEmpty_aae02 1 (some .boolean) :: ([.fieldLink RJx4a65c 48 "java/util/ArrayList" "size" "I"] ++ wsJx4a65c0)
def wsX4_lastMoment_r1 : List Cond := [Cond.fieldLink RX4 21 "TraceBook$Row" "moments" "Ljava/util/ArrayList;", Cond.classLink RX4 54 "TraceBook$Moment", Cond.methodLink RX4 42 yJx4a65c_isEmpty_aae02, Cond.instanceMethod yJx4a65c_isEmpty_aae02, Cond.selects RJx4a65c yJx4a65c_isEmpty_aae02 yJx4a65c_isEmpty_aae02, Cond.initialized RJx4a65c, Cond.code yJx4a65c_isEmpty_aae02 cJx4a65c_isEmpty_aae02 1 (some .boolean), Cond.fieldLink RJx4a65c 48 "java/util/ArrayList" "size" "I", Cond.methodLink RX4 46 yJx4a65c_size_8abf5, Cond.instanceMethod yJx4a65c_size_8abf5, Cond.selects RJx4a65c yJx4a65c_size_8abf5 yJx4a65c_size_8abf5, Cond.code yJx4a65c_size_8abf5 cJx4a65c_size_8abf5 1 (some .int), Cond.methodLink RX4 50 yJx4a65c_get_915e3, Cond.instanceMethod yJx4a65c_get_915e3, Cond.selects RJx4a65c yJx4a65c_get_915e3 yJx4a65c_get_915e3, Cond.code yJx4a65c_get_915e3 cJx4a65c_get_915e3 2 (some (.object "java/lang/Object")), Cond.methodLink RJx4a65c 118 yJ15_checkIndex_7cf53, Cond.static yJ15_checkIndex_7cf53, Cond.initialized RJ15, Cond.code yJ15_checkIndex_7cf53 cJ15_checkIndex_7cf53 2 (some .int), Cond.methodLink RJ15 105 yJ3_checkIndex_8e157, Cond.static yJ3_checkIndex_8e157, Cond.initialized RJ3, Cond.code yJ3_checkIndex_8e157 cJ3_checkIndex_8e157 3 (some .int)]
def wsX4_lastMoment_r2 : List Cond := [Cond.methodLink RJx4a65c 123 yJx4a65c_elementData_915e3, Cond.instanceMethod yJx4a65c_elementData_915e3, Cond.selects RJx4a65c yJx4a65c_elementData_915e3 yJx4a65c_elementData_915e3, Cond.code yJx4a65c_elementData_915e3 cJx4a65c_elementData_915e3 2 (some (.object "java/lang/Object")), Cond.fieldLink RJx4a65c 9 "java/util/ArrayList" "elementData" "[Ljava/lang/Object;"]
def wsX4_lastMoment : List Cond := .code yX4_lastMoment cX4_lastMoment 1 (some (.object "TraceBook$Moment")) :: ((wsX4_lastMoment_r1 ++ wsX4_lastMoment_r2) ++ wsX40 ++ wsJx4a65c0)
def wsX4_lastTime_r1 : List Cond := [Cond.methodLink RX4 56 yX4_lastMoment, Cond.instanceMethod yX4_lastMoment, Cond.selects RX4 yX4_lastMoment yX4_lastMoment, Cond.initialized RX4, Cond.code yX4_lastMoment cX4_lastMoment 1 (some (.object "TraceBook$Moment")), Cond.fieldLink RX4 21 "TraceBook$Row" "moments" "Ljava/util/ArrayList;", Cond.classLink RX4 54 "TraceBook$Moment", Cond.methodLink RX4 42 yJx4a65c_isEmpty_aae02, Cond.instanceMethod yJx4a65c_isEmpty_aae02, Cond.selects RJx4a65c yJx4a65c_isEmpty_aae02 yJx4a65c_isEmpty_aae02, Cond.initialized RJx4a65c, Cond.code yJx4a65c_isEmpty_aae02 cJx4a65c_isEmpty_aae02 1 (some .boolean), Cond.fieldLink RJx4a65c 48 "java/util/ArrayList" "size" "I", Cond.methodLink RX4 46 yJx4a65c_size_8abf5, Cond.instanceMethod yJx4a65c_size_8abf5, Cond.selects RJx4a65c yJx4a65c_size_8abf5 yJx4a65c_size_8abf5, Cond.code yJx4a65c_size_8abf5 cJx4a65c_size_8abf5 1 (some .int), Cond.methodLink RX4 50 yJx4a65c_get_915e3, Cond.instanceMethod yJx4a65c_get_915e3, Cond.selects RJx4a65c yJx4a65c_get_915e3 yJx4a65c_get_915e3, Cond.code yJx4a65c_get_915e3 cJx4a65c_get_915e3 2 (some (.object "java/lang/Object")), Cond.methodLink RJx4a65c 118 yJ15_checkIndex_7cf53, Cond.static yJ15_checkIndex_7cf53, Cond.initialized RJ15]
def wsX4_lastTime_r2 : List Cond := [Cond.code yJ15_checkIndex_7cf53 cJ15_checkIndex_7cf53 2 (some .int), Cond.methodLink RJ15 105 yJ3_checkIndex_8e157, Cond.static yJ3_checkIndex_8e157, Cond.initialized RJ3, Cond.code yJ3_checkIndex_8e157 cJ3_checkIndex_8e157 3 (some .int), Cond.methodLink RJx4a65c 123 yJx4a65c_elementData_915e3, Cond.instanceMethod yJx4a65c_elementData_915e3, Cond.selects RJx4a65c yJx4a65c_elementData_915e3 yJx4a65c_elementData_915e3, Cond.code yJx4a65c_elementData_915e3 cJx4a65c_elementData_915e3 2 (some (.object "java/lang/Object")), Cond.fieldLink RJx4a65c 9 "java/util/ArrayList" "elementData" "[Ljava/lang/Object;"]
def wsX4_lastTime : List Cond := .code yX4_lastTime cX4_lastTime 2 (some .long) :: ((wsX4_lastTime_r1 ++ wsX4_lastTime_r2) ++ wsX20 ++ wsX40 ++ wsJx4a65c0)
def wsX4_lastStep_r1 : List Cond := [Cond.constantLong RX4 64 (-1), Cond.methodLink RX4 56 yX4_lastMoment, Cond.instanceMethod yX4_lastMoment, Cond.selects RX4 yX4_lastMoment yX4_lastMoment, Cond.initialized RX4, Cond.code yX4_lastMoment cX4_lastMoment 1 (some (.object "TraceBook$Moment")), Cond.fieldLink RX4 21 "TraceBook$Row" "moments" "Ljava/util/ArrayList;", Cond.classLink RX4 54 "TraceBook$Moment", Cond.methodLink RX4 42 yJx4a65c_isEmpty_aae02, Cond.instanceMethod yJx4a65c_isEmpty_aae02, Cond.selects RJx4a65c yJx4a65c_isEmpty_aae02 yJx4a65c_isEmpty_aae02, Cond.initialized RJx4a65c, Cond.code yJx4a65c_isEmpty_aae02 cJx4a65c_isEmpty_aae02 1 (some .boolean), Cond.fieldLink RJx4a65c 48 "java/util/ArrayList" "size" "I", Cond.methodLink RX4 46 yJx4a65c_size_8abf5, Cond.instanceMethod yJx4a65c_size_8abf5, Cond.selects RJx4a65c yJx4a65c_size_8abf5 yJx4a65c_size_8abf5, Cond.code yJx4a65c_size_8abf5 cJx4a65c_size_8abf5 1 (some .int), Cond.methodLink RX4 50 yJx4a65c_get_915e3, Cond.instanceMethod yJx4a65c_get_915e3, Cond.selects RJx4a65c yJx4a65c_get_915e3 yJx4a65c_get_915e3, Cond.code yJx4a65c_get_915e3 cJx4a65c_get_915e3 2 (some (.object "java/lang/Object")), Cond.methodLink RJx4a65c 118 yJ15_checkIndex_7cf53, Cond.static yJ15_checkIndex_7cf53]
def wsX4_lastStep_r2 : List Cond := [Cond.initialized RJ15, Cond.code yJ15_checkIndex_7cf53 cJ15_checkIndex_7cf53 2 (some .int), Cond.methodLink RJ15 105 yJ3_checkIndex_8e157, Cond.static yJ3_checkIndex_8e157, Cond.initialized RJ3, Cond.code yJ3_checkIndex_8e157 cJ3_checkIndex_8e157 3 (some .int), Cond.methodLink RJx4a65c 123 yJx4a65c_elementData_915e3, Cond.instanceMethod yJx4a65c_elementData_915e3, Cond.selects RJx4a65c yJx4a65c_elementData_915e3 yJx4a65c_elementData_915e3, Cond.code yJx4a65c_elementData_915e3 cJx4a65c_elementData_915e3 2 (some (.object "java/lang/Object")), Cond.fieldLink RJx4a65c 9 "java/util/ArrayList" "elementData" "[Ljava/lang/Object;"]
def wsX4_lastStep : List Cond := .code yX4_lastStep cX4_lastStep 2 (some .long) :: ((wsX4_lastStep_r1 ++ wsX4_lastStep_r2) ++ wsX20 ++ wsX40 ++ wsJx4a65c0)
def wsX3_readCountWithin : List Cond := .code yX3_readCountWithin cX3_readCountWithin 8 (some .long) :: ([.fieldLink RX3 23 "TraceBook$Reader" "place" "I", .fieldLink RX3 27 "TraceBook$Reader" "fault" "I", .methodLink RX3 45 yX3_readCount, .instanceMethod yX3_readCount, .selects RX3 yX3_readCount yX3_readCount, .initialized RX3, .code yX3_readCount cX3_readCount 7 (some .long), .constantLong RX3 120 (-1), .fieldLink RX3 9 "TraceBook$Reader" "tape" "LTraceBook$Bytes;", .constantLong RX3 124 (127), .constantLong RX3 61 (4611686018427387903), .methodLink RX3 122 yX0_get, .instanceMethod yX0_get, .selects RX0 yX0_get yX0_get, .initialized RX0, .code yX0_get cX0_get 2 (some .int), .fieldLink RX0 15 "TraceBook$Bytes" "length" "I", .fieldLink RX0 9 "TraceBook$Bytes" "kept" "[B"] ++ wsX30 ++ wsX00)
def wsX5_has : List Cond := .code yX5_has cX5_has 2 (some .boolean) :: ([.fieldLink RX5 15 "TraceBook$Wires" "count" "I", .fieldLink RX5 9 "TraceBook$Wires" "widths" "[I"] ++ wsX50)
def wsX5_widthOf : List Cond := .code yX5_widthOf cX5_widthOf 2 (some .int) :: ([.fieldLink RX5 9 "TraceBook$Wires" "widths" "[I", .methodLink RX5 19 yX5_has, .instanceMethod yX5_has, .selects RX5 yX5_has yX5_has, .initialized RX5, .code yX5_has cX5_has 2 (some .boolean), .fieldLink RX5 15 "TraceBook$Wires" "count" "I"] ++ wsX50)
def wsX4_valueOf : List Cond := .code yX4_valueOf cX4_valueOf 4 (some .int) :: ([.fieldLink RX4 25 "TraceBook$Row" "values" "[B"] ++ wsX40)
def wsJx4a65c_add_72be8_r1 : List Cond := [Cond.fieldLink RJx4a65c 48 "java/util/ArrayList" "size" "I", Cond.methodLink RJx4a65c 129 yJx4a65c_grow_d5877, Cond.instanceMethod yJx4a65c_grow_d5877, Cond.selects RJx4a65c yJx4a65c_grow_d5877 yJx4a65c_grow_d5877, Cond.initialized RJx4a65c, Cond.code yJx4a65c_grow_d5877 cJx4a65c_grow_d5877 1 (some (.array (.object "java/lang/Object"))), Cond.methodLink RJx4a65c 69 yJx4a65c_grow_92f84, Cond.instanceMethod yJx4a65c_grow_92f84, Cond.selects RJx4a65c yJx4a65c_grow_92f84 yJx4a65c_grow_92f84, Cond.code yJx4a65c_grow_92f84 cJx4a65c_grow_92f84 4 (some (.array (.object "java/lang/Object"))), Cond.fieldLink RJx4a65c 9 "java/util/ArrayList" "elementData" "[Ljava/lang/Object;", Cond.fieldLink RJx4a65c 39 "java/util/ArrayList" "DEFAULTCAPACITY_EMPTY_ELEMENTDATA" "[Ljava/lang/Object;", Cond.methodLink RJx4a65c 79 Lib.Math.max.name, Cond.static Lib.Math.max.name, Cond.initialized "java/lang/Math", Cond.code Lib.Math.max.name Lib.Math.max.code 2 (some .int), Cond.classLink RJx4a65c 7 "java/lang/Object", Cond.methodLink RJx4a65c 73 yJ8_newLength_cabcc, Cond.static yJ8_newLength_cabcc, Cond.initialized RJ8, Cond.code yJ8_newLength_cabcc cJ8_newLength_cabcc 4 (some .int), Cond.methodLink RJ8 194 Lib.Math.max.name, Cond.constant RJ8 200 (2147483639), Cond.methodLink RJ8 201 yJ8_hugeLength_7cf53]
def wsJx4a65c_add_72be8_r2 : List Cond := [Cond.static yJ8_hugeLength_7cf53, Cond.code yJ8_hugeLength_7cf53 cJ8_hugeLength_7cf53 3 (some .int), Cond.methodLink RJx4a65c 66 yJ7_copyOf_1904c, Cond.static yJ7_copyOf_1904c, Cond.initialized RJ7, Cond.code yJ7_copyOf_1904c cJ7_copyOf_1904c 2 (some (.array (.object "java/lang/Object"))), Cond.methodLink RJ7 86 ⟨"java/lang/Object", "getClass", "()Ljava/lang/Class;"⟩, Cond.selects "[Ljava/lang/Object;" ⟨"java/lang/Object", "getClass", "()Ljava/lang/Class;"⟩ ⟨"java/lang/Object", "getClass", "()Ljava/lang/Class;"⟩, Cond.instanceMethod ⟨"java/lang/Object", "getClass", "()Ljava/lang/Class;"⟩, Cond.native ⟨"java/lang/Object", "getClass", "()Ljava/lang/Class;"⟩, Cond.methodLink RJ7 300 yJ7_copyOf_6403c, Cond.static yJ7_copyOf_6403c, Cond.code yJ7_copyOf_6403c cJ7_copyOf_6403c 4 (some (.array (.object "java/lang/Object"))), Cond.classLink RJ7 110 "[Ljava/lang/Object;", Cond.classLink RJ7 2 "java/lang/Object", Cond.methodLink RJ7 304 Lib.Math.min.name, Cond.static Lib.Math.min.name, Cond.code Lib.Math.min.name Lib.Math.min.code 2 (some .int), Cond.methodLink RJ7 150 arraycopyName, Cond.native arraycopyName, Cond.static arraycopyName, Cond.initialized "java/lang/System"]
def wsJx4a65c_add_72be8 : List Cond := .code yJx4a65c_add_72be8 cJx4a65c_add_72be8 4 none :: ((wsJx4a65c_add_72be8_r1 ++ wsJx4a65c_add_72be8_r2) ++ wsJx4a65c0)
def wsJx4a65c_add_9ea2d_r1 : List Cond := [Cond.fieldLink RJx4a65c 63 "java/util/ArrayList" "modCount" "I", Cond.sameField "java/util/ArrayList" "java/util/AbstractList" "modCount" "I", Cond.fieldLink RJx4a65c 9 "java/util/ArrayList" "elementData" "[Ljava/lang/Object;", Cond.fieldLink RJx4a65c 48 "java/util/ArrayList" "size" "I", Cond.methodLink RJx4a65c 131 yJx4a65c_add_72be8, Cond.instanceMethod yJx4a65c_add_72be8, Cond.selects RJx4a65c yJx4a65c_add_72be8 yJx4a65c_add_72be8, Cond.initialized RJx4a65c, Cond.code yJx4a65c_add_72be8 cJx4a65c_add_72be8 4 none, Cond.methodLink RJx4a65c 129 yJx4a65c_grow_d5877, Cond.instanceMethod yJx4a65c_grow_d5877, Cond.selects RJx4a65c yJx4a65c_grow_d5877 yJx4a65c_grow_d5877, Cond.code yJx4a65c_grow_d5877 cJx4a65c_grow_d5877 1 (some (.array (.object "java/lang/Object"))), Cond.methodLink RJx4a65c 69 yJx4a65c_grow_92f84, Cond.instanceMethod yJx4a65c_grow_92f84, Cond.selects RJx4a65c yJx4a65c_grow_92f84 yJx4a65c_grow_92f84, Cond.code yJx4a65c_grow_92f84 cJx4a65c_grow_92f84 4 (some (.array (.object "java/lang/Object"))), Cond.fieldLink RJx4a65c 39 "java/util/ArrayList" "DEFAULTCAPACITY_EMPTY_ELEMENTDATA" "[Ljava/lang/Object;", Cond.methodLink RJx4a65c 79 Lib.Math.max.name, Cond.static Lib.Math.max.name, Cond.initialized "java/lang/Math", Cond.code Lib.Math.max.name Lib.Math.max.code 2 (some .int), Cond.classLink RJx4a65c 7 "java/lang/Object", Cond.methodLink RJx4a65c 73 yJ8_newLength_cabcc]
def wsJx4a65c_add_9ea2d_r2 : List Cond := [Cond.static yJ8_newLength_cabcc, Cond.initialized RJ8, Cond.code yJ8_newLength_cabcc cJ8_newLength_cabcc 4 (some .int), Cond.methodLink RJ8 194 Lib.Math.max.name, Cond.constant RJ8 200 (2147483639), Cond.methodLink RJ8 201 yJ8_hugeLength_7cf53, Cond.static yJ8_hugeLength_7cf53, Cond.code yJ8_hugeLength_7cf53 cJ8_hugeLength_7cf53 3 (some .int), Cond.methodLink RJx4a65c 66 yJ7_copyOf_1904c, Cond.static yJ7_copyOf_1904c, Cond.initialized RJ7, Cond.code yJ7_copyOf_1904c cJ7_copyOf_1904c 2 (some (.array (.object "java/lang/Object"))), Cond.methodLink RJ7 86 ⟨"java/lang/Object", "getClass", "()Ljava/lang/Class;"⟩, Cond.selects "[Ljava/lang/Object;" ⟨"java/lang/Object", "getClass", "()Ljava/lang/Class;"⟩ ⟨"java/lang/Object", "getClass", "()Ljava/lang/Class;"⟩, Cond.instanceMethod ⟨"java/lang/Object", "getClass", "()Ljava/lang/Class;"⟩, Cond.native ⟨"java/lang/Object", "getClass", "()Ljava/lang/Class;"⟩, Cond.methodLink RJ7 300 yJ7_copyOf_6403c, Cond.static yJ7_copyOf_6403c, Cond.code yJ7_copyOf_6403c cJ7_copyOf_6403c 4 (some (.array (.object "java/lang/Object"))), Cond.classLink RJ7 110 "[Ljava/lang/Object;", Cond.classLink RJ7 2 "java/lang/Object", Cond.methodLink RJ7 304 Lib.Math.min.name, Cond.static Lib.Math.min.name, Cond.code Lib.Math.min.name Lib.Math.min.code 2 (some .int)]
def wsJx4a65c_add_9ea2d_r3 : List Cond := [Cond.methodLink RJ7 150 arraycopyName, Cond.native arraycopyName, Cond.static arraycopyName, Cond.initialized "java/lang/System"]
def wsJx4a65c_add_9ea2d : List Cond := .code yJx4a65c_add_9ea2d cJx4a65c_add_9ea2d 2 (some .boolean) :: ((wsJx4a65c_add_9ea2d_r1 ++ (wsJx4a65c_add_9ea2d_r2 ++ wsJx4a65c_add_9ea2d_r3)) ++ wsJx4a65c0)
def wsX3_readChange_r1 : List Cond := [Cond.classLink RX3 90 "TraceBook$Change", Cond.fieldLink RX3 15 "TraceBook$Reader" "wires" "LTraceBook$Wires;", Cond.fieldLink RX3 23 "TraceBook$Reader" "place" "I", Cond.fieldLink RX3 27 "TraceBook$Reader" "fault" "I", Cond.constantLong RX3 103 (15), Cond.fieldLink RX3 19 "TraceBook$Reader" "row" "LTraceBook$Row;", Cond.classLink RX3 90 RX1, Cond.instantiable RX1 4, Cond.initialized RX1, Cond.methodLink RX3 76 yJx4a65c_isEmpty_aae02, Cond.instanceMethod yJx4a65c_isEmpty_aae02, Cond.selects RJx4a65c yJx4a65c_isEmpty_aae02 yJx4a65c_isEmpty_aae02, Cond.initialized RJx4a65c, Cond.code yJx4a65c_isEmpty_aae02 cJx4a65c_isEmpty_aae02 1 (some .boolean), Cond.fieldLink RJx4a65c 48 "java/util/ArrayList" "size" "I", Cond.methodLink RX3 82 yJx4a65c_size_8abf5, Cond.instanceMethod yJx4a65c_size_8abf5, Cond.selects RJx4a65c yJx4a65c_size_8abf5 yJx4a65c_size_8abf5, Cond.code yJx4a65c_size_8abf5 cJx4a65c_size_8abf5 1 (some .int), Cond.methodLink RX3 86 yJx4a65c_get_915e3, Cond.instanceMethod yJx4a65c_get_915e3, Cond.selects RJx4a65c yJx4a65c_get_915e3 yJx4a65c_get_915e3, Cond.code yJx4a65c_get_915e3 cJx4a65c_get_915e3 2 (some (.object "java/lang/Object")), Cond.methodLink RJx4a65c 118 yJ15_checkIndex_7cf53]
def wsX3_readChange_r2 : List Cond := [Cond.static yJ15_checkIndex_7cf53, Cond.initialized RJ15, Cond.code yJ15_checkIndex_7cf53 cJ15_checkIndex_7cf53 2 (some .int), Cond.methodLink RJ15 105 yJ3_checkIndex_8e157, Cond.static yJ3_checkIndex_8e157, Cond.initialized RJ3, Cond.code yJ3_checkIndex_8e157 cJ3_checkIndex_8e157 3 (some .int), Cond.methodLink RJx4a65c 123 yJx4a65c_elementData_915e3, Cond.instanceMethod yJx4a65c_elementData_915e3, Cond.selects RJx4a65c yJx4a65c_elementData_915e3 yJx4a65c_elementData_915e3, Cond.code yJx4a65c_elementData_915e3 cJx4a65c_elementData_915e3 2 (some (.object "java/lang/Object")), Cond.fieldLink RJx4a65c 9 "java/util/ArrayList" "elementData" "[Ljava/lang/Object;", Cond.methodLink RX3 57 yX3_readCountWithin, Cond.instanceMethod yX3_readCountWithin, Cond.selects RX3 yX3_readCountWithin yX3_readCountWithin, Cond.initialized RX3, Cond.code yX3_readCountWithin cX3_readCountWithin 8 (some .long), Cond.methodLink RX3 45 yX3_readCount, Cond.instanceMethod yX3_readCount, Cond.selects RX3 yX3_readCount yX3_readCount, Cond.code yX3_readCount cX3_readCount 7 (some .long), Cond.constantLong RX3 120 (-1), Cond.fieldLink RX3 9 "TraceBook$Reader" "tape" "LTraceBook$Bytes;", Cond.constantLong RX3 124 (127)]
def wsX3_readChange_r3 : List Cond := [Cond.constantLong RX3 61 (4611686018427387903), Cond.methodLink RX3 122 yX0_get, Cond.instanceMethod yX0_get, Cond.selects RX0 yX0_get yX0_get, Cond.initialized RX0, Cond.code yX0_get cX0_get 2 (some .int), Cond.fieldLink RX0 15 "TraceBook$Bytes" "length" "I", Cond.fieldLink RX0 9 "TraceBook$Bytes" "kept" "[B", Cond.methodLink RX3 105 yX5_widthOf, Cond.instanceMethod yX5_widthOf, Cond.selects RX5 yX5_widthOf yX5_widthOf, Cond.initialized RX5, Cond.code yX5_widthOf cX5_widthOf 2 (some .int), Cond.fieldLink RX5 9 "TraceBook$Wires" "widths" "[I", Cond.methodLink RX5 19 yX5_has, Cond.instanceMethod yX5_has, Cond.selects RX5 yX5_has yX5_has, Cond.code yX5_has cX5_has 2 (some .boolean), Cond.fieldLink RX5 15 "TraceBook$Wires" "count" "I", Cond.methodLink RX3 109 yX4_valueOf, Cond.instanceMethod yX4_valueOf, Cond.selects RX4 yX4_valueOf yX4_valueOf, Cond.initialized RX4, Cond.code yX4_valueOf cX4_valueOf 4 (some .int)]
def wsX3_readChange_r4 : List Cond := [Cond.fieldLink RX4 25 "TraceBook$Row" "values" "[B", Cond.methodLink RX3 113 yX1_init, Cond.instanceMethod yX1_init, Cond.code yX1_init cX1_init 5 none, Cond.methodLink RX1 1 objectInit, Cond.instanceMethod objectInit, Cond.code objectInit ⟨#[0xb1]⟩ 1 none, Cond.fieldLink RX1 7 "TraceBook$Change" "wire" "I", Cond.fieldLink RX1 13 "TraceBook$Change" "element" "I", Cond.fieldLink RX1 16 "TraceBook$Change" "value" "I", Cond.fieldLink RX1 19 "TraceBook$Change" "before" "I", Cond.methodLink RX3 116 yJx4a65c_add_9ea2d, Cond.instanceMethod yJx4a65c_add_9ea2d, Cond.selects RJx4a65c yJx4a65c_add_9ea2d yJx4a65c_add_9ea2d, Cond.code yJx4a65c_add_9ea2d cJx4a65c_add_9ea2d 2 (some .boolean), Cond.fieldLink RJx4a65c 63 "java/util/ArrayList" "modCount" "I", Cond.sameField "java/util/ArrayList" "java/util/AbstractList" "modCount" "I", Cond.methodLink RJx4a65c 131 yJx4a65c_add_72be8, Cond.instanceMethod yJx4a65c_add_72be8, Cond.selects RJx4a65c yJx4a65c_add_72be8 yJx4a65c_add_72be8, Cond.code yJx4a65c_add_72be8 cJx4a65c_add_72be8 4 none, Cond.methodLink RJx4a65c 129 yJx4a65c_grow_d5877, Cond.instanceMethod yJx4a65c_grow_d5877, Cond.selects RJx4a65c yJx4a65c_grow_d5877 yJx4a65c_grow_d5877]
def wsX3_readChange_r5 : List Cond := [Cond.code yJx4a65c_grow_d5877 cJx4a65c_grow_d5877 1 (some (.array (.object "java/lang/Object"))), Cond.methodLink RJx4a65c 69 yJx4a65c_grow_92f84, Cond.instanceMethod yJx4a65c_grow_92f84, Cond.selects RJx4a65c yJx4a65c_grow_92f84 yJx4a65c_grow_92f84, Cond.code yJx4a65c_grow_92f84 cJx4a65c_grow_92f84 4 (some (.array (.object "java/lang/Object"))), Cond.fieldLink RJx4a65c 39 "java/util/ArrayList" "DEFAULTCAPACITY_EMPTY_ELEMENTDATA" "[Ljava/lang/Object;", Cond.methodLink RJx4a65c 79 Lib.Math.max.name, Cond.static Lib.Math.max.name, Cond.initialized "java/lang/Math", Cond.code Lib.Math.max.name Lib.Math.max.code 2 (some .int), Cond.classLink RJx4a65c 7 "java/lang/Object", Cond.methodLink RJx4a65c 73 yJ8_newLength_cabcc, Cond.static yJ8_newLength_cabcc, Cond.initialized RJ8, Cond.code yJ8_newLength_cabcc cJ8_newLength_cabcc 4 (some .int), Cond.methodLink RJ8 194 Lib.Math.max.name, Cond.constant RJ8 200 (2147483639), Cond.methodLink RJ8 201 yJ8_hugeLength_7cf53, Cond.static yJ8_hugeLength_7cf53, Cond.code yJ8_hugeLength_7cf53 cJ8_hugeLength_7cf53 3 (some .int), Cond.methodLink RJx4a65c 66 yJ7_copyOf_1904c, Cond.static yJ7_copyOf_1904c, Cond.initialized RJ7, Cond.code yJ7_copyOf_1904c cJ7_copyOf_1904c 2 (some (.array (.object "java/lang/Object")))]
def wsX3_readChange_r6 : List Cond := [Cond.methodLink RJ7 86 ⟨"java/lang/Object", "getClass", "()Ljava/lang/Class;"⟩, Cond.selects "[Ljava/lang/Object;" ⟨"java/lang/Object", "getClass", "()Ljava/lang/Class;"⟩ ⟨"java/lang/Object", "getClass", "()Ljava/lang/Class;"⟩, Cond.instanceMethod ⟨"java/lang/Object", "getClass", "()Ljava/lang/Class;"⟩, Cond.native ⟨"java/lang/Object", "getClass", "()Ljava/lang/Class;"⟩, Cond.methodLink RJ7 300 yJ7_copyOf_6403c, Cond.static yJ7_copyOf_6403c, Cond.code yJ7_copyOf_6403c cJ7_copyOf_6403c 4 (some (.array (.object "java/lang/Object"))), Cond.classLink RJ7 110 "[Ljava/lang/Object;", Cond.classLink RJ7 2 "java/lang/Object", Cond.methodLink RJ7 304 Lib.Math.min.name, Cond.static Lib.Math.min.name, Cond.code Lib.Math.min.name Lib.Math.min.code 2 (some .int), Cond.methodLink RJ7 150 arraycopyName, Cond.native arraycopyName, Cond.static arraycopyName, Cond.initialized "java/lang/System"]
def wsX3_readChange : List Cond := .code yX3_readChange cX3_readChange 16 none :: ((wsX3_readChange_r1 ++ (wsX3_readChange_r2 ++ (wsX3_readChange_r3 ++ (wsX3_readChange_r4 ++ (wsX3_readChange_r5 ++ wsX3_readChange_r6))))) ++ wsX10 ++ wsX30 ++ wsX50 ++ wsJx4a65c0 ++ wsX00 ++ wsX40)
def wsX3_readMoment_r1 : List Cond := [Cond.fieldLink RX3 23 "TraceBook$Reader" "place" "I", Cond.fieldLink RX3 27 "TraceBook$Reader" "fault" "I", Cond.fieldLink RX3 19 "TraceBook$Reader" "row" "LTraceBook$Row;", Cond.constantLong RX3 55 (1152921504606846975), Cond.constantLong RX3 61 (4611686018427387903), Cond.classLink RX3 63 RX2, Cond.instantiable RX2 4, Cond.initialized RX2, Cond.methodLink RX3 45 yX3_readCount, Cond.instanceMethod yX3_readCount, Cond.selects RX3 yX3_readCount yX3_readCount, Cond.initialized RX3, Cond.code yX3_readCount cX3_readCount 7 (some .long), Cond.constantLong RX3 120 (-1), Cond.fieldLink RX3 9 "TraceBook$Reader" "tape" "LTraceBook$Bytes;", Cond.constantLong RX3 124 (127), Cond.methodLink RX3 122 yX0_get, Cond.instanceMethod yX0_get, Cond.selects RX0 yX0_get yX0_get, Cond.initialized RX0, Cond.code yX0_get cX0_get 2 (some .int), Cond.fieldLink RX0 15 "TraceBook$Bytes" "length" "I", Cond.fieldLink RX0 9 "TraceBook$Bytes" "kept" "[B", Cond.methodLink RX3 49 yX4_lastTime]
def wsX3_readMoment_r2 : List Cond := [Cond.instanceMethod yX4_lastTime, Cond.selects RX4 yX4_lastTime yX4_lastTime, Cond.initialized RX4, Cond.code yX4_lastTime cX4_lastTime 2 (some .long), Cond.methodLink RX4 56 yX4_lastMoment, Cond.instanceMethod yX4_lastMoment, Cond.selects RX4 yX4_lastMoment yX4_lastMoment, Cond.code yX4_lastMoment cX4_lastMoment 1 (some (.object "TraceBook$Moment")), Cond.fieldLink RX4 21 "TraceBook$Row" "moments" "Ljava/util/ArrayList;", Cond.classLink RX4 54 "TraceBook$Moment", Cond.methodLink RX4 42 yJx4a65c_isEmpty_aae02, Cond.instanceMethod yJx4a65c_isEmpty_aae02, Cond.selects RJx4a65c yJx4a65c_isEmpty_aae02 yJx4a65c_isEmpty_aae02, Cond.initialized RJx4a65c, Cond.code yJx4a65c_isEmpty_aae02 cJx4a65c_isEmpty_aae02 1 (some .boolean), Cond.fieldLink RJx4a65c 48 "java/util/ArrayList" "size" "I", Cond.methodLink RX4 46 yJx4a65c_size_8abf5, Cond.instanceMethod yJx4a65c_size_8abf5, Cond.selects RJx4a65c yJx4a65c_size_8abf5 yJx4a65c_size_8abf5, Cond.code yJx4a65c_size_8abf5 cJx4a65c_size_8abf5 1 (some .int), Cond.methodLink RX4 50 yJx4a65c_get_915e3, Cond.instanceMethod yJx4a65c_get_915e3, Cond.selects RJx4a65c yJx4a65c_get_915e3 yJx4a65c_get_915e3, Cond.code yJx4a65c_get_915e3 cJx4a65c_get_915e3 2 (some (.object "java/lang/Object"))]
def wsX3_readMoment_r3 : List Cond := [Cond.methodLink RJx4a65c 118 yJ15_checkIndex_7cf53, Cond.static yJ15_checkIndex_7cf53, Cond.initialized RJ15, Cond.code yJ15_checkIndex_7cf53 cJ15_checkIndex_7cf53 2 (some .int), Cond.methodLink RJ15 105 yJ3_checkIndex_8e157, Cond.static yJ3_checkIndex_8e157, Cond.initialized RJ3, Cond.code yJ3_checkIndex_8e157 cJ3_checkIndex_8e157 3 (some .int), Cond.methodLink RJx4a65c 123 yJx4a65c_elementData_915e3, Cond.instanceMethod yJx4a65c_elementData_915e3, Cond.selects RJx4a65c yJx4a65c_elementData_915e3 yJx4a65c_elementData_915e3, Cond.code yJx4a65c_elementData_915e3 cJx4a65c_elementData_915e3 2 (some (.object "java/lang/Object")), Cond.fieldLink RJx4a65c 9 "java/util/ArrayList" "elementData" "[Ljava/lang/Object;", Cond.methodLink RX3 52 yX4_lastStep, Cond.instanceMethod yX4_lastStep, Cond.selects RX4 yX4_lastStep yX4_lastStep, Cond.code yX4_lastStep cX4_lastStep 2 (some .long), Cond.constantLong RX4 64 (-1), Cond.methodLink RX3 57 yX3_readCountWithin, Cond.instanceMethod yX3_readCountWithin, Cond.selects RX3 yX3_readCountWithin yX3_readCountWithin, Cond.code yX3_readCountWithin cX3_readCountWithin 8 (some .long), Cond.methodLink RX3 65 yX2_init, Cond.instanceMethod yX2_init]
def wsX3_readMoment_r4 : List Cond := [Cond.code yX2_init cX2_init 5 none, Cond.methodLink RX2 3 objectInit, Cond.instanceMethod objectInit, Cond.code objectInit ⟨#[0xb1]⟩ 1 none, Cond.fieldLink RX2 9 "TraceBook$Moment" "time" "J", Cond.fieldLink RX2 15 "TraceBook$Moment" "step" "J", Cond.classLink RX2 18 RJx4a65c, Cond.instantiable RJx4a65c 3, Cond.fieldLink RX2 21 "TraceBook$Moment" "changes" "Ljava/util/ArrayList;", Cond.fieldLink RX2 25 "TraceBook$Moment" "place" "I", Cond.methodLink RX2 20 yJx4a65c_init_da8c8, Cond.instanceMethod yJx4a65c_init_da8c8, Cond.code yJx4a65c_init_da8c8 cJx4a65c_init_da8c8 1 none, Cond.fieldLink RJx4a65c 39 "java/util/ArrayList" "DEFAULTCAPACITY_EMPTY_ELEMENTDATA" "[Ljava/lang/Object;", Cond.methodLink RJx4a65c 1 yJxc12de_init_da8c8, Cond.instanceMethod yJxc12de_init_da8c8, Cond.initialized RJxc12de, Cond.code yJxc12de_init_da8c8 cJxc12de_init_da8c8 1 none, Cond.fieldLink RJxc12de 7 "java/util/AbstractList" "modCount" "I", Cond.methodLink RJxc12de 1 yJxa1e45_init_da8c8, Cond.instanceMethod yJxa1e45_init_da8c8, Cond.initialized RJxa1e45, Cond.code yJxa1e45_init_da8c8 cJxa1e45_init_da8c8 1 none, Cond.methodLink RJxa1e45 1 objectInit]
def wsX3_readMoment_r5 : List Cond := [Cond.methodLink RX3 72 yX3_readChange, Cond.instanceMethod yX3_readChange, Cond.selects RX3 yX3_readChange yX3_readChange, Cond.code yX3_readChange cX3_readChange 16 none, Cond.classLink RX3 90 "TraceBook$Change", Cond.fieldLink RX3 15 "TraceBook$Reader" "wires" "LTraceBook$Wires;", Cond.constantLong RX3 103 (15), Cond.classLink RX3 90 RX1, Cond.instantiable RX1 4, Cond.initialized RX1, Cond.methodLink RX3 76 yJx4a65c_isEmpty_aae02, Cond.methodLink RX3 82 yJx4a65c_size_8abf5, Cond.methodLink RX3 86 yJx4a65c_get_915e3, Cond.methodLink RX3 105 yX5_widthOf, Cond.instanceMethod yX5_widthOf, Cond.selects RX5 yX5_widthOf yX5_widthOf, Cond.initialized RX5, Cond.code yX5_widthOf cX5_widthOf 2 (some .int), Cond.fieldLink RX5 9 "TraceBook$Wires" "widths" "[I", Cond.methodLink RX5 19 yX5_has, Cond.instanceMethod yX5_has, Cond.selects RX5 yX5_has yX5_has, Cond.code yX5_has cX5_has 2 (some .boolean), Cond.fieldLink RX5 15 "TraceBook$Wires" "count" "I"]
def wsX3_readMoment_r6 : List Cond := [Cond.methodLink RX3 109 yX4_valueOf, Cond.instanceMethod yX4_valueOf, Cond.selects RX4 yX4_valueOf yX4_valueOf, Cond.code yX4_valueOf cX4_valueOf 4 (some .int), Cond.fieldLink RX4 25 "TraceBook$Row" "values" "[B", Cond.methodLink RX3 113 yX1_init, Cond.instanceMethod yX1_init, Cond.code yX1_init cX1_init 5 none, Cond.methodLink RX1 1 objectInit, Cond.fieldLink RX1 7 "TraceBook$Change" "wire" "I", Cond.fieldLink RX1 13 "TraceBook$Change" "element" "I", Cond.fieldLink RX1 16 "TraceBook$Change" "value" "I", Cond.fieldLink RX1 19 "TraceBook$Change" "before" "I", Cond.methodLink RX3 116 yJx4a65c_add_9ea2d, Cond.instanceMethod yJx4a65c_add_9ea2d, Cond.selects RJx4a65c yJx4a65c_add_9ea2d yJx4a65c_add_9ea2d, Cond.code yJx4a65c_add_9ea2d cJx4a65c_add_9ea2d 2 (some .boolean), Cond.fieldLink RJx4a65c 63 "java/util/ArrayList" "modCount" "I", Cond.sameField "java/util/ArrayList" "java/util/AbstractList" "modCount" "I", Cond.methodLink RJx4a65c 131 yJx4a65c_add_72be8, Cond.instanceMethod yJx4a65c_add_72be8, Cond.selects RJx4a65c yJx4a65c_add_72be8 yJx4a65c_add_72be8, Cond.code yJx4a65c_add_72be8 cJx4a65c_add_72be8 4 none, Cond.methodLink RJx4a65c 129 yJx4a65c_grow_d5877]
def wsX3_readMoment_r7 : List Cond := [Cond.instanceMethod yJx4a65c_grow_d5877, Cond.selects RJx4a65c yJx4a65c_grow_d5877 yJx4a65c_grow_d5877, Cond.code yJx4a65c_grow_d5877 cJx4a65c_grow_d5877 1 (some (.array (.object "java/lang/Object"))), Cond.methodLink RJx4a65c 69 yJx4a65c_grow_92f84, Cond.instanceMethod yJx4a65c_grow_92f84, Cond.selects RJx4a65c yJx4a65c_grow_92f84 yJx4a65c_grow_92f84, Cond.code yJx4a65c_grow_92f84 cJx4a65c_grow_92f84 4 (some (.array (.object "java/lang/Object"))), Cond.methodLink RJx4a65c 79 Lib.Math.max.name, Cond.static Lib.Math.max.name, Cond.initialized "java/lang/Math", Cond.code Lib.Math.max.name Lib.Math.max.code 2 (some .int), Cond.classLink RJx4a65c 7 "java/lang/Object", Cond.methodLink RJx4a65c 73 yJ8_newLength_cabcc, Cond.static yJ8_newLength_cabcc, Cond.initialized RJ8, Cond.code yJ8_newLength_cabcc cJ8_newLength_cabcc 4 (some .int), Cond.methodLink RJ8 194 Lib.Math.max.name, Cond.constant RJ8 200 (2147483639), Cond.methodLink RJ8 201 yJ8_hugeLength_7cf53, Cond.static yJ8_hugeLength_7cf53, Cond.code yJ8_hugeLength_7cf53 cJ8_hugeLength_7cf53 3 (some .int), Cond.methodLink RJx4a65c 66 yJ7_copyOf_1904c, Cond.static yJ7_copyOf_1904c, Cond.initialized RJ7]
def wsX3_readMoment_r8 : List Cond := [Cond.code yJ7_copyOf_1904c cJ7_copyOf_1904c 2 (some (.array (.object "java/lang/Object"))), Cond.methodLink RJ7 86 ⟨"java/lang/Object", "getClass", "()Ljava/lang/Class;"⟩, Cond.selects "[Ljava/lang/Object;" ⟨"java/lang/Object", "getClass", "()Ljava/lang/Class;"⟩ ⟨"java/lang/Object", "getClass", "()Ljava/lang/Class;"⟩, Cond.instanceMethod ⟨"java/lang/Object", "getClass", "()Ljava/lang/Class;"⟩, Cond.native ⟨"java/lang/Object", "getClass", "()Ljava/lang/Class;"⟩, Cond.methodLink RJ7 300 yJ7_copyOf_6403c, Cond.static yJ7_copyOf_6403c, Cond.code yJ7_copyOf_6403c cJ7_copyOf_6403c 4 (some (.array (.object "java/lang/Object"))), Cond.classLink RJ7 110 "[Ljava/lang/Object;", Cond.classLink RJ7 2 "java/lang/Object", Cond.methodLink RJ7 304 Lib.Math.min.name, Cond.static Lib.Math.min.name, Cond.code Lib.Math.min.name Lib.Math.min.code 2 (some .int), Cond.methodLink RJ7 150 arraycopyName, Cond.native arraycopyName, Cond.static arraycopyName, Cond.initialized "java/lang/System"]
def wsX3_readMoment : List Cond := .code yX3_readMoment cX3_readMoment 16 (some (.object "TraceBook$Moment")) :: ((wsX3_readMoment_r1 ++ (wsX3_readMoment_r2 ++ (wsX3_readMoment_r3 ++ (wsX3_readMoment_r4 ++ (wsX3_readMoment_r5 ++ (wsX3_readMoment_r6 ++ (wsX3_readMoment_r7 ++ wsX3_readMoment_r8))))))) ++ wsX30 ++ wsX20 ++ wsX00 ++ wsX40 ++ wsJx4a65c0 ++ wsX10 ++ wsX50)
def wsX4_writeMoment_r1 : List Cond := [Cond.fieldLink RX4 12 "TraceBook$Row" "bytes" "LTraceBook$Bytes;", Cond.constantLong RX4 106 (2), Cond.classLink RX4 96 "TraceBook$Change", Cond.methodLink RX4 102 yX4_lastTime, Cond.instanceMethod yX4_lastTime, Cond.selects RX4 yX4_lastTime yX4_lastTime, Cond.initialized RX4, Cond.code yX4_lastTime cX4_lastTime 2 (some .long), Cond.methodLink RX4 56 yX4_lastMoment, Cond.instanceMethod yX4_lastMoment, Cond.selects RX4 yX4_lastMoment yX4_lastMoment, Cond.code yX4_lastMoment cX4_lastMoment 1 (some (.object "TraceBook$Moment")), Cond.fieldLink RX4 21 "TraceBook$Row" "moments" "Ljava/util/ArrayList;", Cond.classLink RX4 54 "TraceBook$Moment", Cond.methodLink RX4 42 yJx4a65c_isEmpty_aae02, Cond.instanceMethod yJx4a65c_isEmpty_aae02, Cond.selects RJx4a65c yJx4a65c_isEmpty_aae02 yJx4a65c_isEmpty_aae02, Cond.initialized RJx4a65c, Cond.code yJx4a65c_isEmpty_aae02 cJx4a65c_isEmpty_aae02 1 (some .boolean), Cond.fieldLink RJx4a65c 48 "java/util/ArrayList" "size" "I", Cond.methodLink RX4 46 yJx4a65c_size_8abf5, Cond.instanceMethod yJx4a65c_size_8abf5, Cond.selects RJx4a65c yJx4a65c_size_8abf5 yJx4a65c_size_8abf5, Cond.code yJx4a65c_size_8abf5 cJx4a65c_size_8abf5 1 (some .int)]
def wsX4_writeMoment_r2 : List Cond := [Cond.methodLink RX4 50 yJx4a65c_get_915e3, Cond.instanceMethod yJx4a65c_get_915e3, Cond.selects RJx4a65c yJx4a65c_get_915e3 yJx4a65c_get_915e3, Cond.code yJx4a65c_get_915e3 cJx4a65c_get_915e3 2 (some (.object "java/lang/Object")), Cond.methodLink RJx4a65c 118 yJ15_checkIndex_7cf53, Cond.static yJ15_checkIndex_7cf53, Cond.initialized RJ15, Cond.code yJ15_checkIndex_7cf53 cJ15_checkIndex_7cf53 2 (some .int), Cond.methodLink RJ15 105 yJ3_checkIndex_8e157, Cond.static yJ3_checkIndex_8e157, Cond.initialized RJ3, Cond.code yJ3_checkIndex_8e157 cJ3_checkIndex_8e157 3 (some .int), Cond.methodLink RJx4a65c 123 yJx4a65c_elementData_915e3, Cond.instanceMethod yJx4a65c_elementData_915e3, Cond.selects RJx4a65c yJx4a65c_elementData_915e3 yJx4a65c_elementData_915e3, Cond.code yJx4a65c_elementData_915e3 cJx4a65c_elementData_915e3 2 (some (.object "java/lang/Object")), Cond.fieldLink RJx4a65c 9 "java/util/ArrayList" "elementData" "[Ljava/lang/Object;", Cond.methodLink RX4 108 yX4_lastStep, Cond.instanceMethod yX4_lastStep, Cond.selects RX4 yX4_lastStep yX4_lastStep, Cond.code yX4_lastStep cX4_lastStep 2 (some .long), Cond.constantLong RX4 64 (-1), Cond.methodLink RX4 111 yX0_addCount, Cond.instanceMethod yX0_addCount]
def wsX4_writeMoment_r3 : List Cond := [Cond.selects RX0 yX0_addCount yX0_addCount, Cond.initialized RX0, Cond.code yX0_addCount cX0_addCount 6 none, Cond.constantLong RX0 25 (127), Cond.methodLink RX0 27 yX0_add, Cond.instanceMethod yX0_add, Cond.selects RX0 yX0_add yX0_add, Cond.code yX0_add cX0_add 2 none, Cond.fieldLink RX0 15 "TraceBook$Bytes" "length" "I", Cond.fieldLink RX0 9 "TraceBook$Bytes" "kept" "[B", Cond.methodLink RX0 19 yJ7_copyOf_9075b, Cond.static yJ7_copyOf_9075b, Cond.initialized RJ7, Cond.code yJ7_copyOf_9075b cJ7_copyOf_9075b 3 (some (.array .byte)), Cond.methodLink RJ7 310 ⟨"[B", "clone", "()Ljava/lang/Object;"⟩, Cond.sameMethod "[B" "java/lang/Object" "clone" "()Ljava/lang/Object;", Cond.native ⟨"java/lang/Object", "clone", "()Ljava/lang/Object;"⟩, Cond.instanceMethod ⟨"java/lang/Object", "clone", "()Ljava/lang/Object;"⟩, Cond.selects "[B" ⟨"[B", "clone", "()Ljava/lang/Object;"⟩ ⟨"java/lang/Object", "clone", "()Ljava/lang/Object;"⟩, Cond.classLink RJ7 311 "[B", Cond.arrayClass .byte, Cond.methodLink RJ7 304 Lib.Math.min.name, Cond.static Lib.Math.min.name, Cond.initialized "java/lang/Math"]
def wsX4_writeMoment_r4 : List Cond := [Cond.code Lib.Math.min.name Lib.Math.min.code 2 (some .int), Cond.methodLink RJ7 150 arraycopyName, Cond.native arraycopyName, Cond.static arraycopyName, Cond.initialized "java/lang/System"]
def wsX4_writeMoment : List Cond := .code yX4_writeMoment cX4_writeMoment 7 none :: ((wsX4_writeMoment_r1 ++ (wsX4_writeMoment_r2 ++ (wsX4_writeMoment_r3 ++ wsX4_writeMoment_r4))) ++ wsX20 ++ wsX40 ++ wsX10 ++ wsJx4a65c0 ++ wsX00)
def wsX4_keepValue : List Cond := .code yX4_keepValue cX4_keepValue 3 none :: ([.fieldLink RX4 25 "TraceBook$Row" "values" "[B", .methodLink RX4 124 Lib.Math.max.name, .static Lib.Math.max.name, .initialized "java/lang/Math", .code Lib.Math.max.name Lib.Math.max.code 2 (some .int), .methodLink RX4 130 yJ7_copyOf_9075b, .static yJ7_copyOf_9075b, .initialized RJ7, .code yJ7_copyOf_9075b cJ7_copyOf_9075b 3 (some (.array .byte)), .methodLink RJ7 310 ⟨"[B", "clone", "()Ljava/lang/Object;"⟩, .sameMethod "[B" "java/lang/Object" "clone" "()Ljava/lang/Object;", .native ⟨"java/lang/Object", "clone", "()Ljava/lang/Object;"⟩, .instanceMethod ⟨"java/lang/Object", "clone", "()Ljava/lang/Object;"⟩, .selects "[B" ⟨"[B", "clone", "()Ljava/lang/Object;"⟩ ⟨"java/lang/Object", "clone", "()Ljava/lang/Object;"⟩, .classLink RJ7 311 "[B", .arrayClass .byte, .methodLink RJ7 304 Lib.Math.min.name, .static Lib.Math.min.name, .code Lib.Math.min.name Lib.Math.min.code 2 (some .int), .methodLink RJ7 150 arraycopyName, .native arraycopyName, .static arraycopyName, .initialized "java/lang/System"] ++ wsX10 ++ wsX40)
def wsX4_append_r1 : List Cond := [Cond.fieldLink RX4 12 "TraceBook$Row" "bytes" "LTraceBook$Bytes;", Cond.constant RX4 85 (60000), Cond.fieldLink RX4 21 "TraceBook$Row" "moments" "Ljava/util/ArrayList;", Cond.classLink RX4 96 "TraceBook$Change", Cond.methodLink RX4 81 yX4_writeMoment, Cond.instanceMethod yX4_writeMoment, Cond.selects RX4 yX4_writeMoment yX4_writeMoment, Cond.initialized RX4, Cond.code yX4_writeMoment cX4_writeMoment 7 none, Cond.constantLong RX4 106 (2), Cond.methodLink RX4 102 yX4_lastTime, Cond.instanceMethod yX4_lastTime, Cond.selects RX4 yX4_lastTime yX4_lastTime, Cond.code yX4_lastTime cX4_lastTime 2 (some .long), Cond.methodLink RX4 56 yX4_lastMoment, Cond.instanceMethod yX4_lastMoment, Cond.selects RX4 yX4_lastMoment yX4_lastMoment, Cond.code yX4_lastMoment cX4_lastMoment 1 (some (.object "TraceBook$Moment")), Cond.classLink RX4 54 "TraceBook$Moment", Cond.methodLink RX4 42 yJx4a65c_isEmpty_aae02, Cond.instanceMethod yJx4a65c_isEmpty_aae02, Cond.selects RJx4a65c yJx4a65c_isEmpty_aae02 yJx4a65c_isEmpty_aae02, Cond.initialized RJx4a65c, Cond.code yJx4a65c_isEmpty_aae02 cJx4a65c_isEmpty_aae02 1 (some .boolean)]
def wsX4_append_r2 : List Cond := [Cond.fieldLink RJx4a65c 48 "java/util/ArrayList" "size" "I", Cond.methodLink RX4 46 yJx4a65c_size_8abf5, Cond.instanceMethod yJx4a65c_size_8abf5, Cond.selects RJx4a65c yJx4a65c_size_8abf5 yJx4a65c_size_8abf5, Cond.code yJx4a65c_size_8abf5 cJx4a65c_size_8abf5 1 (some .int), Cond.methodLink RX4 50 yJx4a65c_get_915e3, Cond.instanceMethod yJx4a65c_get_915e3, Cond.selects RJx4a65c yJx4a65c_get_915e3 yJx4a65c_get_915e3, Cond.code yJx4a65c_get_915e3 cJx4a65c_get_915e3 2 (some (.object "java/lang/Object")), Cond.methodLink RJx4a65c 118 yJ15_checkIndex_7cf53, Cond.static yJ15_checkIndex_7cf53, Cond.initialized RJ15, Cond.code yJ15_checkIndex_7cf53 cJ15_checkIndex_7cf53 2 (some .int), Cond.methodLink RJ15 105 yJ3_checkIndex_8e157, Cond.static yJ3_checkIndex_8e157, Cond.initialized RJ3, Cond.code yJ3_checkIndex_8e157 cJ3_checkIndex_8e157 3 (some .int), Cond.methodLink RJx4a65c 123 yJx4a65c_elementData_915e3, Cond.instanceMethod yJx4a65c_elementData_915e3, Cond.selects RJx4a65c yJx4a65c_elementData_915e3 yJx4a65c_elementData_915e3, Cond.code yJx4a65c_elementData_915e3 cJx4a65c_elementData_915e3 2 (some (.object "java/lang/Object")), Cond.fieldLink RJx4a65c 9 "java/util/ArrayList" "elementData" "[Ljava/lang/Object;", Cond.methodLink RX4 108 yX4_lastStep, Cond.instanceMethod yX4_lastStep]
def wsX4_append_r3 : List Cond := [Cond.selects RX4 yX4_lastStep yX4_lastStep, Cond.code yX4_lastStep cX4_lastStep 2 (some .long), Cond.constantLong RX4 64 (-1), Cond.methodLink RX4 111 yX0_addCount, Cond.instanceMethod yX0_addCount, Cond.selects RX0 yX0_addCount yX0_addCount, Cond.initialized RX0, Cond.code yX0_addCount cX0_addCount 6 none, Cond.constantLong RX0 25 (127), Cond.methodLink RX0 27 yX0_add, Cond.instanceMethod yX0_add, Cond.selects RX0 yX0_add yX0_add, Cond.code yX0_add cX0_add 2 none, Cond.fieldLink RX0 15 "TraceBook$Bytes" "length" "I", Cond.fieldLink RX0 9 "TraceBook$Bytes" "kept" "[B", Cond.methodLink RX0 19 yJ7_copyOf_9075b, Cond.static yJ7_copyOf_9075b, Cond.initialized RJ7, Cond.code yJ7_copyOf_9075b cJ7_copyOf_9075b 3 (some (.array .byte)), Cond.methodLink RJ7 310 ⟨"[B", "clone", "()Ljava/lang/Object;"⟩, Cond.sameMethod "[B" "java/lang/Object" "clone" "()Ljava/lang/Object;", Cond.native ⟨"java/lang/Object", "clone", "()Ljava/lang/Object;"⟩, Cond.instanceMethod ⟨"java/lang/Object", "clone", "()Ljava/lang/Object;"⟩, Cond.selects "[B" ⟨"[B", "clone", "()Ljava/lang/Object;"⟩ ⟨"java/lang/Object", "clone", "()Ljava/lang/Object;"⟩]
def wsX4_append_r4 : List Cond := [Cond.classLink RJ7 311 "[B", Cond.arrayClass .byte, Cond.methodLink RJ7 304 Lib.Math.min.name, Cond.static Lib.Math.min.name, Cond.initialized "java/lang/Math", Cond.code Lib.Math.min.name Lib.Math.min.code 2 (some .int), Cond.methodLink RJ7 150 arraycopyName, Cond.native arraycopyName, Cond.static arraycopyName, Cond.initialized "java/lang/System", Cond.methodLink RX4 29 yX0_cut, Cond.instanceMethod yX0_cut, Cond.selects RX0 yX0_cut yX0_cut, Cond.code yX0_cut cX0_cut 2 none, Cond.methodLink RX4 89 yJx4a65c_add_9ea2d, Cond.instanceMethod yJx4a65c_add_9ea2d, Cond.selects RJx4a65c yJx4a65c_add_9ea2d yJx4a65c_add_9ea2d, Cond.code yJx4a65c_add_9ea2d cJx4a65c_add_9ea2d 2 (some .boolean), Cond.fieldLink RJx4a65c 63 "java/util/ArrayList" "modCount" "I", Cond.sameField "java/util/ArrayList" "java/util/AbstractList" "modCount" "I", Cond.methodLink RJx4a65c 131 yJx4a65c_add_72be8, Cond.instanceMethod yJx4a65c_add_72be8, Cond.selects RJx4a65c yJx4a65c_add_72be8 yJx4a65c_add_72be8, Cond.code yJx4a65c_add_72be8 cJx4a65c_add_72be8 4 none]
def wsX4_append_r5 : List Cond := [Cond.methodLink RJx4a65c 129 yJx4a65c_grow_d5877, Cond.instanceMethod yJx4a65c_grow_d5877, Cond.selects RJx4a65c yJx4a65c_grow_d5877 yJx4a65c_grow_d5877, Cond.code yJx4a65c_grow_d5877 cJx4a65c_grow_d5877 1 (some (.array (.object "java/lang/Object"))), Cond.methodLink RJx4a65c 69 yJx4a65c_grow_92f84, Cond.instanceMethod yJx4a65c_grow_92f84, Cond.selects RJx4a65c yJx4a65c_grow_92f84 yJx4a65c_grow_92f84, Cond.code yJx4a65c_grow_92f84 cJx4a65c_grow_92f84 4 (some (.array (.object "java/lang/Object"))), Cond.fieldLink RJx4a65c 39 "java/util/ArrayList" "DEFAULTCAPACITY_EMPTY_ELEMENTDATA" "[Ljava/lang/Object;", Cond.methodLink RJx4a65c 79 Lib.Math.max.name, Cond.static Lib.Math.max.name, Cond.code Lib.Math.max.name Lib.Math.max.code 2 (some .int), Cond.classLink RJx4a65c 7 "java/lang/Object", Cond.methodLink RJx4a65c 73 yJ8_newLength_cabcc, Cond.static yJ8_newLength_cabcc, Cond.initialized RJ8, Cond.code yJ8_newLength_cabcc cJ8_newLength_cabcc 4 (some .int), Cond.methodLink RJ8 194 Lib.Math.max.name, Cond.constant RJ8 200 (2147483639), Cond.methodLink RJ8 201 yJ8_hugeLength_7cf53, Cond.static yJ8_hugeLength_7cf53, Cond.code yJ8_hugeLength_7cf53 cJ8_hugeLength_7cf53 3 (some .int), Cond.methodLink RJx4a65c 66 yJ7_copyOf_1904c, Cond.static yJ7_copyOf_1904c]
def wsX4_append_r6 : List Cond := [Cond.code yJ7_copyOf_1904c cJ7_copyOf_1904c 2 (some (.array (.object "java/lang/Object"))), Cond.methodLink RJ7 86 ⟨"java/lang/Object", "getClass", "()Ljava/lang/Class;"⟩, Cond.selects "[Ljava/lang/Object;" ⟨"java/lang/Object", "getClass", "()Ljava/lang/Class;"⟩ ⟨"java/lang/Object", "getClass", "()Ljava/lang/Class;"⟩, Cond.instanceMethod ⟨"java/lang/Object", "getClass", "()Ljava/lang/Class;"⟩, Cond.native ⟨"java/lang/Object", "getClass", "()Ljava/lang/Class;"⟩, Cond.methodLink RJ7 300 yJ7_copyOf_6403c, Cond.static yJ7_copyOf_6403c, Cond.code yJ7_copyOf_6403c cJ7_copyOf_6403c 4 (some (.array (.object "java/lang/Object"))), Cond.classLink RJ7 110 "[Ljava/lang/Object;", Cond.classLink RJ7 2 "java/lang/Object", Cond.methodLink RX4 98 yX4_keepValue, Cond.instanceMethod yX4_keepValue, Cond.selects RX4 yX4_keepValue yX4_keepValue, Cond.code yX4_keepValue cX4_keepValue 3 none, Cond.fieldLink RX4 25 "TraceBook$Row" "values" "[B", Cond.methodLink RX4 124 Lib.Math.max.name, Cond.methodLink RX4 130 yJ7_copyOf_9075b]
def wsX4_append : List Cond := .code yX4_append cX4_append 4 (some .boolean) :: ((wsX4_append_r1 ++ (wsX4_append_r2 ++ (wsX4_append_r3 ++ (wsX4_append_r4 ++ (wsX4_append_r5 ++ wsX4_append_r6))))) ++ wsX40 ++ wsX00 ++ wsX20 ++ wsX10 ++ wsJx4a65c0)
def wsX3_readRow_r1 : List Cond := [Cond.fieldLink RX3 9 "TraceBook$Reader" "tape" "LTraceBook$Bytes;", Cond.fieldLink RX3 23 "TraceBook$Reader" "place" "I", Cond.fieldLink RX3 27 "TraceBook$Reader" "fault" "I", Cond.fieldLink RX3 19 "TraceBook$Reader" "row" "LTraceBook$Row;", Cond.methodLink RX3 35 yX3_readMoment, Cond.instanceMethod yX3_readMoment, Cond.selects RX3 yX3_readMoment yX3_readMoment, Cond.initialized RX3, Cond.code yX3_readMoment cX3_readMoment 16 (some (.object "TraceBook$Moment")), Cond.constantLong RX3 55 (1152921504606846975), Cond.constantLong RX3 61 (4611686018427387903), Cond.classLink RX3 63 RX2, Cond.instantiable RX2 4, Cond.initialized RX2, Cond.methodLink RX3 45 yX3_readCount, Cond.instanceMethod yX3_readCount, Cond.selects RX3 yX3_readCount yX3_readCount, Cond.code yX3_readCount cX3_readCount 7 (some .long), Cond.constantLong RX3 120 (-1), Cond.constantLong RX3 124 (127), Cond.methodLink RX3 122 yX0_get, Cond.instanceMethod yX0_get, Cond.selects RX0 yX0_get yX0_get, Cond.initialized RX0]
def wsX3_readRow_r2 : List Cond := [Cond.code yX0_get cX0_get 2 (some .int), Cond.fieldLink RX0 15 "TraceBook$Bytes" "length" "I", Cond.fieldLink RX0 9 "TraceBook$Bytes" "kept" "[B", Cond.methodLink RX3 49 yX4_lastTime, Cond.instanceMethod yX4_lastTime, Cond.selects RX4 yX4_lastTime yX4_lastTime, Cond.initialized RX4, Cond.code yX4_lastTime cX4_lastTime 2 (some .long), Cond.methodLink RX4 56 yX4_lastMoment, Cond.instanceMethod yX4_lastMoment, Cond.selects RX4 yX4_lastMoment yX4_lastMoment, Cond.code yX4_lastMoment cX4_lastMoment 1 (some (.object "TraceBook$Moment")), Cond.fieldLink RX4 21 "TraceBook$Row" "moments" "Ljava/util/ArrayList;", Cond.classLink RX4 54 "TraceBook$Moment", Cond.methodLink RX4 42 yJx4a65c_isEmpty_aae02, Cond.instanceMethod yJx4a65c_isEmpty_aae02, Cond.selects RJx4a65c yJx4a65c_isEmpty_aae02 yJx4a65c_isEmpty_aae02, Cond.initialized RJx4a65c, Cond.code yJx4a65c_isEmpty_aae02 cJx4a65c_isEmpty_aae02 1 (some .boolean), Cond.fieldLink RJx4a65c 48 "java/util/ArrayList" "size" "I", Cond.methodLink RX4 46 yJx4a65c_size_8abf5, Cond.instanceMethod yJx4a65c_size_8abf5, Cond.selects RJx4a65c yJx4a65c_size_8abf5 yJx4a65c_size_8abf5, Cond.code yJx4a65c_size_8abf5 cJx4a65c_size_8abf5 1 (some .int)]
def wsX3_readRow_r3 : List Cond := [Cond.methodLink RX4 50 yJx4a65c_get_915e3, Cond.instanceMethod yJx4a65c_get_915e3, Cond.selects RJx4a65c yJx4a65c_get_915e3 yJx4a65c_get_915e3, Cond.code yJx4a65c_get_915e3 cJx4a65c_get_915e3 2 (some (.object "java/lang/Object")), Cond.methodLink RJx4a65c 118 yJ15_checkIndex_7cf53, Cond.static yJ15_checkIndex_7cf53, Cond.initialized RJ15, Cond.code yJ15_checkIndex_7cf53 cJ15_checkIndex_7cf53 2 (some .int), Cond.methodLink RJ15 105 yJ3_checkIndex_8e157, Cond.static yJ3_checkIndex_8e157, Cond.initialized RJ3, Cond.code yJ3_checkIndex_8e157 cJ3_checkIndex_8e157 3 (some .int), Cond.methodLink RJx4a65c 123 yJx4a65c_elementData_915e3, Cond.instanceMethod yJx4a65c_elementData_915e3, Cond.selects RJx4a65c yJx4a65c_elementData_915e3 yJx4a65c_elementData_915e3, Cond.code yJx4a65c_elementData_915e3 cJx4a65c_elementData_915e3 2 (some (.object "java/lang/Object")), Cond.fieldLink RJx4a65c 9 "java/util/ArrayList" "elementData" "[Ljava/lang/Object;", Cond.methodLink RX3 52 yX4_lastStep, Cond.instanceMethod yX4_lastStep, Cond.selects RX4 yX4_lastStep yX4_lastStep, Cond.code yX4_lastStep cX4_lastStep 2 (some .long), Cond.constantLong RX4 64 (-1), Cond.methodLink RX3 57 yX3_readCountWithin, Cond.instanceMethod yX3_readCountWithin]
def wsX3_readRow_r4 : List Cond := [Cond.selects RX3 yX3_readCountWithin yX3_readCountWithin, Cond.code yX3_readCountWithin cX3_readCountWithin 8 (some .long), Cond.methodLink RX3 65 yX2_init, Cond.instanceMethod yX2_init, Cond.code yX2_init cX2_init 5 none, Cond.methodLink RX2 3 objectInit, Cond.instanceMethod objectInit, Cond.code objectInit ⟨#[0xb1]⟩ 1 none, Cond.fieldLink RX2 9 "TraceBook$Moment" "time" "J", Cond.fieldLink RX2 15 "TraceBook$Moment" "step" "J", Cond.classLink RX2 18 RJx4a65c, Cond.instantiable RJx4a65c 3, Cond.fieldLink RX2 21 "TraceBook$Moment" "changes" "Ljava/util/ArrayList;", Cond.fieldLink RX2 25 "TraceBook$Moment" "place" "I", Cond.methodLink RX2 20 yJx4a65c_init_da8c8, Cond.instanceMethod yJx4a65c_init_da8c8, Cond.code yJx4a65c_init_da8c8 cJx4a65c_init_da8c8 1 none, Cond.fieldLink RJx4a65c 39 "java/util/ArrayList" "DEFAULTCAPACITY_EMPTY_ELEMENTDATA" "[Ljava/lang/Object;", Cond.methodLink RJx4a65c 1 yJxc12de_init_da8c8, Cond.instanceMethod yJxc12de_init_da8c8, Cond.initialized RJxc12de, Cond.code yJxc12de_init_da8c8 cJxc12de_init_da8c8 1 none, Cond.fieldLink RJxc12de 7 "java/util/AbstractList" "modCount" "I", Cond.methodLink RJxc12de 1 yJxa1e45_init_da8c8]
def wsX3_readRow_r5 : List Cond := [Cond.instanceMethod yJxa1e45_init_da8c8, Cond.initialized RJxa1e45, Cond.code yJxa1e45_init_da8c8 cJxa1e45_init_da8c8 1 none, Cond.methodLink RJxa1e45 1 objectInit, Cond.methodLink RX3 72 yX3_readChange, Cond.instanceMethod yX3_readChange, Cond.selects RX3 yX3_readChange yX3_readChange, Cond.code yX3_readChange cX3_readChange 16 none, Cond.classLink RX3 90 "TraceBook$Change", Cond.fieldLink RX3 15 "TraceBook$Reader" "wires" "LTraceBook$Wires;", Cond.constantLong RX3 103 (15), Cond.classLink RX3 90 RX1, Cond.instantiable RX1 4, Cond.initialized RX1, Cond.methodLink RX3 76 yJx4a65c_isEmpty_aae02, Cond.methodLink RX3 82 yJx4a65c_size_8abf5, Cond.methodLink RX3 86 yJx4a65c_get_915e3, Cond.methodLink RX3 105 yX5_widthOf, Cond.instanceMethod yX5_widthOf, Cond.selects RX5 yX5_widthOf yX5_widthOf, Cond.initialized RX5, Cond.code yX5_widthOf cX5_widthOf 2 (some .int), Cond.fieldLink RX5 9 "TraceBook$Wires" "widths" "[I", Cond.methodLink RX5 19 yX5_has]
def wsX3_readRow_r6 : List Cond := [Cond.instanceMethod yX5_has, Cond.selects RX5 yX5_has yX5_has, Cond.code yX5_has cX5_has 2 (some .boolean), Cond.fieldLink RX5 15 "TraceBook$Wires" "count" "I", Cond.methodLink RX3 109 yX4_valueOf, Cond.instanceMethod yX4_valueOf, Cond.selects RX4 yX4_valueOf yX4_valueOf, Cond.code yX4_valueOf cX4_valueOf 4 (some .int), Cond.fieldLink RX4 25 "TraceBook$Row" "values" "[B", Cond.methodLink RX3 113 yX1_init, Cond.instanceMethod yX1_init, Cond.code yX1_init cX1_init 5 none, Cond.methodLink RX1 1 objectInit, Cond.fieldLink RX1 7 "TraceBook$Change" "wire" "I", Cond.fieldLink RX1 13 "TraceBook$Change" "element" "I", Cond.fieldLink RX1 16 "TraceBook$Change" "value" "I", Cond.fieldLink RX1 19 "TraceBook$Change" "before" "I", Cond.methodLink RX3 116 yJx4a65c_add_9ea2d, Cond.instanceMethod yJx4a65c_add_9ea2d, Cond.selects RJx4a65c yJx4a65c_add_9ea2d yJx4a65c_add_9ea2d, Cond.code yJx4a65c_add_9ea2d cJx4a65c_add_9ea2d 2 (some .boolean), Cond.fieldLink RJx4a65c 63 "java/util/ArrayList" "modCount" "I", Cond.sameField "java/util/ArrayList" "java/util/AbstractList" "modCount" "I", Cond.methodLink RJx4a65c 131 yJx4a65c_add_72be8]
def wsX3_readRow_r7 : List Cond := [Cond.instanceMethod yJx4a65c_add_72be8, Cond.selects RJx4a65c yJx4a65c_add_72be8 yJx4a65c_add_72be8, Cond.code yJx4a65c_add_72be8 cJx4a65c_add_72be8 4 none, Cond.methodLink RJx4a65c 129 yJx4a65c_grow_d5877, Cond.instanceMethod yJx4a65c_grow_d5877, Cond.selects RJx4a65c yJx4a65c_grow_d5877 yJx4a65c_grow_d5877, Cond.code yJx4a65c_grow_d5877 cJx4a65c_grow_d5877 1 (some (.array (.object "java/lang/Object"))), Cond.methodLink RJx4a65c 69 yJx4a65c_grow_92f84, Cond.instanceMethod yJx4a65c_grow_92f84, Cond.selects RJx4a65c yJx4a65c_grow_92f84 yJx4a65c_grow_92f84, Cond.code yJx4a65c_grow_92f84 cJx4a65c_grow_92f84 4 (some (.array (.object "java/lang/Object"))), Cond.methodLink RJx4a65c 79 Lib.Math.max.name, Cond.static Lib.Math.max.name, Cond.initialized "java/lang/Math", Cond.code Lib.Math.max.name Lib.Math.max.code 2 (some .int), Cond.classLink RJx4a65c 7 "java/lang/Object", Cond.methodLink RJx4a65c 73 yJ8_newLength_cabcc, Cond.static yJ8_newLength_cabcc, Cond.initialized RJ8, Cond.code yJ8_newLength_cabcc cJ8_newLength_cabcc 4 (some .int), Cond.methodLink RJ8 194 Lib.Math.max.name, Cond.constant RJ8 200 (2147483639), Cond.methodLink RJ8 201 yJ8_hugeLength_7cf53, Cond.static yJ8_hugeLength_7cf53]
def wsX3_readRow_r8 : List Cond := [Cond.code yJ8_hugeLength_7cf53 cJ8_hugeLength_7cf53 3 (some .int), Cond.methodLink RJx4a65c 66 yJ7_copyOf_1904c, Cond.static yJ7_copyOf_1904c, Cond.initialized RJ7, Cond.code yJ7_copyOf_1904c cJ7_copyOf_1904c 2 (some (.array (.object "java/lang/Object"))), Cond.methodLink RJ7 86 ⟨"java/lang/Object", "getClass", "()Ljava/lang/Class;"⟩, Cond.selects "[Ljava/lang/Object;" ⟨"java/lang/Object", "getClass", "()Ljava/lang/Class;"⟩ ⟨"java/lang/Object", "getClass", "()Ljava/lang/Class;"⟩, Cond.instanceMethod ⟨"java/lang/Object", "getClass", "()Ljava/lang/Class;"⟩, Cond.native ⟨"java/lang/Object", "getClass", "()Ljava/lang/Class;"⟩, Cond.methodLink RJ7 300 yJ7_copyOf_6403c, Cond.static yJ7_copyOf_6403c, Cond.code yJ7_copyOf_6403c cJ7_copyOf_6403c 4 (some (.array (.object "java/lang/Object"))), Cond.classLink RJ7 110 "[Ljava/lang/Object;", Cond.classLink RJ7 2 "java/lang/Object", Cond.methodLink RJ7 304 Lib.Math.min.name, Cond.static Lib.Math.min.name, Cond.code Lib.Math.min.name Lib.Math.min.code 2 (some .int), Cond.methodLink RJ7 150 arraycopyName, Cond.native arraycopyName, Cond.static arraycopyName, Cond.initialized "java/lang/System", Cond.methodLink RX3 39 yX4_append, Cond.instanceMethod yX4_append, Cond.selects RX4 yX4_append yX4_append]
def wsX3_readRow_r9 : List Cond := [Cond.code yX4_append cX4_append 4 (some .boolean), Cond.fieldLink RX4 12 "TraceBook$Row" "bytes" "LTraceBook$Bytes;", Cond.constant RX4 85 (60000), Cond.classLink RX4 96 "TraceBook$Change", Cond.methodLink RX4 81 yX4_writeMoment, Cond.instanceMethod yX4_writeMoment, Cond.selects RX4 yX4_writeMoment yX4_writeMoment, Cond.code yX4_writeMoment cX4_writeMoment 7 none, Cond.constantLong RX4 106 (2), Cond.methodLink RX4 102 yX4_lastTime, Cond.methodLink RX4 108 yX4_lastStep, Cond.methodLink RX4 111 yX0_addCount, Cond.instanceMethod yX0_addCount, Cond.selects RX0 yX0_addCount yX0_addCount, Cond.code yX0_addCount cX0_addCount 6 none, Cond.constantLong RX0 25 (127), Cond.methodLink RX0 27 yX0_add, Cond.instanceMethod yX0_add, Cond.selects RX0 yX0_add yX0_add, Cond.code yX0_add cX0_add 2 none, Cond.methodLink RX0 19 yJ7_copyOf_9075b, Cond.static yJ7_copyOf_9075b, Cond.code yJ7_copyOf_9075b cJ7_copyOf_9075b 3 (some (.array .byte)), Cond.methodLink RJ7 310 ⟨"[B", "clone", "()Ljava/lang/Object;"⟩]
def wsX3_readRow_r10 : List Cond := [Cond.sameMethod "[B" "java/lang/Object" "clone" "()Ljava/lang/Object;", Cond.native ⟨"java/lang/Object", "clone", "()Ljava/lang/Object;"⟩, Cond.instanceMethod ⟨"java/lang/Object", "clone", "()Ljava/lang/Object;"⟩, Cond.selects "[B" ⟨"[B", "clone", "()Ljava/lang/Object;"⟩ ⟨"java/lang/Object", "clone", "()Ljava/lang/Object;"⟩, Cond.classLink RJ7 311 "[B", Cond.arrayClass .byte, Cond.methodLink RX4 29 yX0_cut, Cond.instanceMethod yX0_cut, Cond.selects RX0 yX0_cut yX0_cut, Cond.code yX0_cut cX0_cut 2 none, Cond.methodLink RX4 89 yJx4a65c_add_9ea2d, Cond.methodLink RX4 98 yX4_keepValue, Cond.instanceMethod yX4_keepValue, Cond.selects RX4 yX4_keepValue yX4_keepValue, Cond.code yX4_keepValue cX4_keepValue 3 none, Cond.methodLink RX4 124 Lib.Math.max.name, Cond.methodLink RX4 130 yJ7_copyOf_9075b]
def wsX3_readRow : List Cond := .code yX3_readRow cX3_readRow 3 (some .int) :: ((wsX3_readRow_r1 ++ (wsX3_readRow_r2 ++ (wsX3_readRow_r3 ++ (wsX3_readRow_r4 ++ (wsX3_readRow_r5 ++ (wsX3_readRow_r6 ++ (wsX3_readRow_r7 ++ (wsX3_readRow_r8 ++ (wsX3_readRow_r9 ++ wsX3_readRow_r10))))))))) ++ wsX30 ++ wsX00 ++ wsX20 ++ wsX40 ++ wsJx4a65c0 ++ wsX10 ++ wsX50)
def wsX4_init_r1 : List Cond := [Cond.methodLink RX4 3 objectInit, Cond.instanceMethod objectInit, Cond.code objectInit ⟨#[0xb1]⟩ 1 none, Cond.classLink RX4 9 RX0, Cond.instantiable RX0 2, Cond.initialized RX0, Cond.fieldLink RX4 12 "TraceBook$Row" "bytes" "LTraceBook$Bytes;", Cond.classLink RX4 18 RJx4a65c, Cond.instantiable RJx4a65c 3, Cond.initialized RJx4a65c, Cond.fieldLink RX4 21 "TraceBook$Row" "moments" "Ljava/util/ArrayList;", Cond.arrayClass .byte, Cond.fieldLink RX4 25 "TraceBook$Row" "values" "[B", Cond.methodLink RX4 11 yX0_init, Cond.instanceMethod yX0_init, Cond.code yX0_init cX0_init 1 none, Cond.methodLink RX0 3 objectInit, Cond.fieldLink RX0 9 "TraceBook$Bytes" "kept" "[B", Cond.fieldLink RX0 15 "TraceBook$Bytes" "length" "I", Cond.methodLink RX4 20 yJx4a65c_init_da8c8, Cond.instanceMethod yJx4a65c_init_da8c8, Cond.code yJx4a65c_init_da8c8 cJx4a65c_init_da8c8 1 none, Cond.fieldLink RJx4a65c 39 "java/util/ArrayList" "DEFAULTCAPACITY_EMPTY_ELEMENTDATA" "[Ljava/lang/Object;", Cond.fieldLink RJx4a65c 9 "java/util/ArrayList" "elementData" "[Ljava/lang/Object;"]
def wsX4_init_r2 : List Cond := [Cond.methodLink RJx4a65c 1 yJxc12de_init_da8c8, Cond.instanceMethod yJxc12de_init_da8c8, Cond.initialized RJxc12de, Cond.code yJxc12de_init_da8c8 cJxc12de_init_da8c8 1 none, Cond.fieldLink RJxc12de 7 "java/util/AbstractList" "modCount" "I", Cond.methodLink RJxc12de 1 yJxa1e45_init_da8c8, Cond.instanceMethod yJxa1e45_init_da8c8, Cond.initialized RJxa1e45, Cond.code yJxa1e45_init_da8c8 cJxa1e45_init_da8c8 1 none, Cond.methodLink RJxa1e45 1 objectInit]
def wsX4_init : List Cond := .code yX4_init cX4_init 1 none :: ((wsX4_init_r1 ++ wsX4_init_r2) ++ wsX00 ++ wsX40 ++ wsJx4a65c0)
def wsJx4a65c_clear_da8c8 : List Cond := .code yJx4a65c_clear_da8c8 cJx4a65c_clear_da8c8 4 none :: ([.fieldLink RJx4a65c 63 "java/util/ArrayList" "modCount" "I", .sameField "java/util/ArrayList" "java/util/AbstractList" "modCount" "I", .fieldLink RJx4a65c 9 "java/util/ArrayList" "elementData" "[Ljava/lang/Object;", .fieldLink RJx4a65c 48 "java/util/ArrayList" "size" "I"] ++ wsJx4a65c0)
def wsJ7_fill_031fb : List Cond := .code yJ7_fill_031fb cJ7_fill_031fb 4 none :: ([])
def wsX4_clear : List Cond := .code yX4_clear cX4_clear 1 none :: ([.fieldLink RX4 12 "TraceBook$Row" "bytes" "LTraceBook$Bytes;", .fieldLink RX4 21 "TraceBook$Row" "moments" "Ljava/util/ArrayList;", .fieldLink RX4 25 "TraceBook$Row" "values" "[B", .methodLink RX4 29 yX0_cut, .instanceMethod yX0_cut, .selects RX0 yX0_cut yX0_cut, .initialized RX0, .code yX0_cut cX0_cut 2 none, .fieldLink RX0 15 "TraceBook$Bytes" "length" "I", .methodLink RX4 33 yJx4a65c_clear_da8c8, .instanceMethod yJx4a65c_clear_da8c8, .selects RJx4a65c yJx4a65c_clear_da8c8 yJx4a65c_clear_da8c8, .initialized RJx4a65c, .code yJx4a65c_clear_da8c8 cJx4a65c_clear_da8c8 4 none, .fieldLink RJx4a65c 63 "java/util/ArrayList" "modCount" "I", .sameField "java/util/ArrayList" "java/util/AbstractList" "modCount" "I", .fieldLink RJx4a65c 9 "java/util/ArrayList" "elementData" "[Ljava/lang/Object;", .fieldLink RJx4a65c 48 "java/util/ArrayList" "size" "I", .methodLink RX4 36 yJ7_fill_031fb, .static yJ7_fill_031fb, .initialized RJ7, .code yJ7_fill_031fb cJ7_fill_031fb 4 none] ++ wsX40 ++ wsX00 ++ wsJx4a65c0)
def wsX4_valueBehind_r1 : List Cond := [Cond.fieldLink RX4 21 "TraceBook$Row" "moments" "Ljava/util/ArrayList;", Cond.classLink RX4 54 "TraceBook$Moment", Cond.methodLink RX4 46 yJx4a65c_size_8abf5, Cond.instanceMethod yJx4a65c_size_8abf5, Cond.selects RJx4a65c yJx4a65c_size_8abf5 yJx4a65c_size_8abf5, Cond.initialized RJx4a65c, Cond.code yJx4a65c_size_8abf5 cJx4a65c_size_8abf5 1 (some .int), Cond.fieldLink RJx4a65c 48 "java/util/ArrayList" "size" "I", Cond.methodLink RX4 50 yJx4a65c_get_915e3, Cond.instanceMethod yJx4a65c_get_915e3, Cond.selects RJx4a65c yJx4a65c_get_915e3 yJx4a65c_get_915e3, Cond.code yJx4a65c_get_915e3 cJx4a65c_get_915e3 2 (some (.object "java/lang/Object")), Cond.methodLink RJx4a65c 118 yJ15_checkIndex_7cf53, Cond.static yJ15_checkIndex_7cf53, Cond.initialized RJ15, Cond.code yJ15_checkIndex_7cf53 cJ15_checkIndex_7cf53 2 (some .int), Cond.methodLink RJ15 105 yJ3_checkIndex_8e157, Cond.static yJ3_checkIndex_8e157, Cond.initialized RJ3, Cond.code yJ3_checkIndex_8e157 cJ3_checkIndex_8e157 3 (some .int), Cond.methodLink RJx4a65c 123 yJx4a65c_elementData_915e3, Cond.instanceMethod yJx4a65c_elementData_915e3, Cond.selects RJx4a65c yJx4a65c_elementData_915e3 yJx4a65c_elementData_915e3, Cond.code yJx4a65c_elementData_915e3 cJx4a65c_elementData_915e3 2 (some (.object "java/lang/Object"))]
def wsX4_valueBehind_r2 : List Cond := [Cond.fieldLink RJx4a65c 9 "java/util/ArrayList" "elementData" "[Ljava/lang/Object;", Cond.methodLink RX4 69 yX2_isLaterThan, Cond.instanceMethod yX2_isLaterThan, Cond.selects RX2 yX2_isLaterThan yX2_isLaterThan, Cond.initialized RX2, Cond.code yX2_isLaterThan cX2_isLaterThan 5 (some .boolean), Cond.fieldLink RX2 9 "TraceBook$Moment" "time" "J", Cond.fieldLink RX2 15 "TraceBook$Moment" "step" "J", Cond.methodLink RX4 73 yX2_valueBehind, Cond.instanceMethod yX2_valueBehind, Cond.selects RX2 yX2_valueBehind yX2_valueBehind, Cond.code yX2_valueBehind cX2_valueBehind 5 (some .int), Cond.fieldLink RX2 21 "TraceBook$Moment" "changes" "Ljava/util/ArrayList;", Cond.classLink RX2 41 "TraceBook$Change", Cond.methodLink RX2 29 yX2_indexFor, Cond.instanceMethod yX2_indexFor, Cond.selects RX2 yX2_indexFor yX2_indexFor, Cond.code yX2_indexFor cX2_indexFor 4 (some .int), Cond.methodLink RX2 33 yJx4a65c_size_8abf5, Cond.methodLink RX2 37 yJx4a65c_get_915e3, Cond.methodLink RX2 67 yX1_standsBefore, Cond.instanceMethod yX1_standsBefore, Cond.selects RX1 yX1_standsBefore yX1_standsBefore, Cond.initialized RX1]
def wsX4_valueBehind_r3 : List Cond := [Cond.code yX1_standsBefore cX1_standsBefore 3 (some .boolean), Cond.fieldLink RX1 7 "TraceBook$Change" "wire" "I", Cond.fieldLink RX1 13 "TraceBook$Change" "element" "I", Cond.methodLink RX2 46 yX2_isChangeOf, Cond.instanceMethod yX2_isChangeOf, Cond.selects RX2 yX2_isChangeOf yX2_isChangeOf, Cond.code yX2_isChangeOf cX2_isChangeOf 4 (some .boolean), Cond.methodLink RX2 71 yX1_isOf, Cond.instanceMethod yX1_isOf, Cond.selects RX1 yX1_isOf yX1_isOf, Cond.code yX1_isOf cX1_isOf 3 (some .boolean)]
def wsX4_valueBehind : List Cond := .code yX4_valueBehind cX4_valueBehind 10 (some .int) :: ((wsX4_valueBehind_r1 ++ (wsX4_valueBehind_r2 ++ wsX4_valueBehind_r3)) ++ wsX40 ++ wsJx4a65c0 ++ wsX20 ++ wsX10)
def wsX5_init : List Cond := .code yX5_init cX5_init 1 none :: ([.methodLink RX5 3 objectInit, .instanceMethod objectInit, .code objectInit ⟨#[0xb1]⟩ 1 none, .arrayClass .int, .fieldLink RX5 9 "TraceBook$Wires" "widths" "[I", .fieldLink RX5 15 "TraceBook$Wires" "count" "I"] ++ wsX50)
def wsX5_hasElement : List Cond := .code yX5_hasElement cX5_hasElement 3 (some .boolean) :: ([.methodLink RX5 19 yX5_has, .instanceMethod yX5_has, .selects RX5 yX5_has yX5_has, .initialized RX5, .code yX5_has cX5_has 2 (some .boolean), .fieldLink RX5 15 "TraceBook$Wires" "count" "I", .fieldLink RX5 9 "TraceBook$Wires" "widths" "[I", .methodLink RX5 23 yX5_widthOf, .instanceMethod yX5_widthOf, .selects RX5 yX5_widthOf yX5_widthOf, .code yX5_widthOf cX5_widthOf 2 (some .int)] ++ wsX50)
def wsX5_add : List Cond := .code yX5_add cX5_add 2 (some .int) :: ([.fieldLink RX5 15 "TraceBook$Wires" "count" "I", .fieldLink RX5 9 "TraceBook$Wires" "widths" "[I"] ++ wsX50)
def wsX6_init_r1 : List Cond := [Cond.methodLink RX6 1 objectInit, Cond.instanceMethod objectInit, Cond.code objectInit ⟨#[0xb1]⟩ 1 none, Cond.classLink RX6 7 RX5, Cond.instantiable RX5 2, Cond.initialized RX5, Cond.fieldLink RX6 10 "TraceBook" "allWires" "LTraceBook$Wires;", Cond.classLink RX6 16 RX0, Cond.instantiable RX0 2, Cond.initialized RX0, Cond.fieldLink RX6 19 "TraceBook" "tape" "LTraceBook$Bytes;", Cond.classLink RX6 23 RX4, Cond.instantiable RX4 3, Cond.initialized RX4, Cond.fieldLink RX6 26 "TraceBook" "row" "LTraceBook$Row;", Cond.fieldLink RX6 30 "TraceBook" "spareRow" "LTraceBook$Row;", Cond.fieldLink RX6 33 "TraceBook" "latest" "LTraceBook$Moment;", Cond.fieldLink RX6 37 "TraceBook" "openMoment" "LTraceBook$Moment;", Cond.methodLink RX6 9 yX5_init, Cond.instanceMethod yX5_init, Cond.code yX5_init cX5_init 1 none, Cond.methodLink RX5 3 objectInit, Cond.arrayClass .int, Cond.fieldLink RX5 9 "TraceBook$Wires" "widths" "[I"]
def wsX6_init_r2 : List Cond := [Cond.fieldLink RX5 15 "TraceBook$Wires" "count" "I", Cond.methodLink RX6 18 yX0_init, Cond.instanceMethod yX0_init, Cond.code yX0_init cX0_init 1 none, Cond.methodLink RX0 3 objectInit, Cond.arrayClass .byte, Cond.fieldLink RX0 9 "TraceBook$Bytes" "kept" "[B", Cond.fieldLink RX0 15 "TraceBook$Bytes" "length" "I", Cond.methodLink RX6 25 yX4_init, Cond.instanceMethod yX4_init, Cond.code yX4_init cX4_init 1 none, Cond.methodLink RX4 3 objectInit, Cond.classLink RX4 9 RX0, Cond.fieldLink RX4 12 "TraceBook$Row" "bytes" "LTraceBook$Bytes;", Cond.classLink RX4 18 RJx4a65c, Cond.instantiable RJx4a65c 3, Cond.initialized RJx4a65c, Cond.fieldLink RX4 21 "TraceBook$Row" "moments" "Ljava/util/ArrayList;", Cond.fieldLink RX4 25 "TraceBook$Row" "values" "[B", Cond.methodLink RX4 11 yX0_init, Cond.methodLink RX4 20 yJx4a65c_init_da8c8, Cond.instanceMethod yJx4a65c_init_da8c8, Cond.code yJx4a65c_init_da8c8 cJx4a65c_init_da8c8 1 none, Cond.fieldLink RJx4a65c 39 "java/util/ArrayList" "DEFAULTCAPACITY_EMPTY_ELEMENTDATA" "[Ljava/lang/Object;"]
def wsX6_init_r3 : List Cond := [Cond.fieldLink RJx4a65c 9 "java/util/ArrayList" "elementData" "[Ljava/lang/Object;", Cond.methodLink RJx4a65c 1 yJxc12de_init_da8c8, Cond.instanceMethod yJxc12de_init_da8c8, Cond.initialized RJxc12de, Cond.code yJxc12de_init_da8c8 cJxc12de_init_da8c8 1 none, Cond.fieldLink RJxc12de 7 "java/util/AbstractList" "modCount" "I", Cond.methodLink RJxc12de 1 yJxa1e45_init_da8c8, Cond.instanceMethod yJxa1e45_init_da8c8, Cond.initialized RJxa1e45, Cond.code yJxa1e45_init_da8c8 cJxa1e45_init_da8c8 1 none, Cond.methodLink RJxa1e45 1 objectInit]
def wsX6_init : List Cond := .code yX6_init cX6_init 1 none :: ((wsX6_init_r1 ++ (wsX6_init_r2 ++ wsX6_init_r3)) ++ wsX50 ++ wsX60 ++ wsX00 ++ wsX40 ++ wsJx4a65c0)
def wsX6_wire : List Cond := .code yX6_wire cX6_wire 2 (some .int) :: ([.classLink RX6 40 "java/lang/IllegalArgumentException", .initialized "java/lang/IllegalArgumentException", .classLink RX6 51 "java/lang/IllegalStateException", .initialized "java/lang/IllegalStateException", .fieldLink RX6 10 "TraceBook" "allWires" "LTraceBook$Wires;", .fieldLink RX6 33 "TraceBook" "latest" "LTraceBook$Moment;", .methodLink RX6 58 yX5_add, .instanceMethod yX5_add, .selects RX5 yX5_add yX5_add, .initialized RX5, .code yX5_add cX5_add 2 (some .int), .fieldLink RX5 15 "TraceBook$Wires" "count" "I", .fieldLink RX5 9 "TraceBook$Wires" "widths" "[I"] ++ wsX60 ++ wsX50 ++ (vx_atS RX6 44 "java/lang/IllegalArgumentException" ["java/lang/RuntimeException", "java/lang/Exception"]).filter goodWord ++ (vx_atS RX6 55 "java/lang/IllegalStateException" ["java/lang/RuntimeException", "java/lang/Exception"]).filter goodWord)
def wsX6_wires : List Cond := .code yX6_wires cX6_wires 1 (some .int) :: ([.fieldLink RX6 10 "TraceBook" "allWires" "LTraceBook$Wires;"] ++ wsX60 ++ wsX50)
def wsX6_width : List Cond := .code yX6_width cX6_width 2 (some .int) :: ([.classLink RX6 66 "java/lang/IndexOutOfBoundsException", .initialized "java/lang/IndexOutOfBoundsException", .fieldLink RX6 10 "TraceBook" "allWires" "LTraceBook$Wires;", .methodLink RX6 62 yX5_has, .instanceMethod yX5_has, .selects RX5 yX5_has yX5_has, .initialized RX5, .code yX5_has cX5_has 2 (some .boolean), .fieldLink RX5 15 "TraceBook$Wires" "count" "I", .fieldLink RX5 9 "TraceBook$Wires" "widths" "[I", .methodLink RX6 71 yX5_widthOf, .instanceMethod yX5_widthOf, .selects RX5 yX5_widthOf yX5_widthOf, .code yX5_widthOf cX5_widthOf 2 (some .int), .methodLink RX5 19 yX5_has] ++ wsX60 ++ wsX50 ++ (vx_atS RX6 70 "java/lang/IndexOutOfBoundsException" ["java/lang/RuntimeException", "java/lang/Exception"]).filter goodWord)
def wsX6_closeOpenMoment_r1 : List Cond := [Cond.fieldLink RX6 37 "TraceBook" "openMoment" "LTraceBook$Moment;", Cond.fieldLink RX6 26 "TraceBook" "row" "LTraceBook$Row;", Cond.methodLink RX6 208 yJx4a65c_isEmpty_aae02, Cond.instanceMethod yJx4a65c_isEmpty_aae02, Cond.selects RJx4a65c yJx4a65c_isEmpty_aae02 yJx4a65c_isEmpty_aae02, Cond.initialized RJx4a65c, Cond.code yJx4a65c_isEmpty_aae02 cJx4a65c_isEmpty_aae02 1 (some .boolean), Cond.fieldLink RJx4a65c 48 "java/util/ArrayList" "size" "I", Cond.methodLink RX6 211 yX4_append, Cond.instanceMethod yX4_append, Cond.selects RX4 yX4_append yX4_append, Cond.initialized RX4, Cond.code yX4_append cX4_append 4 (some .boolean), Cond.fieldLink RX4 12 "TraceBook$Row" "bytes" "LTraceBook$Bytes;", Cond.constant RX4 85 (60000), Cond.fieldLink RX4 21 "TraceBook$Row" "moments" "Ljava/util/ArrayList;", Cond.classLink RX4 96 "TraceBook$Change", Cond.methodLink RX4 81 yX4_writeMoment, Cond.instanceMethod yX4_writeMoment, Cond.selects RX4 yX4_writeMoment yX4_writeMoment, Cond.code yX4_writeMoment cX4_writeMoment 7 none, Cond.constantLong RX4 106 (2), Cond.methodLink RX4 102 yX4_lastTime, Cond.instanceMethod yX4_lastTime]
def wsX6_closeOpenMoment_r2 : List Cond := [Cond.selects RX4 yX4_lastTime yX4_lastTime, Cond.code yX4_lastTime cX4_lastTime 2 (some .long), Cond.methodLink RX4 56 yX4_lastMoment, Cond.instanceMethod yX4_lastMoment, Cond.selects RX4 yX4_lastMoment yX4_lastMoment, Cond.code yX4_lastMoment cX4_lastMoment 1 (some (.object "TraceBook$Moment")), Cond.classLink RX4 54 "TraceBook$Moment", Cond.methodLink RX4 42 yJx4a65c_isEmpty_aae02, Cond.methodLink RX4 46 yJx4a65c_size_8abf5, Cond.instanceMethod yJx4a65c_size_8abf5, Cond.selects RJx4a65c yJx4a65c_size_8abf5 yJx4a65c_size_8abf5, Cond.code yJx4a65c_size_8abf5 cJx4a65c_size_8abf5 1 (some .int), Cond.methodLink RX4 50 yJx4a65c_get_915e3, Cond.instanceMethod yJx4a65c_get_915e3, Cond.selects RJx4a65c yJx4a65c_get_915e3 yJx4a65c_get_915e3, Cond.code yJx4a65c_get_915e3 cJx4a65c_get_915e3 2 (some (.object "java/lang/Object")), Cond.methodLink RJx4a65c 118 yJ15_checkIndex_7cf53, Cond.static yJ15_checkIndex_7cf53, Cond.initialized RJ15, Cond.code yJ15_checkIndex_7cf53 cJ15_checkIndex_7cf53 2 (some .int), Cond.methodLink RJ15 105 yJ3_checkIndex_8e157, Cond.static yJ3_checkIndex_8e157, Cond.initialized RJ3, Cond.code yJ3_checkIndex_8e157 cJ3_checkIndex_8e157 3 (some .int)]
def wsX6_closeOpenMoment_r3 : List Cond := [Cond.methodLink RJx4a65c 123 yJx4a65c_elementData_915e3, Cond.instanceMethod yJx4a65c_elementData_915e3, Cond.selects RJx4a65c yJx4a65c_elementData_915e3 yJx4a65c_elementData_915e3, Cond.code yJx4a65c_elementData_915e3 cJx4a65c_elementData_915e3 2 (some (.object "java/lang/Object")), Cond.fieldLink RJx4a65c 9 "java/util/ArrayList" "elementData" "[Ljava/lang/Object;", Cond.methodLink RX4 108 yX4_lastStep, Cond.instanceMethod yX4_lastStep, Cond.selects RX4 yX4_lastStep yX4_lastStep, Cond.code yX4_lastStep cX4_lastStep 2 (some .long), Cond.constantLong RX4 64 (-1), Cond.methodLink RX4 111 yX0_addCount, Cond.instanceMethod yX0_addCount, Cond.selects RX0 yX0_addCount yX0_addCount, Cond.initialized RX0, Cond.code yX0_addCount cX0_addCount 6 none, Cond.constantLong RX0 25 (127), Cond.methodLink RX0 27 yX0_add, Cond.instanceMethod yX0_add, Cond.selects RX0 yX0_add yX0_add, Cond.code yX0_add cX0_add 2 none, Cond.fieldLink RX0 15 "TraceBook$Bytes" "length" "I", Cond.fieldLink RX0 9 "TraceBook$Bytes" "kept" "[B", Cond.methodLink RX0 19 yJ7_copyOf_9075b, Cond.static yJ7_copyOf_9075b]
def wsX6_closeOpenMoment_r4 : List Cond := [Cond.initialized RJ7, Cond.code yJ7_copyOf_9075b cJ7_copyOf_9075b 3 (some (.array .byte)), Cond.methodLink RJ7 310 ⟨"[B", "clone", "()Ljava/lang/Object;"⟩, Cond.sameMethod "[B" "java/lang/Object" "clone" "()Ljava/lang/Object;", Cond.native ⟨"java/lang/Object", "clone", "()Ljava/lang/Object;"⟩, Cond.instanceMethod ⟨"java/lang/Object", "clone", "()Ljava/lang/Object;"⟩, Cond.selects "[B" ⟨"[B", "clone", "()Ljava/lang/Object;"⟩ ⟨"java/lang/Object", "clone", "()Ljava/lang/Object;"⟩, Cond.classLink RJ7 311 "[B", Cond.arrayClass .byte, Cond.methodLink RJ7 304 Lib.Math.min.name, Cond.static Lib.Math.min.name, Cond.initialized "java/lang/Math", Cond.code Lib.Math.min.name Lib.Math.min.code 2 (some .int), Cond.methodLink RJ7 150 arraycopyName, Cond.native arraycopyName, Cond.static arraycopyName, Cond.initialized "java/lang/System", Cond.methodLink RX4 29 yX0_cut, Cond.instanceMethod yX0_cut, Cond.selects RX0 yX0_cut yX0_cut, Cond.code yX0_cut cX0_cut 2 none, Cond.methodLink RX4 89 yJx4a65c_add_9ea2d, Cond.instanceMethod yJx4a65c_add_9ea2d, Cond.selects RJx4a65c yJx4a65c_add_9ea2d yJx4a65c_add_9ea2d]
def wsX6_closeOpenMoment_r5 : List Cond := [Cond.code yJx4a65c_add_9ea2d cJx4a65c_add_9ea2d 2 (some .boolean), Cond.fieldLink RJx4a65c 63 "java/util/ArrayList" "modCount" "I", Cond.sameField "java/util/ArrayList" "java/util/AbstractList" "modCount" "I", Cond.methodLink RJx4a65c 131 yJx4a65c_add_72be8, Cond.instanceMethod yJx4a65c_add_72be8, Cond.selects RJx4a65c yJx4a65c_add_72be8 yJx4a65c_add_72be8, Cond.code yJx4a65c_add_72be8 cJx4a65c_add_72be8 4 none, Cond.methodLink RJx4a65c 129 yJx4a65c_grow_d5877, Cond.instanceMethod yJx4a65c_grow_d5877, Cond.selects RJx4a65c yJx4a65c_grow_d5877 yJx4a65c_grow_d5877, Cond.code yJx4a65c_grow_d5877 cJx4a65c_grow_d5877 1 (some (.array (.object "java/lang/Object"))), Cond.methodLink RJx4a65c 69 yJx4a65c_grow_92f84, Cond.instanceMethod yJx4a65c_grow_92f84, Cond.selects RJx4a65c yJx4a65c_grow_92f84 yJx4a65c_grow_92f84, Cond.code yJx4a65c_grow_92f84 cJx4a65c_grow_92f84 4 (some (.array (.object "java/lang/Object"))), Cond.fieldLink RJx4a65c 39 "java/util/ArrayList" "DEFAULTCAPACITY_EMPTY_ELEMENTDATA" "[Ljava/lang/Object;", Cond.methodLink RJx4a65c 79 Lib.Math.max.name, Cond.static Lib.Math.max.name, Cond.code Lib.Math.max.name Lib.Math.max.code 2 (some .int), Cond.classLink RJx4a65c 7 "java/lang/Object", Cond.methodLink RJx4a65c 73 yJ8_newLength_cabcc, Cond.static yJ8_newLength_cabcc, Cond.initialized RJ8, Cond.code yJ8_newLength_cabcc cJ8_newLength_cabcc 4 (some .int)]
def wsX6_closeOpenMoment_r6 : List Cond := [Cond.methodLink RJ8 194 Lib.Math.max.name, Cond.constant RJ8 200 (2147483639), Cond.methodLink RJ8 201 yJ8_hugeLength_7cf53, Cond.static yJ8_hugeLength_7cf53, Cond.code yJ8_hugeLength_7cf53 cJ8_hugeLength_7cf53 3 (some .int), Cond.methodLink RJx4a65c 66 yJ7_copyOf_1904c, Cond.static yJ7_copyOf_1904c, Cond.code yJ7_copyOf_1904c cJ7_copyOf_1904c 2 (some (.array (.object "java/lang/Object"))), Cond.methodLink RJ7 86 ⟨"java/lang/Object", "getClass", "()Ljava/lang/Class;"⟩, Cond.selects "[Ljava/lang/Object;" ⟨"java/lang/Object", "getClass", "()Ljava/lang/Class;"⟩ ⟨"java/lang/Object", "getClass", "()Ljava/lang/Class;"⟩, Cond.instanceMethod ⟨"java/lang/Object", "getClass", "()Ljava/lang/Class;"⟩, Cond.native ⟨"java/lang/Object", "getClass", "()Ljava/lang/Class;"⟩, Cond.methodLink RJ7 300 yJ7_copyOf_6403c, Cond.static yJ7_copyOf_6403c, Cond.code yJ7_copyOf_6403c cJ7_copyOf_6403c 4 (some (.array (.object "java/lang/Object"))), Cond.classLink RJ7 110 "[Ljava/lang/Object;", Cond.classLink RJ7 2 "java/lang/Object", Cond.methodLink RX4 98 yX4_keepValue, Cond.instanceMethod yX4_keepValue, Cond.selects RX4 yX4_keepValue yX4_keepValue, Cond.code yX4_keepValue cX4_keepValue 3 none, Cond.fieldLink RX4 25 "TraceBook$Row" "values" "[B", Cond.methodLink RX4 124 Lib.Math.max.name, Cond.methodLink RX4 130 yJ7_copyOf_9075b]
def wsX6_closeOpenMoment : List Cond := .code yX6_closeOpenMoment cX6_closeOpenMoment 1 (some .boolean) :: ((wsX6_closeOpenMoment_r1 ++ (wsX6_closeOpenMoment_r2 ++ (wsX6_closeOpenMoment_r3 ++ (wsX6_closeOpenMoment_r4 ++ (wsX6_closeOpenMoment_r5 ++ wsX6_closeOpenMoment_r6))))) ++ wsX60 ++ wsX20 ++ wsJx4a65c0 ++ wsX40 ++ wsX00 ++ wsX10)
def wsX6_open_r1 : List Cond := [Cond.classLink RX6 40 "java/lang/IllegalArgumentException", Cond.initialized "java/lang/IllegalArgumentException", Cond.classLink RX6 51 "java/lang/IllegalStateException", Cond.initialized "java/lang/IllegalStateException", Cond.constantLong RX6 74 (1152921504606846975), Cond.classLink RX6 78 RX2, Cond.instantiable RX2 4, Cond.initialized RX2, Cond.fieldLink RX6 33 "TraceBook" "latest" "LTraceBook$Moment;", Cond.fieldLink RX6 37 "TraceBook" "openMoment" "LTraceBook$Moment;", Cond.methodLink RX6 80 yX2_init, Cond.instanceMethod yX2_init, Cond.code yX2_init cX2_init 5 none, Cond.methodLink RX2 3 objectInit, Cond.instanceMethod objectInit, Cond.code objectInit ⟨#[0xb1]⟩ 1 none, Cond.fieldLink RX2 9 "TraceBook$Moment" "time" "J", Cond.fieldLink RX2 15 "TraceBook$Moment" "step" "J", Cond.classLink RX2 18 RJx4a65c, Cond.instantiable RJx4a65c 3, Cond.initialized RJx4a65c, Cond.fieldLink RX2 21 "TraceBook$Moment" "changes" "Ljava/util/ArrayList;", Cond.fieldLink RX2 25 "TraceBook$Moment" "place" "I", Cond.methodLink RX2 20 yJx4a65c_init_da8c8]
def wsX6_open_r2 : List Cond := [Cond.instanceMethod yJx4a65c_init_da8c8, Cond.code yJx4a65c_init_da8c8 cJx4a65c_init_da8c8 1 none, Cond.fieldLink RJx4a65c 39 "java/util/ArrayList" "DEFAULTCAPACITY_EMPTY_ELEMENTDATA" "[Ljava/lang/Object;", Cond.fieldLink RJx4a65c 9 "java/util/ArrayList" "elementData" "[Ljava/lang/Object;", Cond.methodLink RJx4a65c 1 yJxc12de_init_da8c8, Cond.instanceMethod yJxc12de_init_da8c8, Cond.initialized RJxc12de, Cond.code yJxc12de_init_da8c8 cJxc12de_init_da8c8 1 none, Cond.fieldLink RJxc12de 7 "java/util/AbstractList" "modCount" "I", Cond.methodLink RJxc12de 1 yJxa1e45_init_da8c8, Cond.instanceMethod yJxa1e45_init_da8c8, Cond.initialized RJxa1e45, Cond.code yJxa1e45_init_da8c8 cJxa1e45_init_da8c8 1 none, Cond.methodLink RJxa1e45 1 objectInit, Cond.methodLink RX6 90 yX2_isLaterThan, Cond.instanceMethod yX2_isLaterThan, Cond.selects RX2 yX2_isLaterThan yX2_isLaterThan, Cond.code yX2_isLaterThan cX2_isLaterThan 5 (some .boolean), Cond.methodLink RX6 96 yX6_closeOpenMoment, Cond.instanceMethod yX6_closeOpenMoment, Cond.selects RX6 yX6_closeOpenMoment yX6_closeOpenMoment, Cond.initialized RX6, Cond.code yX6_closeOpenMoment cX6_closeOpenMoment 1 (some .boolean), Cond.fieldLink RX6 26 "TraceBook" "row" "LTraceBook$Row;"]
def wsX6_open_r3 : List Cond := [Cond.methodLink RX6 208 yJx4a65c_isEmpty_aae02, Cond.instanceMethod yJx4a65c_isEmpty_aae02, Cond.selects RJx4a65c yJx4a65c_isEmpty_aae02 yJx4a65c_isEmpty_aae02, Cond.code yJx4a65c_isEmpty_aae02 cJx4a65c_isEmpty_aae02 1 (some .boolean), Cond.fieldLink RJx4a65c 48 "java/util/ArrayList" "size" "I", Cond.methodLink RX6 211 yX4_append, Cond.instanceMethod yX4_append, Cond.selects RX4 yX4_append yX4_append, Cond.initialized RX4, Cond.code yX4_append cX4_append 4 (some .boolean), Cond.fieldLink RX4 12 "TraceBook$Row" "bytes" "LTraceBook$Bytes;", Cond.constant RX4 85 (60000), Cond.fieldLink RX4 21 "TraceBook$Row" "moments" "Ljava/util/ArrayList;", Cond.classLink RX4 96 "TraceBook$Change", Cond.methodLink RX4 81 yX4_writeMoment, Cond.instanceMethod yX4_writeMoment, Cond.selects RX4 yX4_writeMoment yX4_writeMoment, Cond.code yX4_writeMoment cX4_writeMoment 7 none, Cond.constantLong RX4 106 (2), Cond.methodLink RX4 102 yX4_lastTime, Cond.instanceMethod yX4_lastTime, Cond.selects RX4 yX4_lastTime yX4_lastTime, Cond.code yX4_lastTime cX4_lastTime 2 (some .long), Cond.methodLink RX4 56 yX4_lastMoment]
def wsX6_open_r4 : List Cond := [Cond.instanceMethod yX4_lastMoment, Cond.selects RX4 yX4_lastMoment yX4_lastMoment, Cond.code yX4_lastMoment cX4_lastMoment 1 (some (.object "TraceBook$Moment")), Cond.classLink RX4 54 "TraceBook$Moment", Cond.methodLink RX4 42 yJx4a65c_isEmpty_aae02, Cond.methodLink RX4 46 yJx4a65c_size_8abf5, Cond.instanceMethod yJx4a65c_size_8abf5, Cond.selects RJx4a65c yJx4a65c_size_8abf5 yJx4a65c_size_8abf5, Cond.code yJx4a65c_size_8abf5 cJx4a65c_size_8abf5 1 (some .int), Cond.methodLink RX4 50 yJx4a65c_get_915e3, Cond.instanceMethod yJx4a65c_get_915e3, Cond.selects RJx4a65c yJx4a65c_get_915e3 yJx4a65c_get_915e3, Cond.code yJx4a65c_get_915e3 cJx4a65c_get_915e3 2 (some (.object "java/lang/Object")), Cond.methodLink RJx4a65c 118 yJ15_checkIndex_7cf53, Cond.static yJ15_checkIndex_7cf53, Cond.initialized RJ15, Cond.code yJ15_checkIndex_7cf53 cJ15_checkIndex_7cf53 2 (some .int), Cond.methodLink RJ15 105 yJ3_checkIndex_8e157, Cond.static yJ3_checkIndex_8e157, Cond.initialized RJ3, Cond.code yJ3_checkIndex_8e157 cJ3_checkIndex_8e157 3 (some .int), Cond.methodLink RJx4a65c 123 yJx4a65c_elementData_915e3, Cond.instanceMethod yJx4a65c_elementData_915e3, Cond.selects RJx4a65c yJx4a65c_elementData_915e3 yJx4a65c_elementData_915e3]
def wsX6_open_r5 : List Cond := [Cond.code yJx4a65c_elementData_915e3 cJx4a65c_elementData_915e3 2 (some (.object "java/lang/Object")), Cond.methodLink RX4 108 yX4_lastStep, Cond.instanceMethod yX4_lastStep, Cond.selects RX4 yX4_lastStep yX4_lastStep, Cond.code yX4_lastStep cX4_lastStep 2 (some .long), Cond.constantLong RX4 64 (-1), Cond.methodLink RX4 111 yX0_addCount, Cond.instanceMethod yX0_addCount, Cond.selects RX0 yX0_addCount yX0_addCount, Cond.initialized RX0, Cond.code yX0_addCount cX0_addCount 6 none, Cond.constantLong RX0 25 (127), Cond.methodLink RX0 27 yX0_add, Cond.instanceMethod yX0_add, Cond.selects RX0 yX0_add yX0_add, Cond.code yX0_add cX0_add 2 none, Cond.fieldLink RX0 15 "TraceBook$Bytes" "length" "I", Cond.fieldLink RX0 9 "TraceBook$Bytes" "kept" "[B", Cond.methodLink RX0 19 yJ7_copyOf_9075b, Cond.static yJ7_copyOf_9075b, Cond.initialized RJ7, Cond.code yJ7_copyOf_9075b cJ7_copyOf_9075b 3 (some (.array .byte)), Cond.methodLink RJ7 310 ⟨"[B", "clone", "()Ljava/lang/Object;"⟩, Cond.sameMethod "[B" "java/lang/Object" "clone" "()Ljava/lang/Object;"]
def wsX6_open_r6 : List Cond := [Cond.native ⟨"java/lang/Object", "clone", "()Ljava/lang/Object;"⟩, Cond.instanceMethod ⟨"java/lang/Object", "clone", "()Ljava/lang/Object;"⟩, Cond.selects "[B" ⟨"[B", "clone", "()Ljava/lang/Object;"⟩ ⟨"java/lang/Object", "clone", "()Ljava/lang/Object;"⟩, Cond.classLink RJ7 311 "[B", Cond.arrayClass .byte, Cond.methodLink RJ7 304 Lib.Math.min.name, Cond.static Lib.Math.min.name, Cond.initialized "java/lang/Math", Cond.code Lib.Math.min.name Lib.Math.min.code 2 (some .int), Cond.methodLink RJ7 150 arraycopyName, Cond.native arraycopyName, Cond.static arraycopyName, Cond.initialized "java/lang/System", Cond.methodLink RX4 29 yX0_cut, Cond.instanceMethod yX0_cut, Cond.selects RX0 yX0_cut yX0_cut, Cond.code yX0_cut cX0_cut 2 none, Cond.methodLink RX4 89 yJx4a65c_add_9ea2d, Cond.instanceMethod yJx4a65c_add_9ea2d, Cond.selects RJx4a65c yJx4a65c_add_9ea2d yJx4a65c_add_9ea2d, Cond.code yJx4a65c_add_9ea2d cJx4a65c_add_9ea2d 2 (some .boolean), Cond.fieldLink RJx4a65c 63 "java/util/ArrayList" "modCount" "I", Cond.sameField "java/util/ArrayList" "java/util/AbstractList" "modCount" "I", Cond.methodLink RJx4a65c 131 yJx4a65c_add_72be8]
def wsX6_open_r7 : List Cond := [Cond.instanceMethod yJx4a65c_add_72be8, Cond.selects RJx4a65c yJx4a65c_add_72be8 yJx4a65c_add_72be8, Cond.code yJx4a65c_add_72be8 cJx4a65c_add_72be8 4 none, Cond.methodLink RJx4a65c 129 yJx4a65c_grow_d5877, Cond.instanceMethod yJx4a65c_grow_d5877, Cond.selects RJx4a65c yJx4a65c_grow_d5877 yJx4a65c_grow_d5877, Cond.code yJx4a65c_grow_d5877 cJx4a65c_grow_d5877 1 (some (.array (.object "java/lang/Object"))), Cond.methodLink RJx4a65c 69 yJx4a65c_grow_92f84, Cond.instanceMethod yJx4a65c_grow_92f84, Cond.selects RJx4a65c yJx4a65c_grow_92f84 yJx4a65c_grow_92f84, Cond.code yJx4a65c_grow_92f84 cJx4a65c_grow_92f84 4 (some (.array (.object "java/lang/Object"))), Cond.methodLink RJx4a65c 79 Lib.Math.max.name, Cond.static Lib.Math.max.name, Cond.code Lib.Math.max.name Lib.Math.max.code 2 (some .int), Cond.classLink RJx4a65c 7 "java/lang/Object", Cond.methodLink RJx4a65c 73 yJ8_newLength_cabcc, Cond.static yJ8_newLength_cabcc, Cond.initialized RJ8, Cond.code yJ8_newLength_cabcc cJ8_newLength_cabcc 4 (some .int), Cond.methodLink RJ8 194 Lib.Math.max.name, Cond.constant RJ8 200 (2147483639), Cond.methodLink RJ8 201 yJ8_hugeLength_7cf53, Cond.static yJ8_hugeLength_7cf53, Cond.code yJ8_hugeLength_7cf53 cJ8_hugeLength_7cf53 3 (some .int)]
def wsX6_open_r8 : List Cond := [Cond.methodLink RJx4a65c 66 yJ7_copyOf_1904c, Cond.static yJ7_copyOf_1904c, Cond.code yJ7_copyOf_1904c cJ7_copyOf_1904c 2 (some (.array (.object "java/lang/Object"))), Cond.methodLink RJ7 86 ⟨"java/lang/Object", "getClass", "()Ljava/lang/Class;"⟩, Cond.selects "[Ljava/lang/Object;" ⟨"java/lang/Object", "getClass", "()Ljava/lang/Class;"⟩ ⟨"java/lang/Object", "getClass", "()Ljava/lang/Class;"⟩, Cond.instanceMethod ⟨"java/lang/Object", "getClass", "()Ljava/lang/Class;"⟩, Cond.native ⟨"java/lang/Object", "getClass", "()Ljava/lang/Class;"⟩, Cond.methodLink RJ7 300 yJ7_copyOf_6403c, Cond.static yJ7_copyOf_6403c, Cond.code yJ7_copyOf_6403c cJ7_copyOf_6403c 4 (some (.array (.object "java/lang/Object"))), Cond.classLink RJ7 110 "[Ljava/lang/Object;", Cond.classLink RJ7 2 "java/lang/Object", Cond.methodLink RX4 98 yX4_keepValue, Cond.instanceMethod yX4_keepValue, Cond.selects RX4 yX4_keepValue yX4_keepValue, Cond.code yX4_keepValue cX4_keepValue 3 none, Cond.fieldLink RX4 25 "TraceBook$Row" "values" "[B", Cond.methodLink RX4 124 Lib.Math.max.name, Cond.methodLink RX4 130 yJ7_copyOf_9075b]
def wsX6_open : List Cond := .code yX6_open cX6_open 6 none :: ((wsX6_open_r1 ++ (wsX6_open_r2 ++ (wsX6_open_r3 ++ (wsX6_open_r4 ++ (wsX6_open_r5 ++ (wsX6_open_r6 ++ (wsX6_open_r7 ++ wsX6_open_r8))))))) ++ wsX20 ++ wsX60 ++ wsJx4a65c0 ++ wsX40 ++ wsX00 ++ wsX10 ++ (vx_atS RX6 44 "java/lang/IllegalArgumentException" ["java/lang/RuntimeException", "java/lang/Exception"]).filter goodWord ++ (vx_atS RX6 55 "java/lang/IllegalStateException" ["java/lang/RuntimeException", "java/lang/Exception"]).filter goodWord)
def wsX6_change_r1 : List Cond := [Cond.classLink RX6 66 "java/lang/IndexOutOfBoundsException", Cond.initialized "java/lang/IndexOutOfBoundsException", Cond.classLink RX6 40 "java/lang/IllegalArgumentException", Cond.initialized "java/lang/IllegalArgumentException", Cond.classLink RX6 51 "java/lang/IllegalStateException", Cond.initialized "java/lang/IllegalStateException", Cond.fieldLink RX6 10 "TraceBook" "allWires" "LTraceBook$Wires;", Cond.fieldLink RX6 37 "TraceBook" "openMoment" "LTraceBook$Moment;", Cond.fieldLink RX6 26 "TraceBook" "row" "LTraceBook$Row;", Cond.methodLink RX6 102 yX5_hasElement, Cond.instanceMethod yX5_hasElement, Cond.selects RX5 yX5_hasElement yX5_hasElement, Cond.initialized RX5, Cond.code yX5_hasElement cX5_hasElement 3 (some .boolean), Cond.methodLink RX5 19 yX5_has, Cond.instanceMethod yX5_has, Cond.selects RX5 yX5_has yX5_has, Cond.code yX5_has cX5_has 2 (some .boolean), Cond.fieldLink RX5 15 "TraceBook$Wires" "count" "I", Cond.fieldLink RX5 9 "TraceBook$Wires" "widths" "[I", Cond.methodLink RX5 23 yX5_widthOf, Cond.instanceMethod yX5_widthOf, Cond.selects RX5 yX5_widthOf yX5_widthOf, Cond.code yX5_widthOf cX5_widthOf 2 (some .int)]
def wsX6_change_r2 : List Cond := [Cond.methodLink RX6 112 yX4_valueOf, Cond.instanceMethod yX4_valueOf, Cond.selects RX4 yX4_valueOf yX4_valueOf, Cond.initialized RX4, Cond.code yX4_valueOf cX4_valueOf 4 (some .int), Cond.fieldLink RX4 25 "TraceBook$Row" "values" "[B", Cond.methodLink RX6 116 yX2_put, Cond.instanceMethod yX2_put, Cond.selects RX2 yX2_put yX2_put, Cond.initialized RX2, Cond.code yX2_put cX2_put 8 (some .boolean), Cond.fieldLink RX2 21 "TraceBook$Moment" "changes" "Ljava/util/ArrayList;", Cond.classLink RX2 41 "TraceBook$Change", Cond.classLink RX2 41 RX1, Cond.instantiable RX1 4, Cond.initialized RX1, Cond.methodLink RX2 29 yX2_indexFor, Cond.instanceMethod yX2_indexFor, Cond.selects RX2 yX2_indexFor yX2_indexFor, Cond.code yX2_indexFor cX2_indexFor 4 (some .int), Cond.methodLink RX2 33 yJx4a65c_size_8abf5, Cond.instanceMethod yJx4a65c_size_8abf5, Cond.selects RJx4a65c yJx4a65c_size_8abf5 yJx4a65c_size_8abf5, Cond.initialized RJx4a65c]
def wsX6_change_r3 : List Cond := [Cond.code yJx4a65c_size_8abf5 cJx4a65c_size_8abf5 1 (some .int), Cond.fieldLink RJx4a65c 48 "java/util/ArrayList" "size" "I", Cond.methodLink RX2 37 yJx4a65c_get_915e3, Cond.instanceMethod yJx4a65c_get_915e3, Cond.selects RJx4a65c yJx4a65c_get_915e3 yJx4a65c_get_915e3, Cond.code yJx4a65c_get_915e3 cJx4a65c_get_915e3 2 (some (.object "java/lang/Object")), Cond.methodLink RJx4a65c 118 yJ15_checkIndex_7cf53, Cond.static yJ15_checkIndex_7cf53, Cond.initialized RJ15, Cond.code yJ15_checkIndex_7cf53 cJ15_checkIndex_7cf53 2 (some .int), Cond.methodLink RJ15 105 yJ3_checkIndex_8e157, Cond.static yJ3_checkIndex_8e157, Cond.initialized RJ3, Cond.code yJ3_checkIndex_8e157 cJ3_checkIndex_8e157 3 (some .int), Cond.methodLink RJx4a65c 123 yJx4a65c_elementData_915e3, Cond.instanceMethod yJx4a65c_elementData_915e3, Cond.selects RJx4a65c yJx4a65c_elementData_915e3 yJx4a65c_elementData_915e3, Cond.code yJx4a65c_elementData_915e3 cJx4a65c_elementData_915e3 2 (some (.object "java/lang/Object")), Cond.fieldLink RJx4a65c 9 "java/util/ArrayList" "elementData" "[Ljava/lang/Object;", Cond.methodLink RX2 67 yX1_standsBefore, Cond.instanceMethod yX1_standsBefore, Cond.selects RX1 yX1_standsBefore yX1_standsBefore, Cond.code yX1_standsBefore cX1_standsBefore 3 (some .boolean), Cond.fieldLink RX1 7 "TraceBook$Change" "wire" "I"]
def wsX6_change_r4 : List Cond := [Cond.fieldLink RX1 13 "TraceBook$Change" "element" "I", Cond.methodLink RX2 46 yX2_isChangeOf, Cond.instanceMethod yX2_isChangeOf, Cond.selects RX2 yX2_isChangeOf yX2_isChangeOf, Cond.code yX2_isChangeOf cX2_isChangeOf 4 (some .boolean), Cond.methodLink RX2 71 yX1_isOf, Cond.instanceMethod yX1_isOf, Cond.selects RX1 yX1_isOf yX1_isOf, Cond.code yX1_isOf cX1_isOf 3 (some .boolean), Cond.methodLink RX2 53 yX1_init, Cond.instanceMethod yX1_init, Cond.code yX1_init cX1_init 5 none, Cond.methodLink RX1 1 objectInit, Cond.instanceMethod objectInit, Cond.code objectInit ⟨#[0xb1]⟩ 1 none, Cond.fieldLink RX1 16 "TraceBook$Change" "value" "I", Cond.fieldLink RX1 19 "TraceBook$Change" "before" "I", Cond.methodLink RX2 56 yJx4a65c_add_7a177, Cond.instanceMethod yJx4a65c_add_7a177, Cond.selects RJx4a65c yJx4a65c_add_7a177 yJx4a65c_add_7a177, Cond.code yJx4a65c_add_7a177 cJx4a65c_add_7a177 5 none, Cond.fieldLink RJx4a65c 63 "java/util/ArrayList" "modCount" "I", Cond.sameField "java/util/ArrayList" "java/util/AbstractList" "modCount" "I", Cond.methodLink RJx4a65c 112 arraycopyName]
def wsX6_change_r5 : List Cond := [Cond.native arraycopyName, Cond.static arraycopyName, Cond.initialized "java/lang/System", Cond.methodLink RJx4a65c 135 yJx4a65c_rangeCheckForAdd_d00df, Cond.instanceMethod yJx4a65c_rangeCheckForAdd_d00df, Cond.selects RJx4a65c yJx4a65c_rangeCheckForAdd_d00df yJx4a65c_rangeCheckForAdd_d00df, Cond.code yJx4a65c_rangeCheckForAdd_d00df cJx4a65c_rangeCheckForAdd_d00df 2 none, Cond.methodLink RJx4a65c 129 yJx4a65c_grow_d5877, Cond.instanceMethod yJx4a65c_grow_d5877, Cond.selects RJx4a65c yJx4a65c_grow_d5877 yJx4a65c_grow_d5877, Cond.code yJx4a65c_grow_d5877 cJx4a65c_grow_d5877 1 (some (.array (.object "java/lang/Object"))), Cond.methodLink RJx4a65c 69 yJx4a65c_grow_92f84, Cond.instanceMethod yJx4a65c_grow_92f84, Cond.selects RJx4a65c yJx4a65c_grow_92f84 yJx4a65c_grow_92f84, Cond.code yJx4a65c_grow_92f84 cJx4a65c_grow_92f84 4 (some (.array (.object "java/lang/Object"))), Cond.fieldLink RJx4a65c 39 "java/util/ArrayList" "DEFAULTCAPACITY_EMPTY_ELEMENTDATA" "[Ljava/lang/Object;", Cond.methodLink RJx4a65c 79 Lib.Math.max.name, Cond.static Lib.Math.max.name, Cond.initialized "java/lang/Math", Cond.code Lib.Math.max.name Lib.Math.max.code 2 (some .int), Cond.classLink RJx4a65c 7 "java/lang/Object", Cond.methodLink RJx4a65c 73 yJ8_newLength_cabcc, Cond.static yJ8_newLength_cabcc, Cond.initialized RJ8]
def wsX6_change_r6 : List Cond := [Cond.code yJ8_newLength_cabcc cJ8_newLength_cabcc 4 (some .int), Cond.methodLink RJ8 194 Lib.Math.max.name, Cond.constant RJ8 200 (2147483639), Cond.methodLink RJ8 201 yJ8_hugeLength_7cf53, Cond.static yJ8_hugeLength_7cf53, Cond.code yJ8_hugeLength_7cf53 cJ8_hugeLength_7cf53 3 (some .int), Cond.methodLink RJx4a65c 66 yJ7_copyOf_1904c, Cond.static yJ7_copyOf_1904c, Cond.initialized RJ7, Cond.code yJ7_copyOf_1904c cJ7_copyOf_1904c 2 (some (.array (.object "java/lang/Object"))), Cond.methodLink RJ7 86 ⟨"java/lang/Object", "getClass", "()Ljava/lang/Class;"⟩, Cond.selects "[Ljava/lang/Object;" ⟨"java/lang/Object", "getClass", "()Ljava/lang/Class;"⟩ ⟨"java/lang/Object", "getClass", "()Ljava/lang/Class;"⟩, Cond.instanceMethod ⟨"java/lang/Object", "getClass", "()Ljava/lang/Class;"⟩, Cond.native ⟨"java/lang/Object", "getClass", "()Ljava/lang/Class;"⟩, Cond.methodLink RJ7 300 yJ7_copyOf_6403c, Cond.static yJ7_copyOf_6403c, Cond.code yJ7_copyOf_6403c cJ7_copyOf_6403c 4 (some (.array (.object "java/lang/Object"))), Cond.classLink RJ7 110 "[Ljava/lang/Object;", Cond.classLink RJ7 2 "java/lang/Object", Cond.methodLink RJ7 304 Lib.Math.min.name, Cond.static Lib.Math.min.name, Cond.code Lib.Math.min.name Lib.Math.min.code 2 (some .int), Cond.methodLink RJ7 150 arraycopyName, Cond.methodLink RX2 60 yJx4a65c_remove_915e3]
def wsX6_change_r7 : List Cond := [Cond.instanceMethod yJx4a65c_remove_915e3, Cond.selects RJx4a65c yJx4a65c_remove_915e3 yJx4a65c_remove_915e3, Cond.code yJx4a65c_remove_915e3 cJx4a65c_remove_915e3 4 (some (.object "java/lang/Object")), Cond.methodLink RJx4a65c 144 yJx4a65c_fastRemove_b59b0, Cond.instanceMethod yJx4a65c_fastRemove_b59b0, Cond.selects RJx4a65c yJx4a65c_fastRemove_b59b0 yJx4a65c_fastRemove_b59b0, Cond.code yJx4a65c_fastRemove_b59b0 cJx4a65c_fastRemove_b59b0 4 none, Cond.methodLink RX2 63 yJx4a65c_set_bcc79, Cond.instanceMethod yJx4a65c_set_bcc79, Cond.selects RJx4a65c yJx4a65c_set_bcc79 yJx4a65c_set_bcc79, Cond.code yJx4a65c_set_bcc79 cJx4a65c_set_bcc79 4 (some (.object "java/lang/Object"))]
def wsX6_change : List Cond := .code yX6_change cX6_change 4 (some .boolean) :: ((wsX6_change_r1 ++ (wsX6_change_r2 ++ (wsX6_change_r3 ++ (wsX6_change_r4 ++ (wsX6_change_r5 ++ (wsX6_change_r6 ++ wsX6_change_r7)))))) ++ wsX60 ++ wsX50 ++ wsX40 ++ wsX20 ++ wsX10 ++ wsJx4a65c0 ++ (vx_atS RX6 70 "java/lang/IndexOutOfBoundsException" ["java/lang/RuntimeException", "java/lang/Exception"]).filter goodWord ++ (vx_atS RX6 44 "java/lang/IllegalArgumentException" ["java/lang/RuntimeException", "java/lang/Exception"]).filter goodWord ++ (vx_atS RX6 55 "java/lang/IllegalStateException" ["java/lang/RuntimeException", "java/lang/Exception"]).filter goodWord)
def wsX6_close_r1 : List Cond := [Cond.classLink RX6 51 "java/lang/IllegalStateException", Cond.initialized "java/lang/IllegalStateException", Cond.fieldLink RX6 37 "TraceBook" "openMoment" "LTraceBook$Moment;", Cond.methodLink RX6 124 yJx4a65c_size_8abf5, Cond.instanceMethod yJx4a65c_size_8abf5, Cond.selects RJx4a65c yJx4a65c_size_8abf5 yJx4a65c_size_8abf5, Cond.initialized RJx4a65c, Cond.code yJx4a65c_size_8abf5 cJx4a65c_size_8abf5 1 (some .int), Cond.fieldLink RJx4a65c 48 "java/util/ArrayList" "size" "I", Cond.methodLink RX6 96 yX6_closeOpenMoment, Cond.instanceMethod yX6_closeOpenMoment, Cond.selects RX6 yX6_closeOpenMoment yX6_closeOpenMoment, Cond.initialized RX6, Cond.code yX6_closeOpenMoment cX6_closeOpenMoment 1 (some .boolean), Cond.fieldLink RX6 26 "TraceBook" "row" "LTraceBook$Row;", Cond.methodLink RX6 208 yJx4a65c_isEmpty_aae02, Cond.instanceMethod yJx4a65c_isEmpty_aae02, Cond.selects RJx4a65c yJx4a65c_isEmpty_aae02 yJx4a65c_isEmpty_aae02, Cond.code yJx4a65c_isEmpty_aae02 cJx4a65c_isEmpty_aae02 1 (some .boolean), Cond.methodLink RX6 211 yX4_append, Cond.instanceMethod yX4_append, Cond.selects RX4 yX4_append yX4_append, Cond.initialized RX4, Cond.code yX4_append cX4_append 4 (some .boolean)]
def wsX6_close_r2 : List Cond := [Cond.fieldLink RX4 12 "TraceBook$Row" "bytes" "LTraceBook$Bytes;", Cond.constant RX4 85 (60000), Cond.fieldLink RX4 21 "TraceBook$Row" "moments" "Ljava/util/ArrayList;", Cond.classLink RX4 96 "TraceBook$Change", Cond.methodLink RX4 81 yX4_writeMoment, Cond.instanceMethod yX4_writeMoment, Cond.selects RX4 yX4_writeMoment yX4_writeMoment, Cond.code yX4_writeMoment cX4_writeMoment 7 none, Cond.constantLong RX4 106 (2), Cond.methodLink RX4 102 yX4_lastTime, Cond.instanceMethod yX4_lastTime, Cond.selects RX4 yX4_lastTime yX4_lastTime, Cond.code yX4_lastTime cX4_lastTime 2 (some .long), Cond.methodLink RX4 56 yX4_lastMoment, Cond.instanceMethod yX4_lastMoment, Cond.selects RX4 yX4_lastMoment yX4_lastMoment, Cond.code yX4_lastMoment cX4_lastMoment 1 (some (.object "TraceBook$Moment")), Cond.classLink RX4 54 "TraceBook$Moment", Cond.methodLink RX4 42 yJx4a65c_isEmpty_aae02, Cond.methodLink RX4 46 yJx4a65c_size_8abf5, Cond.methodLink RX4 50 yJx4a65c_get_915e3, Cond.instanceMethod yJx4a65c_get_915e3, Cond.selects RJx4a65c yJx4a65c_get_915e3 yJx4a65c_get_915e3, Cond.code yJx4a65c_get_915e3 cJx4a65c_get_915e3 2 (some (.object "java/lang/Object"))]
def wsX6_close_r3 : List Cond := [Cond.methodLink RJx4a65c 118 yJ15_checkIndex_7cf53, Cond.static yJ15_checkIndex_7cf53, Cond.initialized RJ15, Cond.code yJ15_checkIndex_7cf53 cJ15_checkIndex_7cf53 2 (some .int), Cond.methodLink RJ15 105 yJ3_checkIndex_8e157, Cond.static yJ3_checkIndex_8e157, Cond.initialized RJ3, Cond.code yJ3_checkIndex_8e157 cJ3_checkIndex_8e157 3 (some .int), Cond.methodLink RJx4a65c 123 yJx4a65c_elementData_915e3, Cond.instanceMethod yJx4a65c_elementData_915e3, Cond.selects RJx4a65c yJx4a65c_elementData_915e3 yJx4a65c_elementData_915e3, Cond.code yJx4a65c_elementData_915e3 cJx4a65c_elementData_915e3 2 (some (.object "java/lang/Object")), Cond.fieldLink RJx4a65c 9 "java/util/ArrayList" "elementData" "[Ljava/lang/Object;", Cond.methodLink RX4 108 yX4_lastStep, Cond.instanceMethod yX4_lastStep, Cond.selects RX4 yX4_lastStep yX4_lastStep, Cond.code yX4_lastStep cX4_lastStep 2 (some .long), Cond.constantLong RX4 64 (-1), Cond.methodLink RX4 111 yX0_addCount, Cond.instanceMethod yX0_addCount, Cond.selects RX0 yX0_addCount yX0_addCount, Cond.initialized RX0, Cond.code yX0_addCount cX0_addCount 6 none, Cond.constantLong RX0 25 (127)]
def wsX6_close_r4 : List Cond := [Cond.methodLink RX0 27 yX0_add, Cond.instanceMethod yX0_add, Cond.selects RX0 yX0_add yX0_add, Cond.code yX0_add cX0_add 2 none, Cond.fieldLink RX0 15 "TraceBook$Bytes" "length" "I", Cond.fieldLink RX0 9 "TraceBook$Bytes" "kept" "[B", Cond.methodLink RX0 19 yJ7_copyOf_9075b, Cond.static yJ7_copyOf_9075b, Cond.initialized RJ7, Cond.code yJ7_copyOf_9075b cJ7_copyOf_9075b 3 (some (.array .byte)), Cond.methodLink RJ7 310 ⟨"[B", "clone", "()Ljava/lang/Object;"⟩, Cond.sameMethod "[B" "java/lang/Object" "clone" "()Ljava/lang/Object;", Cond.native ⟨"java/lang/Object", "clone", "()Ljava/lang/Object;"⟩, Cond.instanceMethod ⟨"java/lang/Object", "clone", "()Ljava/lang/Object;"⟩, Cond.selects "[B" ⟨"[B", "clone", "()Ljava/lang/Object;"⟩ ⟨"java/lang/Object", "clone", "()Ljava/lang/Object;"⟩, Cond.classLink RJ7 311 "[B", Cond.arrayClass .byte, Cond.methodLink RJ7 304 Lib.Math.min.name, Cond.static Lib.Math.min.name, Cond.initialized "java/lang/Math", Cond.code Lib.Math.min.name Lib.Math.min.code 2 (some .int), Cond.methodLink RJ7 150 arraycopyName, Cond.native arraycopyName, Cond.static arraycopyName]
def wsX6_close_r5 : List Cond := [Cond.initialized "java/lang/System", Cond.methodLink RX4 29 yX0_cut, Cond.instanceMethod yX0_cut, Cond.selects RX0 yX0_cut yX0_cut, Cond.code yX0_cut cX0_cut 2 none, Cond.methodLink RX4 89 yJx4a65c_add_9ea2d, Cond.instanceMethod yJx4a65c_add_9ea2d, Cond.selects RJx4a65c yJx4a65c_add_9ea2d yJx4a65c_add_9ea2d, Cond.code yJx4a65c_add_9ea2d cJx4a65c_add_9ea2d 2 (some .boolean), Cond.fieldLink RJx4a65c 63 "java/util/ArrayList" "modCount" "I", Cond.sameField "java/util/ArrayList" "java/util/AbstractList" "modCount" "I", Cond.methodLink RJx4a65c 131 yJx4a65c_add_72be8, Cond.instanceMethod yJx4a65c_add_72be8, Cond.selects RJx4a65c yJx4a65c_add_72be8 yJx4a65c_add_72be8, Cond.code yJx4a65c_add_72be8 cJx4a65c_add_72be8 4 none, Cond.methodLink RJx4a65c 129 yJx4a65c_grow_d5877, Cond.instanceMethod yJx4a65c_grow_d5877, Cond.selects RJx4a65c yJx4a65c_grow_d5877 yJx4a65c_grow_d5877, Cond.code yJx4a65c_grow_d5877 cJx4a65c_grow_d5877 1 (some (.array (.object "java/lang/Object"))), Cond.methodLink RJx4a65c 69 yJx4a65c_grow_92f84, Cond.instanceMethod yJx4a65c_grow_92f84, Cond.selects RJx4a65c yJx4a65c_grow_92f84 yJx4a65c_grow_92f84, Cond.code yJx4a65c_grow_92f84 cJx4a65c_grow_92f84 4 (some (.array (.object "java/lang/Object"))), Cond.fieldLink RJx4a65c 39 "java/util/ArrayList" "DEFAULTCAPACITY_EMPTY_ELEMENTDATA" "[Ljava/lang/Object;"]
def wsX6_close_r6 : List Cond := [Cond.methodLink RJx4a65c 79 Lib.Math.max.name, Cond.static Lib.Math.max.name, Cond.code Lib.Math.max.name Lib.Math.max.code 2 (some .int), Cond.classLink RJx4a65c 7 "java/lang/Object", Cond.methodLink RJx4a65c 73 yJ8_newLength_cabcc, Cond.static yJ8_newLength_cabcc, Cond.initialized RJ8, Cond.code yJ8_newLength_cabcc cJ8_newLength_cabcc 4 (some .int), Cond.methodLink RJ8 194 Lib.Math.max.name, Cond.constant RJ8 200 (2147483639), Cond.methodLink RJ8 201 yJ8_hugeLength_7cf53, Cond.static yJ8_hugeLength_7cf53, Cond.code yJ8_hugeLength_7cf53 cJ8_hugeLength_7cf53 3 (some .int), Cond.methodLink RJx4a65c 66 yJ7_copyOf_1904c, Cond.static yJ7_copyOf_1904c, Cond.code yJ7_copyOf_1904c cJ7_copyOf_1904c 2 (some (.array (.object "java/lang/Object"))), Cond.methodLink RJ7 86 ⟨"java/lang/Object", "getClass", "()Ljava/lang/Class;"⟩, Cond.selects "[Ljava/lang/Object;" ⟨"java/lang/Object", "getClass", "()Ljava/lang/Class;"⟩ ⟨"java/lang/Object", "getClass", "()Ljava/lang/Class;"⟩, Cond.instanceMethod ⟨"java/lang/Object", "getClass", "()Ljava/lang/Class;"⟩, Cond.native ⟨"java/lang/Object", "getClass", "()Ljava/lang/Class;"⟩, Cond.methodLink RJ7 300 yJ7_copyOf_6403c, Cond.static yJ7_copyOf_6403c, Cond.code yJ7_copyOf_6403c cJ7_copyOf_6403c 4 (some (.array (.object "java/lang/Object"))), Cond.classLink RJ7 110 "[Ljava/lang/Object;"]
def wsX6_close_r7 : List Cond := [Cond.classLink RJ7 2 "java/lang/Object", Cond.methodLink RX4 98 yX4_keepValue, Cond.instanceMethod yX4_keepValue, Cond.selects RX4 yX4_keepValue yX4_keepValue, Cond.code yX4_keepValue cX4_keepValue 3 none, Cond.fieldLink RX4 25 "TraceBook$Row" "values" "[B", Cond.methodLink RX4 124 Lib.Math.max.name, Cond.methodLink RX4 130 yJ7_copyOf_9075b]
def wsX6_close : List Cond := .code yX6_close cX6_close 2 (some .int) :: ((wsX6_close_r1 ++ (wsX6_close_r2 ++ (wsX6_close_r3 ++ (wsX6_close_r4 ++ (wsX6_close_r5 ++ (wsX6_close_r6 ++ wsX6_close_r7)))))) ++ wsX60 ++ wsX20 ++ wsJx4a65c0 ++ wsX40 ++ wsX00 ++ wsX10 ++ (vx_atS RX6 55 "java/lang/IllegalStateException" ["java/lang/RuntimeException", "java/lang/Exception"]).filter goodWord)
def wsX6_moments : List Cond := .code yX6_moments cX6_moments 1 (some .int) :: ([.fieldLink RX6 26 "TraceBook" "row" "LTraceBook$Row;", .methodLink RX6 124 yJx4a65c_size_8abf5, .instanceMethod yJx4a65c_size_8abf5, .selects RJx4a65c yJx4a65c_size_8abf5 yJx4a65c_size_8abf5, .initialized RJx4a65c, .code yJx4a65c_size_8abf5 cJx4a65c_size_8abf5 1 (some .int), .fieldLink RJx4a65c 48 "java/util/ArrayList" "size" "I"] ++ wsX60 ++ wsX40 ++ wsJx4a65c0)
def wsX6_moment_r1 : List Cond := [Cond.classLink RX6 66 "java/lang/IndexOutOfBoundsException", Cond.initialized "java/lang/IndexOutOfBoundsException", Cond.classLink RX6 40 "java/lang/IllegalArgumentException", Cond.initialized "java/lang/IllegalArgumentException", Cond.fieldLink RX6 26 "TraceBook" "row" "LTraceBook$Row;", Cond.classLink RX6 78 "TraceBook$Moment", Cond.methodLink RX6 124 yJx4a65c_size_8abf5, Cond.instanceMethod yJx4a65c_size_8abf5, Cond.selects RJx4a65c yJx4a65c_size_8abf5 yJx4a65c_size_8abf5, Cond.initialized RJx4a65c, Cond.code yJx4a65c_size_8abf5 cJx4a65c_size_8abf5 1 (some .int), Cond.fieldLink RJx4a65c 48 "java/util/ArrayList" "size" "I", Cond.methodLink RX6 135 yJx4a65c_get_915e3, Cond.instanceMethod yJx4a65c_get_915e3, Cond.selects RJx4a65c yJx4a65c_get_915e3 yJx4a65c_get_915e3, Cond.code yJx4a65c_get_915e3 cJx4a65c_get_915e3 2 (some (.object "java/lang/Object")), Cond.methodLink RJx4a65c 118 yJ15_checkIndex_7cf53, Cond.static yJ15_checkIndex_7cf53, Cond.initialized RJ15, Cond.code yJ15_checkIndex_7cf53 cJ15_checkIndex_7cf53 2 (some .int), Cond.methodLink RJ15 105 yJ3_checkIndex_8e157, Cond.static yJ3_checkIndex_8e157, Cond.initialized RJ3, Cond.code yJ3_checkIndex_8e157 cJ3_checkIndex_8e157 3 (some .int)]
def wsX6_moment_r2 : List Cond := [Cond.methodLink RJx4a65c 123 yJx4a65c_elementData_915e3, Cond.instanceMethod yJx4a65c_elementData_915e3, Cond.selects RJx4a65c yJx4a65c_elementData_915e3 yJx4a65c_elementData_915e3, Cond.code yJx4a65c_elementData_915e3 cJx4a65c_elementData_915e3 2 (some (.object "java/lang/Object")), Cond.fieldLink RJx4a65c 9 "java/util/ArrayList" "elementData" "[Ljava/lang/Object;"]
def wsX6_moment : List Cond := .code yX6_moment cX6_moment 4 (some .long) :: ((wsX6_moment_r1 ++ wsX6_moment_r2) ++ wsX60 ++ wsX40 ++ wsX20 ++ wsJx4a65c0 ++ (vx_atS RX6 70 "java/lang/IndexOutOfBoundsException" ["java/lang/RuntimeException", "java/lang/Exception"]).filter goodWord ++ (vx_atS RX6 44 "java/lang/IllegalArgumentException" ["java/lang/RuntimeException", "java/lang/Exception"]).filter goodWord)
def wsX6_changed_r1 : List Cond := [Cond.classLink RX6 66 "java/lang/IndexOutOfBoundsException", Cond.initialized "java/lang/IndexOutOfBoundsException", Cond.classLink RX6 40 "java/lang/IllegalArgumentException", Cond.initialized "java/lang/IllegalArgumentException", Cond.fieldLink RX6 26 "TraceBook" "row" "LTraceBook$Row;", Cond.classLink RX6 78 "TraceBook$Moment", Cond.classLink RX6 146 "TraceBook$Change", Cond.methodLink RX6 124 yJx4a65c_size_8abf5, Cond.instanceMethod yJx4a65c_size_8abf5, Cond.selects RJx4a65c yJx4a65c_size_8abf5 yJx4a65c_size_8abf5, Cond.initialized RJx4a65c, Cond.code yJx4a65c_size_8abf5 cJx4a65c_size_8abf5 1 (some .int), Cond.fieldLink RJx4a65c 48 "java/util/ArrayList" "size" "I", Cond.methodLink RX6 135 yJx4a65c_get_915e3, Cond.instanceMethod yJx4a65c_get_915e3, Cond.selects RJx4a65c yJx4a65c_get_915e3 yJx4a65c_get_915e3, Cond.code yJx4a65c_get_915e3 cJx4a65c_get_915e3 2 (some (.object "java/lang/Object")), Cond.methodLink RJx4a65c 118 yJ15_checkIndex_7cf53, Cond.static yJ15_checkIndex_7cf53, Cond.initialized RJ15, Cond.code yJ15_checkIndex_7cf53 cJ15_checkIndex_7cf53 2 (some .int), Cond.methodLink RJ15 105 yJ3_checkIndex_8e157, Cond.static yJ3_checkIndex_8e157, Cond.initialized RJ3]
def wsX6_changed_r2 : List Cond := [Cond.code yJ3_checkIndex_8e157 cJ3_checkIndex_8e157 3 (some .int), Cond.methodLink RJx4a65c 123 yJx4a65c_elementData_915e3, Cond.instanceMethod yJx4a65c_elementData_915e3, Cond.selects RJx4a65c yJx4a65c_elementData_915e3 yJx4a65c_elementData_915e3, Cond.code yJx4a65c_elementData_915e3 cJx4a65c_elementData_915e3 2 (some (.object "java/lang/Object")), Cond.fieldLink RJx4a65c 9 "java/util/ArrayList" "elementData" "[Ljava/lang/Object;"]
def wsX6_changed : List Cond := .code yX6_changed cX6_changed 6 (some .int) :: ((wsX6_changed_r1 ++ wsX6_changed_r2) ++ wsX60 ++ wsX40 ++ wsX20 ++ wsX10 ++ wsJx4a65c0 ++ (vx_atS RX6 70 "java/lang/IndexOutOfBoundsException" ["java/lang/RuntimeException", "java/lang/Exception"]).filter goodWord ++ (vx_atS RX6 44 "java/lang/IllegalArgumentException" ["java/lang/RuntimeException", "java/lang/Exception"]).filter goodWord)
def wsX6_at_r1 : List Cond := [Cond.classLink RX6 66 "java/lang/IndexOutOfBoundsException", Cond.initialized "java/lang/IndexOutOfBoundsException", Cond.fieldLink RX6 10 "TraceBook" "allWires" "LTraceBook$Wires;", Cond.fieldLink RX6 26 "TraceBook" "row" "LTraceBook$Row;", Cond.methodLink RX6 102 yX5_hasElement, Cond.instanceMethod yX5_hasElement, Cond.selects RX5 yX5_hasElement yX5_hasElement, Cond.initialized RX5, Cond.code yX5_hasElement cX5_hasElement 3 (some .boolean), Cond.methodLink RX5 19 yX5_has, Cond.instanceMethod yX5_has, Cond.selects RX5 yX5_has yX5_has, Cond.code yX5_has cX5_has 2 (some .boolean), Cond.fieldLink RX5 15 "TraceBook$Wires" "count" "I", Cond.fieldLink RX5 9 "TraceBook$Wires" "widths" "[I", Cond.methodLink RX5 23 yX5_widthOf, Cond.instanceMethod yX5_widthOf, Cond.selects RX5 yX5_widthOf yX5_widthOf, Cond.code yX5_widthOf cX5_widthOf 2 (some .int), Cond.methodLink RX6 160 yX4_valueBehind, Cond.instanceMethod yX4_valueBehind, Cond.selects RX4 yX4_valueBehind yX4_valueBehind, Cond.initialized RX4, Cond.code yX4_valueBehind cX4_valueBehind 10 (some .int)]
def wsX6_at_r2 : List Cond := [Cond.fieldLink RX4 21 "TraceBook$Row" "moments" "Ljava/util/ArrayList;", Cond.classLink RX4 54 "TraceBook$Moment", Cond.methodLink RX4 46 yJx4a65c_size_8abf5, Cond.instanceMethod yJx4a65c_size_8abf5, Cond.selects RJx4a65c yJx4a65c_size_8abf5 yJx4a65c_size_8abf5, Cond.initialized RJx4a65c, Cond.code yJx4a65c_size_8abf5 cJx4a65c_size_8abf5 1 (some .int), Cond.fieldLink RJx4a65c 48 "java/util/ArrayList" "size" "I", Cond.methodLink RX4 50 yJx4a65c_get_915e3, Cond.instanceMethod yJx4a65c_get_915e3, Cond.selects RJx4a65c yJx4a65c_get_915e3 yJx4a65c_get_915e3, Cond.code yJx4a65c_get_915e3 cJx4a65c_get_915e3 2 (some (.object "java/lang/Object")), Cond.methodLink RJx4a65c 118 yJ15_checkIndex_7cf53, Cond.static yJ15_checkIndex_7cf53, Cond.initialized RJ15, Cond.code yJ15_checkIndex_7cf53 cJ15_checkIndex_7cf53 2 (some .int), Cond.methodLink RJ15 105 yJ3_checkIndex_8e157, Cond.static yJ3_checkIndex_8e157, Cond.initialized RJ3, Cond.code yJ3_checkIndex_8e157 cJ3_checkIndex_8e157 3 (some .int), Cond.methodLink RJx4a65c 123 yJx4a65c_elementData_915e3, Cond.instanceMethod yJx4a65c_elementData_915e3, Cond.selects RJx4a65c yJx4a65c_elementData_915e3 yJx4a65c_elementData_915e3, Cond.code yJx4a65c_elementData_915e3 cJx4a65c_elementData_915e3 2 (some (.object "java/lang/Object"))]
def wsX6_at_r3 : List Cond := [Cond.fieldLink RJx4a65c 9 "java/util/ArrayList" "elementData" "[Ljava/lang/Object;", Cond.methodLink RX4 69 yX2_isLaterThan, Cond.instanceMethod yX2_isLaterThan, Cond.selects RX2 yX2_isLaterThan yX2_isLaterThan, Cond.initialized RX2, Cond.code yX2_isLaterThan cX2_isLaterThan 5 (some .boolean), Cond.fieldLink RX2 9 "TraceBook$Moment" "time" "J", Cond.fieldLink RX2 15 "TraceBook$Moment" "step" "J", Cond.methodLink RX4 73 yX2_valueBehind, Cond.instanceMethod yX2_valueBehind, Cond.selects RX2 yX2_valueBehind yX2_valueBehind, Cond.code yX2_valueBehind cX2_valueBehind 5 (some .int), Cond.fieldLink RX2 21 "TraceBook$Moment" "changes" "Ljava/util/ArrayList;", Cond.classLink RX2 41 "TraceBook$Change", Cond.methodLink RX2 29 yX2_indexFor, Cond.instanceMethod yX2_indexFor, Cond.selects RX2 yX2_indexFor yX2_indexFor, Cond.code yX2_indexFor cX2_indexFor 4 (some .int), Cond.methodLink RX2 33 yJx4a65c_size_8abf5, Cond.methodLink RX2 37 yJx4a65c_get_915e3, Cond.methodLink RX2 67 yX1_standsBefore, Cond.instanceMethod yX1_standsBefore, Cond.selects RX1 yX1_standsBefore yX1_standsBefore, Cond.initialized RX1]
def wsX6_at_r4 : List Cond := [Cond.code yX1_standsBefore cX1_standsBefore 3 (some .boolean), Cond.fieldLink RX1 7 "TraceBook$Change" "wire" "I", Cond.fieldLink RX1 13 "TraceBook$Change" "element" "I", Cond.methodLink RX2 46 yX2_isChangeOf, Cond.instanceMethod yX2_isChangeOf, Cond.selects RX2 yX2_isChangeOf yX2_isChangeOf, Cond.code yX2_isChangeOf cX2_isChangeOf 4 (some .boolean), Cond.methodLink RX2 71 yX1_isOf, Cond.instanceMethod yX1_isOf, Cond.selects RX1 yX1_isOf yX1_isOf, Cond.code yX1_isOf cX1_isOf 3 (some .boolean)]
def wsX6_at : List Cond := .code yX6_at cX6_at 7 (some .int) :: ((wsX6_at_r1 ++ (wsX6_at_r2 ++ (wsX6_at_r3 ++ wsX6_at_r4))) ++ wsX60 ++ wsX50 ++ wsX40 ++ wsJx4a65c0 ++ wsX20 ++ wsX10 ++ (vx_atS RX6 70 "java/lang/IndexOutOfBoundsException" ["java/lang/RuntimeException", "java/lang/Exception"]).filter goodWord)
def wsX6_next_r1 : List Cond := [Cond.classLink RX6 66 "java/lang/IndexOutOfBoundsException", Cond.initialized "java/lang/IndexOutOfBoundsException", Cond.classLink RX6 40 "java/lang/IllegalArgumentException", Cond.initialized "java/lang/IllegalArgumentException", Cond.fieldLink RX6 10 "TraceBook" "allWires" "LTraceBook$Wires;", Cond.fieldLink RX6 26 "TraceBook" "row" "LTraceBook$Row;", Cond.classLink RX6 78 "TraceBook$Moment", Cond.methodLink RX6 62 yX5_has, Cond.instanceMethod yX5_has, Cond.selects RX5 yX5_has yX5_has, Cond.initialized RX5, Cond.code yX5_has cX5_has 2 (some .boolean), Cond.fieldLink RX5 15 "TraceBook$Wires" "count" "I", Cond.fieldLink RX5 9 "TraceBook$Wires" "widths" "[I", Cond.methodLink RX6 124 yJx4a65c_size_8abf5, Cond.instanceMethod yJx4a65c_size_8abf5, Cond.selects RJx4a65c yJx4a65c_size_8abf5 yJx4a65c_size_8abf5, Cond.initialized RJx4a65c, Cond.code yJx4a65c_size_8abf5 cJx4a65c_size_8abf5 1 (some .int), Cond.fieldLink RJx4a65c 48 "java/util/ArrayList" "size" "I", Cond.methodLink RX6 135 yJx4a65c_get_915e3, Cond.instanceMethod yJx4a65c_get_915e3, Cond.selects RJx4a65c yJx4a65c_get_915e3 yJx4a65c_get_915e3, Cond.code yJx4a65c_get_915e3 cJx4a65c_get_915e3 2 (some (.object "java/lang/Object"))]
def wsX6_next_r2 : List Cond := [Cond.methodLink RJx4a65c 118 yJ15_checkIndex_7cf53, Cond.static yJ15_checkIndex_7cf53, Cond.initialized RJ15, Cond.code yJ15_checkIndex_7cf53 cJ15_checkIndex_7cf53 2 (some .int), Cond.methodLink RJ15 105 yJ3_checkIndex_8e157, Cond.static yJ3_checkIndex_8e157, Cond.initialized RJ3, Cond.code yJ3_checkIndex_8e157 cJ3_checkIndex_8e157 3 (some .int), Cond.methodLink RJx4a65c 123 yJx4a65c_elementData_915e3, Cond.instanceMethod yJx4a65c_elementData_915e3, Cond.selects RJx4a65c yJx4a65c_elementData_915e3 yJx4a65c_elementData_915e3, Cond.code yJx4a65c_elementData_915e3 cJx4a65c_elementData_915e3 2 (some (.object "java/lang/Object")), Cond.fieldLink RJx4a65c 9 "java/util/ArrayList" "elementData" "[Ljava/lang/Object;", Cond.methodLink RX6 166 yX2_changesWire, Cond.instanceMethod yX2_changesWire, Cond.selects RX2 yX2_changesWire yX2_changesWire, Cond.initialized RX2, Cond.code yX2_changesWire cX2_changesWire 3 (some .boolean), Cond.fieldLink RX2 21 "TraceBook$Moment" "changes" "Ljava/util/ArrayList;", Cond.classLink RX2 41 "TraceBook$Change", Cond.methodLink RX2 29 yX2_indexFor, Cond.instanceMethod yX2_indexFor, Cond.selects RX2 yX2_indexFor yX2_indexFor, Cond.code yX2_indexFor cX2_indexFor 4 (some .int)]
def wsX6_next_r3 : List Cond := [Cond.methodLink RX2 33 yJx4a65c_size_8abf5, Cond.methodLink RX2 37 yJx4a65c_get_915e3, Cond.methodLink RX2 67 yX1_standsBefore, Cond.instanceMethod yX1_standsBefore, Cond.selects RX1 yX1_standsBefore yX1_standsBefore, Cond.initialized RX1, Cond.code yX1_standsBefore cX1_standsBefore 3 (some .boolean), Cond.fieldLink RX1 7 "TraceBook$Change" "wire" "I", Cond.fieldLink RX1 13 "TraceBook$Change" "element" "I"]
def wsX6_next : List Cond := .code yX6_next cX6_next 4 (some .int) :: ((wsX6_next_r1 ++ (wsX6_next_r2 ++ wsX6_next_r3)) ++ wsX60 ++ wsX40 ++ wsX50 ++ wsJx4a65c0 ++ wsX20 ++ wsX10 ++ (vx_atS RX6 70 "java/lang/IndexOutOfBoundsException" ["java/lang/RuntimeException", "java/lang/Exception"]).filter goodWord ++ (vx_atS RX6 44 "java/lang/IllegalArgumentException" ["java/lang/RuntimeException", "java/lang/Exception"]).filter goodWord)
def wsX6_size : List Cond := .code yX6_size cX6_size 1 (some .int) :: ([.fieldLink RX6 26 "TraceBook" "row" "LTraceBook$Row;"] ++ wsX60 ++ wsX40 ++ wsX00)
def wsX6_byteAt : List Cond := .code yX6_byteAt cX6_byteAt 2 (some .int) :: ([.classLink RX6 66 "java/lang/IndexOutOfBoundsException", .initialized "java/lang/IndexOutOfBoundsException", .fieldLink RX6 26 "TraceBook" "row" "LTraceBook$Row;", .methodLink RX6 177 yX0_get, .instanceMethod yX0_get, .selects RX0 yX0_get yX0_get, .initialized RX0, .code yX0_get cX0_get 2 (some .int), .fieldLink RX0 15 "TraceBook$Bytes" "length" "I", .fieldLink RX0 9 "TraceBook$Bytes" "kept" "[B"] ++ wsX60 ++ wsX40 ++ wsX00 ++ (vx_atS RX6 70 "java/lang/IndexOutOfBoundsException" ["java/lang/RuntimeException", "java/lang/Exception"]).filter goodWord)
def wsX6_feed_r1 : List Cond := [Cond.classLink RX6 51 "java/lang/IllegalStateException", Cond.initialized "java/lang/IllegalStateException", Cond.fieldLink RX6 19 "TraceBook" "tape" "LTraceBook$Bytes;", Cond.constant RX6 179 (59996), Cond.methodLink RX6 182 yX0_add, Cond.instanceMethod yX0_add, Cond.selects RX0 yX0_add yX0_add, Cond.initialized RX0, Cond.code yX0_add cX0_add 2 none, Cond.fieldLink RX0 15 "TraceBook$Bytes" "length" "I", Cond.fieldLink RX0 9 "TraceBook$Bytes" "kept" "[B", Cond.methodLink RX0 19 yJ7_copyOf_9075b, Cond.static yJ7_copyOf_9075b, Cond.initialized RJ7, Cond.code yJ7_copyOf_9075b cJ7_copyOf_9075b 3 (some (.array .byte)), Cond.methodLink RJ7 310 ⟨"[B", "clone", "()Ljava/lang/Object;"⟩, Cond.sameMethod "[B" "java/lang/Object" "clone" "()Ljava/lang/Object;", Cond.native ⟨"java/lang/Object", "clone", "()Ljava/lang/Object;"⟩, Cond.instanceMethod ⟨"java/lang/Object", "clone", "()Ljava/lang/Object;"⟩, Cond.selects "[B" ⟨"[B", "clone", "()Ljava/lang/Object;"⟩ ⟨"java/lang/Object", "clone", "()Ljava/lang/Object;"⟩, Cond.classLink RJ7 311 "[B", Cond.arrayClass .byte, Cond.methodLink RJ7 304 Lib.Math.min.name, Cond.static Lib.Math.min.name]
def wsX6_feed_r2 : List Cond := [Cond.initialized "java/lang/Math", Cond.code Lib.Math.min.name Lib.Math.min.code 2 (some .int), Cond.methodLink RJ7 150 arraycopyName, Cond.native arraycopyName, Cond.static arraycopyName, Cond.initialized "java/lang/System"]
def wsX6_feed : List Cond := .code yX6_feed cX6_feed 3 (some .int) :: ((wsX6_feed_r1 ++ wsX6_feed_r2) ++ wsX60 ++ wsX00 ++ (vx_atS RX6 55 "java/lang/IllegalStateException" ["java/lang/RuntimeException", "java/lang/Exception"]).filter goodWord)
def wsX6_end : List Cond := .code yX6_end cX6_end 2 none :: ([.classLink RX6 40 "java/lang/IllegalArgumentException", .initialized "java/lang/IllegalArgumentException", .fieldLink RX6 19 "TraceBook" "tape" "LTraceBook$Bytes;", .methodLink RX6 187 yX0_cut, .instanceMethod yX0_cut, .selects RX0 yX0_cut yX0_cut, .initialized RX0, .code yX0_cut cX0_cut 2 none, .fieldLink RX0 15 "TraceBook$Bytes" "length" "I"] ++ wsX60 ++ wsX00 ++ (vx_atS RX6 44 "java/lang/IllegalArgumentException" ["java/lang/RuntimeException", "java/lang/Exception"]).filter goodWord)
def wsX6_takeSpareRow_r1 : List Cond := [Cond.fieldLink RX6 30 "TraceBook" "spareRow" "LTraceBook$Row;", Cond.fieldLink RX6 26 "TraceBook" "row" "LTraceBook$Row;", Cond.fieldLink RX6 33 "TraceBook" "latest" "LTraceBook$Moment;", Cond.fieldLink RX6 37 "TraceBook" "openMoment" "LTraceBook$Moment;", Cond.methodLink RX6 204 yX4_lastMoment, Cond.instanceMethod yX4_lastMoment, Cond.selects RX4 yX4_lastMoment yX4_lastMoment, Cond.initialized RX4, Cond.code yX4_lastMoment cX4_lastMoment 1 (some (.object "TraceBook$Moment")), Cond.fieldLink RX4 21 "TraceBook$Row" "moments" "Ljava/util/ArrayList;", Cond.classLink RX4 54 "TraceBook$Moment", Cond.methodLink RX4 42 yJx4a65c_isEmpty_aae02, Cond.instanceMethod yJx4a65c_isEmpty_aae02, Cond.selects RJx4a65c yJx4a65c_isEmpty_aae02 yJx4a65c_isEmpty_aae02, Cond.initialized RJx4a65c, Cond.code yJx4a65c_isEmpty_aae02 cJx4a65c_isEmpty_aae02 1 (some .boolean), Cond.fieldLink RJx4a65c 48 "java/util/ArrayList" "size" "I", Cond.methodLink RX4 46 yJx4a65c_size_8abf5, Cond.instanceMethod yJx4a65c_size_8abf5, Cond.selects RJx4a65c yJx4a65c_size_8abf5 yJx4a65c_size_8abf5, Cond.code yJx4a65c_size_8abf5 cJx4a65c_size_8abf5 1 (some .int), Cond.methodLink RX4 50 yJx4a65c_get_915e3, Cond.instanceMethod yJx4a65c_get_915e3, Cond.selects RJx4a65c yJx4a65c_get_915e3 yJx4a65c_get_915e3]
def wsX6_takeSpareRow_r2 : List Cond := [Cond.code yJx4a65c_get_915e3 cJx4a65c_get_915e3 2 (some (.object "java/lang/Object")), Cond.methodLink RJx4a65c 118 yJ15_checkIndex_7cf53, Cond.static yJ15_checkIndex_7cf53, Cond.initialized RJ15, Cond.code yJ15_checkIndex_7cf53 cJ15_checkIndex_7cf53 2 (some .int), Cond.methodLink RJ15 105 yJ3_checkIndex_8e157, Cond.static yJ3_checkIndex_8e157, Cond.initialized RJ3, Cond.code yJ3_checkIndex_8e157 cJ3_checkIndex_8e157 3 (some .int), Cond.methodLink RJx4a65c 123 yJx4a65c_elementData_915e3, Cond.instanceMethod yJx4a65c_elementData_915e3, Cond.selects RJx4a65c yJx4a65c_elementData_915e3 yJx4a65c_elementData_915e3, Cond.code yJx4a65c_elementData_915e3 cJx4a65c_elementData_915e3 2 (some (.object "java/lang/Object")), Cond.fieldLink RJx4a65c 9 "java/util/ArrayList" "elementData" "[Ljava/lang/Object;"]
def wsX6_takeSpareRow : List Cond := .code yX6_takeSpareRow cX6_takeSpareRow 2 none :: ((wsX6_takeSpareRow_r1 ++ wsX6_takeSpareRow_r2) ++ wsX60 ++ wsX40 ++ wsJx4a65c0)
def wsX6_load_r1 : List Cond := [Cond.fieldLink RX6 30 "TraceBook" "spareRow" "LTraceBook$Row;", Cond.classLink RX6 193 RX3, Cond.instantiable RX3 5, Cond.initialized RX3, Cond.fieldLink RX6 19 "TraceBook" "tape" "LTraceBook$Bytes;", Cond.fieldLink RX6 10 "TraceBook" "allWires" "LTraceBook$Wires;", Cond.methodLink RX6 190 yX4_clear, Cond.instanceMethod yX4_clear, Cond.selects RX4 yX4_clear yX4_clear, Cond.initialized RX4, Cond.code yX4_clear cX4_clear 1 none, Cond.fieldLink RX4 12 "TraceBook$Row" "bytes" "LTraceBook$Bytes;", Cond.fieldLink RX4 21 "TraceBook$Row" "moments" "Ljava/util/ArrayList;", Cond.fieldLink RX4 25 "TraceBook$Row" "values" "[B", Cond.methodLink RX4 29 yX0_cut, Cond.instanceMethod yX0_cut, Cond.selects RX0 yX0_cut yX0_cut, Cond.initialized RX0, Cond.code yX0_cut cX0_cut 2 none, Cond.fieldLink RX0 15 "TraceBook$Bytes" "length" "I", Cond.methodLink RX4 33 yJx4a65c_clear_da8c8, Cond.instanceMethod yJx4a65c_clear_da8c8, Cond.selects RJx4a65c yJx4a65c_clear_da8c8 yJx4a65c_clear_da8c8, Cond.initialized RJx4a65c]
def wsX6_load_r2 : List Cond := [Cond.code yJx4a65c_clear_da8c8 cJx4a65c_clear_da8c8 4 none, Cond.fieldLink RJx4a65c 63 "java/util/ArrayList" "modCount" "I", Cond.sameField "java/util/ArrayList" "java/util/AbstractList" "modCount" "I", Cond.fieldLink RJx4a65c 9 "java/util/ArrayList" "elementData" "[Ljava/lang/Object;", Cond.fieldLink RJx4a65c 48 "java/util/ArrayList" "size" "I", Cond.methodLink RX4 36 yJ7_fill_031fb, Cond.static yJ7_fill_031fb, Cond.initialized RJ7, Cond.code yJ7_fill_031fb cJ7_fill_031fb 4 none, Cond.methodLink RX6 195 yX3_init, Cond.instanceMethod yX3_init, Cond.code yX3_init cX3_init 4 none, Cond.methodLink RX3 3 objectInit, Cond.instanceMethod objectInit, Cond.code objectInit ⟨#[0xb1]⟩ 1 none, Cond.fieldLink RX3 9 "TraceBook$Reader" "tape" "LTraceBook$Bytes;", Cond.fieldLink RX3 15 "TraceBook$Reader" "wires" "LTraceBook$Wires;", Cond.fieldLink RX3 19 "TraceBook$Reader" "row" "LTraceBook$Row;", Cond.fieldLink RX3 23 "TraceBook$Reader" "place" "I", Cond.fieldLink RX3 27 "TraceBook$Reader" "fault" "I", Cond.methodLink RX6 198 yX3_readRow, Cond.instanceMethod yX3_readRow, Cond.selects RX3 yX3_readRow yX3_readRow, Cond.code yX3_readRow cX3_readRow 3 (some .int)]
def wsX6_load_r3 : List Cond := [Cond.methodLink RX3 35 yX3_readMoment, Cond.instanceMethod yX3_readMoment, Cond.selects RX3 yX3_readMoment yX3_readMoment, Cond.code yX3_readMoment cX3_readMoment 16 (some (.object "TraceBook$Moment")), Cond.constantLong RX3 55 (1152921504606846975), Cond.constantLong RX3 61 (4611686018427387903), Cond.classLink RX3 63 RX2, Cond.instantiable RX2 4, Cond.initialized RX2, Cond.methodLink RX3 45 yX3_readCount, Cond.instanceMethod yX3_readCount, Cond.selects RX3 yX3_readCount yX3_readCount, Cond.code yX3_readCount cX3_readCount 7 (some .long), Cond.constantLong RX3 120 (-1), Cond.constantLong RX3 124 (127), Cond.methodLink RX3 122 yX0_get, Cond.instanceMethod yX0_get, Cond.selects RX0 yX0_get yX0_get, Cond.code yX0_get cX0_get 2 (some .int), Cond.fieldLink RX0 9 "TraceBook$Bytes" "kept" "[B", Cond.methodLink RX3 49 yX4_lastTime, Cond.instanceMethod yX4_lastTime, Cond.selects RX4 yX4_lastTime yX4_lastTime, Cond.code yX4_lastTime cX4_lastTime 2 (some .long)]
def wsX6_load_r4 : List Cond := [Cond.methodLink RX4 56 yX4_lastMoment, Cond.instanceMethod yX4_lastMoment, Cond.selects RX4 yX4_lastMoment yX4_lastMoment, Cond.code yX4_lastMoment cX4_lastMoment 1 (some (.object "TraceBook$Moment")), Cond.classLink RX4 54 "TraceBook$Moment", Cond.methodLink RX4 42 yJx4a65c_isEmpty_aae02, Cond.instanceMethod yJx4a65c_isEmpty_aae02, Cond.selects RJx4a65c yJx4a65c_isEmpty_aae02 yJx4a65c_isEmpty_aae02, Cond.code yJx4a65c_isEmpty_aae02 cJx4a65c_isEmpty_aae02 1 (some .boolean), Cond.methodLink RX4 46 yJx4a65c_size_8abf5, Cond.instanceMethod yJx4a65c_size_8abf5, Cond.selects RJx4a65c yJx4a65c_size_8abf5 yJx4a65c_size_8abf5, Cond.code yJx4a65c_size_8abf5 cJx4a65c_size_8abf5 1 (some .int), Cond.methodLink RX4 50 yJx4a65c_get_915e3, Cond.instanceMethod yJx4a65c_get_915e3, Cond.selects RJx4a65c yJx4a65c_get_915e3 yJx4a65c_get_915e3, Cond.code yJx4a65c_get_915e3 cJx4a65c_get_915e3 2 (some (.object "java/lang/Object")), Cond.methodLink RJx4a65c 118 yJ15_checkIndex_7cf53, Cond.static yJ15_checkIndex_7cf53, Cond.initialized RJ15, Cond.code yJ15_checkIndex_7cf53 cJ15_checkIndex_7cf53 2 (some .int), Cond.methodLink RJ15 105 yJ3_checkIndex_8e157, Cond.static yJ3_checkIndex_8e157, Cond.initialized RJ3]
def wsX6_load_r5 : List Cond := [Cond.code yJ3_checkIndex_8e157 cJ3_checkIndex_8e157 3 (some .int), Cond.methodLink RJx4a65c 123 yJx4a65c_elementData_915e3, Cond.instanceMethod yJx4a65c_elementData_915e3, Cond.selects RJx4a65c yJx4a65c_elementData_915e3 yJx4a65c_elementData_915e3, Cond.code yJx4a65c_elementData_915e3 cJx4a65c_elementData_915e3 2 (some (.object "java/lang/Object")), Cond.methodLink RX3 52 yX4_lastStep, Cond.instanceMethod yX4_lastStep, Cond.selects RX4 yX4_lastStep yX4_lastStep, Cond.code yX4_lastStep cX4_lastStep 2 (some .long), Cond.constantLong RX4 64 (-1), Cond.methodLink RX3 57 yX3_readCountWithin, Cond.instanceMethod yX3_readCountWithin, Cond.selects RX3 yX3_readCountWithin yX3_readCountWithin, Cond.code yX3_readCountWithin cX3_readCountWithin 8 (some .long), Cond.methodLink RX3 65 yX2_init, Cond.instanceMethod yX2_init, Cond.code yX2_init cX2_init 5 none, Cond.methodLink RX2 3 objectInit, Cond.fieldLink RX2 9 "TraceBook$Moment" "time" "J", Cond.fieldLink RX2 15 "TraceBook$Moment" "step" "J", Cond.classLink RX2 18 RJx4a65c, Cond.instantiable RJx4a65c 3, Cond.fieldLink RX2 21 "TraceBook$Moment" "changes" "Ljava/util/ArrayList;", Cond.fieldLink RX2 25 "TraceBook$Moment" "place" "I"]
def wsX6_load_r6 : List Cond := [Cond.methodLink RX2 20 yJx4a65c_init_da8c8, Cond.instanceMethod yJx4a65c_init_da8c8, Cond.code yJx4a65c_init_da8c8 cJx4a65c_init_da8c8 1 none, Cond.fieldLink RJx4a65c 39 "java/util/ArrayList" "DEFAULTCAPACITY_EMPTY_ELEMENTDATA" "[Ljava/lang/Object;", Cond.methodLink RJx4a65c 1 yJxc12de_init_da8c8, Cond.instanceMethod yJxc12de_init_da8c8, Cond.initialized RJxc12de, Cond.code yJxc12de_init_da8c8 cJxc12de_init_da8c8 1 none, Cond.fieldLink RJxc12de 7 "java/util/AbstractList" "modCount" "I", Cond.methodLink RJxc12de 1 yJxa1e45_init_da8c8, Cond.instanceMethod yJxa1e45_init_da8c8, Cond.initialized RJxa1e45, Cond.code yJxa1e45_init_da8c8 cJxa1e45_init_da8c8 1 none, Cond.methodLink RJxa1e45 1 objectInit, Cond.methodLink RX3 72 yX3_readChange, Cond.instanceMethod yX3_readChange, Cond.selects RX3 yX3_readChange yX3_readChange, Cond.code yX3_readChange cX3_readChange 16 none, Cond.classLink RX3 90 "TraceBook$Change", Cond.constantLong RX3 103 (15), Cond.classLink RX3 90 RX1, Cond.instantiable RX1 4, Cond.initialized RX1, Cond.methodLink RX3 76 yJx4a65c_isEmpty_aae02]
def wsX6_load_r7 : List Cond := [Cond.methodLink RX3 82 yJx4a65c_size_8abf5, Cond.methodLink RX3 86 yJx4a65c_get_915e3, Cond.methodLink RX3 105 yX5_widthOf, Cond.instanceMethod yX5_widthOf, Cond.selects RX5 yX5_widthOf yX5_widthOf, Cond.initialized RX5, Cond.code yX5_widthOf cX5_widthOf 2 (some .int), Cond.fieldLink RX5 9 "TraceBook$Wires" "widths" "[I", Cond.methodLink RX5 19 yX5_has, Cond.instanceMethod yX5_has, Cond.selects RX5 yX5_has yX5_has, Cond.code yX5_has cX5_has 2 (some .boolean), Cond.fieldLink RX5 15 "TraceBook$Wires" "count" "I", Cond.methodLink RX3 109 yX4_valueOf, Cond.instanceMethod yX4_valueOf, Cond.selects RX4 yX4_valueOf yX4_valueOf, Cond.code yX4_valueOf cX4_valueOf 4 (some .int), Cond.methodLink RX3 113 yX1_init, Cond.instanceMethod yX1_init, Cond.code yX1_init cX1_init 5 none, Cond.methodLink RX1 1 objectInit, Cond.fieldLink RX1 7 "TraceBook$Change" "wire" "I", Cond.fieldLink RX1 13 "TraceBook$Change" "element" "I", Cond.fieldLink RX1 16 "TraceBook$Change" "value" "I"]
def wsX6_load_r8 : List Cond := [Cond.fieldLink RX1 19 "TraceBook$Change" "before" "I", Cond.methodLink RX3 116 yJx4a65c_add_9ea2d, Cond.instanceMethod yJx4a65c_add_9ea2d, Cond.selects RJx4a65c yJx4a65c_add_9ea2d yJx4a65c_add_9ea2d, Cond.code yJx4a65c_add_9ea2d cJx4a65c_add_9ea2d 2 (some .boolean), Cond.methodLink RJx4a65c 131 yJx4a65c_add_72be8, Cond.instanceMethod yJx4a65c_add_72be8, Cond.selects RJx4a65c yJx4a65c_add_72be8 yJx4a65c_add_72be8, Cond.code yJx4a65c_add_72be8 cJx4a65c_add_72be8 4 none, Cond.methodLink RJx4a65c 129 yJx4a65c_grow_d5877, Cond.instanceMethod yJx4a65c_grow_d5877, Cond.selects RJx4a65c yJx4a65c_grow_d5877 yJx4a65c_grow_d5877, Cond.code yJx4a65c_grow_d5877 cJx4a65c_grow_d5877 1 (some (.array (.object "java/lang/Object"))), Cond.methodLink RJx4a65c 69 yJx4a65c_grow_92f84, Cond.instanceMethod yJx4a65c_grow_92f84, Cond.selects RJx4a65c yJx4a65c_grow_92f84 yJx4a65c_grow_92f84, Cond.code yJx4a65c_grow_92f84 cJx4a65c_grow_92f84 4 (some (.array (.object "java/lang/Object"))), Cond.methodLink RJx4a65c 79 Lib.Math.max.name, Cond.static Lib.Math.max.name, Cond.initialized "java/lang/Math", Cond.code Lib.Math.max.name Lib.Math.max.code 2 (some .int), Cond.classLink RJx4a65c 7 "java/lang/Object", Cond.methodLink RJx4a65c 73 yJ8_newLength_cabcc, Cond.static yJ8_newLength_cabcc]
def wsX6_load_r9 : List Cond := [Cond.initialized RJ8, Cond.code yJ8_newLength_cabcc cJ8_newLength_cabcc 4 (some .int), Cond.methodLink RJ8 194 Lib.Math.max.name, Cond.constant RJ8 200 (2147483639), Cond.methodLink RJ8 201 yJ8_hugeLength_7cf53, Cond.static yJ8_hugeLength_7cf53, Cond.code yJ8_hugeLength_7cf53 cJ8_hugeLength_7cf53 3 (some .int), Cond.methodLink RJx4a65c 66 yJ7_copyOf_1904c, Cond.static yJ7_copyOf_1904c, Cond.code yJ7_copyOf_1904c cJ7_copyOf_1904c 2 (some (.array (.object "java/lang/Object"))), Cond.methodLink RJ7 86 ⟨"java/lang/Object", "getClass", "()Ljava/lang/Class;"⟩, Cond.selects "[Ljava/lang/Object;" ⟨"java/lang/Object", "getClass", "()Ljava/lang/Class;"⟩ ⟨"java/lang/Object", "getClass", "()Ljava/lang/Class;"⟩, Cond.instanceMethod ⟨"java/lang/Object", "getClass", "()Ljava/lang/Class;"⟩, Cond.native ⟨"java/lang/Object", "getClass", "()Ljava/lang/Class;"⟩, Cond.methodLink RJ7 300 yJ7_copyOf_6403c, Cond.static yJ7_copyOf_6403c, Cond.code yJ7_copyOf_6403c cJ7_copyOf_6403c 4 (some (.array (.object "java/lang/Object"))), Cond.classLink RJ7 110 "[Ljava/lang/Object;", Cond.classLink RJ7 2 "java/lang/Object", Cond.methodLink RJ7 304 Lib.Math.min.name, Cond.static Lib.Math.min.name, Cond.code Lib.Math.min.name Lib.Math.min.code 2 (some .int), Cond.methodLink RJ7 150 arraycopyName, Cond.native arraycopyName]
def wsX6_load_r10 : List Cond := [Cond.static arraycopyName, Cond.initialized "java/lang/System", Cond.methodLink RX3 39 yX4_append, Cond.instanceMethod yX4_append, Cond.selects RX4 yX4_append yX4_append, Cond.code yX4_append cX4_append 4 (some .boolean), Cond.constant RX4 85 (60000), Cond.classLink RX4 96 "TraceBook$Change", Cond.methodLink RX4 81 yX4_writeMoment, Cond.instanceMethod yX4_writeMoment, Cond.selects RX4 yX4_writeMoment yX4_writeMoment, Cond.code yX4_writeMoment cX4_writeMoment 7 none, Cond.constantLong RX4 106 (2), Cond.methodLink RX4 102 yX4_lastTime, Cond.methodLink RX4 108 yX4_lastStep, Cond.methodLink RX4 111 yX0_addCount, Cond.instanceMethod yX0_addCount, Cond.selects RX0 yX0_addCount yX0_addCount, Cond.code yX0_addCount cX0_addCount 6 none, Cond.constantLong RX0 25 (127), Cond.methodLink RX0 27 yX0_add, Cond.instanceMethod yX0_add, Cond.selects RX0 yX0_add yX0_add, Cond.code yX0_add cX0_add 2 none]
def wsX6_load_r11 : List Cond := [Cond.methodLink RX0 19 yJ7_copyOf_9075b, Cond.static yJ7_copyOf_9075b, Cond.code yJ7_copyOf_9075b cJ7_copyOf_9075b 3 (some (.array .byte)), Cond.methodLink RJ7 310 ⟨"[B", "clone", "()Ljava/lang/Object;"⟩, Cond.sameMethod "[B" "java/lang/Object" "clone" "()Ljava/lang/Object;", Cond.native ⟨"java/lang/Object", "clone", "()Ljava/lang/Object;"⟩, Cond.instanceMethod ⟨"java/lang/Object", "clone", "()Ljava/lang/Object;"⟩, Cond.selects "[B" ⟨"[B", "clone", "()Ljava/lang/Object;"⟩ ⟨"java/lang/Object", "clone", "()Ljava/lang/Object;"⟩, Cond.classLink RJ7 311 "[B", Cond.arrayClass .byte, Cond.methodLink RX4 89 yJx4a65c_add_9ea2d, Cond.methodLink RX4 98 yX4_keepValue, Cond.instanceMethod yX4_keepValue, Cond.selects RX4 yX4_keepValue yX4_keepValue, Cond.code yX4_keepValue cX4_keepValue 3 none, Cond.methodLink RX4 124 Lib.Math.max.name, Cond.methodLink RX4 130 yJ7_copyOf_9075b, Cond.methodLink RX6 187 yX0_cut, Cond.methodLink RX6 201 yX6_takeSpareRow, Cond.instanceMethod yX6_takeSpareRow, Cond.selects RX6 yX6_takeSpareRow yX6_takeSpareRow, Cond.initialized RX6, Cond.code yX6_takeSpareRow cX6_takeSpareRow 2 none, Cond.fieldLink RX6 26 "TraceBook" "row" "LTraceBook$Row;"]
def wsX6_load_r12 : List Cond := [Cond.fieldLink RX6 33 "TraceBook" "latest" "LTraceBook$Moment;", Cond.fieldLink RX6 37 "TraceBook" "openMoment" "LTraceBook$Moment;", Cond.methodLink RX6 204 yX4_lastMoment]
def wsX6_load : List Cond := .code yX6_load cX6_load 3 (some .int) :: ((wsX6_load_r1 ++ (wsX6_load_r2 ++ (wsX6_load_r3 ++ (wsX6_load_r4 ++ (wsX6_load_r5 ++ (wsX6_load_r6 ++ (wsX6_load_r7 ++ (wsX6_load_r8 ++ (wsX6_load_r9 ++ (wsX6_load_r10 ++ (wsX6_load_r11 ++ wsX6_load_r12))))))))))) ++ wsX60 ++ wsX30 ++ wsX40 ++ wsX00 ++ wsJx4a65c0 ++ wsX20 ++ wsX10 ++ wsX50)
def wsX7_init : List Cond := .code yX7_init cX7_init 1 none :: ([.methodLink RX7 1 objectInit, .instanceMethod objectInit, .code objectInit ⟨#[0xb1]⟩ 1 none, .arrayClass .int, .fieldLink RX7 7 "TraceBookModel" "widths" "[I", .fieldLink RX7 13 "TraceBookModel" "settled" "[I", .fieldLink RX7 16 "TraceBookModel" "now" "[I", .arrayClass .long, .fieldLink RX7 19 "TraceBookModel" "times" "[J", .fieldLink RX7 23 "TraceBookModel" "steps" "[J", .fieldLink RX7 26 "TraceBookModel" "begins" "[I", .fieldLink RX7 29 "TraceBookModel" "momentOf" "[I", .fieldLink RX7 32 "TraceBookModel" "placeOf" "[I", .fieldLink RX7 35 "TraceBookModel" "was" "[I", .fieldLink RX7 38 "TraceBookModel" "becomes" "[I", .constant RX7 41 (60000), .fieldLink RX7 42 "TraceBookModel" "row" "[I", .fieldLink RX7 45 "TraceBookModel" "tape" "[I", .fieldLink RX7 48 "TraceBookModel" "seen" "[I", .fieldLink RX7 51 "TraceBookModel" "readTimes" "[J", .fieldLink RX7 54 "TraceBookModel" "readSteps" "[J", .fieldLink RX7 57 "TraceBookModel" "readMany" "[I", .fieldLink RX7 60 "TraceBookModel" "readPlace" "[I", .fieldLink RX7 63 "TraceBookModel" "readValue" "[I"] ++ wsX70)
def wsX7_thrown : List Cond := .code yX7_thrown cX7_thrown 1 (some .int) :: ([.fieldLink RX7 66 "TraceBookModel" "code" "I"] ++ wsX70)
def wsX7_wire : List Cond := .code yX7_wire cX7_wire 3 (some .int) :: ([.fieldLink RX7 70 "TraceBookModel" "wires" "I", .fieldLink RX7 73 "TraceBookModel" "some" "Z", .fieldLink RX7 66 "TraceBookModel" "code" "I", .fieldLink RX7 7 "TraceBookModel" "widths" "[I", .fieldLink RX7 13 "TraceBookModel" "settled" "[I", .fieldLink RX7 16 "TraceBookModel" "now" "[I"] ++ wsX70)
def wsX7_wires : List Cond := .code yX7_wires cX7_wires 1 (some .int) :: ([.fieldLink RX7 66 "TraceBookModel" "code" "I", .fieldLink RX7 70 "TraceBookModel" "wires" "I"] ++ wsX70)
def wsX7_none : List Cond := .code yX7_none cX7_none 2 (some .boolean) :: ([.fieldLink RX7 70 "TraceBookModel" "wires" "I"] ++ wsX70)
def wsX7_width : List Cond := .code yX7_width cX7_width 2 (some .int) :: ([.fieldLink RX7 66 "TraceBookModel" "code" "I", .fieldLink RX7 7 "TraceBookModel" "widths" "[I", .methodLink RX7 77 yX7_none, .instanceMethod yX7_none, .selects RX7 yX7_none yX7_none, .initialized RX7, .code yX7_none cX7_none 2 (some .boolean), .fieldLink RX7 70 "TraceBookModel" "wires" "I"] ++ wsX70)
def wsX7_bytesOf : List Cond := .code yX7_bytesOf cX7_bytesOf 5 (some .int) :: ([.constantLong RX7 81 (128)])
def wsX7_write : List Cond := .code yX7_write cX7_write 5 none :: ([.constantLong RX7 83 (127), .fieldLink RX7 42 "TraceBookModel" "row" "[I", .fieldLink RX7 85 "TraceBookModel" "size" "I", .constantLong RX7 81 (128)] ++ wsX70)
def wsX7_lastTime : List Cond := .code yX7_lastTime cX7_lastTime 1 (some .long) :: ([.fieldLink RX7 88 "TraceBookModel" "moments" "I", .fieldLink RX7 19 "TraceBookModel" "times" "[J"] ++ wsX70)
def wsX7_lastStep : List Cond := .code yX7_lastStep cX7_lastStep 1 (some .long) :: ([.fieldLink RX7 88 "TraceBookModel" "moments" "I", .constantLong RX7 91 (-1), .fieldLink RX7 23 "TraceBookModel" "steps" "[J"] ++ wsX70)
def wsX7_head : List Cond := .code yX7_head cX7_head 1 (some .long) :: ([.fieldLink RX7 93 "TraceBookModel" "time" "J", .constantLong RX7 101 (2), .fieldLink RX7 103 "TraceBookModel" "step" "J", .methodLink RX7 97 yX7_lastTime, .instanceMethod yX7_lastTime, .selects RX7 yX7_lastTime yX7_lastTime, .initialized RX7, .code yX7_lastTime cX7_lastTime 1 (some .long), .fieldLink RX7 88 "TraceBookModel" "moments" "I", .fieldLink RX7 19 "TraceBookModel" "times" "[J", .methodLink RX7 106 yX7_lastStep, .instanceMethod yX7_lastStep, .selects RX7 yX7_lastStep yX7_lastStep, .code yX7_lastStep cX7_lastStep 1 (some .long), .constantLong RX7 91 (-1), .fieldLink RX7 23 "TraceBookModel" "steps" "[J"] ++ wsX70)
def wsX7_differs : List Cond := .code yX7_differs cX7_differs 2 (some .boolean) :: ([.fieldLink RX7 16 "TraceBookModel" "now" "[I", .fieldLink RX7 13 "TraceBookModel" "settled" "[I"] ++ wsX70)
def wsX7_many : List Cond := .code yX7_many cX7_many 3 (some .int) :: ([.fieldLink RX7 70 "TraceBookModel" "wires" "I", .methodLink RX7 109 yX7_differs, .instanceMethod yX7_differs, .selects RX7 yX7_differs yX7_differs, .initialized RX7, .code yX7_differs cX7_differs 2 (some .boolean), .fieldLink RX7 16 "TraceBookModel" "now" "[I", .fieldLink RX7 13 "TraceBookModel" "settled" "[I"] ++ wsX70)
def wsX7_codeOf : List Cond := .code yX7_codeOf cX7_codeOf 2 (some .long) :: ([.constantLong RX7 112 (16)])
def wsX7_finish_r1 : List Cond := [Cond.fieldLink RX7 93 "TraceBookModel" "time" "J", Cond.fieldLink RX7 103 "TraceBookModel" "step" "J", Cond.fieldLink RX7 70 "TraceBookModel" "wires" "I", Cond.fieldLink RX7 16 "TraceBookModel" "now" "[I", Cond.fieldLink RX7 85 "TraceBookModel" "size" "I", Cond.constant RX7 41 (60000), Cond.fieldLink RX7 26 "TraceBookModel" "begins" "[I", Cond.fieldLink RX7 88 "TraceBookModel" "moments" "I", Cond.fieldLink RX7 19 "TraceBookModel" "times" "[J", Cond.fieldLink RX7 23 "TraceBookModel" "steps" "[J", Cond.fieldLink RX7 29 "TraceBookModel" "momentOf" "[I", Cond.fieldLink RX7 133 "TraceBookModel" "changes" "I", Cond.fieldLink RX7 32 "TraceBookModel" "placeOf" "[I", Cond.fieldLink RX7 35 "TraceBookModel" "was" "[I", Cond.fieldLink RX7 13 "TraceBookModel" "settled" "[I", Cond.fieldLink RX7 38 "TraceBookModel" "becomes" "[I", Cond.methodLink RX7 114 yX7_many, Cond.instanceMethod yX7_many, Cond.selects RX7 yX7_many yX7_many, Cond.initialized RX7, Cond.code yX7_many cX7_many 3 (some .int), Cond.methodLink RX7 109 yX7_differs, Cond.instanceMethod yX7_differs, Cond.selects RX7 yX7_differs yX7_differs]
def wsX7_finish_r2 : List Cond := [Cond.code yX7_differs cX7_differs 2 (some .boolean), Cond.methodLink RX7 118 yX7_head, Cond.instanceMethod yX7_head, Cond.selects RX7 yX7_head yX7_head, Cond.code yX7_head cX7_head 1 (some .long), Cond.constantLong RX7 101 (2), Cond.methodLink RX7 97 yX7_lastTime, Cond.instanceMethod yX7_lastTime, Cond.selects RX7 yX7_lastTime yX7_lastTime, Cond.code yX7_lastTime cX7_lastTime 1 (some .long), Cond.methodLink RX7 106 yX7_lastStep, Cond.instanceMethod yX7_lastStep, Cond.selects RX7 yX7_lastStep yX7_lastStep, Cond.code yX7_lastStep cX7_lastStep 1 (some .long), Cond.constantLong RX7 91 (-1), Cond.methodLink RX7 121 yX7_bytesOf, Cond.static yX7_bytesOf, Cond.code yX7_bytesOf cX7_bytesOf 5 (some .int), Cond.constantLong RX7 81 (128), Cond.methodLink RX7 125 yX7_codeOf, Cond.static yX7_codeOf, Cond.code yX7_codeOf cX7_codeOf 2 (some .long), Cond.constantLong RX7 112 (16), Cond.methodLink RX7 129 yX7_write]
def wsX7_finish_r3 : List Cond := [Cond.instanceMethod yX7_write, Cond.selects RX7 yX7_write yX7_write, Cond.code yX7_write cX7_write 5 none, Cond.constantLong RX7 83 (127), Cond.fieldLink RX7 42 "TraceBookModel" "row" "[I"]
def wsX7_finish : List Cond := .code yX7_finish cX7_finish 6 (some .int) :: ((wsX7_finish_r1 ++ (wsX7_finish_r2 ++ wsX7_finish_r3)) ++ wsX70)
def wsX7_open_r1 : List Cond := [Cond.constantLong RX7 136 (1152921504606846976), Cond.fieldLink RX7 73 "TraceBookModel" "some" "Z", Cond.fieldLink RX7 93 "TraceBookModel" "time" "J", Cond.fieldLink RX7 103 "TraceBookModel" "step" "J", Cond.fieldLink RX7 66 "TraceBookModel" "code" "I", Cond.fieldLink RX7 138 "TraceBookModel" "open" "Z", Cond.methodLink RX7 141 yX7_finish, Cond.instanceMethod yX7_finish, Cond.selects RX7 yX7_finish yX7_finish, Cond.initialized RX7, Cond.code yX7_finish cX7_finish 6 (some .int), Cond.fieldLink RX7 70 "TraceBookModel" "wires" "I", Cond.fieldLink RX7 16 "TraceBookModel" "now" "[I", Cond.fieldLink RX7 85 "TraceBookModel" "size" "I", Cond.constant RX7 41 (60000), Cond.fieldLink RX7 26 "TraceBookModel" "begins" "[I", Cond.fieldLink RX7 88 "TraceBookModel" "moments" "I", Cond.fieldLink RX7 19 "TraceBookModel" "times" "[J", Cond.fieldLink RX7 23 "TraceBookModel" "steps" "[J", Cond.fieldLink RX7 29 "TraceBookModel" "momentOf" "[I", Cond.fieldLink RX7 133 "TraceBookModel" "changes" "I", Cond.fieldLink RX7 32 "TraceBookModel" "placeOf" "[I", Cond.fieldLink RX7 35 "TraceBookModel" "was" "[I", Cond.fieldLink RX7 13 "TraceBookModel" "settled" "[I"]
def wsX7_open_r2 : List Cond := [Cond.fieldLink RX7 38 "TraceBookModel" "becomes" "[I", Cond.methodLink RX7 114 yX7_many, Cond.instanceMethod yX7_many, Cond.selects RX7 yX7_many yX7_many, Cond.code yX7_many cX7_many 3 (some .int), Cond.methodLink RX7 109 yX7_differs, Cond.instanceMethod yX7_differs, Cond.selects RX7 yX7_differs yX7_differs, Cond.code yX7_differs cX7_differs 2 (some .boolean), Cond.methodLink RX7 118 yX7_head, Cond.instanceMethod yX7_head, Cond.selects RX7 yX7_head yX7_head, Cond.code yX7_head cX7_head 1 (some .long), Cond.constantLong RX7 101 (2), Cond.methodLink RX7 97 yX7_lastTime, Cond.instanceMethod yX7_lastTime, Cond.selects RX7 yX7_lastTime yX7_lastTime, Cond.code yX7_lastTime cX7_lastTime 1 (some .long), Cond.methodLink RX7 106 yX7_lastStep, Cond.instanceMethod yX7_lastStep, Cond.selects RX7 yX7_lastStep yX7_lastStep, Cond.code yX7_lastStep cX7_lastStep 1 (some .long), Cond.constantLong RX7 91 (-1), Cond.methodLink RX7 121 yX7_bytesOf]
def wsX7_open_r3 : List Cond := [Cond.static yX7_bytesOf, Cond.code yX7_bytesOf cX7_bytesOf 5 (some .int), Cond.constantLong RX7 81 (128), Cond.methodLink RX7 125 yX7_codeOf, Cond.static yX7_codeOf, Cond.code yX7_codeOf cX7_codeOf 2 (some .long), Cond.constantLong RX7 112 (16), Cond.methodLink RX7 129 yX7_write, Cond.instanceMethod yX7_write, Cond.selects RX7 yX7_write yX7_write, Cond.code yX7_write cX7_write 5 none, Cond.constantLong RX7 83 (127), Cond.fieldLink RX7 42 "TraceBookModel" "row" "[I"]
def wsX7_open : List Cond := .code yX7_open cX7_open 6 none :: ((wsX7_open_r1 ++ (wsX7_open_r2 ++ wsX7_open_r3)) ++ wsX70)
def wsX7_change : List Cond := .code yX7_change cX7_change 5 (some .boolean) :: ([.fieldLink RX7 7 "TraceBookModel" "widths" "[I", .fieldLink RX7 138 "TraceBookModel" "open" "Z", .fieldLink RX7 66 "TraceBookModel" "code" "I", .fieldLink RX7 16 "TraceBookModel" "now" "[I", .methodLink RX7 77 yX7_none, .instanceMethod yX7_none, .selects RX7 yX7_none yX7_none, .initialized RX7, .code yX7_none cX7_none 2 (some .boolean), .fieldLink RX7 70 "TraceBookModel" "wires" "I"] ++ wsX70)
def wsX7_close_r1 : List Cond := [Cond.fieldLink RX7 66 "TraceBookModel" "code" "I", Cond.fieldLink RX7 138 "TraceBookModel" "open" "Z", Cond.methodLink RX7 141 yX7_finish, Cond.instanceMethod yX7_finish, Cond.selects RX7 yX7_finish yX7_finish, Cond.initialized RX7, Cond.code yX7_finish cX7_finish 6 (some .int), Cond.fieldLink RX7 93 "TraceBookModel" "time" "J", Cond.fieldLink RX7 103 "TraceBookModel" "step" "J", Cond.fieldLink RX7 70 "TraceBookModel" "wires" "I", Cond.fieldLink RX7 16 "TraceBookModel" "now" "[I", Cond.fieldLink RX7 85 "TraceBookModel" "size" "I", Cond.constant RX7 41 (60000), Cond.fieldLink RX7 26 "TraceBookModel" "begins" "[I", Cond.fieldLink RX7 88 "TraceBookModel" "moments" "I", Cond.fieldLink RX7 19 "TraceBookModel" "times" "[J", Cond.fieldLink RX7 23 "TraceBookModel" "steps" "[J", Cond.fieldLink RX7 29 "TraceBookModel" "momentOf" "[I", Cond.fieldLink RX7 133 "TraceBookModel" "changes" "I", Cond.fieldLink RX7 32 "TraceBookModel" "placeOf" "[I", Cond.fieldLink RX7 35 "TraceBookModel" "was" "[I", Cond.fieldLink RX7 13 "TraceBookModel" "settled" "[I", Cond.fieldLink RX7 38 "TraceBookModel" "becomes" "[I", Cond.methodLink RX7 114 yX7_many]
def wsX7_close_r2 : List Cond := [Cond.instanceMethod yX7_many, Cond.selects RX7 yX7_many yX7_many, Cond.code yX7_many cX7_many 3 (some .int), Cond.methodLink RX7 109 yX7_differs, Cond.instanceMethod yX7_differs, Cond.selects RX7 yX7_differs yX7_differs, Cond.code yX7_differs cX7_differs 2 (some .boolean), Cond.methodLink RX7 118 yX7_head, Cond.instanceMethod yX7_head, Cond.selects RX7 yX7_head yX7_head, Cond.code yX7_head cX7_head 1 (some .long), Cond.constantLong RX7 101 (2), Cond.methodLink RX7 97 yX7_lastTime, Cond.instanceMethod yX7_lastTime, Cond.selects RX7 yX7_lastTime yX7_lastTime, Cond.code yX7_lastTime cX7_lastTime 1 (some .long), Cond.methodLink RX7 106 yX7_lastStep, Cond.instanceMethod yX7_lastStep, Cond.selects RX7 yX7_lastStep yX7_lastStep, Cond.code yX7_lastStep cX7_lastStep 1 (some .long), Cond.constantLong RX7 91 (-1), Cond.methodLink RX7 121 yX7_bytesOf, Cond.static yX7_bytesOf, Cond.code yX7_bytesOf cX7_bytesOf 5 (some .int)]
def wsX7_close_r3 : List Cond := [Cond.constantLong RX7 81 (128), Cond.methodLink RX7 125 yX7_codeOf, Cond.static yX7_codeOf, Cond.code yX7_codeOf cX7_codeOf 2 (some .long), Cond.constantLong RX7 112 (16), Cond.methodLink RX7 129 yX7_write, Cond.instanceMethod yX7_write, Cond.selects RX7 yX7_write yX7_write, Cond.code yX7_write cX7_write 5 none, Cond.constantLong RX7 83 (127), Cond.fieldLink RX7 42 "TraceBookModel" "row" "[I"]
def wsX7_close : List Cond := .code yX7_close cX7_close 2 (some .int) :: ((wsX7_close_r1 ++ (wsX7_close_r2 ++ wsX7_close_r3)) ++ wsX70)
def wsX7_moments : List Cond := .code yX7_moments cX7_moments 1 (some .int) :: ([.fieldLink RX7 66 "TraceBookModel" "code" "I", .fieldLink RX7 88 "TraceBookModel" "moments" "I"] ++ wsX70)
def wsX7_changesOf : List Cond := .code yX7_changesOf cX7_changesOf 4 (some .int) :: ([.fieldLink RX7 133 "TraceBookModel" "changes" "I", .fieldLink RX7 29 "TraceBookModel" "momentOf" "[I"] ++ wsX70)
def wsX7_moment : List Cond := .code yX7_moment cX7_moment 3 (some .long) :: ([.fieldLink RX7 88 "TraceBookModel" "moments" "I", .fieldLink RX7 66 "TraceBookModel" "code" "I", .fieldLink RX7 19 "TraceBookModel" "times" "[J", .fieldLink RX7 23 "TraceBookModel" "steps" "[J", .fieldLink RX7 26 "TraceBookModel" "begins" "[I", .methodLink RX7 144 yX7_changesOf, .instanceMethod yX7_changesOf, .selects RX7 yX7_changesOf yX7_changesOf, .initialized RX7, .code yX7_changesOf cX7_changesOf 4 (some .int), .fieldLink RX7 133 "TraceBookModel" "changes" "I", .fieldLink RX7 29 "TraceBookModel" "momentOf" "[I"] ++ wsX70)
def wsX7_changed : List Cond := .code yX7_changed cX7_changed 5 (some .int) :: ([.fieldLink RX7 88 "TraceBookModel" "moments" "I", .fieldLink RX7 66 "TraceBookModel" "code" "I", .fieldLink RX7 29 "TraceBookModel" "momentOf" "[I", .fieldLink RX7 32 "TraceBookModel" "placeOf" "[I", .fieldLink RX7 38 "TraceBookModel" "becomes" "[I", .fieldLink RX7 35 "TraceBookModel" "was" "[I", .methodLink RX7 144 yX7_changesOf, .instanceMethod yX7_changesOf, .selects RX7 yX7_changesOf yX7_changesOf, .initialized RX7, .code yX7_changesOf cX7_changesOf 4 (some .int), .fieldLink RX7 133 "TraceBookModel" "changes" "I"] ++ wsX70)
def wsX7_at : List Cond := .code yX7_at cX7_at 11 (some .int) :: ([.fieldLink RX7 7 "TraceBookModel" "widths" "[I", .fieldLink RX7 66 "TraceBookModel" "code" "I", .fieldLink RX7 133 "TraceBookModel" "changes" "I", .fieldLink RX7 29 "TraceBookModel" "momentOf" "[I", .fieldLink RX7 19 "TraceBookModel" "times" "[J", .fieldLink RX7 23 "TraceBookModel" "steps" "[J", .fieldLink RX7 32 "TraceBookModel" "placeOf" "[I", .fieldLink RX7 38 "TraceBookModel" "becomes" "[I", .methodLink RX7 77 yX7_none, .instanceMethod yX7_none, .selects RX7 yX7_none yX7_none, .initialized RX7, .code yX7_none cX7_none 2 (some .boolean), .fieldLink RX7 70 "TraceBookModel" "wires" "I"] ++ wsX70)
def wsX7_next : List Cond := .code yX7_next cX7_next 5 (some .int) :: ([.fieldLink RX7 66 "TraceBookModel" "code" "I", .fieldLink RX7 133 "TraceBookModel" "changes" "I", .fieldLink RX7 29 "TraceBookModel" "momentOf" "[I", .fieldLink RX7 32 "TraceBookModel" "placeOf" "[I", .methodLink RX7 77 yX7_none, .instanceMethod yX7_none, .selects RX7 yX7_none yX7_none, .initialized RX7, .code yX7_none cX7_none 2 (some .boolean), .fieldLink RX7 70 "TraceBookModel" "wires" "I"] ++ wsX70)
def wsX7_size : List Cond := .code yX7_size cX7_size 1 (some .int) :: ([.fieldLink RX7 66 "TraceBookModel" "code" "I", .fieldLink RX7 85 "TraceBookModel" "size" "I"] ++ wsX70)
def wsX7_byteAt : List Cond := .code yX7_byteAt cX7_byteAt 2 (some .int) :: ([.fieldLink RX7 85 "TraceBookModel" "size" "I", .fieldLink RX7 66 "TraceBookModel" "code" "I", .fieldLink RX7 42 "TraceBookModel" "row" "[I"] ++ wsX70)
def wsX7_feed : List Cond := .code yX7_feed cX7_feed 3 (some .int) :: ([.fieldLink RX7 148 "TraceBookModel" "tapeSize" "I", .constant RX7 41 (60000), .fieldLink RX7 66 "TraceBookModel" "code" "I", .fieldLink RX7 45 "TraceBookModel" "tape" "[I"] ++ wsX70)
def wsX7_end : List Cond := .code yX7_end cX7_end 2 none :: ([.fieldLink RX7 148 "TraceBookModel" "tapeSize" "I", .fieldLink RX7 66 "TraceBookModel" "code" "I"] ++ wsX70)
def wsX7_fail : List Cond := .code yX7_fail cX7_fail 1 none :: ([.fieldLink RX7 151 "TraceBookModel" "wrong" "I", .fieldLink RX7 154 "TraceBookModel" "first" "I"] ++ wsX70)
def wsX7_count : List Cond := .code yX7_count cX7_count 6 (some .long) :: ([.fieldLink RX7 157 "TraceBookModel" "at" "I", .fieldLink RX7 154 "TraceBookModel" "first" "I", .fieldLink RX7 148 "TraceBookModel" "tapeSize" "I", .fieldLink RX7 45 "TraceBookModel" "tape" "[I", .fieldLink RX7 151 "TraceBookModel" "wrong" "I", .constantLong RX7 81 (128), .constantLong RX7 163 (4611686018427387904), .methodLink RX7 160 yX7_fail, .instanceMethod yX7_fail, .selects RX7 yX7_fail yX7_fail, .initialized RX7, .code yX7_fail cX7_fail 1 none] ++ wsX70)
def wsX7_readMoment_r1 : List Cond := [Cond.fieldLink RX7 165 "TraceBookModel" "readMoments" "I", Cond.fieldLink RX7 51 "TraceBookModel" "readTimes" "[J", Cond.constantLong RX7 91 (-1), Cond.fieldLink RX7 54 "TraceBookModel" "readSteps" "[J", Cond.constantLong RX7 101 (2), Cond.fieldLink RX7 151 "TraceBookModel" "wrong" "I", Cond.constantLong RX7 136 (1152921504606846976), Cond.fieldLink RX7 57 "TraceBookModel" "readMany" "[I", Cond.fieldLink RX7 70 "TraceBookModel" "wires" "I", Cond.constantLong RX7 112 (16), Cond.fieldLink RX7 7 "TraceBookModel" "widths" "[I", Cond.constantLong RX7 171 (64), Cond.fieldLink RX7 48 "TraceBookModel" "seen" "[I", Cond.fieldLink RX7 60 "TraceBookModel" "readPlace" "[I", Cond.fieldLink RX7 173 "TraceBookModel" "readChanges" "I", Cond.fieldLink RX7 63 "TraceBookModel" "readValue" "[I", Cond.methodLink RX7 168 yX7_count, Cond.instanceMethod yX7_count, Cond.selects RX7 yX7_count yX7_count, Cond.initialized RX7, Cond.code yX7_count cX7_count 6 (some .long), Cond.fieldLink RX7 157 "TraceBookModel" "at" "I", Cond.fieldLink RX7 154 "TraceBookModel" "first" "I", Cond.fieldLink RX7 148 "TraceBookModel" "tapeSize" "I"]
def wsX7_readMoment_r2 : List Cond := [Cond.fieldLink RX7 45 "TraceBookModel" "tape" "[I", Cond.constantLong RX7 81 (128), Cond.constantLong RX7 163 (4611686018427387904), Cond.methodLink RX7 160 yX7_fail, Cond.instanceMethod yX7_fail, Cond.selects RX7 yX7_fail yX7_fail, Cond.code yX7_fail cX7_fail 1 none]
def wsX7_readMoment : List Cond := .code yX7_readMoment cX7_readMoment 22 none :: ((wsX7_readMoment_r1 ++ wsX7_readMoment_r2) ++ wsX70)
def wsX7_again_r1 : List Cond := [Cond.fieldLink RX7 88 "TraceBookModel" "moments" "I", Cond.fieldLink RX7 133 "TraceBookModel" "changes" "I", Cond.fieldLink RX7 85 "TraceBookModel" "size" "I", Cond.fieldLink RX7 70 "TraceBookModel" "wires" "I", Cond.fieldLink RX7 13 "TraceBookModel" "settled" "[I", Cond.fieldLink RX7 16 "TraceBookModel" "now" "[I", Cond.fieldLink RX7 165 "TraceBookModel" "readMoments" "I", Cond.fieldLink RX7 51 "TraceBookModel" "readTimes" "[J", Cond.fieldLink RX7 93 "TraceBookModel" "time" "J", Cond.fieldLink RX7 54 "TraceBookModel" "readSteps" "[J", Cond.fieldLink RX7 103 "TraceBookModel" "step" "J", Cond.fieldLink RX7 57 "TraceBookModel" "readMany" "[I", Cond.fieldLink RX7 60 "TraceBookModel" "readPlace" "[I", Cond.fieldLink RX7 63 "TraceBookModel" "readValue" "[I", Cond.fieldLink RX7 138 "TraceBookModel" "open" "Z", Cond.fieldLink RX7 73 "TraceBookModel" "some" "Z", Cond.methodLink RX7 141 yX7_finish, Cond.instanceMethod yX7_finish, Cond.selects RX7 yX7_finish yX7_finish, Cond.initialized RX7, Cond.code yX7_finish cX7_finish 6 (some .int), Cond.constant RX7 41 (60000), Cond.fieldLink RX7 26 "TraceBookModel" "begins" "[I", Cond.fieldLink RX7 19 "TraceBookModel" "times" "[J"]
def wsX7_again_r2 : List Cond := [Cond.fieldLink RX7 23 "TraceBookModel" "steps" "[J", Cond.fieldLink RX7 29 "TraceBookModel" "momentOf" "[I", Cond.fieldLink RX7 32 "TraceBookModel" "placeOf" "[I", Cond.fieldLink RX7 35 "TraceBookModel" "was" "[I", Cond.fieldLink RX7 38 "TraceBookModel" "becomes" "[I", Cond.methodLink RX7 114 yX7_many, Cond.instanceMethod yX7_many, Cond.selects RX7 yX7_many yX7_many, Cond.code yX7_many cX7_many 3 (some .int), Cond.methodLink RX7 109 yX7_differs, Cond.instanceMethod yX7_differs, Cond.selects RX7 yX7_differs yX7_differs, Cond.code yX7_differs cX7_differs 2 (some .boolean), Cond.methodLink RX7 118 yX7_head, Cond.instanceMethod yX7_head, Cond.selects RX7 yX7_head yX7_head, Cond.code yX7_head cX7_head 1 (some .long), Cond.constantLong RX7 101 (2), Cond.methodLink RX7 97 yX7_lastTime, Cond.instanceMethod yX7_lastTime, Cond.selects RX7 yX7_lastTime yX7_lastTime, Cond.code yX7_lastTime cX7_lastTime 1 (some .long), Cond.methodLink RX7 106 yX7_lastStep, Cond.instanceMethod yX7_lastStep]
def wsX7_again_r3 : List Cond := [Cond.selects RX7 yX7_lastStep yX7_lastStep, Cond.code yX7_lastStep cX7_lastStep 1 (some .long), Cond.constantLong RX7 91 (-1), Cond.methodLink RX7 121 yX7_bytesOf, Cond.static yX7_bytesOf, Cond.code yX7_bytesOf cX7_bytesOf 5 (some .int), Cond.constantLong RX7 81 (128), Cond.methodLink RX7 125 yX7_codeOf, Cond.static yX7_codeOf, Cond.code yX7_codeOf cX7_codeOf 2 (some .long), Cond.constantLong RX7 112 (16), Cond.methodLink RX7 129 yX7_write, Cond.instanceMethod yX7_write, Cond.selects RX7 yX7_write yX7_write, Cond.code yX7_write cX7_write 5 none, Cond.constantLong RX7 83 (127), Cond.fieldLink RX7 42 "TraceBookModel" "row" "[I"]
def wsX7_again : List Cond := .code yX7_again cX7_again 4 none :: ((wsX7_again_r1 ++ (wsX7_again_r2 ++ wsX7_again_r3)) ++ wsX70)
def wsX7_load_r1 : List Cond := [Cond.fieldLink RX7 66 "TraceBookModel" "code" "I", Cond.fieldLink RX7 157 "TraceBookModel" "at" "I", Cond.fieldLink RX7 151 "TraceBookModel" "wrong" "I", Cond.fieldLink RX7 165 "TraceBookModel" "readMoments" "I", Cond.fieldLink RX7 173 "TraceBookModel" "readChanges" "I", Cond.fieldLink RX7 70 "TraceBookModel" "wires" "I", Cond.fieldLink RX7 48 "TraceBookModel" "seen" "[I", Cond.fieldLink RX7 148 "TraceBookModel" "tapeSize" "I", Cond.methodLink RX7 176 yX7_readMoment, Cond.instanceMethod yX7_readMoment, Cond.selects RX7 yX7_readMoment yX7_readMoment, Cond.initialized RX7, Cond.code yX7_readMoment cX7_readMoment 22 none, Cond.fieldLink RX7 51 "TraceBookModel" "readTimes" "[J", Cond.constantLong RX7 91 (-1), Cond.fieldLink RX7 54 "TraceBookModel" "readSteps" "[J", Cond.constantLong RX7 101 (2), Cond.constantLong RX7 136 (1152921504606846976), Cond.fieldLink RX7 57 "TraceBookModel" "readMany" "[I", Cond.constantLong RX7 112 (16), Cond.fieldLink RX7 7 "TraceBookModel" "widths" "[I", Cond.constantLong RX7 171 (64), Cond.fieldLink RX7 60 "TraceBookModel" "readPlace" "[I", Cond.fieldLink RX7 63 "TraceBookModel" "readValue" "[I"]
def wsX7_load_r2 : List Cond := [Cond.methodLink RX7 168 yX7_count, Cond.instanceMethod yX7_count, Cond.selects RX7 yX7_count yX7_count, Cond.code yX7_count cX7_count 6 (some .long), Cond.fieldLink RX7 154 "TraceBookModel" "first" "I", Cond.fieldLink RX7 45 "TraceBookModel" "tape" "[I", Cond.constantLong RX7 81 (128), Cond.constantLong RX7 163 (4611686018427387904), Cond.methodLink RX7 160 yX7_fail, Cond.instanceMethod yX7_fail, Cond.selects RX7 yX7_fail yX7_fail, Cond.code yX7_fail cX7_fail 1 none, Cond.methodLink RX7 179 yX7_again, Cond.instanceMethod yX7_again, Cond.selects RX7 yX7_again yX7_again, Cond.code yX7_again cX7_again 4 none, Cond.fieldLink RX7 88 "TraceBookModel" "moments" "I", Cond.fieldLink RX7 133 "TraceBookModel" "changes" "I", Cond.fieldLink RX7 85 "TraceBookModel" "size" "I", Cond.fieldLink RX7 13 "TraceBookModel" "settled" "[I", Cond.fieldLink RX7 16 "TraceBookModel" "now" "[I", Cond.fieldLink RX7 93 "TraceBookModel" "time" "J", Cond.fieldLink RX7 103 "TraceBookModel" "step" "J", Cond.fieldLink RX7 138 "TraceBookModel" "open" "Z"]
def wsX7_load_r3 : List Cond := [Cond.fieldLink RX7 73 "TraceBookModel" "some" "Z", Cond.methodLink RX7 141 yX7_finish, Cond.instanceMethod yX7_finish, Cond.selects RX7 yX7_finish yX7_finish, Cond.code yX7_finish cX7_finish 6 (some .int), Cond.constant RX7 41 (60000), Cond.fieldLink RX7 26 "TraceBookModel" "begins" "[I", Cond.fieldLink RX7 19 "TraceBookModel" "times" "[J", Cond.fieldLink RX7 23 "TraceBookModel" "steps" "[J", Cond.fieldLink RX7 29 "TraceBookModel" "momentOf" "[I", Cond.fieldLink RX7 32 "TraceBookModel" "placeOf" "[I", Cond.fieldLink RX7 35 "TraceBookModel" "was" "[I", Cond.fieldLink RX7 38 "TraceBookModel" "becomes" "[I", Cond.methodLink RX7 114 yX7_many, Cond.instanceMethod yX7_many, Cond.selects RX7 yX7_many yX7_many, Cond.code yX7_many cX7_many 3 (some .int), Cond.methodLink RX7 109 yX7_differs, Cond.instanceMethod yX7_differs, Cond.selects RX7 yX7_differs yX7_differs, Cond.code yX7_differs cX7_differs 2 (some .boolean), Cond.methodLink RX7 118 yX7_head, Cond.instanceMethod yX7_head, Cond.selects RX7 yX7_head yX7_head]
def wsX7_load_r4 : List Cond := [Cond.code yX7_head cX7_head 1 (some .long), Cond.methodLink RX7 97 yX7_lastTime, Cond.instanceMethod yX7_lastTime, Cond.selects RX7 yX7_lastTime yX7_lastTime, Cond.code yX7_lastTime cX7_lastTime 1 (some .long), Cond.methodLink RX7 106 yX7_lastStep, Cond.instanceMethod yX7_lastStep, Cond.selects RX7 yX7_lastStep yX7_lastStep, Cond.code yX7_lastStep cX7_lastStep 1 (some .long), Cond.methodLink RX7 121 yX7_bytesOf, Cond.static yX7_bytesOf, Cond.code yX7_bytesOf cX7_bytesOf 5 (some .int), Cond.methodLink RX7 125 yX7_codeOf, Cond.static yX7_codeOf, Cond.code yX7_codeOf cX7_codeOf 2 (some .long), Cond.methodLink RX7 129 yX7_write, Cond.instanceMethod yX7_write, Cond.selects RX7 yX7_write yX7_write, Cond.code yX7_write cX7_write 5 none, Cond.constantLong RX7 83 (127), Cond.fieldLink RX7 42 "TraceBookModel" "row" "[I"]
def wsX7_load : List Cond := .code yX7_load cX7_load 2 (some .int) :: ((wsX7_load_r1 ++ (wsX7_load_r2 ++ (wsX7_load_r3 ++ wsX7_load_r4))) ++ wsX70)
def wsJ2_newBytesLength_0f7a4 : List Cond := .code yJ2_newBytesLength_0f7a4 cJ2_newBytesLength_0f7a4 1 (some .int) :: ([.constant RJ2 20 (1073741823)])
def wsJ2_newBytesFor_77867 : List Cond := .code yJ2_newBytesFor_77867 cJ2_newBytesFor_77867 1 (some (.array .byte)) :: ([.arrayClass .byte, .methodLink RJ2 11 yJ2_newBytesLength_0f7a4, .static yJ2_newBytesLength_0f7a4, .initialized RJ2, .code yJ2_newBytesLength_0f7a4 cJ2_newBytesLength_0f7a4 1 (some .int), .constant RJ2 20 (1073741823)])
def wsJ5_init_d00df : List Cond := .code yJ5_init_d00df cJ5_init_d00df 2 none :: ([.methodLink RJ5 3 objectInit, .instanceMethod objectInit, .code objectInit ⟨#[0xb1]⟩ 1 none, .fieldLink RJ5 18 "java/lang/String" "COMPACT_STRINGS" "Z", .arrayClass .byte, .fieldLink RJ5 15 "java/lang/AbstractStringBuilder" "value" "[B", .fieldLink RJ5 22 "java/lang/AbstractStringBuilder" "coder" "B", .methodLink RJ5 26 yJ2_newBytesFor_77867, .static yJ2_newBytesFor_77867, .initialized RJ2, .code yJ2_newBytesFor_77867 cJ2_newBytesFor_77867 1 (some (.array .byte)), .methodLink RJ2 11 yJ2_newBytesLength_0f7a4, .static yJ2_newBytesLength_0f7a4, .code yJ2_newBytesLength_0f7a4 cJ2_newBytesLength_0f7a4 1 (some .int), .constant RJ2 20 (1073741823)] ++ wsJ40)
def wsJ5_length_8abf5 : List Cond := .code yJ5_length_8abf5 cJ5_length_8abf5 1 (some .int) :: ([.fieldLink RJ5 79 "java/lang/AbstractStringBuilder" "count" "I"] ++ wsJ40)
def wsJ5_newCapacity_0f7a4 : List Cond := .code yJ5_newCapacity_0f7a4 cJ5_newCapacity_0f7a4 6 (some .int) :: ([.fieldLink RJ5 15 "java/lang/AbstractStringBuilder" "value" "[B", .fieldLink RJ5 22 "java/lang/AbstractStringBuilder" "coder" "B", .constant RJ5 39 (2147483647), .methodLink RJ5 114 yJ8_newLength_cabcc, .static yJ8_newLength_cabcc, .initialized RJ8, .code yJ8_newLength_cabcc cJ8_newLength_cabcc 4 (some .int), .methodLink RJ8 194 Lib.Math.max.name, .static Lib.Math.max.name, .initialized "java/lang/Math", .code Lib.Math.max.name Lib.Math.max.code 2 (some .int), .constant RJ8 200 (2147483639), .methodLink RJ8 201 yJ8_hugeLength_7cf53, .static yJ8_hugeLength_7cf53, .code yJ8_hugeLength_7cf53 cJ8_hugeLength_7cf53 3 (some .int)] ++ wsJ40)
def wsJ5_ensureCapacityInternal_d00df_r1 : List Cond := [Cond.fieldLink RJ5 15 "java/lang/AbstractStringBuilder" "value" "[B", Cond.fieldLink RJ5 22 "java/lang/AbstractStringBuilder" "coder" "B", Cond.methodLink RJ5 104 ⟨"java/lang/AbstractStringBuilder", "newCapacity", "(I)I"⟩, Cond.sameMethod "java/lang/AbstractStringBuilder" "java/lang/AbstractStringBuilder" "newCapacity" "(I)I", Cond.selects RJ4 ⟨"java/lang/AbstractStringBuilder", "newCapacity", "(I)I"⟩ yJ5_newCapacity_0f7a4, Cond.instanceMethod yJ5_newCapacity_0f7a4, Cond.initialized RJ5, Cond.code yJ5_newCapacity_0f7a4 cJ5_newCapacity_0f7a4 6 (some .int), Cond.constant RJ5 39 (2147483647), Cond.methodLink RJ5 114 yJ8_newLength_cabcc, Cond.static yJ8_newLength_cabcc, Cond.initialized RJ8, Cond.code yJ8_newLength_cabcc cJ8_newLength_cabcc 4 (some .int), Cond.methodLink RJ8 194 Lib.Math.max.name, Cond.static Lib.Math.max.name, Cond.initialized "java/lang/Math", Cond.code Lib.Math.max.name Lib.Math.max.code 2 (some .int), Cond.constant RJ8 200 (2147483639), Cond.methodLink RJ8 201 yJ8_hugeLength_7cf53, Cond.static yJ8_hugeLength_7cf53, Cond.code yJ8_hugeLength_7cf53 cJ8_hugeLength_7cf53 3 (some .int), Cond.methodLink RJ5 108 yJ7_copyOf_9075b, Cond.static yJ7_copyOf_9075b, Cond.initialized RJ7]
def wsJ5_ensureCapacityInternal_d00df_r2 : List Cond := [Cond.code yJ7_copyOf_9075b cJ7_copyOf_9075b 3 (some (.array .byte)), Cond.methodLink RJ7 310 ⟨"[B", "clone", "()Ljava/lang/Object;"⟩, Cond.sameMethod "[B" "java/lang/Object" "clone" "()Ljava/lang/Object;", Cond.native ⟨"java/lang/Object", "clone", "()Ljava/lang/Object;"⟩, Cond.instanceMethod ⟨"java/lang/Object", "clone", "()Ljava/lang/Object;"⟩, Cond.selects "[B" ⟨"[B", "clone", "()Ljava/lang/Object;"⟩ ⟨"java/lang/Object", "clone", "()Ljava/lang/Object;"⟩, Cond.classLink RJ7 311 "[B", Cond.arrayClass .byte, Cond.methodLink RJ7 304 Lib.Math.min.name, Cond.static Lib.Math.min.name, Cond.code Lib.Math.min.name Lib.Math.min.code 2 (some .int), Cond.methodLink RJ7 150 arraycopyName, Cond.native arraycopyName, Cond.static arraycopyName, Cond.initialized "java/lang/System"]
def wsJ5_ensureCapacityInternal_d00df : List Cond := .code yJ5_ensureCapacityInternal_d00df cJ5_ensureCapacityInternal_d00df 3 none :: ((wsJ5_ensureCapacityInternal_d00df_r1 ++ wsJ5_ensureCapacityInternal_d00df_r2) ++ wsJ40)
def wsJ5_isLatin1_aae02 : List Cond := .code yJ5_isLatin1_aae02 cJ5_isLatin1_aae02 1 (some .boolean) :: ([.fieldLink RJ5 18 "java/lang/String" "COMPACT_STRINGS" "Z", .fieldLink RJ5 22 "java/lang/AbstractStringBuilder" "coder" "B"] ++ wsJ40)
def wsJ2_length_9d52b : List Cond := .code yJ2_length_9d52b cJ2_length_9d52b 1 (some .int) :: ([])
def wsJ3_checkFromIndexSize_8c36e : List Cond := .code yJ3_checkFromIndexSize_8c36e cJ3_checkFromIndexSize_8c36e 4 (some .int) :: ([])
def wsJ0_checkBoundsOffCount_cabcc : List Cond := .code yJ0_checkBoundsOffCount_cabcc cJ0_checkBoundsOffCount_cabcc 3 (some .int) :: ([.fieldLink RJ0 1053 "jdk/internal/util/Preconditions" "SIOOBE_FORMATTER" "Ljava/util/function/BiFunction;", .methodLink RJ0 1065 yJ3_checkFromIndexSize_8c36e, .static yJ3_checkFromIndexSize_8c36e, .initialized RJ3, .code yJ3_checkFromIndexSize_8c36e cJ3_checkFromIndexSize_8c36e 4 (some .int)])
def wsJ2_checkBoundsOffCount_d044e : List Cond := .code yJ2_checkBoundsOffCount_d044e cJ2_checkBoundsOffCount_d044e 3 none :: ([.methodLink RJ2 48 yJ2_length_9d52b, .static yJ2_length_9d52b, .initialized RJ2, .code yJ2_length_9d52b cJ2_length_9d52b 1 (some .int), .methodLink RJ2 419 yJ0_checkBoundsOffCount_cabcc, .static yJ0_checkBoundsOffCount_cabcc, .initialized RJ0, .code yJ0_checkBoundsOffCount_cabcc cJ0_checkBoundsOffCount_cabcc 3 (some .int), .fieldLink RJ0 1053 "jdk/internal/util/Preconditions" "SIOOBE_FORMATTER" "Ljava/util/function/BiFunction;", .methodLink RJ0 1065 yJ3_checkFromIndexSize_8c36e, .static yJ3_checkFromIndexSize_8c36e, .initialized RJ3, .code yJ3_checkFromIndexSize_8c36e cJ3_checkFromIndexSize_8c36e 4 (some .int)])
def wsJ2_putChar_b72d1 : List Cond := .code yJ2_putChar_b72d1 cJ2_putChar_b72d1 3 none :: ([.fieldLink RJ2 44 "java/lang/StringUTF16" "$assertionsDisabled" "Z", .fieldLink RJ2 59 "java/lang/StringUTF16" "HI_BYTE_SHIFT" "I", .fieldLink RJ2 63 "java/lang/StringUTF16" "LO_BYTE_SHIFT" "I", .methodLink RJ2 48 yJ2_length_9d52b, .static yJ2_length_9d52b, .initialized RJ2, .code yJ2_length_9d52b cJ2_length_9d52b 1 (some .int)])
def wsJ2_inflate_0e8fd : List Cond := .code yJ2_inflate_0e8fd cJ2_inflate_0e8fd 6 none :: ([.methodLink RJ2 173 yJ2_checkBoundsOffCount_d044e, .static yJ2_checkBoundsOffCount_d044e, .initialized RJ2, .code yJ2_checkBoundsOffCount_d044e cJ2_checkBoundsOffCount_d044e 3 none, .methodLink RJ2 48 yJ2_length_9d52b, .static yJ2_length_9d52b, .code yJ2_length_9d52b cJ2_length_9d52b 1 (some .int), .methodLink RJ2 419 yJ0_checkBoundsOffCount_cabcc, .static yJ0_checkBoundsOffCount_cabcc, .initialized RJ0, .code yJ0_checkBoundsOffCount_cabcc cJ0_checkBoundsOffCount_cabcc 3 (some .int), .fieldLink RJ0 1053 "jdk/internal/util/Preconditions" "SIOOBE_FORMATTER" "Ljava/util/function/BiFunction;", .methodLink RJ0 1065 yJ3_checkFromIndexSize_8c36e, .static yJ3_checkFromIndexSize_8c36e, .initialized RJ3, .code yJ3_checkFromIndexSize_8c36e cJ3_checkFromIndexSize_8c36e 4 (some .int), .methodLink RJ2 111 yJ2_putChar_b72d1, .static yJ2_putChar_b72d1, .code yJ2_putChar_b72d1 cJ2_putChar_b72d1 3 none, .fieldLink RJ2 44 "java/lang/StringUTF16" "$assertionsDisabled" "Z", .fieldLink RJ2 59 "java/lang/StringUTF16" "HI_BYTE_SHIFT" "I", .fieldLink RJ2 63 "java/lang/StringUTF16" "LO_BYTE_SHIFT" "I"])
def wsJ1_inflate_0e8fd_r1 : List Cond := [Cond.methodLink RJ1 240 yJ2_inflate_0e8fd, Cond.static yJ2_inflate_0e8fd, Cond.initialized RJ2, Cond.code yJ2_inflate_0e8fd cJ2_inflate_0e8fd 6 none, Cond.methodLink RJ2 173 yJ2_checkBoundsOffCount_d044e, Cond.static yJ2_checkBoundsOffCount_d044e, Cond.code yJ2_checkBoundsOffCount_d044e cJ2_checkBoundsOffCount_d044e 3 none, Cond.methodLink RJ2 48 yJ2_length_9d52b, Cond.static yJ2_length_9d52b, Cond.code yJ2_length_9d52b cJ2_length_9d52b 1 (some .int), Cond.methodLink RJ2 419 yJ0_checkBoundsOffCount_cabcc, Cond.static yJ0_checkBoundsOffCount_cabcc, Cond.initialized RJ0, Cond.code yJ0_checkBoundsOffCount_cabcc cJ0_checkBoundsOffCount_cabcc 3 (some .int), Cond.fieldLink RJ0 1053 "jdk/internal/util/Preconditions" "SIOOBE_FORMATTER" "Ljava/util/function/BiFunction;", Cond.methodLink RJ0 1065 yJ3_checkFromIndexSize_8c36e, Cond.static yJ3_checkFromIndexSize_8c36e, Cond.initialized RJ3, Cond.code yJ3_checkFromIndexSize_8c36e cJ3_checkFromIndexSize_8c36e 4 (some .int), Cond.methodLink RJ2 111 yJ2_putChar_b72d1, Cond.static yJ2_putChar_b72d1, Cond.code yJ2_putChar_b72d1 cJ2_putChar_b72d1 3 none, Cond.fieldLink RJ2 44 "java/lang/StringUTF16" "$assertionsDisabled" "Z", Cond.fieldLink RJ2 59 "java/lang/StringUTF16" "HI_BYTE_SHIFT" "I"]
def wsJ1_inflate_0e8fd_r2 : List Cond := [Cond.fieldLink RJ2 63 "java/lang/StringUTF16" "LO_BYTE_SHIFT" "I"]
def wsJ1_inflate_0e8fd : List Cond := .code yJ1_inflate_0e8fd cJ1_inflate_0e8fd 5 none :: ((wsJ1_inflate_0e8fd_r1 ++ wsJ1_inflate_0e8fd_r2))
def wsJ5_inflate_da8c8_r1 : List Cond := [Cond.fieldLink RJ5 15 "java/lang/AbstractStringBuilder" "value" "[B", Cond.fieldLink RJ5 79 "java/lang/AbstractStringBuilder" "count" "I", Cond.fieldLink RJ5 22 "java/lang/AbstractStringBuilder" "coder" "B", Cond.methodLink RJ5 83 ⟨"java/lang/AbstractStringBuilder", "isLatin1", "()Z"⟩, Cond.sameMethod "java/lang/AbstractStringBuilder" "java/lang/AbstractStringBuilder" "isLatin1" "()Z", Cond.selects RJ4 ⟨"java/lang/AbstractStringBuilder", "isLatin1", "()Z"⟩ yJ5_isLatin1_aae02, Cond.instanceMethod yJ5_isLatin1_aae02, Cond.initialized RJ5, Cond.code yJ5_isLatin1_aae02 cJ5_isLatin1_aae02 1 (some .boolean), Cond.fieldLink RJ5 18 "java/lang/String" "COMPACT_STRINGS" "Z", Cond.methodLink RJ5 26 yJ2_newBytesFor_77867, Cond.static yJ2_newBytesFor_77867, Cond.initialized RJ2, Cond.code yJ2_newBytesFor_77867 cJ2_newBytesFor_77867 1 (some (.array .byte)), Cond.arrayClass .byte, Cond.methodLink RJ2 11 yJ2_newBytesLength_0f7a4, Cond.static yJ2_newBytesLength_0f7a4, Cond.code yJ2_newBytesLength_0f7a4 cJ2_newBytesLength_0f7a4 1 (some .int), Cond.constant RJ2 20 (1073741823), Cond.methodLink RJ5 125 yJ1_inflate_0e8fd, Cond.static yJ1_inflate_0e8fd, Cond.initialized RJ1, Cond.code yJ1_inflate_0e8fd cJ1_inflate_0e8fd 5 none, Cond.methodLink RJ1 240 yJ2_inflate_0e8fd]
def wsJ5_inflate_da8c8_r2 : List Cond := [Cond.static yJ2_inflate_0e8fd, Cond.code yJ2_inflate_0e8fd cJ2_inflate_0e8fd 6 none, Cond.methodLink RJ2 173 yJ2_checkBoundsOffCount_d044e, Cond.static yJ2_checkBoundsOffCount_d044e, Cond.code yJ2_checkBoundsOffCount_d044e cJ2_checkBoundsOffCount_d044e 3 none, Cond.methodLink RJ2 48 yJ2_length_9d52b, Cond.static yJ2_length_9d52b, Cond.code yJ2_length_9d52b cJ2_length_9d52b 1 (some .int), Cond.methodLink RJ2 419 yJ0_checkBoundsOffCount_cabcc, Cond.static yJ0_checkBoundsOffCount_cabcc, Cond.initialized RJ0, Cond.code yJ0_checkBoundsOffCount_cabcc cJ0_checkBoundsOffCount_cabcc 3 (some .int), Cond.fieldLink RJ0 1053 "jdk/internal/util/Preconditions" "SIOOBE_FORMATTER" "Ljava/util/function/BiFunction;", Cond.methodLink RJ0 1065 yJ3_checkFromIndexSize_8c36e, Cond.static yJ3_checkFromIndexSize_8c36e, Cond.initialized RJ3, Cond.code yJ3_checkFromIndexSize_8c36e cJ3_checkFromIndexSize_8c36e 4 (some .int), Cond.methodLink RJ2 111 yJ2_putChar_b72d1, Cond.static yJ2_putChar_b72d1, Cond.code yJ2_putChar_b72d1 cJ2_putChar_b72d1 3 none, Cond.fieldLink RJ2 44 "java/lang/StringUTF16" "$assertionsDisabled" "Z", Cond.fieldLink RJ2 59 "java/lang/StringUTF16" "HI_BYTE_SHIFT" "I", Cond.fieldLink RJ2 63 "java/lang/StringUTF16" "LO_BYTE_SHIFT" "I"]
def wsJ5_inflate_da8c8 : List Cond := .code yJ5_inflate_da8c8 cJ5_inflate_da8c8 2 none :: ((wsJ5_inflate_da8c8_r1 ++ wsJ5_inflate_da8c8_r2) ++ wsJ40)
def wsJ3_checkFromToIndex_8c36e : List Cond := .code yJ3_checkFromToIndex_8c36e cJ3_checkFromToIndex_8c36e 4 (some .int) :: ([])
def wsJ0_checkBoundsBeginEnd_23922 : List Cond := .code yJ0_checkBoundsBeginEnd_23922 cJ0_checkBoundsBeginEnd_23922 3 none :: ([.fieldLink RJ0 1053 "jdk/internal/util/Preconditions" "SIOOBE_FORMATTER" "Ljava/util/function/BiFunction;", .methodLink RJ0 1062 yJ3_checkFromToIndex_8c36e, .static yJ3_checkFromToIndex_8c36e, .initialized RJ3, .code yJ3_checkFromToIndex_8c36e cJ3_checkFromToIndex_8c36e 4 (some .int)])
def wsJ2_checkBoundsBeginEnd_d044e : List Cond := .code yJ2_checkBoundsBeginEnd_d044e cJ2_checkBoundsBeginEnd_d044e 3 none :: ([.methodLink RJ2 48 yJ2_length_9d52b, .static yJ2_length_9d52b, .initialized RJ2, .code yJ2_length_9d52b cJ2_length_9d52b 1 (some .int), .methodLink RJ2 241 yJ0_checkBoundsBeginEnd_23922, .static yJ0_checkBoundsBeginEnd_23922, .initialized RJ0, .code yJ0_checkBoundsBeginEnd_23922 cJ0_checkBoundsBeginEnd_23922 3 none, .fieldLink RJ0 1053 "jdk/internal/util/Preconditions" "SIOOBE_FORMATTER" "Ljava/util/function/BiFunction;", .methodLink RJ0 1062 yJ3_checkFromToIndex_8c36e, .static yJ3_checkFromToIndex_8c36e, .initialized RJ3, .code yJ3_checkFromToIndex_8c36e cJ3_checkFromToIndex_8c36e 4 (some .int)])
def wsJ2_putCharsAt_cd4e5 : List Cond := .code yJ2_putCharsAt_cd4e5 cJ2_putCharsAt_cd4e5 7 (some .int) :: ([.fieldLink RJ2 44 "java/lang/StringUTF16" "$assertionsDisabled" "Z", .methodLink RJ2 96 yJ2_checkBoundsBeginEnd_d044e, .static yJ2_checkBoundsBeginEnd_d044e, .initialized RJ2, .code yJ2_checkBoundsBeginEnd_d044e cJ2_checkBoundsBeginEnd_d044e 3 none, .methodLink RJ2 48 yJ2_length_9d52b, .static yJ2_length_9d52b, .code yJ2_length_9d52b cJ2_length_9d52b 1 (some .int), .methodLink RJ2 241 yJ0_checkBoundsBeginEnd_23922, .static yJ0_checkBoundsBeginEnd_23922, .initialized RJ0, .code yJ0_checkBoundsBeginEnd_23922 cJ0_checkBoundsBeginEnd_23922 3 none, .fieldLink RJ0 1053 "jdk/internal/util/Preconditions" "SIOOBE_FORMATTER" "Ljava/util/function/BiFunction;", .methodLink RJ0 1062 yJ3_checkFromToIndex_8c36e, .static yJ3_checkFromToIndex_8c36e, .initialized RJ3, .code yJ3_checkFromToIndex_8c36e cJ3_checkFromToIndex_8c36e 4 (some .int), .methodLink RJ2 111 yJ2_putChar_b72d1, .static yJ2_putChar_b72d1, .code yJ2_putChar_b72d1 cJ2_putChar_b72d1 3 none, .fieldLink RJ2 59 "java/lang/StringUTF16" "HI_BYTE_SHIFT" "I", .fieldLink RJ2 63 "java/lang/StringUTF16" "LO_BYTE_SHIFT" "I"])
def wsJ5_appendNull_278bc_r1 : List Cond := [Cond.fieldLink RJ5 79 "java/lang/AbstractStringBuilder" "count" "I", Cond.fieldLink RJ5 15 "java/lang/AbstractStringBuilder" "value" "[B", Cond.methodLink RJ5 100 ⟨"java/lang/AbstractStringBuilder", "ensureCapacityInternal", "(I)V"⟩, Cond.sameMethod "java/lang/AbstractStringBuilder" "java/lang/AbstractStringBuilder" "ensureCapacityInternal" "(I)V", Cond.selects RJ4 ⟨"java/lang/AbstractStringBuilder", "ensureCapacityInternal", "(I)V"⟩ yJ5_ensureCapacityInternal_d00df, Cond.instanceMethod yJ5_ensureCapacityInternal_d00df, Cond.initialized RJ5, Cond.code yJ5_ensureCapacityInternal_d00df cJ5_ensureCapacityInternal_d00df 3 none, Cond.fieldLink RJ5 22 "java/lang/AbstractStringBuilder" "coder" "B", Cond.methodLink RJ5 104 ⟨"java/lang/AbstractStringBuilder", "newCapacity", "(I)I"⟩, Cond.sameMethod "java/lang/AbstractStringBuilder" "java/lang/AbstractStringBuilder" "newCapacity" "(I)I", Cond.selects RJ4 ⟨"java/lang/AbstractStringBuilder", "newCapacity", "(I)I"⟩ yJ5_newCapacity_0f7a4, Cond.instanceMethod yJ5_newCapacity_0f7a4, Cond.code yJ5_newCapacity_0f7a4 cJ5_newCapacity_0f7a4 6 (some .int), Cond.constant RJ5 39 (2147483647), Cond.methodLink RJ5 114 yJ8_newLength_cabcc, Cond.static yJ8_newLength_cabcc, Cond.initialized RJ8, Cond.code yJ8_newLength_cabcc cJ8_newLength_cabcc 4 (some .int), Cond.methodLink RJ8 194 Lib.Math.max.name, Cond.static Lib.Math.max.name, Cond.initialized "java/lang/Math", Cond.code Lib.Math.max.name Lib.Math.max.code 2 (some .int), Cond.constant RJ8 200 (2147483639)]
def wsJ5_appendNull_278bc_r2 : List Cond := [Cond.methodLink RJ8 201 yJ8_hugeLength_7cf53, Cond.static yJ8_hugeLength_7cf53, Cond.code yJ8_hugeLength_7cf53 cJ8_hugeLength_7cf53 3 (some .int), Cond.methodLink RJ5 108 yJ7_copyOf_9075b, Cond.static yJ7_copyOf_9075b, Cond.initialized RJ7, Cond.code yJ7_copyOf_9075b cJ7_copyOf_9075b 3 (some (.array .byte)), Cond.methodLink RJ7 310 ⟨"[B", "clone", "()Ljava/lang/Object;"⟩, Cond.sameMethod "[B" "java/lang/Object" "clone" "()Ljava/lang/Object;", Cond.native ⟨"java/lang/Object", "clone", "()Ljava/lang/Object;"⟩, Cond.instanceMethod ⟨"java/lang/Object", "clone", "()Ljava/lang/Object;"⟩, Cond.selects "[B" ⟨"[B", "clone", "()Ljava/lang/Object;"⟩ ⟨"java/lang/Object", "clone", "()Ljava/lang/Object;"⟩, Cond.classLink RJ7 311 "[B", Cond.arrayClass .byte, Cond.methodLink RJ7 304 Lib.Math.min.name, Cond.static Lib.Math.min.name, Cond.code Lib.Math.min.name Lib.Math.min.code 2 (some .int), Cond.methodLink RJ7 150 arraycopyName, Cond.native arraycopyName, Cond.static arraycopyName, Cond.initialized "java/lang/System", Cond.methodLink RJ5 83 ⟨"java/lang/AbstractStringBuilder", "isLatin1", "()Z"⟩, Cond.sameMethod "java/lang/AbstractStringBuilder" "java/lang/AbstractStringBuilder" "isLatin1" "()Z", Cond.selects RJ4 ⟨"java/lang/AbstractStringBuilder", "isLatin1", "()Z"⟩ yJ5_isLatin1_aae02]
def wsJ5_appendNull_278bc_r3 : List Cond := [Cond.instanceMethod yJ5_isLatin1_aae02, Cond.code yJ5_isLatin1_aae02 cJ5_isLatin1_aae02 1 (some .boolean), Cond.fieldLink RJ5 18 "java/lang/String" "COMPACT_STRINGS" "Z", Cond.methodLink RJ5 226 yJ2_putCharsAt_cd4e5, Cond.static yJ2_putCharsAt_cd4e5, Cond.initialized RJ2, Cond.code yJ2_putCharsAt_cd4e5 cJ2_putCharsAt_cd4e5 7 (some .int), Cond.fieldLink RJ2 44 "java/lang/StringUTF16" "$assertionsDisabled" "Z", Cond.methodLink RJ2 96 yJ2_checkBoundsBeginEnd_d044e, Cond.static yJ2_checkBoundsBeginEnd_d044e, Cond.code yJ2_checkBoundsBeginEnd_d044e cJ2_checkBoundsBeginEnd_d044e 3 none, Cond.methodLink RJ2 48 yJ2_length_9d52b, Cond.static yJ2_length_9d52b, Cond.code yJ2_length_9d52b cJ2_length_9d52b 1 (some .int), Cond.methodLink RJ2 241 yJ0_checkBoundsBeginEnd_23922, Cond.static yJ0_checkBoundsBeginEnd_23922, Cond.initialized RJ0, Cond.code yJ0_checkBoundsBeginEnd_23922 cJ0_checkBoundsBeginEnd_23922 3 none, Cond.fieldLink RJ0 1053 "jdk/internal/util/Preconditions" "SIOOBE_FORMATTER" "Ljava/util/function/BiFunction;", Cond.methodLink RJ0 1062 yJ3_checkFromToIndex_8c36e, Cond.static yJ3_checkFromToIndex_8c36e, Cond.initialized RJ3, Cond.code yJ3_checkFromToIndex_8c36e cJ3_checkFromToIndex_8c36e 4 (some .int), Cond.methodLink RJ2 111 yJ2_putChar_b72d1]
def wsJ5_appendNull_278bc_r4 : List Cond := [Cond.static yJ2_putChar_b72d1, Cond.code yJ2_putChar_b72d1 cJ2_putChar_b72d1 3 none, Cond.fieldLink RJ2 59 "java/lang/StringUTF16" "HI_BYTE_SHIFT" "I", Cond.fieldLink RJ2 63 "java/lang/StringUTF16" "LO_BYTE_SHIFT" "I"]
def wsJ5_appendNull_278bc : List Cond := .code yJ5_appendNull_278bc cJ5_appendNull_278bc 3 (some (.object "java/lang/AbstractStringBuilder")) :: ((wsJ5_appendNull_278bc_r1 ++ (wsJ5_appendNull_278bc_r2 ++ (wsJ5_appendNull_278bc_r3 ++ wsJ5_appendNull_278bc_r4))) ++ wsJ40)
def wsJ0_coder_7d493 : List Cond := .code yJ0_coder_7d493 cJ0_coder_7d493 1 (some .byte) :: ([.fieldLink RJ0 38 "java/lang/String" "COMPACT_STRINGS" "Z", .fieldLink RJ0 15 "java/lang/String" "coder" "B"] ++ wsJ00)
def wsJ0_length_8abf5 : List Cond := .code yJ0_length_8abf5 cJ0_length_8abf5 1 (some .int) :: ([.fieldLink RJ0 9 "java/lang/String" "value" "[B", .methodLink RJ0 335 yJ0_coder_7d493, .instanceMethod yJ0_coder_7d493, .selects RJ0 yJ0_coder_7d493 yJ0_coder_7d493, .initialized RJ0, .code yJ0_coder_7d493 cJ0_coder_7d493 1 (some .byte), .fieldLink RJ0 38 "java/lang/String" "COMPACT_STRINGS" "Z", .fieldLink RJ0 15 "java/lang/String" "coder" "B"] ++ wsJ00)
def wsJ5_inflateIfNeededFor_a7421_r1 : List Cond := [Cond.fieldLink RJ5 18 "java/lang/String" "COMPACT_STRINGS" "Z", Cond.fieldLink RJ5 22 "java/lang/AbstractStringBuilder" "coder" "B", Cond.methodLink RJ5 40 yJ0_coder_7d493, Cond.instanceMethod yJ0_coder_7d493, Cond.selects RJ0 yJ0_coder_7d493 yJ0_coder_7d493, Cond.initialized RJ0, Cond.code yJ0_coder_7d493 cJ0_coder_7d493 1 (some .byte), Cond.fieldLink RJ0 38 "java/lang/String" "COMPACT_STRINGS" "Z", Cond.fieldLink RJ0 15 "java/lang/String" "coder" "B", Cond.methodLink RJ5 195 ⟨"java/lang/AbstractStringBuilder", "inflate", "()V"⟩, Cond.sameMethod "java/lang/AbstractStringBuilder" "java/lang/AbstractStringBuilder" "inflate" "()V", Cond.selects RJ4 ⟨"java/lang/AbstractStringBuilder", "inflate", "()V"⟩ yJ5_inflate_da8c8, Cond.instanceMethod yJ5_inflate_da8c8, Cond.initialized RJ5, Cond.code yJ5_inflate_da8c8 cJ5_inflate_da8c8 2 none, Cond.fieldLink RJ5 15 "java/lang/AbstractStringBuilder" "value" "[B", Cond.fieldLink RJ5 79 "java/lang/AbstractStringBuilder" "count" "I", Cond.methodLink RJ5 83 ⟨"java/lang/AbstractStringBuilder", "isLatin1", "()Z"⟩, Cond.sameMethod "java/lang/AbstractStringBuilder" "java/lang/AbstractStringBuilder" "isLatin1" "()Z", Cond.selects RJ4 ⟨"java/lang/AbstractStringBuilder", "isLatin1", "()Z"⟩ yJ5_isLatin1_aae02, Cond.instanceMethod yJ5_isLatin1_aae02, Cond.code yJ5_isLatin1_aae02 cJ5_isLatin1_aae02 1 (some .boolean), Cond.methodLink RJ5 26 yJ2_newBytesFor_77867, Cond.static yJ2_newBytesFor_77867]
def wsJ5_inflateIfNeededFor_a7421_r2 : List Cond := [Cond.initialized RJ2, Cond.code yJ2_newBytesFor_77867 cJ2_newBytesFor_77867 1 (some (.array .byte)), Cond.arrayClass .byte, Cond.methodLink RJ2 11 yJ2_newBytesLength_0f7a4, Cond.static yJ2_newBytesLength_0f7a4, Cond.code yJ2_newBytesLength_0f7a4 cJ2_newBytesLength_0f7a4 1 (some .int), Cond.constant RJ2 20 (1073741823), Cond.methodLink RJ5 125 yJ1_inflate_0e8fd, Cond.static yJ1_inflate_0e8fd, Cond.initialized RJ1, Cond.code yJ1_inflate_0e8fd cJ1_inflate_0e8fd 5 none, Cond.methodLink RJ1 240 yJ2_inflate_0e8fd, Cond.static yJ2_inflate_0e8fd, Cond.code yJ2_inflate_0e8fd cJ2_inflate_0e8fd 6 none, Cond.methodLink RJ2 173 yJ2_checkBoundsOffCount_d044e, Cond.static yJ2_checkBoundsOffCount_d044e, Cond.code yJ2_checkBoundsOffCount_d044e cJ2_checkBoundsOffCount_d044e 3 none, Cond.methodLink RJ2 48 yJ2_length_9d52b, Cond.static yJ2_length_9d52b, Cond.code yJ2_length_9d52b cJ2_length_9d52b 1 (some .int), Cond.methodLink RJ2 419 yJ0_checkBoundsOffCount_cabcc, Cond.static yJ0_checkBoundsOffCount_cabcc, Cond.code yJ0_checkBoundsOffCount_cabcc cJ0_checkBoundsOffCount_cabcc 3 (some .int), Cond.fieldLink RJ0 1053 "jdk/internal/util/Preconditions" "SIOOBE_FORMATTER" "Ljava/util/function/BiFunction;"]
def wsJ5_inflateIfNeededFor_a7421_r3 : List Cond := [Cond.methodLink RJ0 1065 yJ3_checkFromIndexSize_8c36e, Cond.static yJ3_checkFromIndexSize_8c36e, Cond.initialized RJ3, Cond.code yJ3_checkFromIndexSize_8c36e cJ3_checkFromIndexSize_8c36e 4 (some .int), Cond.methodLink RJ2 111 yJ2_putChar_b72d1, Cond.static yJ2_putChar_b72d1, Cond.code yJ2_putChar_b72d1 cJ2_putChar_b72d1 3 none, Cond.fieldLink RJ2 44 "java/lang/StringUTF16" "$assertionsDisabled" "Z", Cond.fieldLink RJ2 59 "java/lang/StringUTF16" "HI_BYTE_SHIFT" "I", Cond.fieldLink RJ2 63 "java/lang/StringUTF16" "LO_BYTE_SHIFT" "I"]
def wsJ5_inflateIfNeededFor_a7421 : List Cond := .code yJ5_inflateIfNeededFor_a7421 cJ5_inflateIfNeededFor_a7421 2 none :: ((wsJ5_inflateIfNeededFor_a7421_r1 ++ (wsJ5_inflateIfNeededFor_a7421_r2 ++ wsJ5_inflateIfNeededFor_a7421_r3)) ++ wsJ40 ++ wsJ00)
def wsJ0_getBytes_840e7_r1 : List Cond := [Cond.fieldLink RJ0 9 "java/lang/String" "value" "[B", Cond.methodLink RJ0 212 arraycopyName, Cond.native arraycopyName, Cond.static arraycopyName, Cond.initialized "java/lang/System", Cond.methodLink RJ0 335 yJ0_coder_7d493, Cond.instanceMethod yJ0_coder_7d493, Cond.selects RJ0 yJ0_coder_7d493 yJ0_coder_7d493, Cond.initialized RJ0, Cond.code yJ0_coder_7d493 cJ0_coder_7d493 1 (some .byte), Cond.fieldLink RJ0 38 "java/lang/String" "COMPACT_STRINGS" "Z", Cond.fieldLink RJ0 15 "java/lang/String" "coder" "B", Cond.methodLink RJ0 106 yJ1_inflate_0e8fd, Cond.static yJ1_inflate_0e8fd, Cond.initialized RJ1, Cond.code yJ1_inflate_0e8fd cJ1_inflate_0e8fd 5 none, Cond.methodLink RJ1 240 yJ2_inflate_0e8fd, Cond.static yJ2_inflate_0e8fd, Cond.initialized RJ2, Cond.code yJ2_inflate_0e8fd cJ2_inflate_0e8fd 6 none, Cond.methodLink RJ2 173 yJ2_checkBoundsOffCount_d044e, Cond.static yJ2_checkBoundsOffCount_d044e, Cond.code yJ2_checkBoundsOffCount_d044e cJ2_checkBoundsOffCount_d044e 3 none, Cond.methodLink RJ2 48 yJ2_length_9d52b]
def wsJ0_getBytes_840e7_r2 : List Cond := [Cond.static yJ2_length_9d52b, Cond.code yJ2_length_9d52b cJ2_length_9d52b 1 (some .int), Cond.methodLink RJ2 419 yJ0_checkBoundsOffCount_cabcc, Cond.static yJ0_checkBoundsOffCount_cabcc, Cond.code yJ0_checkBoundsOffCount_cabcc cJ0_checkBoundsOffCount_cabcc 3 (some .int), Cond.fieldLink RJ0 1053 "jdk/internal/util/Preconditions" "SIOOBE_FORMATTER" "Ljava/util/function/BiFunction;", Cond.methodLink RJ0 1065 yJ3_checkFromIndexSize_8c36e, Cond.static yJ3_checkFromIndexSize_8c36e, Cond.initialized RJ3, Cond.code yJ3_checkFromIndexSize_8c36e cJ3_checkFromIndexSize_8c36e 4 (some .int), Cond.methodLink RJ2 111 yJ2_putChar_b72d1, Cond.static yJ2_putChar_b72d1, Cond.code yJ2_putChar_b72d1 cJ2_putChar_b72d1 3 none, Cond.fieldLink RJ2 44 "java/lang/StringUTF16" "$assertionsDisabled" "Z", Cond.fieldLink RJ2 59 "java/lang/StringUTF16" "HI_BYTE_SHIFT" "I", Cond.fieldLink RJ2 63 "java/lang/StringUTF16" "LO_BYTE_SHIFT" "I"]
def wsJ0_getBytes_840e7 : List Cond := .code yJ0_getBytes_840e7 cJ0_getBytes_840e7 4 none :: ((wsJ0_getBytes_840e7_r1 ++ wsJ0_getBytes_840e7_r2) ++ wsJ00)
def wsJ5_putStringAt_47b60_r1 : List Cond := [Cond.fieldLink RJ5 15 "java/lang/AbstractStringBuilder" "value" "[B", Cond.fieldLink RJ5 22 "java/lang/AbstractStringBuilder" "coder" "B", Cond.methodLink RJ5 397 ⟨"java/lang/AbstractStringBuilder", "inflateIfNeededFor", "(Ljava/lang/String;)V"⟩, Cond.sameMethod "java/lang/AbstractStringBuilder" "java/lang/AbstractStringBuilder" "inflateIfNeededFor" "(Ljava/lang/String;)V", Cond.selects RJ4 ⟨"java/lang/AbstractStringBuilder", "inflateIfNeededFor", "(Ljava/lang/String;)V"⟩ yJ5_inflateIfNeededFor_a7421, Cond.instanceMethod yJ5_inflateIfNeededFor_a7421, Cond.initialized RJ5, Cond.code yJ5_inflateIfNeededFor_a7421 cJ5_inflateIfNeededFor_a7421 2 none, Cond.fieldLink RJ5 18 "java/lang/String" "COMPACT_STRINGS" "Z", Cond.methodLink RJ5 40 yJ0_coder_7d493, Cond.instanceMethod yJ0_coder_7d493, Cond.selects RJ0 yJ0_coder_7d493 yJ0_coder_7d493, Cond.initialized RJ0, Cond.code yJ0_coder_7d493 cJ0_coder_7d493 1 (some .byte), Cond.fieldLink RJ0 38 "java/lang/String" "COMPACT_STRINGS" "Z", Cond.fieldLink RJ0 15 "java/lang/String" "coder" "B", Cond.methodLink RJ5 195 ⟨"java/lang/AbstractStringBuilder", "inflate", "()V"⟩, Cond.sameMethod "java/lang/AbstractStringBuilder" "java/lang/AbstractStringBuilder" "inflate" "()V", Cond.selects RJ4 ⟨"java/lang/AbstractStringBuilder", "inflate", "()V"⟩ yJ5_inflate_da8c8, Cond.instanceMethod yJ5_inflate_da8c8, Cond.code yJ5_inflate_da8c8 cJ5_inflate_da8c8 2 none, Cond.fieldLink RJ5 79 "java/lang/AbstractStringBuilder" "count" "I", Cond.methodLink RJ5 83 ⟨"java/lang/AbstractStringBuilder", "isLatin1", "()Z"⟩, Cond.sameMethod "java/lang/AbstractStringBuilder" "java/lang/AbstractStringBuilder" "isLatin1" "()Z"]
def wsJ5_putStringAt_47b60_r2 : List Cond := [Cond.selects RJ4 ⟨"java/lang/AbstractStringBuilder", "isLatin1", "()Z"⟩ yJ5_isLatin1_aae02, Cond.instanceMethod yJ5_isLatin1_aae02, Cond.code yJ5_isLatin1_aae02 cJ5_isLatin1_aae02 1 (some .boolean), Cond.methodLink RJ5 26 yJ2_newBytesFor_77867, Cond.static yJ2_newBytesFor_77867, Cond.initialized RJ2, Cond.code yJ2_newBytesFor_77867 cJ2_newBytesFor_77867 1 (some (.array .byte)), Cond.arrayClass .byte, Cond.methodLink RJ2 11 yJ2_newBytesLength_0f7a4, Cond.static yJ2_newBytesLength_0f7a4, Cond.code yJ2_newBytesLength_0f7a4 cJ2_newBytesLength_0f7a4 1 (some .int), Cond.constant RJ2 20 (1073741823), Cond.methodLink RJ5 125 yJ1_inflate_0e8fd, Cond.static yJ1_inflate_0e8fd, Cond.initialized RJ1, Cond.code yJ1_inflate_0e8fd cJ1_inflate_0e8fd 5 none, Cond.methodLink RJ1 240 yJ2_inflate_0e8fd, Cond.static yJ2_inflate_0e8fd, Cond.code yJ2_inflate_0e8fd cJ2_inflate_0e8fd 6 none, Cond.methodLink RJ2 173 yJ2_checkBoundsOffCount_d044e, Cond.static yJ2_checkBoundsOffCount_d044e, Cond.code yJ2_checkBoundsOffCount_d044e cJ2_checkBoundsOffCount_d044e 3 none, Cond.methodLink RJ2 48 yJ2_length_9d52b, Cond.static yJ2_length_9d52b]
def wsJ5_putStringAt_47b60_r3 : List Cond := [Cond.code yJ2_length_9d52b cJ2_length_9d52b 1 (some .int), Cond.methodLink RJ2 419 yJ0_checkBoundsOffCount_cabcc, Cond.static yJ0_checkBoundsOffCount_cabcc, Cond.code yJ0_checkBoundsOffCount_cabcc cJ0_checkBoundsOffCount_cabcc 3 (some .int), Cond.fieldLink RJ0 1053 "jdk/internal/util/Preconditions" "SIOOBE_FORMATTER" "Ljava/util/function/BiFunction;", Cond.methodLink RJ0 1065 yJ3_checkFromIndexSize_8c36e, Cond.static yJ3_checkFromIndexSize_8c36e, Cond.initialized RJ3, Cond.code yJ3_checkFromIndexSize_8c36e cJ3_checkFromIndexSize_8c36e 4 (some .int), Cond.methodLink RJ2 111 yJ2_putChar_b72d1, Cond.static yJ2_putChar_b72d1, Cond.code yJ2_putChar_b72d1 cJ2_putChar_b72d1 3 none, Cond.fieldLink RJ2 44 "java/lang/StringUTF16" "$assertionsDisabled" "Z", Cond.fieldLink RJ2 59 "java/lang/StringUTF16" "HI_BYTE_SHIFT" "I", Cond.fieldLink RJ2 63 "java/lang/StringUTF16" "LO_BYTE_SHIFT" "I", Cond.methodLink RJ5 399 yJ0_getBytes_840e7, Cond.instanceMethod yJ0_getBytes_840e7, Cond.selects RJ0 yJ0_getBytes_840e7 yJ0_getBytes_840e7, Cond.code yJ0_getBytes_840e7 cJ0_getBytes_840e7 4 none, Cond.fieldLink RJ0 9 "java/lang/String" "value" "[B", Cond.methodLink RJ0 212 arraycopyName, Cond.native arraycopyName, Cond.static arraycopyName, Cond.initialized "java/lang/System"]
def wsJ5_putStringAt_47b60_r4 : List Cond := [Cond.methodLink RJ0 335 yJ0_coder_7d493, Cond.methodLink RJ0 106 yJ1_inflate_0e8fd]
def wsJ5_putStringAt_47b60 : List Cond := .code yJ5_putStringAt_47b60 cJ5_putStringAt_47b60 3 none :: ((wsJ5_putStringAt_47b60_r1 ++ (wsJ5_putStringAt_47b60_r2 ++ (wsJ5_putStringAt_47b60_r3 ++ wsJ5_putStringAt_47b60_r4))) ++ wsJ40 ++ wsJ00)
def wsJ5_append_cf1ce_r1 : List Cond := [Cond.fieldLink RJ5 79 "java/lang/AbstractStringBuilder" "count" "I", Cond.methodLink RJ5 204 ⟨"java/lang/AbstractStringBuilder", "appendNull", "()Ljava/lang/AbstractStringBuilder;"⟩, Cond.sameMethod "java/lang/AbstractStringBuilder" "java/lang/AbstractStringBuilder" "appendNull" "()Ljava/lang/AbstractStringBuilder;", Cond.selects RJ4 ⟨"java/lang/AbstractStringBuilder", "appendNull", "()Ljava/lang/AbstractStringBuilder;"⟩ yJ5_appendNull_278bc, Cond.instanceMethod yJ5_appendNull_278bc, Cond.initialized RJ5, Cond.code yJ5_appendNull_278bc cJ5_appendNull_278bc 3 (some (.object "java/lang/AbstractStringBuilder")), Cond.fieldLink RJ5 15 "java/lang/AbstractStringBuilder" "value" "[B", Cond.methodLink RJ5 100 ⟨"java/lang/AbstractStringBuilder", "ensureCapacityInternal", "(I)V"⟩, Cond.sameMethod "java/lang/AbstractStringBuilder" "java/lang/AbstractStringBuilder" "ensureCapacityInternal" "(I)V", Cond.selects RJ4 ⟨"java/lang/AbstractStringBuilder", "ensureCapacityInternal", "(I)V"⟩ yJ5_ensureCapacityInternal_d00df, Cond.instanceMethod yJ5_ensureCapacityInternal_d00df, Cond.code yJ5_ensureCapacityInternal_d00df cJ5_ensureCapacityInternal_d00df 3 none, Cond.fieldLink RJ5 22 "java/lang/AbstractStringBuilder" "coder" "B", Cond.methodLink RJ5 104 ⟨"java/lang/AbstractStringBuilder", "newCapacity", "(I)I"⟩, Cond.sameMethod "java/lang/AbstractStringBuilder" "java/lang/AbstractStringBuilder" "newCapacity" "(I)I", Cond.selects RJ4 ⟨"java/lang/AbstractStringBuilder", "newCapacity", "(I)I"⟩ yJ5_newCapacity_0f7a4, Cond.instanceMethod yJ5_newCapacity_0f7a4, Cond.code yJ5_newCapacity_0f7a4 cJ5_newCapacity_0f7a4 6 (some .int), Cond.constant RJ5 39 (2147483647), Cond.methodLink RJ5 114 yJ8_newLength_cabcc, Cond.static yJ8_newLength_cabcc, Cond.initialized RJ8, Cond.code yJ8_newLength_cabcc cJ8_newLength_cabcc 4 (some .int)]
def wsJ5_append_cf1ce_r2 : List Cond := [Cond.methodLink RJ8 194 Lib.Math.max.name, Cond.static Lib.Math.max.name, Cond.initialized "java/lang/Math", Cond.code Lib.Math.max.name Lib.Math.max.code 2 (some .int), Cond.constant RJ8 200 (2147483639), Cond.methodLink RJ8 201 yJ8_hugeLength_7cf53, Cond.static yJ8_hugeLength_7cf53, Cond.code yJ8_hugeLength_7cf53 cJ8_hugeLength_7cf53 3 (some .int), Cond.methodLink RJ5 108 yJ7_copyOf_9075b, Cond.static yJ7_copyOf_9075b, Cond.initialized RJ7, Cond.code yJ7_copyOf_9075b cJ7_copyOf_9075b 3 (some (.array .byte)), Cond.methodLink RJ7 310 ⟨"[B", "clone", "()Ljava/lang/Object;"⟩, Cond.sameMethod "[B" "java/lang/Object" "clone" "()Ljava/lang/Object;", Cond.native ⟨"java/lang/Object", "clone", "()Ljava/lang/Object;"⟩, Cond.instanceMethod ⟨"java/lang/Object", "clone", "()Ljava/lang/Object;"⟩, Cond.selects "[B" ⟨"[B", "clone", "()Ljava/lang/Object;"⟩ ⟨"java/lang/Object", "clone", "()Ljava/lang/Object;"⟩, Cond.classLink RJ7 311 "[B", Cond.arrayClass .byte, Cond.methodLink RJ7 304 Lib.Math.min.name, Cond.static Lib.Math.min.name, Cond.code Lib.Math.min.name Lib.Math.min.code 2 (some .int), Cond.methodLink RJ7 150 arraycopyName, Cond.native arraycopyName]
def wsJ5_append_cf1ce_r3 : List Cond := [Cond.static arraycopyName, Cond.initialized "java/lang/System", Cond.methodLink RJ5 83 ⟨"java/lang/AbstractStringBuilder", "isLatin1", "()Z"⟩, Cond.sameMethod "java/lang/AbstractStringBuilder" "java/lang/AbstractStringBuilder" "isLatin1" "()Z", Cond.selects RJ4 ⟨"java/lang/AbstractStringBuilder", "isLatin1", "()Z"⟩ yJ5_isLatin1_aae02, Cond.instanceMethod yJ5_isLatin1_aae02, Cond.code yJ5_isLatin1_aae02 cJ5_isLatin1_aae02 1 (some .boolean), Cond.fieldLink RJ5 18 "java/lang/String" "COMPACT_STRINGS" "Z", Cond.methodLink RJ5 226 yJ2_putCharsAt_cd4e5, Cond.static yJ2_putCharsAt_cd4e5, Cond.initialized RJ2, Cond.code yJ2_putCharsAt_cd4e5 cJ2_putCharsAt_cd4e5 7 (some .int), Cond.fieldLink RJ2 44 "java/lang/StringUTF16" "$assertionsDisabled" "Z", Cond.methodLink RJ2 96 yJ2_checkBoundsBeginEnd_d044e, Cond.static yJ2_checkBoundsBeginEnd_d044e, Cond.code yJ2_checkBoundsBeginEnd_d044e cJ2_checkBoundsBeginEnd_d044e 3 none, Cond.methodLink RJ2 48 yJ2_length_9d52b, Cond.static yJ2_length_9d52b, Cond.code yJ2_length_9d52b cJ2_length_9d52b 1 (some .int), Cond.methodLink RJ2 241 yJ0_checkBoundsBeginEnd_23922, Cond.static yJ0_checkBoundsBeginEnd_23922, Cond.initialized RJ0, Cond.code yJ0_checkBoundsBeginEnd_23922 cJ0_checkBoundsBeginEnd_23922 3 none, Cond.fieldLink RJ0 1053 "jdk/internal/util/Preconditions" "SIOOBE_FORMATTER" "Ljava/util/function/BiFunction;"]
def wsJ5_append_cf1ce_r4 : List Cond := [Cond.methodLink RJ0 1062 yJ3_checkFromToIndex_8c36e, Cond.static yJ3_checkFromToIndex_8c36e, Cond.initialized RJ3, Cond.code yJ3_checkFromToIndex_8c36e cJ3_checkFromToIndex_8c36e 4 (some .int), Cond.methodLink RJ2 111 yJ2_putChar_b72d1, Cond.static yJ2_putChar_b72d1, Cond.code yJ2_putChar_b72d1 cJ2_putChar_b72d1 3 none, Cond.fieldLink RJ2 59 "java/lang/StringUTF16" "HI_BYTE_SHIFT" "I", Cond.fieldLink RJ2 63 "java/lang/StringUTF16" "LO_BYTE_SHIFT" "I", Cond.methodLink RJ5 32 yJ0_length_8abf5, Cond.instanceMethod yJ0_length_8abf5, Cond.selects RJ0 yJ0_length_8abf5 yJ0_length_8abf5, Cond.code yJ0_length_8abf5 cJ0_length_8abf5 1 (some .int), Cond.fieldLink RJ0 9 "java/lang/String" "value" "[B", Cond.methodLink RJ0 335 yJ0_coder_7d493, Cond.instanceMethod yJ0_coder_7d493, Cond.selects RJ0 yJ0_coder_7d493 yJ0_coder_7d493, Cond.code yJ0_coder_7d493 cJ0_coder_7d493 1 (some .byte), Cond.fieldLink RJ0 38 "java/lang/String" "COMPACT_STRINGS" "Z", Cond.fieldLink RJ0 15 "java/lang/String" "coder" "B", Cond.methodLink RJ5 208 ⟨"java/lang/AbstractStringBuilder", "putStringAt", "(ILjava/lang/String;)V"⟩, Cond.sameMethod "java/lang/AbstractStringBuilder" "java/lang/AbstractStringBuilder" "putStringAt" "(ILjava/lang/String;)V", Cond.selects RJ4 ⟨"java/lang/AbstractStringBuilder", "putStringAt", "(ILjava/lang/String;)V"⟩ yJ5_putStringAt_47b60, Cond.instanceMethod yJ5_putStringAt_47b60]
def wsJ5_append_cf1ce_r5 : List Cond := [Cond.code yJ5_putStringAt_47b60 cJ5_putStringAt_47b60 3 none, Cond.methodLink RJ5 397 ⟨"java/lang/AbstractStringBuilder", "inflateIfNeededFor", "(Ljava/lang/String;)V"⟩, Cond.sameMethod "java/lang/AbstractStringBuilder" "java/lang/AbstractStringBuilder" "inflateIfNeededFor" "(Ljava/lang/String;)V", Cond.selects RJ4 ⟨"java/lang/AbstractStringBuilder", "inflateIfNeededFor", "(Ljava/lang/String;)V"⟩ yJ5_inflateIfNeededFor_a7421, Cond.instanceMethod yJ5_inflateIfNeededFor_a7421, Cond.code yJ5_inflateIfNeededFor_a7421 cJ5_inflateIfNeededFor_a7421 2 none, Cond.methodLink RJ5 40 yJ0_coder_7d493, Cond.methodLink RJ5 195 ⟨"java/lang/AbstractStringBuilder", "inflate", "()V"⟩, Cond.sameMethod "java/lang/AbstractStringBuilder" "java/lang/AbstractStringBuilder" "inflate" "()V", Cond.selects RJ4 ⟨"java/lang/AbstractStringBuilder", "inflate", "()V"⟩ yJ5_inflate_da8c8, Cond.instanceMethod yJ5_inflate_da8c8, Cond.code yJ5_inflate_da8c8 cJ5_inflate_da8c8 2 none, Cond.methodLink RJ5 26 yJ2_newBytesFor_77867, Cond.static yJ2_newBytesFor_77867, Cond.code yJ2_newBytesFor_77867 cJ2_newBytesFor_77867 1 (some (.array .byte)), Cond.methodLink RJ2 11 yJ2_newBytesLength_0f7a4, Cond.static yJ2_newBytesLength_0f7a4, Cond.code yJ2_newBytesLength_0f7a4 cJ2_newBytesLength_0f7a4 1 (some .int), Cond.constant RJ2 20 (1073741823), Cond.methodLink RJ5 125 yJ1_inflate_0e8fd, Cond.static yJ1_inflate_0e8fd, Cond.initialized RJ1, Cond.code yJ1_inflate_0e8fd cJ1_inflate_0e8fd 5 none, Cond.methodLink RJ1 240 yJ2_inflate_0e8fd]
def wsJ5_append_cf1ce_r6 : List Cond := [Cond.static yJ2_inflate_0e8fd, Cond.code yJ2_inflate_0e8fd cJ2_inflate_0e8fd 6 none, Cond.methodLink RJ2 173 yJ2_checkBoundsOffCount_d044e, Cond.static yJ2_checkBoundsOffCount_d044e, Cond.code yJ2_checkBoundsOffCount_d044e cJ2_checkBoundsOffCount_d044e 3 none, Cond.methodLink RJ2 419 yJ0_checkBoundsOffCount_cabcc, Cond.static yJ0_checkBoundsOffCount_cabcc, Cond.code yJ0_checkBoundsOffCount_cabcc cJ0_checkBoundsOffCount_cabcc 3 (some .int), Cond.methodLink RJ0 1065 yJ3_checkFromIndexSize_8c36e, Cond.static yJ3_checkFromIndexSize_8c36e, Cond.code yJ3_checkFromIndexSize_8c36e cJ3_checkFromIndexSize_8c36e 4 (some .int), Cond.methodLink RJ5 399 yJ0_getBytes_840e7, Cond.instanceMethod yJ0_getBytes_840e7, Cond.selects RJ0 yJ0_getBytes_840e7 yJ0_getBytes_840e7, Cond.code yJ0_getBytes_840e7 cJ0_getBytes_840e7 4 none, Cond.methodLink RJ0 212 arraycopyName, Cond.methodLink RJ0 106 yJ1_inflate_0e8fd]
def wsJ5_append_cf1ce : List Cond := .code yJ5_append_cf1ce cJ5_append_cf1ce 3 (some (.object "java/lang/AbstractStringBuilder")) :: ((wsJ5_append_cf1ce_r1 ++ (wsJ5_append_cf1ce_r2 ++ (wsJ5_append_cf1ce_r3 ++ (wsJ5_append_cf1ce_r4 ++ (wsJ5_append_cf1ce_r5 ++ wsJ5_append_cf1ce_r6))))) ++ wsJ40 ++ wsJ00)
def wsJ6_stringSize_0f7a4 : List Cond := .code yJ6_stringSize_0f7a4 cJ6_stringSize_0f7a4 4 (some .int) :: ([])
def wsJ6_getChars_ba4f3 : List Cond := .code yJ6_getChars_ba4f3 cJ6_getChars_ba4f3 7 (some .int) :: ([.fieldLink RJ6 83 "java/lang/Integer" "DigitOnes" "[B", .fieldLink RJ6 87 "java/lang/Integer" "DigitTens" "[B"])
def wsJ2_getChars_ba4f3 : List Cond := .code yJ2_getChars_ba4f3 cJ2_getChars_ba4f3 7 (some .int) :: ([.fieldLink RJ2 403 "java/lang/Integer" "DigitOnes" "[B", .fieldLink RJ2 407 "java/lang/Integer" "DigitTens" "[B", .methodLink RJ2 111 yJ2_putChar_b72d1, .static yJ2_putChar_b72d1, .initialized RJ2, .code yJ2_putChar_b72d1 cJ2_putChar_b72d1 3 none, .fieldLink RJ2 44 "java/lang/StringUTF16" "$assertionsDisabled" "Z", .fieldLink RJ2 59 "java/lang/StringUTF16" "HI_BYTE_SHIFT" "I", .fieldLink RJ2 63 "java/lang/StringUTF16" "LO_BYTE_SHIFT" "I", .methodLink RJ2 48 yJ2_length_9d52b, .static yJ2_length_9d52b, .code yJ2_length_9d52b cJ2_length_9d52b 1 (some .int)])
def wsJ2_getChars_46870_r1 : List Cond := [Cond.fieldLink RJ2 44 "java/lang/StringUTF16" "$assertionsDisabled" "Z", Cond.methodLink RJ2 96 yJ2_checkBoundsBeginEnd_d044e, Cond.static yJ2_checkBoundsBeginEnd_d044e, Cond.initialized RJ2, Cond.code yJ2_checkBoundsBeginEnd_d044e cJ2_checkBoundsBeginEnd_d044e 3 none, Cond.methodLink RJ2 48 yJ2_length_9d52b, Cond.static yJ2_length_9d52b, Cond.code yJ2_length_9d52b cJ2_length_9d52b 1 (some .int), Cond.methodLink RJ2 241 yJ0_checkBoundsBeginEnd_23922, Cond.static yJ0_checkBoundsBeginEnd_23922, Cond.initialized RJ0, Cond.code yJ0_checkBoundsBeginEnd_23922 cJ0_checkBoundsBeginEnd_23922 3 none, Cond.fieldLink RJ0 1053 "jdk/internal/util/Preconditions" "SIOOBE_FORMATTER" "Ljava/util/function/BiFunction;", Cond.methodLink RJ0 1062 yJ3_checkFromToIndex_8c36e, Cond.static yJ3_checkFromToIndex_8c36e, Cond.initialized RJ3, Cond.code yJ3_checkFromToIndex_8c36e cJ3_checkFromToIndex_8c36e 4 (some .int), Cond.methodLink RJ2 393 yJ2_getChars_ba4f3, Cond.static yJ2_getChars_ba4f3, Cond.code yJ2_getChars_ba4f3 cJ2_getChars_ba4f3 7 (some .int), Cond.fieldLink RJ2 403 "java/lang/Integer" "DigitOnes" "[B", Cond.fieldLink RJ2 407 "java/lang/Integer" "DigitTens" "[B", Cond.methodLink RJ2 111 yJ2_putChar_b72d1, Cond.static yJ2_putChar_b72d1]
def wsJ2_getChars_46870_r2 : List Cond := [Cond.code yJ2_putChar_b72d1 cJ2_putChar_b72d1 3 none, Cond.fieldLink RJ2 59 "java/lang/StringUTF16" "HI_BYTE_SHIFT" "I", Cond.fieldLink RJ2 63 "java/lang/StringUTF16" "LO_BYTE_SHIFT" "I"]
def wsJ2_getChars_46870 : List Cond := .code yJ2_getChars_46870 cJ2_getChars_46870 5 (some .int) :: ((wsJ2_getChars_46870_r1 ++ wsJ2_getChars_46870_r2))
def wsJ5_append_c97b9_r1 : List Cond := [Cond.fieldLink RJ5 79 "java/lang/AbstractStringBuilder" "count" "I", Cond.fieldLink RJ5 15 "java/lang/AbstractStringBuilder" "value" "[B", Cond.methodLink RJ5 245 yJ6_stringSize_0f7a4, Cond.static yJ6_stringSize_0f7a4, Cond.initialized RJ6, Cond.code yJ6_stringSize_0f7a4 cJ6_stringSize_0f7a4 4 (some .int), Cond.methodLink RJ5 100 ⟨"java/lang/AbstractStringBuilder", "ensureCapacityInternal", "(I)V"⟩, Cond.sameMethod "java/lang/AbstractStringBuilder" "java/lang/AbstractStringBuilder" "ensureCapacityInternal" "(I)V", Cond.selects RJ4 ⟨"java/lang/AbstractStringBuilder", "ensureCapacityInternal", "(I)V"⟩ yJ5_ensureCapacityInternal_d00df, Cond.instanceMethod yJ5_ensureCapacityInternal_d00df, Cond.initialized RJ5, Cond.code yJ5_ensureCapacityInternal_d00df cJ5_ensureCapacityInternal_d00df 3 none, Cond.fieldLink RJ5 22 "java/lang/AbstractStringBuilder" "coder" "B", Cond.methodLink RJ5 104 ⟨"java/lang/AbstractStringBuilder", "newCapacity", "(I)I"⟩, Cond.sameMethod "java/lang/AbstractStringBuilder" "java/lang/AbstractStringBuilder" "newCapacity" "(I)I", Cond.selects RJ4 ⟨"java/lang/AbstractStringBuilder", "newCapacity", "(I)I"⟩ yJ5_newCapacity_0f7a4, Cond.instanceMethod yJ5_newCapacity_0f7a4, Cond.code yJ5_newCapacity_0f7a4 cJ5_newCapacity_0f7a4 6 (some .int), Cond.constant RJ5 39 (2147483647), Cond.methodLink RJ5 114 yJ8_newLength_cabcc, Cond.static yJ8_newLength_cabcc, Cond.initialized RJ8, Cond.code yJ8_newLength_cabcc cJ8_newLength_cabcc 4 (some .int), Cond.methodLink RJ8 194 Lib.Math.max.name]
def wsJ5_append_c97b9_r2 : List Cond := [Cond.static Lib.Math.max.name, Cond.initialized "java/lang/Math", Cond.code Lib.Math.max.name Lib.Math.max.code 2 (some .int), Cond.constant RJ8 200 (2147483639), Cond.methodLink RJ8 201 yJ8_hugeLength_7cf53, Cond.static yJ8_hugeLength_7cf53, Cond.code yJ8_hugeLength_7cf53 cJ8_hugeLength_7cf53 3 (some .int), Cond.methodLink RJ5 108 yJ7_copyOf_9075b, Cond.static yJ7_copyOf_9075b, Cond.initialized RJ7, Cond.code yJ7_copyOf_9075b cJ7_copyOf_9075b 3 (some (.array .byte)), Cond.methodLink RJ7 310 ⟨"[B", "clone", "()Ljava/lang/Object;"⟩, Cond.sameMethod "[B" "java/lang/Object" "clone" "()Ljava/lang/Object;", Cond.native ⟨"java/lang/Object", "clone", "()Ljava/lang/Object;"⟩, Cond.instanceMethod ⟨"java/lang/Object", "clone", "()Ljava/lang/Object;"⟩, Cond.selects "[B" ⟨"[B", "clone", "()Ljava/lang/Object;"⟩ ⟨"java/lang/Object", "clone", "()Ljava/lang/Object;"⟩, Cond.classLink RJ7 311 "[B", Cond.arrayClass .byte, Cond.methodLink RJ7 304 Lib.Math.min.name, Cond.static Lib.Math.min.name, Cond.code Lib.Math.min.name Lib.Math.min.code 2 (some .int), Cond.methodLink RJ7 150 arraycopyName, Cond.native arraycopyName, Cond.static arraycopyName]
def wsJ5_append_c97b9_r3 : List Cond := [Cond.initialized "java/lang/System", Cond.methodLink RJ5 83 ⟨"java/lang/AbstractStringBuilder", "isLatin1", "()Z"⟩, Cond.sameMethod "java/lang/AbstractStringBuilder" "java/lang/AbstractStringBuilder" "isLatin1" "()Z", Cond.selects RJ4 ⟨"java/lang/AbstractStringBuilder", "isLatin1", "()Z"⟩ yJ5_isLatin1_aae02, Cond.instanceMethod yJ5_isLatin1_aae02, Cond.code yJ5_isLatin1_aae02 cJ5_isLatin1_aae02 1 (some .boolean), Cond.fieldLink RJ5 18 "java/lang/String" "COMPACT_STRINGS" "Z", Cond.methodLink RJ5 248 yJ6_getChars_ba4f3, Cond.static yJ6_getChars_ba4f3, Cond.code yJ6_getChars_ba4f3 cJ6_getChars_ba4f3 7 (some .int), Cond.fieldLink RJ6 83 "java/lang/Integer" "DigitOnes" "[B", Cond.fieldLink RJ6 87 "java/lang/Integer" "DigitTens" "[B", Cond.methodLink RJ5 251 yJ2_getChars_46870, Cond.static yJ2_getChars_46870, Cond.initialized RJ2, Cond.code yJ2_getChars_46870 cJ2_getChars_46870 5 (some .int), Cond.fieldLink RJ2 44 "java/lang/StringUTF16" "$assertionsDisabled" "Z", Cond.methodLink RJ2 96 yJ2_checkBoundsBeginEnd_d044e, Cond.static yJ2_checkBoundsBeginEnd_d044e, Cond.code yJ2_checkBoundsBeginEnd_d044e cJ2_checkBoundsBeginEnd_d044e 3 none, Cond.methodLink RJ2 48 yJ2_length_9d52b, Cond.static yJ2_length_9d52b, Cond.code yJ2_length_9d52b cJ2_length_9d52b 1 (some .int), Cond.methodLink RJ2 241 yJ0_checkBoundsBeginEnd_23922]
def wsJ5_append_c97b9_r4 : List Cond := [Cond.static yJ0_checkBoundsBeginEnd_23922, Cond.initialized RJ0, Cond.code yJ0_checkBoundsBeginEnd_23922 cJ0_checkBoundsBeginEnd_23922 3 none, Cond.fieldLink RJ0 1053 "jdk/internal/util/Preconditions" "SIOOBE_FORMATTER" "Ljava/util/function/BiFunction;", Cond.methodLink RJ0 1062 yJ3_checkFromToIndex_8c36e, Cond.static yJ3_checkFromToIndex_8c36e, Cond.initialized RJ3, Cond.code yJ3_checkFromToIndex_8c36e cJ3_checkFromToIndex_8c36e 4 (some .int), Cond.methodLink RJ2 393 yJ2_getChars_ba4f3, Cond.static yJ2_getChars_ba4f3, Cond.code yJ2_getChars_ba4f3 cJ2_getChars_ba4f3 7 (some .int), Cond.fieldLink RJ2 403 "java/lang/Integer" "DigitOnes" "[B", Cond.fieldLink RJ2 407 "java/lang/Integer" "DigitTens" "[B", Cond.methodLink RJ2 111 yJ2_putChar_b72d1, Cond.static yJ2_putChar_b72d1, Cond.code yJ2_putChar_b72d1 cJ2_putChar_b72d1 3 none, Cond.fieldLink RJ2 59 "java/lang/StringUTF16" "HI_BYTE_SHIFT" "I", Cond.fieldLink RJ2 63 "java/lang/StringUTF16" "LO_BYTE_SHIFT" "I"]
def wsJ5_append_c97b9 : List Cond := .code yJ5_append_c97b9 cJ5_append_c97b9 4 (some (.object "java/lang/AbstractStringBuilder")) :: ((wsJ5_append_c97b9_r1 ++ (wsJ5_append_c97b9_r2 ++ (wsJ5_append_c97b9_r3 ++ wsJ5_append_c97b9_r4))) ++ wsJ40)
def wsJ5_getValue_6d5f1 : List Cond := .code yJ5_getValue_6d5f1 cJ5_getValue_6d5f1 1 (some (.array .byte)) :: ([.fieldLink RJ5 15 "java/lang/AbstractStringBuilder" "value" "[B"] ++ wsJ40)
def wsJ9_max_7cf53 : List Cond := .code yJ9_max_7cf53 cJ9_max_7cf53 2 (some .int) :: ([])
def wsJ9_min_7cf53 : List Cond := .code yJ9_min_7cf53 cJ9_min_7cf53 2 (some .int) :: ([])
def wsJ4_length_8abf5 : List Cond := .code yJ4_length_8abf5 cJ4_length_8abf5 1 (some .int) :: ([.methodLink RJ4 343 yJ5_length_8abf5, .sameMethod "java/lang/AbstractStringBuilder" "java/lang/AbstractStringBuilder" "length" "()I", .superclass RJ4 RJ5, .instanceMethod yJ5_length_8abf5, .initialized RJ5, .code yJ5_length_8abf5 cJ5_length_8abf5 1 (some .int), .fieldLink RJ5 79 "java/lang/AbstractStringBuilder" "count" "I"] ++ wsJ40)
def wsJ7_checkLength_df160 : List Cond := .code yJ7_checkLength_df160 cJ7_checkLength_df160 2 none :: ([.classLink RJ7 45 RJ4, .instantiable RJ4 4, .initialized RJ4] ++ wsJ40)
def wsJ7_copyOfRangeByte_39247 : List Cond := .code yJ7_copyOfRangeByte_39247 cJ7_copyOfRangeByte_39247 5 (some (.array .byte)) :: ([.arrayClass .byte, .methodLink RJ7 304 Lib.Math.min.name, .static Lib.Math.min.name, .initialized "java/lang/Math", .code Lib.Math.min.name Lib.Math.min.code 2 (some .int), .methodLink RJ7 150 arraycopyName, .native arraycopyName, .static arraycopyName, .initialized "java/lang/System", .methodLink RJ7 343 yJ7_checkLength_df160, .static yJ7_checkLength_df160, .initialized RJ7, .code yJ7_checkLength_df160 cJ7_checkLength_df160 2 none, .classLink RJ7 45 RJ4, .instantiable RJ4 4, .initialized RJ4] ++ wsJ40)
def wsJ7_copyOfRange_39247_r1 : List Cond := [Cond.methodLink RJ7 310 ⟨"[B", "clone", "()Ljava/lang/Object;"⟩, Cond.sameMethod "[B" "java/lang/Object" "clone" "()Ljava/lang/Object;", Cond.native ⟨"java/lang/Object", "clone", "()Ljava/lang/Object;"⟩, Cond.instanceMethod ⟨"java/lang/Object", "clone", "()Ljava/lang/Object;"⟩, Cond.selects "[B" ⟨"[B", "clone", "()Ljava/lang/Object;"⟩ ⟨"java/lang/Object", "clone", "()Ljava/lang/Object;"⟩, Cond.classLink RJ7 311 "[B", Cond.methodLink RJ7 339 yJ7_copyOfRangeByte_39247, Cond.static yJ7_copyOfRangeByte_39247, Cond.initialized RJ7, Cond.code yJ7_copyOfRangeByte_39247 cJ7_copyOfRangeByte_39247 5 (some (.array .byte)), Cond.arrayClass .byte, Cond.methodLink RJ7 304 Lib.Math.min.name, Cond.static Lib.Math.min.name, Cond.initialized "java/lang/Math", Cond.code Lib.Math.min.name Lib.Math.min.code 2 (some .int), Cond.methodLink RJ7 150 arraycopyName, Cond.native arraycopyName, Cond.static arraycopyName, Cond.initialized "java/lang/System", Cond.methodLink RJ7 343 yJ7_checkLength_df160, Cond.static yJ7_checkLength_df160, Cond.code yJ7_checkLength_df160 cJ7_checkLength_df160 2 none, Cond.classLink RJ7 45 RJ4, Cond.instantiable RJ4 4]
def wsJ7_copyOfRange_39247_r2 : List Cond := [Cond.initialized RJ4]
def wsJ7_copyOfRange_39247 : List Cond := .code yJ7_copyOfRange_39247 cJ7_copyOfRange_39247 3 (some (.array .byte)) :: ((wsJ7_copyOfRange_39247_r1 ++ wsJ7_copyOfRange_39247_r2) ++ wsJ40)
def wsJ2_getChar_3b067 : List Cond := .code yJ2_getChar_3b067 cJ2_getChar_3b067 2 (some .char) :: ([.fieldLink RJ2 44 "java/lang/StringUTF16" "$assertionsDisabled" "Z", .fieldLink RJ2 59 "java/lang/StringUTF16" "HI_BYTE_SHIFT" "I", .fieldLink RJ2 63 "java/lang/StringUTF16" "LO_BYTE_SHIFT" "I", .methodLink RJ2 48 yJ2_length_9d52b, .static yJ2_length_9d52b, .initialized RJ2, .code yJ2_length_9d52b cJ2_length_9d52b 1 (some .int)])
def wsJ2_compress_5af95 : List Cond := .code yJ2_compress_5af95 cJ2_compress_5af95 7 (some .int) :: ([.methodLink RJ2 173 yJ2_checkBoundsOffCount_d044e, .static yJ2_checkBoundsOffCount_d044e, .initialized RJ2, .code yJ2_checkBoundsOffCount_d044e cJ2_checkBoundsOffCount_d044e 3 none, .methodLink RJ2 48 yJ2_length_9d52b, .static yJ2_length_9d52b, .code yJ2_length_9d52b cJ2_length_9d52b 1 (some .int), .methodLink RJ2 419 yJ0_checkBoundsOffCount_cabcc, .static yJ0_checkBoundsOffCount_cabcc, .initialized RJ0, .code yJ0_checkBoundsOffCount_cabcc cJ0_checkBoundsOffCount_cabcc 3 (some .int), .fieldLink RJ0 1053 "jdk/internal/util/Preconditions" "SIOOBE_FORMATTER" "Ljava/util/function/BiFunction;", .methodLink RJ0 1065 yJ3_checkFromIndexSize_8c36e, .static yJ3_checkFromIndexSize_8c36e, .initialized RJ3, .code yJ3_checkFromIndexSize_8c36e cJ3_checkFromIndexSize_8c36e 4 (some .int), .methodLink RJ2 71 yJ2_getChar_3b067, .static yJ2_getChar_3b067, .code yJ2_getChar_3b067 cJ2_getChar_3b067 2 (some .char), .fieldLink RJ2 44 "java/lang/StringUTF16" "$assertionsDisabled" "Z", .fieldLink RJ2 59 "java/lang/StringUTF16" "HI_BYTE_SHIFT" "I", .fieldLink RJ2 63 "java/lang/StringUTF16" "LO_BYTE_SHIFT" "I"])
def wsJ2_compress_39247_r1 : List Cond := [Cond.arrayClass .byte, Cond.methodLink RJ2 123 yJ2_compress_5af95, Cond.static yJ2_compress_5af95, Cond.initialized RJ2, Cond.code yJ2_compress_5af95 cJ2_compress_5af95 7 (some .int), Cond.methodLink RJ2 173 yJ2_checkBoundsOffCount_d044e, Cond.static yJ2_checkBoundsOffCount_d044e, Cond.code yJ2_checkBoundsOffCount_d044e cJ2_checkBoundsOffCount_d044e 3 none, Cond.methodLink RJ2 48 yJ2_length_9d52b, Cond.static yJ2_length_9d52b, Cond.code yJ2_length_9d52b cJ2_length_9d52b 1 (some .int), Cond.methodLink RJ2 419 yJ0_checkBoundsOffCount_cabcc, Cond.static yJ0_checkBoundsOffCount_cabcc, Cond.initialized RJ0, Cond.code yJ0_checkBoundsOffCount_cabcc cJ0_checkBoundsOffCount_cabcc 3 (some .int), Cond.fieldLink RJ0 1053 "jdk/internal/util/Preconditions" "SIOOBE_FORMATTER" "Ljava/util/function/BiFunction;", Cond.methodLink RJ0 1065 yJ3_checkFromIndexSize_8c36e, Cond.static yJ3_checkFromIndexSize_8c36e, Cond.initialized RJ3, Cond.code yJ3_checkFromIndexSize_8c36e cJ3_checkFromIndexSize_8c36e 4 (some .int), Cond.methodLink RJ2 71 yJ2_getChar_3b067, Cond.static yJ2_getChar_3b067, Cond.code yJ2_getChar_3b067 cJ2_getChar_3b067 2 (some .char), Cond.fieldLink RJ2 44 "java/lang/StringUTF16" "$assertionsDisabled" "Z"]
def wsJ2_compress_39247_r2 : List Cond := [Cond.fieldLink RJ2 59 "java/lang/StringUTF16" "HI_BYTE_SHIFT" "I", Cond.fieldLink RJ2 63 "java/lang/StringUTF16" "LO_BYTE_SHIFT" "I", Cond.methodLink RJ2 11 yJ2_newBytesLength_0f7a4, Cond.static yJ2_newBytesLength_0f7a4, Cond.code yJ2_newBytesLength_0f7a4 cJ2_newBytesLength_0f7a4 1 (some .int), Cond.constant RJ2 20 (1073741823), Cond.methodLink RJ2 126 yJ7_copyOfRange_39247, Cond.static yJ7_copyOfRange_39247, Cond.initialized RJ7, Cond.code yJ7_copyOfRange_39247 cJ7_copyOfRange_39247 3 (some (.array .byte)), Cond.methodLink RJ7 310 ⟨"[B", "clone", "()Ljava/lang/Object;"⟩, Cond.sameMethod "[B" "java/lang/Object" "clone" "()Ljava/lang/Object;", Cond.native ⟨"java/lang/Object", "clone", "()Ljava/lang/Object;"⟩, Cond.instanceMethod ⟨"java/lang/Object", "clone", "()Ljava/lang/Object;"⟩, Cond.selects "[B" ⟨"[B", "clone", "()Ljava/lang/Object;"⟩ ⟨"java/lang/Object", "clone", "()Ljava/lang/Object;"⟩, Cond.classLink RJ7 311 "[B", Cond.methodLink RJ7 339 yJ7_copyOfRangeByte_39247, Cond.static yJ7_copyOfRangeByte_39247, Cond.code yJ7_copyOfRangeByte_39247 cJ7_copyOfRangeByte_39247 5 (some (.array .byte)), Cond.methodLink RJ7 304 Lib.Math.min.name, Cond.static Lib.Math.min.name, Cond.initialized "java/lang/Math", Cond.code Lib.Math.min.name Lib.Math.min.code 2 (some .int), Cond.methodLink RJ7 150 arraycopyName]
def wsJ2_compress_39247_r3 : List Cond := [Cond.native arraycopyName, Cond.static arraycopyName, Cond.initialized "java/lang/System", Cond.methodLink RJ7 343 yJ7_checkLength_df160, Cond.static yJ7_checkLength_df160, Cond.code yJ7_checkLength_df160 cJ7_checkLength_df160 2 none, Cond.classLink RJ7 45 RJ4, Cond.instantiable RJ4 4, Cond.initialized RJ4]
def wsJ2_compress_39247 : List Cond := .code yJ2_compress_39247 cJ2_compress_39247 6 (some (.array .byte)) :: ((wsJ2_compress_39247_r1 ++ (wsJ2_compress_39247_r2 ++ wsJ2_compress_39247_r3)) ++ wsJ40)
def wsJ2_coderFromArrayLen_85cad : List Cond := .code yJ2_coderFromArrayLen_85cad cJ2_coderFromArrayLen_85cad 2 (some .byte) :: ([])
def wsJ0_init_db425_r1 : List Cond := [Cond.methodLink RJ0 1 objectInit, Cond.instanceMethod objectInit, Cond.code objectInit ⟨#[0xb1]⟩ 1 none, Cond.fieldLink RJ0 15 "java/lang/String" "coder" "B", Cond.fieldLink RJ0 9 "java/lang/String" "value" "[B", Cond.fieldLink RJ0 38 "java/lang/String" "COMPACT_STRINGS" "Z", Cond.fieldLink RJ0 1048 "java/lang/AbstractStringBuilder" "maybeLatin1" "Z", Cond.methodLink RJ0 552 ⟨"java/lang/AbstractStringBuilder", "getValue", "()[B"⟩, Cond.sameMethod "java/lang/AbstractStringBuilder" "java/lang/AbstractStringBuilder" "getValue" "()[B", Cond.selects RJ4 ⟨"java/lang/AbstractStringBuilder", "getValue", "()[B"⟩ yJ5_getValue_6d5f1, Cond.instanceMethod yJ5_getValue_6d5f1, Cond.initialized RJ5, Cond.code yJ5_getValue_6d5f1 cJ5_getValue_6d5f1 1 (some (.array .byte)), Cond.fieldLink RJ5 15 "java/lang/AbstractStringBuilder" "value" "[B", Cond.methodLink RJ0 549 ⟨"java/lang/AbstractStringBuilder", "length", "()I"⟩, Cond.sameMethod "java/lang/AbstractStringBuilder" "java/lang/AbstractStringBuilder" "length" "()I", Cond.instanceMethod ⟨"java/lang/AbstractStringBuilder", "length", "()I"⟩, Cond.selects RJ4 ⟨"java/lang/AbstractStringBuilder", "length", "()I"⟩ yJ4_length_8abf5, Cond.instanceMethod yJ4_length_8abf5, Cond.initialized RJ4, Cond.code yJ4_length_8abf5 cJ4_length_8abf5 1 (some .int), Cond.methodLink RJ4 343 yJ5_length_8abf5, Cond.superclass RJ4 RJ5, Cond.instanceMethod yJ5_length_8abf5]
def wsJ0_init_db425_r2 : List Cond := [Cond.code yJ5_length_8abf5 cJ5_length_8abf5 1 (some .int), Cond.fieldLink RJ5 79 "java/lang/AbstractStringBuilder" "count" "I", Cond.methodLink RJ0 1047 ⟨"java/lang/AbstractStringBuilder", "isLatin1", "()Z"⟩, Cond.sameMethod "java/lang/AbstractStringBuilder" "java/lang/AbstractStringBuilder" "isLatin1" "()Z", Cond.selects RJ4 ⟨"java/lang/AbstractStringBuilder", "isLatin1", "()Z"⟩ yJ5_isLatin1_aae02, Cond.instanceMethod yJ5_isLatin1_aae02, Cond.code yJ5_isLatin1_aae02 cJ5_isLatin1_aae02 1 (some .boolean), Cond.fieldLink RJ5 18 "java/lang/String" "COMPACT_STRINGS" "Z", Cond.fieldLink RJ5 22 "java/lang/AbstractStringBuilder" "coder" "B", Cond.methodLink RJ0 54 yJ7_copyOfRange_39247, Cond.static yJ7_copyOfRange_39247, Cond.initialized RJ7, Cond.code yJ7_copyOfRange_39247 cJ7_copyOfRange_39247 3 (some (.array .byte)), Cond.methodLink RJ7 310 ⟨"[B", "clone", "()Ljava/lang/Object;"⟩, Cond.sameMethod "[B" "java/lang/Object" "clone" "()Ljava/lang/Object;", Cond.native ⟨"java/lang/Object", "clone", "()Ljava/lang/Object;"⟩, Cond.instanceMethod ⟨"java/lang/Object", "clone", "()Ljava/lang/Object;"⟩, Cond.selects "[B" ⟨"[B", "clone", "()Ljava/lang/Object;"⟩ ⟨"java/lang/Object", "clone", "()Ljava/lang/Object;"⟩, Cond.classLink RJ7 311 "[B", Cond.methodLink RJ7 339 yJ7_copyOfRangeByte_39247, Cond.static yJ7_copyOfRangeByte_39247, Cond.code yJ7_copyOfRangeByte_39247 cJ7_copyOfRangeByte_39247 5 (some (.array .byte)), Cond.arrayClass .byte, Cond.methodLink RJ7 304 Lib.Math.min.name]
def wsJ0_init_db425_r3 : List Cond := [Cond.static Lib.Math.min.name, Cond.initialized "java/lang/Math", Cond.code Lib.Math.min.name Lib.Math.min.code 2 (some .int), Cond.methodLink RJ7 150 arraycopyName, Cond.native arraycopyName, Cond.static arraycopyName, Cond.initialized "java/lang/System", Cond.methodLink RJ7 343 yJ7_checkLength_df160, Cond.static yJ7_checkLength_df160, Cond.code yJ7_checkLength_df160 cJ7_checkLength_df160 2 none, Cond.classLink RJ7 45 RJ4, Cond.instantiable RJ4 4, Cond.methodLink RJ0 1051 yJ2_compress_39247, Cond.static yJ2_compress_39247, Cond.initialized RJ2, Cond.code yJ2_compress_39247 cJ2_compress_39247 6 (some (.array .byte)), Cond.methodLink RJ2 123 yJ2_compress_5af95, Cond.static yJ2_compress_5af95, Cond.code yJ2_compress_5af95 cJ2_compress_5af95 7 (some .int), Cond.methodLink RJ2 173 yJ2_checkBoundsOffCount_d044e, Cond.static yJ2_checkBoundsOffCount_d044e, Cond.code yJ2_checkBoundsOffCount_d044e cJ2_checkBoundsOffCount_d044e 3 none, Cond.methodLink RJ2 48 yJ2_length_9d52b, Cond.static yJ2_length_9d52b]
def wsJ0_init_db425_r4 : List Cond := [Cond.code yJ2_length_9d52b cJ2_length_9d52b 1 (some .int), Cond.methodLink RJ2 419 yJ0_checkBoundsOffCount_cabcc, Cond.static yJ0_checkBoundsOffCount_cabcc, Cond.initialized RJ0, Cond.code yJ0_checkBoundsOffCount_cabcc cJ0_checkBoundsOffCount_cabcc 3 (some .int), Cond.fieldLink RJ0 1053 "jdk/internal/util/Preconditions" "SIOOBE_FORMATTER" "Ljava/util/function/BiFunction;", Cond.methodLink RJ0 1065 yJ3_checkFromIndexSize_8c36e, Cond.static yJ3_checkFromIndexSize_8c36e, Cond.initialized RJ3, Cond.code yJ3_checkFromIndexSize_8c36e cJ3_checkFromIndexSize_8c36e 4 (some .int), Cond.methodLink RJ2 71 yJ2_getChar_3b067, Cond.static yJ2_getChar_3b067, Cond.code yJ2_getChar_3b067 cJ2_getChar_3b067 2 (some .char), Cond.fieldLink RJ2 44 "java/lang/StringUTF16" "$assertionsDisabled" "Z", Cond.fieldLink RJ2 59 "java/lang/StringUTF16" "HI_BYTE_SHIFT" "I", Cond.fieldLink RJ2 63 "java/lang/StringUTF16" "LO_BYTE_SHIFT" "I", Cond.methodLink RJ2 11 yJ2_newBytesLength_0f7a4, Cond.static yJ2_newBytesLength_0f7a4, Cond.code yJ2_newBytesLength_0f7a4 cJ2_newBytesLength_0f7a4 1 (some .int), Cond.constant RJ2 20 (1073741823), Cond.methodLink RJ2 126 yJ7_copyOfRange_39247, Cond.methodLink RJ0 47 yJ2_coderFromArrayLen_85cad, Cond.static yJ2_coderFromArrayLen_85cad, Cond.code yJ2_coderFromArrayLen_85cad cJ2_coderFromArrayLen_85cad 2 (some .byte)]
def wsJ0_init_db425 : List Cond := .code yJ0_init_db425 cJ0_init_db425 5 none :: ((wsJ0_init_db425_r1 ++ (wsJ0_init_db425_r2 ++ (wsJ0_init_db425_r3 ++ wsJ0_init_db425_r4))) ++ wsJ00 ++ wsJ40)
def wsJ0_init_81219_r1 : List Cond := [Cond.methodLink RJ0 489 yJ0_init_db425, Cond.instanceMethod yJ0_init_db425, Cond.initialized RJ0, Cond.code yJ0_init_db425 cJ0_init_db425 5 none, Cond.methodLink RJ0 1 objectInit, Cond.instanceMethod objectInit, Cond.code objectInit ⟨#[0xb1]⟩ 1 none, Cond.fieldLink RJ0 15 "java/lang/String" "coder" "B", Cond.fieldLink RJ0 9 "java/lang/String" "value" "[B", Cond.fieldLink RJ0 38 "java/lang/String" "COMPACT_STRINGS" "Z", Cond.fieldLink RJ0 1048 "java/lang/AbstractStringBuilder" "maybeLatin1" "Z", Cond.methodLink RJ0 552 ⟨"java/lang/AbstractStringBuilder", "getValue", "()[B"⟩, Cond.sameMethod "java/lang/AbstractStringBuilder" "java/lang/AbstractStringBuilder" "getValue" "()[B", Cond.selects RJ4 ⟨"java/lang/AbstractStringBuilder", "getValue", "()[B"⟩ yJ5_getValue_6d5f1, Cond.instanceMethod yJ5_getValue_6d5f1, Cond.initialized RJ5, Cond.code yJ5_getValue_6d5f1 cJ5_getValue_6d5f1 1 (some (.array .byte)), Cond.fieldLink RJ5 15 "java/lang/AbstractStringBuilder" "value" "[B", Cond.methodLink RJ0 549 ⟨"java/lang/AbstractStringBuilder", "length", "()I"⟩, Cond.sameMethod "java/lang/AbstractStringBuilder" "java/lang/AbstractStringBuilder" "length" "()I", Cond.instanceMethod ⟨"java/lang/AbstractStringBuilder", "length", "()I"⟩, Cond.selects RJ4 ⟨"java/lang/AbstractStringBuilder", "length", "()I"⟩ yJ4_length_8abf5, Cond.instanceMethod yJ4_length_8abf5, Cond.initialized RJ4]
def wsJ0_init_81219_r2 : List Cond := [Cond.code yJ4_length_8abf5 cJ4_length_8abf5 1 (some .int), Cond.methodLink RJ4 343 yJ5_length_8abf5, Cond.superclass RJ4 RJ5, Cond.instanceMethod yJ5_length_8abf5, Cond.code yJ5_length_8abf5 cJ5_length_8abf5 1 (some .int), Cond.fieldLink RJ5 79 "java/lang/AbstractStringBuilder" "count" "I", Cond.methodLink RJ0 1047 ⟨"java/lang/AbstractStringBuilder", "isLatin1", "()Z"⟩, Cond.sameMethod "java/lang/AbstractStringBuilder" "java/lang/AbstractStringBuilder" "isLatin1" "()Z", Cond.selects RJ4 ⟨"java/lang/AbstractStringBuilder", "isLatin1", "()Z"⟩ yJ5_isLatin1_aae02, Cond.instanceMethod yJ5_isLatin1_aae02, Cond.code yJ5_isLatin1_aae02 cJ5_isLatin1_aae02 1 (some .boolean), Cond.fieldLink RJ5 18 "java/lang/String" "COMPACT_STRINGS" "Z", Cond.fieldLink RJ5 22 "java/lang/AbstractStringBuilder" "coder" "B", Cond.methodLink RJ0 54 yJ7_copyOfRange_39247, Cond.static yJ7_copyOfRange_39247, Cond.initialized RJ7, Cond.code yJ7_copyOfRange_39247 cJ7_copyOfRange_39247 3 (some (.array .byte)), Cond.methodLink RJ7 310 ⟨"[B", "clone", "()Ljava/lang/Object;"⟩, Cond.sameMethod "[B" "java/lang/Object" "clone" "()Ljava/lang/Object;", Cond.native ⟨"java/lang/Object", "clone", "()Ljava/lang/Object;"⟩, Cond.instanceMethod ⟨"java/lang/Object", "clone", "()Ljava/lang/Object;"⟩, Cond.selects "[B" ⟨"[B", "clone", "()Ljava/lang/Object;"⟩ ⟨"java/lang/Object", "clone", "()Ljava/lang/Object;"⟩, Cond.classLink RJ7 311 "[B", Cond.methodLink RJ7 339 yJ7_copyOfRangeByte_39247]
def wsJ0_init_81219_r3 : List Cond := [Cond.static yJ7_copyOfRangeByte_39247, Cond.code yJ7_copyOfRangeByte_39247 cJ7_copyOfRangeByte_39247 5 (some (.array .byte)), Cond.arrayClass .byte, Cond.methodLink RJ7 304 Lib.Math.min.name, Cond.static Lib.Math.min.name, Cond.initialized "java/lang/Math", Cond.code Lib.Math.min.name Lib.Math.min.code 2 (some .int), Cond.methodLink RJ7 150 arraycopyName, Cond.native arraycopyName, Cond.static arraycopyName, Cond.initialized "java/lang/System", Cond.methodLink RJ7 343 yJ7_checkLength_df160, Cond.static yJ7_checkLength_df160, Cond.code yJ7_checkLength_df160 cJ7_checkLength_df160 2 none, Cond.classLink RJ7 45 RJ4, Cond.instantiable RJ4 4, Cond.methodLink RJ0 1051 yJ2_compress_39247, Cond.static yJ2_compress_39247, Cond.initialized RJ2, Cond.code yJ2_compress_39247 cJ2_compress_39247 6 (some (.array .byte)), Cond.methodLink RJ2 123 yJ2_compress_5af95, Cond.static yJ2_compress_5af95, Cond.code yJ2_compress_5af95 cJ2_compress_5af95 7 (some .int), Cond.methodLink RJ2 173 yJ2_checkBoundsOffCount_d044e]
def wsJ0_init_81219_r4 : List Cond := [Cond.static yJ2_checkBoundsOffCount_d044e, Cond.code yJ2_checkBoundsOffCount_d044e cJ2_checkBoundsOffCount_d044e 3 none, Cond.methodLink RJ2 48 yJ2_length_9d52b, Cond.static yJ2_length_9d52b, Cond.code yJ2_length_9d52b cJ2_length_9d52b 1 (some .int), Cond.methodLink RJ2 419 yJ0_checkBoundsOffCount_cabcc, Cond.static yJ0_checkBoundsOffCount_cabcc, Cond.code yJ0_checkBoundsOffCount_cabcc cJ0_checkBoundsOffCount_cabcc 3 (some .int), Cond.fieldLink RJ0 1053 "jdk/internal/util/Preconditions" "SIOOBE_FORMATTER" "Ljava/util/function/BiFunction;", Cond.methodLink RJ0 1065 yJ3_checkFromIndexSize_8c36e, Cond.static yJ3_checkFromIndexSize_8c36e, Cond.initialized RJ3, Cond.code yJ3_checkFromIndexSize_8c36e cJ3_checkFromIndexSize_8c36e 4 (some .int), Cond.methodLink RJ2 71 yJ2_getChar_3b067, Cond.static yJ2_getChar_3b067, Cond.code yJ2_getChar_3b067 cJ2_getChar_3b067 2 (some .char), Cond.fieldLink RJ2 44 "java/lang/StringUTF16" "$assertionsDisabled" "Z", Cond.fieldLink RJ2 59 "java/lang/StringUTF16" "HI_BYTE_SHIFT" "I", Cond.fieldLink RJ2 63 "java/lang/StringUTF16" "LO_BYTE_SHIFT" "I", Cond.methodLink RJ2 11 yJ2_newBytesLength_0f7a4, Cond.static yJ2_newBytesLength_0f7a4, Cond.code yJ2_newBytesLength_0f7a4 cJ2_newBytesLength_0f7a4 1 (some .int), Cond.constant RJ2 20 (1073741823), Cond.methodLink RJ2 126 yJ7_copyOfRange_39247]
def wsJ0_init_81219_r5 : List Cond := [Cond.methodLink RJ0 47 yJ2_coderFromArrayLen_85cad, Cond.static yJ2_coderFromArrayLen_85cad, Cond.code yJ2_coderFromArrayLen_85cad cJ2_coderFromArrayLen_85cad 2 (some .byte)]
def wsJ0_init_81219 : List Cond := .code yJ0_init_81219 cJ0_init_81219 2 none :: ((wsJ0_init_81219_r1 ++ (wsJ0_init_81219_r2 ++ (wsJ0_init_81219_r3 ++ (wsJ0_init_81219_r4 ++ wsJ0_init_81219_r5)))) ++ wsJ00 ++ wsJ40)
def wsJ4_init_da8c8 : List Cond := .code yJ4_init_da8c8 cJ4_init_da8c8 1 none :: ([.methodLink RJ4 1 yJ5_init_d00df, .instanceMethod yJ5_init_d00df, .initialized RJ5, .code yJ5_init_d00df cJ5_init_d00df 2 none, .methodLink RJ5 3 objectInit, .instanceMethod objectInit, .code objectInit ⟨#[0xb1]⟩ 1 none, .fieldLink RJ5 18 "java/lang/String" "COMPACT_STRINGS" "Z", .arrayClass .byte, .fieldLink RJ5 15 "java/lang/AbstractStringBuilder" "value" "[B", .fieldLink RJ5 22 "java/lang/AbstractStringBuilder" "coder" "B", .methodLink RJ5 26 yJ2_newBytesFor_77867, .static yJ2_newBytesFor_77867, .initialized RJ2, .code yJ2_newBytesFor_77867 cJ2_newBytesFor_77867 1 (some (.array .byte)), .methodLink RJ2 11 yJ2_newBytesLength_0f7a4, .static yJ2_newBytesLength_0f7a4, .code yJ2_newBytesLength_0f7a4 cJ2_newBytesLength_0f7a4 1 (some .int), .constant RJ2 20 (1073741823)] ++ wsJ40)
def wsJ4_append_15ec4_r1 : List Cond := [Cond.methodLink RJ4 29 yJ5_append_cf1ce, Cond.sameMethod "java/lang/AbstractStringBuilder" "java/lang/AbstractStringBuilder" "append" "(Ljava/lang/String;)Ljava/lang/AbstractStringBuilder;", Cond.superclass RJ4 RJ5, Cond.instanceMethod yJ5_append_cf1ce, Cond.initialized RJ5, Cond.code yJ5_append_cf1ce cJ5_append_cf1ce 3 (some (.object "java/lang/AbstractStringBuilder")), Cond.fieldLink RJ5 79 "java/lang/AbstractStringBuilder" "count" "I", Cond.methodLink RJ5 204 ⟨"java/lang/AbstractStringBuilder", "appendNull", "()Ljava/lang/AbstractStringBuilder;"⟩, Cond.sameMethod "java/lang/AbstractStringBuilder" "java/lang/AbstractStringBuilder" "appendNull" "()Ljava/lang/AbstractStringBuilder;", Cond.selects RJ4 ⟨"java/lang/AbstractStringBuilder", "appendNull", "()Ljava/lang/AbstractStringBuilder;"⟩ yJ5_appendNull_278bc, Cond.instanceMethod yJ5_appendNull_278bc, Cond.code yJ5_appendNull_278bc cJ5_appendNull_278bc 3 (some (.object "java/lang/AbstractStringBuilder")), Cond.fieldLink RJ5 15 "java/lang/AbstractStringBuilder" "value" "[B", Cond.methodLink RJ5 100 ⟨"java/lang/AbstractStringBuilder", "ensureCapacityInternal", "(I)V"⟩, Cond.sameMethod "java/lang/AbstractStringBuilder" "java/lang/AbstractStringBuilder" "ensureCapacityInternal" "(I)V", Cond.selects RJ4 ⟨"java/lang/AbstractStringBuilder", "ensureCapacityInternal", "(I)V"⟩ yJ5_ensureCapacityInternal_d00df, Cond.instanceMethod yJ5_ensureCapacityInternal_d00df, Cond.code yJ5_ensureCapacityInternal_d00df cJ5_ensureCapacityInternal_d00df 3 none, Cond.fieldLink RJ5 22 "java/lang/AbstractStringBuilder" "coder" "B", Cond.methodLink RJ5 104 ⟨"java/lang/AbstractStringBuilder", "newCapacity", "(I)I"⟩, Cond.sameMethod "java/lang/AbstractStringBuilder" "java/lang/AbstractStringBuilder" "newCapacity" "(I)I", Cond.selects RJ4 ⟨"java/lang/AbstractStringBuilder", "newCapacity", "(I)I"⟩ yJ5_newCapacity_0f7a4, Cond.instanceMethod yJ5_newCapacity_0f7a4, Cond.code yJ5_newCapacity_0f7a4 cJ5_newCapacity_0f7a4 6 (some .int)]
def wsJ4_append_15ec4_r2 : List Cond := [Cond.constant RJ5 39 (2147483647), Cond.methodLink RJ5 114 yJ8_newLength_cabcc, Cond.static yJ8_newLength_cabcc, Cond.initialized RJ8, Cond.code yJ8_newLength_cabcc cJ8_newLength_cabcc 4 (some .int), Cond.methodLink RJ8 194 Lib.Math.max.name, Cond.static Lib.Math.max.name, Cond.initialized "java/lang/Math", Cond.code Lib.Math.max.name Lib.Math.max.code 2 (some .int), Cond.constant RJ8 200 (2147483639), Cond.methodLink RJ8 201 yJ8_hugeLength_7cf53, Cond.static yJ8_hugeLength_7cf53, Cond.code yJ8_hugeLength_7cf53 cJ8_hugeLength_7cf53 3 (some .int), Cond.methodLink RJ5 108 yJ7_copyOf_9075b, Cond.static yJ7_copyOf_9075b, Cond.initialized RJ7, Cond.code yJ7_copyOf_9075b cJ7_copyOf_9075b 3 (some (.array .byte)), Cond.methodLink RJ7 310 ⟨"[B", "clone", "()Ljava/lang/Object;"⟩, Cond.sameMethod "[B" "java/lang/Object" "clone" "()Ljava/lang/Object;", Cond.native ⟨"java/lang/Object", "clone", "()Ljava/lang/Object;"⟩, Cond.instanceMethod ⟨"java/lang/Object", "clone", "()Ljava/lang/Object;"⟩, Cond.selects "[B" ⟨"[B", "clone", "()Ljava/lang/Object;"⟩ ⟨"java/lang/Object", "clone", "()Ljava/lang/Object;"⟩, Cond.classLink RJ7 311 "[B", Cond.arrayClass .byte]
def wsJ4_append_15ec4_r3 : List Cond := [Cond.methodLink RJ7 304 Lib.Math.min.name, Cond.static Lib.Math.min.name, Cond.code Lib.Math.min.name Lib.Math.min.code 2 (some .int), Cond.methodLink RJ7 150 arraycopyName, Cond.native arraycopyName, Cond.static arraycopyName, Cond.initialized "java/lang/System", Cond.methodLink RJ5 83 ⟨"java/lang/AbstractStringBuilder", "isLatin1", "()Z"⟩, Cond.sameMethod "java/lang/AbstractStringBuilder" "java/lang/AbstractStringBuilder" "isLatin1" "()Z", Cond.selects RJ4 ⟨"java/lang/AbstractStringBuilder", "isLatin1", "()Z"⟩ yJ5_isLatin1_aae02, Cond.instanceMethod yJ5_isLatin1_aae02, Cond.code yJ5_isLatin1_aae02 cJ5_isLatin1_aae02 1 (some .boolean), Cond.fieldLink RJ5 18 "java/lang/String" "COMPACT_STRINGS" "Z", Cond.methodLink RJ5 226 yJ2_putCharsAt_cd4e5, Cond.static yJ2_putCharsAt_cd4e5, Cond.initialized RJ2, Cond.code yJ2_putCharsAt_cd4e5 cJ2_putCharsAt_cd4e5 7 (some .int), Cond.fieldLink RJ2 44 "java/lang/StringUTF16" "$assertionsDisabled" "Z", Cond.methodLink RJ2 96 yJ2_checkBoundsBeginEnd_d044e, Cond.static yJ2_checkBoundsBeginEnd_d044e, Cond.code yJ2_checkBoundsBeginEnd_d044e cJ2_checkBoundsBeginEnd_d044e 3 none, Cond.methodLink RJ2 48 yJ2_length_9d52b, Cond.static yJ2_length_9d52b, Cond.code yJ2_length_9d52b cJ2_length_9d52b 1 (some .int)]
def wsJ4_append_15ec4_r4 : List Cond := [Cond.methodLink RJ2 241 yJ0_checkBoundsBeginEnd_23922, Cond.static yJ0_checkBoundsBeginEnd_23922, Cond.initialized RJ0, Cond.code yJ0_checkBoundsBeginEnd_23922 cJ0_checkBoundsBeginEnd_23922 3 none, Cond.fieldLink RJ0 1053 "jdk/internal/util/Preconditions" "SIOOBE_FORMATTER" "Ljava/util/function/BiFunction;", Cond.methodLink RJ0 1062 yJ3_checkFromToIndex_8c36e, Cond.static yJ3_checkFromToIndex_8c36e, Cond.initialized RJ3, Cond.code yJ3_checkFromToIndex_8c36e cJ3_checkFromToIndex_8c36e 4 (some .int), Cond.methodLink RJ2 111 yJ2_putChar_b72d1, Cond.static yJ2_putChar_b72d1, Cond.code yJ2_putChar_b72d1 cJ2_putChar_b72d1 3 none, Cond.fieldLink RJ2 59 "java/lang/StringUTF16" "HI_BYTE_SHIFT" "I", Cond.fieldLink RJ2 63 "java/lang/StringUTF16" "LO_BYTE_SHIFT" "I", Cond.methodLink RJ5 32 yJ0_length_8abf5, Cond.instanceMethod yJ0_length_8abf5, Cond.selects RJ0 yJ0_length_8abf5 yJ0_length_8abf5, Cond.code yJ0_length_8abf5 cJ0_length_8abf5 1 (some .int), Cond.fieldLink RJ0 9 "java/lang/String" "value" "[B", Cond.methodLink RJ0 335 yJ0_coder_7d493, Cond.instanceMethod yJ0_coder_7d493, Cond.selects RJ0 yJ0_coder_7d493 yJ0_coder_7d493, Cond.code yJ0_coder_7d493 cJ0_coder_7d493 1 (some .byte), Cond.fieldLink RJ0 38 "java/lang/String" "COMPACT_STRINGS" "Z"]
def wsJ4_append_15ec4_r5 : List Cond := [Cond.fieldLink RJ0 15 "java/lang/String" "coder" "B", Cond.methodLink RJ5 208 ⟨"java/lang/AbstractStringBuilder", "putStringAt", "(ILjava/lang/String;)V"⟩, Cond.sameMethod "java/lang/AbstractStringBuilder" "java/lang/AbstractStringBuilder" "putStringAt" "(ILjava/lang/String;)V", Cond.selects RJ4 ⟨"java/lang/AbstractStringBuilder", "putStringAt", "(ILjava/lang/String;)V"⟩ yJ5_putStringAt_47b60, Cond.instanceMethod yJ5_putStringAt_47b60, Cond.code yJ5_putStringAt_47b60 cJ5_putStringAt_47b60 3 none, Cond.methodLink RJ5 397 ⟨"java/lang/AbstractStringBuilder", "inflateIfNeededFor", "(Ljava/lang/String;)V"⟩, Cond.sameMethod "java/lang/AbstractStringBuilder" "java/lang/AbstractStringBuilder" "inflateIfNeededFor" "(Ljava/lang/String;)V", Cond.selects RJ4 ⟨"java/lang/AbstractStringBuilder", "inflateIfNeededFor", "(Ljava/lang/String;)V"⟩ yJ5_inflateIfNeededFor_a7421, Cond.instanceMethod yJ5_inflateIfNeededFor_a7421, Cond.code yJ5_inflateIfNeededFor_a7421 cJ5_inflateIfNeededFor_a7421 2 none, Cond.methodLink RJ5 40 yJ0_coder_7d493, Cond.methodLink RJ5 195 ⟨"java/lang/AbstractStringBuilder", "inflate", "()V"⟩, Cond.sameMethod "java/lang/AbstractStringBuilder" "java/lang/AbstractStringBuilder" "inflate" "()V", Cond.selects RJ4 ⟨"java/lang/AbstractStringBuilder", "inflate", "()V"⟩ yJ5_inflate_da8c8, Cond.instanceMethod yJ5_inflate_da8c8, Cond.code yJ5_inflate_da8c8 cJ5_inflate_da8c8 2 none, Cond.methodLink RJ5 26 yJ2_newBytesFor_77867, Cond.static yJ2_newBytesFor_77867, Cond.code yJ2_newBytesFor_77867 cJ2_newBytesFor_77867 1 (some (.array .byte)), Cond.methodLink RJ2 11 yJ2_newBytesLength_0f7a4, Cond.static yJ2_newBytesLength_0f7a4, Cond.code yJ2_newBytesLength_0f7a4 cJ2_newBytesLength_0f7a4 1 (some .int), Cond.constant RJ2 20 (1073741823)]
def wsJ4_append_15ec4_r6 : List Cond := [Cond.methodLink RJ5 125 yJ1_inflate_0e8fd, Cond.static yJ1_inflate_0e8fd, Cond.initialized RJ1, Cond.code yJ1_inflate_0e8fd cJ1_inflate_0e8fd 5 none, Cond.methodLink RJ1 240 yJ2_inflate_0e8fd, Cond.static yJ2_inflate_0e8fd, Cond.code yJ2_inflate_0e8fd cJ2_inflate_0e8fd 6 none, Cond.methodLink RJ2 173 yJ2_checkBoundsOffCount_d044e, Cond.static yJ2_checkBoundsOffCount_d044e, Cond.code yJ2_checkBoundsOffCount_d044e cJ2_checkBoundsOffCount_d044e 3 none, Cond.methodLink RJ2 419 yJ0_checkBoundsOffCount_cabcc, Cond.static yJ0_checkBoundsOffCount_cabcc, Cond.code yJ0_checkBoundsOffCount_cabcc cJ0_checkBoundsOffCount_cabcc 3 (some .int), Cond.methodLink RJ0 1065 yJ3_checkFromIndexSize_8c36e, Cond.static yJ3_checkFromIndexSize_8c36e, Cond.code yJ3_checkFromIndexSize_8c36e cJ3_checkFromIndexSize_8c36e 4 (some .int), Cond.methodLink RJ5 399 yJ0_getBytes_840e7, Cond.instanceMethod yJ0_getBytes_840e7, Cond.selects RJ0 yJ0_getBytes_840e7 yJ0_getBytes_840e7, Cond.code yJ0_getBytes_840e7 cJ0_getBytes_840e7 4 none, Cond.methodLink RJ0 212 arraycopyName, Cond.methodLink RJ0 106 yJ1_inflate_0e8fd]
def wsJ4_append_15ec4 : List Cond := .code yJ4_append_15ec4 cJ4_append_15ec4 2 (some (.object "java/lang/StringBuilder")) :: ((wsJ4_append_15ec4_r1 ++ (wsJ4_append_15ec4_r2 ++ (wsJ4_append_15ec4_r3 ++ (wsJ4_append_15ec4_r4 ++ (wsJ4_append_15ec4_r5 ++ wsJ4_append_15ec4_r6))))) ++ wsJ40 ++ wsJ00)
def wsJ4_append_bf812_r1 : List Cond := [Cond.methodLink RJ4 53 yJ5_append_c97b9, Cond.sameMethod "java/lang/AbstractStringBuilder" "java/lang/AbstractStringBuilder" "append" "(I)Ljava/lang/AbstractStringBuilder;", Cond.superclass RJ4 RJ5, Cond.instanceMethod yJ5_append_c97b9, Cond.initialized RJ5, Cond.code yJ5_append_c97b9 cJ5_append_c97b9 4 (some (.object "java/lang/AbstractStringBuilder")), Cond.fieldLink RJ5 79 "java/lang/AbstractStringBuilder" "count" "I", Cond.fieldLink RJ5 15 "java/lang/AbstractStringBuilder" "value" "[B", Cond.methodLink RJ5 245 yJ6_stringSize_0f7a4, Cond.static yJ6_stringSize_0f7a4, Cond.initialized RJ6, Cond.code yJ6_stringSize_0f7a4 cJ6_stringSize_0f7a4 4 (some .int), Cond.methodLink RJ5 100 ⟨"java/lang/AbstractStringBuilder", "ensureCapacityInternal", "(I)V"⟩, Cond.sameMethod "java/lang/AbstractStringBuilder" "java/lang/AbstractStringBuilder" "ensureCapacityInternal" "(I)V", Cond.selects RJ4 ⟨"java/lang/AbstractStringBuilder", "ensureCapacityInternal", "(I)V"⟩ yJ5_ensureCapacityInternal_d00df, Cond.instanceMethod yJ5_ensureCapacityInternal_d00df, Cond.code yJ5_ensureCapacityInternal_d00df cJ5_ensureCapacityInternal_d00df 3 none, Cond.fieldLink RJ5 22 "java/lang/AbstractStringBuilder" "coder" "B", Cond.methodLink RJ5 104 ⟨"java/lang/AbstractStringBuilder", "newCapacity", "(I)I"⟩, Cond.sameMethod "java/lang/AbstractStringBuilder" "java/lang/AbstractStringBuilder" "newCapacity" "(I)I", Cond.selects RJ4 ⟨"java/lang/AbstractStringBuilder", "newCapacity", "(I)I"⟩ yJ5_newCapacity_0f7a4, Cond.instanceMethod yJ5_newCapacity_0f7a4, Cond.code yJ5_newCapacity_0f7a4 cJ5_newCapacity_0f7a4 6 (some .int), Cond.constant RJ5 39 (2147483647)]
def wsJ4_append_bf812_r2 : List Cond := [Cond.methodLink RJ5 114 yJ8_newLength_cabcc, Cond.static yJ8_newLength_cabcc, Cond.initialized RJ8, Cond.code yJ8_newLength_cabcc cJ8_newLength_cabcc 4 (some .int), Cond.methodLink RJ8 194 Lib.Math.max.name, Cond.static Lib.Math.max.name, Cond.initialized "java/lang/Math", Cond.code Lib.Math.max.name Lib.Math.max.code 2 (some .int), Cond.constant RJ8 200 (2147483639), Cond.methodLink RJ8 201 yJ8_hugeLength_7cf53, Cond.static yJ8_hugeLength_7cf53, Cond.code yJ8_hugeLength_7cf53 cJ8_hugeLength_7cf53 3 (some .int), Cond.methodLink RJ5 108 yJ7_copyOf_9075b, Cond.static yJ7_copyOf_9075b, Cond.initialized RJ7, Cond.code yJ7_copyOf_9075b cJ7_copyOf_9075b 3 (some (.array .byte)), Cond.methodLink RJ7 310 ⟨"[B", "clone", "()Ljava/lang/Object;"⟩, Cond.sameMethod "[B" "java/lang/Object" "clone" "()Ljava/lang/Object;", Cond.native ⟨"java/lang/Object", "clone", "()Ljava/lang/Object;"⟩, Cond.instanceMethod ⟨"java/lang/Object", "clone", "()Ljava/lang/Object;"⟩, Cond.selects "[B" ⟨"[B", "clone", "()Ljava/lang/Object;"⟩ ⟨"java/lang/Object", "clone", "()Ljava/lang/Object;"⟩, Cond.classLink RJ7 311 "[B", Cond.arrayClass .byte, Cond.methodLink RJ7 304 Lib.Math.min.name]
def wsJ4_append_bf812_r3 : List Cond := [Cond.static Lib.Math.min.name, Cond.code Lib.Math.min.name Lib.Math.min.code 2 (some .int), Cond.methodLink RJ7 150 arraycopyName, Cond.native arraycopyName, Cond.static arraycopyName, Cond.initialized "java/lang/System", Cond.methodLink RJ5 83 ⟨"java/lang/AbstractStringBuilder", "isLatin1", "()Z"⟩, Cond.sameMethod "java/lang/AbstractStringBuilder" "java/lang/AbstractStringBuilder" "isLatin1" "()Z", Cond.selects RJ4 ⟨"java/lang/AbstractStringBuilder", "isLatin1", "()Z"⟩ yJ5_isLatin1_aae02, Cond.instanceMethod yJ5_isLatin1_aae02, Cond.code yJ5_isLatin1_aae02 cJ5_isLatin1_aae02 1 (some .boolean), Cond.fieldLink RJ5 18 "java/lang/String" "COMPACT_STRINGS" "Z", Cond.methodLink RJ5 248 yJ6_getChars_ba4f3, Cond.static yJ6_getChars_ba4f3, Cond.code yJ6_getChars_ba4f3 cJ6_getChars_ba4f3 7 (some .int), Cond.fieldLink RJ6 83 "java/lang/Integer" "DigitOnes" "[B", Cond.fieldLink RJ6 87 "java/lang/Integer" "DigitTens" "[B", Cond.methodLink RJ5 251 yJ2_getChars_46870, Cond.static yJ2_getChars_46870, Cond.initialized RJ2, Cond.code yJ2_getChars_46870 cJ2_getChars_46870 5 (some .int), Cond.fieldLink RJ2 44 "java/lang/StringUTF16" "$assertionsDisabled" "Z", Cond.methodLink RJ2 96 yJ2_checkBoundsBeginEnd_d044e, Cond.static yJ2_checkBoundsBeginEnd_d044e]
def wsJ4_append_bf812_r4 : List Cond := [Cond.code yJ2_checkBoundsBeginEnd_d044e cJ2_checkBoundsBeginEnd_d044e 3 none, Cond.methodLink RJ2 48 yJ2_length_9d52b, Cond.static yJ2_length_9d52b, Cond.code yJ2_length_9d52b cJ2_length_9d52b 1 (some .int), Cond.methodLink RJ2 241 yJ0_checkBoundsBeginEnd_23922, Cond.static yJ0_checkBoundsBeginEnd_23922, Cond.initialized RJ0, Cond.code yJ0_checkBoundsBeginEnd_23922 cJ0_checkBoundsBeginEnd_23922 3 none, Cond.fieldLink RJ0 1053 "jdk/internal/util/Preconditions" "SIOOBE_FORMATTER" "Ljava/util/function/BiFunction;", Cond.methodLink RJ0 1062 yJ3_checkFromToIndex_8c36e, Cond.static yJ3_checkFromToIndex_8c36e, Cond.initialized RJ3, Cond.code yJ3_checkFromToIndex_8c36e cJ3_checkFromToIndex_8c36e 4 (some .int), Cond.methodLink RJ2 393 yJ2_getChars_ba4f3, Cond.static yJ2_getChars_ba4f3, Cond.code yJ2_getChars_ba4f3 cJ2_getChars_ba4f3 7 (some .int), Cond.fieldLink RJ2 403 "java/lang/Integer" "DigitOnes" "[B", Cond.fieldLink RJ2 407 "java/lang/Integer" "DigitTens" "[B", Cond.methodLink RJ2 111 yJ2_putChar_b72d1, Cond.static yJ2_putChar_b72d1, Cond.code yJ2_putChar_b72d1 cJ2_putChar_b72d1 3 none, Cond.fieldLink RJ2 59 "java/lang/StringUTF16" "HI_BYTE_SHIFT" "I", Cond.fieldLink RJ2 63 "java/lang/StringUTF16" "LO_BYTE_SHIFT" "I"]
def wsJ4_append_bf812 : List Cond := .code yJ4_append_bf812 cJ4_append_bf812 2 (some (.object "java/lang/StringBuilder")) :: ((wsJ4_append_bf812_r1 ++ (wsJ4_append_bf812_r2 ++ (wsJ4_append_bf812_r3 ++ wsJ4_append_bf812_r4))) ++ wsJ40)
def wsJ4_toString_0e30d_r1 : List Cond := [Cond.classLink RJ4 18 RJ0, Cond.instantiable RJ0 4, Cond.initialized RJ0, Cond.methodLink RJ4 137 yJ0_init_81219, Cond.instanceMethod yJ0_init_81219, Cond.code yJ0_init_81219 cJ0_init_81219 2 none, Cond.methodLink RJ0 489 yJ0_init_db425, Cond.instanceMethod yJ0_init_db425, Cond.code yJ0_init_db425 cJ0_init_db425 5 none, Cond.methodLink RJ0 1 objectInit, Cond.instanceMethod objectInit, Cond.code objectInit ⟨#[0xb1]⟩ 1 none, Cond.fieldLink RJ0 15 "java/lang/String" "coder" "B", Cond.fieldLink RJ0 9 "java/lang/String" "value" "[B", Cond.fieldLink RJ0 38 "java/lang/String" "COMPACT_STRINGS" "Z", Cond.fieldLink RJ0 1048 "java/lang/AbstractStringBuilder" "maybeLatin1" "Z", Cond.methodLink RJ0 552 ⟨"java/lang/AbstractStringBuilder", "getValue", "()[B"⟩, Cond.sameMethod "java/lang/AbstractStringBuilder" "java/lang/AbstractStringBuilder" "getValue" "()[B", Cond.selects RJ4 ⟨"java/lang/AbstractStringBuilder", "getValue", "()[B"⟩ yJ5_getValue_6d5f1, Cond.instanceMethod yJ5_getValue_6d5f1, Cond.initialized RJ5, Cond.code yJ5_getValue_6d5f1 cJ5_getValue_6d5f1 1 (some (.array .byte)), Cond.fieldLink RJ5 15 "java/lang/AbstractStringBuilder" "value" "[B", Cond.methodLink RJ0 549 ⟨"java/lang/AbstractStringBuilder", "length", "()I"⟩]
def wsJ4_toString_0e30d_r2 : List Cond := [Cond.sameMethod "java/lang/AbstractStringBuilder" "java/lang/AbstractStringBuilder" "length" "()I", Cond.instanceMethod ⟨"java/lang/AbstractStringBuilder", "length", "()I"⟩, Cond.selects RJ4 ⟨"java/lang/AbstractStringBuilder", "length", "()I"⟩ yJ4_length_8abf5, Cond.instanceMethod yJ4_length_8abf5, Cond.initialized RJ4, Cond.code yJ4_length_8abf5 cJ4_length_8abf5 1 (some .int), Cond.methodLink RJ4 343 yJ5_length_8abf5, Cond.superclass RJ4 RJ5, Cond.instanceMethod yJ5_length_8abf5, Cond.code yJ5_length_8abf5 cJ5_length_8abf5 1 (some .int), Cond.fieldLink RJ5 79 "java/lang/AbstractStringBuilder" "count" "I", Cond.methodLink RJ0 1047 ⟨"java/lang/AbstractStringBuilder", "isLatin1", "()Z"⟩, Cond.sameMethod "java/lang/AbstractStringBuilder" "java/lang/AbstractStringBuilder" "isLatin1" "()Z", Cond.selects RJ4 ⟨"java/lang/AbstractStringBuilder", "isLatin1", "()Z"⟩ yJ5_isLatin1_aae02, Cond.instanceMethod yJ5_isLatin1_aae02, Cond.code yJ5_isLatin1_aae02 cJ5_isLatin1_aae02 1 (some .boolean), Cond.fieldLink RJ5 18 "java/lang/String" "COMPACT_STRINGS" "Z", Cond.fieldLink RJ5 22 "java/lang/AbstractStringBuilder" "coder" "B", Cond.methodLink RJ0 54 yJ7_copyOfRange_39247, Cond.static yJ7_copyOfRange_39247, Cond.initialized RJ7, Cond.code yJ7_copyOfRange_39247 cJ7_copyOfRange_39247 3 (some (.array .byte)), Cond.methodLink RJ7 310 ⟨"[B", "clone", "()Ljava/lang/Object;"⟩, Cond.sameMethod "[B" "java/lang/Object" "clone" "()Ljava/lang/Object;"]
def wsJ4_toString_0e30d_r3 : List Cond := [Cond.native ⟨"java/lang/Object", "clone", "()Ljava/lang/Object;"⟩, Cond.instanceMethod ⟨"java/lang/Object", "clone", "()Ljava/lang/Object;"⟩, Cond.selects "[B" ⟨"[B", "clone", "()Ljava/lang/Object;"⟩ ⟨"java/lang/Object", "clone", "()Ljava/lang/Object;"⟩, Cond.classLink RJ7 311 "[B", Cond.methodLink RJ7 339 yJ7_copyOfRangeByte_39247, Cond.static yJ7_copyOfRangeByte_39247, Cond.code yJ7_copyOfRangeByte_39247 cJ7_copyOfRangeByte_39247 5 (some (.array .byte)), Cond.arrayClass .byte, Cond.methodLink RJ7 304 Lib.Math.min.name, Cond.static Lib.Math.min.name, Cond.initialized "java/lang/Math", Cond.code Lib.Math.min.name Lib.Math.min.code 2 (some .int), Cond.methodLink RJ7 150 arraycopyName, Cond.native arraycopyName, Cond.static arraycopyName, Cond.initialized "java/lang/System", Cond.methodLink RJ7 343 yJ7_checkLength_df160, Cond.static yJ7_checkLength_df160, Cond.code yJ7_checkLength_df160 cJ7_checkLength_df160 2 none, Cond.classLink RJ7 45 RJ4, Cond.instantiable RJ4 4, Cond.methodLink RJ0 1051 yJ2_compress_39247, Cond.static yJ2_compress_39247, Cond.initialized RJ2]
def wsJ4_toString_0e30d_r4 : List Cond := [Cond.code yJ2_compress_39247 cJ2_compress_39247 6 (some (.array .byte)), Cond.methodLink RJ2 123 yJ2_compress_5af95, Cond.static yJ2_compress_5af95, Cond.code yJ2_compress_5af95 cJ2_compress_5af95 7 (some .int), Cond.methodLink RJ2 173 yJ2_checkBoundsOffCount_d044e, Cond.static yJ2_checkBoundsOffCount_d044e, Cond.code yJ2_checkBoundsOffCount_d044e cJ2_checkBoundsOffCount_d044e 3 none, Cond.methodLink RJ2 48 yJ2_length_9d52b, Cond.static yJ2_length_9d52b, Cond.code yJ2_length_9d52b cJ2_length_9d52b 1 (some .int), Cond.methodLink RJ2 419 yJ0_checkBoundsOffCount_cabcc, Cond.static yJ0_checkBoundsOffCount_cabcc, Cond.code yJ0_checkBoundsOffCount_cabcc cJ0_checkBoundsOffCount_cabcc 3 (some .int), Cond.fieldLink RJ0 1053 "jdk/internal/util/Preconditions" "SIOOBE_FORMATTER" "Ljava/util/function/BiFunction;", Cond.methodLink RJ0 1065 yJ3_checkFromIndexSize_8c36e, Cond.static yJ3_checkFromIndexSize_8c36e, Cond.initialized RJ3, Cond.code yJ3_checkFromIndexSize_8c36e cJ3_checkFromIndexSize_8c36e 4 (some .int), Cond.methodLink RJ2 71 yJ2_getChar_3b067, Cond.static yJ2_getChar_3b067, Cond.code yJ2_getChar_3b067 cJ2_getChar_3b067 2 (some .char), Cond.fieldLink RJ2 44 "java/lang/StringUTF16" "$assertionsDisabled" "Z", Cond.fieldLink RJ2 59 "java/lang/StringUTF16" "HI_BYTE_SHIFT" "I", Cond.fieldLink RJ2 63 "java/lang/StringUTF16" "LO_BYTE_SHIFT" "I"]
def wsJ4_toString_0e30d_r5 : List Cond := [Cond.methodLink RJ2 11 yJ2_newBytesLength_0f7a4, Cond.static yJ2_newBytesLength_0f7a4, Cond.code yJ2_newBytesLength_0f7a4 cJ2_newBytesLength_0f7a4 1 (some .int), Cond.constant RJ2 20 (1073741823), Cond.methodLink RJ2 126 yJ7_copyOfRange_39247, Cond.methodLink RJ0 47 yJ2_coderFromArrayLen_85cad, Cond.static yJ2_coderFromArrayLen_85cad, Cond.code yJ2_coderFromArrayLen_85cad cJ2_coderFromArrayLen_85cad 2 (some .byte)]
def wsJ4_toString_0e30d : List Cond := .code yJ4_toString_0e30d cJ4_toString_0e30d 1 (some (.object "java/lang/String")) :: ((wsJ4_toString_0e30d_r1 ++ (wsJ4_toString_0e30d_r2 ++ (wsJ4_toString_0e30d_r3 ++ (wsJ4_toString_0e30d_r4 ++ wsJ4_toString_0e30d_r5)))) ++ wsJ00 ++ wsJ40)
def wsJx4a65c_outOfBoundsMsg_b52d3_r1 : List Cond := [Cond.classLink RJx4a65c 20 RJ4, Cond.instantiable RJ4 4, Cond.initialized RJ4, Cond.fieldLink RJx4a65c 48 "java/util/ArrayList" "size" "I", Cond.methodLink RJx4a65c 22 yJ4_init_da8c8, Cond.instanceMethod yJ4_init_da8c8, Cond.code yJ4_init_da8c8 cJ4_init_da8c8 1 none, Cond.methodLink RJ4 1 yJ5_init_d00df, Cond.instanceMethod yJ5_init_d00df, Cond.initialized RJ5, Cond.code yJ5_init_d00df cJ5_init_d00df 2 none, Cond.methodLink RJ5 3 objectInit, Cond.instanceMethod objectInit, Cond.code objectInit ⟨#[0xb1]⟩ 1 none, Cond.fieldLink RJ5 18 "java/lang/String" "COMPACT_STRINGS" "Z", Cond.arrayClass .byte, Cond.fieldLink RJ5 15 "java/lang/AbstractStringBuilder" "value" "[B", Cond.fieldLink RJ5 22 "java/lang/AbstractStringBuilder" "coder" "B", Cond.methodLink RJ5 26 yJ2_newBytesFor_77867, Cond.static yJ2_newBytesFor_77867, Cond.initialized RJ2, Cond.code yJ2_newBytesFor_77867 cJ2_newBytesFor_77867 1 (some (.array .byte)), Cond.methodLink RJ2 11 yJ2_newBytesLength_0f7a4, Cond.static yJ2_newBytesLength_0f7a4]
def wsJx4a65c_outOfBoundsMsg_b52d3_r2 : List Cond := [Cond.code yJ2_newBytesLength_0f7a4 cJ2_newBytesLength_0f7a4 1 (some .int), Cond.constant RJ2 20 (1073741823), Cond.methodLink RJx4a65c 25 yJ4_append_15ec4, Cond.instanceMethod yJ4_append_15ec4, Cond.selects RJ4 yJ4_append_15ec4 yJ4_append_15ec4, Cond.code yJ4_append_15ec4 cJ4_append_15ec4 2 (some (.object "java/lang/StringBuilder")), Cond.methodLink RJ4 29 yJ5_append_cf1ce, Cond.sameMethod "java/lang/AbstractStringBuilder" "java/lang/AbstractStringBuilder" "append" "(Ljava/lang/String;)Ljava/lang/AbstractStringBuilder;", Cond.superclass RJ4 RJ5, Cond.instanceMethod yJ5_append_cf1ce, Cond.code yJ5_append_cf1ce cJ5_append_cf1ce 3 (some (.object "java/lang/AbstractStringBuilder")), Cond.fieldLink RJ5 79 "java/lang/AbstractStringBuilder" "count" "I", Cond.methodLink RJ5 204 ⟨"java/lang/AbstractStringBuilder", "appendNull", "()Ljava/lang/AbstractStringBuilder;"⟩, Cond.sameMethod "java/lang/AbstractStringBuilder" "java/lang/AbstractStringBuilder" "appendNull" "()Ljava/lang/AbstractStringBuilder;", Cond.selects RJ4 ⟨"java/lang/AbstractStringBuilder", "appendNull", "()Ljava/lang/AbstractStringBuilder;"⟩ yJ5_appendNull_278bc, Cond.instanceMethod yJ5_appendNull_278bc, Cond.code yJ5_appendNull_278bc cJ5_appendNull_278bc 3 (some (.object "java/lang/AbstractStringBuilder")), Cond.methodLink RJ5 100 ⟨"java/lang/AbstractStringBuilder", "ensureCapacityInternal", "(I)V"⟩, Cond.sameMethod "java/lang/AbstractStringBuilder" "java/lang/AbstractStringBuilder" "ensureCapacityInternal" "(I)V", Cond.selects RJ4 ⟨"java/lang/AbstractStringBuilder", "ensureCapacityInternal", "(I)V"⟩ yJ5_ensureCapacityInternal_d00df, Cond.instanceMethod yJ5_ensureCapacityInternal_d00df, Cond.code yJ5_ensureCapacityInternal_d00df cJ5_ensureCapacityInternal_d00df 3 none, Cond.methodLink RJ5 104 ⟨"java/lang/AbstractStringBuilder", "newCapacity", "(I)I"⟩, Cond.sameMethod "java/lang/AbstractStringBuilder" "java/lang/AbstractStringBuilder" "newCapacity" "(I)I"]
def wsJx4a65c_outOfBoundsMsg_b52d3_r3 : List Cond := [Cond.selects RJ4 ⟨"java/lang/AbstractStringBuilder", "newCapacity", "(I)I"⟩ yJ5_newCapacity_0f7a4, Cond.instanceMethod yJ5_newCapacity_0f7a4, Cond.code yJ5_newCapacity_0f7a4 cJ5_newCapacity_0f7a4 6 (some .int), Cond.constant RJ5 39 (2147483647), Cond.methodLink RJ5 114 yJ8_newLength_cabcc, Cond.static yJ8_newLength_cabcc, Cond.initialized RJ8, Cond.code yJ8_newLength_cabcc cJ8_newLength_cabcc 4 (some .int), Cond.methodLink RJ8 194 Lib.Math.max.name, Cond.static Lib.Math.max.name, Cond.initialized "java/lang/Math", Cond.code Lib.Math.max.name Lib.Math.max.code 2 (some .int), Cond.constant RJ8 200 (2147483639), Cond.methodLink RJ8 201 yJ8_hugeLength_7cf53, Cond.static yJ8_hugeLength_7cf53, Cond.code yJ8_hugeLength_7cf53 cJ8_hugeLength_7cf53 3 (some .int), Cond.methodLink RJ5 108 yJ7_copyOf_9075b, Cond.static yJ7_copyOf_9075b, Cond.initialized RJ7, Cond.code yJ7_copyOf_9075b cJ7_copyOf_9075b 3 (some (.array .byte)), Cond.methodLink RJ7 310 ⟨"[B", "clone", "()Ljava/lang/Object;"⟩, Cond.sameMethod "[B" "java/lang/Object" "clone" "()Ljava/lang/Object;", Cond.native ⟨"java/lang/Object", "clone", "()Ljava/lang/Object;"⟩, Cond.instanceMethod ⟨"java/lang/Object", "clone", "()Ljava/lang/Object;"⟩]
def wsJx4a65c_outOfBoundsMsg_b52d3_r4 : List Cond := [Cond.selects "[B" ⟨"[B", "clone", "()Ljava/lang/Object;"⟩ ⟨"java/lang/Object", "clone", "()Ljava/lang/Object;"⟩, Cond.classLink RJ7 311 "[B", Cond.methodLink RJ7 304 Lib.Math.min.name, Cond.static Lib.Math.min.name, Cond.code Lib.Math.min.name Lib.Math.min.code 2 (some .int), Cond.methodLink RJ7 150 arraycopyName, Cond.native arraycopyName, Cond.static arraycopyName, Cond.initialized "java/lang/System", Cond.methodLink RJ5 83 ⟨"java/lang/AbstractStringBuilder", "isLatin1", "()Z"⟩, Cond.sameMethod "java/lang/AbstractStringBuilder" "java/lang/AbstractStringBuilder" "isLatin1" "()Z", Cond.selects RJ4 ⟨"java/lang/AbstractStringBuilder", "isLatin1", "()Z"⟩ yJ5_isLatin1_aae02, Cond.instanceMethod yJ5_isLatin1_aae02, Cond.code yJ5_isLatin1_aae02 cJ5_isLatin1_aae02 1 (some .boolean), Cond.methodLink RJ5 226 yJ2_putCharsAt_cd4e5, Cond.static yJ2_putCharsAt_cd4e5, Cond.code yJ2_putCharsAt_cd4e5 cJ2_putCharsAt_cd4e5 7 (some .int), Cond.fieldLink RJ2 44 "java/lang/StringUTF16" "$assertionsDisabled" "Z", Cond.methodLink RJ2 96 yJ2_checkBoundsBeginEnd_d044e, Cond.static yJ2_checkBoundsBeginEnd_d044e, Cond.code yJ2_checkBoundsBeginEnd_d044e cJ2_checkBoundsBeginEnd_d044e 3 none, Cond.methodLink RJ2 48 yJ2_length_9d52b, Cond.static yJ2_length_9d52b, Cond.code yJ2_length_9d52b cJ2_length_9d52b 1 (some .int)]
def wsJx4a65c_outOfBoundsMsg_b52d3_r5 : List Cond := [Cond.methodLink RJ2 241 yJ0_checkBoundsBeginEnd_23922, Cond.static yJ0_checkBoundsBeginEnd_23922, Cond.initialized RJ0, Cond.code yJ0_checkBoundsBeginEnd_23922 cJ0_checkBoundsBeginEnd_23922 3 none, Cond.fieldLink RJ0 1053 "jdk/internal/util/Preconditions" "SIOOBE_FORMATTER" "Ljava/util/function/BiFunction;", Cond.methodLink RJ0 1062 yJ3_checkFromToIndex_8c36e, Cond.static yJ3_checkFromToIndex_8c36e, Cond.initialized RJ3, Cond.code yJ3_checkFromToIndex_8c36e cJ3_checkFromToIndex_8c36e 4 (some .int), Cond.methodLink RJ2 111 yJ2_putChar_b72d1, Cond.static yJ2_putChar_b72d1, Cond.code yJ2_putChar_b72d1 cJ2_putChar_b72d1 3 none, Cond.fieldLink RJ2 59 "java/lang/StringUTF16" "HI_BYTE_SHIFT" "I", Cond.fieldLink RJ2 63 "java/lang/StringUTF16" "LO_BYTE_SHIFT" "I", Cond.methodLink RJ5 32 yJ0_length_8abf5, Cond.instanceMethod yJ0_length_8abf5, Cond.selects RJ0 yJ0_length_8abf5 yJ0_length_8abf5, Cond.code yJ0_length_8abf5 cJ0_length_8abf5 1 (some .int), Cond.fieldLink RJ0 9 "java/lang/String" "value" "[B", Cond.methodLink RJ0 335 yJ0_coder_7d493, Cond.instanceMethod yJ0_coder_7d493, Cond.selects RJ0 yJ0_coder_7d493 yJ0_coder_7d493, Cond.code yJ0_coder_7d493 cJ0_coder_7d493 1 (some .byte), Cond.fieldLink RJ0 38 "java/lang/String" "COMPACT_STRINGS" "Z"]
def wsJx4a65c_outOfBoundsMsg_b52d3_r6 : List Cond := [Cond.fieldLink RJ0 15 "java/lang/String" "coder" "B", Cond.methodLink RJ5 208 ⟨"java/lang/AbstractStringBuilder", "putStringAt", "(ILjava/lang/String;)V"⟩, Cond.sameMethod "java/lang/AbstractStringBuilder" "java/lang/AbstractStringBuilder" "putStringAt" "(ILjava/lang/String;)V", Cond.selects RJ4 ⟨"java/lang/AbstractStringBuilder", "putStringAt", "(ILjava/lang/String;)V"⟩ yJ5_putStringAt_47b60, Cond.instanceMethod yJ5_putStringAt_47b60, Cond.code yJ5_putStringAt_47b60 cJ5_putStringAt_47b60 3 none, Cond.methodLink RJ5 397 ⟨"java/lang/AbstractStringBuilder", "inflateIfNeededFor", "(Ljava/lang/String;)V"⟩, Cond.sameMethod "java/lang/AbstractStringBuilder" "java/lang/AbstractStringBuilder" "inflateIfNeededFor" "(Ljava/lang/String;)V", Cond.selects RJ4 ⟨"java/lang/AbstractStringBuilder", "inflateIfNeededFor", "(Ljava/lang/String;)V"⟩ yJ5_inflateIfNeededFor_a7421, Cond.instanceMethod yJ5_inflateIfNeededFor_a7421, Cond.code yJ5_inflateIfNeededFor_a7421 cJ5_inflateIfNeededFor_a7421 2 none, Cond.methodLink RJ5 40 yJ0_coder_7d493, Cond.methodLink RJ5 195 ⟨"java/lang/AbstractStringBuilder", "inflate", "()V"⟩, Cond.sameMethod "java/lang/AbstractStringBuilder" "java/lang/AbstractStringBuilder" "inflate" "()V", Cond.selects RJ4 ⟨"java/lang/AbstractStringBuilder", "inflate", "()V"⟩ yJ5_inflate_da8c8, Cond.instanceMethod yJ5_inflate_da8c8, Cond.code yJ5_inflate_da8c8 cJ5_inflate_da8c8 2 none, Cond.methodLink RJ5 125 yJ1_inflate_0e8fd, Cond.static yJ1_inflate_0e8fd, Cond.initialized RJ1, Cond.code yJ1_inflate_0e8fd cJ1_inflate_0e8fd 5 none, Cond.methodLink RJ1 240 yJ2_inflate_0e8fd, Cond.static yJ2_inflate_0e8fd, Cond.code yJ2_inflate_0e8fd cJ2_inflate_0e8fd 6 none]
def wsJx4a65c_outOfBoundsMsg_b52d3_r7 : List Cond := [Cond.methodLink RJ2 173 yJ2_checkBoundsOffCount_d044e, Cond.static yJ2_checkBoundsOffCount_d044e, Cond.code yJ2_checkBoundsOffCount_d044e cJ2_checkBoundsOffCount_d044e 3 none, Cond.methodLink RJ2 419 yJ0_checkBoundsOffCount_cabcc, Cond.static yJ0_checkBoundsOffCount_cabcc, Cond.code yJ0_checkBoundsOffCount_cabcc cJ0_checkBoundsOffCount_cabcc 3 (some .int), Cond.methodLink RJ0 1065 yJ3_checkFromIndexSize_8c36e, Cond.static yJ3_checkFromIndexSize_8c36e, Cond.code yJ3_checkFromIndexSize_8c36e cJ3_checkFromIndexSize_8c36e 4 (some .int), Cond.methodLink RJ5 399 yJ0_getBytes_840e7, Cond.instanceMethod yJ0_getBytes_840e7, Cond.selects RJ0 yJ0_getBytes_840e7 yJ0_getBytes_840e7, Cond.code yJ0_getBytes_840e7 cJ0_getBytes_840e7 4 none, Cond.methodLink RJ0 212 arraycopyName, Cond.methodLink RJ0 106 yJ1_inflate_0e8fd, Cond.methodLink RJx4a65c 29 yJ4_append_bf812, Cond.instanceMethod yJ4_append_bf812, Cond.selects RJ4 yJ4_append_bf812 yJ4_append_bf812, Cond.code yJ4_append_bf812 cJ4_append_bf812 2 (some (.object "java/lang/StringBuilder")), Cond.methodLink RJ4 53 yJ5_append_c97b9, Cond.sameMethod "java/lang/AbstractStringBuilder" "java/lang/AbstractStringBuilder" "append" "(I)Ljava/lang/AbstractStringBuilder;", Cond.instanceMethod yJ5_append_c97b9, Cond.code yJ5_append_c97b9 cJ5_append_c97b9 4 (some (.object "java/lang/AbstractStringBuilder")), Cond.methodLink RJ5 245 yJ6_stringSize_0f7a4]
def wsJx4a65c_outOfBoundsMsg_b52d3_r8 : List Cond := [Cond.static yJ6_stringSize_0f7a4, Cond.initialized RJ6, Cond.code yJ6_stringSize_0f7a4 cJ6_stringSize_0f7a4 4 (some .int), Cond.methodLink RJ5 248 yJ6_getChars_ba4f3, Cond.static yJ6_getChars_ba4f3, Cond.code yJ6_getChars_ba4f3 cJ6_getChars_ba4f3 7 (some .int), Cond.fieldLink RJ6 83 "java/lang/Integer" "DigitOnes" "[B", Cond.fieldLink RJ6 87 "java/lang/Integer" "DigitTens" "[B", Cond.methodLink RJ5 251 yJ2_getChars_46870, Cond.static yJ2_getChars_46870, Cond.code yJ2_getChars_46870 cJ2_getChars_46870 5 (some .int), Cond.methodLink RJ2 393 yJ2_getChars_ba4f3, Cond.static yJ2_getChars_ba4f3, Cond.code yJ2_getChars_ba4f3 cJ2_getChars_ba4f3 7 (some .int), Cond.fieldLink RJ2 403 "java/lang/Integer" "DigitOnes" "[B", Cond.fieldLink RJ2 407 "java/lang/Integer" "DigitTens" "[B", Cond.methodLink RJx4a65c 32 yJ4_toString_0e30d, Cond.instanceMethod yJ4_toString_0e30d, Cond.selects RJ4 yJ4_toString_0e30d yJ4_toString_0e30d, Cond.code yJ4_toString_0e30d cJ4_toString_0e30d 1 (some (.object "java/lang/String")), Cond.classLink RJ4 18 RJ0, Cond.instantiable RJ0 4, Cond.methodLink RJ4 137 yJ0_init_81219, Cond.instanceMethod yJ0_init_81219]
def wsJx4a65c_outOfBoundsMsg_b52d3_r9 : List Cond := [Cond.code yJ0_init_81219 cJ0_init_81219 2 none, Cond.methodLink RJ0 489 yJ0_init_db425, Cond.instanceMethod yJ0_init_db425, Cond.code yJ0_init_db425 cJ0_init_db425 5 none, Cond.methodLink RJ0 1 objectInit, Cond.fieldLink RJ0 1048 "java/lang/AbstractStringBuilder" "maybeLatin1" "Z", Cond.methodLink RJ0 552 ⟨"java/lang/AbstractStringBuilder", "getValue", "()[B"⟩, Cond.sameMethod "java/lang/AbstractStringBuilder" "java/lang/AbstractStringBuilder" "getValue" "()[B", Cond.selects RJ4 ⟨"java/lang/AbstractStringBuilder", "getValue", "()[B"⟩ yJ5_getValue_6d5f1, Cond.instanceMethod yJ5_getValue_6d5f1, Cond.code yJ5_getValue_6d5f1 cJ5_getValue_6d5f1 1 (some (.array .byte)), Cond.methodLink RJ0 549 ⟨"java/lang/AbstractStringBuilder", "length", "()I"⟩, Cond.sameMethod "java/lang/AbstractStringBuilder" "java/lang/AbstractStringBuilder" "length" "()I", Cond.instanceMethod ⟨"java/lang/AbstractStringBuilder", "length", "()I"⟩, Cond.selects RJ4 ⟨"java/lang/AbstractStringBuilder", "length", "()I"⟩ yJ4_length_8abf5, Cond.instanceMethod yJ4_length_8abf5, Cond.code yJ4_length_8abf5 cJ4_length_8abf5 1 (some .int), Cond.methodLink RJ4 343 yJ5_length_8abf5, Cond.instanceMethod yJ5_length_8abf5, Cond.code yJ5_length_8abf5 cJ5_length_8abf5 1 (some .int), Cond.methodLink RJ0 1047 ⟨"java/lang/AbstractStringBuilder", "isLatin1", "()Z"⟩, Cond.methodLink RJ0 54 yJ7_copyOfRange_39247, Cond.static yJ7_copyOfRange_39247, Cond.code yJ7_copyOfRange_39247 cJ7_copyOfRange_39247 3 (some (.array .byte))]
def wsJx4a65c_outOfBoundsMsg_b52d3_r10 : List Cond := [Cond.methodLink RJ7 339 yJ7_copyOfRangeByte_39247, Cond.static yJ7_copyOfRangeByte_39247, Cond.code yJ7_copyOfRangeByte_39247 cJ7_copyOfRangeByte_39247 5 (some (.array .byte)), Cond.methodLink RJ7 343 yJ7_checkLength_df160, Cond.static yJ7_checkLength_df160, Cond.code yJ7_checkLength_df160 cJ7_checkLength_df160 2 none, Cond.classLink RJ7 45 RJ4, Cond.methodLink RJ0 1051 yJ2_compress_39247, Cond.static yJ2_compress_39247, Cond.code yJ2_compress_39247 cJ2_compress_39247 6 (some (.array .byte)), Cond.methodLink RJ2 123 yJ2_compress_5af95, Cond.static yJ2_compress_5af95, Cond.code yJ2_compress_5af95 cJ2_compress_5af95 7 (some .int), Cond.methodLink RJ2 71 yJ2_getChar_3b067, Cond.static yJ2_getChar_3b067, Cond.code yJ2_getChar_3b067 cJ2_getChar_3b067 2 (some .char), Cond.methodLink RJ2 126 yJ7_copyOfRange_39247, Cond.methodLink RJ0 47 yJ2_coderFromArrayLen_85cad, Cond.static yJ2_coderFromArrayLen_85cad, Cond.code yJ2_coderFromArrayLen_85cad cJ2_coderFromArrayLen_85cad 2 (some .byte)]
def wsJx4a65c_outOfBoundsMsg_b52d3 : List Cond := .code yJx4a65c_outOfBoundsMsg_b52d3 cJx4a65c_outOfBoundsMsg_b52d3 2 (some (.object "java/lang/String")) :: ((wsJx4a65c_outOfBoundsMsg_b52d3_r1 ++ (wsJx4a65c_outOfBoundsMsg_b52d3_r2 ++ (wsJx4a65c_outOfBoundsMsg_b52d3_r3 ++ (wsJx4a65c_outOfBoundsMsg_b52d3_r4 ++ (wsJx4a65c_outOfBoundsMsg_b52d3_r5 ++ (wsJx4a65c_outOfBoundsMsg_b52d3_r6 ++ (wsJx4a65c_outOfBoundsMsg_b52d3_r7 ++ (wsJx4a65c_outOfBoundsMsg_b52d3_r8 ++ (wsJx4a65c_outOfBoundsMsg_b52d3_r9 ++ wsJx4a65c_outOfBoundsMsg_b52d3_r10))))))))) ++ wsJ40 ++ wsJx4a65c0 ++ wsJ00)
def wsL_wire : List Cond := .codeWith yL_wire cL_wire 4 (some .int) [(0, 9, 12, 13), (0, 9, 15, 15)] :: ([.classLink RL 13 "java/lang/IllegalArgumentException", .classLink RL 15 "java/lang/IllegalStateException", .methodLink RL 7 yX6_wire, .instanceMethod yX6_wire, .selects RX6 yX6_wire yX6_wire, .initialized RX6, .code yX6_wire cX6_wire 2 (some .int), .classLink RX6 40 "java/lang/IllegalArgumentException", .initialized "java/lang/IllegalArgumentException", .classLink RX6 51 "java/lang/IllegalStateException", .initialized "java/lang/IllegalStateException", .fieldLink RX6 10 "TraceBook" "allWires" "LTraceBook$Wires;", .fieldLink RX6 33 "TraceBook" "latest" "LTraceBook$Moment;", .methodLink RX6 58 yX5_add, .instanceMethod yX5_add, .selects RX5 yX5_add yX5_add, .initialized RX5, .code yX5_add cX5_add 2 (some .int), .fieldLink RX5 15 "TraceBook$Wires" "count" "I", .fieldLink RX5 9 "TraceBook$Wires" "widths" "[I"] ++ wsX60 ++ wsX50 ++ (vx_atS RX6 44 "java/lang/IllegalArgumentException" ["java/lang/RuntimeException", "java/lang/Exception"]).filter goodWord ++ (vx_atS RX6 55 "java/lang/IllegalStateException" ["java/lang/RuntimeException", "java/lang/Exception"]).filter goodWord)
def wsL_width : List Cond := .codeWith yL_width cL_width 4 (some .int) [(0, 9, 12, 20)] :: ([.classLink RL 20 "java/lang/IndexOutOfBoundsException", .methodLink RL 17 yX6_width, .instanceMethod yX6_width, .selects RX6 yX6_width yX6_width, .initialized RX6, .code yX6_width cX6_width 2 (some .int), .classLink RX6 66 "java/lang/IndexOutOfBoundsException", .initialized "java/lang/IndexOutOfBoundsException", .fieldLink RX6 10 "TraceBook" "allWires" "LTraceBook$Wires;", .methodLink RX6 62 yX5_has, .instanceMethod yX5_has, .selects RX5 yX5_has yX5_has, .initialized RX5, .code yX5_has cX5_has 2 (some .boolean), .fieldLink RX5 15 "TraceBook$Wires" "count" "I", .fieldLink RX5 9 "TraceBook$Wires" "widths" "[I", .methodLink RX6 71 yX5_widthOf, .instanceMethod yX5_widthOf, .selects RX5 yX5_widthOf yX5_widthOf, .code yX5_widthOf cX5_widthOf 2 (some .int), .methodLink RX5 19 yX5_has] ++ wsX60 ++ wsX50 ++ (vx_atS RX6 70 "java/lang/IndexOutOfBoundsException" ["java/lang/RuntimeException", "java/lang/Exception"]).filter goodWord)
def wsL_open_r1 : List Cond := [Cond.classLink RL 13 "java/lang/IllegalArgumentException", Cond.classLink RL 15 "java/lang/IllegalStateException", Cond.methodLink RL 22 yX6_open, Cond.instanceMethod yX6_open, Cond.selects RX6 yX6_open yX6_open, Cond.initialized RX6, Cond.code yX6_open cX6_open 6 none, Cond.classLink RX6 40 "java/lang/IllegalArgumentException", Cond.initialized "java/lang/IllegalArgumentException", Cond.classLink RX6 51 "java/lang/IllegalStateException", Cond.initialized "java/lang/IllegalStateException", Cond.constantLong RX6 74 (1152921504606846975), Cond.classLink RX6 78 RX2, Cond.instantiable RX2 4, Cond.initialized RX2, Cond.fieldLink RX6 33 "TraceBook" "latest" "LTraceBook$Moment;", Cond.fieldLink RX6 37 "TraceBook" "openMoment" "LTraceBook$Moment;", Cond.methodLink RX6 80 yX2_init, Cond.instanceMethod yX2_init, Cond.code yX2_init cX2_init 5 none, Cond.methodLink RX2 3 objectInit, Cond.instanceMethod objectInit, Cond.code objectInit ⟨#[0xb1]⟩ 1 none, Cond.fieldLink RX2 9 "TraceBook$Moment" "time" "J"]
def wsL_open_r2 : List Cond := [Cond.fieldLink RX2 15 "TraceBook$Moment" "step" "J", Cond.classLink RX2 18 RJx4a65c, Cond.instantiable RJx4a65c 3, Cond.initialized RJx4a65c, Cond.fieldLink RX2 21 "TraceBook$Moment" "changes" "Ljava/util/ArrayList;", Cond.fieldLink RX2 25 "TraceBook$Moment" "place" "I", Cond.methodLink RX2 20 yJx4a65c_init_da8c8, Cond.instanceMethod yJx4a65c_init_da8c8, Cond.code yJx4a65c_init_da8c8 cJx4a65c_init_da8c8 1 none, Cond.fieldLink RJx4a65c 39 "java/util/ArrayList" "DEFAULTCAPACITY_EMPTY_ELEMENTDATA" "[Ljava/lang/Object;", Cond.fieldLink RJx4a65c 9 "java/util/ArrayList" "elementData" "[Ljava/lang/Object;", Cond.methodLink RJx4a65c 1 yJxc12de_init_da8c8, Cond.instanceMethod yJxc12de_init_da8c8, Cond.initialized RJxc12de, Cond.code yJxc12de_init_da8c8 cJxc12de_init_da8c8 1 none, Cond.fieldLink RJxc12de 7 "java/util/AbstractList" "modCount" "I", Cond.methodLink RJxc12de 1 yJxa1e45_init_da8c8, Cond.instanceMethod yJxa1e45_init_da8c8, Cond.initialized RJxa1e45, Cond.code yJxa1e45_init_da8c8 cJxa1e45_init_da8c8 1 none, Cond.methodLink RJxa1e45 1 objectInit, Cond.methodLink RX6 90 yX2_isLaterThan, Cond.instanceMethod yX2_isLaterThan, Cond.selects RX2 yX2_isLaterThan yX2_isLaterThan]
def wsL_open_r3 : List Cond := [Cond.code yX2_isLaterThan cX2_isLaterThan 5 (some .boolean), Cond.methodLink RX6 96 yX6_closeOpenMoment, Cond.instanceMethod yX6_closeOpenMoment, Cond.selects RX6 yX6_closeOpenMoment yX6_closeOpenMoment, Cond.code yX6_closeOpenMoment cX6_closeOpenMoment 1 (some .boolean), Cond.fieldLink RX6 26 "TraceBook" "row" "LTraceBook$Row;", Cond.methodLink RX6 208 yJx4a65c_isEmpty_aae02, Cond.instanceMethod yJx4a65c_isEmpty_aae02, Cond.selects RJx4a65c yJx4a65c_isEmpty_aae02 yJx4a65c_isEmpty_aae02, Cond.code yJx4a65c_isEmpty_aae02 cJx4a65c_isEmpty_aae02 1 (some .boolean), Cond.fieldLink RJx4a65c 48 "java/util/ArrayList" "size" "I", Cond.methodLink RX6 211 yX4_append, Cond.instanceMethod yX4_append, Cond.selects RX4 yX4_append yX4_append, Cond.initialized RX4, Cond.code yX4_append cX4_append 4 (some .boolean), Cond.fieldLink RX4 12 "TraceBook$Row" "bytes" "LTraceBook$Bytes;", Cond.constant RX4 85 (60000), Cond.fieldLink RX4 21 "TraceBook$Row" "moments" "Ljava/util/ArrayList;", Cond.classLink RX4 96 "TraceBook$Change", Cond.methodLink RX4 81 yX4_writeMoment, Cond.instanceMethod yX4_writeMoment, Cond.selects RX4 yX4_writeMoment yX4_writeMoment, Cond.code yX4_writeMoment cX4_writeMoment 7 none]
def wsL_open_r4 : List Cond := [Cond.constantLong RX4 106 (2), Cond.methodLink RX4 102 yX4_lastTime, Cond.instanceMethod yX4_lastTime, Cond.selects RX4 yX4_lastTime yX4_lastTime, Cond.code yX4_lastTime cX4_lastTime 2 (some .long), Cond.methodLink RX4 56 yX4_lastMoment, Cond.instanceMethod yX4_lastMoment, Cond.selects RX4 yX4_lastMoment yX4_lastMoment, Cond.code yX4_lastMoment cX4_lastMoment 1 (some (.object "TraceBook$Moment")), Cond.classLink RX4 54 "TraceBook$Moment", Cond.methodLink RX4 42 yJx4a65c_isEmpty_aae02, Cond.methodLink RX4 46 yJx4a65c_size_8abf5, Cond.instanceMethod yJx4a65c_size_8abf5, Cond.selects RJx4a65c yJx4a65c_size_8abf5 yJx4a65c_size_8abf5, Cond.code yJx4a65c_size_8abf5 cJx4a65c_size_8abf5 1 (some .int), Cond.methodLink RX4 50 yJx4a65c_get_915e3, Cond.instanceMethod yJx4a65c_get_915e3, Cond.selects RJx4a65c yJx4a65c_get_915e3 yJx4a65c_get_915e3, Cond.code yJx4a65c_get_915e3 cJx4a65c_get_915e3 2 (some (.object "java/lang/Object")), Cond.methodLink RJx4a65c 118 yJ15_checkIndex_7cf53, Cond.static yJ15_checkIndex_7cf53, Cond.initialized RJ15, Cond.code yJ15_checkIndex_7cf53 cJ15_checkIndex_7cf53 2 (some .int), Cond.methodLink RJ15 105 yJ3_checkIndex_8e157]
def wsL_open_r5 : List Cond := [Cond.static yJ3_checkIndex_8e157, Cond.initialized RJ3, Cond.code yJ3_checkIndex_8e157 cJ3_checkIndex_8e157 3 (some .int), Cond.methodLink RJx4a65c 123 yJx4a65c_elementData_915e3, Cond.instanceMethod yJx4a65c_elementData_915e3, Cond.selects RJx4a65c yJx4a65c_elementData_915e3 yJx4a65c_elementData_915e3, Cond.code yJx4a65c_elementData_915e3 cJx4a65c_elementData_915e3 2 (some (.object "java/lang/Object")), Cond.methodLink RX4 108 yX4_lastStep, Cond.instanceMethod yX4_lastStep, Cond.selects RX4 yX4_lastStep yX4_lastStep, Cond.code yX4_lastStep cX4_lastStep 2 (some .long), Cond.constantLong RX4 64 (-1), Cond.methodLink RX4 111 yX0_addCount, Cond.instanceMethod yX0_addCount, Cond.selects RX0 yX0_addCount yX0_addCount, Cond.initialized RX0, Cond.code yX0_addCount cX0_addCount 6 none, Cond.constantLong RX0 25 (127), Cond.methodLink RX0 27 yX0_add, Cond.instanceMethod yX0_add, Cond.selects RX0 yX0_add yX0_add, Cond.code yX0_add cX0_add 2 none, Cond.fieldLink RX0 15 "TraceBook$Bytes" "length" "I", Cond.fieldLink RX0 9 "TraceBook$Bytes" "kept" "[B"]
def wsL_open_r6 : List Cond := [Cond.methodLink RX0 19 yJ7_copyOf_9075b, Cond.static yJ7_copyOf_9075b, Cond.initialized RJ7, Cond.code yJ7_copyOf_9075b cJ7_copyOf_9075b 3 (some (.array .byte)), Cond.methodLink RJ7 310 ⟨"[B", "clone", "()Ljava/lang/Object;"⟩, Cond.sameMethod "[B" "java/lang/Object" "clone" "()Ljava/lang/Object;", Cond.native ⟨"java/lang/Object", "clone", "()Ljava/lang/Object;"⟩, Cond.instanceMethod ⟨"java/lang/Object", "clone", "()Ljava/lang/Object;"⟩, Cond.selects "[B" ⟨"[B", "clone", "()Ljava/lang/Object;"⟩ ⟨"java/lang/Object", "clone", "()Ljava/lang/Object;"⟩, Cond.classLink RJ7 311 "[B", Cond.arrayClass .byte, Cond.methodLink RJ7 304 Lib.Math.min.name, Cond.static Lib.Math.min.name, Cond.initialized "java/lang/Math", Cond.code Lib.Math.min.name Lib.Math.min.code 2 (some .int), Cond.methodLink RJ7 150 arraycopyName, Cond.native arraycopyName, Cond.static arraycopyName, Cond.initialized "java/lang/System", Cond.methodLink RX4 29 yX0_cut, Cond.instanceMethod yX0_cut, Cond.selects RX0 yX0_cut yX0_cut, Cond.code yX0_cut cX0_cut 2 none, Cond.methodLink RX4 89 yJx4a65c_add_9ea2d]
def wsL_open_r7 : List Cond := [Cond.instanceMethod yJx4a65c_add_9ea2d, Cond.selects RJx4a65c yJx4a65c_add_9ea2d yJx4a65c_add_9ea2d, Cond.code yJx4a65c_add_9ea2d cJx4a65c_add_9ea2d 2 (some .boolean), Cond.fieldLink RJx4a65c 63 "java/util/ArrayList" "modCount" "I", Cond.sameField "java/util/ArrayList" "java/util/AbstractList" "modCount" "I", Cond.methodLink RJx4a65c 131 yJx4a65c_add_72be8, Cond.instanceMethod yJx4a65c_add_72be8, Cond.selects RJx4a65c yJx4a65c_add_72be8 yJx4a65c_add_72be8, Cond.code yJx4a65c_add_72be8 cJx4a65c_add_72be8 4 none, Cond.methodLink RJx4a65c 129 yJx4a65c_grow_d5877, Cond.instanceMethod yJx4a65c_grow_d5877, Cond.selects RJx4a65c yJx4a65c_grow_d5877 yJx4a65c_grow_d5877, Cond.code yJx4a65c_grow_d5877 cJx4a65c_grow_d5877 1 (some (.array (.object "java/lang/Object"))), Cond.methodLink RJx4a65c 69 yJx4a65c_grow_92f84, Cond.instanceMethod yJx4a65c_grow_92f84, Cond.selects RJx4a65c yJx4a65c_grow_92f84 yJx4a65c_grow_92f84, Cond.code yJx4a65c_grow_92f84 cJx4a65c_grow_92f84 4 (some (.array (.object "java/lang/Object"))), Cond.methodLink RJx4a65c 79 Lib.Math.max.name, Cond.static Lib.Math.max.name, Cond.code Lib.Math.max.name Lib.Math.max.code 2 (some .int), Cond.classLink RJx4a65c 7 "java/lang/Object", Cond.methodLink RJx4a65c 73 yJ8_newLength_cabcc, Cond.static yJ8_newLength_cabcc, Cond.initialized RJ8]
def wsL_open_r8 : List Cond := [Cond.code yJ8_newLength_cabcc cJ8_newLength_cabcc 4 (some .int), Cond.methodLink RJ8 194 Lib.Math.max.name, Cond.constant RJ8 200 (2147483639), Cond.methodLink RJ8 201 yJ8_hugeLength_7cf53, Cond.static yJ8_hugeLength_7cf53, Cond.code yJ8_hugeLength_7cf53 cJ8_hugeLength_7cf53 3 (some .int), Cond.methodLink RJx4a65c 66 yJ7_copyOf_1904c, Cond.static yJ7_copyOf_1904c, Cond.code yJ7_copyOf_1904c cJ7_copyOf_1904c 2 (some (.array (.object "java/lang/Object"))), Cond.methodLink RJ7 86 ⟨"java/lang/Object", "getClass", "()Ljava/lang/Class;"⟩, Cond.selects "[Ljava/lang/Object;" ⟨"java/lang/Object", "getClass", "()Ljava/lang/Class;"⟩ ⟨"java/lang/Object", "getClass", "()Ljava/lang/Class;"⟩, Cond.instanceMethod ⟨"java/lang/Object", "getClass", "()Ljava/lang/Class;"⟩, Cond.native ⟨"java/lang/Object", "getClass", "()Ljava/lang/Class;"⟩, Cond.methodLink RJ7 300 yJ7_copyOf_6403c, Cond.static yJ7_copyOf_6403c, Cond.code yJ7_copyOf_6403c cJ7_copyOf_6403c 4 (some (.array (.object "java/lang/Object"))), Cond.classLink RJ7 110 "[Ljava/lang/Object;", Cond.classLink RJ7 2 "java/lang/Object", Cond.methodLink RX4 98 yX4_keepValue, Cond.instanceMethod yX4_keepValue, Cond.selects RX4 yX4_keepValue yX4_keepValue, Cond.code yX4_keepValue cX4_keepValue 3 none, Cond.fieldLink RX4 25 "TraceBook$Row" "values" "[B", Cond.methodLink RX4 124 Lib.Math.max.name]
def wsL_open_r9 : List Cond := [Cond.methodLink RX4 130 yJ7_copyOf_9075b]
def wsL_open : List Cond := .codeWith yL_open cL_open 6 (some .int) [(0, 6, 9, 13), (0, 6, 13, 15)] :: ((wsL_open_r1 ++ (wsL_open_r2 ++ (wsL_open_r3 ++ (wsL_open_r4 ++ (wsL_open_r5 ++ (wsL_open_r6 ++ (wsL_open_r7 ++ (wsL_open_r8 ++ wsL_open_r9)))))))) ++ wsX20 ++ wsX60 ++ wsJx4a65c0 ++ wsX40 ++ wsX00 ++ wsX10 ++ (vx_atS RX6 44 "java/lang/IllegalArgumentException" ["java/lang/RuntimeException", "java/lang/Exception"]).filter goodWord ++ (vx_atS RX6 55 "java/lang/IllegalStateException" ["java/lang/RuntimeException", "java/lang/Exception"]).filter goodWord)
def wsL_change_r1 : List Cond := [Cond.classLink RL 20 "java/lang/IndexOutOfBoundsException", Cond.classLink RL 13 "java/lang/IllegalArgumentException", Cond.classLink RL 15 "java/lang/IllegalStateException", Cond.methodLink RL 26 yX6_change, Cond.instanceMethod yX6_change, Cond.selects RX6 yX6_change yX6_change, Cond.initialized RX6, Cond.code yX6_change cX6_change 4 (some .boolean), Cond.classLink RX6 66 "java/lang/IndexOutOfBoundsException", Cond.initialized "java/lang/IndexOutOfBoundsException", Cond.classLink RX6 40 "java/lang/IllegalArgumentException", Cond.initialized "java/lang/IllegalArgumentException", Cond.classLink RX6 51 "java/lang/IllegalStateException", Cond.initialized "java/lang/IllegalStateException", Cond.fieldLink RX6 10 "TraceBook" "allWires" "LTraceBook$Wires;", Cond.fieldLink RX6 37 "TraceBook" "openMoment" "LTraceBook$Moment;", Cond.fieldLink RX6 26 "TraceBook" "row" "LTraceBook$Row;", Cond.methodLink RX6 102 yX5_hasElement, Cond.instanceMethod yX5_hasElement, Cond.selects RX5 yX5_hasElement yX5_hasElement, Cond.initialized RX5, Cond.code yX5_hasElement cX5_hasElement 3 (some .boolean), Cond.methodLink RX5 19 yX5_has, Cond.instanceMethod yX5_has]
def wsL_change_r2 : List Cond := [Cond.selects RX5 yX5_has yX5_has, Cond.code yX5_has cX5_has 2 (some .boolean), Cond.fieldLink RX5 15 "TraceBook$Wires" "count" "I", Cond.fieldLink RX5 9 "TraceBook$Wires" "widths" "[I", Cond.methodLink RX5 23 yX5_widthOf, Cond.instanceMethod yX5_widthOf, Cond.selects RX5 yX5_widthOf yX5_widthOf, Cond.code yX5_widthOf cX5_widthOf 2 (some .int), Cond.methodLink RX6 112 yX4_valueOf, Cond.instanceMethod yX4_valueOf, Cond.selects RX4 yX4_valueOf yX4_valueOf, Cond.initialized RX4, Cond.code yX4_valueOf cX4_valueOf 4 (some .int), Cond.fieldLink RX4 25 "TraceBook$Row" "values" "[B", Cond.methodLink RX6 116 yX2_put, Cond.instanceMethod yX2_put, Cond.selects RX2 yX2_put yX2_put, Cond.initialized RX2, Cond.code yX2_put cX2_put 8 (some .boolean), Cond.fieldLink RX2 21 "TraceBook$Moment" "changes" "Ljava/util/ArrayList;", Cond.classLink RX2 41 "TraceBook$Change", Cond.classLink RX2 41 RX1, Cond.instantiable RX1 4, Cond.initialized RX1]
def wsL_change_r3 : List Cond := [Cond.methodLink RX2 29 yX2_indexFor, Cond.instanceMethod yX2_indexFor, Cond.selects RX2 yX2_indexFor yX2_indexFor, Cond.code yX2_indexFor cX2_indexFor 4 (some .int), Cond.methodLink RX2 33 yJx4a65c_size_8abf5, Cond.instanceMethod yJx4a65c_size_8abf5, Cond.selects RJx4a65c yJx4a65c_size_8abf5 yJx4a65c_size_8abf5, Cond.initialized RJx4a65c, Cond.code yJx4a65c_size_8abf5 cJx4a65c_size_8abf5 1 (some .int), Cond.fieldLink RJx4a65c 48 "java/util/ArrayList" "size" "I", Cond.methodLink RX2 37 yJx4a65c_get_915e3, Cond.instanceMethod yJx4a65c_get_915e3, Cond.selects RJx4a65c yJx4a65c_get_915e3 yJx4a65c_get_915e3, Cond.code yJx4a65c_get_915e3 cJx4a65c_get_915e3 2 (some (.object "java/lang/Object")), Cond.methodLink RJx4a65c 118 yJ15_checkIndex_7cf53, Cond.static yJ15_checkIndex_7cf53, Cond.initialized RJ15, Cond.code yJ15_checkIndex_7cf53 cJ15_checkIndex_7cf53 2 (some .int), Cond.methodLink RJ15 105 yJ3_checkIndex_8e157, Cond.static yJ3_checkIndex_8e157, Cond.initialized RJ3, Cond.code yJ3_checkIndex_8e157 cJ3_checkIndex_8e157 3 (some .int), Cond.methodLink RJx4a65c 123 yJx4a65c_elementData_915e3, Cond.instanceMethod yJx4a65c_elementData_915e3]
def wsL_change_r4 : List Cond := [Cond.selects RJx4a65c yJx4a65c_elementData_915e3 yJx4a65c_elementData_915e3, Cond.code yJx4a65c_elementData_915e3 cJx4a65c_elementData_915e3 2 (some (.object "java/lang/Object")), Cond.fieldLink RJx4a65c 9 "java/util/ArrayList" "elementData" "[Ljava/lang/Object;", Cond.methodLink RX2 67 yX1_standsBefore, Cond.instanceMethod yX1_standsBefore, Cond.selects RX1 yX1_standsBefore yX1_standsBefore, Cond.code yX1_standsBefore cX1_standsBefore 3 (some .boolean), Cond.fieldLink RX1 7 "TraceBook$Change" "wire" "I", Cond.fieldLink RX1 13 "TraceBook$Change" "element" "I", Cond.methodLink RX2 46 yX2_isChangeOf, Cond.instanceMethod yX2_isChangeOf, Cond.selects RX2 yX2_isChangeOf yX2_isChangeOf, Cond.code yX2_isChangeOf cX2_isChangeOf 4 (some .boolean), Cond.methodLink RX2 71 yX1_isOf, Cond.instanceMethod yX1_isOf, Cond.selects RX1 yX1_isOf yX1_isOf, Cond.code yX1_isOf cX1_isOf 3 (some .boolean), Cond.methodLink RX2 53 yX1_init, Cond.instanceMethod yX1_init, Cond.code yX1_init cX1_init 5 none, Cond.methodLink RX1 1 objectInit, Cond.instanceMethod objectInit, Cond.code objectInit ⟨#[0xb1]⟩ 1 none, Cond.fieldLink RX1 16 "TraceBook$Change" "value" "I"]
def wsL_change_r5 : List Cond := [Cond.fieldLink RX1 19 "TraceBook$Change" "before" "I", Cond.methodLink RX2 56 yJx4a65c_add_7a177, Cond.instanceMethod yJx4a65c_add_7a177, Cond.selects RJx4a65c yJx4a65c_add_7a177 yJx4a65c_add_7a177, Cond.code yJx4a65c_add_7a177 cJx4a65c_add_7a177 5 none, Cond.fieldLink RJx4a65c 63 "java/util/ArrayList" "modCount" "I", Cond.sameField "java/util/ArrayList" "java/util/AbstractList" "modCount" "I", Cond.methodLink RJx4a65c 112 arraycopyName, Cond.native arraycopyName, Cond.static arraycopyName, Cond.initialized "java/lang/System", Cond.methodLink RJx4a65c 135 yJx4a65c_rangeCheckForAdd_d00df, Cond.instanceMethod yJx4a65c_rangeCheckForAdd_d00df, Cond.selects RJx4a65c yJx4a65c_rangeCheckForAdd_d00df yJx4a65c_rangeCheckForAdd_d00df, Cond.code yJx4a65c_rangeCheckForAdd_d00df cJx4a65c_rangeCheckForAdd_d00df 2 none, Cond.methodLink RJx4a65c 129 yJx4a65c_grow_d5877, Cond.instanceMethod yJx4a65c_grow_d5877, Cond.selects RJx4a65c yJx4a65c_grow_d5877 yJx4a65c_grow_d5877, Cond.code yJx4a65c_grow_d5877 cJx4a65c_grow_d5877 1 (some (.array (.object "java/lang/Object"))), Cond.methodLink RJx4a65c 69 yJx4a65c_grow_92f84, Cond.instanceMethod yJx4a65c_grow_92f84, Cond.selects RJx4a65c yJx4a65c_grow_92f84 yJx4a65c_grow_92f84, Cond.code yJx4a65c_grow_92f84 cJx4a65c_grow_92f84 4 (some (.array (.object "java/lang/Object"))), Cond.fieldLink RJx4a65c 39 "java/util/ArrayList" "DEFAULTCAPACITY_EMPTY_ELEMENTDATA" "[Ljava/lang/Object;"]
def wsL_change_r6 : List Cond := [Cond.methodLink RJx4a65c 79 Lib.Math.max.name, Cond.static Lib.Math.max.name, Cond.initialized "java/lang/Math", Cond.code Lib.Math.max.name Lib.Math.max.code 2 (some .int), Cond.classLink RJx4a65c 7 "java/lang/Object", Cond.methodLink RJx4a65c 73 yJ8_newLength_cabcc, Cond.static yJ8_newLength_cabcc, Cond.initialized RJ8, Cond.code yJ8_newLength_cabcc cJ8_newLength_cabcc 4 (some .int), Cond.methodLink RJ8 194 Lib.Math.max.name, Cond.constant RJ8 200 (2147483639), Cond.methodLink RJ8 201 yJ8_hugeLength_7cf53, Cond.static yJ8_hugeLength_7cf53, Cond.code yJ8_hugeLength_7cf53 cJ8_hugeLength_7cf53 3 (some .int), Cond.methodLink RJx4a65c 66 yJ7_copyOf_1904c, Cond.static yJ7_copyOf_1904c, Cond.initialized RJ7, Cond.code yJ7_copyOf_1904c cJ7_copyOf_1904c 2 (some (.array (.object "java/lang/Object"))), Cond.methodLink RJ7 86 ⟨"java/lang/Object", "getClass", "()Ljava/lang/Class;"⟩, Cond.selects "[Ljava/lang/Object;" ⟨"java/lang/Object", "getClass", "()Ljava/lang/Class;"⟩ ⟨"java/lang/Object", "getClass", "()Ljava/lang/Class;"⟩, Cond.instanceMethod ⟨"java/lang/Object", "getClass", "()Ljava/lang/Class;"⟩, Cond.native ⟨"java/lang/Object", "getClass", "()Ljava/lang/Class;"⟩, Cond.methodLink RJ7 300 yJ7_copyOf_6403c, Cond.static yJ7_copyOf_6403c]
def wsL_change_r7 : List Cond := [Cond.code yJ7_copyOf_6403c cJ7_copyOf_6403c 4 (some (.array (.object "java/lang/Object"))), Cond.classLink RJ7 110 "[Ljava/lang/Object;", Cond.classLink RJ7 2 "java/lang/Object", Cond.methodLink RJ7 304 Lib.Math.min.name, Cond.static Lib.Math.min.name, Cond.code Lib.Math.min.name Lib.Math.min.code 2 (some .int), Cond.methodLink RJ7 150 arraycopyName, Cond.methodLink RX2 60 yJx4a65c_remove_915e3, Cond.instanceMethod yJx4a65c_remove_915e3, Cond.selects RJx4a65c yJx4a65c_remove_915e3 yJx4a65c_remove_915e3, Cond.code yJx4a65c_remove_915e3 cJx4a65c_remove_915e3 4 (some (.object "java/lang/Object")), Cond.methodLink RJx4a65c 144 yJx4a65c_fastRemove_b59b0, Cond.instanceMethod yJx4a65c_fastRemove_b59b0, Cond.selects RJx4a65c yJx4a65c_fastRemove_b59b0 yJx4a65c_fastRemove_b59b0, Cond.code yJx4a65c_fastRemove_b59b0 cJx4a65c_fastRemove_b59b0 4 none, Cond.methodLink RX2 63 yJx4a65c_set_bcc79, Cond.instanceMethod yJx4a65c_set_bcc79, Cond.selects RJx4a65c yJx4a65c_set_bcc79 yJx4a65c_set_bcc79, Cond.code yJx4a65c_set_bcc79 cJx4a65c_set_bcc79 4 (some (.object "java/lang/Object"))]
def wsL_change : List Cond := .codeWith yL_change cL_change 6 (some .int) [(0, 19, 22, 20), (0, 19, 26, 13), (0, 19, 30, 15)] :: ((wsL_change_r1 ++ (wsL_change_r2 ++ (wsL_change_r3 ++ (wsL_change_r4 ++ (wsL_change_r5 ++ (wsL_change_r6 ++ wsL_change_r7)))))) ++ wsX60 ++ wsX50 ++ wsX40 ++ wsX20 ++ wsX10 ++ wsJx4a65c0 ++ (vx_atS RX6 70 "java/lang/IndexOutOfBoundsException" ["java/lang/RuntimeException", "java/lang/Exception"]).filter goodWord ++ (vx_atS RX6 44 "java/lang/IllegalArgumentException" ["java/lang/RuntimeException", "java/lang/Exception"]).filter goodWord ++ (vx_atS RX6 55 "java/lang/IllegalStateException" ["java/lang/RuntimeException", "java/lang/Exception"]).filter goodWord)
def wsL_close_r1 : List Cond := [Cond.classLink RL 15 "java/lang/IllegalStateException", Cond.methodLink RL 30 yX6_close, Cond.instanceMethod yX6_close, Cond.selects RX6 yX6_close yX6_close, Cond.initialized RX6, Cond.code yX6_close cX6_close 2 (some .int), Cond.classLink RX6 51 "java/lang/IllegalStateException", Cond.initialized "java/lang/IllegalStateException", Cond.fieldLink RX6 37 "TraceBook" "openMoment" "LTraceBook$Moment;", Cond.methodLink RX6 124 yJx4a65c_size_8abf5, Cond.instanceMethod yJx4a65c_size_8abf5, Cond.selects RJx4a65c yJx4a65c_size_8abf5 yJx4a65c_size_8abf5, Cond.initialized RJx4a65c, Cond.code yJx4a65c_size_8abf5 cJx4a65c_size_8abf5 1 (some .int), Cond.fieldLink RJx4a65c 48 "java/util/ArrayList" "size" "I", Cond.methodLink RX6 96 yX6_closeOpenMoment, Cond.instanceMethod yX6_closeOpenMoment, Cond.selects RX6 yX6_closeOpenMoment yX6_closeOpenMoment, Cond.code yX6_closeOpenMoment cX6_closeOpenMoment 1 (some .boolean), Cond.fieldLink RX6 26 "TraceBook" "row" "LTraceBook$Row;", Cond.methodLink RX6 208 yJx4a65c_isEmpty_aae02, Cond.instanceMethod yJx4a65c_isEmpty_aae02, Cond.selects RJx4a65c yJx4a65c_isEmpty_aae02 yJx4a65c_isEmpty_aae02, Cond.code yJx4a65c_isEmpty_aae02 cJx4a65c_isEmpty_aae02 1 (some .boolean)]
def wsL_close_r2 : List Cond := [Cond.methodLink RX6 211 yX4_append, Cond.instanceMethod yX4_append, Cond.selects RX4 yX4_append yX4_append, Cond.initialized RX4, Cond.code yX4_append cX4_append 4 (some .boolean), Cond.fieldLink RX4 12 "TraceBook$Row" "bytes" "LTraceBook$Bytes;", Cond.constant RX4 85 (60000), Cond.fieldLink RX4 21 "TraceBook$Row" "moments" "Ljava/util/ArrayList;", Cond.classLink RX4 96 "TraceBook$Change", Cond.methodLink RX4 81 yX4_writeMoment, Cond.instanceMethod yX4_writeMoment, Cond.selects RX4 yX4_writeMoment yX4_writeMoment, Cond.code yX4_writeMoment cX4_writeMoment 7 none, Cond.constantLong RX4 106 (2), Cond.methodLink RX4 102 yX4_lastTime, Cond.instanceMethod yX4_lastTime, Cond.selects RX4 yX4_lastTime yX4_lastTime, Cond.code yX4_lastTime cX4_lastTime 2 (some .long), Cond.methodLink RX4 56 yX4_lastMoment, Cond.instanceMethod yX4_lastMoment, Cond.selects RX4 yX4_lastMoment yX4_lastMoment, Cond.code yX4_lastMoment cX4_lastMoment 1 (some (.object "TraceBook$Moment")), Cond.classLink RX4 54 "TraceBook$Moment", Cond.methodLink RX4 42 yJx4a65c_isEmpty_aae02]
def wsL_close_r3 : List Cond := [Cond.methodLink RX4 46 yJx4a65c_size_8abf5, Cond.methodLink RX4 50 yJx4a65c_get_915e3, Cond.instanceMethod yJx4a65c_get_915e3, Cond.selects RJx4a65c yJx4a65c_get_915e3 yJx4a65c_get_915e3, Cond.code yJx4a65c_get_915e3 cJx4a65c_get_915e3 2 (some (.object "java/lang/Object")), Cond.methodLink RJx4a65c 118 yJ15_checkIndex_7cf53, Cond.static yJ15_checkIndex_7cf53, Cond.initialized RJ15, Cond.code yJ15_checkIndex_7cf53 cJ15_checkIndex_7cf53 2 (some .int), Cond.methodLink RJ15 105 yJ3_checkIndex_8e157, Cond.static yJ3_checkIndex_8e157, Cond.initialized RJ3, Cond.code yJ3_checkIndex_8e157 cJ3_checkIndex_8e157 3 (some .int), Cond.methodLink RJx4a65c 123 yJx4a65c_elementData_915e3, Cond.instanceMethod yJx4a65c_elementData_915e3, Cond.selects RJx4a65c yJx4a65c_elementData_915e3 yJx4a65c_elementData_915e3, Cond.code yJx4a65c_elementData_915e3 cJx4a65c_elementData_915e3 2 (some (.object "java/lang/Object")), Cond.fieldLink RJx4a65c 9 "java/util/ArrayList" "elementData" "[Ljava/lang/Object;", Cond.methodLink RX4 108 yX4_lastStep, Cond.instanceMethod yX4_lastStep, Cond.selects RX4 yX4_lastStep yX4_lastStep, Cond.code yX4_lastStep cX4_lastStep 2 (some .long), Cond.constantLong RX4 64 (-1), Cond.methodLink RX4 111 yX0_addCount]
def wsL_close_r4 : List Cond := [Cond.instanceMethod yX0_addCount, Cond.selects RX0 yX0_addCount yX0_addCount, Cond.initialized RX0, Cond.code yX0_addCount cX0_addCount 6 none, Cond.constantLong RX0 25 (127), Cond.methodLink RX0 27 yX0_add, Cond.instanceMethod yX0_add, Cond.selects RX0 yX0_add yX0_add, Cond.code yX0_add cX0_add 2 none, Cond.fieldLink RX0 15 "TraceBook$Bytes" "length" "I", Cond.fieldLink RX0 9 "TraceBook$Bytes" "kept" "[B", Cond.methodLink RX0 19 yJ7_copyOf_9075b, Cond.static yJ7_copyOf_9075b, Cond.initialized RJ7, Cond.code yJ7_copyOf_9075b cJ7_copyOf_9075b 3 (some (.array .byte)), Cond.methodLink RJ7 310 ⟨"[B", "clone", "()Ljava/lang/Object;"⟩, Cond.sameMethod "[B" "java/lang/Object" "clone" "()Ljava/lang/Object;", Cond.native ⟨"java/lang/Object", "clone", "()Ljava/lang/Object;"⟩, Cond.instanceMethod ⟨"java/lang/Object", "clone", "()Ljava/lang/Object;"⟩, Cond.selects "[B" ⟨"[B", "clone", "()Ljava/lang/Object;"⟩ ⟨"java/lang/Object", "clone", "()Ljava/lang/Object;"⟩, Cond.classLink RJ7 311 "[B", Cond.arrayClass .byte, Cond.methodLink RJ7 304 Lib.Math.min.name, Cond.static Lib.Math.min.name]
def wsL_close_r5 : List Cond := [Cond.initialized "java/lang/Math", Cond.code Lib.Math.min.name Lib.Math.min.code 2 (some .int), Cond.methodLink RJ7 150 arraycopyName, Cond.native arraycopyName, Cond.static arraycopyName, Cond.initialized "java/lang/System", Cond.methodLink RX4 29 yX0_cut, Cond.instanceMethod yX0_cut, Cond.selects RX0 yX0_cut yX0_cut, Cond.code yX0_cut cX0_cut 2 none, Cond.methodLink RX4 89 yJx4a65c_add_9ea2d, Cond.instanceMethod yJx4a65c_add_9ea2d, Cond.selects RJx4a65c yJx4a65c_add_9ea2d yJx4a65c_add_9ea2d, Cond.code yJx4a65c_add_9ea2d cJx4a65c_add_9ea2d 2 (some .boolean), Cond.fieldLink RJx4a65c 63 "java/util/ArrayList" "modCount" "I", Cond.sameField "java/util/ArrayList" "java/util/AbstractList" "modCount" "I", Cond.methodLink RJx4a65c 131 yJx4a65c_add_72be8, Cond.instanceMethod yJx4a65c_add_72be8, Cond.selects RJx4a65c yJx4a65c_add_72be8 yJx4a65c_add_72be8, Cond.code yJx4a65c_add_72be8 cJx4a65c_add_72be8 4 none, Cond.methodLink RJx4a65c 129 yJx4a65c_grow_d5877, Cond.instanceMethod yJx4a65c_grow_d5877, Cond.selects RJx4a65c yJx4a65c_grow_d5877 yJx4a65c_grow_d5877, Cond.code yJx4a65c_grow_d5877 cJx4a65c_grow_d5877 1 (some (.array (.object "java/lang/Object")))]
def wsL_close_r6 : List Cond := [Cond.methodLink RJx4a65c 69 yJx4a65c_grow_92f84, Cond.instanceMethod yJx4a65c_grow_92f84, Cond.selects RJx4a65c yJx4a65c_grow_92f84 yJx4a65c_grow_92f84, Cond.code yJx4a65c_grow_92f84 cJx4a65c_grow_92f84 4 (some (.array (.object "java/lang/Object"))), Cond.fieldLink RJx4a65c 39 "java/util/ArrayList" "DEFAULTCAPACITY_EMPTY_ELEMENTDATA" "[Ljava/lang/Object;", Cond.methodLink RJx4a65c 79 Lib.Math.max.name, Cond.static Lib.Math.max.name, Cond.code Lib.Math.max.name Lib.Math.max.code 2 (some .int), Cond.classLink RJx4a65c 7 "java/lang/Object", Cond.methodLink RJx4a65c 73 yJ8_newLength_cabcc, Cond.static yJ8_newLength_cabcc, Cond.initialized RJ8, Cond.code yJ8_newLength_cabcc cJ8_newLength_cabcc 4 (some .int), Cond.methodLink RJ8 194 Lib.Math.max.name, Cond.constant RJ8 200 (2147483639), Cond.methodLink RJ8 201 yJ8_hugeLength_7cf53, Cond.static yJ8_hugeLength_7cf53, Cond.code yJ8_hugeLength_7cf53 cJ8_hugeLength_7cf53 3 (some .int), Cond.methodLink RJx4a65c 66 yJ7_copyOf_1904c, Cond.static yJ7_copyOf_1904c, Cond.code yJ7_copyOf_1904c cJ7_copyOf_1904c 2 (some (.array (.object "java/lang/Object"))), Cond.methodLink RJ7 86 ⟨"java/lang/Object", "getClass", "()Ljava/lang/Class;"⟩, Cond.selects "[Ljava/lang/Object;" ⟨"java/lang/Object", "getClass", "()Ljava/lang/Class;"⟩ ⟨"java/lang/Object", "getClass", "()Ljava/lang/Class;"⟩, Cond.instanceMethod ⟨"java/lang/Object", "getClass", "()Ljava/lang/Class;"⟩]
def wsL_close_r7 : List Cond := [Cond.native ⟨"java/lang/Object", "getClass", "()Ljava/lang/Class;"⟩, Cond.methodLink RJ7 300 yJ7_copyOf_6403c, Cond.static yJ7_copyOf_6403c, Cond.code yJ7_copyOf_6403c cJ7_copyOf_6403c 4 (some (.array (.object "java/lang/Object"))), Cond.classLink RJ7 110 "[Ljava/lang/Object;", Cond.classLink RJ7 2 "java/lang/Object", Cond.methodLink RX4 98 yX4_keepValue, Cond.instanceMethod yX4_keepValue, Cond.selects RX4 yX4_keepValue yX4_keepValue, Cond.code yX4_keepValue cX4_keepValue 3 none, Cond.fieldLink RX4 25 "TraceBook$Row" "values" "[B", Cond.methodLink RX4 124 Lib.Math.max.name, Cond.methodLink RX4 130 yJ7_copyOf_9075b]
def wsL_close : List Cond := .codeWith yL_close cL_close 3 (some .int) [(0, 8, 11, 15)] :: ((wsL_close_r1 ++ (wsL_close_r2 ++ (wsL_close_r3 ++ (wsL_close_r4 ++ (wsL_close_r5 ++ (wsL_close_r6 ++ wsL_close_r7)))))) ++ wsX60 ++ wsX20 ++ wsJx4a65c0 ++ wsX40 ++ wsX00 ++ wsX10 ++ (vx_atS RX6 55 "java/lang/IllegalStateException" ["java/lang/RuntimeException", "java/lang/Exception"]).filter goodWord)
def wsL_moment_r1 : List Cond := [Cond.classLink RL 20 "java/lang/IndexOutOfBoundsException", Cond.classLink RL 13 "java/lang/IllegalArgumentException", Cond.methodLink RL 34 yX6_moment, Cond.instanceMethod yX6_moment, Cond.selects RX6 yX6_moment yX6_moment, Cond.initialized RX6, Cond.code yX6_moment cX6_moment 4 (some .long), Cond.classLink RX6 66 "java/lang/IndexOutOfBoundsException", Cond.initialized "java/lang/IndexOutOfBoundsException", Cond.classLink RX6 40 "java/lang/IllegalArgumentException", Cond.initialized "java/lang/IllegalArgumentException", Cond.fieldLink RX6 26 "TraceBook" "row" "LTraceBook$Row;", Cond.classLink RX6 78 "TraceBook$Moment", Cond.methodLink RX6 124 yJx4a65c_size_8abf5, Cond.instanceMethod yJx4a65c_size_8abf5, Cond.selects RJx4a65c yJx4a65c_size_8abf5 yJx4a65c_size_8abf5, Cond.initialized RJx4a65c, Cond.code yJx4a65c_size_8abf5 cJx4a65c_size_8abf5 1 (some .int), Cond.fieldLink RJx4a65c 48 "java/util/ArrayList" "size" "I", Cond.methodLink RX6 135 yJx4a65c_get_915e3, Cond.instanceMethod yJx4a65c_get_915e3, Cond.selects RJx4a65c yJx4a65c_get_915e3 yJx4a65c_get_915e3, Cond.code yJx4a65c_get_915e3 cJx4a65c_get_915e3 2 (some (.object "java/lang/Object")), Cond.methodLink RJx4a65c 118 yJ15_checkIndex_7cf53]
def wsL_moment_r2 : List Cond := [Cond.static yJ15_checkIndex_7cf53, Cond.initialized RJ15, Cond.code yJ15_checkIndex_7cf53 cJ15_checkIndex_7cf53 2 (some .int), Cond.methodLink RJ15 105 yJ3_checkIndex_8e157, Cond.static yJ3_checkIndex_8e157, Cond.initialized RJ3, Cond.code yJ3_checkIndex_8e157 cJ3_checkIndex_8e157 3 (some .int), Cond.methodLink RJx4a65c 123 yJx4a65c_elementData_915e3, Cond.instanceMethod yJx4a65c_elementData_915e3, Cond.selects RJx4a65c yJx4a65c_elementData_915e3 yJx4a65c_elementData_915e3, Cond.code yJx4a65c_elementData_915e3 cJx4a65c_elementData_915e3 2 (some (.object "java/lang/Object")), Cond.fieldLink RJx4a65c 9 "java/util/ArrayList" "elementData" "[Ljava/lang/Object;"]
def wsL_moment : List Cond := .codeWith yL_moment cL_moment 5 (some .int) [(0, 9, 12, 20), (0, 9, 16, 13)] :: ((wsL_moment_r1 ++ wsL_moment_r2) ++ wsX60 ++ wsX40 ++ wsX20 ++ wsJx4a65c0 ++ (vx_atS RX6 70 "java/lang/IndexOutOfBoundsException" ["java/lang/RuntimeException", "java/lang/Exception"]).filter goodWord ++ (vx_atS RX6 44 "java/lang/IllegalArgumentException" ["java/lang/RuntimeException", "java/lang/Exception"]).filter goodWord)
def wsL_changed_r1 : List Cond := [Cond.classLink RL 20 "java/lang/IndexOutOfBoundsException", Cond.classLink RL 13 "java/lang/IllegalArgumentException", Cond.methodLink RL 38 yX6_changed, Cond.instanceMethod yX6_changed, Cond.selects RX6 yX6_changed yX6_changed, Cond.initialized RX6, Cond.code yX6_changed cX6_changed 6 (some .int), Cond.classLink RX6 66 "java/lang/IndexOutOfBoundsException", Cond.initialized "java/lang/IndexOutOfBoundsException", Cond.classLink RX6 40 "java/lang/IllegalArgumentException", Cond.initialized "java/lang/IllegalArgumentException", Cond.fieldLink RX6 26 "TraceBook" "row" "LTraceBook$Row;", Cond.classLink RX6 78 "TraceBook$Moment", Cond.classLink RX6 146 "TraceBook$Change", Cond.methodLink RX6 124 yJx4a65c_size_8abf5, Cond.instanceMethod yJx4a65c_size_8abf5, Cond.selects RJx4a65c yJx4a65c_size_8abf5 yJx4a65c_size_8abf5, Cond.initialized RJx4a65c, Cond.code yJx4a65c_size_8abf5 cJx4a65c_size_8abf5 1 (some .int), Cond.fieldLink RJx4a65c 48 "java/util/ArrayList" "size" "I", Cond.methodLink RX6 135 yJx4a65c_get_915e3, Cond.instanceMethod yJx4a65c_get_915e3, Cond.selects RJx4a65c yJx4a65c_get_915e3 yJx4a65c_get_915e3, Cond.code yJx4a65c_get_915e3 cJx4a65c_get_915e3 2 (some (.object "java/lang/Object"))]
def wsL_changed_r2 : List Cond := [Cond.methodLink RJx4a65c 118 yJ15_checkIndex_7cf53, Cond.static yJ15_checkIndex_7cf53, Cond.initialized RJ15, Cond.code yJ15_checkIndex_7cf53 cJ15_checkIndex_7cf53 2 (some .int), Cond.methodLink RJ15 105 yJ3_checkIndex_8e157, Cond.static yJ3_checkIndex_8e157, Cond.initialized RJ3, Cond.code yJ3_checkIndex_8e157 cJ3_checkIndex_8e157 3 (some .int), Cond.methodLink RJx4a65c 123 yJx4a65c_elementData_915e3, Cond.instanceMethod yJx4a65c_elementData_915e3, Cond.selects RJx4a65c yJx4a65c_elementData_915e3 yJx4a65c_elementData_915e3, Cond.code yJx4a65c_elementData_915e3 cJx4a65c_elementData_915e3 2 (some (.object "java/lang/Object")), Cond.fieldLink RJx4a65c 9 "java/util/ArrayList" "elementData" "[Ljava/lang/Object;"]
def wsL_changed : List Cond := .codeWith yL_changed cL_changed 6 (some .int) [(0, 12, 15, 20), (0, 12, 19, 13)] :: ((wsL_changed_r1 ++ wsL_changed_r2) ++ wsX60 ++ wsX40 ++ wsX20 ++ wsX10 ++ wsJx4a65c0 ++ (vx_atS RX6 70 "java/lang/IndexOutOfBoundsException" ["java/lang/RuntimeException", "java/lang/Exception"]).filter goodWord ++ (vx_atS RX6 44 "java/lang/IllegalArgumentException" ["java/lang/RuntimeException", "java/lang/Exception"]).filter goodWord)
def wsL_at_r1 : List Cond := [Cond.classLink RL 20 "java/lang/IndexOutOfBoundsException", Cond.methodLink RL 42 yX6_at, Cond.instanceMethod yX6_at, Cond.selects RX6 yX6_at yX6_at, Cond.initialized RX6, Cond.code yX6_at cX6_at 7 (some .int), Cond.classLink RX6 66 "java/lang/IndexOutOfBoundsException", Cond.initialized "java/lang/IndexOutOfBoundsException", Cond.fieldLink RX6 10 "TraceBook" "allWires" "LTraceBook$Wires;", Cond.fieldLink RX6 26 "TraceBook" "row" "LTraceBook$Row;", Cond.methodLink RX6 102 yX5_hasElement, Cond.instanceMethod yX5_hasElement, Cond.selects RX5 yX5_hasElement yX5_hasElement, Cond.initialized RX5, Cond.code yX5_hasElement cX5_hasElement 3 (some .boolean), Cond.methodLink RX5 19 yX5_has, Cond.instanceMethod yX5_has, Cond.selects RX5 yX5_has yX5_has, Cond.code yX5_has cX5_has 2 (some .boolean), Cond.fieldLink RX5 15 "TraceBook$Wires" "count" "I", Cond.fieldLink RX5 9 "TraceBook$Wires" "widths" "[I", Cond.methodLink RX5 23 yX5_widthOf, Cond.instanceMethod yX5_widthOf, Cond.selects RX5 yX5_widthOf yX5_widthOf]
def wsL_at_r2 : List Cond := [Cond.code yX5_widthOf cX5_widthOf 2 (some .int), Cond.methodLink RX6 160 yX4_valueBehind, Cond.instanceMethod yX4_valueBehind, Cond.selects RX4 yX4_valueBehind yX4_valueBehind, Cond.initialized RX4, Cond.code yX4_valueBehind cX4_valueBehind 10 (some .int), Cond.fieldLink RX4 21 "TraceBook$Row" "moments" "Ljava/util/ArrayList;", Cond.classLink RX4 54 "TraceBook$Moment", Cond.methodLink RX4 46 yJx4a65c_size_8abf5, Cond.instanceMethod yJx4a65c_size_8abf5, Cond.selects RJx4a65c yJx4a65c_size_8abf5 yJx4a65c_size_8abf5, Cond.initialized RJx4a65c, Cond.code yJx4a65c_size_8abf5 cJx4a65c_size_8abf5 1 (some .int), Cond.fieldLink RJx4a65c 48 "java/util/ArrayList" "size" "I", Cond.methodLink RX4 50 yJx4a65c_get_915e3, Cond.instanceMethod yJx4a65c_get_915e3, Cond.selects RJx4a65c yJx4a65c_get_915e3 yJx4a65c_get_915e3, Cond.code yJx4a65c_get_915e3 cJx4a65c_get_915e3 2 (some (.object "java/lang/Object")), Cond.methodLink RJx4a65c 118 yJ15_checkIndex_7cf53, Cond.static yJ15_checkIndex_7cf53, Cond.initialized RJ15, Cond.code yJ15_checkIndex_7cf53 cJ15_checkIndex_7cf53 2 (some .int), Cond.methodLink RJ15 105 yJ3_checkIndex_8e157, Cond.static yJ3_checkIndex_8e157]
def wsL_at_r3 : List Cond := [Cond.initialized RJ3, Cond.code yJ3_checkIndex_8e157 cJ3_checkIndex_8e157 3 (some .int), Cond.methodLink RJx4a65c 123 yJx4a65c_elementData_915e3, Cond.instanceMethod yJx4a65c_elementData_915e3, Cond.selects RJx4a65c yJx4a65c_elementData_915e3 yJx4a65c_elementData_915e3, Cond.code yJx4a65c_elementData_915e3 cJx4a65c_elementData_915e3 2 (some (.object "java/lang/Object")), Cond.fieldLink RJx4a65c 9 "java/util/ArrayList" "elementData" "[Ljava/lang/Object;", Cond.methodLink RX4 69 yX2_isLaterThan, Cond.instanceMethod yX2_isLaterThan, Cond.selects RX2 yX2_isLaterThan yX2_isLaterThan, Cond.initialized RX2, Cond.code yX2_isLaterThan cX2_isLaterThan 5 (some .boolean), Cond.fieldLink RX2 9 "TraceBook$Moment" "time" "J", Cond.fieldLink RX2 15 "TraceBook$Moment" "step" "J", Cond.methodLink RX4 73 yX2_valueBehind, Cond.instanceMethod yX2_valueBehind, Cond.selects RX2 yX2_valueBehind yX2_valueBehind, Cond.code yX2_valueBehind cX2_valueBehind 5 (some .int), Cond.fieldLink RX2 21 "TraceBook$Moment" "changes" "Ljava/util/ArrayList;", Cond.classLink RX2 41 "TraceBook$Change", Cond.methodLink RX2 29 yX2_indexFor, Cond.instanceMethod yX2_indexFor, Cond.selects RX2 yX2_indexFor yX2_indexFor, Cond.code yX2_indexFor cX2_indexFor 4 (some .int)]
def wsL_at_r4 : List Cond := [Cond.methodLink RX2 33 yJx4a65c_size_8abf5, Cond.methodLink RX2 37 yJx4a65c_get_915e3, Cond.methodLink RX2 67 yX1_standsBefore, Cond.instanceMethod yX1_standsBefore, Cond.selects RX1 yX1_standsBefore yX1_standsBefore, Cond.initialized RX1, Cond.code yX1_standsBefore cX1_standsBefore 3 (some .boolean), Cond.fieldLink RX1 7 "TraceBook$Change" "wire" "I", Cond.fieldLink RX1 13 "TraceBook$Change" "element" "I", Cond.methodLink RX2 46 yX2_isChangeOf, Cond.instanceMethod yX2_isChangeOf, Cond.selects RX2 yX2_isChangeOf yX2_isChangeOf, Cond.code yX2_isChangeOf cX2_isChangeOf 4 (some .boolean), Cond.methodLink RX2 71 yX1_isOf, Cond.instanceMethod yX1_isOf, Cond.selects RX1 yX1_isOf yX1_isOf, Cond.code yX1_isOf cX1_isOf 3 (some .boolean)]
def wsL_at : List Cond := .codeWith yL_at cL_at 9 (some .int) [(0, 15, 18, 20)] :: ((wsL_at_r1 ++ (wsL_at_r2 ++ (wsL_at_r3 ++ wsL_at_r4))) ++ wsX60 ++ wsX50 ++ wsX40 ++ wsJx4a65c0 ++ wsX20 ++ wsX10 ++ (vx_atS RX6 70 "java/lang/IndexOutOfBoundsException" ["java/lang/RuntimeException", "java/lang/Exception"]).filter goodWord)
def wsL_next_r1 : List Cond := [Cond.classLink RL 20 "java/lang/IndexOutOfBoundsException", Cond.classLink RL 13 "java/lang/IllegalArgumentException", Cond.methodLink RL 46 yX6_next, Cond.instanceMethod yX6_next, Cond.selects RX6 yX6_next yX6_next, Cond.initialized RX6, Cond.code yX6_next cX6_next 4 (some .int), Cond.classLink RX6 66 "java/lang/IndexOutOfBoundsException", Cond.initialized "java/lang/IndexOutOfBoundsException", Cond.classLink RX6 40 "java/lang/IllegalArgumentException", Cond.initialized "java/lang/IllegalArgumentException", Cond.fieldLink RX6 10 "TraceBook" "allWires" "LTraceBook$Wires;", Cond.fieldLink RX6 26 "TraceBook" "row" "LTraceBook$Row;", Cond.classLink RX6 78 "TraceBook$Moment", Cond.methodLink RX6 62 yX5_has, Cond.instanceMethod yX5_has, Cond.selects RX5 yX5_has yX5_has, Cond.initialized RX5, Cond.code yX5_has cX5_has 2 (some .boolean), Cond.fieldLink RX5 15 "TraceBook$Wires" "count" "I", Cond.fieldLink RX5 9 "TraceBook$Wires" "widths" "[I", Cond.methodLink RX6 124 yJx4a65c_size_8abf5, Cond.instanceMethod yJx4a65c_size_8abf5, Cond.selects RJx4a65c yJx4a65c_size_8abf5 yJx4a65c_size_8abf5]
def wsL_next_r2 : List Cond := [Cond.initialized RJx4a65c, Cond.code yJx4a65c_size_8abf5 cJx4a65c_size_8abf5 1 (some .int), Cond.fieldLink RJx4a65c 48 "java/util/ArrayList" "size" "I", Cond.methodLink RX6 135 yJx4a65c_get_915e3, Cond.instanceMethod yJx4a65c_get_915e3, Cond.selects RJx4a65c yJx4a65c_get_915e3 yJx4a65c_get_915e3, Cond.code yJx4a65c_get_915e3 cJx4a65c_get_915e3 2 (some (.object "java/lang/Object")), Cond.methodLink RJx4a65c 118 yJ15_checkIndex_7cf53, Cond.static yJ15_checkIndex_7cf53, Cond.initialized RJ15, Cond.code yJ15_checkIndex_7cf53 cJ15_checkIndex_7cf53 2 (some .int), Cond.methodLink RJ15 105 yJ3_checkIndex_8e157, Cond.static yJ3_checkIndex_8e157, Cond.initialized RJ3, Cond.code yJ3_checkIndex_8e157 cJ3_checkIndex_8e157 3 (some .int), Cond.methodLink RJx4a65c 123 yJx4a65c_elementData_915e3, Cond.instanceMethod yJx4a65c_elementData_915e3, Cond.selects RJx4a65c yJx4a65c_elementData_915e3 yJx4a65c_elementData_915e3, Cond.code yJx4a65c_elementData_915e3 cJx4a65c_elementData_915e3 2 (some (.object "java/lang/Object")), Cond.fieldLink RJx4a65c 9 "java/util/ArrayList" "elementData" "[Ljava/lang/Object;", Cond.methodLink RX6 166 yX2_changesWire, Cond.instanceMethod yX2_changesWire, Cond.selects RX2 yX2_changesWire yX2_changesWire, Cond.initialized RX2]
def wsL_next_r3 : List Cond := [Cond.code yX2_changesWire cX2_changesWire 3 (some .boolean), Cond.fieldLink RX2 21 "TraceBook$Moment" "changes" "Ljava/util/ArrayList;", Cond.classLink RX2 41 "TraceBook$Change", Cond.methodLink RX2 29 yX2_indexFor, Cond.instanceMethod yX2_indexFor, Cond.selects RX2 yX2_indexFor yX2_indexFor, Cond.code yX2_indexFor cX2_indexFor 4 (some .int), Cond.methodLink RX2 33 yJx4a65c_size_8abf5, Cond.methodLink RX2 37 yJx4a65c_get_915e3, Cond.methodLink RX2 67 yX1_standsBefore, Cond.instanceMethod yX1_standsBefore, Cond.selects RX1 yX1_standsBefore yX1_standsBefore, Cond.initialized RX1, Cond.code yX1_standsBefore cX1_standsBefore 3 (some .boolean), Cond.fieldLink RX1 7 "TraceBook$Change" "wire" "I", Cond.fieldLink RX1 13 "TraceBook$Change" "element" "I"]
def wsL_next : List Cond := .codeWith yL_next cL_next 5 (some .int) [(0, 10, 13, 20), (0, 10, 17, 13)] :: ((wsL_next_r1 ++ (wsL_next_r2 ++ wsL_next_r3)) ++ wsX60 ++ wsX40 ++ wsX50 ++ wsJx4a65c0 ++ wsX20 ++ wsX10 ++ (vx_atS RX6 70 "java/lang/IndexOutOfBoundsException" ["java/lang/RuntimeException", "java/lang/Exception"]).filter goodWord ++ (vx_atS RX6 44 "java/lang/IllegalArgumentException" ["java/lang/RuntimeException", "java/lang/Exception"]).filter goodWord)
def wsL_byteAt : List Cond := .codeWith yL_byteAt cL_byteAt 4 (some .int) [(0, 9, 12, 20)] :: ([.classLink RL 20 "java/lang/IndexOutOfBoundsException", .methodLink RL 50 yX6_byteAt, .instanceMethod yX6_byteAt, .selects RX6 yX6_byteAt yX6_byteAt, .initialized RX6, .code yX6_byteAt cX6_byteAt 2 (some .int), .classLink RX6 66 "java/lang/IndexOutOfBoundsException", .initialized "java/lang/IndexOutOfBoundsException", .fieldLink RX6 26 "TraceBook" "row" "LTraceBook$Row;", .methodLink RX6 177 yX0_get, .instanceMethod yX0_get, .selects RX0 yX0_get yX0_get, .initialized RX0, .code yX0_get cX0_get 2 (some .int), .fieldLink RX0 15 "TraceBook$Bytes" "length" "I", .fieldLink RX0 9 "TraceBook$Bytes" "kept" "[B"] ++ wsX60 ++ wsX40 ++ wsX00 ++ (vx_atS RX6 70 "java/lang/IndexOutOfBoundsException" ["java/lang/RuntimeException", "java/lang/Exception"]).filter goodWord)
def wsL_feed_r1 : List Cond := [Cond.classLink RL 15 "java/lang/IllegalStateException", Cond.methodLink RL 53 yX6_feed, Cond.instanceMethod yX6_feed, Cond.selects RX6 yX6_feed yX6_feed, Cond.initialized RX6, Cond.code yX6_feed cX6_feed 3 (some .int), Cond.classLink RX6 51 "java/lang/IllegalStateException", Cond.initialized "java/lang/IllegalStateException", Cond.fieldLink RX6 19 "TraceBook" "tape" "LTraceBook$Bytes;", Cond.constant RX6 179 (59996), Cond.methodLink RX6 182 yX0_add, Cond.instanceMethod yX0_add, Cond.selects RX0 yX0_add yX0_add, Cond.initialized RX0, Cond.code yX0_add cX0_add 2 none, Cond.fieldLink RX0 15 "TraceBook$Bytes" "length" "I", Cond.fieldLink RX0 9 "TraceBook$Bytes" "kept" "[B", Cond.methodLink RX0 19 yJ7_copyOf_9075b, Cond.static yJ7_copyOf_9075b, Cond.initialized RJ7, Cond.code yJ7_copyOf_9075b cJ7_copyOf_9075b 3 (some (.array .byte)), Cond.methodLink RJ7 310 ⟨"[B", "clone", "()Ljava/lang/Object;"⟩, Cond.sameMethod "[B" "java/lang/Object" "clone" "()Ljava/lang/Object;", Cond.native ⟨"java/lang/Object", "clone", "()Ljava/lang/Object;"⟩]
def wsL_feed_r2 : List Cond := [Cond.instanceMethod ⟨"java/lang/Object", "clone", "()Ljava/lang/Object;"⟩, Cond.selects "[B" ⟨"[B", "clone", "()Ljava/lang/Object;"⟩ ⟨"java/lang/Object", "clone", "()Ljava/lang/Object;"⟩, Cond.classLink RJ7 311 "[B", Cond.arrayClass .byte, Cond.methodLink RJ7 304 Lib.Math.min.name, Cond.static Lib.Math.min.name, Cond.initialized "java/lang/Math", Cond.code Lib.Math.min.name Lib.Math.min.code 2 (some .int), Cond.methodLink RJ7 150 arraycopyName, Cond.native arraycopyName, Cond.static arraycopyName, Cond.initialized "java/lang/System"]
def wsL_feed : List Cond := .codeWith yL_feed cL_feed 4 (some .int) [(0, 9, 12, 15)] :: ((wsL_feed_r1 ++ wsL_feed_r2) ++ wsX60 ++ wsX00 ++ (vx_atS RX6 55 "java/lang/IllegalStateException" ["java/lang/RuntimeException", "java/lang/Exception"]).filter goodWord)
def wsL_end : List Cond := .codeWith yL_end cL_end 3 (some .int) [(0, 5, 8, 13)] :: ([.classLink RL 13 "java/lang/IllegalArgumentException", .methodLink RL 56 yX6_end, .instanceMethod yX6_end, .selects RX6 yX6_end yX6_end, .initialized RX6, .code yX6_end cX6_end 2 none, .classLink RX6 40 "java/lang/IllegalArgumentException", .initialized "java/lang/IllegalArgumentException", .fieldLink RX6 19 "TraceBook" "tape" "LTraceBook$Bytes;", .methodLink RX6 187 yX0_cut, .instanceMethod yX0_cut, .selects RX0 yX0_cut yX0_cut, .initialized RX0, .code yX0_cut cX0_cut 2 none, .fieldLink RX0 15 "TraceBook$Bytes" "length" "I"] ++ wsX60 ++ wsX00 ++ (vx_atS RX6 44 "java/lang/IllegalArgumentException" ["java/lang/RuntimeException", "java/lang/Exception"]).filter goodWord)
def wsL_law0_r1 : List Cond := [Cond.classLink RL 8 RX6, Cond.instantiable RX6 6, Cond.initialized RX6, Cond.classLink RL 61 RX7, Cond.instantiable RX7 33, Cond.initialized RX7, Cond.arrayClass .long, Cond.constantLong RL 80 (4294967295), Cond.methodLink RL 60 yX6_init, Cond.instanceMethod yX6_init, Cond.code yX6_init cX6_init 1 none, Cond.methodLink RX6 1 objectInit, Cond.instanceMethod objectInit, Cond.code objectInit ⟨#[0xb1]⟩ 1 none, Cond.classLink RX6 7 RX5, Cond.instantiable RX5 2, Cond.initialized RX5, Cond.fieldLink RX6 10 "TraceBook" "allWires" "LTraceBook$Wires;", Cond.classLink RX6 16 RX0, Cond.instantiable RX0 2, Cond.initialized RX0, Cond.fieldLink RX6 19 "TraceBook" "tape" "LTraceBook$Bytes;", Cond.classLink RX6 23 RX4, Cond.instantiable RX4 3]
def wsL_law0_r2 : List Cond := [Cond.initialized RX4, Cond.fieldLink RX6 26 "TraceBook" "row" "LTraceBook$Row;", Cond.fieldLink RX6 30 "TraceBook" "spareRow" "LTraceBook$Row;", Cond.fieldLink RX6 33 "TraceBook" "latest" "LTraceBook$Moment;", Cond.fieldLink RX6 37 "TraceBook" "openMoment" "LTraceBook$Moment;", Cond.methodLink RX6 9 yX5_init, Cond.instanceMethod yX5_init, Cond.code yX5_init cX5_init 1 none, Cond.methodLink RX5 3 objectInit, Cond.arrayClass .int, Cond.fieldLink RX5 9 "TraceBook$Wires" "widths" "[I", Cond.fieldLink RX5 15 "TraceBook$Wires" "count" "I", Cond.methodLink RX6 18 yX0_init, Cond.instanceMethod yX0_init, Cond.code yX0_init cX0_init 1 none, Cond.methodLink RX0 3 objectInit, Cond.arrayClass .byte, Cond.fieldLink RX0 9 "TraceBook$Bytes" "kept" "[B", Cond.fieldLink RX0 15 "TraceBook$Bytes" "length" "I", Cond.methodLink RX6 25 yX4_init, Cond.instanceMethod yX4_init, Cond.code yX4_init cX4_init 1 none, Cond.methodLink RX4 3 objectInit, Cond.classLink RX4 9 RX0]
def wsL_law0_r3 : List Cond := [Cond.fieldLink RX4 12 "TraceBook$Row" "bytes" "LTraceBook$Bytes;", Cond.classLink RX4 18 RJx4a65c, Cond.instantiable RJx4a65c 3, Cond.initialized RJx4a65c, Cond.fieldLink RX4 21 "TraceBook$Row" "moments" "Ljava/util/ArrayList;", Cond.fieldLink RX4 25 "TraceBook$Row" "values" "[B", Cond.methodLink RX4 11 yX0_init, Cond.methodLink RX4 20 yJx4a65c_init_da8c8, Cond.instanceMethod yJx4a65c_init_da8c8, Cond.code yJx4a65c_init_da8c8 cJx4a65c_init_da8c8 1 none, Cond.fieldLink RJx4a65c 39 "java/util/ArrayList" "DEFAULTCAPACITY_EMPTY_ELEMENTDATA" "[Ljava/lang/Object;", Cond.fieldLink RJx4a65c 9 "java/util/ArrayList" "elementData" "[Ljava/lang/Object;", Cond.methodLink RJx4a65c 1 yJxc12de_init_da8c8, Cond.instanceMethod yJxc12de_init_da8c8, Cond.initialized RJxc12de, Cond.code yJxc12de_init_da8c8 cJxc12de_init_da8c8 1 none, Cond.fieldLink RJxc12de 7 "java/util/AbstractList" "modCount" "I", Cond.methodLink RJxc12de 1 yJxa1e45_init_da8c8, Cond.instanceMethod yJxa1e45_init_da8c8, Cond.initialized RJxa1e45, Cond.code yJxa1e45_init_da8c8 cJxa1e45_init_da8c8 1 none, Cond.methodLink RJxa1e45 1 objectInit, Cond.methodLink RL 63 yX7_init, Cond.instanceMethod yX7_init]
def wsL_law0_r4 : List Cond := [Cond.code yX7_init cX7_init 1 none, Cond.methodLink RX7 1 objectInit, Cond.fieldLink RX7 7 "TraceBookModel" "widths" "[I", Cond.fieldLink RX7 13 "TraceBookModel" "settled" "[I", Cond.fieldLink RX7 16 "TraceBookModel" "now" "[I", Cond.fieldLink RX7 19 "TraceBookModel" "times" "[J", Cond.fieldLink RX7 23 "TraceBookModel" "steps" "[J", Cond.fieldLink RX7 26 "TraceBookModel" "begins" "[I", Cond.fieldLink RX7 29 "TraceBookModel" "momentOf" "[I", Cond.fieldLink RX7 32 "TraceBookModel" "placeOf" "[I", Cond.fieldLink RX7 35 "TraceBookModel" "was" "[I", Cond.fieldLink RX7 38 "TraceBookModel" "becomes" "[I", Cond.constant RX7 41 (60000), Cond.fieldLink RX7 42 "TraceBookModel" "row" "[I", Cond.fieldLink RX7 45 "TraceBookModel" "tape" "[I", Cond.fieldLink RX7 48 "TraceBookModel" "seen" "[I", Cond.fieldLink RX7 51 "TraceBookModel" "readTimes" "[J", Cond.fieldLink RX7 54 "TraceBookModel" "readSteps" "[J", Cond.fieldLink RX7 57 "TraceBookModel" "readMany" "[I", Cond.fieldLink RX7 60 "TraceBookModel" "readPlace" "[I", Cond.fieldLink RX7 63 "TraceBookModel" "readValue" "[I", Cond.methodLink RL 64 yL_wire, Cond.static yL_wire, Cond.initialized RL]
def wsL_law0_r5 : List Cond := [Cond.codeWith yL_wire cL_wire 4 (some .int) [(0, 9, 12, 13), (0, 9, 15, 15)], Cond.classLink RL 13 "java/lang/IllegalArgumentException", Cond.classLink RL 15 "java/lang/IllegalStateException", Cond.methodLink RL 7 yX6_wire, Cond.instanceMethod yX6_wire, Cond.selects RX6 yX6_wire yX6_wire, Cond.code yX6_wire cX6_wire 2 (some .int), Cond.classLink RX6 40 "java/lang/IllegalArgumentException", Cond.initialized "java/lang/IllegalArgumentException", Cond.classLink RX6 51 "java/lang/IllegalStateException", Cond.initialized "java/lang/IllegalStateException", Cond.methodLink RX6 58 yX5_add, Cond.instanceMethod yX5_add, Cond.selects RX5 yX5_add yX5_add, Cond.code yX5_add cX5_add 2 (some .int), Cond.methodLink RL 69 yX7_wire, Cond.instanceMethod yX7_wire, Cond.selects RX7 yX7_wire yX7_wire, Cond.code yX7_wire cX7_wire 3 (some .int), Cond.fieldLink RX7 70 "TraceBookModel" "wires" "I", Cond.fieldLink RX7 73 "TraceBookModel" "some" "Z", Cond.fieldLink RX7 66 "TraceBookModel" "code" "I", Cond.methodLink RL 70 yX7_thrown, Cond.instanceMethod yX7_thrown]
def wsL_law0_r6 : List Cond := [Cond.selects RX7 yX7_thrown yX7_thrown, Cond.code yX7_thrown cX7_thrown 1 (some .int), Cond.methodLink RL 73 yX6_wires, Cond.instanceMethod yX6_wires, Cond.selects RX6 yX6_wires yX6_wires, Cond.code yX6_wires cX6_wires 1 (some .int), Cond.methodLink RL 76 yX7_wires, Cond.instanceMethod yX7_wires, Cond.selects RX7 yX7_wires yX7_wires, Cond.code yX7_wires cX7_wires 1 (some .int), Cond.methodLink RL 77 yL_width, Cond.static yL_width, Cond.codeWith yL_width cL_width 4 (some .int) [(0, 9, 12, 20)], Cond.classLink RL 20 "java/lang/IndexOutOfBoundsException", Cond.methodLink RL 17 yX6_width, Cond.instanceMethod yX6_width, Cond.selects RX6 yX6_width yX6_width, Cond.code yX6_width cX6_width 2 (some .int), Cond.classLink RX6 66 "java/lang/IndexOutOfBoundsException", Cond.initialized "java/lang/IndexOutOfBoundsException", Cond.methodLink RX6 62 yX5_has, Cond.instanceMethod yX5_has, Cond.selects RX5 yX5_has yX5_has, Cond.code yX5_has cX5_has 2 (some .boolean)]
def wsL_law0_r7 : List Cond := [Cond.methodLink RX6 71 yX5_widthOf, Cond.instanceMethod yX5_widthOf, Cond.selects RX5 yX5_widthOf yX5_widthOf, Cond.code yX5_widthOf cX5_widthOf 2 (some .int), Cond.methodLink RX5 19 yX5_has, Cond.methodLink RL 79 yX7_width, Cond.instanceMethod yX7_width, Cond.selects RX7 yX7_width yX7_width, Cond.code yX7_width cX7_width 2 (some .int), Cond.methodLink RX7 77 yX7_none, Cond.instanceMethod yX7_none, Cond.selects RX7 yX7_none yX7_none, Cond.code yX7_none cX7_none 2 (some .boolean), Cond.methodLink RL 82 yL_open, Cond.static yL_open, Cond.codeWith yL_open cL_open 6 (some .int) [(0, 6, 9, 13), (0, 6, 13, 15)], Cond.methodLink RL 22 yX6_open, Cond.instanceMethod yX6_open, Cond.selects RX6 yX6_open yX6_open, Cond.code yX6_open cX6_open 6 none, Cond.constantLong RX6 74 (1152921504606846975), Cond.classLink RX6 78 RX2, Cond.instantiable RX2 4, Cond.initialized RX2]
def wsL_law0_r8 : List Cond := [Cond.methodLink RX6 80 yX2_init, Cond.instanceMethod yX2_init, Cond.code yX2_init cX2_init 5 none, Cond.methodLink RX2 3 objectInit, Cond.fieldLink RX2 9 "TraceBook$Moment" "time" "J", Cond.fieldLink RX2 15 "TraceBook$Moment" "step" "J", Cond.classLink RX2 18 RJx4a65c, Cond.fieldLink RX2 21 "TraceBook$Moment" "changes" "Ljava/util/ArrayList;", Cond.fieldLink RX2 25 "TraceBook$Moment" "place" "I", Cond.methodLink RX2 20 yJx4a65c_init_da8c8, Cond.methodLink RX6 90 yX2_isLaterThan, Cond.instanceMethod yX2_isLaterThan, Cond.selects RX2 yX2_isLaterThan yX2_isLaterThan, Cond.code yX2_isLaterThan cX2_isLaterThan 5 (some .boolean), Cond.methodLink RX6 96 yX6_closeOpenMoment, Cond.instanceMethod yX6_closeOpenMoment, Cond.selects RX6 yX6_closeOpenMoment yX6_closeOpenMoment, Cond.code yX6_closeOpenMoment cX6_closeOpenMoment 1 (some .boolean), Cond.methodLink RX6 208 yJx4a65c_isEmpty_aae02, Cond.instanceMethod yJx4a65c_isEmpty_aae02, Cond.selects RJx4a65c yJx4a65c_isEmpty_aae02 yJx4a65c_isEmpty_aae02, Cond.code yJx4a65c_isEmpty_aae02 cJx4a65c_isEmpty_aae02 1 (some .boolean), Cond.fieldLink RJx4a65c 48 "java/util/ArrayList" "size" "I", Cond.methodLink RX6 211 yX4_append]
def wsL_law0_r9 : List Cond := [Cond.instanceMethod yX4_append, Cond.selects RX4 yX4_append yX4_append, Cond.code yX4_append cX4_append 4 (some .boolean), Cond.constant RX4 85 (60000), Cond.classLink RX4 96 "TraceBook$Change", Cond.methodLink RX4 81 yX4_writeMoment, Cond.instanceMethod yX4_writeMoment, Cond.selects RX4 yX4_writeMoment yX4_writeMoment, Cond.code yX4_writeMoment cX4_writeMoment 7 none, Cond.constantLong RX4 106 (2), Cond.methodLink RX4 102 yX4_lastTime, Cond.instanceMethod yX4_lastTime, Cond.selects RX4 yX4_lastTime yX4_lastTime, Cond.code yX4_lastTime cX4_lastTime 2 (some .long), Cond.methodLink RX4 56 yX4_lastMoment, Cond.instanceMethod yX4_lastMoment, Cond.selects RX4 yX4_lastMoment yX4_lastMoment, Cond.code yX4_lastMoment cX4_lastMoment 1 (some (.object "TraceBook$Moment")), Cond.classLink RX4 54 "TraceBook$Moment", Cond.methodLink RX4 42 yJx4a65c_isEmpty_aae02, Cond.methodLink RX4 46 yJx4a65c_size_8abf5, Cond.instanceMethod yJx4a65c_size_8abf5, Cond.selects RJx4a65c yJx4a65c_size_8abf5 yJx4a65c_size_8abf5, Cond.code yJx4a65c_size_8abf5 cJx4a65c_size_8abf5 1 (some .int)]
def wsL_law0_r10 : List Cond := [Cond.methodLink RX4 50 yJx4a65c_get_915e3, Cond.instanceMethod yJx4a65c_get_915e3, Cond.selects RJx4a65c yJx4a65c_get_915e3 yJx4a65c_get_915e3, Cond.code yJx4a65c_get_915e3 cJx4a65c_get_915e3 2 (some (.object "java/lang/Object")), Cond.methodLink RJx4a65c 118 yJ15_checkIndex_7cf53, Cond.static yJ15_checkIndex_7cf53, Cond.initialized RJ15, Cond.code yJ15_checkIndex_7cf53 cJ15_checkIndex_7cf53 2 (some .int), Cond.methodLink RJ15 105 yJ3_checkIndex_8e157, Cond.static yJ3_checkIndex_8e157, Cond.initialized RJ3, Cond.code yJ3_checkIndex_8e157 cJ3_checkIndex_8e157 3 (some .int), Cond.methodLink RJx4a65c 123 yJx4a65c_elementData_915e3, Cond.instanceMethod yJx4a65c_elementData_915e3, Cond.selects RJx4a65c yJx4a65c_elementData_915e3 yJx4a65c_elementData_915e3, Cond.code yJx4a65c_elementData_915e3 cJx4a65c_elementData_915e3 2 (some (.object "java/lang/Object")), Cond.methodLink RX4 108 yX4_lastStep, Cond.instanceMethod yX4_lastStep, Cond.selects RX4 yX4_lastStep yX4_lastStep, Cond.code yX4_lastStep cX4_lastStep 2 (some .long), Cond.constantLong RX4 64 (-1), Cond.methodLink RX4 111 yX0_addCount, Cond.instanceMethod yX0_addCount, Cond.selects RX0 yX0_addCount yX0_addCount]
def wsL_law0_r11 : List Cond := [Cond.code yX0_addCount cX0_addCount 6 none, Cond.constantLong RX0 25 (127), Cond.methodLink RX0 27 yX0_add, Cond.instanceMethod yX0_add, Cond.selects RX0 yX0_add yX0_add, Cond.code yX0_add cX0_add 2 none, Cond.methodLink RX0 19 yJ7_copyOf_9075b, Cond.static yJ7_copyOf_9075b, Cond.initialized RJ7, Cond.code yJ7_copyOf_9075b cJ7_copyOf_9075b 3 (some (.array .byte)), Cond.methodLink RJ7 310 ⟨"[B", "clone", "()Ljava/lang/Object;"⟩, Cond.sameMethod "[B" "java/lang/Object" "clone" "()Ljava/lang/Object;", Cond.native ⟨"java/lang/Object", "clone", "()Ljava/lang/Object;"⟩, Cond.instanceMethod ⟨"java/lang/Object", "clone", "()Ljava/lang/Object;"⟩, Cond.selects "[B" ⟨"[B", "clone", "()Ljava/lang/Object;"⟩ ⟨"java/lang/Object", "clone", "()Ljava/lang/Object;"⟩, Cond.classLink RJ7 311 "[B", Cond.methodLink RJ7 304 Lib.Math.min.name, Cond.static Lib.Math.min.name, Cond.initialized "java/lang/Math", Cond.code Lib.Math.min.name Lib.Math.min.code 2 (some .int), Cond.methodLink RJ7 150 arraycopyName, Cond.native arraycopyName, Cond.static arraycopyName, Cond.initialized "java/lang/System"]
def wsL_law0_r12 : List Cond := [Cond.methodLink RX4 29 yX0_cut, Cond.instanceMethod yX0_cut, Cond.selects RX0 yX0_cut yX0_cut, Cond.code yX0_cut cX0_cut 2 none, Cond.methodLink RX4 89 yJx4a65c_add_9ea2d, Cond.instanceMethod yJx4a65c_add_9ea2d, Cond.selects RJx4a65c yJx4a65c_add_9ea2d yJx4a65c_add_9ea2d, Cond.code yJx4a65c_add_9ea2d cJx4a65c_add_9ea2d 2 (some .boolean), Cond.fieldLink RJx4a65c 63 "java/util/ArrayList" "modCount" "I", Cond.sameField "java/util/ArrayList" "java/util/AbstractList" "modCount" "I", Cond.methodLink RJx4a65c 131 yJx4a65c_add_72be8, Cond.instanceMethod yJx4a65c_add_72be8, Cond.selects RJx4a65c yJx4a65c_add_72be8 yJx4a65c_add_72be8, Cond.code yJx4a65c_add_72be8 cJx4a65c_add_72be8 4 none, Cond.methodLink RJx4a65c 129 yJx4a65c_grow_d5877, Cond.instanceMethod yJx4a65c_grow_d5877, Cond.selects RJx4a65c yJx4a65c_grow_d5877 yJx4a65c_grow_d5877, Cond.code yJx4a65c_grow_d5877 cJx4a65c_grow_d5877 1 (some (.array (.object "java/lang/Object"))), Cond.methodLink RJx4a65c 69 yJx4a65c_grow_92f84, Cond.instanceMethod yJx4a65c_grow_92f84, Cond.selects RJx4a65c yJx4a65c_grow_92f84 yJx4a65c_grow_92f84, Cond.code yJx4a65c_grow_92f84 cJx4a65c_grow_92f84 4 (some (.array (.object "java/lang/Object"))), Cond.methodLink RJx4a65c 79 Lib.Math.max.name, Cond.static Lib.Math.max.name]
def wsL_law0_r13 : List Cond := [Cond.code Lib.Math.max.name Lib.Math.max.code 2 (some .int), Cond.classLink RJx4a65c 7 "java/lang/Object", Cond.methodLink RJx4a65c 73 yJ8_newLength_cabcc, Cond.static yJ8_newLength_cabcc, Cond.initialized RJ8, Cond.code yJ8_newLength_cabcc cJ8_newLength_cabcc 4 (some .int), Cond.methodLink RJ8 194 Lib.Math.max.name, Cond.constant RJ8 200 (2147483639), Cond.methodLink RJ8 201 yJ8_hugeLength_7cf53, Cond.static yJ8_hugeLength_7cf53, Cond.code yJ8_hugeLength_7cf53 cJ8_hugeLength_7cf53 3 (some .int), Cond.methodLink RJx4a65c 66 yJ7_copyOf_1904c, Cond.static yJ7_copyOf_1904c, Cond.code yJ7_copyOf_1904c cJ7_copyOf_1904c 2 (some (.array (.object "java/lang/Object"))), Cond.methodLink RJ7 86 ⟨"java/lang/Object", "getClass", "()Ljava/lang/Class;"⟩, Cond.selects "[Ljava/lang/Object;" ⟨"java/lang/Object", "getClass", "()Ljava/lang/Class;"⟩ ⟨"java/lang/Object", "getClass", "()Ljava/lang/Class;"⟩, Cond.instanceMethod ⟨"java/lang/Object", "getClass", "()Ljava/lang/Class;"⟩, Cond.native ⟨"java/lang/Object", "getClass", "()Ljava/lang/Class;"⟩, Cond.methodLink RJ7 300 yJ7_copyOf_6403c, Cond.static yJ7_copyOf_6403c, Cond.code yJ7_copyOf_6403c cJ7_copyOf_6403c 4 (some (.array (.object "java/lang/Object"))), Cond.classLink RJ7 110 "[Ljava/lang/Object;", Cond.classLink RJ7 2 "java/lang/Object", Cond.methodLink RX4 98 yX4_keepValue]
def wsL_law0_r14 : List Cond := [Cond.instanceMethod yX4_keepValue, Cond.selects RX4 yX4_keepValue yX4_keepValue, Cond.code yX4_keepValue cX4_keepValue 3 none, Cond.methodLink RX4 124 Lib.Math.max.name, Cond.methodLink RX4 130 yJ7_copyOf_9075b, Cond.methodLink RL 85 yX7_open, Cond.instanceMethod yX7_open, Cond.selects RX7 yX7_open yX7_open, Cond.code yX7_open cX7_open 6 none, Cond.constantLong RX7 136 (1152921504606846976), Cond.fieldLink RX7 93 "TraceBookModel" "time" "J", Cond.fieldLink RX7 103 "TraceBookModel" "step" "J", Cond.fieldLink RX7 138 "TraceBookModel" "open" "Z", Cond.methodLink RX7 141 yX7_finish, Cond.instanceMethod yX7_finish, Cond.selects RX7 yX7_finish yX7_finish, Cond.code yX7_finish cX7_finish 6 (some .int), Cond.fieldLink RX7 85 "TraceBookModel" "size" "I", Cond.fieldLink RX7 88 "TraceBookModel" "moments" "I", Cond.fieldLink RX7 133 "TraceBookModel" "changes" "I", Cond.methodLink RX7 114 yX7_many, Cond.instanceMethod yX7_many, Cond.selects RX7 yX7_many yX7_many, Cond.code yX7_many cX7_many 3 (some .int)]
def wsL_law0_r15 : List Cond := [Cond.methodLink RX7 109 yX7_differs, Cond.instanceMethod yX7_differs, Cond.selects RX7 yX7_differs yX7_differs, Cond.code yX7_differs cX7_differs 2 (some .boolean), Cond.methodLink RX7 118 yX7_head, Cond.instanceMethod yX7_head, Cond.selects RX7 yX7_head yX7_head, Cond.code yX7_head cX7_head 1 (some .long), Cond.constantLong RX7 101 (2), Cond.methodLink RX7 97 yX7_lastTime, Cond.instanceMethod yX7_lastTime, Cond.selects RX7 yX7_lastTime yX7_lastTime, Cond.code yX7_lastTime cX7_lastTime 1 (some .long), Cond.methodLink RX7 106 yX7_lastStep, Cond.instanceMethod yX7_lastStep, Cond.selects RX7 yX7_lastStep yX7_lastStep, Cond.code yX7_lastStep cX7_lastStep 1 (some .long), Cond.constantLong RX7 91 (-1), Cond.methodLink RX7 121 yX7_bytesOf, Cond.static yX7_bytesOf, Cond.code yX7_bytesOf cX7_bytesOf 5 (some .int), Cond.constantLong RX7 81 (128), Cond.methodLink RX7 125 yX7_codeOf, Cond.static yX7_codeOf]
def wsL_law0_r16 : List Cond := [Cond.code yX7_codeOf cX7_codeOf 2 (some .long), Cond.constantLong RX7 112 (16), Cond.methodLink RX7 129 yX7_write, Cond.instanceMethod yX7_write, Cond.selects RX7 yX7_write yX7_write, Cond.code yX7_write cX7_write 5 none, Cond.constantLong RX7 83 (127), Cond.methodLink RL 86 yL_change, Cond.static yL_change, Cond.codeWith yL_change cL_change 6 (some .int) [(0, 19, 22, 20), (0, 19, 26, 13), (0, 19, 30, 15)], Cond.methodLink RL 26 yX6_change, Cond.instanceMethod yX6_change, Cond.selects RX6 yX6_change yX6_change, Cond.code yX6_change cX6_change 4 (some .boolean), Cond.methodLink RX6 102 yX5_hasElement, Cond.instanceMethod yX5_hasElement, Cond.selects RX5 yX5_hasElement yX5_hasElement, Cond.code yX5_hasElement cX5_hasElement 3 (some .boolean), Cond.methodLink RX5 23 yX5_widthOf, Cond.methodLink RX6 112 yX4_valueOf, Cond.instanceMethod yX4_valueOf, Cond.selects RX4 yX4_valueOf yX4_valueOf, Cond.code yX4_valueOf cX4_valueOf 4 (some .int), Cond.methodLink RX6 116 yX2_put]
def wsL_law0_r17 : List Cond := [Cond.instanceMethod yX2_put, Cond.selects RX2 yX2_put yX2_put, Cond.code yX2_put cX2_put 8 (some .boolean), Cond.classLink RX2 41 "TraceBook$Change", Cond.classLink RX2 41 RX1, Cond.instantiable RX1 4, Cond.initialized RX1, Cond.methodLink RX2 29 yX2_indexFor, Cond.instanceMethod yX2_indexFor, Cond.selects RX2 yX2_indexFor yX2_indexFor, Cond.code yX2_indexFor cX2_indexFor 4 (some .int), Cond.methodLink RX2 33 yJx4a65c_size_8abf5, Cond.methodLink RX2 37 yJx4a65c_get_915e3, Cond.methodLink RX2 67 yX1_standsBefore, Cond.instanceMethod yX1_standsBefore, Cond.selects RX1 yX1_standsBefore yX1_standsBefore, Cond.code yX1_standsBefore cX1_standsBefore 3 (some .boolean), Cond.fieldLink RX1 7 "TraceBook$Change" "wire" "I", Cond.fieldLink RX1 13 "TraceBook$Change" "element" "I", Cond.methodLink RX2 46 yX2_isChangeOf, Cond.instanceMethod yX2_isChangeOf, Cond.selects RX2 yX2_isChangeOf yX2_isChangeOf, Cond.code yX2_isChangeOf cX2_isChangeOf 4 (some .boolean), Cond.methodLink RX2 71 yX1_isOf]
def wsL_law0_r18 : List Cond := [Cond.instanceMethod yX1_isOf, Cond.selects RX1 yX1_isOf yX1_isOf, Cond.code yX1_isOf cX1_isOf 3 (some .boolean), Cond.methodLink RX2 53 yX1_init, Cond.instanceMethod yX1_init, Cond.code yX1_init cX1_init 5 none, Cond.methodLink RX1 1 objectInit, Cond.fieldLink RX1 16 "TraceBook$Change" "value" "I", Cond.fieldLink RX1 19 "TraceBook$Change" "before" "I", Cond.methodLink RX2 56 yJx4a65c_add_7a177, Cond.instanceMethod yJx4a65c_add_7a177, Cond.selects RJx4a65c yJx4a65c_add_7a177 yJx4a65c_add_7a177, Cond.code yJx4a65c_add_7a177 cJx4a65c_add_7a177 5 none, Cond.methodLink RJx4a65c 112 arraycopyName, Cond.methodLink RJx4a65c 135 yJx4a65c_rangeCheckForAdd_d00df, Cond.instanceMethod yJx4a65c_rangeCheckForAdd_d00df, Cond.selects RJx4a65c yJx4a65c_rangeCheckForAdd_d00df yJx4a65c_rangeCheckForAdd_d00df, Cond.code yJx4a65c_rangeCheckForAdd_d00df cJx4a65c_rangeCheckForAdd_d00df 2 none, Cond.methodLink RX2 60 yJx4a65c_remove_915e3, Cond.instanceMethod yJx4a65c_remove_915e3, Cond.selects RJx4a65c yJx4a65c_remove_915e3 yJx4a65c_remove_915e3, Cond.code yJx4a65c_remove_915e3 cJx4a65c_remove_915e3 4 (some (.object "java/lang/Object")), Cond.methodLink RJx4a65c 144 yJx4a65c_fastRemove_b59b0, Cond.instanceMethod yJx4a65c_fastRemove_b59b0]
def wsL_law0_r19 : List Cond := [Cond.selects RJx4a65c yJx4a65c_fastRemove_b59b0 yJx4a65c_fastRemove_b59b0, Cond.code yJx4a65c_fastRemove_b59b0 cJx4a65c_fastRemove_b59b0 4 none, Cond.methodLink RX2 63 yJx4a65c_set_bcc79, Cond.instanceMethod yJx4a65c_set_bcc79, Cond.selects RJx4a65c yJx4a65c_set_bcc79 yJx4a65c_set_bcc79, Cond.code yJx4a65c_set_bcc79 cJx4a65c_set_bcc79 4 (some (.object "java/lang/Object")), Cond.methodLink RL 89 yX7_change, Cond.instanceMethod yX7_change, Cond.selects RX7 yX7_change yX7_change, Cond.code yX7_change cX7_change 5 (some .boolean), Cond.methodLink RL 90 yL_close, Cond.static yL_close, Cond.codeWith yL_close cL_close 3 (some .int) [(0, 8, 11, 15)], Cond.methodLink RL 30 yX6_close, Cond.instanceMethod yX6_close, Cond.selects RX6 yX6_close yX6_close, Cond.code yX6_close cX6_close 2 (some .int), Cond.methodLink RX6 124 yJx4a65c_size_8abf5, Cond.methodLink RL 93 yX7_close, Cond.instanceMethod yX7_close, Cond.selects RX7 yX7_close yX7_close, Cond.code yX7_close cX7_close 2 (some .int), Cond.methodLink RL 94 yX6_moments, Cond.instanceMethod yX6_moments]
def wsL_law0_r20 : List Cond := [Cond.selects RX6 yX6_moments yX6_moments, Cond.code yX6_moments cX6_moments 1 (some .int), Cond.methodLink RL 97 yX7_moments, Cond.instanceMethod yX7_moments, Cond.selects RX7 yX7_moments yX7_moments, Cond.code yX7_moments cX7_moments 1 (some .int), Cond.methodLink RL 98 yL_moment, Cond.static yL_moment, Cond.codeWith yL_moment cL_moment 5 (some .int) [(0, 9, 12, 20), (0, 9, 16, 13)], Cond.methodLink RL 34 yX6_moment, Cond.instanceMethod yX6_moment, Cond.selects RX6 yX6_moment yX6_moment, Cond.code yX6_moment cX6_moment 4 (some .long), Cond.classLink RX6 78 "TraceBook$Moment", Cond.methodLink RX6 135 yJx4a65c_get_915e3, Cond.methodLink RL 101 yX7_moment, Cond.instanceMethod yX7_moment, Cond.selects RX7 yX7_moment yX7_moment, Cond.code yX7_moment cX7_moment 3 (some .long), Cond.methodLink RX7 144 yX7_changesOf, Cond.instanceMethod yX7_changesOf, Cond.selects RX7 yX7_changesOf yX7_changesOf, Cond.code yX7_changesOf cX7_changesOf 4 (some .int), Cond.methodLink RL 102 yL_changed]
def wsL_law0_r21 : List Cond := [Cond.static yL_changed, Cond.codeWith yL_changed cL_changed 6 (some .int) [(0, 12, 15, 20), (0, 12, 19, 13)], Cond.methodLink RL 38 yX6_changed, Cond.instanceMethod yX6_changed, Cond.selects RX6 yX6_changed yX6_changed, Cond.code yX6_changed cX6_changed 6 (some .int), Cond.classLink RX6 146 "TraceBook$Change", Cond.methodLink RL 104 yX7_changed, Cond.instanceMethod yX7_changed, Cond.selects RX7 yX7_changed yX7_changed, Cond.code yX7_changed cX7_changed 5 (some .int), Cond.methodLink RL 105 yL_at, Cond.static yL_at, Cond.codeWith yL_at cL_at 9 (some .int) [(0, 15, 18, 20)], Cond.methodLink RL 42 yX6_at, Cond.instanceMethod yX6_at, Cond.selects RX6 yX6_at yX6_at, Cond.code yX6_at cX6_at 7 (some .int), Cond.methodLink RX6 160 yX4_valueBehind, Cond.instanceMethod yX4_valueBehind, Cond.selects RX4 yX4_valueBehind yX4_valueBehind, Cond.code yX4_valueBehind cX4_valueBehind 10 (some .int), Cond.methodLink RX4 69 yX2_isLaterThan, Cond.methodLink RX4 73 yX2_valueBehind]
def wsL_law0_r22 : List Cond := [Cond.instanceMethod yX2_valueBehind, Cond.selects RX2 yX2_valueBehind yX2_valueBehind, Cond.code yX2_valueBehind cX2_valueBehind 5 (some .int), Cond.methodLink RL 108 yX7_at, Cond.instanceMethod yX7_at, Cond.selects RX7 yX7_at yX7_at, Cond.code yX7_at cX7_at 11 (some .int), Cond.methodLink RL 109 yL_next, Cond.static yL_next, Cond.codeWith yL_next cL_next 5 (some .int) [(0, 10, 13, 20), (0, 10, 17, 13)], Cond.methodLink RL 46 yX6_next, Cond.instanceMethod yX6_next, Cond.selects RX6 yX6_next yX6_next, Cond.code yX6_next cX6_next 4 (some .int), Cond.methodLink RX6 166 yX2_changesWire, Cond.instanceMethod yX2_changesWire, Cond.selects RX2 yX2_changesWire yX2_changesWire, Cond.code yX2_changesWire cX2_changesWire 3 (some .boolean), Cond.methodLink RL 111 yX7_next, Cond.instanceMethod yX7_next, Cond.selects RX7 yX7_next yX7_next, Cond.code yX7_next cX7_next 5 (some .int), Cond.methodLink RL 112 yX6_size, Cond.instanceMethod yX6_size]
def wsL_law0_r23 : List Cond := [Cond.selects RX6 yX6_size yX6_size, Cond.code yX6_size cX6_size 1 (some .int), Cond.methodLink RL 115 yX7_size, Cond.instanceMethod yX7_size, Cond.selects RX7 yX7_size yX7_size, Cond.code yX7_size cX7_size 1 (some .int), Cond.methodLink RL 116 yL_byteAt, Cond.static yL_byteAt, Cond.codeWith yL_byteAt cL_byteAt 4 (some .int) [(0, 9, 12, 20)], Cond.methodLink RL 50 yX6_byteAt, Cond.instanceMethod yX6_byteAt, Cond.selects RX6 yX6_byteAt yX6_byteAt, Cond.code yX6_byteAt cX6_byteAt 2 (some .int), Cond.methodLink RX6 177 yX0_get, Cond.instanceMethod yX0_get, Cond.selects RX0 yX0_get yX0_get, Cond.code yX0_get cX0_get 2 (some .int), Cond.methodLink RL 118 yX7_byteAt, Cond.instanceMethod yX7_byteAt, Cond.selects RX7 yX7_byteAt yX7_byteAt, Cond.code yX7_byteAt cX7_byteAt 2 (some .int), Cond.methodLink RL 119 yL_feed, Cond.static yL_feed, Cond.codeWith yL_feed cL_feed 4 (some .int) [(0, 9, 12, 15)]]
def wsL_law0_r24 : List Cond := [Cond.methodLink RL 53 yX6_feed, Cond.instanceMethod yX6_feed, Cond.selects RX6 yX6_feed yX6_feed, Cond.code yX6_feed cX6_feed 3 (some .int), Cond.constant RX6 179 (59996), Cond.methodLink RX6 182 yX0_add, Cond.methodLink RL 121 yX7_feed, Cond.instanceMethod yX7_feed, Cond.selects RX7 yX7_feed yX7_feed, Cond.code yX7_feed cX7_feed 3 (some .int), Cond.fieldLink RX7 148 "TraceBookModel" "tapeSize" "I", Cond.methodLink RL 122 yL_end, Cond.static yL_end, Cond.codeWith yL_end cL_end 3 (some .int) [(0, 5, 8, 13)], Cond.methodLink RL 56 yX6_end, Cond.instanceMethod yX6_end, Cond.selects RX6 yX6_end yX6_end, Cond.code yX6_end cX6_end 2 none, Cond.methodLink RX6 187 yX0_cut, Cond.methodLink RL 125 yX7_end, Cond.instanceMethod yX7_end, Cond.selects RX7 yX7_end yX7_end, Cond.code yX7_end cX7_end 2 none, Cond.methodLink RL 126 yX6_load]
def wsL_law0_r25 : List Cond := [Cond.instanceMethod yX6_load, Cond.selects RX6 yX6_load yX6_load, Cond.code yX6_load cX6_load 3 (some .int), Cond.classLink RX6 193 RX3, Cond.instantiable RX3 5, Cond.initialized RX3, Cond.methodLink RX6 190 yX4_clear, Cond.instanceMethod yX4_clear, Cond.selects RX4 yX4_clear yX4_clear, Cond.code yX4_clear cX4_clear 1 none, Cond.methodLink RX4 33 yJx4a65c_clear_da8c8, Cond.instanceMethod yJx4a65c_clear_da8c8, Cond.selects RJx4a65c yJx4a65c_clear_da8c8 yJx4a65c_clear_da8c8, Cond.code yJx4a65c_clear_da8c8 cJx4a65c_clear_da8c8 4 none, Cond.methodLink RX4 36 yJ7_fill_031fb, Cond.static yJ7_fill_031fb, Cond.code yJ7_fill_031fb cJ7_fill_031fb 4 none, Cond.methodLink RX6 195 yX3_init, Cond.instanceMethod yX3_init, Cond.code yX3_init cX3_init 4 none, Cond.methodLink RX3 3 objectInit, Cond.fieldLink RX3 9 "TraceBook$Reader" "tape" "LTraceBook$Bytes;", Cond.fieldLink RX3 15 "TraceBook$Reader" "wires" "LTraceBook$Wires;", Cond.fieldLink RX3 19 "TraceBook$Reader" "row" "LTraceBook$Row;"]
def wsL_law0_r26 : List Cond := [Cond.fieldLink RX3 23 "TraceBook$Reader" "place" "I", Cond.fieldLink RX3 27 "TraceBook$Reader" "fault" "I", Cond.methodLink RX6 198 yX3_readRow, Cond.instanceMethod yX3_readRow, Cond.selects RX3 yX3_readRow yX3_readRow, Cond.code yX3_readRow cX3_readRow 3 (some .int), Cond.methodLink RX3 35 yX3_readMoment, Cond.instanceMethod yX3_readMoment, Cond.selects RX3 yX3_readMoment yX3_readMoment, Cond.code yX3_readMoment cX3_readMoment 16 (some (.object "TraceBook$Moment")), Cond.constantLong RX3 55 (1152921504606846975), Cond.constantLong RX3 61 (4611686018427387903), Cond.classLink RX3 63 RX2, Cond.methodLink RX3 45 yX3_readCount, Cond.instanceMethod yX3_readCount, Cond.selects RX3 yX3_readCount yX3_readCount, Cond.code yX3_readCount cX3_readCount 7 (some .long), Cond.constantLong RX3 120 (-1), Cond.constantLong RX3 124 (127), Cond.methodLink RX3 122 yX0_get, Cond.methodLink RX3 49 yX4_lastTime, Cond.methodLink RX3 52 yX4_lastStep, Cond.methodLink RX3 57 yX3_readCountWithin, Cond.instanceMethod yX3_readCountWithin]
def wsL_law0_r27 : List Cond := [Cond.selects RX3 yX3_readCountWithin yX3_readCountWithin, Cond.code yX3_readCountWithin cX3_readCountWithin 8 (some .long), Cond.methodLink RX3 65 yX2_init, Cond.methodLink RX3 72 yX3_readChange, Cond.instanceMethod yX3_readChange, Cond.selects RX3 yX3_readChange yX3_readChange, Cond.code yX3_readChange cX3_readChange 16 none, Cond.classLink RX3 90 "TraceBook$Change", Cond.constantLong RX3 103 (15), Cond.classLink RX3 90 RX1, Cond.methodLink RX3 76 yJx4a65c_isEmpty_aae02, Cond.methodLink RX3 82 yJx4a65c_size_8abf5, Cond.methodLink RX3 86 yJx4a65c_get_915e3, Cond.methodLink RX3 105 yX5_widthOf, Cond.methodLink RX3 109 yX4_valueOf, Cond.methodLink RX3 113 yX1_init, Cond.methodLink RX3 116 yJx4a65c_add_9ea2d, Cond.methodLink RX3 39 yX4_append, Cond.methodLink RX6 201 yX6_takeSpareRow, Cond.instanceMethod yX6_takeSpareRow, Cond.selects RX6 yX6_takeSpareRow yX6_takeSpareRow, Cond.code yX6_takeSpareRow cX6_takeSpareRow 2 none, Cond.methodLink RX6 204 yX4_lastMoment, Cond.methodLink RL 129 yX7_load]
def wsL_law0_r28 : List Cond := [Cond.instanceMethod yX7_load, Cond.selects RX7 yX7_load yX7_load, Cond.code yX7_load cX7_load 2 (some .int), Cond.fieldLink RX7 157 "TraceBookModel" "at" "I", Cond.fieldLink RX7 151 "TraceBookModel" "wrong" "I", Cond.fieldLink RX7 165 "TraceBookModel" "readMoments" "I", Cond.fieldLink RX7 173 "TraceBookModel" "readChanges" "I", Cond.methodLink RX7 176 yX7_readMoment, Cond.instanceMethod yX7_readMoment, Cond.selects RX7 yX7_readMoment yX7_readMoment, Cond.code yX7_readMoment cX7_readMoment 22 none, Cond.constantLong RX7 171 (64), Cond.methodLink RX7 168 yX7_count, Cond.instanceMethod yX7_count, Cond.selects RX7 yX7_count yX7_count, Cond.code yX7_count cX7_count 6 (some .long), Cond.fieldLink RX7 154 "TraceBookModel" "first" "I", Cond.constantLong RX7 163 (4611686018427387904), Cond.methodLink RX7 160 yX7_fail, Cond.instanceMethod yX7_fail, Cond.selects RX7 yX7_fail yX7_fail, Cond.code yX7_fail cX7_fail 1 none, Cond.methodLink RX7 179 yX7_again, Cond.instanceMethod yX7_again]
def wsL_law0_r29 : List Cond := [Cond.selects RX7 yX7_again yX7_again, Cond.code yX7_again cX7_again 4 none]
def wsL_law0 : List Cond := (wsL_law0_r1 ++ (wsL_law0_r2 ++ (wsL_law0_r3 ++ (wsL_law0_r4 ++ (wsL_law0_r5 ++ (wsL_law0_r6 ++ (wsL_law0_r7 ++ (wsL_law0_r8 ++ (wsL_law0_r9 ++ (wsL_law0_r10 ++ (wsL_law0_r11 ++ (wsL_law0_r12 ++ (wsL_law0_r13 ++ (wsL_law0_r14 ++ (wsL_law0_r15 ++ (wsL_law0_r16 ++ (wsL_law0_r17 ++ (wsL_law0_r18 ++ (wsL_law0_r19 ++ (wsL_law0_r20 ++ (wsL_law0_r21 ++ (wsL_law0_r22 ++ (wsL_law0_r23 ++ (wsL_law0_r24 ++ (wsL_law0_r25 ++ (wsL_law0_r26 ++ (wsL_law0_r27 ++ (wsL_law0_r28 ++ wsL_law0_r29)))))))))))))))))))))))))))) ++ wsX60 ++ wsX70 ++ wsX50 ++ wsX00 ++ wsX40 ++ wsJx4a65c0 ++ wsX20 ++ wsX10 ++ wsX30 ++ ([] : List Cond)
def wsL_law : List Cond := wsL_law0 ++ (vx_atS RX6 44 "java/lang/IllegalArgumentException" ["java/lang/RuntimeException", "java/lang/Exception"]).filter goodWord ++ (vx_atS RX6 55 "java/lang/IllegalStateException" ["java/lang/RuntimeException", "java/lang/Exception"]).filter goodWord ++ (vx_atS RX6 70 "java/lang/IndexOutOfBoundsException" ["java/lang/RuntimeException", "java/lang/Exception"]).filter goodWord
abbrev vwCl : List vw_C := [(RJ0, TJ0, 4), (RJ4, TJ4, 4), (RJx4a65c, TJx4a65c, 3), (RX0, TX0, 2), (RX1, TX1, 4), (RX2, TX2, 4), (RX3, TX3, 5), (RX4, TX4, 3), (RX5, TX5, 2), (RX6, TX6, 6), (RX7, TX7, 33)]
end
section
/-! numbers: an int or a long by an Int -/
def iI (z : Int) : Int32 := Int32.ofInt z
def lI (z : Int) : Int64 := Int64.ofInt z
abbrev R32 (z : Int) : Prop := -2147483648 ≤ z ∧ z < 2147483648
abbrev R64 (z : Int) : Prop := -9223372036854775808 ≤ z ∧ z < 9223372036854775808
theorem iI_of (x : Int32) : x = iI x.toInt := (Int32.ofInt_toInt x).symm
theorem lI_of (x : Int64) : x = lI x.toInt := (Int64.ofInt_toInt x).symm
theorem R32_of (x : Int32) : R32 x.toInt := ⟨Int32.le_toInt x, Int32.toInt_lt x⟩
theorem R64_of (x : Int64) : R64 x.toInt := ⟨Int64.le_toInt x, Int64.toInt_lt x⟩
theorem iI_t {z : Int} (h : R32 z) : (iI z).toInt = z := Int32.toInt_ofInt_of_le (by omega) (by omega)
theorem lI_t {z : Int} (h : R64 z) : (lI z).toInt = z := Int64.toInt_ofInt_of_le (by omega) (by omega)
theorem iI_add (a b : Int) : iI a + iI b = iI (a + b) := (Int32.ofInt_add a b).symm
theorem iI_sub (a b : Int) : iI a - iI b = iI (a - b) := (Int32.ofInt_sub a b).symm
theorem iI_mul (a b : Int) : iI a * iI b = iI (a * b) := (Int32.ofInt_mul a b).symm
theorem lI_add (a b : Int) : lI a + lI b = lI (a + b) := (Int64.ofInt_add a b).symm
theorem lI_sub (a b : Int) : lI a - lI b = lI (a - b) := (Int64.ofInt_sub a b).symm
theorem lI_mul (a b : Int) : lI a * lI b = lI (a * b) := (Int64.ofInt_mul a b).symm
theorem iI_le {a b : Int} (ha : R32 a) (hb : R32 b) : iI a ≤ iI b ↔ a ≤ b := by rw [Int32.le_iff_toInt_le, iI_t ha, iI_t hb]
theorem iI_lt {a b : Int} (ha : R32 a) (hb : R32 b) : iI a < iI b ↔ a < b := by rw [Int32.lt_iff_toInt_lt, iI_t ha, iI_t hb]
theorem iI_eq {a b : Int} (ha : R32 a) (hb : R32 b) : iI a = iI b ↔ a = b := by rw [← Int32.toInt_inj, iI_t ha, iI_t hb]
theorem lI_le {a b : Int} (ha : R64 a) (hb : R64 b) : lI a ≤ lI b ↔ a ≤ b := by rw [Int64.le_iff_toInt_le, lI_t ha, lI_t hb]
theorem lI_lt {a b : Int} (ha : R64 a) (hb : R64 b) : lI a < lI b ↔ a < b := by rw [Int64.lt_iff_toInt_lt, lI_t ha, lI_t hb]
theorem lI_eq {a b : Int} (ha : R64 a) (hb : R64 b) : lI a = lI b ↔ a = b := by rw [← Int64.toInt_inj, lI_t ha, lI_t hb]
theorem iI_0 : (0 : Int32) = iI 0 := rfl
theorem lI_0 : (0 : Int64) = lI 0 := rfl
theorem iI_div {a b : Int} (ha : R32 a) (h0 : 0 ≤ a) (hb : R32 b) (hb0 : 0 < b) : iI a / iI b = iI (a / b) := by
  have hd : a / b ≤ a := Int.ediv_le_self _ h0
  have hd0 : 0 ≤ a / b := Int.ediv_nonneg h0 (by omega)
  apply Int32.toInt.inj
  rw [Int32.toInt_div_of_ne_right _ _ (fun h => by have := congrArg Int32.toInt h; rw [iI_t hb] at this; change b = -1 at this; omega), iI_t ha, iI_t hb, iI_t ⟨by omega, by omega⟩, Int.tdiv_eq_ediv_of_nonneg h0]
theorem lI_div {a b : Int} (ha : R64 a) (h0 : 0 ≤ a) (hb : R64 b) (hb0 : 0 < b) : lI a / lI b = lI (a / b) := by
  have hd : a / b ≤ a := Int.ediv_le_self _ h0
  have hd0 : 0 ≤ a / b := Int.ediv_nonneg h0 (by omega)
  apply Int64.toInt.inj
  rw [Int64.toInt_div_of_ne_right _ _ (fun h => by have := congrArg Int64.toInt h; rw [lI_t hb] at this; change b = -1 at this; omega), lI_t ha, lI_t hb, lI_t ⟨by omega, by omega⟩, Int.tdiv_eq_ediv_of_nonneg h0]
theorem iI_rem {a b : Int} (ha : R32 a) (h0 : 0 ≤ a) (hb : R32 b) (hb0 : 0 < b) : iI a - iI a / iI b * iI b = iI (a % b) := by
  rw [iI_div ha h0 hb hb0, iI_mul, iI_sub, Int.mul_comm, Int.emod_def]
theorem lI_rem {a b : Int} (ha : R64 a) (h0 : 0 ≤ a) (hb : R64 b) (hb0 : 0 < b) : lI a - lI a / lI b * lI b = lI (a % b) := by
  rw [lI_div ha h0 hb hb0, lI_mul, lI_sub, Int.mul_comm, Int.emod_def]
theorem i2l_I {a : Int} (ha : R32 a) : (iI a).toInt64 = lI a := Int32.toInt64_ofInt (by show -2147483648 ≤ a; omega) (by show a ≤ 2147483647; omega)
theorem l2i_I (a : Int) : (lI a).toInt32 = iI a := Int64.toInt32_ofInt
theorem iI_clamp {a : Int} (ha : R32 a) : (iI a).toNatClampNeg = a.toNat := Int32.toNatClampNeg_ofInt_of_le (by omega) (by omega)
theorem iI_in {a n : Int} (ha : R32 a) (h0 : 0 ≤ a) (h : a < n) : vp_in (iI a) n.toNat := by
  rintro (h1 | h1)
  · have h2 := (iI_lt (b := 0) ha ⟨by omega, by omega⟩).mp h1
    omega
  · rw [iI_clamp ha] at h1
    omega
theorem iI_ne0 {b : Int} (hb : R32 b) (h : b ≠ 0) : ¬ iI b = 0 := fun q => h ((iI_eq (b := 0) hb ⟨by omega, by omega⟩).mp q)
theorem lI_ne0 {b : Int} (hb : R64 b) (h : b ≠ 0) : ¬ lI b = 0 := fun q => h ((lI_eq (b := 0) hb ⟨by omega, by omega⟩).mp q)
theorem iI_cat (x : Int32) : (Value.int x).category = 1 := rfl
/-! the world: what the cells above the base hold, by their addresses, each with a tag -/
abbrev Wd : Type := Nat → Option (Nat × va_E)
abbrev GG : Type := va_G × (ClassId × ClassId × ClassId × ClassId) × Nat × Heap × Nat
def gD (G : GG) : va_G := G.1
def gB (G : GG) : ClassId := G.2.1.1
def gI (G : GG) : ClassId := G.2.1.2.1
def gJ (G : GG) : ClassId := G.2.1.2.2.1
def gO (G : GG) : ClassId := G.2.1.2.2.2
def gN (G : GG) : Nat := G.2.2.1
def gH (G : GG) : Heap := G.2.2.2.1
def gE (G : GG) : Nat := G.2.2.2.2
def gT (G : GG) : List (ClassId × FieldType) := [(gB G, .byte), (gI G, .int), (gJ G, .long), (gO G, .object "java/lang/Object")]
def gF (G : GG) : Addr → Prop := fun a => gN G ≤ a
/-- casts that many methods need -/
def kkC : List (String × String) := [("TraceBook$Change", "java/lang/Object"), ("TraceBook$Moment", "java/lang/Object")]
/-- what the machine's tables and statics say, the same at every moment of a run -/
def KK (G : GG) (U : State) : Prop := va_K (gD G) vwCl (gT G) U ∧
  (va_Z "java/util/ArrayList" "DEFAULTCAPACITY_EMPTY_ELEMENTDATA" "[Ljava/lang/Object;" (.ref (gE G)) (gF G) U (gH G) ∧ gE G < gN G ∧ ∃ f, (gH G)[gE G]? = some (vp_cell (gO G) (0, .inr (.inr (.inr (.inr f)))))) ∧
  (vx_Zq Bundle.tN "UNASSIGNED_STACK" Bundle.steD (gF G) U (gH G) ∧ vx_Zq Bundle.tN "SUPPRESSED_SENTINEL" Bundle.listD (gF G) U (gH G)) ∧ gN G = (gH G).size ∧ ∀ q ∈ kkC, va_Nw (.castable q.1 q.2) U
theorem KK.moved {G : GG} {u U : State} (hvm : u.vm.Alike U.vm) (h : KK G u) : KK G U := ⟨h.1.moved hvm, ⟨va_Z.moved hvm h.2.1.1, h.2.1.2⟩, ⟨vx_Zq.moved hvm h.2.2.1.1, vx_Zq.moved hvm h.2.2.1.2⟩, h.2.2.2.1,
  fun q hq => va_tabs (u := u.setVm U.vm) rfl rfl ((Cond.castable_setVm (args := #[]) hvm q.1 q.2).trans (h.2.2.2.2 q hq))⟩
theorem KK.warm {G : GG} {u U : State} (hW : u.WarmedH U.vm) (h : KK G u) : KK G U := h.moved hW.alike
theorem KK.same {G : GG} {u U : State} (hv : u.vm = U.vm) (h : KK G u) : KK G U := h.moved (by rw [hv]; exact Vm.Alike.refl _)
def Rep (G : GG) (w : Wd) (H : Heap) : Prop := gN G ≤ H.size ∧ (∀ a, a < gN G → H[a]? = (gH G)[a]?) ∧ ∀ a t e, w a = some (t, e) → gN G ≤ a ∧ va_at (gD G) vwCl (a, e) H
def updW (w : Wd) (a : Nat) (x : Nat × va_E) : Wd := fun b => if b = a then some x else w b
theorem updW_eq (w : Wd) (a : Nat) (x : Nat × va_E) : updW w a x a = some x := if_pos rfl
theorem updW_ne {w : Wd} {a b : Nat} {x : Nat × va_E} (h : b ≠ a) : updW w a x b = w b := if_neg h
theorem updW_tag {w : Wd} {a b : Nat} {t t' : Nat} {e0 e' : va_E} {x : Nat × va_E} (ha : w a = some (t, e0)) (hb : w b = some (t', e')) (h : t' ≠ t) : updW w a x b = some (t', e') := by
  rw [updW_ne (fun q => h (by subst q; rw [ha] at hb; cases hb; rfl))]; exact hb
theorem updW_cell {w : Wd} {a b : Nat} {y y' : Nat × va_E} {x : Nat × va_E} (ha : w a = some y) (hb : w b = some y') (h : y' ≠ y) : updW w a x b = some y' := by
  rw [updW_ne (fun q => h (by subst q; rw [ha] at hb; cases hb; rfl))]; exact hb
theorem updW_new {w : Wd} {a b : Nat} {y' : Nat × va_E} {x : Nat × va_E} (ha : w a = none) (hb : w b = some y') : updW w a x b = some y' := by
  rw [updW_ne (fun q => by subst q; rw [ha] at hb; cases hb)]; exact hb
theorem Rep.lt {G : GG} {w : Wd} {H : Heap} (h : Rep G w H) {a : Nat} {x : Nat × va_E} (ha : w a = some x) : a < H.size := ((h.2.2 a x.1 x.2 ha).2).lt
theorem Rep.put {G : GG} {w : Wd} {H H1 : Heap} (h : Rep G w H) {a : Nat} {t t1 : Nat} {e e1 : va_E} (ha : w a = some (t, e)) (hz : H1.size = H.size) (oq : ∀ q : Nat, q ≠ a → H1[q]? = H[q]?) (he : va_at (gD G) vwCl (a, e1) H1) : Rep G (updW w a (t1, e1)) H1 := by
  have hga := (h.2.2 a t e ha).1
  refine ⟨by rw [hz]; exact h.1, fun b hb => (oq b (by omega)).trans (h.2.1 b hb), fun b t' e' hb => ?_⟩
  by_cases q : b = a
  · subst q
    rw [updW_eq] at hb
    cases hb
    exact ⟨hga, he⟩
  · rw [updW_ne q] at hb
    obtain ⟨h1, h2⟩ := h.2.2 b t' e' hb
    exact ⟨h1, h2.kept (oq b q)⟩
theorem Rep.new {G : GG} {w : Wd} {H H1 : Heap} (h : Rep G w H) {t : Nat} {e1 : va_E} (hz : H.size ≤ H1.size) (oq : ∀ q : Nat, q < H.size → H1[q]? = H[q]?) (he : va_at (gD G) vwCl (H.size, e1) H1) : Rep G (updW w H.size (t, e1)) H1 := by
  refine ⟨Nat.le_trans h.1 hz, fun b hb => (oq b (Nat.lt_of_lt_of_le hb h.1)).trans (h.2.1 b hb), fun b t' e' hb => ?_⟩
  by_cases q : b = H.size
  · subst q
    rw [updW_eq] at hb
    cases hb
    exact ⟨h.1, he⟩
  · rw [updW_ne q] at hb
    obtain ⟨h1, h2⟩ := h.2.2 b t' e' hb
    exact ⟨h1, h2.kept (oq b (h.lt hb))⟩
theorem Rep.more {G : GG} {w : Wd} {H H1 : Heap} (h : Rep G w H) (hz : H.size ≤ H1.size) (oq : ∀ q : Nat, q < H.size → H1[q]? = H[q]?) : Rep G w H1 :=
  ⟨Nat.le_trans h.1 hz, fun b hb => (oq b (Nat.lt_of_lt_of_le hb h.1)).trans (h.2.1 b hb), fun b t' e' hb => ⟨(h.2.2 b t' e' hb).1, (h.2.2 b t' e' hb).2.kept (oq b (h.lt hb))⟩⟩
theorem Rep.fresh {G : GG} {w : Wd} {H : Heap} (h : Rep G w H) : w H.size = none := by
  cases hw : w H.size with
  | none => rfl
  | some x => exact absurd (h.lt hw) (Nat.lt_irrefl _)
/-- one cell as a list world -/
theorem Rep.one {G : GG} {w : Wd} {H : Heap} (h : Rep G w H) {a t : Nat} {e : va_E} (ha : w a = some (t, e)) : va_P (gD G) vwCl [(a, e)] H := by
  intro k q hk
  have hz : k < 1 := (List.getElem?_eq_some_iff.mp hk).1
  rw [show k = 0 by omega] at hk
  cases hk
  exact (h.2.2 a t e ha).2
/-- cells whose tags are not of S stay -/
def Fr (S : Nat → Prop) (w w' : Wd) : Prop := ∀ a t e, ¬ S t → w a = some (t, e) → w' a = some (t, e)
theorem Fr.rf {S : Nat → Prop} {w : Wd} : Fr S w w := fun _ _ _ _ h => h
theorem Fr.tr {S : Nat → Prop} {w w1 w2 : Wd} (h : Fr S w w1) (h' : Fr S w1 w2) : Fr S w w2 := fun a t e hs ha => h' a t e hs (h a t e hs ha)
theorem Fr.mono {S S' : Nat → Prop} {w w1 : Wd} (h : Fr S w w1) (hs : ∀ t, S t → S' t) : Fr S' w w1 := fun a t e hn ha => h a t e (fun q => hn (hs t q)) ha
theorem Fr.put {S : Nat → Prop} {w : Wd} {a t : Nat} {e : va_E} {x : Nat × va_E} (ha : w a = some (t, e)) (hs : S t) : Fr S w (updW w a x) := fun b t' e' hn hb => by
  refine updW_tag ha hb (fun q => hn (by rw [q]; exact hs))
theorem Fr.new {S : Nat → Prop} {w : Wd} {a : Nat} {x : Nat × va_E} (ha : w a = none) : Fr S w (updW w a x) := fun b t' e' _ hb => updW_new ha hb
/-! the locals by their places -/
def lvP (ls : Array Slot) (nL : Nat) (ll : List (Option Value)) : Prop := ls.size = nL ∧ lv_wf ls ∧ ∀ (i : Nat) (v : Value), ll[i]? = some (some v) → ls[i]? = some (Slot.val v)
def stL : List (Option Value) → Nat → Value → List (Option Value)
  | [], _, _ => []
  | _ :: l, 0, v => some v :: l
  | x :: l, i + 1, v => x :: stL l i v
def stJ : List (Option Value) → Nat → Value → List (Option Value)
  | _ :: _ :: l, 0, v => some v :: none :: l
  | x :: l, i + 1, v => x :: stJ l i v
  | l, _, _ => l
def stK : List (Option Value) → Nat → List (Option Value)
  | [], _ => []
  | _ :: l, 0 => none :: l
  | x :: l, i + 1 => x :: stK l i
def prOK (ll : List (Option Value)) (i : Nat) : Bool := match i with
  | 0 => true
  | j + 1 => match ll[j]? with
    | some (some (.long _)) => false
    | some (some (.double _)) => false
    | _ => true
theorem prOK_spec {ll : List (Option Value)} {i : Nat} (h : prOK ll i = true) {j : Nat} {v : Value} (hj : ll[j]? = some (some v)) (hi : j + 1 = i) : v.category ≠ 2 := by
  subst hi
  simp only [prOK, hj] at h
  cases v <;> simp_all [Value.category]
theorem stL_get {v : Value} : ∀ {ll : List (Option Value)} {i j : Nat} {u : Value}, (stL ll i v)[j]? = some (some u) → (j = i ∧ u = v) ∨ (j ≠ i ∧ ll[j]? = some (some u))
  | [], _, _, _, h => by simp [stL] at h
  | _ :: l, 0, 0, u, h => by simp [stL] at h; exact Or.inl ⟨rfl, h.symm⟩
  | _ :: l, 0, j + 1, u, h => by simp [stL] at h; exact Or.inr ⟨by omega, by simpa using h⟩
  | x :: l, i + 1, 0, u, h => by simp [stL] at h; exact Or.inr ⟨by omega, by simpa using h⟩
  | x :: l, i + 1, j + 1, u, h => by
    simp [stL] at h
    rcases stL_get (ll := l) (i := i) (j := j) (by simpa using h) with ⟨h1, h2⟩ | ⟨h1, h2⟩
    · exact Or.inl ⟨by omega, h2⟩
    · exact Or.inr ⟨by omega, by simpa using h2⟩
theorem stJ_get {v : Value} : ∀ {ll : List (Option Value)} {i j : Nat} {u : Value}, i + 1 < ll.length → (stJ ll i v)[j]? = some (some u) → (j = i ∧ u = v) ∨ (j ≠ i ∧ j ≠ i + 1 ∧ ll[j]? = some (some u))
  | [], _, _, _, hl, h => by simp at hl
  | [_], _, _, _, hl, h => by simp at hl
  | _ :: _ :: l, 0, 0, u, hl, h => by simp [stJ] at h; exact Or.inl ⟨rfl, h.symm⟩
  | _ :: _ :: l, 0, 1, u, hl, h => by simp [stJ] at h
  | _ :: _ :: l, 0, j + 2, u, hl, h => by simp [stJ] at h; exact Or.inr ⟨by omega, by omega, by simpa using h⟩
  | x :: y :: l, i + 1, 0, u, hl, h => by simp [stJ] at h; exact Or.inr ⟨by omega, by omega, by simpa using h⟩
  | x :: y :: l, i + 1, j + 1, u, hl, h => by
    rcases stJ_get (ll := y :: l) (i := i) (j := j) (u := u) (by simp at hl ⊢; omega) (by simpa [stJ] using h) with ⟨h1, h2⟩ | ⟨h1, h2, h3⟩
    · exact Or.inl ⟨by omega, h2⟩
    · exact Or.inr ⟨by omega, by omega, by simpa using h3⟩
theorem stK_get : ∀ {ll : List (Option Value)} {i j : Nat} {u : Value}, (stK ll i)[j]? = some (some u) → ll[j]? = some (some u)
  | [], _, _, _, h => by simp [stK] at h
  | _ :: l, 0, 0, u, h => by simp [stK] at h
  | _ :: l, 0, j + 1, u, h => by simpa [stK] using h
  | x :: l, i + 1, 0, u, h => by simpa [stK] using h
  | x :: l, i + 1, j + 1, u, h => by
    have := stK_get (ll := l) (i := i) (j := j) (u := u) (by simpa [stK] using h)
    simpa using this
theorem lvP.kill {ls : Array Slot} {nL : Nat} {ll : List (Option Value)} (h : lvP ls nL ll) (i : Nat) : lvP ls nL (stK ll i) := ⟨h.1, h.2.1, fun j v hj => h.2.2 j v (stK_get hj)⟩
theorem lvP.nil {ls : Array Slot} {nL : Nat} {ll : List (Option Value)} (h : lvP ls nL ll) : lv_has ls nL [] := ⟨h.1, h.2.1, fun q hq => nomatch hq⟩
/-- fewer values known -/
def lvLe : List (Option Value) → List (Option Value) → Prop
  | [], _ => True
  | none :: a, _ :: b => lvLe a b
  | some v :: a, some v' :: b => v = v' ∧ lvLe a b
  | _, _ => False
theorem lvLe_get : ∀ {a b : List (Option Value)} {j : Nat} {u : Value}, lvLe a b → a[j]? = some (some u) → b[j]? = some (some u)
  | [], _, _, _, _, h => by simp at h
  | none :: a, _ :: b, 0, u, _, h => by simp at h
  | none :: a, _ :: b, j + 1, u, hl, h => by
    have := lvLe_get (a := a) (b := b) (j := j) (u := u) hl (by simpa using h)
    simpa using this
  | some v :: a, some v' :: b, 0, u, hl, h => by simp at h; obtain ⟨h1, _⟩ := hl; simp [← h, h1]
  | some v :: a, some v' :: b, j + 1, u, hl, h => by
    have := lvLe_get (a := a) (b := b) (j := j) (u := u) hl.2 (by simpa using h)
    simpa using this
  | none :: a, [], _, _, hl, _ => False.elim hl
  | some v :: a, [], _, _, hl, _ => False.elim hl
  | some v :: a, none :: b, _, _, hl, _ => False.elim hl
theorem lvP.le {ls : Array Slot} {nL : Nat} {a b : List (Option Value)} (h : lvP ls nL b) (hl : lvLe a b) : lvP ls nL a := ⟨h.1, h.2.1, fun j v hj => h.2.2 j v (lvLe_get hl hj)⟩
theorem lvP_st1 {ls : Array Slot} {nL : Nat} {ll : List (Option Value)} {i : Nat} {v : Value} (h : lvP ls nL ll) (hi : i < nL) (hc : v.category = 1) (hp : prOK ll i = true) : ∃ ls', storeLocals ls i v = some ls' ∧ lvP ls' nL (stL ll i v) := by
  obtain ⟨ls', h1, h2⟩ := lv_store1 (l := []) (v := v) ⟨h.1, h.2.1, fun q hq => nomatch hq⟩ hi hc
  refine ⟨ls', h1, h2.1, h2.2.1, fun j u hj => ?_⟩
  rcases stL_get hj with ⟨rfl, rfl⟩ | ⟨hne, hj2⟩
  · exact h2.2.2 (j, u) List.mem_cons_self
  · obtain ⟨ls2, h3, h4⟩ := lv_store1 (l := [(j, u)]) (v := v) ⟨h.1, h.2.1, fun q hq => by rw [List.mem_singleton.mp hq]; exact h.2.2 j u hj2⟩ hi hc
    rw [h1] at h3
    cases h3
    refine h4.2.2 (j, u) (List.mem_cons_of_mem _ (List.mem_filter.mpr ⟨List.mem_singleton.mpr rfl, ?_⟩))
    by_cases q : j + 1 = i
    · have := prOK_spec hp hj2 q
      simp [hne, this]
    · simp [hne, q]
theorem lvP_st2 {ls : Array Slot} {nL : Nat} {ll : List (Option Value)} {i : Nat} {v : Value} (h : lvP ls nL ll) (hi : i + 1 < nL) (hl : i + 1 < ll.length) (hc : v.category = 2) (hp : prOK ll i = true) : ∃ ls', storeLocals ls i v = some ls' ∧ lvP ls' nL (stJ ll i v) := by
  obtain ⟨ls', h1, h2⟩ := lv_store2 (l := []) (v := v) ⟨h.1, h.2.1, fun q hq => nomatch hq⟩ hi hc
  refine ⟨ls', h1, h2.1, h2.2.1, fun j u hj => ?_⟩
  rcases stJ_get hl hj with ⟨rfl, rfl⟩ | ⟨hne, hne2, hj2⟩
  · exact h2.2.2 (j, u) List.mem_cons_self
  · obtain ⟨ls2, h3, h4⟩ := lv_store2 (l := [(j, u)]) (v := v) ⟨h.1, h.2.1, fun q hq => by rw [List.mem_singleton.mp hq]; exact h.2.2 j u hj2⟩ hi hc
    rw [h1] at h3
    cases h3
    refine h4.2.2 (j, u) (List.mem_cons_of_mem _ (List.mem_filter.mpr ⟨List.mem_singleton.mpr rfl, ?_⟩))
    by_cases q : j + 1 = i
    · have := prOK_spec hp hj2 q
      simp [hne, hne2, this]
    · simp [hne, hne2, q]
/-- the words that hold in a method's body -/
def Cx (G : GG) (p : Program) (s : State) (m : MethodId) (args : Array Value) (meth : Method) (c : Code) (y : MethodName) (cc : ByteArray) (nL : Nat) (ret : Option FieldType) (ws : List Cond) : Prop :=
  p.tables.exec = Jvm.exec ∧ c.code = cc ∧ c.maxLocals = nL ∧ s.vm.findClass y.cls = some m.cls ∧ (∀ w ∈ ws, w.before args s = true) ∧ meth.sig.returnType = ret ∧ meth.locks = false ∧ KK G s ∧ meth.name = y.name

section VB
variable {G : GG} {p : Program} {l : Launch} {e : Env} {R : Room} {s : State} {m : MethodId} {args : Array Value} {below : List Frame} {meth : Method} {c : Code} {Q : State → Prop} {y : MethodName} {cc : ByteArray} {nL : Nat} {ret : Option FieldType} {ws : List Cond} {w : Wd} {k z pc : Nat} {ll : List (Option Value)} {st : List Value}
def V (G : GG) (p : Program) (l : Launch) (e : Env) (R : Room) (s : State) (m : MethodId) (args : Array Value) (below : List Frame) (meth : Method) (c : Code) (Q : State → Prop) (w : Wd) (k z pc : Nat) (ll : List (Option Value)) (st : List Value) : Prop :=
  ∀ (H : Heap) (locs : List Loc) (ls : Array Slot), Rep G w H → (∀ q ∈ locs, gN G ≤ q.base) → lvP ls c.maxLocals ll → W p l e R s m args below meth c H locs k z Q (F0 m pc ls st)
theorem v_iconst (C : Cx G p s m args meth c y cc nL ret ws) {n : Int} (d : decode cc pc = .ok (.iconst n, 1)) (kk : V G p l e R s m args below meth c Q w k z (pc + 1) ll (.int (iI n) :: st)) : V G p l e R s m args below meth c Q w k z pc ll st := by
  intro H locs ls hR hL hl
  exact lv_iconst C.1 C.2.1 d rfl (kk H locs ls hR hL hl)
theorem v_bipush (C : Cx G p s m args meth c y cc nL ret ws) {n : Int} (d : decode cc pc = .ok (.bipush n, 2)) (hv : (Int8.ofInt n).toInt32 = iI n) (kk : V G p l e R s m args below meth c Q w k z (pc + 2) ll (.int (iI n) :: st)) : V G p l e R s m args below meth c Q w k z pc ll st := by
  intro H locs ls hR hL hl
  exact lv_bipush C.1 C.2.1 d hv (kk H locs ls hR hL hl)
theorem v_sipush (C : Cx G p s m args meth c y cc nL ret ws) {n : Int} (d : decode cc pc = .ok (.sipush n, 3)) (hv : (Int16.ofInt n).toInt32 = iI n) (kk : V G p l e R s m args below meth c Q w k z (pc + 3) ll (.int (iI n) :: st)) : V G p l e R s m args below meth c Q w k z pc ll st := by
  intro H locs ls hR hL hl
  exact lv_sipush C.1 C.2.1 d hv (kk H locs ls hR hL hl)
theorem v_lconst (C : Cx G p s m args meth c y cc nL ret ws) {n : Fin 2} {v : Int} (d : decode cc pc = .ok (.lconst n, 1)) (hv : Int64.ofNat (n : Nat) = lI v) (kk : V G p l e R s m args below meth c Q w k z (pc + 1) ll (.long (lI v) :: st)) : V G p l e R s m args below meth c Q w k z pc ll st := by
  intro H locs ls hR hL hl
  exact lv_lconst C.1 C.2.1 d hv (kk H locs ls hR hL hl)
theorem v_ldc2 (C : Cx G p s m args meth c y cc nL ret ws) {i : Nat} {x : Int64} {v : Int} (hc : Cond.constantLong y.cls i x ∈ ws) (hv : x = lI v) (d : decode cc pc = .ok (.ldc2_w i, 3)) (kk : V G p l e R s m args below meth c Q w k z (pc + 3) ll (.long (lI v) :: st)) : V G p l e R s m args below meth c Q w k z pc ll st := by
  intro H locs ls hR hL hl
  subst hv
  exact lv_ldc2 C.1 C.2.1 C.2.2.2.1 (C.2.2.2.2.1 _ hc) d (kk H locs ls hR hL hl)
theorem v_ldcI (C : Cx G p s m args meth c y cc nL ret ws) {i : Nat} {x : Int32} {v : Int} (hc : Cond.constant y.cls i x ∈ ws) (hv : x = iI v) (d : decode cc pc = .ok (.ldc i, 2)) (kk : V G p l e R s m args below meth c Q w k z (pc + 2) ll (.int (iI v) :: st)) : V G p l e R s m args below meth c Q w k z pc ll st := by
  intro H locs ls hR hL hl
  subst hv
  exact lv_ldc C.1 C.2.1 C.2.2.2.1 (C.2.2.2.2.1 _ hc) d (kk H locs ls hR hL hl)
theorem v_iload_n (C : Cx G p s m args meth c y cc nL ret ws) {i : Fin 4} {x : Int32} (d : decode cc pc = .ok (.iload_n i, 1)) (h : ll[(i : Nat)]? = some (some (.int x))) (kk : V G p l e R s m args below meth c Q w k z (pc + 1) ll (.int x :: st)) : V G p l e R s m args below meth c Q w k z pc ll st := by
  intro H locs ls hR hL hl
  exact lv_iload_n C.1 C.2.1 d rfl (hl.2.2 _ _ h) (kk H locs ls hR hL hl)
theorem v_iload (C : Cx G p s m args meth c y cc nL ret ws) {i : Nat} {x : Int32} (d : decode cc pc = .ok (.iload i, 2)) (h : ll[i]? = some (some (.int x))) (kk : V G p l e R s m args below meth c Q w k z (pc + 2) ll (.int x :: st)) : V G p l e R s m args below meth c Q w k z pc ll st := by
  intro H locs ls hR hL hl
  exact lv_iload C.1 C.2.1 d (hl.2.2 _ _ h) (kk H locs ls hR hL hl)
theorem v_lload_n (C : Cx G p s m args meth c y cc nL ret ws) {i : Fin 4} {x : Int64} (d : decode cc pc = .ok (.lload_n i, 1)) (h : ll[(i : Nat)]? = some (some (.long x))) (kk : V G p l e R s m args below meth c Q w k z (pc + 1) ll (.long x :: st)) : V G p l e R s m args below meth c Q w k z pc ll st := by
  intro H locs ls hR hL hl
  exact lv_lload_n C.1 C.2.1 d rfl (hl.2.2 _ _ h) (kk H locs ls hR hL hl)
theorem v_lload (C : Cx G p s m args meth c y cc nL ret ws) {i : Nat} {x : Int64} (d : decode cc pc = .ok (.lload i, 2)) (h : ll[i]? = some (some (.long x))) (kk : V G p l e R s m args below meth c Q w k z (pc + 2) ll (.long x :: st)) : V G p l e R s m args below meth c Q w k z pc ll st := by
  intro H locs ls hR hL hl
  exact lv_lload C.1 C.2.1 d (hl.2.2 _ _ h) (kk H locs ls hR hL hl)
theorem v_aload_n (C : Cx G p s m args meth c y cc nL ret ws) {i : Fin 4} {x : Nat} (d : decode cc pc = .ok (.aload_n i, 1)) (h : ll[(i : Nat)]? = some (some (.ref x))) (kk : V G p l e R s m args below meth c Q w k z (pc + 1) ll (.ref x :: st)) : V G p l e R s m args below meth c Q w k z pc ll st := by
  intro H locs ls hR hL hl
  exact lv_aload_n C.1 C.2.1 d rfl (hl.2.2 _ _ h) (kk H locs ls hR hL hl)
theorem v_aload (C : Cx G p s m args meth c y cc nL ret ws) {i : Nat} {x : Nat} (d : decode cc pc = .ok (.aload i, 2)) (h : ll[i]? = some (some (.ref x))) (kk : V G p l e R s m args below meth c Q w k z (pc + 2) ll (.ref x :: st)) : V G p l e R s m args below meth c Q w k z pc ll st := by
  intro H locs ls hR hL hl
  exact lv_aload C.1 C.2.1 d (hl.2.2 _ _ h) (kk H locs ls hR hL hl)
theorem v_aload_nN (C : Cx G p s m args meth c y cc nL ret ws) {i : Fin 4} (d : decode cc pc = .ok (.aload_n i, 1)) (h : ll[(i : Nat)]? = some (some .null)) (kk : V G p l e R s m args below meth c Q w k z (pc + 1) ll (.null :: st)) : V G p l e R s m args below meth c Q w k z pc ll st := by
  intro H locs ls hR hL hl
  exact lv_aload_nN C.1 C.2.1 d rfl (hl.2.2 _ _ h) (kk H locs ls hR hL hl)
theorem v_aloadN (C : Cx G p s m args meth c y cc nL ret ws) {i : Nat} (d : decode cc pc = .ok (.aload i, 2)) (h : ll[i]? = some (some .null)) (kk : V G p l e R s m args below meth c Q w k z (pc + 2) ll (.null :: st)) : V G p l e R s m args below meth c Q w k z pc ll st := by
  intro H locs ls hR hL hl
  exact lv_aloadN C.1 C.2.1 d (hl.2.2 _ _ h) (kk H locs ls hR hL hl)
theorem v_istore_n (C : Cx G p s m args meth c y cc nL ret ws) {i : Fin 4} {x : Int32} {ll' : List (Option Value)} (d : decode cc pc = .ok (.istore_n i, 1)) (hs : stL ll (i : Nat) (.int x) = ll') (hi : (i : Nat) < nL) (hp : prOK ll (i : Nat) = true) (kk : V G p l e R s m args below meth c Q w k z (pc + 1) ll' st) : V G p l e R s m args below meth c Q w k z pc ll (.int x :: st) := by
  intro H locs ls hR hL hl
  subst hs
  obtain ⟨hx, hb, hnl, -⟩ := id C
  obtain ⟨ls', e', h'⟩ := lvP_st1 (v := .int x) hl (by rw [hnl]; exact hi) rfl hp
  intro T hT X
  obtain ⟨t, a, b⟩ := kk H locs ls' hR hL h' T hT X
  refine ⟨t, ?_, b⟩
  jvm_step X.here [X.here.top, ↓top_set X.here.top, hx, hb, d, e']
  exact a
theorem v_istore (C : Cx G p s m args meth c y cc nL ret ws) {i : Nat} {x : Int32} {ll' : List (Option Value)} (d : decode cc pc = .ok (.istore i, 2)) (hs : stL ll i (.int x) = ll') (hi : i < nL) (hp : prOK ll i = true) (kk : V G p l e R s m args below meth c Q w k z (pc + 2) ll' st) : V G p l e R s m args below meth c Q w k z pc ll (.int x :: st) := by
  intro H locs ls hR hL hl
  subst hs
  obtain ⟨hx, hb, hnl, -⟩ := id C
  obtain ⟨ls', e', h'⟩ := lvP_st1 (v := .int x) hl (by rw [hnl]; exact hi) rfl hp
  intro T hT X
  obtain ⟨t, a, b⟩ := kk H locs ls' hR hL h' T hT X
  refine ⟨t, ?_, b⟩
  jvm_step X.here [X.here.top, ↓top_set X.here.top, hx, hb, d, e']
  exact a
theorem v_lstore_n (C : Cx G p s m args meth c y cc nL ret ws) {i : Fin 4} {x : Int64} {ll' : List (Option Value)} (d : decode cc pc = .ok (.lstore_n i, 1)) (hs : stJ ll (i : Nat) (.long x) = ll') (hi : (i : Nat) + 1 < nL) (hj : (i : Nat) + 1 < ll.length) (hp : prOK ll (i : Nat) = true) (kk : V G p l e R s m args below meth c Q w k z (pc + 1) ll' st) : V G p l e R s m args below meth c Q w k z pc ll (.long x :: st) := by
  intro H locs ls hR hL hl
  subst hs
  obtain ⟨hx, hb, hnl, -⟩ := id C
  obtain ⟨ls', e', h'⟩ := lvP_st2 (v := .long x) hl (by rw [hnl]; exact hi) hj rfl hp
  intro T hT X
  obtain ⟨t, a, b⟩ := kk H locs ls' hR hL h' T hT X
  refine ⟨t, ?_, b⟩
  jvm_step X.here [X.here.top, ↓top_set X.here.top, hx, hb, d, e']
  exact a
theorem v_lstore (C : Cx G p s m args meth c y cc nL ret ws) {i : Nat} {x : Int64} {ll' : List (Option Value)} (d : decode cc pc = .ok (.lstore i, 2)) (hs : stJ ll i (.long x) = ll') (hi : i + 1 < nL) (hj : i + 1 < ll.length) (hp : prOK ll i = true) (kk : V G p l e R s m args below meth c Q w k z (pc + 2) ll' st) : V G p l e R s m args below meth c Q w k z pc ll (.long x :: st) := by
  intro H locs ls hR hL hl
  subst hs
  obtain ⟨hx, hb, hnl, -⟩ := id C
  obtain ⟨ls', e', h'⟩ := lvP_st2 (v := .long x) hl (by rw [hnl]; exact hi) hj rfl hp
  intro T hT X
  obtain ⟨t, a, b⟩ := kk H locs ls' hR hL h' T hT X
  refine ⟨t, ?_, b⟩
  jvm_step X.here [X.here.top, ↓top_set X.here.top, hx, hb, d, e']
  exact a
theorem v_astore_n (C : Cx G p s m args meth c y cc nL ret ws) {i : Fin 4} {x : Nat} {ll' : List (Option Value)} (d : decode cc pc = .ok (.astore_n i, 1)) (hs : stL ll (i : Nat) (.ref x) = ll') (hi : (i : Nat) < nL) (hp : prOK ll (i : Nat) = true) (kk : V G p l e R s m args below meth c Q w k z (pc + 1) ll' st) : V G p l e R s m args below meth c Q w k z pc ll (.ref x :: st) := by
  intro H locs ls hR hL hl
  subst hs
  obtain ⟨hx, hb, hnl, -⟩ := id C
  obtain ⟨ls', e', h'⟩ := lvP_st1 (v := .ref x) hl (by rw [hnl]; exact hi) rfl hp
  intro T hT X
  obtain ⟨t, a, b⟩ := kk H locs ls' hR hL h' T hT X
  refine ⟨t, ?_, b⟩
  jvm_step X.here [X.here.top, ↓top_set X.here.top, hx, hb, d, e']
  exact ⟨rfl, a⟩
theorem v_astore (C : Cx G p s m args meth c y cc nL ret ws) {i : Nat} {x : Nat} {ll' : List (Option Value)} (d : decode cc pc = .ok (.astore i, 2)) (hs : stL ll i (.ref x) = ll') (hi : i < nL) (hp : prOK ll i = true) (kk : V G p l e R s m args below meth c Q w k z (pc + 2) ll' st) : V G p l e R s m args below meth c Q w k z pc ll (.ref x :: st) := by
  intro H locs ls hR hL hl
  subst hs
  obtain ⟨hx, hb, hnl, -⟩ := id C
  obtain ⟨ls', e', h'⟩ := lvP_st1 (v := .ref x) hl (by rw [hnl]; exact hi) rfl hp
  intro T hT X
  obtain ⟨t, a, b⟩ := kk H locs ls' hR hL h' T hT X
  refine ⟨t, ?_, b⟩
  jvm_step X.here [X.here.top, ↓top_set X.here.top, hx, hb, d, e']
  exact ⟨rfl, a⟩
theorem v_astore_nN (C : Cx G p s m args meth c y cc nL ret ws) {i : Fin 4} {ll' : List (Option Value)} (d : decode cc pc = .ok (.astore_n i, 1)) (hs : stL ll (i : Nat) .null = ll') (hi : (i : Nat) < nL) (hp : prOK ll (i : Nat) = true) (kk : V G p l e R s m args below meth c Q w k z (pc + 1) ll' st) : V G p l e R s m args below meth c Q w k z pc ll (.null :: st) := by
  intro H locs ls hR hL hl
  subst hs
  obtain ⟨hx, hb, hnl, -⟩ := id C
  obtain ⟨ls', e', h'⟩ := lvP_st1 (v := .null) hl (by rw [hnl]; exact hi) rfl hp
  intro T hT X
  obtain ⟨t, a, b⟩ := kk H locs ls' hR hL h' T hT X
  refine ⟨t, ?_, b⟩
  jvm_step X.here [X.here.top, ↓top_set X.here.top, hx, hb, d, e']
  exact ⟨rfl, a⟩
theorem v_astoreN (C : Cx G p s m args meth c y cc nL ret ws) {i : Nat} {ll' : List (Option Value)} (d : decode cc pc = .ok (.astore i, 2)) (hs : stL ll i .null = ll') (hi : i < nL) (hp : prOK ll i = true) (kk : V G p l e R s m args below meth c Q w k z (pc + 2) ll' st) : V G p l e R s m args below meth c Q w k z pc ll (.null :: st) := by
  intro H locs ls hR hL hl
  subst hs
  obtain ⟨hx, hb, hnl, -⟩ := id C
  obtain ⟨ls', e', h'⟩ := lvP_st1 (v := .null) hl (by rw [hnl]; exact hi) rfl hp
  intro T hT X
  obtain ⟨t, a, b⟩ := kk H locs ls' hR hL h' T hT X
  refine ⟨t, ?_, b⟩
  jvm_step X.here [X.here.top, ↓top_set X.here.top, hx, hb, d, e']
  exact ⟨rfl, a⟩
theorem v_kill (i : Nat) {ll' : List (Option Value)} (hs : stK ll i = ll') (kk : V G p l e R s m args below meth c Q w k z pc ll' st) : V G p l e R s m args below meth c Q w k z pc ll st := fun H locs ls hR hL hl => kk H locs ls hR hL (hs ▸ hl.kill i)
theorem v_less {ll' : List (Option Value)} (hs : lvLe ll' ll) (kk : V G p l e R s m args below meth c Q w k z pc ll' st) : V G p l e R s m args below meth c Q w k z pc ll st := fun H locs ls hR hL hl => kk H locs ls hR hL (hl.le hs)
theorem v_iinc (C : Cx G p s m args meth c y cc nL ret ws) {i : Nat} {n x : Int} {ll' : List (Option Value)} (d : decode cc pc = .ok (.iinc i n, 3)) (h : ll[i]? = some (some (.int (iI x)))) (hs : stL ll i (.int (iI (x + n))) = ll') (hi : i < nL) (hp : prOK ll i = true) (kk : V G p l e R s m args below meth c Q w k z (pc + 3) ll' st) : V G p l e R s m args below meth c Q w k z pc ll st := by
  intro H locs ls hR hL hl
  subst hs
  obtain ⟨hx, hb, hnl, -⟩ := id C
  have hg : ls[i]? = some (Slot.val (.int (iI x))) := hl.2.2 _ _ h
  obtain ⟨ls', e', h'⟩ := lvP_st1 (v := .int (iI (x + n))) hl (by rw [hnl]; exact hi) rfl hp
  have e2 : iI (x + n) = iI x + Int32.ofInt n := (iI_add x n).symm
  intro T hT X
  obtain ⟨t, a, b⟩ := kk H locs ls' hR hL h' T hT X
  refine ⟨t, ?_, b⟩
  rw [e2] at e'
  jvm_step X.here [X.here.top, ↓top_set X.here.top, hx, hb, d, hg, e']
  exact a
theorem v_iadd (C : Cx G p s m args meth c y cc nL ret ws) {a b : Int} (d : decode cc pc = .ok (.iadd, 1)) (kk : V G p l e R s m args below meth c Q w k z (pc + 1) ll (.int (iI (a + b)) :: st)) : V G p l e R s m args below meth c Q w k z pc ll (.int (iI b) :: .int (iI a) :: st) := by
  intro H locs ls hR hL hl
  refine lv_iadd C.1 C.2.1 d ?_
  rw [iI_add]
  exact kk H locs ls hR hL hl
theorem v_isub (C : Cx G p s m args meth c y cc nL ret ws) {a b : Int} (d : decode cc pc = .ok (.isub, 1)) (kk : V G p l e R s m args below meth c Q w k z (pc + 1) ll (.int (iI (a - b)) :: st)) : V G p l e R s m args below meth c Q w k z pc ll (.int (iI b) :: .int (iI a) :: st) := by
  intro H locs ls hR hL hl
  refine lv_isub C.1 C.2.1 d ?_
  rw [iI_sub]
  exact kk H locs ls hR hL hl
theorem v_imul (C : Cx G p s m args meth c y cc nL ret ws) {a b : Int} (d : decode cc pc = .ok (.imul, 1)) (kk : V G p l e R s m args below meth c Q w k z (pc + 1) ll (.int (iI (a * b)) :: st)) : V G p l e R s m args below meth c Q w k z pc ll (.int (iI b) :: .int (iI a) :: st) := by
  intro H locs ls hR hL hl
  refine lv_imul C.1 C.2.1 d ?_
  rw [iI_mul]
  exact kk H locs ls hR hL hl
theorem v_idiv (C : Cx G p s m args meth c y cc nL ret ws) {a b : Int} (ha : R32 a) (h0 : 0 ≤ a) (hb : R32 b) (hb0 : 0 < b) (d : decode cc pc = .ok (.idiv, 1)) (kk : V G p l e R s m args below meth c Q w k z (pc + 1) ll (.int (iI (a / b)) :: st)) : V G p l e R s m args below meth c Q w k z pc ll (.int (iI b) :: .int (iI a) :: st) := by
  intro H locs ls hR hL hl
  refine lv_idiv C.1 C.2.1 d (iI_ne0 hb (by omega)) ?_
  rw [iI_div ha h0 hb hb0]
  exact kk H locs ls hR hL hl
theorem v_irem (C : Cx G p s m args meth c y cc nL ret ws) {a b : Int} (ha : R32 a) (h0 : 0 ≤ a) (hb : R32 b) (hb0 : 0 < b) (d : decode cc pc = .ok (.irem, 1)) (kk : V G p l e R s m args below meth c Q w k z (pc + 1) ll (.int (iI (a % b)) :: st)) : V G p l e R s m args below meth c Q w k z pc ll (.int (iI b) :: .int (iI a) :: st) := by
  intro H locs ls hR hL hl
  refine lv_irem C.1 C.2.1 d (iI_ne0 hb (by omega)) ?_
  rw [iI_rem ha h0 hb hb0]
  exact kk H locs ls hR hL hl
theorem v_ladd (C : Cx G p s m args meth c y cc nL ret ws) {a b : Int} (d : decode cc pc = .ok (.ladd, 1)) (kk : V G p l e R s m args below meth c Q w k z (pc + 1) ll (.long (lI (a + b)) :: st)) : V G p l e R s m args below meth c Q w k z pc ll (.long (lI b) :: .long (lI a) :: st) := by
  intro H locs ls hR hL hl
  refine lv_ladd C.1 C.2.1 d ?_
  rw [lI_add]
  exact kk H locs ls hR hL hl
theorem v_lsub (C : Cx G p s m args meth c y cc nL ret ws) {a b : Int} (d : decode cc pc = .ok (.lsub, 1)) (kk : V G p l e R s m args below meth c Q w k z (pc + 1) ll (.long (lI (a - b)) :: st)) : V G p l e R s m args below meth c Q w k z pc ll (.long (lI b) :: .long (lI a) :: st) := by
  intro H locs ls hR hL hl
  refine lv_lsub C.1 C.2.1 d ?_
  rw [lI_sub]
  exact kk H locs ls hR hL hl
theorem v_lmul (C : Cx G p s m args meth c y cc nL ret ws) {a b : Int} (d : decode cc pc = .ok (.lmul, 1)) (kk : V G p l e R s m args below meth c Q w k z (pc + 1) ll (.long (lI (a * b)) :: st)) : V G p l e R s m args below meth c Q w k z pc ll (.long (lI b) :: .long (lI a) :: st) := by
  intro H locs ls hR hL hl
  refine lv_lmul C.1 C.2.1 d ?_
  rw [lI_mul]
  exact kk H locs ls hR hL hl
theorem v_ldiv (C : Cx G p s m args meth c y cc nL ret ws) {a b : Int} (ha : R64 a) (h0 : 0 ≤ a) (hb : R64 b) (hb0 : 0 < b) (d : decode cc pc = .ok (.ldiv, 1)) (kk : V G p l e R s m args below meth c Q w k z (pc + 1) ll (.long (lI (a / b)) :: st)) : V G p l e R s m args below meth c Q w k z pc ll (.long (lI b) :: .long (lI a) :: st) := by
  intro H locs ls hR hL hl
  refine lv_ldiv C.1 C.2.1 d (lI_ne0 hb (by omega)) ?_
  rw [lI_div ha h0 hb hb0]
  exact kk H locs ls hR hL hl
theorem v_lrem (C : Cx G p s m args meth c y cc nL ret ws) {a b : Int} (ha : R64 a) (h0 : 0 ≤ a) (hb : R64 b) (hb0 : 0 < b) (d : decode cc pc = .ok (.lrem, 1)) (kk : V G p l e R s m args below meth c Q w k z (pc + 1) ll (.long (lI (a % b)) :: st)) : V G p l e R s m args below meth c Q w k z pc ll (.long (lI b) :: .long (lI a) :: st) := by
  intro H locs ls hR hL hl
  refine lv_lrem C.1 C.2.1 d (lI_ne0 hb (by omega)) ?_
  rw [lI_rem ha h0 hb hb0]
  exact kk H locs ls hR hL hl
theorem v_iand (C : Cx G p s m args meth c y cc nL ret ws) {a b r : Int} (hr : iI a &&& iI b = iI r) (d : decode cc pc = .ok (.iand, 1)) (kk : V G p l e R s m args below meth c Q w k z (pc + 1) ll (.int (iI r) :: st)) : V G p l e R s m args below meth c Q w k z pc ll (.int (iI b) :: .int (iI a) :: st) := by
  intro H locs ls hR hL hl
  refine lv_iand C.1 C.2.1 d ?_
  rw [hr]
  exact kk H locs ls hR hL hl
theorem v_ior (C : Cx G p s m args meth c y cc nL ret ws) {a b r : Int} (hr : iI a ||| iI b = iI r) (d : decode cc pc = .ok (.ior, 1)) (kk : V G p l e R s m args below meth c Q w k z (pc + 1) ll (.int (iI r) :: st)) : V G p l e R s m args below meth c Q w k z pc ll (.int (iI b) :: .int (iI a) :: st) := by
  intro H locs ls hR hL hl
  refine lv_ior C.1 C.2.1 d ?_
  rw [hr]
  exact kk H locs ls hR hL hl
theorem v_ishl (C : Cx G p s m args meth c y cc nL ret ws) {a b r : Int} (hr : iI a <<< (iI b &&& 31) = iI r) (d : decode cc pc = .ok (.ishl, 1)) (kk : V G p l e R s m args below meth c Q w k z (pc + 1) ll (.int (iI r) :: st)) : V G p l e R s m args below meth c Q w k z pc ll (.int (iI b) :: .int (iI a) :: st) := by
  intro H locs ls hR hL hl
  refine lv_ishl C.1 C.2.1 d ?_
  rw [hr]
  exact kk H locs ls hR hL hl
theorem v_ishr (C : Cx G p s m args meth c y cc nL ret ws) {a b r : Int} (hr : iI a >>> (iI b &&& 31) = iI r) (d : decode cc pc = .ok (.ishr, 1)) (kk : V G p l e R s m args below meth c Q w k z (pc + 1) ll (.int (iI r) :: st)) : V G p l e R s m args below meth c Q w k z pc ll (.int (iI b) :: .int (iI a) :: st) := by
  intro H locs ls hR hL hl
  refine lv_ishr C.1 C.2.1 d ?_
  rw [hr]
  exact kk H locs ls hR hL hl
theorem v_land (C : Cx G p s m args meth c y cc nL ret ws) {a b r : Int} (hr : lI a &&& lI b = lI r) (d : decode cc pc = .ok (.land, 1)) (kk : V G p l e R s m args below meth c Q w k z (pc + 1) ll (.long (lI r) :: st)) : V G p l e R s m args below meth c Q w k z pc ll (.long (lI b) :: .long (lI a) :: st) := by
  intro H locs ls hR hL hl
  refine lv_land C.1 C.2.1 d ?_
  rw [hr]
  exact kk H locs ls hR hL hl
theorem v_lor (C : Cx G p s m args meth c y cc nL ret ws) {a b r : Int} (hr : lI a ||| lI b = lI r) (d : decode cc pc = .ok (.lor, 1)) (kk : V G p l e R s m args below meth c Q w k z (pc + 1) ll (.long (lI r) :: st)) : V G p l e R s m args below meth c Q w k z pc ll (.long (lI b) :: .long (lI a) :: st) := by
  intro H locs ls hR hL hl
  refine lv_lor C.1 C.2.1 d ?_
  rw [hr]
  exact kk H locs ls hR hL hl
theorem v_iushr (C : Cx G p s m args meth c y cc nL ret ws) {a b r : Int} (hr : ((iI a).toUInt32 >>> ((iI b).toUInt32 &&& Int32.toUInt32 31)).toInt32 = iI r) (d : decode cc pc = .ok (.iushr, 1)) (kk : V G p l e R s m args below meth c Q w k z (pc + 1) ll (.int (iI r) :: st)) : V G p l e R s m args below meth c Q w k z pc ll (.int (iI b) :: .int (iI a) :: st) := by
  intro H locs ls hR hL hl
  exact lv_iushr C.1 C.2.1 d hr (kk H locs ls hR hL hl)
theorem v_lushr (C : Cx G p s m args meth c y cc nL ret ws) {a b r : Int} (hr : ((lI a).toUInt64 >>> ((iI b).toInt64.toUInt64 &&& Int64.toUInt64 63)).toInt64 = lI r) (d : decode cc pc = .ok (.lushr, 1)) (kk : V G p l e R s m args below meth c Q w k z (pc + 1) ll (.long (lI r) :: st)) : V G p l e R s m args below meth c Q w k z pc ll (.int (iI b) :: .long (lI a) :: st) := by
  intro H locs ls hR hL hl
  exact lv_lushr C.1 C.2.1 d hr (kk H locs ls hR hL hl)
theorem v_lshl (C : Cx G p s m args meth c y cc nL ret ws) {a b r : Int} (hr : lI a <<< ((iI b).toInt64 &&& 63) = lI r) (d : decode cc pc = .ok (.lshl, 1)) (kk : V G p l e R s m args below meth c Q w k z (pc + 1) ll (.long (lI r) :: st)) : V G p l e R s m args below meth c Q w k z pc ll (.int (iI b) :: .long (lI a) :: st) := by
  intro H locs ls hR hL hl
  exact lv_lshl C.1 C.2.1 d hr (kk H locs ls hR hL hl)
theorem v_lshr (C : Cx G p s m args meth c y cc nL ret ws) {a b r : Int} (hr : lI a >>> ((iI b).toInt64 &&& 63) = lI r) (d : decode cc pc = .ok (.lshr, 1)) (kk : V G p l e R s m args below meth c Q w k z (pc + 1) ll (.long (lI r) :: st)) : V G p l e R s m args below meth c Q w k z pc ll (.int (iI b) :: .long (lI a) :: st) := by
  intro H locs ls hR hL hl
  exact lv_lshr C.1 C.2.1 d hr (kk H locs ls hR hL hl)
theorem v_i2l (C : Cx G p s m args meth c y cc nL ret ws) {a : Int} (ha : R32 a) (d : decode cc pc = .ok (.i2l, 1)) (kk : V G p l e R s m args below meth c Q w k z (pc + 1) ll (.long (lI a) :: st)) : V G p l e R s m args below meth c Q w k z pc ll (.int (iI a) :: st) := by
  intro H locs ls hR hL hl
  exact lv_i2l C.1 C.2.1 d (i2l_I ha) (kk H locs ls hR hL hl)
theorem v_l2i (C : Cx G p s m args meth c y cc nL ret ws) {a : Int} (d : decode cc pc = .ok (.l2i, 1)) (kk : V G p l e R s m args below meth c Q w k z (pc + 1) ll (.int (iI a) :: st)) : V G p l e R s m args below meth c Q w k z pc ll (.long (lI a) :: st) := by
  intro H locs ls hR hL hl
  exact lv_l2i C.1 C.2.1 d (l2i_I a) (kk H locs ls hR hL hl)
theorem v_i2b (C : Cx G p s m args meth c y cc nL ret ws) {a r : Int} (hr : (iI a).toInt8.toInt32 = iI r) (d : decode cc pc = .ok (.i2b, 1)) (kk : V G p l e R s m args below meth c Q w k z (pc + 1) ll (.int (iI r) :: st)) : V G p l e R s m args below meth c Q w k z pc ll (.int (iI a) :: st) := by
  intro H locs ls hR hL hl
  exact lv_i2b C.1 C.2.1 d hr (kk H locs ls hR hL hl)
theorem v_dup (C : Cx G p s m args meth c y cc nL ret ws) {v : Value} (hv : v.category = 1) (d : decode cc pc = .ok (.dup, 1)) (kk : V G p l e R s m args below meth c Q w k z (pc + 1) ll (v :: v :: st)) : V G p l e R s m args below meth c Q w k z pc ll (v :: st) := by
  intro H locs ls hR hL hl
  exact lv_dup C.1 C.2.1 d hv (kk H locs ls hR hL hl)
theorem v_pop (C : Cx G p s m args meth c y cc nL ret ws) {v : Value} (hv : v.category = 1) (d : decode cc pc = .ok (.pop, 1)) (kk : V G p l e R s m args below meth c Q w k z (pc + 1) ll st) : V G p l e R s m args below meth c Q w k z pc ll (v :: st) := by
  intro H locs ls hR hL hl
  exact lv_pop C.1 C.2.1 d hv (kk H locs ls hR hL hl)
theorem v_dup2 (C : Cx G p s m args meth c y cc nL ret ws) {v u : Value} (hv : v.category = 1) (hu : u.category = 1) (d : decode cc pc = .ok (.dup2, 1)) (kk : V G p l e R s m args below meth c Q w k z (pc + 1) ll (v :: u :: v :: u :: st)) : V G p l e R s m args below meth c Q w k z pc ll (v :: u :: st) := by
  intro H locs ls hR hL hl
  exact lv_dup2_11 C.1 C.2.1 d hv hu (kk H locs ls hR hL hl)
theorem v_goto (C : Cx G p s m args meth c y cc nL ret ws) {off : Int} {tgt : Nat} (d : decode cc pc = .ok (.goto off, 3)) (ht : (pc : Int) + off = (tgt : Int)) (kk : V G p l e R s m args below meth c Q w k z tgt ll st) : V G p l e R s m args below meth c Q w k z pc ll st := by
  intro H locs ls hR hL hl
  exact lv_goto C.1 C.2.1 d ht (kk H locs ls hR hL hl)
theorem v_null (C : Cx G p s m args meth c y cc nL ret ws) (d : decode cc pc = .ok (.aconst_null, 1)) (kk : V G p l e R s m args below meth c Q w k z (pc + 1) ll (.null :: st)) : V G p l e R s m args below meth c Q w k z pc ll st := by
  intro H locs ls hR hL hl
  exact lv_null C.1 C.2.1 d (kk H locs ls hR hL hl)
theorem v_ifnonnull (C : Cx G p s m args meth c y cc nL ret ws) {x : Nat} {off : Int} {tgt : Nat} (d : decode cc pc = .ok (.ifnonnull off, 3)) (ht : (pc : Int) + off = (tgt : Int)) (kk : V G p l e R s m args below meth c Q w k z tgt ll st) : V G p l e R s m args below meth c Q w k z pc ll ((.ref x) :: st) := by
  intro H locs ls hR hL hl
  exact lv_ifnonnull C.1 C.2.1 d ht (kk H locs ls hR hL hl)
theorem v_ifnull (C : Cx G p s m args meth c y cc nL ret ws) {x : Nat} {off : Int} (d : decode cc pc = .ok (.ifnull off, 3)) (kk : V G p l e R s m args below meth c Q w k z (pc + 3) ll st) : V G p l e R s m args below meth c Q w k z pc ll ((.ref x) :: st) := by
  intro H locs ls hR hL hl
  exact lv_ifnull C.1 C.2.1 d (kk H locs ls hR hL hl)
theorem v_ifnullN (C : Cx G p s m args meth c y cc nL ret ws) {off : Int} {tgt : Nat} (d : decode cc pc = .ok (.ifnull off, 3)) (ht : (pc : Int) + off = (tgt : Int)) (kk : V G p l e R s m args below meth c Q w k z tgt ll st) : V G p l e R s m args below meth c Q w k z pc ll (.null :: st) := by
  intro H locs ls hR hL hl
  exact lv_ifnullN C.1 C.2.1 d ht (kk H locs ls hR hL hl)
theorem v_ifnonnullN (C : Cx G p s m args meth c y cc nL ret ws) {off : Int} (d : decode cc pc = .ok (.ifnonnull off, 3)) (kk : V G p l e R s m args below meth c Q w k z (pc + 3) ll st) : V G p l e R s m args below meth c Q w k z pc ll (.null :: st) := by
  intro H locs ls hR hL hl
  exact lv_ifnonnullN C.1 C.2.1 d (kk H locs ls hR hL hl)
theorem v_if_eq (C : Cx G p s m args meth c y cc nL ret ws) {a : Int} (ha : R32 a) {off : Int} {tgt : Nat} (d : decode cc pc = .ok (.ifCond .eq off, 3)) (ht : (pc : Int) + off = (tgt : Int)) (kt : a = 0 → V G p l e R s m args below meth c Q w k z tgt ll st) (kf : ¬ a = 0 → V G p l e R s m args below meth c Q w k z (pc + 3) ll st) : V G p l e R s m args below meth c Q w k z pc ll (.int (iI a) :: st) := by
  intro H locs ls hR hL hl
  refine lv_if_eq C.1 C.2.1 d ht (fun h => ?_) (fun h => ?_)
  · exact kt ((iI_eq (b := 0) ha ⟨by omega, by omega⟩).mp h) H locs ls hR hL hl
  · exact kf (fun q => h ((iI_eq (b := 0) ha ⟨by omega, by omega⟩).mpr q)) H locs ls hR hL hl
theorem v_icmp_eq (C : Cx G p s m args meth c y cc nL ret ws) {a b : Int} (ha : R32 a) (hb : R32 b) {off : Int} {tgt : Nat} (d : decode cc pc = .ok (.if_icmp .eq off, 3)) (ht : (pc : Int) + off = (tgt : Int)) (kt : a = b → V G p l e R s m args below meth c Q w k z tgt ll st) (kf : ¬ a = b → V G p l e R s m args below meth c Q w k z (pc + 3) ll st) : V G p l e R s m args below meth c Q w k z pc ll (.int (iI b) :: .int (iI a) :: st) := by
  intro H locs ls hR hL hl
  refine lv_icmp_eq C.1 C.2.1 d ht (fun h => ?_) (fun h => ?_)
  · exact kt ((iI_eq  ha hb).mp h) H locs ls hR hL hl
  · exact kf (fun q => h ((iI_eq  ha hb).mpr q)) H locs ls hR hL hl
theorem v_if_ne (C : Cx G p s m args meth c y cc nL ret ws) {a : Int} (ha : R32 a) {off : Int} {tgt : Nat} (d : decode cc pc = .ok (.ifCond .ne off, 3)) (ht : (pc : Int) + off = (tgt : Int)) (kt : ¬ a = 0 → V G p l e R s m args below meth c Q w k z tgt ll st) (kf : a = 0 → V G p l e R s m args below meth c Q w k z (pc + 3) ll st) : V G p l e R s m args below meth c Q w k z pc ll (.int (iI a) :: st) := by
  intro H locs ls hR hL hl
  refine lv_if_ne C.1 C.2.1 d ht (fun h => ?_) (fun h => ?_)
  · exact kt (fun q => h ((iI_eq (b := 0) ha ⟨by omega, by omega⟩).mpr q)) H locs ls hR hL hl
  · exact kf ((iI_eq (b := 0) ha ⟨by omega, by omega⟩).mp h) H locs ls hR hL hl
theorem v_icmp_ne (C : Cx G p s m args meth c y cc nL ret ws) {a b : Int} (ha : R32 a) (hb : R32 b) {off : Int} {tgt : Nat} (d : decode cc pc = .ok (.if_icmp .ne off, 3)) (ht : (pc : Int) + off = (tgt : Int)) (kt : ¬ a = b → V G p l e R s m args below meth c Q w k z tgt ll st) (kf : a = b → V G p l e R s m args below meth c Q w k z (pc + 3) ll st) : V G p l e R s m args below meth c Q w k z pc ll (.int (iI b) :: .int (iI a) :: st) := by
  intro H locs ls hR hL hl
  refine lv_icmp_ne C.1 C.2.1 d ht (fun h => ?_) (fun h => ?_)
  · exact kt (fun q => h ((iI_eq  ha hb).mpr q)) H locs ls hR hL hl
  · exact kf ((iI_eq  ha hb).mp h) H locs ls hR hL hl
theorem v_if_lt (C : Cx G p s m args meth c y cc nL ret ws) {a : Int} (ha : R32 a) {off : Int} {tgt : Nat} (d : decode cc pc = .ok (.ifCond .lt off, 3)) (ht : (pc : Int) + off = (tgt : Int)) (kt : a < 0 → V G p l e R s m args below meth c Q w k z tgt ll st) (kf : 0 ≤ a → V G p l e R s m args below meth c Q w k z (pc + 3) ll st) : V G p l e R s m args below meth c Q w k z pc ll (.int (iI a) :: st) := by
  intro H locs ls hR hL hl
  refine lv_if_lt C.1 C.2.1 d ht (fun h => ?_) (fun h => ?_)
  · exact kt ((iI_lt (b := 0) ha ⟨by omega, by omega⟩).mp h) H locs ls hR hL hl
  · exact kf (by have h2 := mt (iI_lt (b := 0) ha ⟨by omega, by omega⟩).mpr h; omega) H locs ls hR hL hl
theorem v_icmp_lt (C : Cx G p s m args meth c y cc nL ret ws) {a b : Int} (ha : R32 a) (hb : R32 b) {off : Int} {tgt : Nat} (d : decode cc pc = .ok (.if_icmp .lt off, 3)) (ht : (pc : Int) + off = (tgt : Int)) (kt : a < b → V G p l e R s m args below meth c Q w k z tgt ll st) (kf : b ≤ a → V G p l e R s m args below meth c Q w k z (pc + 3) ll st) : V G p l e R s m args below meth c Q w k z pc ll (.int (iI b) :: .int (iI a) :: st) := by
  intro H locs ls hR hL hl
  refine lv_icmp_lt C.1 C.2.1 d ht (fun h => ?_) (fun h => ?_)
  · exact kt ((iI_lt  ha hb).mp h) H locs ls hR hL hl
  · exact kf (by have h2 := mt (iI_lt  ha hb).mpr h; omega) H locs ls hR hL hl
theorem v_if_ge (C : Cx G p s m args meth c y cc nL ret ws) {a : Int} (ha : R32 a) {off : Int} {tgt : Nat} (d : decode cc pc = .ok (.ifCond .ge off, 3)) (ht : (pc : Int) + off = (tgt : Int)) (kt : 0 ≤ a → V G p l e R s m args below meth c Q w k z tgt ll st) (kf : a < 0 → V G p l e R s m args below meth c Q w k z (pc + 3) ll st) : V G p l e R s m args below meth c Q w k z pc ll (.int (iI a) :: st) := by
  intro H locs ls hR hL hl
  refine lv_if_ge C.1 C.2.1 d ht (fun h => ?_) (fun h => ?_)
  · exact kt ((iI_le (a := 0) (b := a) ⟨by omega, by omega⟩ ha).mp h) H locs ls hR hL hl
  · exact kf (by have h2 := mt (iI_le (a := 0) (b := a) ⟨by omega, by omega⟩ ha).mpr h; omega) H locs ls hR hL hl
theorem v_icmp_ge (C : Cx G p s m args meth c y cc nL ret ws) {a b : Int} (ha : R32 a) (hb : R32 b) {off : Int} {tgt : Nat} (d : decode cc pc = .ok (.if_icmp .ge off, 3)) (ht : (pc : Int) + off = (tgt : Int)) (kt : b ≤ a → V G p l e R s m args below meth c Q w k z tgt ll st) (kf : a < b → V G p l e R s m args below meth c Q w k z (pc + 3) ll st) : V G p l e R s m args below meth c Q w k z pc ll (.int (iI b) :: .int (iI a) :: st) := by
  intro H locs ls hR hL hl
  refine lv_icmp_ge C.1 C.2.1 d ht (fun h => ?_) (fun h => ?_)
  · exact kt ((iI_le (a := b) (b := a) hb ha).mp h) H locs ls hR hL hl
  · exact kf (by have h2 := mt (iI_le (a := b) (b := a) hb ha).mpr h; omega) H locs ls hR hL hl
theorem v_if_gt (C : Cx G p s m args meth c y cc nL ret ws) {a : Int} (ha : R32 a) {off : Int} {tgt : Nat} (d : decode cc pc = .ok (.ifCond .gt off, 3)) (ht : (pc : Int) + off = (tgt : Int)) (kt : 0 < a → V G p l e R s m args below meth c Q w k z tgt ll st) (kf : a ≤ 0 → V G p l e R s m args below meth c Q w k z (pc + 3) ll st) : V G p l e R s m args below meth c Q w k z pc ll (.int (iI a) :: st) := by
  intro H locs ls hR hL hl
  refine lv_if_gt C.1 C.2.1 d ht (fun h => ?_) (fun h => ?_)
  · exact kt ((iI_lt (a := 0) (b := a) ⟨by omega, by omega⟩ ha).mp h) H locs ls hR hL hl
  · exact kf (by have h2 := mt (iI_lt (a := 0) (b := a) ⟨by omega, by omega⟩ ha).mpr h; omega) H locs ls hR hL hl
theorem v_icmp_gt (C : Cx G p s m args meth c y cc nL ret ws) {a b : Int} (ha : R32 a) (hb : R32 b) {off : Int} {tgt : Nat} (d : decode cc pc = .ok (.if_icmp .gt off, 3)) (ht : (pc : Int) + off = (tgt : Int)) (kt : b < a → V G p l e R s m args below meth c Q w k z tgt ll st) (kf : a ≤ b → V G p l e R s m args below meth c Q w k z (pc + 3) ll st) : V G p l e R s m args below meth c Q w k z pc ll (.int (iI b) :: .int (iI a) :: st) := by
  intro H locs ls hR hL hl
  refine lv_icmp_gt C.1 C.2.1 d ht (fun h => ?_) (fun h => ?_)
  · exact kt ((iI_lt (a := b) (b := a) hb ha).mp h) H locs ls hR hL hl
  · exact kf (by have h2 := mt (iI_lt (a := b) (b := a) hb ha).mpr h; omega) H locs ls hR hL hl
theorem v_if_le (C : Cx G p s m args meth c y cc nL ret ws) {a : Int} (ha : R32 a) {off : Int} {tgt : Nat} (d : decode cc pc = .ok (.ifCond .le off, 3)) (ht : (pc : Int) + off = (tgt : Int)) (kt : a ≤ 0 → V G p l e R s m args below meth c Q w k z tgt ll st) (kf : 0 < a → V G p l e R s m args below meth c Q w k z (pc + 3) ll st) : V G p l e R s m args below meth c Q w k z pc ll (.int (iI a) :: st) := by
  intro H locs ls hR hL hl
  refine lv_if_le C.1 C.2.1 d ht (fun h => ?_) (fun h => ?_)
  · exact kt ((iI_le (b := 0) ha ⟨by omega, by omega⟩).mp h) H locs ls hR hL hl
  · exact kf (by have h2 := mt (iI_le (b := 0) ha ⟨by omega, by omega⟩).mpr h; omega) H locs ls hR hL hl
theorem v_icmp_le (C : Cx G p s m args meth c y cc nL ret ws) {a b : Int} (ha : R32 a) (hb : R32 b) {off : Int} {tgt : Nat} (d : decode cc pc = .ok (.if_icmp .le off, 3)) (ht : (pc : Int) + off = (tgt : Int)) (kt : a ≤ b → V G p l e R s m args below meth c Q w k z tgt ll st) (kf : b < a → V G p l e R s m args below meth c Q w k z (pc + 3) ll st) : V G p l e R s m args below meth c Q w k z pc ll (.int (iI b) :: .int (iI a) :: st) := by
  intro H locs ls hR hL hl
  refine lv_icmp_le C.1 C.2.1 d ht (fun h => ?_) (fun h => ?_)
  · exact kt ((iI_le  ha hb).mp h) H locs ls hR hL hl
  · exact kf (by have h2 := mt (iI_le  ha hb).mpr h; omega) H locs ls hR hL hl
theorem lg_cmp_I {a b : Int} (ha : R64 a) (hb : R64 b) : lg_cmp (lI a) (lI b) = iI (if b < a then 1 else if a = b then 0 else -1) := by
  unfold lg_cmp
  by_cases h1 : b < a
  · rw [if_pos (show lI a > lI b from (lI_lt hb ha).mpr h1), if_pos h1]; rfl
  · rw [if_neg (fun q => h1 ((lI_lt hb ha).mp q)), if_neg h1]
    by_cases h2 : a = b
    · rw [if_pos ((lI_eq ha hb).mpr h2), if_pos h2]; rfl
    · rw [if_neg (fun q => h2 ((lI_eq ha hb).mp q)), if_neg h2]; rfl
theorem cmpR (a b : Int) : R32 (if b < a then 1 else if a = b then 0 else -1) := by
  by_cases h : b < a
  · rw [if_pos h]; exact ⟨by omega, by omega⟩
  · rw [if_neg h]
    by_cases h2 : a = b
    · rw [if_pos h2]; exact ⟨by omega, by omega⟩
    · rw [if_neg h2]; exact ⟨by omega, by omega⟩
theorem v_lcmp_eq (C : Cx G p s m args meth c y cc nL ret ws) {a b : Int} (ha : R64 a) (hb : R64 b) {off : Int} {tgt : Nat} (d1 : decode cc pc = .ok (.lcmp, 1)) (d : decode cc (pc + 1) = .ok (.ifCond .eq off, 3)) (ht : ((pc + 1 : Nat) : Int) + off = (tgt : Int)) (kt : a = b → V G p l e R s m args below meth c Q w k z tgt ll st) (kf : ¬ a = b → V G p l e R s m args below meth c Q w k z (pc + 4) ll st) : V G p l e R s m args below meth c Q w k z pc ll (.long (lI b) :: .long (lI a) :: st) := by
  intro H locs ls hR hL hl
  refine W.lcmp C.1 C.2.1 d1 ?_
  rw [lg_cmp_I ha hb]
  refine v_if_eq C (cmpR a b) d ht (fun h => kt ?_) (fun h => kf ?_) H locs ls hR hL hl
  · by_cases h1 : b < a
    · rw [if_pos h1] at h; omega
    · rw [if_neg h1] at h
      by_cases h2 : a = b
      · rw [if_pos h2] at h; omega
      · rw [if_neg h2] at h; omega
  · by_cases h1 : b < a
    · rw [if_pos h1] at h; omega
    · rw [if_neg h1] at h
      by_cases h2 : a = b
      · rw [if_pos h2] at h; omega
      · rw [if_neg h2] at h; omega
theorem v_lcmp_ne (C : Cx G p s m args meth c y cc nL ret ws) {a b : Int} (ha : R64 a) (hb : R64 b) {off : Int} {tgt : Nat} (d1 : decode cc pc = .ok (.lcmp, 1)) (d : decode cc (pc + 1) = .ok (.ifCond .ne off, 3)) (ht : ((pc + 1 : Nat) : Int) + off = (tgt : Int)) (kt : ¬ a = b → V G p l e R s m args below meth c Q w k z tgt ll st) (kf : a = b → V G p l e R s m args below meth c Q w k z (pc + 4) ll st) : V G p l e R s m args below meth c Q w k z pc ll (.long (lI b) :: .long (lI a) :: st) := by
  intro H locs ls hR hL hl
  refine W.lcmp C.1 C.2.1 d1 ?_
  rw [lg_cmp_I ha hb]
  refine v_if_ne C (cmpR a b) d ht (fun h => kt ?_) (fun h => kf ?_) H locs ls hR hL hl
  · by_cases h1 : b < a
    · rw [if_pos h1] at h; omega
    · rw [if_neg h1] at h
      by_cases h2 : a = b
      · rw [if_pos h2] at h; omega
      · rw [if_neg h2] at h; omega
  · by_cases h1 : b < a
    · rw [if_pos h1] at h; omega
    · rw [if_neg h1] at h
      by_cases h2 : a = b
      · rw [if_pos h2] at h; omega
      · rw [if_neg h2] at h; omega
theorem v_lcmp_lt (C : Cx G p s m args meth c y cc nL ret ws) {a b : Int} (ha : R64 a) (hb : R64 b) {off : Int} {tgt : Nat} (d1 : decode cc pc = .ok (.lcmp, 1)) (d : decode cc (pc + 1) = .ok (.ifCond .lt off, 3)) (ht : ((pc + 1 : Nat) : Int) + off = (tgt : Int)) (kt : a < b → V G p l e R s m args below meth c Q w k z tgt ll st) (kf : b ≤ a → V G p l e R s m args below meth c Q w k z (pc + 4) ll st) : V G p l e R s m args below meth c Q w k z pc ll (.long (lI b) :: .long (lI a) :: st) := by
  intro H locs ls hR hL hl
  refine W.lcmp C.1 C.2.1 d1 ?_
  rw [lg_cmp_I ha hb]
  refine v_if_lt C (cmpR a b) d ht (fun h => kt ?_) (fun h => kf ?_) H locs ls hR hL hl
  · by_cases h1 : b < a
    · rw [if_pos h1] at h; omega
    · rw [if_neg h1] at h
      by_cases h2 : a = b
      · rw [if_pos h2] at h; omega
      · rw [if_neg h2] at h; omega
  · by_cases h1 : b < a
    · rw [if_pos h1] at h; omega
    · rw [if_neg h1] at h
      by_cases h2 : a = b
      · rw [if_pos h2] at h; omega
      · rw [if_neg h2] at h; omega
theorem v_lcmp_ge (C : Cx G p s m args meth c y cc nL ret ws) {a b : Int} (ha : R64 a) (hb : R64 b) {off : Int} {tgt : Nat} (d1 : decode cc pc = .ok (.lcmp, 1)) (d : decode cc (pc + 1) = .ok (.ifCond .ge off, 3)) (ht : ((pc + 1 : Nat) : Int) + off = (tgt : Int)) (kt : b ≤ a → V G p l e R s m args below meth c Q w k z tgt ll st) (kf : a < b → V G p l e R s m args below meth c Q w k z (pc + 4) ll st) : V G p l e R s m args below meth c Q w k z pc ll (.long (lI b) :: .long (lI a) :: st) := by
  intro H locs ls hR hL hl
  refine W.lcmp C.1 C.2.1 d1 ?_
  rw [lg_cmp_I ha hb]
  refine v_if_ge C (cmpR a b) d ht (fun h => kt ?_) (fun h => kf ?_) H locs ls hR hL hl
  · by_cases h1 : b < a
    · rw [if_pos h1] at h; omega
    · rw [if_neg h1] at h
      by_cases h2 : a = b
      · rw [if_pos h2] at h; omega
      · rw [if_neg h2] at h; omega
  · by_cases h1 : b < a
    · rw [if_pos h1] at h; omega
    · rw [if_neg h1] at h
      by_cases h2 : a = b
      · rw [if_pos h2] at h; omega
      · rw [if_neg h2] at h; omega
theorem v_lcmp_gt (C : Cx G p s m args meth c y cc nL ret ws) {a b : Int} (ha : R64 a) (hb : R64 b) {off : Int} {tgt : Nat} (d1 : decode cc pc = .ok (.lcmp, 1)) (d : decode cc (pc + 1) = .ok (.ifCond .gt off, 3)) (ht : ((pc + 1 : Nat) : Int) + off = (tgt : Int)) (kt : b < a → V G p l e R s m args below meth c Q w k z tgt ll st) (kf : a ≤ b → V G p l e R s m args below meth c Q w k z (pc + 4) ll st) : V G p l e R s m args below meth c Q w k z pc ll (.long (lI b) :: .long (lI a) :: st) := by
  intro H locs ls hR hL hl
  refine W.lcmp C.1 C.2.1 d1 ?_
  rw [lg_cmp_I ha hb]
  refine v_if_gt C (cmpR a b) d ht (fun h => kt ?_) (fun h => kf ?_) H locs ls hR hL hl
  · by_cases h1 : b < a
    · rw [if_pos h1] at h; omega
    · rw [if_neg h1] at h
      by_cases h2 : a = b
      · rw [if_pos h2] at h; omega
      · rw [if_neg h2] at h; omega
  · by_cases h1 : b < a
    · rw [if_pos h1] at h; omega
    · rw [if_neg h1] at h
      by_cases h2 : a = b
      · rw [if_pos h2] at h; omega
      · rw [if_neg h2] at h; omega
theorem v_lcmp_le (C : Cx G p s m args meth c y cc nL ret ws) {a b : Int} (ha : R64 a) (hb : R64 b) {off : Int} {tgt : Nat} (d1 : decode cc pc = .ok (.lcmp, 1)) (d : decode cc (pc + 1) = .ok (.ifCond .le off, 3)) (ht : ((pc + 1 : Nat) : Int) + off = (tgt : Int)) (kt : a ≤ b → V G p l e R s m args below meth c Q w k z tgt ll st) (kf : b < a → V G p l e R s m args below meth c Q w k z (pc + 4) ll st) : V G p l e R s m args below meth c Q w k z pc ll (.long (lI b) :: .long (lI a) :: st) := by
  intro H locs ls hR hL hl
  refine W.lcmp C.1 C.2.1 d1 ?_
  rw [lg_cmp_I ha hb]
  refine v_if_le C (cmpR a b) d ht (fun h => kt ?_) (fun h => kf ?_) H locs ls hR hL hl
  · by_cases h1 : b < a
    · rw [if_pos h1] at h; omega
    · rw [if_neg h1] at h
      by_cases h2 : a = b
      · rw [if_pos h2] at h; omega
      · rw [if_neg h2] at h; omega
  · by_cases h1 : b < a
    · rw [if_pos h1] at h; omega
    · rw [if_neg h1] at h
      by_cases h2 : a = b
      · rw [if_pos h2] at h; omega
      · rw [if_neg h2] at h; omega
/-! arrays' contents by Ints -/
def aI (n : Int) (g : Int → Int) : vp_A := (n.toNat, .inl (fun j => iI (g (j : Int))))
def aJ (n : Int) (g : Int → Int) : vp_A := (n.toNat, .inr (.inl (fun j => lI (g (j : Int)))))
def aQ (n : Int) (g : Int → Option Nat) : vp_A := (n.toNat, .inr (.inr (.inr (.inr (fun j => g (j : Int))))))
def upI (g : Int → Int) (i x : Int) : Int → Int := fun j => if j = i then x else g j
def upQ (g : Int → Option Nat) (i : Int) (x : Option Nat) : Int → Option Nat := fun j => if j = i then x else g j
theorem upI_eq {g : Int → Int} {i x : Int} : upI g i x i = x := if_pos rfl
theorem upI_ne {g : Int → Int} {i x j : Int} (h : j ≠ i) : upI g i x j = g j := if_neg h
theorem upQ_eq {g : Int → Option Nat} {i : Int} {x : Option Nat} : upQ g i x i = x := if_pos rfl
theorem upQ_ne {g : Int → Option Nat} {i j : Int} {x : Option Nat} (h : j ≠ i) : upQ g i x j = g j := if_neg h
/-- a field found: place idx of this method's pool is field k of class ci -/
def GetF (G : GG) (s : State) (m : MethodId) (args : Array Value) (idx ci k : Nat) : Prop := ∃ (own ref name desc : String) (cf kk i : Nat) (kc : Class) (f : Field), s.vm.findClass own = some m.cls ∧ (Cond.fieldLink own idx ref name desc).before args s = true ∧ s.fieldFound? ref name desc = some (cf, kc, i, f) ∧ f.isStatic = false ∧ f.slot = (gD G).2 ci k ∧ kk = k ∧ ∃ q : vw_C, vwCl[ci]? = some q ∧ k < q.2.2
theorem getF_of (C : Cx G p s m args meth c y cc nL ret ws) (ci k : Nat) {idx : Nat} {T : u_T} {N : Nat} {Cn ref : String} (hc : vwCl[ci]? = some (Cn, T, N)) (hk : k < N) (hin : ∀ w ∈ u_ws Cn T N, w ∈ ws) (hl : Cond.fieldLink y.cls idx ref (T k).2.1 (T k).2.2.1 ∈ ws) (hsame : ∀ x, s.fieldFound? (T k).1 (T k).2.1 (T k).2.2.1 = some x → s.fieldFound? ref (T k).2.1 (T k).2.2.1 = some x) : GetF G s m args idx ci k := by
  obtain ⟨hx, hb, hnl, hown, hts, -, -, hK, -⟩ := id C
  obtain ⟨hS, hfc, kC, hkC, hkind⟩ := hK.1.1 ci _ hc
  obtain ⟨cf, kf, fi, f, hi, hsl⟩ := hS k hk
  exact ⟨_, _, _, _, cf, k, fi, kf, f, hown, hts _ hl, hsame _ hi, (u_facts hfc hkC (u_lays hts hin hk) hi).1, hsl, rfl, _, hc, hk⟩
/-- .. and what may be stored in it -/
def PutF (G : GG) (s : State) (m : MethodId) (args : Array Value) (idx ci k : Nat) (ty : FieldType) : Prop := ∃ (own ref name desc : String) (f : Field), Fd s m args own ref name desc idx f ∧ f.slot = (gD G).2 ci k ∧ (∀ v : Value, narrow ty v = v → fits ty v = true → k2_Sd s f ((gD G).1 ci) v) ∧ ∃ q : vw_C, vwCl[ci]? = some q ∧ k < q.2.2 ∧ ∀ a b, a < q.2.2 → b < q.2.2 → a ≠ b → (gD G).2 ci a ≠ (gD G).2 ci b
theorem putF_of (C : Cx G p s m args meth c y cc nL ret ws) (ci k : Nat) {idx : Nat} {T : u_T} {N : Nat} {Cn ref : String} {ty : FieldType} (ty0 : Nat → FieldType) (hty : ∀ k, k < N → parseFieldDescriptor (T k).2.2.1 = some (ty0 k)) (hnm : ∀ a, a < N → ∀ b, b < N → a ≠ b → (T a).2.1 ≠ (T b).2.1) (hc : vwCl[ci]? = some (Cn, T, N)) (hk : k < N) (hin : ∀ w ∈ u_ws Cn T N, w ∈ ws) (hl : Cond.fieldLink y.cls idx ref (T k).2.1 (T k).2.2.1 ∈ ws) (hsame : ∀ x, s.fieldFound? (T k).1 (T k).2.1 (T k).2.2.1 = some x → s.fieldFound? ref (T k).2.1 (T k).2.2.1 = some x) (hfin : (T k).2.2.2 = false) (hd : parseFieldDescriptor (T k).2.2.1 = some ty) : PutF G s m args idx ci k ty := by
  obtain ⟨hx, hb, hnl, hown, hts, -, -, hK, -⟩ := id C
  have hap := va_apart (own := y.cls) hts hin ty0 hty hnm hK.1 hc
  obtain ⟨hS, hfc, kC, hkC, hkind⟩ := hK.1.1 ci _ hc
  obtain ⟨cf, kf, fi, f, hi, hsl⟩ := hS k hk
  have hlay := hts _ (hin _ (u_in_lay hk))
  unfold u_lay at hlay
  rw [if_neg (by rw [hfin]; decide)] at hlay
  exact ⟨_, _, _, _, f, ⟨hown, hts _ hl, ⟨_, _, _, hsame _ hi⟩, (u_facts hfc hkC (u_lays hts hin hk) hi).1⟩, hsl, fun v hn hfit => u_store hfc hkC hkind hlay hi hd hn hfit, _, hc, hk, hap⟩
/-- a final field, in its class's constructor -/
def PutX (G : GG) (s : State) (m : MethodId) (args : Array Value) (meth : Method) (idx ci k : Nat) (ty : FieldType) : Prop := ∃ (own ref name desc : String) (cf i : Nat) (kc : Class) (f : Field), s.vm.findClass own = some m.cls ∧ (Cond.fieldLink own idx ref name desc).before args s = true ∧ s.fieldFound? ref name desc = some (cf, kc, i, f) ∧ f.isStatic = false ∧ m.cls = cf ∧ meth.name = "<init>" ∧ f.slot = (gD G).2 ci k ∧ (∀ v : Value, narrow ty v = v → fits ty v = true → narrow f.type v = v ∧ s.fitsSlot ((gD G).1 ci) .none f.slot v = true) ∧ ∃ q : vw_C, vwCl[ci]? = some q ∧ k < q.2.2 ∧ ∀ a b, a < q.2.2 → b < q.2.2 → a ≠ b → (gD G).2 ci a ≠ (gD G).2 ci b
theorem putX_of (C : Cx G p s m args meth c y cc nL ret ws) (ci k : Nat) {idx : Nat} {T : u_T} {N : Nat} {Cn ref : String} {ty : FieldType} (ty0 : Nat → FieldType) (hty : ∀ k, k < N → parseFieldDescriptor (T k).2.2.1 = some (ty0 k)) (hnm : ∀ a, a < N → ∀ b, b < N → a ≠ b → (T a).2.1 ≠ (T b).2.1) (hc : vwCl[ci]? = some (Cn, T, N)) (hk : k < N) (hin : ∀ w ∈ u_ws Cn T N, w ∈ ws) (hl : Cond.fieldLink y.cls idx ref (T k).2.1 (T k).2.2.1 ∈ ws) (hsame : ∀ x, s.fieldFound? (T k).1 (T k).2.1 (T k).2.2.1 = some x → s.fieldFound? ref (T k).2.1 (T k).2.2.1 = some x) (hfin : (T k).2.2.2 = true) (hin2 : y.name = "<init>") (hdecl : (T k).1 = y.cls) (hd : parseFieldDescriptor (T k).2.2.1 = some ty) : PutX G s m args meth idx ci k ty := by
  obtain ⟨hx, hb, hnl, hown, hts, -, -, hK, hnam⟩ := id C
  have hap := va_apart (own := y.cls) hts hin ty0 hty hnm hK.1 hc
  obtain ⟨hS, hfc, kC, hkC, hkind⟩ := hK.1.1 ci _ hc
  obtain ⟨cf, kf, fi, f, hi, hsl⟩ := hS k hk
  have hlay := hts _ (hin _ (u_in_lay hk))
  unfold u_lay at hlay
  rw [if_pos hfin] at hlay
  have hcf : m.cls = cf := by
    obtain ⟨_, _, c', _, _, _, -, -, hf', -, -, -, hown2, -⟩ := Cond.laysFinal_spec hlay
    have e1 : c' = cf := by have := hi.symm.trans hf'; simp at this; exact this.1.symm
    rw [hdecl] at hown2
    rw [← e1]; exact Option.some.inj (hown.symm.trans hown2)
  exact ⟨_, _, _, _, cf, fi, kf, f, hown, hts _ hl, hsame _ hi, (u_facts hfc hkC (u_lays hts hin hk) hi).1, hcf, hnam.trans hin2, hsl, fun v hn hfit => u_fits hfc hkC hkind (Or.inr hlay) hi hd hn hfit, _, hc, hk, hap⟩
theorem v_getf (C : Cx G p s m args meth c y cc nL ret ws) {idx ci i a t : Nat} {fs : List Value} {v : Value} (g : GetF G s m args idx ci i) (ha : w a = some (t, .inr (ci, fs))) (hv : fs[i]? = some v) (d : decode cc pc = .ok (.getfield idx, 3)) (kk : V G p l e R s m args below meth c Q w k z (pc + 3) ll (v :: st)) : V G p l e R s m args below meth c Q w k z pc ll (.ref a :: st) := by
  intro H locs ls hR hL hl
  obtain ⟨own, ref, name, desc, cf, kq, i2, kc, f, h1, h2, h3, h4, h5, h6, q, h7, h8⟩ := g
  subst h6
  obtain ⟨-, r, r1, cell, q1, q2, q3, q4⟩ := hR.2.2 _ _ _ ha
  have hr : r = q := Option.some.inj (r1.symm.trans h7)
  subst hr
  refine W.getf C.1 C.2.1 h1 h2 h3 h4 q1 (by rw [q3]; exact fun h => by cases h) (v := v) ?_ rfl rfl d (kk H locs ls hR hL hl)
  rw [h5, q4 _ h8]
  simp [vp_V, hv]
theorem v_putf (C : Cx G p s m args meth c y cc nL ret ws) {idx ci i a t : Nat} {fs : List Value} {v : Value} {ty : FieldType} (g : PutF G s m args idx ci i ty) (ha : w a = some (t, .inr (ci, fs))) (hn : narrow ty v = v) (hf : fits ty v = true) (hlen : i < fs.length) (d : decode cc pc = .ok (.putfield idx, 3)) (kk : V G p l e R s m args below meth c Q (updW w a (t, .inr (ci, fs.set i v))) k z (pc + 3) ll st) : V G p l e R s m args below meth c Q w k z pc ll (v :: .ref a :: st) := by
  intro H locs ls hR hL hl
  obtain ⟨own, ref, name, desc, f, h1, h2, h3, q, h4, h5, h6⟩ := g
  obtain ⟨hga, r, r1, cell, q1, q2, q3, q4⟩ := hR.2.2 _ _ _ ha
  have hr : r = q := Option.some.inj (r1.symm.trans h4)
  subst hr
  refine W.putK C.1 C.2.1 h1 (by rw [q2]; exact h3 v hn hf) q1 q3 (by rw [h2]; exact k2_hasslot (q4 i h5)) rfl rfl d fun H' e1 e2 e3 => ?_
  rw [h2] at e1 ⊢
  exact kk H' _ ls (hR.put ha e2 e3 ⟨_, h4, t_OB.to (V := updV (vp_V fs) i v) ⟨_, e1, q2, q3, t_set q4 h6 h5 v⟩ (fun j _ => vp_updV_set hlen v j)⟩) (fun z hz => by
    rcases List.mem_append.mp hz with h | h
    · exact hL z h
    · rw [List.mem_singleton.mp h]; exact hga) hl
theorem v_putX (C : Cx G p s m args meth c y cc nL ret ws) {idx ci i a t : Nat} {fs : List Value} {v : Value} {ty : FieldType} (g : PutX G s m args meth idx ci i ty) (ha : w a = some (t, .inr (ci, fs))) (hn : narrow ty v = v) (hf : fits ty v = true) (hlen : i < fs.length) (d : decode cc pc = .ok (.putfield idx, 3)) (kk : V G p l e R s m args below meth c Q (updW w a (t, .inr (ci, fs.set i v))) k z (pc + 3) ll st) : V G p l e R s m args below meth c Q w k z pc ll (v :: .ref a :: st) := by
  intro H locs ls hR hL hl
  obtain ⟨own, ref, name, desc, cf, i2, kc, f, h1, h2, h3, h4, h5, h6, h7, h8, q, h9, h10, h11⟩ := g
  obtain ⟨hga, r, r1, cell, q1, q2, q3, q4⟩ := hR.2.2 _ _ _ ha
  have hr : r = q := Option.some.inj (r1.symm.trans h9)
  subst hr
  refine W.putFinK C.1 C.2.1 h1 h2 h3 h4 h5 h6 (by rw [q2]; exact h8 v hn hf) q1 q3 (by rw [h7]; exact k2_hasslot (q4 i h10)) rfl rfl d fun H' e1 e2 e3 => ?_
  rw [h7] at e1 ⊢
  exact kk H' _ ls (hR.put ha e2 e3 ⟨_, h9, t_OB.to (V := updV (vp_V fs) i v) ⟨_, e1, q2, q3, t_set q4 h11 h10 v⟩ (fun j _ => vp_updV_set hlen v j)⟩) (fun z hz => by
    rcases List.mem_append.mp hz with h | h
    · exact hL z h
    · rw [List.mem_singleton.mp h]; exact hga) hl
theorem aI_clampN {i : Int} (hi : R32 i) (h0 : 0 ≤ i) : (((iI i).toNatClampNeg : Nat) : Int) = i := by rw [iI_clamp hi]; exact Int.toNat_of_nonneg h0
theorem locs_put {G : GG} {locs : List Loc} {a i : Nat} (hL : ∀ q ∈ locs, gN G ≤ q.base) (ha : gN G ≤ a) : ∀ q ∈ locs ++ [(⟨a, i⟩ : Loc)], gN G ≤ q.base := fun z hz => by
  rcases List.mem_append.mp hz with h | h
  · exact hL z h
  · rw [List.mem_singleton.mp h]; exact ha
theorem nat_lt_of_clamp {i n : Int} {j : Nat} (hi : R32 i) (h0 : 0 ≤ i) : j = (iI i).toNatClampNeg ↔ (j : Int) = i := by
  constructor
  · intro h; rw [h]; exact aI_clampN hi h0
  · intro h; have := aI_clampN hi h0; omega
theorem v_iald (C : Cx G p s m args meth c y cc nL ret ws) {a t : Nat} {n i : Int} {g : Int → Int} (ha : w a = some (t, .inl (gI G, aI n g))) (hi : R32 i) (h0 : 0 ≤ i) (hn : i < n) (d : decode cc pc = .ok (.iaload, 1)) (kk : V G p l e R s m args below meth c Q w k z (pc + 1) ll (.int (iI (g i)) :: st)) : V G p l e R s m args below meth c Q w k z pc ll (.int (iI i) :: .ref a :: st) := by
  intro H locs ls hR hL hl
  refine va_iald C.1 C.2.1 C.2.2.2.2.2.2.2.1.1 (hR.one ha) 0 1 rfl rfl (iI_in hi h0 hn) d ?_
  have h2 := kk H locs ls hR hL hl
  rw [← aI_clampN hi h0] at h2
  exact h2
theorem v_bald (C : Cx G p s m args meth c y cc nL ret ws) {a t : Nat} {n i : Int} {g : Int → Int} (ha : w a = some (t, .inl (gB G, aI n g))) (hi : R32 i) (h0 : 0 ≤ i) (hn : i < n) (d : decode cc pc = .ok (.baload, 1)) (kk : V G p l e R s m args below meth c Q w k z (pc + 1) ll (.int (iI (g i)) :: st)) : V G p l e R s m args below meth c Q w k z pc ll (.int (iI i) :: .ref a :: st) := by
  intro H locs ls hR hL hl
  refine va_bald C.1 C.2.1 C.2.2.2.2.2.2.2.1.1 (hR.one ha) 0 0 rfl rfl (iI_in hi h0 hn) d ?_
  have h2 := kk H locs ls hR hL hl
  rw [← aI_clampN hi h0] at h2
  exact h2
theorem v_lald (C : Cx G p s m args meth c y cc nL ret ws) {a t : Nat} {n i : Int} {g : Int → Int} (ha : w a = some (t, .inl (gJ G, aJ n g))) (hi : R32 i) (h0 : 0 ≤ i) (hn : i < n) (d : decode cc pc = .ok (.laload, 1)) (kk : V G p l e R s m args below meth c Q w k z (pc + 1) ll (.long (lI (g i)) :: st)) : V G p l e R s m args below meth c Q w k z pc ll (.int (iI i) :: .ref a :: st) := by
  intro H locs ls hR hL hl
  refine va_lald C.1 C.2.1 C.2.2.2.2.2.2.2.1.1 (hR.one ha) 0 2 rfl rfl (iI_in hi h0 hn) d ?_
  have h2 := kk H locs ls hR hL hl
  rw [← aI_clampN hi h0] at h2
  exact h2
theorem v_aald (C : Cx G p s m args meth c y cc nL ret ws) {a t : Nat} {n i : Int} {g : Int → Option Nat} (ha : w a = some (t, .inl (gO G, aQ n g))) (hi : R32 i) (h0 : 0 ≤ i) (hn : i < n) (d : decode cc pc = .ok (.aaload, 1)) (kk : V G p l e R s m args below meth c Q w k z (pc + 1) ll (va_rf (g i) :: st)) : V G p l e R s m args below meth c Q w k z pc ll (.int (iI i) :: .ref a :: st) := by
  intro H locs ls hR hL hl
  refine va_aldq C.1 C.2.1 C.2.2.2.2.2.2.2.1.1 (hR.one ha) 0 3 (C := "java/lang/Object") rfl rfl (iI_in hi h0 hn) d ?_
  have h2 := kk H locs ls hR hL hl
  rw [← aI_clampN hi h0] at h2
  exact h2
theorem v_iast (C : Cx G p s m args meth c y cc nL ret ws) {a t : Nat} {n i x : Int} {g : Int → Int} (ha : w a = some (t, .inl (gI G, aI n g))) (hi : R32 i) (h0 : 0 ≤ i) (hn : i < n) (d : decode cc pc = .ok (.iastore, 1)) (kk : V G p l e R s m args below meth c Q (updW w a (t, .inl (gI G, aI n (upI g i x)))) k z (pc + 1) ll st) : V G p l e R s m args below meth c Q w k z pc ll (.int (iI x) :: .int (iI i) :: .ref a :: st) := by
  intro H locs ls hR hL hl
  have hc := (hR.2.2 _ _ _ ha).2
  refine W.iast C.1 C.2.1 hc ((C.2.2.2.2.2.2.2.1.1.2 1 _ rfl).1 n.toNat (fun j => .int (iI (g j)))) (fun q => by cases q) (by show ¬ (iI i < 0 ∨ (arrV _ _ _).slots.size ≤ _); rw [arrV_size]; exact iI_in hi h0 hn) rfl rfl d fun H1 e z oq => ?_
  refine kk H1 _ ls (hR.put ha z oq ?_) (locs_put hL (hR.2.2 _ _ _ ha).1) hl
  show H1[a]? = some (vp_cell _ _)
  rw [e, aI, aI, vp_cell_i, vp_cell_i, arrV_store]
  congr 2
  funext q
  by_cases hq : q = (iI i).toNatClampNeg
  · have h2 := (nat_lt_of_clamp (n := n) hi h0).mp hq
    refine (if_pos hq).trans ?_
    exact congrArg _ (congrArg _ (Eq.symm (if_pos h2)))
  · have h2 := mt (nat_lt_of_clamp (n := n) hi h0).mpr hq
    refine (if_neg hq).trans ?_
    exact congrArg _ (congrArg _ (Eq.symm (if_neg h2)))
theorem v_last (C : Cx G p s m args meth c y cc nL ret ws) {a t : Nat} {n i x : Int} {g : Int → Int} (ha : w a = some (t, .inl (gJ G, aJ n g))) (hi : R32 i) (h0 : 0 ≤ i) (hn : i < n) (d : decode cc pc = .ok (.lastore, 1)) (kk : V G p l e R s m args below meth c Q (updW w a (t, .inl (gJ G, aJ n (upI g i x)))) k z (pc + 1) ll st) : V G p l e R s m args below meth c Q w k z pc ll (.long (lI x) :: .int (iI i) :: .ref a :: st) := by
  intro H locs ls hR hL hl
  have hc := (hR.2.2 _ _ _ ha).2
  refine W.last C.1 C.2.1 hc ((C.2.2.2.2.2.2.2.1.1.2 2 _ rfl).1 n.toNat (fun j => .long (lI (g j)))) (fun q => by cases q) (by show ¬ (iI i < 0 ∨ (arrV _ _ _).slots.size ≤ _); rw [arrV_size]; exact iI_in hi h0 hn) rfl rfl d fun H1 e z oq => ?_
  refine kk H1 _ ls (hR.put ha z oq ?_) (locs_put hL (hR.2.2 _ _ _ ha).1) hl
  show H1[a]? = some (vp_cell _ _)
  rw [e, aJ, aJ, vp_cell_l, vp_cell_l, arrV_store]
  congr 2
  funext q
  by_cases hq : q = (iI i).toNatClampNeg
  · have h2 := (nat_lt_of_clamp (n := n) hi h0).mp hq
    refine (if_pos hq).trans ?_
    exact congrArg _ (congrArg _ (Eq.symm (if_pos h2)))
  · have h2 := mt (nat_lt_of_clamp (n := n) hi h0).mpr hq
    refine (if_neg hq).trans ?_
    exact congrArg _ (congrArg _ (Eq.symm (if_neg h2)))
theorem v_bast (C : Cx G p s m args meth c y cc nL ret ws) {a t : Nat} {n i x r : Int} {g : Int → Int} (ha : w a = some (t, .inl (gB G, aI n g))) (hi : R32 i) (h0 : 0 ≤ i) (hn : i < n) (hr : (iI x).toInt8.toInt32 = iI r) (d : decode cc pc = .ok (.bastore, 1)) (kk : V G p l e R s m args below meth c Q (updW w a (t, .inl (gB G, aI n (upI g i r)))) k z (pc + 1) ll st) : V G p l e R s m args below meth c Q w k z pc ll (.int (iI x) :: .int (iI i) :: .ref a :: st) := by
  intro H locs ls hR hL hl
  have hc := (hR.2.2 _ _ _ ha).2
  refine W.bast C.1 C.2.1 hc ((C.2.2.2.2.2.2.2.1.1.2 0 _ rfl).1 n.toNat (fun j => .int (iI (g j)))) (fun q => by cases q) (by show ¬ (iI i < 0 ∨ (arrV _ _ _).slots.size ≤ _); rw [arrV_size]; exact iI_in hi h0 hn) rfl rfl d fun H1 e z oq => ?_
  refine kk H1 _ ls (hR.put ha z oq ?_) (locs_put hL (hR.2.2 _ _ _ ha).1) hl
  show H1[a]? = some (vp_cell _ _)
  rw [show narrow .byte (.int (iI x)) = .int ((iI x).toInt8.toInt32) from rfl, hr] at e
  rw [e, aI, aI, vp_cell_i, vp_cell_i, arrV_store]
  congr 2
  funext q
  by_cases hq : q = (iI i).toNatClampNeg
  · have h2 := (nat_lt_of_clamp (n := n) hi h0).mp hq
    refine (if_pos hq).trans ?_
    exact congrArg _ (congrArg _ (Eq.symm (if_pos h2)))
  · have h2 := mt (nat_lt_of_clamp (n := n) hi h0).mpr hq
    refine (if_neg hq).trans ?_
    exact congrArg _ (congrArg _ (Eq.symm (if_neg h2)))
theorem v_aast (C : Cx G p s m args meth c y cc nL ret ws) {a t v tv ci : Nat} {n i : Int} {vs : List Value} {q : vw_C} {g : Int → Option Nat} (ha : w a = some (t, .inl (gO G, aQ n g))) (hv : w v = some (tv, .inr (ci, vs))) (hq : vwCl[ci]? = some q) (hca : (q.1, "java/lang/Object") ∈ kkC) (hi : R32 i) (h0 : 0 ≤ i) (hn : i < n) (d : decode cc pc = .ok (.aastore, 1)) (kk : V G p l e R s m args below meth c Q (updW w a (t, .inl (gO G, aQ n (upQ g i (some v))))) k z (pc + 1) ll st) : V G p l e R s m args below meth c Q w k z pc ll (.ref v :: .int (iI i) :: .ref a :: st) := by
  intro H locs ls hR hL hl
  have hK := C.2.2.2.2.2.2.2.1
  have hc := (hR.2.2 _ _ _ ha).2
  obtain ⟨-, r', hr', cellV, g1, g2, g3, -⟩ := hR.2.2 _ _ _ hv
  have hcls := (hK.1.1 ci q hq).2
  obtain ⟨kA, comp, k1, k2, k3, -⟩ := (hK.1.2 3 _ rfl).2
  obtain ⟨kE, hkE, -⟩ := Vm.findClass_spec k3
  obtain ⟨c0, t1, f1, f2, f3⟩ := Cond.castable_spec (va_Nw.use (A := args) rfl (hK.2.2.2.2 _ hca))
  cases hcls.1.symm.trans f1
  cases k3.symm.trans f2
  obtain ⟨kC, hkC, -⟩ := hcls.2
  have hin := iI_in hi h0 hn
  refine W.aast C.1 C.2.1 hc (fun q h => by cases h) (fun h => by cases h) k1 k2 rfl hkE ⟨fun q => hin (Or.inl q), by show _ < (arrV _ _ _).slots.size; rw [arrV_size]; exact Nat.not_le.mp fun q => hin (Or.inr q)⟩ g1 (fun q h => by rw [g3] at h; cases h) (by rw [g2]; exact hkC) (by rw [g2]; exact f3) rfl rfl d fun H1 e z oq => ?_
  refine kk H1 _ ls (hR.put ha z oq ?_) (locs_put hL (hR.2.2 _ _ _ ha).1) hl
  show H1[a]? = some (vp_cell _ _)
  rw [e, aQ, aQ, vp_cell_q, vp_cell_q, arrV_store]
  congr 2
  funext q
  by_cases hq : q = (iI i).toNatClampNeg
  · have h2 := (nat_lt_of_clamp (n := n) hi h0).mp hq
    refine (if_pos hq).trans ?_
    exact congrArg va_rf (Eq.symm (if_pos h2) : some v = upQ g i (some v) q)
  · have h2 := mt (nat_lt_of_clamp (n := n) hi h0).mpr hq
    refine (if_neg hq).trans ?_
    refine congrArg _ (Eq.symm (if_neg h2))
theorem v_aastN (C : Cx G p s m args meth c y cc nL ret ws) {a t : Nat} {n i : Int} {g : Int → Option Nat} (ha : w a = some (t, .inl (gO G, aQ n g))) (hi : R32 i) (h0 : 0 ≤ i) (hn : i < n) (d : decode cc pc = .ok (.aastore, 1)) (kk : V G p l e R s m args below meth c Q (updW w a (t, .inl (gO G, aQ n (upQ g i none)))) k z (pc + 1) ll st) : V G p l e R s m args below meth c Q w k z pc ll (.null :: .int (iI i) :: .ref a :: st) := by
  intro H locs ls hR hL hl
  have hK := C.2.2.2.2.2.2.2.1
  have hin := iI_in hi h0 hn
  refine va_WaastN (C := "java/lang/Object") C.1 C.2.1 (hR.2.2 _ _ _ ha).2 ((hK.1.2 3 _ rfl).1 n.toNat (fun j => va_rf (g j))) (fun h => by cases h) (by show ¬ (iI i < 0 ∨ (arrV _ _ _).slots.size ≤ _); rw [arrV_size]; exact hin) rfl rfl d fun H1 e z oq => ?_
  refine kk H1 _ ls (hR.put ha z oq ?_) (locs_put hL (hR.2.2 _ _ _ ha).1) hl
  show H1[a]? = some (vp_cell _ _)
  rw [e, aQ, aQ, vp_cell_q, vp_cell_q, arrV_store]
  congr 2
  funext q
  by_cases hq : q = (iI i).toNatClampNeg
  · have h2 := (nat_lt_of_clamp (n := n) hi h0).mp hq
    refine (if_pos hq).trans ?_
    exact congrArg va_rf (Eq.symm (if_pos h2) : none = upQ g i none q)
  · have h2 := mt (nat_lt_of_clamp (n := n) hi h0).mpr hq
    refine (if_neg hq).trans ?_
    refine congrArg _ (Eq.symm (if_neg h2))
theorem v_alen (C : Cx G p s m args meth c y cc nL ret ws) {a t : Nat} {n : Int} {cA : ClassId} {x : vp_A} {i : Nat} {ty : FieldType} (ha : w a = some (t, .inl (cA, x))) (ht : (gT G)[i]? = some (cA, ty)) (hx : (x.1 : Int) = n) (d : decode cc pc = .ok (.arraylength, 1)) (kk : V G p l e R s m args below meth c Q w k z (pc + 1) ll (.int (iI n) :: st)) : V G p l e R s m args below meth c Q w k z pc ll (.ref a :: st) := by
  intro H locs ls hR hL hl
  refine va_alen C.1 C.2.1 C.2.2.2.2.2.2.2.1.1 (hR.one ha) 0 i rfl ht (v := iI n) ?_ d (kk H locs ls hR hL hl)
  rw [← hx]
  exact (Int32.ofInt_eq_ofNat).symm
theorem v_new (C : Cx G p s m args meth c y cc nL ret ws) {idx ci : Nat} {T : u_T} {N : Nat} {Cn : String} {fs : List Value} (t : Nat) (ty0 : Nat → FieldType) (hty : ∀ k, k < N → parseFieldDescriptor (T k).2.2.1 = some (ty0 k)) (hc : vwCl[ci]? = some (Cn, T, N)) (hin : ∀ w ∈ u_ws Cn T N, w ∈ ws) (h1 : Cond.classLink y.cls idx Cn ∈ ws) (h2 : Cond.instantiable Cn N ∈ ws) (h3 : Cond.initialized Cn ∈ ws) (hfs : ∀ j, j < N → defaultValue (ty0 j) = vp_V fs j) (hcells : k + 1 ≤ R.cells) (hslots : z + N ≤ R.slots) (d : decode cc pc = .ok (.new idx, 3))
    (kk : ∀ a : Nat, w a = none → V G p l e R s m args below meth c Q (updW w a (t, .inr (ci, fs))) (k + 1) (z + N) (pc + 3) ll (.ref a :: st)) : V G p l e R s m args below meth c Q w k z pc ll st := by
  intro H locs ls hR hL hl
  obtain ⟨hx, hb, hnl, hown, hts, -, -, hK, -⟩ := id C
  have hKn := hK.1.1 ci _ hc
  refine W.newcK hx hb hown (hts _ h1) (hts _ h2) (hts _ h3) rfl d hcells hslots hKn.2.1 rfl fun H1 kC hkC e1 z1 o1 => ?_
  exact kk H.size hR.fresh H1 locs ls (hR.new (by omega) o1 ⟨_, hc, (u_born ty0 hts hin hKn hkC e1 hty).to hfs⟩) hL hl
theorem v_newI (C : Cx G p s m args meth c y cc nL ret ws) {n : Int} (t : Nat) (harr : Cond.arrayClass .int ∈ ws) (h0 : 0 ≤ n) (hn : n ≤ 60000000) (hcells : k + 1 ≤ R.cells) (hslots : z + n.toNat ≤ R.slots) (d : decode cc pc = .ok (.newarray .int, 2))
    (kk : ∀ a : Nat, w a = none → V G p l e R s m args below meth c Q (updW w a (t, .inl (gI G, aI n (fun _ => 0)))) (k + 1) (z + n.toNat) (pc + 2) ll (.ref a :: st)) : V G p l e R s m args below meth c Q w k z pc ll (.int (iI n) :: st) := by
  intro H locs ls hR hL hl
  obtain ⟨hx, hb, hnl, hown, hts, -, -, hK, -⟩ := id C
  have hr : R32 n := ⟨by omega, by omega⟩
  refine va_newaK (atype := .int) hx hb (hts _ harr) rfl d rfl (fun q => by have := (iI_lt (b := 0) hr ⟨by omega, by omega⟩).mp q; omega) (iI_clamp hr) (by show n.toNat * 4 ≤ 536870912; omega) hcells hslots rfl fun H1 cA e1 z1 o1 hAr hNm => ?_
  have hcA : cA = gI G := by
    have h9 := (hK.1.2 1 _ rfl).2
    exact Option.some.inj (hNm.symm.trans h9)
  subst hcA
  exact kk H.size hR.fresh H1 locs ls (hR.new (by omega) o1 (by show H1[H.size]? = some (vp_cell _ _); rw [e1]; rfl)) hL hl
theorem v_newB (C : Cx G p s m args meth c y cc nL ret ws) {n : Int} (t : Nat) (harr : Cond.arrayClass .byte ∈ ws) (h0 : 0 ≤ n) (hn : n ≤ 60000000) (hcells : k + 1 ≤ R.cells) (hslots : z + n.toNat ≤ R.slots) (d : decode cc pc = .ok (.newarray .byte, 2))
    (kk : ∀ a : Nat, w a = none → V G p l e R s m args below meth c Q (updW w a (t, .inl (gB G, aI n (fun _ => 0)))) (k + 1) (z + n.toNat) (pc + 2) ll (.ref a :: st)) : V G p l e R s m args below meth c Q w k z pc ll (.int (iI n) :: st) := by
  intro H locs ls hR hL hl
  obtain ⟨hx, hb, hnl, hown, hts, -, -, hK, -⟩ := id C
  have hr : R32 n := ⟨by omega, by omega⟩
  refine va_newaK (atype := .byte) hx hb (hts _ harr) rfl d rfl (fun q => by have := (iI_lt (b := 0) hr ⟨by omega, by omega⟩).mp q; omega) (iI_clamp hr) (by show n.toNat * 1 ≤ 536870912; omega) hcells hslots rfl fun H1 cA e1 z1 o1 hAr hNm => ?_
  have hcA : cA = gB G := by
    have h9 := (hK.1.2 0 _ rfl).2
    exact Option.some.inj (hNm.symm.trans h9)
  subst hcA
  exact kk H.size hR.fresh H1 locs ls (hR.new (by omega) o1 (by show H1[H.size]? = some (vp_cell _ _); rw [e1]; rfl)) hL hl
theorem v_newJ (C : Cx G p s m args meth c y cc nL ret ws) {n : Int} (t : Nat) (harr : Cond.arrayClass .long ∈ ws) (h0 : 0 ≤ n) (hn : n ≤ 60000000) (hcells : k + 1 ≤ R.cells) (hslots : z + n.toNat ≤ R.slots) (d : decode cc pc = .ok (.newarray .long, 2))
    (kk : ∀ a : Nat, w a = none → V G p l e R s m args below meth c Q (updW w a (t, .inl (gJ G, aJ n (fun _ => 0)))) (k + 1) (z + n.toNat) (pc + 2) ll (.ref a :: st)) : V G p l e R s m args below meth c Q w k z pc ll (.int (iI n) :: st) := by
  intro H locs ls hR hL hl
  obtain ⟨hx, hb, hnl, hown, hts, -, -, hK, -⟩ := id C
  have hr : R32 n := ⟨by omega, by omega⟩
  refine va_newaK (atype := .long) hx hb (hts _ harr) rfl d rfl (fun q => by have := (iI_lt (b := 0) hr ⟨by omega, by omega⟩).mp q; omega) (iI_clamp hr) (by show n.toNat * 8 ≤ 536870912; omega) hcells hslots rfl fun H1 cA e1 z1 o1 hAr hNm => ?_
  have hcA : cA = gJ G := by
    have h9 := (hK.1.2 2 _ rfl).2
    exact Option.some.inj (hNm.symm.trans h9)
  subst hcA
  exact kk H.size hR.fresh H1 locs ls (hR.new (by omega) o1 (by show H1[H.size]? = some (vp_cell _ _); rw [e1]; rfl)) hL hl
theorem v_objInit (C : Cx G p s m args meth c y cc nL ret ws) {a idx : Nat} (h1 : Cond.methodLink y.cls idx objectInit ∈ ws) (h2 : Cond.instanceMethod objectInit ∈ ws) (h3 : Cond.code objectInit ⟨#[0xb1]⟩ 1 none ∈ ws) (hf : 1 ≤ R.frames) (hlo : (st.map fun v => v.category).sum + 12 ≤ R.locals) (d : decode cc pc = .ok (.invokespecial idx, 3)) (kk : V G p l e R s m args below meth c Q w k z (pc + 3) ll st) : V G p l e R s m args below meth c Q w k z pc ll (.ref a :: st) := by
  intro H locs ls hR hL hl
  obtain ⟨hx, hb, hnl, hown, hts, -⟩ := id C
  exact W.objInit hx hb hown (hts _ h1) (hts _ h2) (hts _ h3) rfl hl.1 rfl d hf (by show 2 * 0 + _ + 12 ≤ _; omega) (kk H locs ls hR hL hl)
theorem v_gets (C : Cx G p s m args meth c y cc nL ret ws) {idx : Nat} (h1 : Cond.fieldLink y.cls idx "java/util/ArrayList" "DEFAULTCAPACITY_EMPTY_ELEMENTDATA" "[Ljava/lang/Object;" ∈ ws) (d : decode cc pc = .ok (.getstatic idx, 3)) (kk : V G p l e R s m args below meth c Q w k z (pc + 3) ll (.ref (gE G) :: st)) : V G p l e R s m args below meth c Q w k z pc ll st := by
  intro H locs ls hR hL hl
  obtain ⟨hx, hb, hnl, hown, hts, -, -, hK, -⟩ := id C
  obtain ⟨cf, kf, fi, f, a, cell, g1, g2, g3, g4, g5, g6, g7, g8⟩ := hK.2.1.1
  exact W.gets hx hb hown (hts _ h1) g1 g2 g3 g4 (by rw [hR.2.1 a (Nat.lt_of_not_le g8)]; exact g5) (fun e => by rw [e] at g6; cases g6) g7 rfl d (kk H locs ls hR hL hl)
theorem v_alenE (C : Cx G p s m args meth c y cc nL ret ws) (d : decode cc pc = .ok (.arraylength, 1)) (kk : V G p l e R s m args below meth c Q w k z (pc + 1) ll (.int (iI 0) :: st)) : V G p l e R s m args below meth c Q w k z pc ll (.ref (gE G) :: st) := by
  intro H locs ls hR hL hl
  have hK := C.2.2.2.2.2.2.2.1
  obtain ⟨f, hf⟩ := hK.2.1.2.2
  exact W.alen (n := iI 0) C.1 C.2.1 (by rw [hR.2.1 _ hK.2.1.2.1]; exact hf) ((hK.1.2 3 _ rfl).1 0 (fun j => va_rf (f j))) (by show (arrV _ _ _).slots.size.toInt32 = iI 0; rw [arrV_size]; rfl) rfl rfl d (kk H locs ls hR hL hl)
theorem v_castY (C : Cx G p s m args meth c y cc nL ret ws) {a t ci idx : Nat} {vs : List Value} {q : vw_C} {nm : String} (ha : w a = some (t, .inr (ci, vs))) (hq : vwCl[ci]? = some q) (h1 : Cond.classLink y.cls idx nm ∈ ws) (hnm : nm = q.1) (d : decode cc pc = .ok (.checkcast idx, 3)) (kk : V G p l e R s m args below meth c Q w k z (pc + 3) ll (.ref a :: st)) : V G p l e R s m args below meth c Q w k z pc ll (.ref a :: st) := by
  intro H locs ls hR hL hl
  obtain ⟨hx, hb, hnl, hown, hts, -, -, hK, -⟩ := id C
  subst hnm
  refine va_castS hx hb hown (hts _ h1) (hK.1.1 ci q hq).2 ?_ d (kk H locs ls hR hL hl)
  obtain ⟨-, r', hr', cellV, g1, g2, g3, -⟩ := hR.2.2 _ _ _ ha
  exact ⟨cellV, g1, by rw [g3]; rfl, by rw [g2]; exact (hK.1.1 ci q hq).2.1⟩
/-- what a method's end owes, by the world -/
def vQ (G : GG) (post : Option Value → Wd → Prop) : Array Value → State → Outcome → State → Prop := fun _ _ oc t => ∃ (v : Option Value) (w' : Wd), oc = .returned v ∧ post v w' ∧ Rep G w' t.heap ∧ KK G t
def pI (post : Int → Wd → Prop) : Option Value → Wd → Prop := fun v w' => ∃ x : Int, v = some (.int (iI x)) ∧ post x w'
def pL (post : Int → Wd → Prop) : Option Value → Wd → Prop := fun v w' => ∃ x : Int, v = some (.long (lI x)) ∧ post x w'
def pV (post : Wd → Prop) : Option Value → Wd → Prop := fun v w' => v = none ∧ post w'
def pR (post : Option Nat → Wd → Prop) : Option Value → Wd → Prop := fun v w' => ∃ r : Option Nat, v = some (va_rf r) ∧ post r w'
def PcW (G : GG) (av : List Value) (w : Wd) : Array Value → State → Prop := va_Pc av (fun U => Rep G w U.heap ∧ KK G U)
/-- a method's contract over the whole world -/
def MG (G : GG) (l : Launch) (y : MethodName) (ws : List Cond) (F L mc ms : Nat) (av : List Value) (w : Wd) (post : Option Value → Wd → Prop) : Prop :=
  Met l y ws { frames := F, cells := mc, slots := ms, locals := L } (PcW G av w) (vQ G post) mc ms (gF G)
theorem PcW.blind {av : List Value} : FrameBlind (PcW G av w) := fun a U g mk q => by
  obtain ⟨q1, q2, q3⟩ := q
  exact ⟨q1, q2, KK.same (u := U) (U := U.calling g mk a) rfl q3⟩
abbrev MQW (G : GG) (below : List Frame) (args : Array Value) (s : State) (mc ms : Nat) (post : Option Value → Wd → Prop) : State → Prop := MQ below (vQ G post) args s mc ms (gF G)
theorem v_iret (C : Cx G p s m args meth c y cc nL ret ws) {mc ms : Nat} {post : Int → Wd → Prop} {x : Int} (hr : ret = some .int) (d : decode cc pc = .ok (.ireturn, 1)) (hk : k ≤ mc) (hz : z ≤ ms) (hp : post x w) : V G p l e R s m args below meth c (MQW G below args s mc ms (pI post)) w k z pc ll [.int (iI x)] := by
  intro H locs ls hR hL hl
  refine W.widen hk hz ?_
  exact W.iret C.1 C.2.1 (C.2.2.2.2.2.1.trans hr) (fun t ht hW => ⟨_, w, rfl, ⟨x, rfl, hp⟩, by rw [ht]; exact hR, KK.warm hW C.2.2.2.2.2.2.2.1⟩) hL d C.2.2.2.2.2.2.1
theorem v_zret (C : Cx G p s m args meth c y cc nL ret ws) {mc ms : Nat} {post : Int → Wd → Prop} {x : Int} (hr : ret = some .boolean) (hb : x = 0 ∨ x = 1) (d : decode cc pc = .ok (.ireturn, 1)) (hk : k ≤ mc) (hz : z ≤ ms) (hp : post x w) : V G p l e R s m args below meth c (MQW G below args s mc ms (pI post)) w k z pc ll [.int (iI x)] := by
  intro H locs ls hR hL hl
  refine W.widen hk hz ?_
  exact W.zret C.1 C.2.1 (C.2.2.2.2.2.1.trans hr) (by rcases hb with rfl | rfl <;> rfl) (fun t ht hW => ⟨_, w, rfl, ⟨x, rfl, hp⟩, by rw [ht]; exact hR, KK.warm hW C.2.2.2.2.2.2.2.1⟩) hL d C.2.2.2.2.2.2.1
theorem v_lret (C : Cx G p s m args meth c y cc nL ret ws) {mc ms : Nat} {post : Int → Wd → Prop} {x : Int} (hr : ret = some .long) (d : decode cc pc = .ok (.lreturn, 1)) (hk : k ≤ mc) (hz : z ≤ ms) (hp : post x w) : V G p l e R s m args below meth c (MQW G below args s mc ms (pL post)) w k z pc ll [.long (lI x)] := by
  intro H locs ls hR hL hl
  refine W.widen hk hz ?_
  exact W.lret C.1 C.2.1 (C.2.2.2.2.2.1.trans hr) (fun t ht hW => ⟨_, w, rfl, ⟨x, rfl, hp⟩, by rw [ht]; exact hR, KK.warm hW C.2.2.2.2.2.2.2.1⟩) hL d C.2.2.2.2.2.2.1
theorem v_vret (C : Cx G p s m args meth c y cc nL ret ws) {mc ms : Nat} {post : Wd → Prop}  (hr : ret = none) (d : decode cc pc = .ok (.return_, 1)) (hk : k ≤ mc) (hz : z ≤ ms) (hp : post w) : V G p l e R s m args below meth c (MQW G below args s mc ms (pV post)) w k z pc ll [] := by
  intro H locs ls hR hL hl
  refine W.widen hk hz ?_
  exact W.vret C.1 C.2.1 (C.2.2.2.2.2.1.trans hr) (fun t ht hW => ⟨_, w, rfl, ⟨rfl, hp⟩, by rw [ht]; exact hR, KK.warm hW C.2.2.2.2.2.2.2.1⟩) hL d C.2.2.2.2.2.2.1
theorem v_aret (C : Cx G p s m args meth c y cc nL ret ws) {mc ms : Nat} {post : Option Nat → Wd → Prop} {x : Nat} {rt : FieldType} (hr : ret = some rt) (hrt : (∃ n, rt = .object n) ∨ ∃ t, rt = .array t) (d : decode cc pc = .ok (.areturn, 1)) (hk : k ≤ mc) (hz : z ≤ ms) (hp : post (some x) w) : V G p l e R s m args below meth c (MQW G below args s mc ms (pR post)) w k z pc ll [.ref x] := by
  intro H locs ls hR hL hl
  refine W.widen hk hz ?_
  exact W.aret C.1 C.2.1 (C.2.2.2.2.2.1.trans hr) hrt (Or.inr ⟨x, rfl⟩) (fun t ht hW => ⟨_, w, rfl, ⟨some x, rfl, hp⟩, by rw [ht]; exact hR, KK.warm hW C.2.2.2.2.2.2.2.1⟩) hL d C.2.2.2.2.2.2.1
theorem v_aretN (C : Cx G p s m args meth c y cc nL ret ws) {mc ms : Nat} {post : Option Nat → Wd → Prop}  {rt : FieldType} (hr : ret = some rt) (hrt : (∃ n, rt = .object n) ∨ ∃ t, rt = .array t) (d : decode cc pc = .ok (.areturn, 1)) (hk : k ≤ mc) (hz : z ≤ ms) (hp : post none w) : V G p l e R s m args below meth c (MQW G below args s mc ms (pR post)) w k z pc ll [.null] := by
  intro H locs ls hR hL hl
  refine W.widen hk hz ?_
  exact W.aret C.1 C.2.1 (C.2.2.2.2.2.1.trans hr) hrt (Or.inl rfl) (fun t ht hW => ⟨_, w, rfl, ⟨none, rfl, hp⟩, by rw [ht]; exact hR, KK.warm hW C.2.2.2.2.2.2.2.1⟩) hL d C.2.2.2.2.2.2.1
/-- the locals with which a method begins -/
def llOf : List Value → Nat → List (Option Value)
  | [], n => List.replicate n none
  | v :: vs, n => if v.category = 2 then some v :: none :: llOf vs (n - 2) else some v :: llOf vs (n - 1)
theorem llOf_spec : ∀ (vs : List Value) (n i b : Nat) (v : Value), (llOf vs n)[i]? = some (some v) → (b + i, v) ∈ lv_args b vs
  | [], n, i, b, v, h => by
    simp [llOf, List.getElem?_replicate] at h
  | u :: vs, n, i, b, v, h => by
    unfold llOf at h
    unfold lv_args
    by_cases hc : u.category = 2
    · rw [if_pos hc] at h
      rw [if_pos hc]
      match i, h with
      | 0, h => simp at h; subst h; exact List.mem_cons_self
      | 1, h => simp at h
      | i + 2, h =>
        have := llOf_spec vs (n - 2) i (b + 2) v (by simpa using h)
        rw [show b + (i + 2) = b + 2 + i by omega]
        exact List.mem_cons_of_mem _ this
    · rw [if_neg hc] at h
      rw [if_neg hc]
      match i, h with
      | 0, h => simp at h; subst h; exact List.mem_cons_self
      | i + 1, h =>
        have := llOf_spec vs (n - 1) i (b + 1) v (by simpa using h)
        rw [show b + (i + 1) = b + 1 + i by omega]
        exact List.mem_cons_of_mem _ this
theorem MG.of {ws' : List Cond} {F L mc ms : Nat} {av : List Value} {post : Option Value → Wd → Prop} (hy : plainName y.cls = true) (hw : ws = Cond.code y cc nL ret :: ws') (hlen : (lg_sl av).length ≤ nL) (hll : llOf av nL = ll)
    (body : ∀ (p : Program) (e : Env) (s : State) (m : MethodId) (args : Array Value) (below : List Frame) (meth : Method) (c : Code), Cx G p s m args meth c y cc nL ret ws → V G p l e { frames := F, cells := mc, slots := ms, locals := L } s m args below meth c (MQW G below args s mc ms post) w 0 0 0 ll []) : MG G l y ws F L mc ms av w post := by
  refine Met.ofW (cc := cc) (maxL := nL) (ret := ret) hy hw ?_
  intro p e s m args below meth c s₁ B hml hv
  obtain ⟨rfl, hR, hK⟩ := hv
  have hl := lv_entry av (n := nL) hlen
  rw [lg_entry_eq]
  refine body p e s m _ below meth c ⟨B.exec, B.bytes, hml, findClass_of_methodNamed B.named, atoms_spec (ws := ws) B.pre, B.returns, B.notSynchronized, hK, (name_of_methodNamed B.named B.method).1⟩ s.heap [] _ hR (fun q h => nomatch h) ⟨by rw [hml]; exact hl.1, hl.2.1, fun i v hi => ?_⟩
  rw [← hll] at hi
  have := llOf_spec av nL i 0 v hi
  rw [Nat.zero_add] at this
  exact hl.2.2 (i, v) this
theorem v_call {mc ms : Nat} {rest st0 : List Value} {a : Array Value} {post : Option Value → Wd → Prop} (hr : ∀ (H : Heap) (locs : List Loc) (ls : Array Slot), Rep G w H → ls.size = c.maxLocals → va_Run p l e R s m args below meth c H locs k z mc ms (F0 m pc ls st0) rest (vQ G post a) (gF G))
    (kk : ∀ (v : Option Value) (w' : Wd), post v w' → V G p l e R s m args below meth c Q w' (k + mc) (z + ms) (pc + 3) ll (v.toList ++ rest)) : V G p l e R s m args below meth c Q w k z pc ll st0 := by
  intro H locs ls hR hL hl T hT X
  obtain ⟨v, st₀, t, T', L, h0, X', hL2, e1, e2, ⟨v', w', hv, hp, hR2, hK2⟩, st⟩ := hr H locs ls hR hl.1 T hT X
  cases hv
  obtain ⟨t2, a1, b1⟩ := kk v w' hp T'.heap (locs ++ L) ls (by rw [e1]; exact hR2) (fun q hq => by
    rcases List.mem_append.mp hq with h | h
    · exact hL q h
    · exact hL2 q h) hl T' rfl X'
  exact ⟨t2, st t2 a1, b1⟩
theorem v_callVi (C : Cx G p s m args meth c y cc nL ret ws) {y2 : MethodName} {bytes : ByteArray} {maxL mc ms n index F L : Nat} {ret2 : Option FieldType} {ws2 : List Cond} {b t ci : Nat} {fs : List Value} {q : vw_C} {As rest : List Value} {post : Int → Wd → Prop} (hM : MG G l y2 ws2 F L mc ms (.ref b :: As) w (pI post)) (cw : CallW R s args y.cls q.1 index y2 bytes maxL ret2 ws2 { frames := F, cells := mc, slots := ms, locals := L } mc ms n) (hb : w b = some (t, .inr (ci, fs))) (hq : vwCl[ci]? = some q) (hn : As.length = n) (hst : st = As.reverse ++ .ref b :: rest) (hW : (rest.map fun v => v.category).sum ≤ 8) (d : decode cc pc = .ok (.invokevirtual index, 3)) (hk : k + mc ≤ R.cells) (hz : z + ms ≤ R.slots)
    (kk : ∀ (x : Int) (w' : Wd), post x w' → V G p l e R s m args below meth c Q w' (k + mc) (z + ms) (pc + 3) ll (.int (iI x) :: rest)) : V G p l e R s m args below meth c Q w k z pc ll st := by
  obtain ⟨hx, hb2, hnl, hown, hts, -, -, hK, -⟩ := id C
  refine v_call (rest := rest) (fun H locs ls hR hs => va_runV (As := As) (rest := rest) ⟨hx, hb2, hnl, hown, hts⟩ hM cw ⟨PcW.blind, ?_, fun U hU hWa => ⟨rfl, by rw [hU]; exact hR, KK.warm hWa hK⟩⟩ rfl hn (hs.trans hnl) hst (by show 2 * 0 + _ ≤ 8; omega) d ⟨hk, hz⟩) (fun v w' hp => by obtain ⟨x, rfl, hp⟩ := hp; exact kk x w' hp)
  obtain ⟨-, r', hr', cellV, g1, g2, g3, -⟩ := hR.2.2 _ _ _ hb
  exact ⟨cellV, g1, by rw [g3]; rfl, by rw [g2]; exact (hK.1.1 ci q hq).2.1⟩
theorem v_callSi (C : Cx G p s m args meth c y cc nL ret ws) {y2 : MethodName} {bytes : ByteArray} {maxL mc ms n index F L : Nat} {ret2 : Option FieldType} {ws2 : List Cond} {b t ci : Nat} {fs : List Value} {q : vw_C} {As rest : List Value} {post : Int → Wd → Prop} (hM : MG G l y2 ws2 F L mc ms As w (pI post)) (cw : CallB R s args y.cls index y2 bytes maxL ret2 ws2 { frames := F, cells := mc, slots := ms, locals := L } mc ms n ∧ (Cond.static y2).before args s = true) (hn : As.length = n) (hst : st = As.reverse ++ rest) (hW : (rest.map fun v => v.category).sum ≤ 8) (d : decode cc pc = .ok (.invokestatic index, 3)) (hk : k + mc ≤ R.cells) (hz : z + ms ≤ R.slots)
    (kk : ∀ (x : Int) (w' : Wd), post x w' → V G p l e R s m args below meth c Q w' (k + mc) (z + ms) (pc + 3) ll (.int (iI x) :: rest)) : V G p l e R s m args below meth c Q w k z pc ll st := by
  obtain ⟨hx, hb2, hnl, hown, hts, -, -, hK, -⟩ := id C
  exact v_call (rest := rest) (fun H locs ls hR hs => va_runS (As := As) (rest := rest) ⟨hx, hb2, hnl, hown, hts⟩ hM cw ⟨PcW.blind, fun U hU hWa => ⟨rfl, by rw [hU]; exact hR, KK.warm hWa hK⟩⟩ rfl hn (hs.trans hnl) hst (by show 2 * 0 + _ ≤ 8; omega) d ⟨hk, hz⟩) (fun v w' hp => by obtain ⟨x, rfl, hp⟩ := hp; exact kk x w' hp)
theorem v_callVl (C : Cx G p s m args meth c y cc nL ret ws) {y2 : MethodName} {bytes : ByteArray} {maxL mc ms n index F L : Nat} {ret2 : Option FieldType} {ws2 : List Cond} {b t ci : Nat} {fs : List Value} {q : vw_C} {As rest : List Value} {post : Int → Wd → Prop} (hM : MG G l y2 ws2 F L mc ms (.ref b :: As) w (pL post)) (cw : CallW R s args y.cls q.1 index y2 bytes maxL ret2 ws2 { frames := F, cells := mc, slots := ms, locals := L } mc ms n) (hb : w b = some (t, .inr (ci, fs))) (hq : vwCl[ci]? = some q) (hn : As.length = n) (hst : st = As.reverse ++ .ref b :: rest) (hW : (rest.map fun v => v.category).sum ≤ 8) (d : decode cc pc = .ok (.invokevirtual index, 3)) (hk : k + mc ≤ R.cells) (hz : z + ms ≤ R.slots)
    (kk : ∀ (x : Int) (w' : Wd), post x w' → V G p l e R s m args below meth c Q w' (k + mc) (z + ms) (pc + 3) ll (.long (lI x) :: rest)) : V G p l e R s m args below meth c Q w k z pc ll st := by
  obtain ⟨hx, hb2, hnl, hown, hts, -, -, hK, -⟩ := id C
  refine v_call (rest := rest) (fun H locs ls hR hs => va_runV (As := As) (rest := rest) ⟨hx, hb2, hnl, hown, hts⟩ hM cw ⟨PcW.blind, ?_, fun U hU hWa => ⟨rfl, by rw [hU]; exact hR, KK.warm hWa hK⟩⟩ rfl hn (hs.trans hnl) hst (by show 2 * 0 + _ ≤ 8; omega) d ⟨hk, hz⟩) (fun v w' hp => by obtain ⟨x, rfl, hp⟩ := hp; exact kk x w' hp)
  obtain ⟨-, r', hr', cellV, g1, g2, g3, -⟩ := hR.2.2 _ _ _ hb
  exact ⟨cellV, g1, by rw [g3]; rfl, by rw [g2]; exact (hK.1.1 ci q hq).2.1⟩
theorem v_callSl (C : Cx G p s m args meth c y cc nL ret ws) {y2 : MethodName} {bytes : ByteArray} {maxL mc ms n index F L : Nat} {ret2 : Option FieldType} {ws2 : List Cond} {b t ci : Nat} {fs : List Value} {q : vw_C} {As rest : List Value} {post : Int → Wd → Prop} (hM : MG G l y2 ws2 F L mc ms As w (pL post)) (cw : CallB R s args y.cls index y2 bytes maxL ret2 ws2 { frames := F, cells := mc, slots := ms, locals := L } mc ms n ∧ (Cond.static y2).before args s = true) (hn : As.length = n) (hst : st = As.reverse ++ rest) (hW : (rest.map fun v => v.category).sum ≤ 8) (d : decode cc pc = .ok (.invokestatic index, 3)) (hk : k + mc ≤ R.cells) (hz : z + ms ≤ R.slots)
    (kk : ∀ (x : Int) (w' : Wd), post x w' → V G p l e R s m args below meth c Q w' (k + mc) (z + ms) (pc + 3) ll (.long (lI x) :: rest)) : V G p l e R s m args below meth c Q w k z pc ll st := by
  obtain ⟨hx, hb2, hnl, hown, hts, -, -, hK, -⟩ := id C
  exact v_call (rest := rest) (fun H locs ls hR hs => va_runS (As := As) (rest := rest) ⟨hx, hb2, hnl, hown, hts⟩ hM cw ⟨PcW.blind, fun U hU hWa => ⟨rfl, by rw [hU]; exact hR, KK.warm hWa hK⟩⟩ rfl hn (hs.trans hnl) hst (by show 2 * 0 + _ ≤ 8; omega) d ⟨hk, hz⟩) (fun v w' hp => by obtain ⟨x, rfl, hp⟩ := hp; exact kk x w' hp)
theorem v_callVv (C : Cx G p s m args meth c y cc nL ret ws) {y2 : MethodName} {bytes : ByteArray} {maxL mc ms n index F L : Nat} {ret2 : Option FieldType} {ws2 : List Cond} {b t ci : Nat} {fs : List Value} {q : vw_C} {As rest : List Value} {post : Wd → Prop} (hM : MG G l y2 ws2 F L mc ms (.ref b :: As) w (pV post)) (cw : CallW R s args y.cls q.1 index y2 bytes maxL ret2 ws2 { frames := F, cells := mc, slots := ms, locals := L } mc ms n) (hb : w b = some (t, .inr (ci, fs))) (hq : vwCl[ci]? = some q) (hn : As.length = n) (hst : st = As.reverse ++ .ref b :: rest) (hW : (rest.map fun v => v.category).sum ≤ 8) (d : decode cc pc = .ok (.invokevirtual index, 3)) (hk : k + mc ≤ R.cells) (hz : z + ms ≤ R.slots)
    (kk : ∀ (w' : Wd), post w' → V G p l e R s m args below meth c Q w' (k + mc) (z + ms) (pc + 3) ll rest) : V G p l e R s m args below meth c Q w k z pc ll st := by
  obtain ⟨hx, hb2, hnl, hown, hts, -, -, hK, -⟩ := id C
  refine v_call (rest := rest) (fun H locs ls hR hs => va_runV (As := As) (rest := rest) ⟨hx, hb2, hnl, hown, hts⟩ hM cw ⟨PcW.blind, ?_, fun U hU hWa => ⟨rfl, by rw [hU]; exact hR, KK.warm hWa hK⟩⟩ rfl hn (hs.trans hnl) hst (by show 2 * 0 + _ ≤ 8; omega) d ⟨hk, hz⟩) (fun v w' hp => by obtain ⟨rfl, hp⟩ := hp; exact kk w' hp)
  obtain ⟨-, r', hr', cellV, g1, g2, g3, -⟩ := hR.2.2 _ _ _ hb
  exact ⟨cellV, g1, by rw [g3]; rfl, by rw [g2]; exact (hK.1.1 ci q hq).2.1⟩
theorem v_callSv (C : Cx G p s m args meth c y cc nL ret ws) {y2 : MethodName} {bytes : ByteArray} {maxL mc ms n index F L : Nat} {ret2 : Option FieldType} {ws2 : List Cond} {b t ci : Nat} {fs : List Value} {q : vw_C} {As rest : List Value} {post : Wd → Prop} (hM : MG G l y2 ws2 F L mc ms As w (pV post)) (cw : CallB R s args y.cls index y2 bytes maxL ret2 ws2 { frames := F, cells := mc, slots := ms, locals := L } mc ms n ∧ (Cond.static y2).before args s = true) (hn : As.length = n) (hst : st = As.reverse ++ rest) (hW : (rest.map fun v => v.category).sum ≤ 8) (d : decode cc pc = .ok (.invokestatic index, 3)) (hk : k + mc ≤ R.cells) (hz : z + ms ≤ R.slots)
    (kk : ∀ (w' : Wd), post w' → V G p l e R s m args below meth c Q w' (k + mc) (z + ms) (pc + 3) ll rest) : V G p l e R s m args below meth c Q w k z pc ll st := by
  obtain ⟨hx, hb2, hnl, hown, hts, -, -, hK, -⟩ := id C
  exact v_call (rest := rest) (fun H locs ls hR hs => va_runS (As := As) (rest := rest) ⟨hx, hb2, hnl, hown, hts⟩ hM cw ⟨PcW.blind, fun U hU hWa => ⟨rfl, by rw [hU]; exact hR, KK.warm hWa hK⟩⟩ rfl hn (hs.trans hnl) hst (by show 2 * 0 + _ ≤ 8; omega) d ⟨hk, hz⟩) (fun v w' hp => by obtain ⟨rfl, hp⟩ := hp; exact kk w' hp)
theorem v_callVr (C : Cx G p s m args meth c y cc nL ret ws) {y2 : MethodName} {bytes : ByteArray} {maxL mc ms n index F L : Nat} {ret2 : Option FieldType} {ws2 : List Cond} {b t ci : Nat} {fs : List Value} {q : vw_C} {As rest : List Value} {post : Option Nat → Wd → Prop} (hM : MG G l y2 ws2 F L mc ms (.ref b :: As) w (pR post)) (cw : CallW R s args y.cls q.1 index y2 bytes maxL ret2 ws2 { frames := F, cells := mc, slots := ms, locals := L } mc ms n) (hb : w b = some (t, .inr (ci, fs))) (hq : vwCl[ci]? = some q) (hn : As.length = n) (hst : st = As.reverse ++ .ref b :: rest) (hW : (rest.map fun v => v.category).sum ≤ 8) (d : decode cc pc = .ok (.invokevirtual index, 3)) (hk : k + mc ≤ R.cells) (hz : z + ms ≤ R.slots)
    (kk : ∀ (x : Option Nat) (w' : Wd), post x w' → V G p l e R s m args below meth c Q w' (k + mc) (z + ms) (pc + 3) ll (va_rf x :: rest)) : V G p l e R s m args below meth c Q w k z pc ll st := by
  obtain ⟨hx, hb2, hnl, hown, hts, -, -, hK, -⟩ := id C
  refine v_call (rest := rest) (fun H locs ls hR hs => va_runV (As := As) (rest := rest) ⟨hx, hb2, hnl, hown, hts⟩ hM cw ⟨PcW.blind, ?_, fun U hU hWa => ⟨rfl, by rw [hU]; exact hR, KK.warm hWa hK⟩⟩ rfl hn (hs.trans hnl) hst (by show 2 * 0 + _ ≤ 8; omega) d ⟨hk, hz⟩) (fun v w' hp => by obtain ⟨x, rfl, hp⟩ := hp; exact kk x w' hp)
  obtain ⟨-, r', hr', cellV, g1, g2, g3, -⟩ := hR.2.2 _ _ _ hb
  exact ⟨cellV, g1, by rw [g3]; rfl, by rw [g2]; exact (hK.1.1 ci q hq).2.1⟩
theorem v_callSr (C : Cx G p s m args meth c y cc nL ret ws) {y2 : MethodName} {bytes : ByteArray} {maxL mc ms n index F L : Nat} {ret2 : Option FieldType} {ws2 : List Cond} {b t ci : Nat} {fs : List Value} {q : vw_C} {As rest : List Value} {post : Option Nat → Wd → Prop} (hM : MG G l y2 ws2 F L mc ms As w (pR post)) (cw : CallB R s args y.cls index y2 bytes maxL ret2 ws2 { frames := F, cells := mc, slots := ms, locals := L } mc ms n ∧ (Cond.static y2).before args s = true) (hn : As.length = n) (hst : st = As.reverse ++ rest) (hW : (rest.map fun v => v.category).sum ≤ 8) (d : decode cc pc = .ok (.invokestatic index, 3)) (hk : k + mc ≤ R.cells) (hz : z + ms ≤ R.slots)
    (kk : ∀ (x : Option Nat) (w' : Wd), post x w' → V G p l e R s m args below meth c Q w' (k + mc) (z + ms) (pc + 3) ll (va_rf x :: rest)) : V G p l e R s m args below meth c Q w k z pc ll st := by
  obtain ⟨hx, hb2, hnl, hown, hts, -, -, hK, -⟩ := id C
  exact v_call (rest := rest) (fun H locs ls hR hs => va_runS (As := As) (rest := rest) ⟨hx, hb2, hnl, hown, hts⟩ hM cw ⟨PcW.blind, fun U hU hWa => ⟨rfl, by rw [hU]; exact hR, KK.warm hWa hK⟩⟩ rfl hn (hs.trans hnl) hst (by show 2 * 0 + _ ≤ 8; omega) d ⟨hk, hz⟩) (fun v w' hp => by obtain ⟨x, rfl, hp⟩ := hp; exact kk x w' hp)
theorem v_callI (C : Cx G p s m args meth c y cc nL ret ws) {y2 : MethodName} {bytes : ByteArray} {maxL mc ms n index F L : Nat} {ret2 : Option FieldType} {ws2 : List Cond} {b t ci : Nat} {fs : List Value} {q : vw_C} {As rest : List Value} {post : Wd → Prop} (hM : MG G l y2 ws2 F L mc ms (.ref b :: As) w (pV post)) (cw : CallB R s args y.cls index y2 bytes maxL none ws2 { frames := F, cells := mc, slots := ms, locals := L } mc ms n ∧ y2.name = "<init>" ∧ (Cond.instanceMethod y2).before args s = true) (hn : As.length = n) (hst : st = As.reverse ++ .ref b :: rest) (hW : (rest.map fun v => v.category).sum ≤ 8) (d : decode cc pc = .ok (.invokespecial index, 3)) (hk : k + mc ≤ R.cells) (hz : z + ms ≤ R.slots)
    (kk : ∀ (w' : Wd), post w' → V G p l e R s m args below meth c Q w' (k + mc) (z + ms) (pc + 3) ll rest) : V G p l e R s m args below meth c Q w k z pc ll st := by
  obtain ⟨hx, hb2, hnl, hown, hts, -, -, hK, -⟩ := id C
  exact v_call (rest := rest) (fun H locs ls hR hs => va_runI (As := As) (rest := rest) ⟨hx, hb2, hnl, hown, hts⟩ hM cw ⟨PcW.blind, fun U hU hWa => ⟨rfl, by rw [hU]; exact hR, KK.warm hWa hK⟩⟩ rfl hn (hs.trans hnl) hst (by show 2 * 0 + _ ≤ 8; omega) d ⟨hk, hz⟩) (fun v w' hp => by obtain ⟨rfl, hp⟩ := hp; exact kk w' hp)
theorem v_wide {k' z' : Nat} (h1 : k ≤ k') (h2 : z ≤ z') (kk : V G p l e R s m args below meth c Q w k' z' pc ll st) : V G p l e R s m args below meth c Q w k z pc ll st := fun H locs ls hR hL hl => W.widen h1 h2 (kk H locs ls hR hL hl)
end VB
end
