section
-- ===== PART A: goes FIRST, ahead of the names: the tables' words, and 'selects' of the private methods out of them =====
/-- a private method of a class that the tables say can be made, by its rows of tables_1 -/
def lw_okq (q : MethodName × Nat) : Prop := (q.1.cls ≠ "java/lang/invoke/MethodHandle" ∧ q.1.cls ≠ "java/lang/invoke/VarHandle") ∧ Cond.instantiable q.1.cls q.2 ∈ tables_1 ∧ Cond.privateMethod q.1 ∈ tables_1 ∧ Cond.instanceMethod q.1 ∈ tables_1
theorem lw_p0 : lw_okq (⟨"LogBook", "losePower", "()V"⟩, 7) := ⟨⟨by decide +kernel, by decide +kernel⟩, List.mem_of_getElem? (i := 12) (by decide +kernel), List.mem_of_getElem? (i := 48) (by decide +kernel), List.mem_of_getElem? (i := 49) (by decide +kernel)⟩
theorem lw_p1 : lw_okq (⟨"LogBook", "fillBuffer", "(II)V"⟩, 7) := ⟨⟨by decide +kernel, by decide +kernel⟩, List.mem_of_getElem? (i := 12) (by decide +kernel), List.mem_of_getElem? (i := 52) (by decide +kernel), List.mem_of_getElem? (i := 53) (by decide +kernel)⟩
theorem lw_p2 : lw_okq (⟨"LogBook", "requireOpen", "()V"⟩, 7) := ⟨⟨by decide +kernel, by decide +kernel⟩, List.mem_of_getElem? (i := 12) (by decide +kernel), List.mem_of_getElem? (i := 69) (by decide +kernel), List.mem_of_getElem? (i := 70) (by decide +kernel)⟩
theorem lw_p3 : lw_okq (⟨"java/lang/Throwable", "fillInStackTrace", "(I)Ljava/lang/Throwable;"⟩, 6) := ⟨⟨by decide +kernel, by decide +kernel⟩, List.mem_of_getElem? (i := 112) (by decide +kernel), List.mem_of_getElem? (i := 110) (by decide +kernel), List.mem_of_getElem? (i := 111) (by decide +kernel)⟩
theorem lw_p4 : lw_okq (⟨"LogBook", "requireOwner", "(I)V"⟩, 7) := ⟨⟨by decide +kernel, by decide +kernel⟩, List.mem_of_getElem? (i := 12) (by decide +kernel), List.mem_of_getElem? (i := 173) (by decide +kernel), List.mem_of_getElem? (i := 174) (by decide +kernel)⟩
theorem lw_p5 : lw_okq (⟨"LogBook", "lastRecordOf", "(I)I"⟩, 7) := ⟨⟨by decide +kernel, by decide +kernel⟩, List.mem_of_getElem? (i := 12) (by decide +kernel), List.mem_of_getElem? (i := 196) (by decide +kernel), List.mem_of_getElem? (i := 197) (by decide +kernel)⟩
theorem lw_p6 : lw_okq (⟨"LogBook", "lastRecordBefore", "(I)I"⟩, 7) := ⟨⟨by decide +kernel, by decide +kernel⟩, List.mem_of_getElem? (i := 12) (by decide +kernel), List.mem_of_getElem? (i := 200) (by decide +kernel), List.mem_of_getElem? (i := 201) (by decide +kernel)⟩
theorem lw_p7 : lw_okq (⟨"LogBook", "wordAt", "(I)I"⟩, 7) := ⟨⟨by decide +kernel, by decide +kernel⟩, List.mem_of_getElem? (i := 12) (by decide +kernel), List.mem_of_getElem? (i := 204) (by decide +kernel), List.mem_of_getElem? (i := 205) (by decide +kernel)⟩
theorem lw_p8 : lw_okq (⟨"LogBook", "ownerAt", "(I)I"⟩, 7) := ⟨⟨by decide +kernel, by decide +kernel⟩, List.mem_of_getElem? (i := 12) (by decide +kernel), List.mem_of_getElem? (i := 212) (by decide +kernel), List.mem_of_getElem? (i := 213) (by decide +kernel)⟩
theorem lw_p9 : lw_okq (⟨"LogBook", "addWord", "(I)V"⟩, 7) := ⟨⟨by decide +kernel, by decide +kernel⟩, List.mem_of_getElem? (i := 12) (by decide +kernel), List.mem_of_getElem? (i := 216) (by decide +kernel), List.mem_of_getElem? (i := 217) (by decide +kernel)⟩
theorem lw_p10 : lw_okq (⟨"LogBook", "addContent", "(I)V"⟩, 7) := ⟨⟨by decide +kernel, by decide +kernel⟩, List.mem_of_getElem? (i := 12) (by decide +kernel), List.mem_of_getElem? (i := 220) (by decide +kernel), List.mem_of_getElem? (i := 221) (by decide +kernel)⟩
theorem lw_p11 : lw_okq (⟨"LogBook", "requireRecord", "(I)V"⟩, 7) := ⟨⟨by decide +kernel, by decide +kernel⟩, List.mem_of_getElem? (i := 12) (by decide +kernel), List.mem_of_getElem? (i := 232) (by decide +kernel), List.mem_of_getElem? (i := 233) (by decide +kernel)⟩
theorem lw_p12 : lw_okq (⟨"LogBook", "isRecord", "(I)Z"⟩, 7) := ⟨⟨by decide +kernel, by decide +kernel⟩, List.mem_of_getElem? (i := 12) (by decide +kernel), List.mem_of_getElem? (i := 236) (by decide +kernel), List.mem_of_getElem? (i := 237) (by decide +kernel)⟩
theorem lw_p13 : lw_okq (⟨"LogBook", "behind", "(I)I"⟩, 7) := ⟨⟨by decide +kernel, by decide +kernel⟩, List.mem_of_getElem? (i := 12) (by decide +kernel), List.mem_of_getElem? (i := 240) (by decide +kernel), List.mem_of_getElem? (i := 241) (by decide +kernel)⟩
theorem lw_p14 : lw_okq (⟨"LogBook", "isVoid", "(I)Z"⟩, 7) := ⟨⟨by decide +kernel, by decide +kernel⟩, List.mem_of_getElem? (i := 12) (by decide +kernel), List.mem_of_getElem? (i := 244) (by decide +kernel), List.mem_of_getElem? (i := 245) (by decide +kernel)⟩
theorem lw_p15 : lw_okq (⟨"LogBook", "writeUpTo", "(I)I"⟩, 7) := ⟨⟨by decide +kernel, by decide +kernel⟩, List.mem_of_getElem? (i := 12) (by decide +kernel), List.mem_of_getElem? (i := 264) (by decide +kernel), List.mem_of_getElem? (i := 265) (by decide +kernel)⟩
def lw_privs_1 : List (MethodName × Nat) := [(⟨"LogBook", "losePower", "()V"⟩, 7), (⟨"LogBook", "fillBuffer", "(II)V"⟩, 7), (⟨"LogBook", "requireOpen", "()V"⟩, 7), (⟨"java/lang/Throwable", "fillInStackTrace", "(I)Ljava/lang/Throwable;"⟩, 6), (⟨"LogBook", "requireOwner", "(I)V"⟩, 7), (⟨"LogBook", "lastRecordOf", "(I)I"⟩, 7), (⟨"LogBook", "lastRecordBefore", "(I)I"⟩, 7), (⟨"LogBook", "wordAt", "(I)I"⟩, 7), (⟨"LogBook", "ownerAt", "(I)I"⟩, 7), (⟨"LogBook", "addWord", "(I)V"⟩, 7), (⟨"LogBook", "addContent", "(I)V"⟩, 7), (⟨"LogBook", "requireRecord", "(I)V"⟩, 7), (⟨"LogBook", "isRecord", "(I)Z"⟩, 7), (⟨"LogBook", "behind", "(I)I"⟩, 7), (⟨"LogBook", "isVoid", "(I)Z"⟩, 7), (⟨"LogBook", "writeUpTo", "(I)I"⟩, 7)]
theorem lw_r1 : ∀ q ∈ lw_privs_1, lw_okq q := List.forall_mem_cons.mpr ⟨lw_p0, List.forall_mem_cons.mpr ⟨lw_p1, List.forall_mem_cons.mpr ⟨lw_p2, List.forall_mem_cons.mpr ⟨lw_p3, List.forall_mem_cons.mpr ⟨lw_p4, List.forall_mem_cons.mpr ⟨lw_p5, List.forall_mem_cons.mpr ⟨lw_p6, List.forall_mem_cons.mpr ⟨lw_p7, List.forall_mem_cons.mpr ⟨lw_p8, List.forall_mem_cons.mpr ⟨lw_p9, List.forall_mem_cons.mpr ⟨lw_p10, List.forall_mem_cons.mpr ⟨lw_p11, List.forall_mem_cons.mpr ⟨lw_p12, List.forall_mem_cons.mpr ⟨lw_p13, List.forall_mem_cons.mpr ⟨lw_p14, List.forall_mem_cons.mpr ⟨lw_p15, fun _ h => absurd h List.not_mem_nil⟩⟩⟩⟩⟩⟩⟩⟩⟩⟩⟩⟩⟩⟩⟩⟩
theorem lw_p16 : lw_okq (⟨"LogBook", "firstRecordFrom", "(I)I"⟩, 7) := ⟨⟨by decide +kernel, by decide +kernel⟩, List.mem_of_getElem? (i := 12) (by decide +kernel), List.mem_of_getElem? (i := 296) (by decide +kernel), List.mem_of_getElem? (i := 297) (by decide +kernel)⟩
theorem lw_p17 : lw_okq (⟨"LogBook", "kindAt", "(I)I"⟩, 7) := ⟨⟨by decide +kernel, by decide +kernel⟩, List.mem_of_getElem? (i := 12) (by decide +kernel), List.mem_of_getElem? (i := 342) (by decide +kernel), List.mem_of_getElem? (i := 343) (by decide +kernel)⟩
theorem lw_p18 : lw_okq (⟨"LogBook", "contentWords", "(I)I"⟩, 7) := ⟨⟨by decide +kernel, by decide +kernel⟩, List.mem_of_getElem? (i := 12) (by decide +kernel), List.mem_of_getElem? (i := 346) (by decide +kernel), List.mem_of_getElem? (i := 347) (by decide +kernel)⟩
theorem lw_p19 : lw_okq (⟨"LogBook", "kthOnTheWay", "(III)I"⟩, 7) := ⟨⟨by decide +kernel, by decide +kernel⟩, List.mem_of_getElem? (i := 12) (by decide +kernel), List.mem_of_getElem? (i := 367) (by decide +kernel), List.mem_of_getElem? (i := 368) (by decide +kernel)⟩
theorem lw_p20 : lw_okq (⟨"LogBook", "isAskedFor", "(III)Z"⟩, 7) := ⟨⟨by decide +kernel, by decide +kernel⟩, List.mem_of_getElem? (i := 12) (by decide +kernel), List.mem_of_getElem? (i := 371) (by decide +kernel), List.mem_of_getElem? (i := 372) (by decide +kernel)⟩
theorem lw_p21 : lw_okq (⟨"LogBook", "stopBehind", "(I)I"⟩, 7) := ⟨⟨by decide +kernel, by decide +kernel⟩, List.mem_of_getElem? (i := 12) (by decide +kernel), List.mem_of_getElem? (i := 375) (by decide +kernel), List.mem_of_getElem? (i := 376) (by decide +kernel)⟩
theorem lw_p22 : lw_okq (⟨"LogBook", "addVoidRest", "()V"⟩, 7) := ⟨⟨by decide +kernel, by decide +kernel⟩, List.mem_of_getElem? (i := 12) (by decide +kernel), List.mem_of_getElem? (i := 410) (by decide +kernel), List.mem_of_getElem? (i := 411) (by decide +kernel)⟩
theorem lw_p23 : lw_okq (⟨"LogBookModel", "refused", "(ZZZ)Z"⟩, 19) := ⟨⟨by decide +kernel, by decide +kernel⟩, List.mem_of_getElem? (i := 414) (by decide +kernel), List.mem_of_getElem? (i := 488) (by decide +kernel), List.mem_of_getElem? (i := 489) (by decide +kernel)⟩
theorem lw_p24 : lw_okq (⟨"LogBookModel", "fail", "()V"⟩, 19) := ⟨⟨by decide +kernel, by decide +kernel⟩, List.mem_of_getElem? (i := 414) (by decide +kernel), List.mem_of_getElem? (i := 496) (by decide +kernel), List.mem_of_getElem? (i := 497) (by decide +kernel)⟩
theorem lw_p25 : lw_okq (⟨"LogBookModel", "endOf", "(I)I"⟩, 19) := ⟨⟨by decide +kernel, by decide +kernel⟩, List.mem_of_getElem? (i := 414) (by decide +kernel), List.mem_of_getElem? (i := 500) (by decide +kernel), List.mem_of_getElem? (i := 501) (by decide +kernel)⟩
theorem lw_p26 : lw_okq (⟨"LogBookModel", "addRow", "(IIZ)V"⟩, 19) := ⟨⟨by decide +kernel, by decide +kernel⟩, List.mem_of_getElem? (i := 414) (by decide +kernel), List.mem_of_getElem? (i := 512) (by decide +kernel), List.mem_of_getElem? (i := 513) (by decide +kernel)⟩
theorem lw_p27 : lw_okq (⟨"LogBookModel", "latestOf", "(I)I"⟩, 19) := ⟨⟨by decide +kernel, by decide +kernel⟩, List.mem_of_getElem? (i := 414) (by decide +kernel), List.mem_of_getElem? (i := 531) (by decide +kernel), List.mem_of_getElem? (i := 532) (by decide +kernel)⟩
theorem lw_p28 : lw_okq (⟨"LogBookModel", "rowOf", "(I)I"⟩, 19) := ⟨⟨by decide +kernel, by decide +kernel⟩, List.mem_of_getElem? (i := 414) (by decide +kernel), List.mem_of_getElem? (i := 539) (by decide +kernel), List.mem_of_getElem? (i := 540) (by decide +kernel)⟩
theorem lw_p29 : lw_okq (⟨"LogBookModel", "forceTo", "(I)I"⟩, 19) := ⟨⟨by decide +kernel, by decide +kernel⟩, List.mem_of_getElem? (i := 414) (by decide +kernel), List.mem_of_getElem? (i := 543) (by decide +kernel), List.mem_of_getElem? (i := 544) (by decide +kernel)⟩
theorem lw_p30 : lw_okq (⟨"LogBookModel", "canWrite", "()Z"⟩, 19) := ⟨⟨by decide +kernel, by decide +kernel⟩, List.mem_of_getElem? (i := 414) (by decide +kernel), List.mem_of_getElem? (i := 547) (by decide +kernel), List.mem_of_getElem? (i := 548) (by decide +kernel)⟩
theorem lw_p31 : lw_okq (⟨"LogBookModel", "seek", "(III)I"⟩, 19) := ⟨⟨by decide +kernel, by decide +kernel⟩, List.mem_of_getElem? (i := 414) (by decide +kernel), List.mem_of_getElem? (i := 563) (by decide +kernel), List.mem_of_getElem? (i := 564) (by decide +kernel)⟩
def lw_privs_2 : List (MethodName × Nat) := [(⟨"LogBook", "firstRecordFrom", "(I)I"⟩, 7), (⟨"LogBook", "kindAt", "(I)I"⟩, 7), (⟨"LogBook", "contentWords", "(I)I"⟩, 7), (⟨"LogBook", "kthOnTheWay", "(III)I"⟩, 7), (⟨"LogBook", "isAskedFor", "(III)Z"⟩, 7), (⟨"LogBook", "stopBehind", "(I)I"⟩, 7), (⟨"LogBook", "addVoidRest", "()V"⟩, 7), (⟨"LogBookModel", "refused", "(ZZZ)Z"⟩, 19), (⟨"LogBookModel", "fail", "()V"⟩, 19), (⟨"LogBookModel", "endOf", "(I)I"⟩, 19), (⟨"LogBookModel", "addRow", "(IIZ)V"⟩, 19), (⟨"LogBookModel", "latestOf", "(I)I"⟩, 19), (⟨"LogBookModel", "rowOf", "(I)I"⟩, 19), (⟨"LogBookModel", "forceTo", "(I)I"⟩, 19), (⟨"LogBookModel", "canWrite", "()Z"⟩, 19), (⟨"LogBookModel", "seek", "(III)I"⟩, 19)]
theorem lw_r2 : ∀ q ∈ lw_privs_2, lw_okq q := List.forall_mem_cons.mpr ⟨lw_p16, List.forall_mem_cons.mpr ⟨lw_p17, List.forall_mem_cons.mpr ⟨lw_p18, List.forall_mem_cons.mpr ⟨lw_p19, List.forall_mem_cons.mpr ⟨lw_p20, List.forall_mem_cons.mpr ⟨lw_p21, List.forall_mem_cons.mpr ⟨lw_p22, List.forall_mem_cons.mpr ⟨lw_p23, List.forall_mem_cons.mpr ⟨lw_p24, List.forall_mem_cons.mpr ⟨lw_p25, List.forall_mem_cons.mpr ⟨lw_p26, List.forall_mem_cons.mpr ⟨lw_p27, List.forall_mem_cons.mpr ⟨lw_p28, List.forall_mem_cons.mpr ⟨lw_p29, List.forall_mem_cons.mpr ⟨lw_p30, List.forall_mem_cons.mpr ⟨lw_p31, fun _ h => absurd h List.not_mem_nil⟩⟩⟩⟩⟩⟩⟩⟩⟩⟩⟩⟩⟩⟩⟩⟩
def lw_privs : List (MethodName × Nat) := lw_privs_1 ++ (lw_privs_2)
def lw_tbl : List Cond := k2_sels lw_privs ++ tables_1
theorem lw_privs_ok : ∀ q ∈ lw_privs, lw_okq q := by
  show ∀ q ∈ lw_privs_1 ++ (lw_privs_2), lw_okq q
  exact List.forall_mem_append.mpr ⟨lw_r1, lw_r2⟩
/-! ===== BEGIN words of one list among another's, by their places ===== -/
theorem goodIn_r {big : List Cond} (ws : List Cond) (ps : List Nat) (hp : ws = ps.filterMap (fun i => big[i]?)) (h : ws.all goodWord = true) : GoodIn big ws := by
  intro w hw
  have h1 := List.all_eq_true.mp h w hw
  rw [hp] at hw
  obtain ⟨i, -, hi⟩ := List.mem_filterMap.mp hw
  have hm : w ∈ big := by first | exact List.mem_of_getElem? hi | exact List.getElem?_mem hi
  exact ⟨hm, good_of_word h1⟩
theorem goodIn_app {big a b : List Cond} (ha : GoodIn big a) (hb : GoodIn big b) : GoodIn big (a ++ b) := fun w h => (List.mem_append.mp h).elim (ha w) (hb w)
theorem goodIn_ca {big a b : List Cond} {c : Cond} (ha : GoodIn big (c :: a)) (hb : GoodIn big b) : GoodIn big (c :: (a ++ b)) := fun w h => (List.mem_cons.mp h).elim (fun e => ha w (List.mem_cons.mpr (Or.inl e))) (fun h => (List.mem_append.mp h).elim (fun h => ha w (List.mem_cons.mpr (Or.inr h))) (hb w))
theorem goodIn_sub {big ws : List Cond} (hm : ∀ w ∈ ws, w ∈ big) (h : ws.all goodWord = true) : GoodIn big ws := fun w hw => ⟨hm w hw, good_of_word (List.all_eq_true.mp h w hw)⟩
/-! ===== END ===== -/

/-! ===== BEGIN exceptions that leave a method, and their catching by the caller (launches without stack traces) ===== -/
section VXA
/-! The laws vx_back, vx_callV, vx_callS, vx_callSW, vx_throw0, vx_throwS follow proofs of the library, with one case more: JvmDerived/Free/Laws.lean (Back.of_free), Shelf42/LK1.lean (callV, callS), Shelf/KitTraced.lean (throwNew0V, throwNewS). -/
/-- where a method has thrown q: the class by its name, the cell, what was written, the world -/
def vx_T (XC : String → State → State → Prop) (st : State) (q : Addr) (t : State) (mc ms : Nat) (free : Addr → Prop) : Prop :=
  ∃ (E : String) (ce : Cell) (L : List Loc), XC E st t ∧ t.heap[q]? = some ce ∧ ce.vm = .none ∧ st.vm.findClass E = some ce.cls ∧ st.WarmedH t.vm ∧ st.sameButNew ({ t with vm := st.vm } : State) L mc ms ∧ ∀ z ∈ L, free z.base
def vx_Q (Qc : Array Value → State → Outcome → State → Prop) (XC : String → State → State → Prop) (mc ms : Nat) (free : Addr → Prop) : Array Value → State → Outcome → State → Prop := fun a st o t =>
  (Qc a st o t ∧ ∃ L, FrameEnd st o t L mc ms ∧ ∀ q ∈ L, free q.base) ∨ ∃ q, o = .threw q ∧ vx_T XC st q t mc ms free
/-- a callee that returns or throws -/
def vx_Met (l : Launch) (y : MethodName) (ws : List Cond) (rm : Room) (Pc : Array Value → State → Prop) (Qc : Array Value → State → Outcome → State → Prop) (XC : String → State → State → Prop) (mc ms : Nat) (free : Addr → Prop) : Prop :=
  MetFree l y (headSpec ws rm) Pc (fun _ _ _ _ _ => True) (vx_Q Qc XC mc ms free)
def vx_Post (XC : String → State → State → Prop) (mc ms : Nat) (free : Addr → Prop) : Pt → Array Value → Addr → Pt → Prop := fun A a q B =>
  ∃ (g : JFrame) (mk : MethodId) (t : State) (L : List Loc) (E : String) (ce : Cell), B.U.heap = t.heap ∧ B.U.vm = t.vm ∧ XC E (A.U.calling g mk a) t ∧ t.heap[q]? = some ce ∧ ce.vm = .none ∧ A.U.vm.findClass E = some ce.cls ∧ B.locs = A.locs ++ L ∧ (∀ z ∈ L, free z.base) ∧ B.cells = A.cells + mc ∧ B.slots = A.slots + ms
def vx_Back (l : Launch) (R : Room) (p : Program) (e : Env) (below : List Frame) (s : State) (sargs : Array Value) (y : MethodName) (len W9 : Nat)
    (Pre : Pt → Array Value → Prop) (Post : Pt → Array Value → Option Value → Pt → Prop) (PostX : Pt → Array Value → Addr → Pt → Prop) : Prop :=
  ∀ (m : MethodId) (meth : Method) (c : Code) (A : Pt) (g : JFrame) (ig : Instr) (mk : MethodId) (a : Array Value),
    Stand p l e R s m sargs below meth c A.U A.locs A.cells A.slots → g.method = m → g.locals.size = c.maxLocals → decode c.code g.pc = .ok (ig, len) →
    2 * g.monitorRoom + (g.stack.map fun v => v.category).sum ≤ W9 → A.U.methodNamed? y = some mk → Pre A a →
    (∃ (v : Option Value) (B : Pt), Stand p l e R s m sargs below meth c B.U B.locs B.cells B.slots ∧ Post A a v B ∧
      Steps p.tables e below (doInvoke e (A.U.setTop g) [] mk a).1 (B.U.setTop { g with pc := g.pc + len, stack := v.toList ++ g.stack })) ∨
    (∃ (q : Addr) (B : Pt), Stand p l e R s m sargs below meth c B.U B.locs B.cells B.slots ∧ PostX A a q B ∧
      Steps p.tables e below (doInvoke e (A.U.setTop g) [] mk a).1 ((B.U.setTop g).pushFrame (.throwing q)))
section Payer
variable {l : Launch} {R : Room} {p : Program} {e : Env} {below : List Frame} {s : State} {sargs : Array Value} {y : MethodName} {len W9 : Nat}
theorem vx_back {ws : List Cond} {rm : Room} {Pc : Array Value → State → Prop} {Qc : Array Value → State → Outcome → State → Prop} {XC : String → State → State → Prop} {mc ms : Nat} {free : Addr → Prop} {bytes : ByteArray} {maxL : Nat} {ret : Option FieldType}
    (hM : vx_Met l y ws rm Pc Qc XC mc ms free) (hblind : FrameBlind Pc) (hrc : rm.cells = mc) (hrs : rm.slots = ms)
    (hframes : rm.frames + 1 ≤ R.frames) (hlocals : W9 + (maxL + 11) + rm.locals ≤ R.locals)
    (hws : ∀ w ∈ ws, ∀ a' U, s.WarmedH U.vm → w.before a' U = true) (hcode : Cond.code y bytes maxL ret ∈ ws) (hinit : ∀ a' U, s.WarmedH U.vm → (Cond.initialized y.cls).before a' U = true) :
    vx_Back l R p e below s sargs y len W9 (PreOf R mc ms Pc) (PostOf Qc mc ms free) (vx_Post XC mc ms free) := by
  intro m meth c A g ig mk a X hg hsize hdg hW hn hp
  have h1 : (headSpec ws rm).pre.before a A.U = true := atoms_intro fun w hw => hws w hw _ _ X.warmed
  have h2 : (Cond.code y bytes maxL ret).before a A.U = true := hws _ hcode _ _ X.warmed
  have h3 : (Cond.initialized y.cls).before a A.U = true := hinit _ _ X.warmed
  have h4 : A.cells + (headSpec ws rm).room.cells ≤ R.cells := by rw [show (headSpec ws rm).room.cells = mc from hrc]; exact hp.1
  have h5 : A.slots + (headSpec ws rm).room.slots ≤ R.slots := by rw [show (headSpec ws rm).room.slots = ms from hrs]; exact hp.2.1
  have hPc : Pc a (A.U.calling g mk a) := hblind _ _ _ _ hp.2.2
  obtain ⟨U, Ls, c0, s0⟩ := A
  dsimp only [Pt.U, Pt.locs, Pt.cells, Pt.slots] at h1 h2 h3 h4 h5 X hn hPc ⊢
  obtain ⟨methY, cY, hmY, hcY, -, hlY, -, -, -, -⟩ := Cond.code_spec hn h2
  obtain ⟨kY, hkY, -⟩ := className_of_methodNamed hn
  have hinitY : kY.init = .initialized := Cond.initialized_spec (findClass_of_methodNamed hn) hkY h3
  have h : At U g.method c below := by rw [hg]; exact X.here
  have hlocals9 : W9 + (maxL + 11) + (headSpec ws rm).room.locals ≤ R.locals := hlocals
  have happ : (headSpec ws rm).appliesLoose y e.platform (U.calling g mk a) = true :=
    Spec.appliesLoose_calling (g := g) h hdg hn hkY hinitY
      (X.room_calling (g := g) (R' := (headSpec ws rm).room) hsize hmY hcY hframes (by rw [hlY]; omega) h4 h5) h1
  obtain ⟨mid, hmid⟩ := h.above
  have hfr : (U.setTop g).frames = (.java g :: mid) ++ below := by rw [State.frames_setTop' g h.top, hmid]; rfl
  obtain ⟨o, s₂, hsteps, -, hend, hq⟩ := Steps.callFree hM p X.admits X.cas X.clock (acts := []) hfr happ hPc trivial
  have hq' : vx_Q Qc XC mc ms free a (U.calling g mk a) o s₂ := hq
  rw [State.frames_setTop' g h.top] at hend
  obtain ⟨g₀, hg0⟩ := Option.isSome_iff_exists.mp h.top
  obtain ⟨r, hr⟩ := State.topJava?_eq_some.mp hg0
  have hr' : (({ U with heap := s₂.heap, slotsUsed := s₂.slotsUsed } : State).setVm s₂.vm).frames = .java g₀ :: r := hr
  rcases hq' with ⟨hqc, L, hfe, hL⟩ | ⟨q, rfl, E, ce, L, hx, hce, hcv, hcl, hW₂, hsm, hL⟩
  · obtain ⟨⟨v, rfl⟩, hW₂, e2, q2, q3, q4, q5, q6⟩ := id hfe
    have e3 : s₂ = ({ (U.calling g mk a).setFrames s₂.frames with heap := s₂.heap, slotsUsed := s₂.slotsUsed } : State).setVm s₂.vm := by
      have : s₂ = ({ s₂ with vm := (U.calling g mk a).vm } : State).setVm s₂.vm := rfl
      rw [e2] at this
      exact this
    obtain ⟨c₂, i₂, len₂, hc₂, hd₂, hf₂⟩ := hend
    have hW' : U.WarmedH s₂.vm := hW₂
    have hcc : c₂ = c := by
      have h1 : s₂.code? g.method = U.code? g.method := by
        rw [State.code?_eq, State.code?_eq, hW'.alike.method?]
      exact Option.some.inj (hc₂.symm.trans (h1.trans h.code))
    subst hcc
    have hlen : len₂ = len := by rw [hdg] at hd₂; cases hd₂; rfl
    subst hlen
    have hs₂ : s₂ = (({ U with heap := s₂.heap, slotsUsed := s₂.slotsUsed } : State).setVm s₂.vm).setTop { g with pc := g.pc + len₂, stack := v.toList ++ g.stack } := by
      refine e3.trans ?_
      rw [hf₂, State.calling_eq h.top, State.setFrames_setFrames, State.setTop_of_frames _ hr', hr]
      rfl
    have hsame : U.sameButNew ({ U with heap := s₂.heap, slotsUsed := s₂.slotsUsed } : State) L mc ms := by
      refine ⟨?_, q2, q3, q4, q5, q6⟩
      obtain ⟨t, ht, -⟩ := State.frames_cons hr
      show ({ U with heap := s₂.heap, slotsUsed := s₂.slotsUsed } : State) = { U.setFrames U.frames with heap := s₂.heap, slotsUsed := s₂.slotsUsed }
      rw [State.setFrames_self ht]
    subst hg
    refine Or.inl ⟨v, ⟨(({ U with heap := s₂.heap, slotsUsed := s₂.slotsUsed } : State).setVm s₂.vm), Ls ++ L, c0 + mc, s0 + ms⟩,
      ⟨X.admits, X.cas, X.clock, X.frames, X.room, X.hears, X.method, X.code, (X.here.setHeapUsed s₂.heap s₂.slotsUsed).setVm hW'.alike, X.tail, State.WarmedH.trans X.warmed hW', X.limits, X.bytes, X.same.trans (hsame.setVm s.vm)⟩,
      ⟨g, mk, s₂, L, rfl, rfl, hqc, rfl, hL, rfl, rfl⟩, ?_⟩
    show Steps p.tables e below _ ((({ U with heap := s₂.heap, slotsUsed := s₂.slotsUsed } : State).setVm s₂.vm).setTop { g with pc := g.pc + len₂, stack := v.toList ++ g.stack })
    rw [← hs₂]
    exact hsteps
  · obtain ⟨e2, q2, q3, q4, q5, q6⟩ := id hsm
    have e3 : s₂ = ({ (U.calling g mk a).setFrames s₂.frames with heap := s₂.heap, slotsUsed := s₂.slotsUsed } : State).setVm s₂.vm := by
      have : s₂ = ({ s₂ with vm := (U.calling g mk a).vm } : State).setVm s₂.vm := rfl
      rw [e2] at this
      exact this
    have hf₂ : s₂.frames = .throwing q :: .java g :: U.frames.tail := hend
    have hW' : U.WarmedH s₂.vm := hW₂
    have hs₂ : s₂ = ((({ U with heap := s₂.heap, slotsUsed := s₂.slotsUsed } : State).setVm s₂.vm).setTop g).pushFrame (.throwing q) := by
      refine e3.trans ?_
      rw [hf₂, State.calling_eq h.top, State.setFrames_setFrames, State.pushFrame, State.frames_setTop _ hr', State.setTop_of_frames _ hr', State.setFrames_setFrames, hr]
      rfl
    have hsame : U.sameButNew ({ U with heap := s₂.heap, slotsUsed := s₂.slotsUsed } : State) L mc ms := by
      refine ⟨?_, q2, q3, q4, q5, q6⟩
      obtain ⟨t, ht, -⟩ := State.frames_cons hr
      show ({ U with heap := s₂.heap, slotsUsed := s₂.slotsUsed } : State) = { U.setFrames U.frames with heap := s₂.heap, slotsUsed := s₂.slotsUsed }
      rw [State.setFrames_self ht]
    subst hg
    refine Or.inr ⟨q, ⟨(({ U with heap := s₂.heap, slotsUsed := s₂.slotsUsed } : State).setVm s₂.vm), Ls ++ L, c0 + mc, s0 + ms⟩,
      ⟨X.admits, X.cas, X.clock, X.frames, X.room, X.hears, X.method, X.code, (X.here.setHeapUsed s₂.heap s₂.slotsUsed).setVm hW'.alike, X.tail, State.WarmedH.trans X.warmed hW', X.limits, X.bytes, X.same.trans (hsame.setVm s.vm)⟩,
      ⟨g, mk, s₂, L, E, ce, rfl, rfl, hx, hce, hcv, hcl, rfl, hL, rfl, rfl⟩, ?_⟩
    show Steps p.tables e below _ (((({ U with heap := s₂.heap, slotsUsed := s₂.slotsUsed } : State).setVm s₂.vm).setTop g).pushFrame (.throwing q))
    rw [← hs₂]
    exact hsteps
end Payer
section Calls
variable {p : Program} {l : Launch} {e : Env} {R : Room} {s : State} {m : MethodId} {args : Array Value} {below : List Frame} {meth : Method} {c : Code} {T : State} {locs : List Loc} {cells slots : Nat}
theorem vx_callV (X : Stand p l e R s m args below meth c T locs cells slots) (hexec : p.tables.exec = Jvm.exec) {own C : String} {index : Nat} {y : MethodName} {bytes : ByteArray} {maxL : Nat} {ret : Option FieldType}
    (hown : s.vm.findClass own = some m.cls) (hlink : (Cond.methodLink own index y).before args s = true) (hinst : (Cond.instanceMethod y).before args s = true) (hsel : (Cond.selects C y y).before args s = true)
    (hcode : (Cond.code y bytes maxL ret).before args s = true) (hy : y.cls ≠ "java/lang/invoke/MethodHandle" ∧ y.cls ≠ "java/lang/invoke/VarHandle")
    {W9 : Nat} {Pre : Pt → Array Value → Prop} {Post : Pt → Array Value → Option Value → Pt → Prop} {PostX : Pt → Array Value → Addr → Pt → Prop} (hK : vx_Back l R p e below s args y 3 W9 Pre Post PostX)
    {b : Addr} {cellB : Cell} (hcell : T.heap[b]? = some cellB) (hobj : cellB.vm.isStatics = false) (hcls : s.vm.findClass C = some cellB.cls)
    {g : JFrame} (hg : g.method = m) (hsize : g.locals.size = c.maxLocals) {argsL rest : List Value} (hlen : ∀ sig, parseMethodDescriptor y.desc = some sig → argsL.length = sig.parameters.length)
    (hstack : g.stack = argsL.reverse ++ .ref b :: rest) (hW : 2 * g.monitorRoom + (rest.map fun v => v.category).sum ≤ W9) (hdg : decode c.code g.pc = .ok (.invokevirtual index, 3))
    (hpre : ∀ vm₁, s.WarmedH vm₁ → Pre ⟨T.setVm vm₁, locs, cells, slots⟩ (Value.ref b :: argsL).toArray) :
    (∃ (v : Option Value) (vm₁ : Vm) (B : Pt), s.WarmedH vm₁ ∧ Stand p l e R s m args below meth c B.U B.locs B.cells B.slots ∧ Post ⟨T.setVm vm₁, locs, cells, slots⟩ (Value.ref b :: argsL).toArray v B ∧
      ∀ target, Steps p.tables e below (B.U.setTop { g with pc := g.pc + 3, stack := v.toList ++ rest }) target → Steps p.tables e below (T.setTop g) target) ∨
    (∃ (q : Addr) (vm₁ : Vm) (B : Pt), s.WarmedH vm₁ ∧ Stand p l e R s m args below meth c B.U B.locs B.cells B.slots ∧ PostX ⟨T.setVm vm₁, locs, cells, slots⟩ (Value.ref b :: argsL).toArray q B ∧
      Steps p.tables e below (T.setTop g) ((B.U.setTop { g with stack := rest }).pushFrame (.throwing q))) := by
  obtain ⟨mk, methM, hnamed, hmethM, hstM, habM⟩ := Cond.instanceMethod_spec hinst
  obtain ⟨methM', cM, hmethM', -, -, -, -, -, -, hsigM⟩ := Cond.code_spec hnamed hcode
  cases hmethM.symm.trans hmethM'
  obtain ⟨c2, r2, m2, q1, q2, q3, q4, kP, hkP, hkPi⟩ := Cond.selects_spec hsel
  cases hcls.symm.trans q1
  cases (State.methodFound?_of_named hnamed hy).symm.trans q2
  cases hnamed.symm.trans q3
  have hselP : selectMethod e.platform s.vm cellB.cls mk = .method mk := by rw [Launch.admits_selectMethod X.admits]; exact q4
  obtain ⟨vm₁, X₁, hstep₁⟩ := X.invokevirtual hexec hown hlink hnamed hmethM hstM hkP hkPi hy (a := b) (cell := cellB) hcell
    (fun z h => by rw [h] at hobj; cases hobj) hselP hmethM habM hkP hkPi (g := g) hg (argsL := argsL) (rest := rest) (hlen _ hsigM) hstack hdg
  rcases hK m meth c ⟨T.setVm vm₁, locs, cells, slots⟩ { g with stack := rest } (.invokevirtual index) mk (Value.ref b :: argsL).toArray X₁ hg hsize hdg hW (X₁.named hnamed) (hpre vm₁ X₁.warmed) with ⟨v, B, X', hpost, hsteps⟩ | ⟨q, B, X', hpost, hsteps⟩
  · exact Or.inl ⟨v, vm₁, B, X₁.warmed, X', hpost, fun target h => hstep₁ _ fun acts => by rw [doInvoke_state]; exact hsteps.trans h⟩
  · exact Or.inr ⟨q, vm₁, B, X₁.warmed, X', hpost, hstep₁ _ fun acts => by rw [doInvoke_state]; exact hsteps⟩
theorem vx_callS (X : Stand p l e R s m args below meth c T locs cells slots) (hexec : p.tables.exec = Jvm.exec) {own : String} {index : Nat} {y : MethodName} {bytes : ByteArray} {maxL : Nat} {ret : Option FieldType}
    (hown : s.vm.findClass own = some m.cls) (hlink : (Cond.methodLink own index y).before args s = true) (hstat : (Cond.static y).before args s = true) (hinit : (Cond.initialized y.cls).before args s = true)
    (hcode : (Cond.code y bytes maxL ret).before args s = true) (hy : y.cls ≠ "java/lang/invoke/MethodHandle" ∧ y.cls ≠ "java/lang/invoke/VarHandle")
    {W9 : Nat} {Pre : Pt → Array Value → Prop} {Post : Pt → Array Value → Option Value → Pt → Prop} {PostX : Pt → Array Value → Addr → Pt → Prop} (hK : vx_Back l R p e below s args y 3 W9 Pre Post PostX)
    {g : JFrame} (hg : g.method = m) (hsize : g.locals.size = c.maxLocals) {argsL rest : List Value} (hlen : ∀ sig, parseMethodDescriptor y.desc = some sig → argsL.length = sig.parameters.length)
    (hstack : g.stack = argsL.reverse ++ rest) (hW : 2 * g.monitorRoom + (rest.map fun v => v.category).sum ≤ W9) (hdg : decode c.code g.pc = .ok (.invokestatic index, 3))
    (hpre : ∀ vm₁, s.WarmedH vm₁ → Pre ⟨T.setVm vm₁, locs, cells, slots⟩ argsL.toArray) :
    (∃ (v : Option Value) (vm₁ : Vm) (B : Pt), s.WarmedH vm₁ ∧ Stand p l e R s m args below meth c B.U B.locs B.cells B.slots ∧ Post ⟨T.setVm vm₁, locs, cells, slots⟩ argsL.toArray v B ∧
      ∀ target, Steps p.tables e below (B.U.setTop { g with pc := g.pc + 3, stack := v.toList ++ rest }) target → Steps p.tables e below (T.setTop g) target) ∨
    (∃ (q : Addr) (vm₁ : Vm) (B : Pt), s.WarmedH vm₁ ∧ Stand p l e R s m args below meth c B.U B.locs B.cells B.slots ∧ PostX ⟨T.setVm vm₁, locs, cells, slots⟩ argsL.toArray q B ∧
      Steps p.tables e below (T.setTop g) ((B.U.setTop { g with stack := rest }).pushFrame (.throwing q))) := by
  obtain ⟨mk, hnamed⟩ := Cond.code_named hcode
  obtain ⟨methM, cM, hmethM, -, -, -, -, -, -, hsigM⟩ := Cond.code_spec hnamed hcode
  have hstatic : methM.isStatic = true := Cond.static_spec hnamed hmethM hstat
  obtain ⟨kP, hkP, -⟩ := className_of_methodNamed hnamed
  have hinitP : kP.init = .initialized := Cond.initialized_spec (findClass_of_methodNamed hnamed) hkP hinit
  obtain ⟨vm₁, X₁, hstep₁⟩ := X.invokestatic hexec hown hlink hnamed hmethM hstatic hkP hinitP hy (g := g) hg (argsL := argsL) (rest := rest) (hlen _ hsigM) hstack hdg
  rcases hK m meth c ⟨T.setVm vm₁, locs, cells, slots⟩ { g with stack := rest } (.invokestatic index) mk argsL.toArray X₁ hg hsize hdg hW (X₁.named hnamed) (hpre vm₁ X₁.warmed) with ⟨v, B, X', hpost, hsteps⟩ | ⟨q, B, X', hpost, hsteps⟩
  · exact Or.inl ⟨v, vm₁, B, X₁.warmed, X', hpost, fun target h => hstep₁ _ fun acts => by rw [doInvoke_state]; exact hsteps.trans h⟩
  · exact Or.inr ⟨q, vm₁, B, X₁.warmed, X', hpost, hstep₁ _ fun acts => by rw [doInvoke_state]; exact hsteps⟩
end Calls
theorem vx_cls {s : State} {T : State} {vm₁ : Vm} {E : String} {k : ClassId} (hW : s.WarmedH vm₁) (h : (T.setVm vm₁).vm.findClass E = some k) : s.vm.findClass E = some k := by
  have h1 : vm₁.findClass E = some k := h
  rw [hW.alike.findClass] at h1
  exact h1
/-- the method's frame g, with q thrown over it -/
def vx_W (p : Program) (l : Launch) (e : Env) (R : Room) (s : State) (m : MethodId) (args : Array Value) (below : List Frame) (meth : Method) (c : Code) (H : Heap) (locs : List Loc) (cells slots : Nat) (Q : State → Prop) (g : JFrame) (q : Addr) : Prop :=
  ∀ T : State, T.heap = H → Stand p l e R s m args below meth c T locs cells slots → ∃ t, Steps p.tables e below ((T.setTop g).pushFrame (.throwing q)) t ∧ Q t
def vx_Run (p : Program) (l : Launch) (e : Env) (R : Room) (s : State) (m : MethodId) (args : Array Value) (below : List Frame) (meth : Method) (c : Code) (H : Heap) (locs : List Loc) (cells slots mc ms : Nat) (g : JFrame) (rest : List Value) (Qa : State → Outcome → State → Prop) (XC : String → State → State → Prop) (free : Addr → Prop) : Prop :=
  ∀ T : State, T.heap = H → Stand p l e R s m args below meth c T locs cells slots →
    (∃ (v : Option Value) (st₀ t T' : State) (L : List Loc), st₀.heap = H ∧ Stand p l e R s m args below meth c T' (locs ++ L) (cells + mc) (slots + ms) ∧ (∀ q ∈ L, free q.base) ∧ T'.heap = t.heap ∧ T'.vm = t.vm ∧ Qa st₀ (.returned v) t ∧
      Goes p e below T g T' { g with pc := g.pc + 3, stack := v.toList ++ rest }) ∨
    (∃ (q : Addr) (st₀ t T' : State) (L : List Loc) (E : String) (ce : Cell), st₀.heap = H ∧ Stand p l e R s m args below meth c T' (locs ++ L) (cells + mc) (slots + ms) ∧ (∀ z ∈ L, free z.base) ∧ T'.heap = t.heap ∧ T'.vm = t.vm ∧ XC E st₀ t ∧ t.heap[q]? = some ce ∧ ce.vm = .none ∧ s.vm.findClass E = some ce.cls ∧
      Steps p.tables e below (T.setTop g) ((T'.setTop { g with stack := rest }).pushFrame (.throwing q)))
def vx_X {S : Type} (px : S → Prop) (B : String → S → State → Prop) (A : Nat → Prop) : String → State → State → Prop := fun E st t => ∃ u : S, px u ∧ B E u t ∧ va_F A st t
section Runs
variable {p : Program} {l : Launch} {e : Env} {R : Room} {s : State} {m : MethodId} {args : Array Value} {below : List Frame} {meth : Method} {c : Code} {H : Heap} {locs : List Loc} {cells slots : Nat}
variable {y : MethodName} {bytes cc : ByteArray} {maxL nL mc ms n index : Nat} {ret : Option FieldType} {ws : List Cond} {rm : Room} {Pc : Array Value → State → Prop} {Qc : Array Value → State → Outcome → State → Prop} {XC : String → State → State → Prop} {free : Addr → Prop} {Ts : List Cond} {own C : String} {b : Addr} {As rest : List Value} {g : JFrame}
theorem vx_callBack (cb : CallB R s args own index y bytes maxL ret ws rm mc ms n) (hM : vx_Met l y ws rm Pc Qc XC mc ms free) (hbl : FrameBlind Pc) : vx_Back l R p e below s args y 3 8 (PreOf R mc ms Pc) (PostOf Qc mc ms free) (vx_Post XC mc ms free) := by
  obtain ⟨hrc, hrs, hfr, hlo, hws, hcw, -, hini, -⟩ := cb
  exact vx_back (bytes := bytes) (maxL := maxL) (ret := ret) hM hbl hrc hrs hfr hlo hws hcw (fun a' U hW => word_at hW (Or.inl (by first | rfl | simp [Cond.onTables, Cond.keeps, Cond.steady])) hini)
theorem vx_runV (S : CallFix p m c cc nL s args Ts own) (hM : vx_Met l y ws rm Pc Qc XC mc ms free) (cw : CallW R s args own C index y bytes maxL ret ws rm mc ms n) (hp : PreV s H C b Pc As)
    (hg : g.method = m) (hn : As.length = n) (hsize : g.locals.size = nL) (hstack : g.stack = As.reverse ++ .ref b :: rest) (hW : 2 * g.monitorRoom + (rest.map fun v => v.category).sum ≤ 8) (hdg : decode cc g.pc = .ok (.invokevirtual index, 3)) (hf : cells + mc ≤ R.cells ∧ slots + ms ≤ R.slots) :
    vx_Run p l e R s m args below meth c H locs cells slots mc ms g rest (Qc (Value.ref b :: As).toArray) XC free := by
  have hK : vx_Back l R p e below s args y 3 8 (PreOf R mc ms Pc) (PostOf Qc mc ms free) (vx_Post XC mc ms free) := vx_callBack cw.1 hM hp.1
  obtain ⟨⟨-, -, -, -, -, -, hcode, -, hy, hlen, hl⟩, hin, hse⟩ := cw
  obtain ⟨hx, hb, hml, ho, -⟩ := S
  obtain ⟨-, ⟨cellB, hcB, hoB, hclB⟩, hPc⟩ := hp
  intro T hT X
  rcases vx_callV X hx (C := C) (bytes := bytes) (maxL := maxL) (ret := ret) ho hl hin hse hcode hy hK (by rw [hT]; exact hcB) hoB hclB hg (hsize.trans hml.symm) (argsL := As) (rest := rest) (fun sig h => hn.trans (hlen sig h)) hstack hW (by rw [hb]; exact hdg)
    (fun vm₁ hW₁ => ⟨hf.1, hf.2, hPc (T.setVm vm₁) hT hW₁⟩) with ⟨v, vm₁, ⟨U', l2, c2, s2⟩, hW₁, X', ⟨g', mk, t, L, e1, e2, hq, h1, hL, h2, h3⟩, st⟩ | ⟨q, vm₁, ⟨U', l2, c2, s2⟩, hW₁, X', ⟨g', mk, t, L, E, ce, e1, e2, hq, hce, hcv, hcl, h1, hL, h2, h3⟩, st⟩
  · dsimp only [Pt.U, Pt.locs, Pt.cells, Pt.slots] at X' e1 e2 h1 h2 h3 st
    subst h1; subst h2; subst h3
    exact Or.inl ⟨v, (T.setVm vm₁).calling g' mk (Value.ref b :: As).toArray, t, U', L, hT, X', hL, e1, e2, hq, st⟩
  · dsimp only [Pt.U, Pt.locs, Pt.cells, Pt.slots] at X' e1 e2 h1 h2 h3 st hcl
    subst h1; subst h2; subst h3
    exact Or.inr ⟨q, (T.setVm vm₁).calling g' mk (Value.ref b :: As).toArray, t, U', L, E, ce, hT, X', hL, e1, e2, hq, hce, hcv, vx_cls hW₁ hcl, st⟩
theorem vx_runS (S : CallFix p m c cc nL s args Ts own) (hM : vx_Met l y ws rm Pc Qc XC mc ms free) (cw : CallB R s args own index y bytes maxL ret ws rm mc ms n ∧ (Cond.static y).before args s = true) (hp : PreS s H Pc As)
    (hg : g.method = m) (hn : As.length = n) (hsize : g.locals.size = nL) (hstack : g.stack = As.reverse ++ rest) (hW : 2 * g.monitorRoom + (rest.map fun v => v.category).sum ≤ 8) (hdg : decode cc g.pc = .ok (.invokestatic index, 3)) (hf : cells + mc ≤ R.cells ∧ slots + ms ≤ R.slots) :
    vx_Run p l e R s m args below meth c H locs cells slots mc ms g rest (Qc As.toArray) XC free := by
  have hK : vx_Back l R p e below s args y 3 8 (PreOf R mc ms Pc) (PostOf Qc mc ms free) (vx_Post XC mc ms free) := vx_callBack cw.1 hM hp.1
  obtain ⟨⟨-, -, -, -, -, -, hcode, hini, hy, hlen, hl⟩, hstt⟩ := cw
  obtain ⟨hx, hb, hml, ho, -⟩ := S
  intro T hT X
  rcases vx_callS X hx (bytes := bytes) (maxL := maxL) (ret := ret) ho hl hstt hini hcode hy hK hg (hsize.trans hml.symm) (argsL := As) (rest := rest) (fun sig h => hn.trans (hlen sig h)) hstack hW (by rw [hb]; exact hdg)
    (fun vm₁ hW₁ => ⟨hf.1, hf.2, hp.2 (T.setVm vm₁) hT hW₁⟩) with ⟨v, vm₁, ⟨U', l2, c2, s2⟩, hW₁, X', ⟨g', mk, t, L, e1, e2, hq, h1, hL, h2, h3⟩, st⟩ | ⟨q, vm₁, ⟨U', l2, c2, s2⟩, hW₁, X', ⟨g', mk, t, L, E, ce, e1, e2, hq, hce, hcv, hcl, h1, hL, h2, h3⟩, st⟩
  · dsimp only [Pt.U, Pt.locs, Pt.cells, Pt.slots] at X' e1 e2 h1 h2 h3 st
    subst h1; subst h2; subst h3
    exact Or.inl ⟨v, (T.setVm vm₁).calling g' mk As.toArray, t, U', L, hT, X', hL, e1, e2, hq, st⟩
  · dsimp only [Pt.U, Pt.locs, Pt.cells, Pt.slots] at X' e1 e2 h1 h2 h3 st hcl
    subst h1; subst h2; subst h3
    exact Or.inr ⟨q, (T.setVm vm₁).calling g' mk As.toArray, t, U', L, E, ce, hT, X', hL, e1, e2, hq, hce, hcv, vx_cls hW₁ hcl, st⟩
end Runs
section Rows
variable {p : Program} {l : Launch} {e : Env} {R : Room} {s : State} {m : MethodId} {args : Array Value} {below : List Frame} {meth : Method} {c : Code} {H : Heap} {locs : List Loc} {cells slots : Nat} {Q : State → Prop}
variable {mc ms : Nat} {free : Addr → Prop} {A0 A1 : Nat → Prop} {H0 : Heap} {a : Array Value} {pc : Nat} {ls : Array Slot} {st0 rest : List Value}
theorem vx_keep {st₀ t T' : State} {L : List Loc} (h0 : st₀.heap = H) (e1 : T'.heap = t.heap) (hS : va_S A0 H0 H locs) (hA : ∀ q, q < H.size → A1 q → A0 q) (hf : ∀ q, free q → A0 q) (hL : ∀ q ∈ L, free q.base) (hF : va_F A1 st₀ t) :
    H.size ≤ T'.heap.size ∧ (∀ q : Nat, q < H.size → ¬ A1 q → T'.heap[q]? = H[q]?) ∧ va_S A0 H0 T'.heap (locs ++ L) := by
  obtain ⟨hz, hk⟩ := hF
  rw [h0] at hz hk
  exact ⟨by rw [e1]; exact hz, fun q h1 h2 => by rw [e1]; exact hk q h1 h2,
    ⟨Nat.le_trans hS.1 (by rw [e1]; exact hz), fun q h1 h2 => by rw [e1, hk q (Nat.lt_of_lt_of_le h1 hS.1) (fun z => h2 (hA q (Nat.lt_of_lt_of_le h1 hS.1) z))]; exact hS.2.1 q h1 h2, fun q hq => by
      rcases List.mem_append.mp hq with h | h
      · exact hS.2.2 q h
      · exact hf _ (hL q h)⟩⟩
theorem vx_calli {S SX : Type} {post : Int32 → S → Prop} {px : SX → Prop} {B : S → State → Prop} {BX : String → SX → State → Prop} {AX : Nat → Prop} (hr : vx_Run p l e R s m args below meth c H locs cells slots mc ms (F0 m pc ls st0) rest (va_Qi post B A1 a) (vx_X px BX AX) free) (hS : va_S A0 H0 H locs) (hA : ∀ q, q < H.size → A1 q → A0 q) (hf : ∀ q, free q → A0 q) (hAX : ∀ q, q < H.size → AX q → A0 q)
    (kx : ∀ (E : String) (ce : Cell) (q9 : Addr) (u : SX) (t : State) (H1 : Heap) (locs1 : List Loc), t.heap = H1 → s.vm.Alike t.vm → px u → BX E u t → H.size ≤ H1.size → (∀ q : Nat, q < H.size → ¬ AX q → H1[q]? = H[q]?) → va_S A0 H0 H1 locs1 → H1[q9]? = some ce → ce.vm = .none → s.vm.findClass E = some ce.cls → vx_W p l e R s m args below meth c H1 locs1 (cells + mc) (slots + ms) Q (F0 m pc ls rest) q9)
    (kk : ∀ (r : Int32) (u : S) (t : State) (H1 : Heap) (locs1 : List Loc), t.heap = H1 → s.vm.Alike t.vm → post r u → B u t → H.size ≤ H1.size → (∀ q : Nat, q < H.size → ¬ A1 q → H1[q]? = H[q]?) → va_S A0 H0 H1 locs1 → W p l e R s m args below meth c H1 locs1 (cells + mc) (slots + ms) Q (F0 m (pc + 3) ls (.int r :: rest))) : W p l e R s m args below meth c H locs cells slots Q (F0 m pc ls st0) := by
  intro T hT X
  rcases hr T hT X with ⟨v, st₀, t, T', L, h0, X', hL, e1, e2, ⟨⟨r, u, hv, hp, hb⟩, hF⟩, st⟩ | ⟨q, st₀, t, T', L, E, ce, h0, X', hL, e1, e2, ⟨u, hp, hb, hF⟩, hce, hcv, hcl, st⟩
  · cases hv
    obtain ⟨k1, k2, k3⟩ := vx_keep h0 e1 hS hA hf hL hF
    obtain ⟨t2, a1, b1⟩ := kk r u t T'.heap (locs ++ L) e1.symm (by rw [← e2]; exact X'.warmed.alike) hp hb k1 k2 k3 T' rfl X'
    exact ⟨t2, st t2 a1, b1⟩
  · obtain ⟨k1, k2, k3⟩ := vx_keep h0 e1 hS hAX hf hL hF
    obtain ⟨t2, a1, b1⟩ := kx E ce q u t T'.heap (locs ++ L) e1.symm (by rw [← e2]; exact X'.warmed.alike) hp hb k1 k2 k3 (by rw [e1]; exact hce) hcv hcl T' rfl X'
    exact ⟨t2, st.trans a1, b1⟩
theorem vx_calll {S SX : Type} {post : Int64 → S → Prop} {px : SX → Prop} {B : S → State → Prop} {BX : String → SX → State → Prop} {AX : Nat → Prop} (hr : vx_Run p l e R s m args below meth c H locs cells slots mc ms (F0 m pc ls st0) rest (va_Ql post B A1 a) (vx_X px BX AX) free) (hS : va_S A0 H0 H locs) (hA : ∀ q, q < H.size → A1 q → A0 q) (hf : ∀ q, free q → A0 q) (hAX : ∀ q, q < H.size → AX q → A0 q)
    (kx : ∀ (E : String) (ce : Cell) (q9 : Addr) (u : SX) (t : State) (H1 : Heap) (locs1 : List Loc), t.heap = H1 → s.vm.Alike t.vm → px u → BX E u t → H.size ≤ H1.size → (∀ q : Nat, q < H.size → ¬ AX q → H1[q]? = H[q]?) → va_S A0 H0 H1 locs1 → H1[q9]? = some ce → ce.vm = .none → s.vm.findClass E = some ce.cls → vx_W p l e R s m args below meth c H1 locs1 (cells + mc) (slots + ms) Q (F0 m pc ls rest) q9)
    (kk : ∀ (r : Int64) (u : S) (t : State) (H1 : Heap) (locs1 : List Loc), t.heap = H1 → s.vm.Alike t.vm → post r u → B u t → H.size ≤ H1.size → (∀ q : Nat, q < H.size → ¬ A1 q → H1[q]? = H[q]?) → va_S A0 H0 H1 locs1 → W p l e R s m args below meth c H1 locs1 (cells + mc) (slots + ms) Q (F0 m (pc + 3) ls (.long r :: rest))) : W p l e R s m args below meth c H locs cells slots Q (F0 m pc ls st0) := by
  intro T hT X
  rcases hr T hT X with ⟨v, st₀, t, T', L, h0, X', hL, e1, e2, ⟨⟨r, u, hv, hp, hb⟩, hF⟩, st⟩ | ⟨q, st₀, t, T', L, E, ce, h0, X', hL, e1, e2, ⟨u, hp, hb, hF⟩, hce, hcv, hcl, st⟩
  · cases hv
    obtain ⟨k1, k2, k3⟩ := vx_keep h0 e1 hS hA hf hL hF
    obtain ⟨t2, a1, b1⟩ := kk r u t T'.heap (locs ++ L) e1.symm (by rw [← e2]; exact X'.warmed.alike) hp hb k1 k2 k3 T' rfl X'
    exact ⟨t2, st t2 a1, b1⟩
  · obtain ⟨k1, k2, k3⟩ := vx_keep h0 e1 hS hAX hf hL hF
    obtain ⟨t2, a1, b1⟩ := kx E ce q u t T'.heap (locs ++ L) e1.symm (by rw [← e2]; exact X'.warmed.alike) hp hb k1 k2 k3 (by rw [e1]; exact hce) hcv hcl T' rfl X'
    exact ⟨t2, st.trans a1, b1⟩
theorem vx_callf {S SX : Type} {post : UInt32 → S → Prop} {px : SX → Prop} {B : S → State → Prop} {BX : String → SX → State → Prop} {AX : Nat → Prop} (hr : vx_Run p l e R s m args below meth c H locs cells slots mc ms (F0 m pc ls st0) rest (va_Qf post B A1 a) (vx_X px BX AX) free) (hS : va_S A0 H0 H locs) (hA : ∀ q, q < H.size → A1 q → A0 q) (hf : ∀ q, free q → A0 q) (hAX : ∀ q, q < H.size → AX q → A0 q)
    (kx : ∀ (E : String) (ce : Cell) (q9 : Addr) (u : SX) (t : State) (H1 : Heap) (locs1 : List Loc), t.heap = H1 → s.vm.Alike t.vm → px u → BX E u t → H.size ≤ H1.size → (∀ q : Nat, q < H.size → ¬ AX q → H1[q]? = H[q]?) → va_S A0 H0 H1 locs1 → H1[q9]? = some ce → ce.vm = .none → s.vm.findClass E = some ce.cls → vx_W p l e R s m args below meth c H1 locs1 (cells + mc) (slots + ms) Q (F0 m pc ls rest) q9)
    (kk : ∀ (r : UInt32) (u : S) (t : State) (H1 : Heap) (locs1 : List Loc), t.heap = H1 → s.vm.Alike t.vm → post r u → B u t → H.size ≤ H1.size → (∀ q : Nat, q < H.size → ¬ A1 q → H1[q]? = H[q]?) → va_S A0 H0 H1 locs1 → W p l e R s m args below meth c H1 locs1 (cells + mc) (slots + ms) Q (F0 m (pc + 3) ls (.float r :: rest))) : W p l e R s m args below meth c H locs cells slots Q (F0 m pc ls st0) := by
  intro T hT X
  rcases hr T hT X with ⟨v, st₀, t, T', L, h0, X', hL, e1, e2, ⟨⟨r, u, hv, hp, hb⟩, hF⟩, st⟩ | ⟨q, st₀, t, T', L, E, ce, h0, X', hL, e1, e2, ⟨u, hp, hb, hF⟩, hce, hcv, hcl, st⟩
  · cases hv
    obtain ⟨k1, k2, k3⟩ := vx_keep h0 e1 hS hA hf hL hF
    obtain ⟨t2, a1, b1⟩ := kk r u t T'.heap (locs ++ L) e1.symm (by rw [← e2]; exact X'.warmed.alike) hp hb k1 k2 k3 T' rfl X'
    exact ⟨t2, st t2 a1, b1⟩
  · obtain ⟨k1, k2, k3⟩ := vx_keep h0 e1 hS hAX hf hL hF
    obtain ⟨t2, a1, b1⟩ := kx E ce q u t T'.heap (locs ++ L) e1.symm (by rw [← e2]; exact X'.warmed.alike) hp hb k1 k2 k3 (by rw [e1]; exact hce) hcv hcl T' rfl X'
    exact ⟨t2, st.trans a1, b1⟩
theorem vx_calld {S SX : Type} {post : UInt64 → S → Prop} {px : SX → Prop} {B : S → State → Prop} {BX : String → SX → State → Prop} {AX : Nat → Prop} (hr : vx_Run p l e R s m args below meth c H locs cells slots mc ms (F0 m pc ls st0) rest (va_Qd post B A1 a) (vx_X px BX AX) free) (hS : va_S A0 H0 H locs) (hA : ∀ q, q < H.size → A1 q → A0 q) (hf : ∀ q, free q → A0 q) (hAX : ∀ q, q < H.size → AX q → A0 q)
    (kx : ∀ (E : String) (ce : Cell) (q9 : Addr) (u : SX) (t : State) (H1 : Heap) (locs1 : List Loc), t.heap = H1 → s.vm.Alike t.vm → px u → BX E u t → H.size ≤ H1.size → (∀ q : Nat, q < H.size → ¬ AX q → H1[q]? = H[q]?) → va_S A0 H0 H1 locs1 → H1[q9]? = some ce → ce.vm = .none → s.vm.findClass E = some ce.cls → vx_W p l e R s m args below meth c H1 locs1 (cells + mc) (slots + ms) Q (F0 m pc ls rest) q9)
    (kk : ∀ (r : UInt64) (u : S) (t : State) (H1 : Heap) (locs1 : List Loc), t.heap = H1 → s.vm.Alike t.vm → post r u → B u t → H.size ≤ H1.size → (∀ q : Nat, q < H.size → ¬ A1 q → H1[q]? = H[q]?) → va_S A0 H0 H1 locs1 → W p l e R s m args below meth c H1 locs1 (cells + mc) (slots + ms) Q (F0 m (pc + 3) ls (.double r :: rest))) : W p l e R s m args below meth c H locs cells slots Q (F0 m pc ls st0) := by
  intro T hT X
  rcases hr T hT X with ⟨v, st₀, t, T', L, h0, X', hL, e1, e2, ⟨⟨r, u, hv, hp, hb⟩, hF⟩, st⟩ | ⟨q, st₀, t, T', L, E, ce, h0, X', hL, e1, e2, ⟨u, hp, hb, hF⟩, hce, hcv, hcl, st⟩
  · cases hv
    obtain ⟨k1, k2, k3⟩ := vx_keep h0 e1 hS hA hf hL hF
    obtain ⟨t2, a1, b1⟩ := kk r u t T'.heap (locs ++ L) e1.symm (by rw [← e2]; exact X'.warmed.alike) hp hb k1 k2 k3 T' rfl X'
    exact ⟨t2, st t2 a1, b1⟩
  · obtain ⟨k1, k2, k3⟩ := vx_keep h0 e1 hS hAX hf hL hF
    obtain ⟨t2, a1, b1⟩ := kx E ce q u t T'.heap (locs ++ L) e1.symm (by rw [← e2]; exact X'.warmed.alike) hp hb k1 k2 k3 (by rw [e1]; exact hce) hcv hcl T' rfl X'
    exact ⟨t2, st.trans a1, b1⟩
theorem vx_callv {S SX : Type} {post : S → Prop} {px : SX → Prop} {B : S → State → Prop} {BX : String → SX → State → Prop} {AX : Nat → Prop} (hr : vx_Run p l e R s m args below meth c H locs cells slots mc ms (F0 m pc ls st0) rest (va_Qv post B A1 a) (vx_X px BX AX) free) (hS : va_S A0 H0 H locs) (hA : ∀ q, q < H.size → A1 q → A0 q) (hf : ∀ q, free q → A0 q) (hAX : ∀ q, q < H.size → AX q → A0 q)
    (kx : ∀ (E : String) (ce : Cell) (q9 : Addr) (u : SX) (t : State) (H1 : Heap) (locs1 : List Loc), t.heap = H1 → s.vm.Alike t.vm → px u → BX E u t → H.size ≤ H1.size → (∀ q : Nat, q < H.size → ¬ AX q → H1[q]? = H[q]?) → va_S A0 H0 H1 locs1 → H1[q9]? = some ce → ce.vm = .none → s.vm.findClass E = some ce.cls → vx_W p l e R s m args below meth c H1 locs1 (cells + mc) (slots + ms) Q (F0 m pc ls rest) q9)
    (kk : ∀ (u : S) (t : State) (H1 : Heap) (locs1 : List Loc), t.heap = H1 → s.vm.Alike t.vm → post u → B u t → H.size ≤ H1.size → (∀ q : Nat, q < H.size → ¬ A1 q → H1[q]? = H[q]?) → va_S A0 H0 H1 locs1 → W p l e R s m args below meth c H1 locs1 (cells + mc) (slots + ms) Q (F0 m (pc + 3) ls (rest))) : W p l e R s m args below meth c H locs cells slots Q (F0 m pc ls st0) := by
  intro T hT X
  rcases hr T hT X with ⟨v, st₀, t, T', L, h0, X', hL, e1, e2, ⟨⟨u, hv, hp, hb⟩, hF⟩, st⟩ | ⟨q, st₀, t, T', L, E, ce, h0, X', hL, e1, e2, ⟨u, hp, hb, hF⟩, hce, hcv, hcl, st⟩
  · cases hv
    obtain ⟨k1, k2, k3⟩ := vx_keep h0 e1 hS hA hf hL hF
    obtain ⟨t2, a1, b1⟩ := kk u t T'.heap (locs ++ L) e1.symm (by rw [← e2]; exact X'.warmed.alike) hp hb k1 k2 k3 T' rfl X'
    exact ⟨t2, st t2 a1, b1⟩
  · obtain ⟨k1, k2, k3⟩ := vx_keep h0 e1 hS hAX hf hL hF
    obtain ⟨t2, a1, b1⟩ := kx E ce q u t T'.heap (locs ++ L) e1.symm (by rw [← e2]; exact X'.warmed.alike) hp hb k1 k2 k3 (by rw [e1]; exact hce) hcv hcl T' rfl X'
    exact ⟨t2, st.trans a1, b1⟩
/-- caught by the row x of this method's table; the rows ahead don't take it -/
theorem vx_catch {own name : String} {E : String} {ce : Cell} {q : Addr} (hown : s.vm.findClass own = some m.cls) (pre : List ExceptionTableEntry) (x : ExceptionTableEntry) (suf : List ExceptionTableEntry) (hsplit : c.exceptionTable.toList = pre ++ x :: suf)
    (hpass : ∀ z ∈ pre, covers z pc = false ∨ (z.catchType ≠ 0 ∧ ∃ nm : String, (Cond.classLink own z.catchType nm).before args s = true ∧ va_Nc E nm s)) (hx : covers x pc = true) (h0 : x.catchType ≠ 0)
    (hlink : (Cond.classLink own x.catchType name).before args s = true) (hcast : (Cond.castable E name).before args s = true) (hcell : H[q]? = some ce) (hv : ce.vm = .none) (hcl : s.vm.findClass E = some ce.cls)
    (kk : W p l e R s m args below meth c H locs cells slots Q (F0 m x.handlerPc ls [.ref q])) : vx_W p l e R s m args below meth c H locs cells slots Q (F0 m pc ls rest) q := by
  intro T hT X
  have hpl : e.platform.magicAccessors = ({} : Platform).magicAccessors := by rw [X.admits.platform]
  obtain ⟨c3, c4, hc3, hc4, hasg⟩ := Cond.castable_spec hcast
  cases Option.some.inj (hc3.symm.trans hcl)
  obtain ⟨c5, hc5, hcl5⟩ := Cond.classLink_spec hown hlink e.platform hpl
  cases Option.some.inj (hc4.symm.trans hc5)
  obtain ⟨vm', X', st⟩ := X.thenCaughtThrough q (g := F0 m pc ls rest) rfl (Steps.refl _) (by rw [hT]; exact hcell) (by rw [hv]; rfl) (by obtain ⟨k9, h9, -⟩ := Vm.findClass_spec hcl; exact ⟨k9, h9⟩) pre x suf hsplit
    (fun z hz => by
      rcases hpass z hz with h | ⟨hz0, nm, hl1, hn1⟩
      · exact Or.inl h
      · obtain ⟨c6, hc6, hcl6⟩ := Cond.classLink_spec hown hl1 e.platform hpl
        obtain ⟨a8, b8, h1, h2, h3⟩ := hn1
        cases Option.some.inj (h1.symm.trans hcl)
        cases Option.some.inj (h2.symm.trans hc6)
        exact Or.inr ⟨hz0, _, hcl6, h3⟩) hx (Or.inr ⟨h0, c4, hcl5, hasg⟩)
  obtain ⟨t, a1, b1⟩ := kk (T.setVm vm') hT X'
  exact ⟨t, st.trans a1, b1⟩
end Rows
section Ends
variable {p : Program} {l : Launch} {e : Env} {R : Room} {s : State} {m : MethodId} {args : Array Value} {below : List Frame} {meth : Method} {c : Code} {H : Heap} {locs : List Loc} {cells slots : Nat} {Q : State → Prop}
variable {mc ms : Nat} {free : Addr → Prop} {A0 A1 : Nat → Prop} {H0 : Heap} {a : Array Value} {ls : Array Slot} {st0 rest : List Value}
variable {Qc : Array Value → State → Outcome → State → Prop} {XC : String → State → State → Prop}
/-- what a body that may throw owes at its end -/
def vx_MQ (below : List Frame) (Qc : Array Value → State → Outcome → State → Prop) (XC : String → State → State → Prop) (a : Array Value) (s : State) (mc ms : Nat) (free : Addr → Prop) : State → Prop := fun t =>
  ∃ o, t.status = .running ∧ Ended t below o ∧ vx_Q Qc XC mc ms free a s o t
theorem vx_ret {g : JFrame} {mc ms : Nat} (k : W p l e R s m args below meth c H locs cells slots (MQ below Qc args s mc ms free) g) : W p l e R s m args below meth c H locs cells slots (vx_MQ below Qc XC args s mc ms free) g := by
  intro T hT X
  obtain ⟨t, a1, o, b1, b2, b3, b4⟩ := k T hT X
  exact ⟨t, a1, o, b1, b2, Or.inl ⟨b3, b4⟩⟩
/-- not caught here: it goes on to the caller -/
theorem vx_widen {g : JFrame} {q : Addr} {k n : Nat} (h1 : cells ≤ k) (h2 : slots ≤ n) (kk : vx_W p l e R s m args below meth c H locs k n Q g q) : vx_W p l e R s m args below meth c H locs cells slots Q g q := fun T hT X => kk T hT (stand_widen X h1 h2)
theorem vx_out {pc : Nat} {E : String} {ce : Cell} {q : Addr} {mc ms : Nat} (hout : ∀ x ∈ c.exceptionTable.toList, covers x pc = false) (hlocks : meth.locks = false) (hcell : H[q]? = some ce) (hv : ce.vm = .none) (hcl : s.vm.findClass E = some ce.cls)
    (hx : ∀ t : State, t.heap = H → s.vm.Alike t.vm → XC E s t) (hf : ∀ z ∈ locs, free z.base) (hc : cells ≤ mc) (hs : slots ≤ ms) :
    vx_W p l e R s m args below meth c H locs cells slots (vx_MQ below Qc XC args s mc ms free) (F0 m pc ls rest) q := by
  intro T hT X
  obtain ⟨st1, hrun, hend, hW, hsm⟩ := X.leaveThrown q (g := F0 m pc ls rest) rfl rfl rfl hout hlocks
  have hcell9 : (T.setFrames (.throwing q :: below)).heap[q]? = some ce := by
    show T.heap[q]? = some ce
    rw [hT]; exact hcell
  exact ⟨_, st1, .threw q, hrun, hend, Or.inr ⟨q, rfl, E, ce, locs, hx _ hT hW.alike, hcell9, hv, hcl, hW, hsm.mono hc hs, hf⟩⟩
theorem vx_frame {U : State} {k n : Nat} (h : s.sameButNew ({ U with vm := s.vm } : State) locs k n) : s.heap.size ≤ U.heap.size ∧ ∀ q : Nat, q < s.heap.size → (∀ z ∈ locs, z.base ≠ q) → U.heap[q]? = s.heap[q]? := by
  obtain ⟨-, h2, -, -, -, h6⟩ := h
  refine ⟨h2, fun q hq hz => ?_⟩
  obtain ⟨c9, e1, e2, e3, e4⟩ := h6 q _ (Array.getElem?_eq_getElem hq)
  have hs : c9.slots = (s.heap[q]).slots := Array.ext_getElem? fun i => e4 i fun hm => hz _ hm rfl
  have h9 : c9 = s.heap[q] := by
    rw [hs] at e2
    exact e2
  have e5 : U.heap[q]? = some c9 := e1
  rw [e5, h9, Array.getElem?_eq_getElem hq]
/-- the words of a throw but the four that speak of the heap -/
def vx_no (w : Cond) : Bool := decide (w ≠ .isRef (.static Bundle.tN "UNASSIGNED_STACK" Bundle.steD)) && decide (w ≠ .isRef (.static Bundle.tN "SUPPRESSED_SENTINEL" Bundle.listD)) && decide (w ≠ .laysStatic Bundle.tN "UNASSIGNED_STACK" Bundle.steD) && decide (w ≠ .laysStatic Bundle.tN "SUPPRESSED_SENTINEL" Bundle.listD)
def vx_at0 (own : String) (ic : Nat) (X : String) (names : List String) : List Cond := (Bundle.ownAtoms0 own ic X names).filter vx_no
def vx_atS (own : String) (ic : Nat) (X : String) (names : List String) : List Cond := (Bundle.ownAtoms own ic X names).filter vx_no
/-- a word that the tables alone decide, or a good one -/
def vx_ot (w : Cond) : Bool := w.onTables || goodWord w
theorem vx_ot_at {args a' : Array Value} {s U : State} {w : Cond} (hW : s.WarmedH U.vm) (hvm : s.vm = U.vm) (hg : vx_ot w = true) (h : w.before args s = true) : w.before a' U = true := by
  simp only [vx_ot, Bool.or_eq_true] at hg
  rcases hg with hg | hg
  · exact va_tabs hg hvm h
  · exact word_at hW (good_of_word hg) h
/-- a list's words: the good ones out of the method's own list, the others by premises of their own -/
theorem vx_hat {args : Array Value} {s : State} {L B : List Cond} (h1 : ∀ w ∈ L.filter goodWord, w.before args s = true) (h2 : ∀ w ∈ L.filter (fun w => !goodWord w), w ∈ B) (h3 : ∀ w ∈ B, w.before args s = true) : ∀ w ∈ L, w.before args s = true := by
  intro w hw
  by_cases g : goodWord w = true
  · exact h1 w (List.mem_filter.mpr ⟨hw, g⟩)
  · refine h3 w (h2 w (List.mem_filter.mpr ⟨hw, ?_⟩))
    show (!goodWord w) = true
    cases hgw : goodWord w
    · rfl
    · exact absurd hgw g
theorem vx_c {args : Array Value} {s : State} {w : Cond} {B : List Cond} (h : w.before args s = true) (t : ∀ w ∈ B, w.before args s = true) : ∀ w' ∈ w :: B, w'.before args s = true := fun w' h' => (List.mem_cons.mp h').elim (fun e => by rw [e]; exact h) (t w')
theorem vx_n {args : Array Value} {s : State} : ∀ w ∈ ([] : List Cond), w.before args s = true := fun _ h => nomatch h
theorem vx_own {args : Array Value} {s : State} {L : List Cond} (h1 : ∀ w ∈ L.filter vx_no, w.before args s = true)
    (hU : (Cond.isRef (.static Bundle.tN "UNASSIGNED_STACK" Bundle.steD)).before args s = true) (hN : (Cond.isRef (.static Bundle.tN "SUPPRESSED_SENTINEL" Bundle.listD)).before args s = true)
    (lU : (Cond.laysStatic Bundle.tN "UNASSIGNED_STACK" Bundle.steD).before args s = true) (lN : (Cond.laysStatic Bundle.tN "SUPPRESSED_SENTINEL" Bundle.listD).before args s = true) : ∀ w ∈ L, w.before args s = true := by
  intro w hw
  by_cases e1 : w = .isRef (.static Bundle.tN "UNASSIGNED_STACK" Bundle.steD)
  · rw [e1]; exact hU
  · by_cases e2 : w = .isRef (.static Bundle.tN "SUPPRESSED_SENTINEL" Bundle.listD)
    · rw [e2]; exact hN
    · by_cases e3 : w = .laysStatic Bundle.tN "UNASSIGNED_STACK" Bundle.steD
      · rw [e3]; exact lU
      · by_cases e4 : w = .laysStatic Bundle.tN "SUPPRESSED_SENTINEL" Bundle.listD
        · rw [e4]; exact lN
        · exact h1 w (List.mem_filter.mpr ⟨hw, by unfold vx_no; rw [decide_eq_true e1, decide_eq_true e2, decide_eq_true e3, decide_eq_true e4]; rfl⟩)
/-- where a static field lies, its class's statics cell in H -/
def vx_L (C n d : String) (A : Nat → Prop) (U : State) (H : Heap) : Prop := ∃ (c : ClassId) (k : Class) (i : Nat) (f : Field) (a : Nat) (cell : Cell), U.vm.findClass C = some c ∧ U.fieldFound? C n d = some (c, k, i, f) ∧ f.isStatic = true ∧ k.statics = some a ∧ H[a]? = some cell ∧ cell.vm.isStatics = true ∧ cell.cls = c ∧ f.slot < cell.slots.size ∧ k.staticTypes[f.slot]? = some f.type ∧ ¬ A a
theorem vx_L.moved {C n d : String} {A : Nat → Prop} {u U : State} {H : Heap} (hvm : u.vm.Alike U.vm) (h : vx_L C n d A u H) : vx_L C n d A U H := by
  obtain ⟨c, k, i, f, a, cell, h1, h2, h3, h4, h5, h6, h7, h8, h9, h10⟩ := h
  obtain ⟨k', hi', he⟩ := State.fieldFound?_setVm hvm h2
  exact ⟨c, k', i, f, a, cell, by rw [hvm.findClass]; exact h1, hi', h3, by rw [he]; exact h4, h5, h6, h7, h8, by rw [he]; exact h9, h10⟩
theorem vx_L.kept {C n d : String} {A : Nat → Prop} {U : State} {H H1 : Heap} (h : vx_L C n d A U H) (hq : ∀ a : Nat, a < H.size → ¬ A a → H1[a]? = H[a]?) : vx_L C n d A U H1 := by
  obtain ⟨c, k, i, f, a, cell, h1, h2, h3, h4, h5, h6, h7, h8, h9, h10⟩ := h
  exact ⟨c, k, i, f, a, cell, h1, h2, h3, h4, by rw [hq a (Array.getElem?_eq_some_iff.mp h5).1 h10]; exact h5, h6, h7, h8, h9, h10⟩
theorem vx_L.narrow {C n d : String} {A B : Nat → Prop} {U : State} {H : Heap} (h : vx_L C n d A U H) (hAB : ∀ q, B q → A q) : vx_L C n d B U H := by
  obtain ⟨c, k, i, f, a, cell, h1, h2, h3, h4, h5, h6, h7, h8, h9, h10⟩ := h
  exact ⟨c, k, i, f, a, cell, h1, h2, h3, h4, h5, h6, h7, h8, h9, fun z => h10 (hAB _ z)⟩
theorem vx_L.word {C n d : String} {A : Nat → Prop} {s : State} {args : Array Value} (h : vx_L C n d A s s.heap) : (Cond.laysStatic C n d).before args s = true := by
  obtain ⟨c, k, i, f, a, cell, h1, h2, h3, h4, h5, h6, h7, h8, h9, -⟩ := h
  show (Cond.laysStatic C n d).holds args s none s [] = true
  exact Cond.laysStatic_of h1 h2 h3 h4 h5 h6 h7 h8 h9
/-- .. and what it holds: null or some reference -/
def vx_Zq (C n d : String) (A : Nat → Prop) (U : State) (H : Heap) : Prop := va_Zq C n d A U H ∧ vx_L C n d A U H
theorem vx_Zq.moved {C n d : String} {A : Nat → Prop} {u U : State} {H : Heap} (hvm : u.vm.Alike U.vm) (h : vx_Zq C n d A u H) : vx_Zq C n d A U H := ⟨va_Zq.moved hvm h.1, vx_L.moved hvm h.2⟩
theorem vx_Zq.kept {C n d : String} {A : Nat → Prop} {U : State} {H H1 : Heap} (h : vx_Zq C n d A U H) (hq : ∀ a : Nat, a < H.size → ¬ A a → H1[a]? = H[a]?) : vx_Zq C n d A U H1 := ⟨va_Zq.kept h.1 hq, vx_L.kept h.2 hq⟩
theorem vx_Zq.narrow {C n d : String} {A B : Nat → Prop} {U : State} {H : Heap} (h : vx_Zq C n d A U H) (hAB : ∀ q, B q → A q) : vx_Zq C n d B U H := ⟨va_Zq.narrow h.1 hAB, vx_L.narrow h.2 hAB⟩
theorem vx_Zqof {args : Array Value} {s : State} {C n d : String} {A : Nat → Prop} (hl : (Cond.laysStatic C n d).before args s = true) (hini : (Cond.initialized C).before args s = true) (h : (Cond.isRef (.static C n d)).before args s = true) (hA : ∀ a : Nat, a < s.heap.size → ¬ A a) : vx_Zq C n d A s s.heap := by
  refine ⟨va_Zqof hl hini h hA, ?_⟩
  obtain ⟨c, k, i, f, a, cell, h1, h2, h3, h4, h5, h6, h7, h8, h9⟩ := Cond.laysStatic_spec hl
  exact ⟨c, k, i, f, a, cell, h1, h2, h3, h4, h5, h6, h7, h8, h9, hA a (Array.getElem?_eq_some_iff.mp h5).1⟩
theorem vx_isRef {C n d : String} {v : Value} {A : Nat → Prop} {s : State} {args : Array Value} (h : va_Z C n d v A s s.heap) (hv : v.isRef = true) : (Cond.isRef (.static C n d)).before args s = true := by
  obtain ⟨cf, kf, fi, f, a, cell, h1, h2, h3, h4, h5, h6, h7, -⟩ := h
  have he : (Term.static C n d).eval args s none [] s = some v := by
    simp [Term.eval, State.fieldNamed?, h1, h2, h4, h5, h6, h7]
  simp only [Cond.before, Cond.holds, Cond.value, he]
  cases v <;> simp_all [Value.isRef]
theorem vx_isRefq {C n d : String} {A : Nat → Prop} {s : State} {args : Array Value} (h : va_Zq C n d A s s.heap) : (Cond.isRef (.static C n d)).before args s = true := by
  rcases h with h | ⟨t, h⟩
  · exact vx_isRef h rfl
  · exact vx_isRef h rfl
/-- the same frame, seen from here: as if the method were called anew in this heap -/
theorem vx_rebase {T : State} (X : Stand p l e R s m args below meth c T locs cells slots) {R' : Room} (hf : R'.frames ≤ R.frames) (hl : R'.locals ≤ R.locals) (hc : cells + R'.cells ≤ R.cells) (hs : slots + R'.slots ≤ R.slots) :
    Stand p l e R' ((T.setVm s.vm).setFrames (.invoking m args :: below)) m args below meth c T [] 0 0 := by
  have htop : (T.setVm s.vm).topJava?.isSome := X.here.top
  have hF : ((T.setVm s.vm).setFrames (.invoking m args :: below)).frames = .invoking m args :: below := State.frames_setFrames _ (State.cur_lt_of_top htop)
  obtain ⟨g₀, hg0⟩ := Option.isSome_iff_exists.mp htop
  obtain ⟨r, hr⟩ := State.topJava?_eq_some.mp hg0
  have hl9 : e.platform.stackLimits (T.setVm s.vm).me = e.platform.stackLimits s.me := X.limits
  have hb9 : (T.setVm s.vm).me.stackBytes = s.me.stackBytes := X.bytes
  refine ⟨X.admits, X.cas, X.clock, hF, ?_, X.hears, X.method, X.code, X.here, X.tail, X.warmed, ?_, ?_, ?_⟩
  · have h := X.room
    have hU : ((T.setVm s.vm).setFrames (.invoking m args :: below)).localsInUse = s.localsInUse := by
      rw [State.localsInUse_invoking hF (meth := meth) (c := c) X.method X.code, State.localsInUse_invoking X.frames X.method X.code]
    simp only [State.hasRoom, Bool.and_eq_true, decide_eq_true_eq] at h ⊢
    obtain ⟨⟨⟨⟨h1, h2, h3, h4, h5, h6⟩, h7⟩, h8⟩, h9⟩ := h
    rw [X.frames, List.length_cons] at h2 h3
    have q1 := X.heapSize
    have q2 := X.used
    simp only [hF, hU, List.length_cons, State.stackLimits_setFrames, State.stackBytes_setFrames, hl9, hb9]
    refine ⟨⟨⟨⟨by omega, by omega, by omega, by omega, by omega, h6⟩, ?_⟩, ?_⟩, X.book⟩
    · show T.heap.size + R'.cells ≤ e.platform.maxCells
      omega
    · show T.slotsUsed + R'.slots ≤ e.platform.maxSlots
      omega
  · rw [State.stackLimits_setFrames]; rfl
  · rw [State.stackBytes_setFrames]; rfl
  · refine ⟨?_, Nat.le_refl _, Nat.le_refl _, ?_, ?_, fun a c9 h9 => ⟨c9, h9, rfl, rfl, fun _ _ => rfl⟩⟩
    · obtain ⟨t, ht, -⟩ := State.frames_cons hr
      show T.setVm s.vm = { ((T.setVm s.vm).setFrames (.invoking m args :: below)).setFrames (T.setVm s.vm).frames with heap := T.heap, slotsUsed := T.slotsUsed }
      rw [State.setFrames_setFrames, State.setFrames_self ht]
      rfl
    · show T.slotsUsed = T.slotsUsed + ((T.heap.toList.drop T.heap.size).map (·.slots.size)).sum
      rw [List.drop_eq_nil_of_le (Nat.le_of_eq Array.length_toList)]
      rfl
    · show ((T.heap.toList.drop T.heap.size).map (·.slots.size)).sum ≤ 0
      rw [List.drop_eq_nil_of_le (Nat.le_of_eq Array.length_toList)]
      exact Nat.le_refl _
/-- 'throw new E()': new; dup; invokespecial; athrow -/
theorem vx_throw0 {cc : ByteArray} {pc : Nat} (hexec : p.tables.exec = Jvm.exec) (hb : c.code = cc) (hl : l.stackTraces = false) {own cls : String} {names : List String} {ik ic mc ms : Nat} {A : Nat → Prop}
    (hown : s.vm.findClass own = some m.cls) (hcls : Bundle.fit cls = true) (hnames : ∀ n ∈ names, Bundle.fit n = true)
    (hk : (Cond.classLink own ik cls).before args s = true) (hini : (Cond.initialized cls).before args s = true) (hat : ∀ w ∈ vx_at0 own ic cls names, w.before args s = true)
    (hgood : ∀ w ∈ Cond.classLink own ik cls :: Cond.initialized cls :: vx_at0 own ic cls names, vx_ot w = true)
    (hU : vx_Zq Bundle.tN "UNASSIGNED_STACK" Bundle.steD A s s.heap) (hN : vx_Zq Bundle.tN "SUPPRESSED_SENTINEL" Bundle.listD A s s.heap) (hS : va_S A s.heap H locs) (hsize : ls.size = c.maxLocals)
    (d0 : decode cc pc = .ok (.new ik, 3)) (d3 : decode cc (pc + 3) = .ok (.dup, 1)) (d4 : decode cc (pc + 4) = .ok (.invokespecial ic, 3)) (d7 : decode cc (pc + 7) = .ok (.athrow, 1))
    (hout : ∀ x ∈ c.exceptionTable.toList, covers x (pc + 7) = false)
    (hRframes : names.length + 3 < R.frames) (hRlocals : (rest.map fun v => v.category).sum + (13 * (names.length + 1) + 42) ≤ R.locals) (hRcells : cells + 1 ≤ R.cells) (hRslots : slots + 6 ≤ R.slots) (hlocks : meth.locks = false)
    (hx : ∀ t : State, s.vm.Alike t.vm → H.size ≤ t.heap.size → (∀ q : Nat, q < H.size → t.heap[q]? = H[q]?) → XC cls s t)
    (hf : ∀ z ∈ locs, free z.base) (hc : cells + 1 ≤ mc) (hs : slots + 6 ≤ ms) :
    W p l e R s m args below meth c H locs cells slots (vx_MQ below Qc XC args s mc ms free) (F0 m pc ls rest) := by
  intro T hT X
  have htr : e.platform.stackTraces = false := (show e.platform.stackTraces = l.stackTraces by rw [X.admits.platform]).trans hl
  have Y := vx_rebase X (R' := { frames := R.frames, locals := R.locals, cells := 1, slots := 6 }) (Nat.le_refl _) (Nat.le_refl _) hRcells hRslots
  obtain ⟨s', hA⟩ : ∃ z, z = (T.setVm s.vm).setFrames (.invoking m args :: below) := ⟨_, rfl⟩
  rw [← hA] at Y
  have hvm : s'.vm = s.vm := by rw [hA]; rfl
  have hhp : s'.heap = H := by rw [hA]; exact hT
  have hW0 : s.WarmedH s'.vm := by rw [hvm]; exact State.WarmedH.refl s
  have hat' : ∀ w ∈ vx_at0 own ic cls names, w.before args s' = true := fun w hw => vx_ot_at hW0 hvm.symm (hgood w (List.mem_cons_of_mem _ (List.mem_cons_of_mem _ hw))) (hat w hw)
  have hk' : (Cond.classLink own ik cls).before args s' = true := vx_ot_at hW0 hvm.symm (hgood _ List.mem_cons_self) hk
  have hini' : (Cond.initialized cls).before args s' = true := vx_ot_at hW0 hvm.symm (hgood _ (List.mem_cons_of_mem _ List.mem_cons_self)) hini
  have hU' : vx_Zq Bundle.tN "UNASSIGNED_STACK" Bundle.steD A s' s'.heap := by rw [hhp]; exact vx_Zq.moved hW0.alike (hU.kept hS.2.1)
  have hN' : vx_Zq Bundle.tN "SUPPRESSED_SENTINEL" Bundle.listD A s' s'.heap := by rw [hhp]; exact vx_Zq.moved hW0.alike (hN.kept hS.2.1)
  have h : ∀ w ∈ Bundle.ownAtoms0 own ic cls names, w.before args s' = true := vx_own hat' (vx_isRefq hU'.1) (vx_isRefq hN'.1) hU'.2.word hN'.2.word
  have hown' : s'.vm.findClass own = some m.cls := by rw [hvm]; exact hown
  have hins : (Cond.instantiable cls 6).before args s' = true := h _ (by simp [Bundle.ownAtoms0])
  obtain ⟨vm₁, cX, kX, hfX, hkX, -, -, X₁, st1⟩ := Y.newCold hexec (own := own) (C := cls) (index := ik) (n := 6) hown' hk' hins hini'
    (g := F0 m pc ls rest) rfl (by rw [hb]; exact d0) (Nat.le_refl _) (Nat.le_refl _)
  generalize hT1 : (T.setVm vm₁).pushCell { cls := cX, slots := kX.instanceTypes.map defaultValue, vm := .none } = T1 at X₁ st1
  have hcat : (Value.ref T.heap.size).category = 1 := rfl
  have hcellA : T1.heap[T.heap.size]? = some (freshCell cX kX) := by rw [← hT1]; exact State.heap_pushCell_size _ _
  have d3' : decode c.code (pc + 3) = .ok (.dup, 1) := by rw [hb]; exact d3
  obtain ⟨U, hsteps, hrun, hend, hW, hsame, ce, hce, hO⟩ := X₁.ctorThrow0 hexec htr (own := own) (cls := cls) (names := names) (ic := ic) hown' hcls hnames h (fun x hx => nomatch hx) hfX hkX hcellA (by rw [hhp, hT]; exact Nat.le_refl _)
    (g := { method := m, pc := pc + 4, locals := ls, stack := .ref T.heap.size :: .ref T.heap.size :: rest, locked := none }) rfl hsize rfl rfl (rest := rest) rfl
    (by rw [hb]; exact d4) (by rw [hb]; exact d7) hout hRframes (by simp only [List.map_cons, List.sum_cons, hcat]; omega) hlocks
  obtain ⟨f1, f2⟩ := vx_frame hsame
  rw [hhp] at f1 f2
  have hWs : s.WarmedH U.vm := State.WarmedH.trans hW0 hW
  have hcl : s.vm.findClass cls = some ce.cls := by
    have h9 := hO.cls
    rw [hvm] at h9
    exact h9
  have hall : s.sameButNew ({ U with vm := s.vm } : State) locs mc ms := by
    subst hA
    obtain ⟨e1, e2⟩ := hsame
    rw [State.setFrames_setFrames] at e1
    have h2 : (T.setVm s.vm).sameButNew ({ U with vm := s.vm } : State) [] (0 + 1) (0 + 6) := ⟨e1, e2⟩
    have h3 := X.same.trans h2
    rw [List.append_nil] at h3
    exact h3.mono hc hs
  refine ⟨U, ?_, .threw T.heap.size, hrun, hend, Or.inr ⟨T.heap.size, rfl, cls, ce, locs, hx U hWs.alike f1 (fun q hq => f2 q hq (fun z hz => nomatch hz)), hce, hO.vm, hcl, hWs, hall, hf⟩⟩
  refine st1 _ ?_
  show Steps p.tables e below (T1.setTop { method := m, pc := pc + 3, locals := ls, stack := .ref T.heap.size :: rest, locked := none }) _
  jvm_step X₁.here [X₁.here.top, hexec, d3', Value.category]
  exact hsteps
/-- 'throw new E("text")': new; dup; ldc; invokespecial; athrow -/
theorem vx_throwS {cc : ByteArray} {pc : Nat} (hexec : p.tables.exec = Jvm.exec) (hb : c.code = cc) (hl : l.stackTraces = false) {own cls text : String} {names : List String} {ik is ic mc ms sa : Nat} {A : Nat → Prop}
    (hown : s.vm.findClass own = some m.cls) (hcls : Bundle.fit cls = true) (hnames : ∀ n ∈ names, Bundle.fit n = true)
    (hk : (Cond.classLink own ik cls).before args s = true) (hini : (Cond.initialized cls).before args s = true) (hstr : vk_R own is text sa s) (hat : ∀ w ∈ vx_atS own ic cls names, w.before args s = true)
    (hgood : ∀ w ∈ Cond.classLink own ik cls :: Cond.initialized cls :: vx_atS own ic cls names, vx_ot w = true)
    (hU : vx_Zq Bundle.tN "UNASSIGNED_STACK" Bundle.steD A s s.heap) (hN : vx_Zq Bundle.tN "SUPPRESSED_SENTINEL" Bundle.listD A s s.heap) (hS : va_S A s.heap H locs) (hsize : ls.size = c.maxLocals)
    (d0 : decode cc pc = .ok (.new ik, 3)) (d3 : decode cc (pc + 3) = .ok (.dup, 1)) (d4 : decode cc (pc + 4) = .ok (.ldc is, 2)) (d6 : decode cc (pc + 6) = .ok (.invokespecial ic, 3)) (d9 : decode cc (pc + 9) = .ok (.athrow, 1))
    (hout : ∀ x ∈ c.exceptionTable.toList, covers x (pc + 9) = false)
    (hRframes : names.length + 3 < R.frames) (hRlocals : (rest.map fun v => v.category).sum + (13 * (names.length + 1) + 43) ≤ R.locals) (hRcells : cells + 1 ≤ R.cells) (hRslots : slots + 6 ≤ R.slots) (hlocks : meth.locks = false)
    (hx : ∀ t : State, s.vm.Alike t.vm → H.size ≤ t.heap.size → (∀ q : Nat, q < H.size → t.heap[q]? = H[q]?) → XC cls s t)
    (hf : ∀ z ∈ locs, free z.base) (hc : cells + 1 ≤ mc) (hs : slots + 6 ≤ ms) :
    W p l e R s m args below meth c H locs cells slots (vx_MQ below Qc XC args s mc ms free) (F0 m pc ls rest) := by
  intro T hT X
  have htr : e.platform.stackTraces = false := (show e.platform.stackTraces = l.stackTraces by rw [X.admits.platform]).trans hl
  have Y := vx_rebase X (R' := { frames := R.frames, locals := R.locals, cells := 1, slots := 6 }) (Nat.le_refl _) (Nat.le_refl _) hRcells hRslots
  obtain ⟨s', hA⟩ : ∃ z, z = (T.setVm s.vm).setFrames (.invoking m args :: below) := ⟨_, rfl⟩
  rw [← hA] at Y
  have hvm : s'.vm = s.vm := by rw [hA]; rfl
  have hhp : s'.heap = H := by rw [hA]; exact hT
  have hW0 : s.WarmedH s'.vm := by rw [hvm]; exact State.WarmedH.refl s
  have hat' : ∀ w ∈ vx_atS own ic cls names, w.before args s' = true := fun w hw => vx_ot_at hW0 hvm.symm (hgood w (List.mem_cons_of_mem _ (List.mem_cons_of_mem _ hw))) (hat w hw)
  have hk' : (Cond.classLink own ik cls).before args s' = true := vx_ot_at hW0 hvm.symm (hgood _ List.mem_cons_self) hk
  have hini' : (Cond.initialized cls).before args s' = true := vx_ot_at hW0 hvm.symm (hgood _ (List.mem_cons_of_mem _ List.mem_cons_self)) hini
  have hU' : vx_Zq Bundle.tN "UNASSIGNED_STACK" Bundle.steD A s' s'.heap := by rw [hhp]; exact vx_Zq.moved hW0.alike (hU.kept hS.2.1)
  have hN' : vx_Zq Bundle.tN "SUPPRESSED_SENTINEL" Bundle.listD A s' s'.heap := by rw [hhp]; exact vx_Zq.moved hW0.alike (hN.kept hS.2.1)
  have h : ∀ w ∈ Bundle.ownAtoms own ic cls names, w.before args s' = true := vx_own hat' (vx_isRefq hU'.1) (vx_isRefq hN'.1) hU'.2.word hN'.2.word
  have hown' : s'.vm.findClass own = some m.cls := by rw [hvm]; exact hown
  have hins : (Cond.instantiable cls 6).before args s' = true := h _ (by simp [Bundle.ownAtoms])
  obtain ⟨vm₁, cX, kX, hfX, hkX, -, -, X₁, st1⟩ := Y.newCold hexec (own := own) (C := cls) (index := ik) (n := 6) hown' hk' hins hini'
    (g := F0 m pc ls rest) rfl (by rw [hb]; exact d0) (Nat.le_refl _) (Nat.le_refl _)
  generalize hT1 : (T.setVm vm₁).pushCell { cls := cX, slots := kX.instanceTypes.map defaultValue, vm := .none } = T1 at X₁ st1
  have hcat : (Value.ref T.heap.size).category = 1 := rfl
  have hcellA : T1.heap[T.heap.size]? = some (freshCell cX kX) := by rw [← hT1]; exact State.heap_pushCell_size _ _
  have d3' : decode c.code (pc + 3) = .ok (.dup, 1) := by rw [hb]; exact d3
  have d4' : decode c.code (pc + 4) = .ok (.ldc is, 2) := by rw [hb]; exact d4
  have hstr' : vk_R own is text sa s' := vk_R.warm hW0 hstr
  obtain ⟨U, hsteps, hrun, hend, hW, hsame, ce, hce, hO⟩ := X₁.ctorThrowS hexec htr (own := own) (cls := cls) (names := names) (ic := ic) hown' hcls hnames h (fun x hx => nomatch hx) hfX hkX hcellA (by rw [hhp, hT]; exact Nat.le_refl _) (msg := .ref sa) rfl
    (g := { method := m, pc := pc + 6, locals := ls, stack := .ref sa :: .ref T.heap.size :: .ref T.heap.size :: rest, locked := none }) rfl hsize rfl rfl (rest := rest) rfl
    (by rw [hb]; exact d6) (by rw [hb]; exact d9) hout hRframes (by simp only [List.map_cons, List.sum_cons, hcat]; omega) hlocks
  obtain ⟨f1, f2⟩ := vx_frame hsame
  rw [hhp] at f1 f2
  have hWs : s.WarmedH U.vm := State.WarmedH.trans hW0 hW
  have hcl : s.vm.findClass cls = some ce.cls := by
    have h9 := hO.cls
    rw [hvm] at h9
    exact h9
  have hall : s.sameButNew ({ U with vm := s.vm } : State) locs mc ms := by
    subst hA
    obtain ⟨e1, e2⟩ := hsame
    rw [State.setFrames_setFrames] at e1
    have h2 : (T.setVm s.vm).sameButNew ({ U with vm := s.vm } : State) [] (0 + 1) (0 + 6) := ⟨e1, e2⟩
    have h3 := X.same.trans h2
    rw [List.append_nil] at h3
    exact h3.mono hc hs
  refine ⟨U, ?_, .threw T.heap.size, hrun, hend, Or.inr ⟨T.heap.size, rfl, cls, ce, locs, hx U hWs.alike f1 (fun q hq => f2 q hq (fun z hz => nomatch hz)), hce, hO.vm, hcl, hWs, hall, hf⟩⟩
  refine st1 _ ?_
  show Steps p.tables e below (T1.setTop { method := m, pc := pc + 3, locals := ls, stack := .ref T.heap.size :: rest, locked := none }) _
  jvm_step X₁.here [X₁.here.top, hexec, d3', Value.category]
  exact X₁.ldcString hexec (own := own) (text := text) (index := is) (a := sa) hown' hstr'.1 hstr'.2
    (g := { method := m, pc := pc + 4, locals := ls, stack := .ref T.heap.size :: .ref T.heap.size :: rest, locked := none }) rfl d4' _ hsteps
/-- 'throw new E("text")', the text by a wide index -/
theorem vx_throwSW {cc : ByteArray} {pc : Nat} (hexec : p.tables.exec = Jvm.exec) (hb : c.code = cc) (hl : l.stackTraces = false) {own cls text : String} {names : List String} {ik is ic mc ms sa : Nat} {A : Nat → Prop}
    (hown : s.vm.findClass own = some m.cls) (hcls : Bundle.fit cls = true) (hnames : ∀ n ∈ names, Bundle.fit n = true)
    (hk : (Cond.classLink own ik cls).before args s = true) (hini : (Cond.initialized cls).before args s = true) (hstr : vk_R own is text sa s) (hat : ∀ w ∈ vx_atS own ic cls names, w.before args s = true)
    (hgood : ∀ w ∈ Cond.classLink own ik cls :: Cond.initialized cls :: vx_atS own ic cls names, vx_ot w = true)
    (hU : vx_Zq Bundle.tN "UNASSIGNED_STACK" Bundle.steD A s s.heap) (hN : vx_Zq Bundle.tN "SUPPRESSED_SENTINEL" Bundle.listD A s s.heap) (hS : va_S A s.heap H locs) (hsize : ls.size = c.maxLocals)
    (d0 : decode cc pc = .ok (.new ik, 3)) (d3 : decode cc (pc + 3) = .ok (.dup, 1)) (d4 : decode cc (pc + 4) = .ok (.ldc_w is, 3)) (d7 : decode cc (pc + 7) = .ok (.invokespecial ic, 3)) (d10 : decode cc (pc + 10) = .ok (.athrow, 1))
    (hout : ∀ x ∈ c.exceptionTable.toList, covers x (pc + 10) = false)
    (hRframes : names.length + 3 < R.frames) (hRlocals : (rest.map fun v => v.category).sum + (13 * (names.length + 1) + 43) ≤ R.locals) (hRcells : cells + 1 ≤ R.cells) (hRslots : slots + 6 ≤ R.slots) (hlocks : meth.locks = false)
    (hx : ∀ t : State, s.vm.Alike t.vm → H.size ≤ t.heap.size → (∀ q : Nat, q < H.size → t.heap[q]? = H[q]?) → XC cls s t)
    (hf : ∀ z ∈ locs, free z.base) (hc : cells + 1 ≤ mc) (hs : slots + 6 ≤ ms) :
    W p l e R s m args below meth c H locs cells slots (vx_MQ below Qc XC args s mc ms free) (F0 m pc ls rest) := by
  intro T hT X
  have htr : e.platform.stackTraces = false := (show e.platform.stackTraces = l.stackTraces by rw [X.admits.platform]).trans hl
  have Y := vx_rebase X (R' := { frames := R.frames, locals := R.locals, cells := 1, slots := 6 }) (Nat.le_refl _) (Nat.le_refl _) hRcells hRslots
  obtain ⟨s', hA⟩ : ∃ z, z = (T.setVm s.vm).setFrames (.invoking m args :: below) := ⟨_, rfl⟩
  rw [← hA] at Y
  have hvm : s'.vm = s.vm := by rw [hA]; rfl
  have hhp : s'.heap = H := by rw [hA]; exact hT
  have hW0 : s.WarmedH s'.vm := by rw [hvm]; exact State.WarmedH.refl s
  have hat' : ∀ w ∈ vx_atS own ic cls names, w.before args s' = true := fun w hw => vx_ot_at hW0 hvm.symm (hgood w (List.mem_cons_of_mem _ (List.mem_cons_of_mem _ hw))) (hat w hw)
  have hk' : (Cond.classLink own ik cls).before args s' = true := vx_ot_at hW0 hvm.symm (hgood _ List.mem_cons_self) hk
  have hini' : (Cond.initialized cls).before args s' = true := vx_ot_at hW0 hvm.symm (hgood _ (List.mem_cons_of_mem _ List.mem_cons_self)) hini
  have hU' : vx_Zq Bundle.tN "UNASSIGNED_STACK" Bundle.steD A s' s'.heap := by rw [hhp]; exact vx_Zq.moved hW0.alike (hU.kept hS.2.1)
  have hN' : vx_Zq Bundle.tN "SUPPRESSED_SENTINEL" Bundle.listD A s' s'.heap := by rw [hhp]; exact vx_Zq.moved hW0.alike (hN.kept hS.2.1)
  have h : ∀ w ∈ Bundle.ownAtoms own ic cls names, w.before args s' = true := vx_own hat' (vx_isRefq hU'.1) (vx_isRefq hN'.1) hU'.2.word hN'.2.word
  have hown' : s'.vm.findClass own = some m.cls := by rw [hvm]; exact hown
  have hins : (Cond.instantiable cls 6).before args s' = true := h _ (by simp [Bundle.ownAtoms])
  obtain ⟨vm₁, cX, kX, hfX, hkX, -, -, X₁, st1⟩ := Y.newCold hexec (own := own) (C := cls) (index := ik) (n := 6) hown' hk' hins hini'
    (g := F0 m pc ls rest) rfl (by rw [hb]; exact d0) (Nat.le_refl _) (Nat.le_refl _)
  generalize hT1 : (T.setVm vm₁).pushCell { cls := cX, slots := kX.instanceTypes.map defaultValue, vm := .none } = T1 at X₁ st1
  have hcat : (Value.ref T.heap.size).category = 1 := rfl
  have hcellA : T1.heap[T.heap.size]? = some (freshCell cX kX) := by rw [← hT1]; exact State.heap_pushCell_size _ _
  have d3' : decode c.code (pc + 3) = .ok (.dup, 1) := by rw [hb]; exact d3
  have d4' : decode c.code (pc + 4) = .ok (.ldc_w is, 3) := by rw [hb]; exact d4
  have hstr' : vk_R own is text sa s' := vk_R.warm hW0 hstr
  obtain ⟨U, hsteps, hrun, hend, hW, hsame, ce, hce, hO⟩ := X₁.ctorThrowS hexec htr (own := own) (cls := cls) (names := names) (ic := ic) hown' hcls hnames h (fun x hx => nomatch hx) hfX hkX hcellA (by rw [hhp, hT]; exact Nat.le_refl _) (msg := .ref sa) rfl
    (g := { method := m, pc := pc + 7, locals := ls, stack := .ref sa :: .ref T.heap.size :: .ref T.heap.size :: rest, locked := none }) rfl hsize rfl rfl (rest := rest) rfl
    (by rw [hb]; exact d7) (by rw [hb]; exact d10) hout hRframes (by simp only [List.map_cons, List.sum_cons, hcat]; omega) hlocks
  obtain ⟨f1, f2⟩ := vx_frame hsame
  rw [hhp] at f1 f2
  have hWs : s.WarmedH U.vm := State.WarmedH.trans hW0 hW
  have hcl : s.vm.findClass cls = some ce.cls := by
    have h9 := hO.cls
    rw [hvm] at h9
    exact h9
  have hall : s.sameButNew ({ U with vm := s.vm } : State) locs mc ms := by
    subst hA
    obtain ⟨e1, e2⟩ := hsame
    rw [State.setFrames_setFrames] at e1
    have h2 : (T.setVm s.vm).sameButNew ({ U with vm := s.vm } : State) [] (0 + 1) (0 + 6) := ⟨e1, e2⟩
    have h3 := X.same.trans h2
    rw [List.append_nil] at h3
    exact h3.mono hc hs
  refine ⟨U, ?_, .threw T.heap.size, hrun, hend, Or.inr ⟨T.heap.size, rfl, cls, ce, locs, hx U hWs.alike f1 (fun q hq => f2 q hq (fun z hz => nomatch hz)), hce, hO.vm, hcl, hWs, hall, hf⟩⟩
  refine st1 _ ?_
  show Steps p.tables e below (T1.setTop { method := m, pc := pc + 3, locals := ls, stack := .ref T.heap.size :: rest, locked := none }) _
  jvm_step X₁.here [X₁.here.top, hexec, d3', Value.category]
  exact X₁.ldcStringW hexec (own := own) (text := text) (index := is) (a := sa) hown' hstr'.1 hstr'.2
    (g := { method := m, pc := pc + 4, locals := ls, stack := .ref T.heap.size :: .ref T.heap.size :: rest, locked := none }) rfl d4' _ hsteps
end Ends
section Bodies
variable {l : Launch}
theorem vx_ofW {y : MethodName} {ws ws' : List Cond} {rm : Room} {Pc : Array Value → State → Prop} {Qc : Array Value → State → Outcome → State → Prop} {XC : String → State → State → Prop} {mc ms : Nat} {free : Addr → Prop} {cc : ByteArray} {maxL : Nat} {ret : Option FieldType}
    (hy : plainName y.cls = true) (hw : ws = Cond.code y cc maxL ret :: ws')
    (body : ∀ p e s m args below meth c s₁, BodyLoose p l y (headSpec ws rm) cc maxL ret e s m args below meth c s₁ → c.maxLocals = maxL → (∀ x ∈ c.exceptionTable.toList, False) → Pc args s →
      W p l e (headSpec ws rm).room s m args below meth c s.heap [] 0 0 (vx_MQ below Qc XC args s mc ms free) (entryFrame m args maxL)) : vx_Met l y ws rm Pc Qc XC mc ms free := by
  refine MetFree.of_bodyS (code := cc) (maxLocals := maxL) (ret := ret) hy ?_ ?_
  · intro args s m h hn
    obtain ⟨meth, c, h1, h2, h3, h4, h5, h6, -, -⟩ := Cond.code_spec hn (atoms_spec (ws := ws) h _ (by rw [hw]; exact List.mem_cons_self))
    exact ⟨meth, c, h1, h2, h3, h4, h5, h6⟩
  · intro p e s m args below meth c s₁ B hml hP _
    have hh0 : s₁.heap = s.heap := by rw [B.state]; rfl
    have ht : ∀ x ∈ c.exceptionTable.toList, False := by
      obtain ⟨meth9, c9, h1, h2, -, -, -, -, h7, -⟩ := Cond.code_spec B.named (atoms_spec (ws := ws) B.pre _ (by rw [hw]; exact List.mem_cons_self))
      cases Option.some.inj (h1.symm.trans B.method)
      cases Option.some.inj (h2.symm.trans (Stand.of_body B).code)
      intro x hx
      rw [Array.isEmpty_iff.mp h7] at hx
      cases hx
    obtain ⟨t, a1, o, b1, b2, b3⟩ := body p e s m args below meth c s₁ B hml ht hP s₁ hh0 (Stand.of_body B)
    exact ⟨t, o, a1, b1, b2, b3⟩
/-- the table of a body with handlers -/
theorem vx_table {p : Program} {x y : MethodName} {S : Spec} {cc bytes : ByteArray} {maxL maxL' : Nat} {ret ret' : Option FieldType} {e : Env} {s s₁ : State} {m : MethodId} {args : Array Value} {below : List Frame} {meth : Method} {c : Code} {hh : List (Nat × Nat × Nat × Nat)}
    (B : BodyLoose p l y S cc maxL ret e s m args below meth c s₁) (h : (Cond.codeWith y bytes maxL' ret' hh).before args s = true) : c.exceptionTable.toList = tableOf hh := by
  obtain ⟨m9, meth9, c9, hn9, h1, h2, -, -, h6, -⟩ := Cond.codeWith_spec h
  cases Option.some.inj (hn9.symm.trans B.named)
  cases Option.some.inj (h1.symm.trans B.method)
  cases Option.some.inj (h2.symm.trans (Stand.of_body B).code)
  rw [← h6, table_eq]
end Bodies
end VXA
/-! ===== END ===== -/
/-! ===== BEGIN a static call of a method with an exception table ===== -/
section VXS
variable {p : Program} {l : Launch} {e : Env} {R : Room} {s : State} {m : MethodId} {args : Array Value} {below : List Frame} {meth : Method} {c : Code} {T : State} {H : Heap} {locs : List Loc} {cells slots : Nat}
abbrev vx_CSW (R : Room) (s : State) (args : Array Value) (own : String) (index : Nat) (y : MethodName) (bytes : ByteArray) (maxL : Nat) (ret : Option FieldType) (hh : List (Nat × Nat × Nat × Nat)) (ws : List Cond) (rm : Room) (mc ms n : Nat) : Prop :=
  (rm.cells = mc ∧ rm.slots = ms ∧ rm.frames + 1 ≤ R.frames ∧ 8 + (maxL + 11) + rm.locals ≤ R.locals ∧ (∀ w ∈ ws, ∀ (a' : Array Value) (U : State), s.WarmedH U.vm → w.before a' U = true) ∧ Cond.codeWith y bytes maxL ret hh ∈ ws) ∧
  (Cond.codeWith y bytes maxL ret hh).before args s = true ∧ (Cond.initialized y.cls).before args s = true ∧ (y.cls ≠ "java/lang/invoke/MethodHandle" ∧ y.cls ≠ "java/lang/invoke/VarHandle") ∧
  (∀ sig, parseMethodDescriptor y.desc = some sig → n = sig.parameters.length) ∧ (Cond.methodLink own index y).before args s = true ∧ (Cond.static y).before args s = true
theorem vx_cwSW {own : String} {index maxL mc ms : Nat} {y : MethodName} {bytes : ByteArray} {ret : Option FieldType} {hh : List (Nat × Nat × Nat × Nat)} {Ts ws ws' : List Cond} {rm : Room} (n : Nat) (ht : ∀ w ∈ Ts, w.before args s = true) (hT : GoodIn Ts (va_wsS own index y ws)) (hw : ws = Cond.codeWith y bytes maxL ret hh :: ws') (hrc : rm.cells = mc) (hrs : rm.slots = ms)
    (hd : y.cls ≠ "java/lang/invoke/MethodHandle" ∧ y.cls ≠ "java/lang/invoke/VarHandle" ∧ (parseMethodDescriptor y.desc).map (fun d => d.parameters.length) = some n) (hR : rm.frames + 1 ≤ R.frames ∧ 8 + (maxL + 11) + rm.locals ≤ R.locals) :
    vx_CSW R s args own index y bytes maxL ret hh ws rm mc ms n := by
  have ok : ∀ w ∈ va_wsS own index y ws, w.before args s = true := fun w h => ht w (hT w h).1
  have hG : GoodIn Ts ws := fun w h => hT w (by unfold va_wsS; exact List.mem_append_right _ h)
  have hc : Cond.codeWith y bytes maxL ret hh ∈ ws := by rw [hw]; exact List.mem_cons_self
  refine ⟨⟨hrc, hrs, hR.1, hR.2, pay_in ht hG, hc⟩, ht _ (hG _ hc).1, ok _ (by simp [va_wsS]), ⟨hd.1, hd.2.1⟩, fun sig h => ?_, ok _ (by simp [va_wsS]), ok _ (by simp [va_wsS])⟩
  have h2 := hd.2.2
  rw [h] at h2
  exact (Option.some.inj h2).symm
theorem vx_callSW (X : Stand p l e R s m args below meth c T locs cells slots) (hexec : p.tables.exec = Jvm.exec) {own : String} {index : Nat} {y : MethodName} {bytes : ByteArray} {maxL : Nat} {ret : Option FieldType} {hh : List (Nat × Nat × Nat × Nat)}
    (hown : s.vm.findClass own = some m.cls) (hlink : (Cond.methodLink own index y).before args s = true) (hstat : (Cond.static y).before args s = true) (hinit : (Cond.initialized y.cls).before args s = true)
    (hcode : (Cond.codeWith y bytes maxL ret hh).before args s = true) (hy : y.cls ≠ "java/lang/invoke/MethodHandle" ∧ y.cls ≠ "java/lang/invoke/VarHandle")
    {W9 : Nat} {Pre : Pt → Array Value → Prop} {Post : Pt → Array Value → Option Value → Pt → Prop} (hK : Back l R p e below s args y 3 W9 Pre Post)
    {g : JFrame} (hg : g.method = m) (hsize : g.locals.size = c.maxLocals) {argsL rest : List Value} (hlen : ∀ sig, parseMethodDescriptor y.desc = some sig → argsL.length = sig.parameters.length)
    (hstack : g.stack = argsL.reverse ++ rest) (hW : 2 * g.monitorRoom + (rest.map fun v => v.category).sum ≤ W9) (hdg : decode c.code g.pc = .ok (.invokestatic index, 3))
    (hpre : ∀ vm₁, s.WarmedH vm₁ → Pre ⟨T.setVm vm₁, locs, cells, slots⟩ argsL.toArray) :
    ∃ (v : Option Value) (vm₁ : Vm) (B : Pt), s.WarmedH vm₁ ∧ Stand p l e R s m args below meth c B.U B.locs B.cells B.slots ∧ Post ⟨T.setVm vm₁, locs, cells, slots⟩ argsL.toArray v B ∧
      ∀ target, Steps p.tables e below (B.U.setTop { g with pc := g.pc + 3, stack := v.toList ++ rest }) target → Steps p.tables e below (T.setTop g) target := by
  obtain ⟨mk, methM, cM, hnamed, hmethM, -, -, -, -, -, -, hsigM⟩ := Cond.codeWith_spec hcode
  have hstatic : methM.isStatic = true := Cond.static_spec hnamed hmethM hstat
  obtain ⟨kP, hkP, -⟩ := className_of_methodNamed hnamed
  have hinitP : kP.init = .initialized := Cond.initialized_spec (findClass_of_methodNamed hnamed) hkP hinit
  obtain ⟨vm₁, X₁, hstep₁⟩ := X.invokestatic hexec hown hlink hnamed hmethM hstatic hkP hinitP hy (g := g) hg (argsL := argsL) (rest := rest) (hlen _ hsigM) hstack hdg
  obtain ⟨v, B, X', hpost, hsteps⟩ := hK m meth c ⟨T.setVm vm₁, locs, cells, slots⟩ { g with stack := rest } (.invokestatic index) mk argsL.toArray X₁ hg hsize hdg hW (X₁.named hnamed) (hpre vm₁ X₁.warmed)
  exact ⟨v, vm₁, B, X₁.warmed, X', hpost, fun target h => hstep₁ _ fun acts => by rw [doInvoke_state]; exact hsteps.trans h⟩
theorem vx_runSW {y : MethodName} {bytes cc : ByteArray} {maxL nL mc ms n index : Nat} {ret : Option FieldType} {hh : List (Nat × Nat × Nat × Nat)} {ws : List Cond} {rm : Room} {Pc : Array Value → State → Prop} {Qc : Array Value → State → Outcome → State → Prop} {free : Addr → Prop} {Ts : List Cond} {own : String} {As rest : List Value} {g : JFrame}
    (S : CallFix p m c cc nL s args Ts own) (hM : Met l y ws rm Pc Qc mc ms free) (cw : vx_CSW R s args own index y bytes maxL ret hh ws rm mc ms n) (hp : PreS s H Pc As)
    (hg : g.method = m) (hn : As.length = n) (hsize : g.locals.size = nL) (hstack : g.stack = As.reverse ++ rest) (hW : 2 * g.monitorRoom + (rest.map fun v => v.category).sum ≤ 8) (hdg : decode cc g.pc = .ok (.invokestatic index, 3)) (hf : cells + mc ≤ R.cells ∧ slots + ms ≤ R.slots) :
    va_Run p l e R s m args below meth c H locs cells slots mc ms g rest (Qc As.toArray) (free) := by
  obtain ⟨⟨hrc, hrs, hfr, hlo, hws, hcw⟩, hcode, hini, hy, hlen, hl, hstt⟩ := cw
  have hK : Back l R p e below s args y 3 8 (PreOf R mc ms Pc) (PostOf Qc mc ms free) := va_backW (hh := hh) (bytes := bytes) (maxL := maxL) (ret := ret) hM hp.1 hrc hrs hfr hlo hws hcw (fun a' U hW => word_at hW (Or.inl (by first | rfl | simp [Cond.onTables, Cond.keeps, Cond.steady])) hini)
  obtain ⟨hx, hb, hml, ho, -⟩ := S
  intro T hT X
  obtain ⟨v, vm₁, ⟨U', l2, c2, s2⟩, hW₁, X', ⟨g', mk, t, L, e1, e2, hq, h1, hL, h2, h3⟩, st⟩ := vx_callSW X hx (hh := hh) (bytes := bytes) (maxL := maxL) (ret := ret) ho hl hstt hini hcode hy hK hg (hsize.trans hml.symm) (argsL := As) (rest := rest) (fun sig h => hn.trans (hlen sig h)) hstack hW (by rw [hb]; exact hdg)
    (fun vm₁ hW₁ => ⟨hf.1, hf.2, hp.2 (T.setVm vm₁) hT hW₁⟩)
  dsimp only [Pt.U, Pt.locs, Pt.cells, Pt.slots] at X' e1 e2 h1 h2 h3 st
  subst h1; subst h2; subst h3
  exact ⟨v, (T.setVm vm₁).calling g' mk As.toArray, t, U', L, hT, X', hL, e1, e2, hq, st⟩
/-- not caught here, past rows that name other classes: it goes on to the caller -/
theorem vx_outP {p : Program} {l : Launch} {e : Env} {R : Room} {s : State} {m : MethodId} {args : Array Value} {below : List Frame} {meth : Method} {c : Code} {H : Heap} {locs : List Loc} {cells slots : Nat} {free : Addr → Prop} {ls : Array Slot} {rest : List Value} {Qc : Array Value → State → Outcome → State → Prop} {XC : String → State → State → Prop}
    {pc : Nat} {own E : String} {ce : Cell} {q : Addr} {mc ms : Nat} (hown : s.vm.findClass own = some m.cls) (hlocks : meth.locks = false)
    (hpass : ∀ z ∈ c.exceptionTable.toList, covers z pc = false ∨ (z.catchType ≠ 0 ∧ ∃ nm : String, (Cond.classLink own z.catchType nm).before args s = true ∧ va_Nc E nm s)) (hcell : H[q]? = some ce) (hv : ce.vm = .none) (hcl : s.vm.findClass E = some ce.cls)
    (hx : ∀ t : State, t.heap = H → s.vm.Alike t.vm → XC E s t) (hf : ∀ z ∈ locs, free z.base) (hc : cells ≤ mc) (hs : slots ≤ ms) :
    vx_W p l e R s m args below meth c H locs cells slots (vx_MQ below Qc XC args s mc ms free) (F0 m pc ls rest) q := by
  intro T hT X
  have hpl : e.platform.magicAccessors = ({} : Platform).magicAccessors := by rw [X.admits.platform]
  obtain ⟨vm', hW', X', st⟩ := X.outThrough hlocks q (g := F0 m pc ls rest) rfl rfl rfl (cell := ce) (by rw [hT]; exact hcell) (by rw [hv]; rfl)
    (by obtain ⟨k9, h9, -⟩ := Vm.findClass_spec hcl; exact ⟨k9, h9⟩) (fun z hz => by
      rcases hpass z hz with h | ⟨hz0, nm, hl1, hn1⟩
      · exact Or.inl h
      · obtain ⟨c6, hc6, hcl6⟩ := Cond.classLink_spec hown hl1 e.platform hpl
        obtain ⟨a8, b8, h1, h2, h3⟩ := hn1
        cases Option.some.inj (h1.symm.trans hcl)
        cases Option.some.inj (h2.symm.trans hc6)
        exact Or.inr ⟨hz0, _, hcl6, h3⟩)
  obtain ⟨g₀, hfr⟩ := X'.frames_eq
  have hcell9 : ((T.setVm vm').setFrames (.throwing q :: below)).heap[q]? = some ce := by
    show T.heap[q]? = some ce
    rw [hT]; exact hcell
  have hend : Ended ((T.setVm vm').setFrames (.throwing q :: below)) below (.threw q) := State.frames_setFrames _ (State.cur_lt_of_frames hfr)
  refine ⟨(T.setVm vm').setFrames (.throwing q :: below), ?_, .threw q, X'.here.running, hend, Or.inr ⟨q, rfl, E, ce, locs, hx _ hT (X'.ends _).1.alike, hcell9, hv, hcl, (X'.ends _).1, (X'.ends _).2.mono hc hs, hf⟩⟩
  rw [X.pushThrowing_eq]
  exact st
/-- a thing of a world lies in the heap -/
theorem vx_lt {D : va_G} {cl : List vw_C} {ws : va_W} {H1 : Heap} (h : va_P D cl ws H1) {k : Nat} {q : Nat × va_E} (hk : ws[k]? = some q) : q.1 < H1.size := (h k q hk).lt
end VXS
/-! ===== END ===== -/
/-! ===== BEGIN methods with a table of their own: called by a name, returning or throwing ===== -/
section VXH
/-! vx_backW, vx_callVX, vx_callSX, vx_callVW, vx_runVW, vx_runVX, vx_runSX, vx_ofWH follow the same proofs as their sisters above (Free/Laws.lean, Shelf42/LK1.lean); vx_outP calls Shelf42/NT130.lean (outThrough). -/
section
variable {l : Launch} {R : Room} {p : Program} {e : Env} {below : List Frame} {s : State} {sargs : Array Value} {y : MethodName} {len W9 : Nat}
theorem vx_backW {ws : List Cond} {rm : Room} {Pc : Array Value → State → Prop} {Qc : Array Value → State → Outcome → State → Prop} {XC : String → State → State → Prop} {mc ms : Nat} {free : Addr → Prop} {bytes : ByteArray} {maxL : Nat} {ret : Option FieldType} {hh : List (Nat × Nat × Nat × Nat)}
    (hM : vx_Met l y ws rm Pc Qc XC mc ms free) (hblind : FrameBlind Pc) (hrc : rm.cells = mc) (hrs : rm.slots = ms)
    (hframes : rm.frames + 1 ≤ R.frames) (hlocals : W9 + (maxL + 11) + rm.locals ≤ R.locals)
    (hws : ∀ w ∈ ws, ∀ a' U, s.WarmedH U.vm → w.before a' U = true) (hcode : Cond.codeWith y bytes maxL ret hh ∈ ws) (hinit : ∀ a' U, s.WarmedH U.vm → (Cond.initialized y.cls).before a' U = true) :
    vx_Back l R p e below s sargs y len W9 (PreOf R mc ms Pc) (PostOf Qc mc ms free) (vx_Post XC mc ms free) := by
  intro m meth c A g ig mk a X hg hsize hdg hW hn hp
  have h1 : (headSpec ws rm).pre.before a A.U = true := atoms_intro fun w hw => hws w hw _ _ X.warmed
  have h2 : (Cond.codeWith y bytes maxL ret hh).before a A.U = true := hws _ hcode _ _ X.warmed
  have h3 : (Cond.initialized y.cls).before a A.U = true := hinit _ _ X.warmed
  have h4 : A.cells + (headSpec ws rm).room.cells ≤ R.cells := by rw [show (headSpec ws rm).room.cells = mc from hrc]; exact hp.1
  have h5 : A.slots + (headSpec ws rm).room.slots ≤ R.slots := by rw [show (headSpec ws rm).room.slots = ms from hrs]; exact hp.2.1
  have hPc : Pc a (A.U.calling g mk a) := hblind _ _ _ _ hp.2.2
  obtain ⟨U, Ls, c0, s0⟩ := A
  dsimp only [Pt.U, Pt.locs, Pt.cells, Pt.slots] at h1 h2 h3 h4 h5 X hn hPc ⊢
  obtain ⟨m9, methY, cY, hn9, hmY, hcY, -, hlY, -⟩ := Cond.codeWith_spec h2
  cases Option.some.inj (hn9.symm.trans hn)
  obtain ⟨kY, hkY, -⟩ := className_of_methodNamed hn
  have hinitY : kY.init = .initialized := Cond.initialized_spec (findClass_of_methodNamed hn) hkY h3
  have h : At U g.method c below := by rw [hg]; exact X.here
  have hlocals9 : W9 + (maxL + 11) + (headSpec ws rm).room.locals ≤ R.locals := hlocals
  have happ : (headSpec ws rm).appliesLoose y e.platform (U.calling g mk a) = true :=
    Spec.appliesLoose_calling (g := g) h hdg hn hkY hinitY
      (X.room_calling (g := g) (R' := (headSpec ws rm).room) hsize hmY hcY hframes (by rw [hlY]; omega) h4 h5) h1
  obtain ⟨mid, hmid⟩ := h.above
  have hfr : (U.setTop g).frames = (.java g :: mid) ++ below := by rw [State.frames_setTop' g h.top, hmid]; rfl
  obtain ⟨o, s₂, hsteps, -, hend, hq⟩ := Steps.callFree hM p X.admits X.cas X.clock (acts := []) hfr happ hPc trivial
  have hq' : vx_Q Qc XC mc ms free a (U.calling g mk a) o s₂ := hq
  rw [State.frames_setTop' g h.top] at hend
  obtain ⟨g₀, hg0⟩ := Option.isSome_iff_exists.mp h.top
  obtain ⟨r, hr⟩ := State.topJava?_eq_some.mp hg0
  have hr' : (({ U with heap := s₂.heap, slotsUsed := s₂.slotsUsed } : State).setVm s₂.vm).frames = .java g₀ :: r := hr
  rcases hq' with ⟨hqc, L, hfe, hL⟩ | ⟨q, rfl, E, ce, L, hx, hce, hcv, hcl, hW₂, hsm, hL⟩
  · obtain ⟨⟨v, rfl⟩, hW₂, e2, q2, q3, q4, q5, q6⟩ := id hfe
    have e3 : s₂ = ({ (U.calling g mk a).setFrames s₂.frames with heap := s₂.heap, slotsUsed := s₂.slotsUsed } : State).setVm s₂.vm := by
      have : s₂ = ({ s₂ with vm := (U.calling g mk a).vm } : State).setVm s₂.vm := rfl
      rw [e2] at this
      exact this
    obtain ⟨c₂, i₂, len₂, hc₂, hd₂, hf₂⟩ := hend
    have hW' : U.WarmedH s₂.vm := hW₂
    have hcc : c₂ = c := by
      have h1 : s₂.code? g.method = U.code? g.method := by
        rw [State.code?_eq, State.code?_eq, hW'.alike.method?]
      exact Option.some.inj (hc₂.symm.trans (h1.trans h.code))
    subst hcc
    have hlen : len₂ = len := by rw [hdg] at hd₂; cases hd₂; rfl
    subst hlen
    have hs₂ : s₂ = (({ U with heap := s₂.heap, slotsUsed := s₂.slotsUsed } : State).setVm s₂.vm).setTop { g with pc := g.pc + len₂, stack := v.toList ++ g.stack } := by
      refine e3.trans ?_
      rw [hf₂, State.calling_eq h.top, State.setFrames_setFrames, State.setTop_of_frames _ hr', hr]
      rfl
    have hsame : U.sameButNew ({ U with heap := s₂.heap, slotsUsed := s₂.slotsUsed } : State) L mc ms := by
      refine ⟨?_, q2, q3, q4, q5, q6⟩
      obtain ⟨t, ht, -⟩ := State.frames_cons hr
      show ({ U with heap := s₂.heap, slotsUsed := s₂.slotsUsed } : State) = { U.setFrames U.frames with heap := s₂.heap, slotsUsed := s₂.slotsUsed }
      rw [State.setFrames_self ht]
    subst hg
    refine Or.inl ⟨v, ⟨(({ U with heap := s₂.heap, slotsUsed := s₂.slotsUsed } : State).setVm s₂.vm), Ls ++ L, c0 + mc, s0 + ms⟩,
      ⟨X.admits, X.cas, X.clock, X.frames, X.room, X.hears, X.method, X.code, (X.here.setHeapUsed s₂.heap s₂.slotsUsed).setVm hW'.alike, X.tail, State.WarmedH.trans X.warmed hW', X.limits, X.bytes, X.same.trans (hsame.setVm s.vm)⟩,
      ⟨g, mk, s₂, L, rfl, rfl, hqc, rfl, hL, rfl, rfl⟩, ?_⟩
    show Steps p.tables e below _ ((({ U with heap := s₂.heap, slotsUsed := s₂.slotsUsed } : State).setVm s₂.vm).setTop { g with pc := g.pc + len₂, stack := v.toList ++ g.stack })
    rw [← hs₂]
    exact hsteps
  · obtain ⟨e2, q2, q3, q4, q5, q6⟩ := id hsm
    have e3 : s₂ = ({ (U.calling g mk a).setFrames s₂.frames with heap := s₂.heap, slotsUsed := s₂.slotsUsed } : State).setVm s₂.vm := by
      have : s₂ = ({ s₂ with vm := (U.calling g mk a).vm } : State).setVm s₂.vm := rfl
      rw [e2] at this
      exact this
    have hf₂ : s₂.frames = .throwing q :: .java g :: U.frames.tail := hend
    have hW' : U.WarmedH s₂.vm := hW₂
    have hs₂ : s₂ = ((({ U with heap := s₂.heap, slotsUsed := s₂.slotsUsed } : State).setVm s₂.vm).setTop g).pushFrame (.throwing q) := by
      refine e3.trans ?_
      rw [hf₂, State.calling_eq h.top, State.setFrames_setFrames, State.pushFrame, State.frames_setTop _ hr', State.setTop_of_frames _ hr', State.setFrames_setFrames, hr]
      rfl
    have hsame : U.sameButNew ({ U with heap := s₂.heap, slotsUsed := s₂.slotsUsed } : State) L mc ms := by
      refine ⟨?_, q2, q3, q4, q5, q6⟩
      obtain ⟨t, ht, -⟩ := State.frames_cons hr
      show ({ U with heap := s₂.heap, slotsUsed := s₂.slotsUsed } : State) = { U.setFrames U.frames with heap := s₂.heap, slotsUsed := s₂.slotsUsed }
      rw [State.setFrames_self ht]
    subst hg
    refine Or.inr ⟨q, ⟨(({ U with heap := s₂.heap, slotsUsed := s₂.slotsUsed } : State).setVm s₂.vm), Ls ++ L, c0 + mc, s0 + ms⟩,
      ⟨X.admits, X.cas, X.clock, X.frames, X.room, X.hears, X.method, X.code, (X.here.setHeapUsed s₂.heap s₂.slotsUsed).setVm hW'.alike, X.tail, State.WarmedH.trans X.warmed hW', X.limits, X.bytes, X.same.trans (hsame.setVm s.vm)⟩,
      ⟨g, mk, s₂, L, E, ce, rfl, rfl, hx, hce, hcv, hcl, rfl, hL, rfl, rfl⟩, ?_⟩
    show Steps p.tables e below _ (((({ U with heap := s₂.heap, slotsUsed := s₂.slotsUsed } : State).setVm s₂.vm).setTop g).pushFrame (.throwing q))
    rw [← hs₂]
    exact hsteps
end
variable {p : Program} {l : Launch} {e : Env} {R : Room} {s : State} {m : MethodId} {args : Array Value} {below : List Frame} {meth : Method} {c : Code} {T : State} {H : Heap} {locs : List Loc} {cells slots : Nat}
theorem vx_callVX (X : Stand p l e R s m args below meth c T locs cells slots) (hexec : p.tables.exec = Jvm.exec) {own C : String} {index : Nat} {y : MethodName} {bytes : ByteArray} {maxL : Nat} {ret : Option FieldType} {hh : List (Nat × Nat × Nat × Nat)}
    (hown : s.vm.findClass own = some m.cls) (hlink : (Cond.methodLink own index y).before args s = true) (hinst : (Cond.instanceMethod y).before args s = true) (hsel : (Cond.selects C y y).before args s = true)
    (hcode : (Cond.codeWith y bytes maxL ret hh).before args s = true) (hy : y.cls ≠ "java/lang/invoke/MethodHandle" ∧ y.cls ≠ "java/lang/invoke/VarHandle")
    {W9 : Nat} {Pre : Pt → Array Value → Prop} {Post : Pt → Array Value → Option Value → Pt → Prop} {PostX : Pt → Array Value → Addr → Pt → Prop} (hK : vx_Back l R p e below s args y 3 W9 Pre Post PostX)
    {b : Addr} {cellB : Cell} (hcell : T.heap[b]? = some cellB) (hobj : cellB.vm.isStatics = false) (hcls : s.vm.findClass C = some cellB.cls)
    {g : JFrame} (hg : g.method = m) (hsize : g.locals.size = c.maxLocals) {argsL rest : List Value} (hlen : ∀ sig, parseMethodDescriptor y.desc = some sig → argsL.length = sig.parameters.length)
    (hstack : g.stack = argsL.reverse ++ .ref b :: rest) (hW : 2 * g.monitorRoom + (rest.map fun v => v.category).sum ≤ W9) (hdg : decode c.code g.pc = .ok (.invokevirtual index, 3))
    (hpre : ∀ vm₁, s.WarmedH vm₁ → Pre ⟨T.setVm vm₁, locs, cells, slots⟩ (Value.ref b :: argsL).toArray) :
    (∃ (v : Option Value) (vm₁ : Vm) (B : Pt), s.WarmedH vm₁ ∧ Stand p l e R s m args below meth c B.U B.locs B.cells B.slots ∧ Post ⟨T.setVm vm₁, locs, cells, slots⟩ (Value.ref b :: argsL).toArray v B ∧
      ∀ target, Steps p.tables e below (B.U.setTop { g with pc := g.pc + 3, stack := v.toList ++ rest }) target → Steps p.tables e below (T.setTop g) target) ∨
    (∃ (q : Addr) (vm₁ : Vm) (B : Pt), s.WarmedH vm₁ ∧ Stand p l e R s m args below meth c B.U B.locs B.cells B.slots ∧ PostX ⟨T.setVm vm₁, locs, cells, slots⟩ (Value.ref b :: argsL).toArray q B ∧
      Steps p.tables e below (T.setTop g) ((B.U.setTop { g with stack := rest }).pushFrame (.throwing q))) := by
  obtain ⟨mk, methM, hnamed, hmethM, hstM, habM⟩ := Cond.instanceMethod_spec hinst
  obtain ⟨m8, methM', cM, hn8, hmethM', -, -, -, -, -, -, hsigM⟩ := Cond.codeWith_spec hcode
  cases Option.some.inj (hn8.symm.trans hnamed)
  cases hmethM.symm.trans hmethM'
  obtain ⟨c2, r2, m2, q1, q2, q3, q4, kP, hkP, hkPi⟩ := Cond.selects_spec hsel
  cases hcls.symm.trans q1
  cases (State.methodFound?_of_named hnamed hy).symm.trans q2
  cases hnamed.symm.trans q3
  have hselP : selectMethod e.platform s.vm cellB.cls mk = .method mk := by rw [Launch.admits_selectMethod X.admits]; exact q4
  obtain ⟨vm₁, X₁, hstep₁⟩ := X.invokevirtual hexec hown hlink hnamed hmethM hstM hkP hkPi hy (a := b) (cell := cellB) hcell
    (fun z h => by rw [h] at hobj; cases hobj) hselP hmethM habM hkP hkPi (g := g) hg (argsL := argsL) (rest := rest) (hlen _ hsigM) hstack hdg
  rcases hK m meth c ⟨T.setVm vm₁, locs, cells, slots⟩ { g with stack := rest } (.invokevirtual index) mk (Value.ref b :: argsL).toArray X₁ hg hsize hdg hW (X₁.named hnamed) (hpre vm₁ X₁.warmed) with ⟨v, B, X', hpost, hsteps⟩ | ⟨q, B, X', hpost, hsteps⟩
  · exact Or.inl ⟨v, vm₁, B, X₁.warmed, X', hpost, fun target h => hstep₁ _ fun acts => by rw [doInvoke_state]; exact hsteps.trans h⟩
  · exact Or.inr ⟨q, vm₁, B, X₁.warmed, X', hpost, hstep₁ _ fun acts => by rw [doInvoke_state]; exact hsteps⟩
theorem vx_callSX (X : Stand p l e R s m args below meth c T locs cells slots) (hexec : p.tables.exec = Jvm.exec) {own : String} {index : Nat} {y : MethodName} {bytes : ByteArray} {maxL : Nat} {ret : Option FieldType} {hh : List (Nat × Nat × Nat × Nat)}
    (hown : s.vm.findClass own = some m.cls) (hlink : (Cond.methodLink own index y).before args s = true) (hstat : (Cond.static y).before args s = true) (hinit : (Cond.initialized y.cls).before args s = true)
    (hcode : (Cond.codeWith y bytes maxL ret hh).before args s = true) (hy : y.cls ≠ "java/lang/invoke/MethodHandle" ∧ y.cls ≠ "java/lang/invoke/VarHandle")
    {W9 : Nat} {Pre : Pt → Array Value → Prop} {Post : Pt → Array Value → Option Value → Pt → Prop} {PostX : Pt → Array Value → Addr → Pt → Prop} (hK : vx_Back l R p e below s args y 3 W9 Pre Post PostX)
    {g : JFrame} (hg : g.method = m) (hsize : g.locals.size = c.maxLocals) {argsL rest : List Value} (hlen : ∀ sig, parseMethodDescriptor y.desc = some sig → argsL.length = sig.parameters.length)
    (hstack : g.stack = argsL.reverse ++ rest) (hW : 2 * g.monitorRoom + (rest.map fun v => v.category).sum ≤ W9) (hdg : decode c.code g.pc = .ok (.invokestatic index, 3))
    (hpre : ∀ vm₁, s.WarmedH vm₁ → Pre ⟨T.setVm vm₁, locs, cells, slots⟩ argsL.toArray) :
    (∃ (v : Option Value) (vm₁ : Vm) (B : Pt), s.WarmedH vm₁ ∧ Stand p l e R s m args below meth c B.U B.locs B.cells B.slots ∧ Post ⟨T.setVm vm₁, locs, cells, slots⟩ argsL.toArray v B ∧
      ∀ target, Steps p.tables e below (B.U.setTop { g with pc := g.pc + 3, stack := v.toList ++ rest }) target → Steps p.tables e below (T.setTop g) target) ∨
    (∃ (q : Addr) (vm₁ : Vm) (B : Pt), s.WarmedH vm₁ ∧ Stand p l e R s m args below meth c B.U B.locs B.cells B.slots ∧ PostX ⟨T.setVm vm₁, locs, cells, slots⟩ argsL.toArray q B ∧
      Steps p.tables e below (T.setTop g) ((B.U.setTop { g with stack := rest }).pushFrame (.throwing q))) := by
  obtain ⟨mk, methM, cM, hnamed, hmethM, -, -, -, -, -, -, hsigM⟩ := Cond.codeWith_spec hcode
  have hstatic : methM.isStatic = true := Cond.static_spec hnamed hmethM hstat
  obtain ⟨kP, hkP, -⟩ := className_of_methodNamed hnamed
  have hinitP : kP.init = .initialized := Cond.initialized_spec (findClass_of_methodNamed hnamed) hkP hinit
  obtain ⟨vm₁, X₁, hstep₁⟩ := X.invokestatic hexec hown hlink hnamed hmethM hstatic hkP hinitP hy (g := g) hg (argsL := argsL) (rest := rest) (hlen _ hsigM) hstack hdg
  rcases hK m meth c ⟨T.setVm vm₁, locs, cells, slots⟩ { g with stack := rest } (.invokestatic index) mk argsL.toArray X₁ hg hsize hdg hW (X₁.named hnamed) (hpre vm₁ X₁.warmed) with ⟨v, B, X', hpost, hsteps⟩ | ⟨q, B, X', hpost, hsteps⟩
  · exact Or.inl ⟨v, vm₁, B, X₁.warmed, X', hpost, fun target h => hstep₁ _ fun acts => by rw [doInvoke_state]; exact hsteps.trans h⟩
  · exact Or.inr ⟨q, vm₁, B, X₁.warmed, X', hpost, hstep₁ _ fun acts => by rw [doInvoke_state]; exact hsteps⟩
theorem vx_callVW (X : Stand p l e R s m args below meth c T locs cells slots) (hexec : p.tables.exec = Jvm.exec) {own C : String} {index : Nat} {y : MethodName} {bytes : ByteArray} {maxL : Nat} {ret : Option FieldType} {hh : List (Nat × Nat × Nat × Nat)}
    (hown : s.vm.findClass own = some m.cls) (hlink : (Cond.methodLink own index y).before args s = true) (hinst : (Cond.instanceMethod y).before args s = true) (hsel : (Cond.selects C y y).before args s = true)
    (hcode : (Cond.codeWith y bytes maxL ret hh).before args s = true) (hy : y.cls ≠ "java/lang/invoke/MethodHandle" ∧ y.cls ≠ "java/lang/invoke/VarHandle")
    {W9 : Nat} {Pre : Pt → Array Value → Prop} {Post : Pt → Array Value → Option Value → Pt → Prop} (hK : Back l R p e below s args y 3 W9 Pre Post)
    {b : Addr} {cellB : Cell} (hcell : T.heap[b]? = some cellB) (hobj : cellB.vm.isStatics = false) (hcls : s.vm.findClass C = some cellB.cls)
    {g : JFrame} (hg : g.method = m) (hsize : g.locals.size = c.maxLocals) {argsL rest : List Value} (hlen : ∀ sig, parseMethodDescriptor y.desc = some sig → argsL.length = sig.parameters.length)
    (hstack : g.stack = argsL.reverse ++ .ref b :: rest) (hW : 2 * g.monitorRoom + (rest.map fun v => v.category).sum ≤ W9) (hdg : decode c.code g.pc = .ok (.invokevirtual index, 3))
    (hpre : ∀ vm₁, s.WarmedH vm₁ → Pre ⟨T.setVm vm₁, locs, cells, slots⟩ (Value.ref b :: argsL).toArray) :
    ∃ (v : Option Value) (vm₁ : Vm) (B : Pt), s.WarmedH vm₁ ∧ Stand p l e R s m args below meth c B.U B.locs B.cells B.slots ∧ Post ⟨T.setVm vm₁, locs, cells, slots⟩ (Value.ref b :: argsL).toArray v B ∧
      ∀ target, Steps p.tables e below (B.U.setTop { g with pc := g.pc + 3, stack := v.toList ++ rest }) target → Steps p.tables e below (T.setTop g) target := by
  obtain ⟨mk, methM, hnamed, hmethM, hstM, habM⟩ := Cond.instanceMethod_spec hinst
  obtain ⟨m8, methM', cM, hn8, hmethM', -, -, -, -, -, -, hsigM⟩ := Cond.codeWith_spec hcode
  cases Option.some.inj (hn8.symm.trans hnamed)
  cases hmethM.symm.trans hmethM'
  obtain ⟨c2, r2, m2, q1, q2, q3, q4, kP, hkP, hkPi⟩ := Cond.selects_spec hsel
  cases hcls.symm.trans q1
  cases (State.methodFound?_of_named hnamed hy).symm.trans q2
  cases hnamed.symm.trans q3
  have hselP : selectMethod e.platform s.vm cellB.cls mk = .method mk := by rw [Launch.admits_selectMethod X.admits]; exact q4
  obtain ⟨vm₁, X₁, hstep₁⟩ := X.invokevirtual hexec hown hlink hnamed hmethM hstM hkP hkPi hy (a := b) (cell := cellB) hcell
    (fun z h => by rw [h] at hobj; cases hobj) hselP hmethM habM hkP hkPi (g := g) hg (argsL := argsL) (rest := rest) (hlen _ hsigM) hstack hdg
  obtain ⟨v, B, X', hpost, hsteps⟩ := hK m meth c ⟨T.setVm vm₁, locs, cells, slots⟩ { g with stack := rest } (.invokevirtual index) mk (Value.ref b :: argsL).toArray X₁ hg hsize hdg hW (X₁.named hnamed) (hpre vm₁ X₁.warmed)
  exact ⟨v, vm₁, B, X₁.warmed, X', hpost, fun target h => hstep₁ _ fun acts => by rw [doInvoke_state]; exact hsteps.trans h⟩
abbrev vx_CVW (R : Room) (s : State) (args : Array Value) (own C : String) (index : Nat) (y : MethodName) (bytes : ByteArray) (maxL : Nat) (ret : Option FieldType) (hh : List (Nat × Nat × Nat × Nat)) (ws : List Cond) (rm : Room) (mc ms n : Nat) : Prop :=
  (rm.cells = mc ∧ rm.slots = ms ∧ rm.frames + 1 ≤ R.frames ∧ 8 + (maxL + 11) + rm.locals ≤ R.locals ∧ (∀ w ∈ ws, ∀ (a' : Array Value) (U : State), s.WarmedH U.vm → w.before a' U = true) ∧ Cond.codeWith y bytes maxL ret hh ∈ ws) ∧
  (Cond.codeWith y bytes maxL ret hh).before args s = true ∧ (Cond.initialized y.cls).before args s = true ∧ (y.cls ≠ "java/lang/invoke/MethodHandle" ∧ y.cls ≠ "java/lang/invoke/VarHandle") ∧
  (∀ sig, parseMethodDescriptor y.desc = some sig → n = sig.parameters.length) ∧ (Cond.methodLink own index y).before args s = true ∧ (Cond.instanceMethod y).before args s = true ∧ (Cond.selects C y y).before args s = true
theorem vx_cwVW {own C : String} {index maxL mc ms : Nat} {y : MethodName} {bytes : ByteArray} {ret : Option FieldType} {hh : List (Nat × Nat × Nat × Nat)} {Ts ws ws' : List Cond} {rm : Room} (n : Nat) (ht : ∀ w ∈ Ts, w.before args s = true) (hT : GoodIn Ts (wsV own index C y ws)) (hw : ws = Cond.codeWith y bytes maxL ret hh :: ws') (hrc : rm.cells = mc) (hrs : rm.slots = ms)
    (hd : y.cls = C ∧ y.cls ≠ "java/lang/invoke/MethodHandle" ∧ y.cls ≠ "java/lang/invoke/VarHandle" ∧ (parseMethodDescriptor y.desc).map (fun d => d.parameters.length) = some n) (hR : rm.frames + 1 ≤ R.frames ∧ 8 + (maxL + 11) + rm.locals ≤ R.locals) :
    vx_CVW R s args own C index y bytes maxL ret hh ws rm mc ms n := by
  obtain ⟨hC, hd⟩ := hd
  subst hC
  have ok : ∀ w ∈ wsV own index y.cls y ws, w.before args s = true := fun w h => ht w (hT w h).1
  have hG : GoodIn Ts ws := fun w h => hT w (by unfold wsV; exact List.mem_append_right _ h)
  have hc : Cond.codeWith y bytes maxL ret hh ∈ ws := by rw [hw]; exact List.mem_cons_self
  refine ⟨⟨hrc, hrs, hR.1, hR.2, pay_in ht hG, hc⟩, ht _ (hG _ hc).1, ok _ (by simp [wsV]), ⟨hd.1, hd.2.1⟩, fun sig h => ?_, ok _ (by simp [wsV]), ok _ (by simp [wsV]), ok _ (by simp [wsV])⟩
  have h2 := hd.2.2
  rw [h] at h2
  exact (Option.some.inj h2).symm
theorem vx_runVW {y : MethodName} {bytes cc : ByteArray} {maxL nL mc ms n index : Nat} {ret : Option FieldType} {hh : List (Nat × Nat × Nat × Nat)} {ws : List Cond} {rm : Room} {Pc : Array Value → State → Prop} {Qc : Array Value → State → Outcome → State → Prop} {free : Addr → Prop} {Ts : List Cond} {own C : String} {b : Addr} {As rest : List Value} {g : JFrame}
    (S : CallFix p m c cc nL s args Ts own) (hM : Met l y ws rm Pc Qc mc ms free) (cw : vx_CVW R s args own C index y bytes maxL ret hh ws rm mc ms n) (hp : PreV s H C b Pc As)
    (hg : g.method = m) (hn : As.length = n) (hsize : g.locals.size = nL) (hstack : g.stack = As.reverse ++ .ref b :: rest) (hW : 2 * g.monitorRoom + (rest.map fun v => v.category).sum ≤ 8) (hdg : decode cc g.pc = .ok (.invokevirtual index, 3)) (hf : cells + mc ≤ R.cells ∧ slots + ms ≤ R.slots) :
    va_Run p l e R s m args below meth c H locs cells slots mc ms g rest (Qc (Value.ref b :: As).toArray) free := by
  obtain ⟨⟨hrc, hrs, hfr, hlo, hws, hcw⟩, hcode, hini, hy, hlen, hl, hin, hse⟩ := cw
  have hK : Back l R p e below s args y 3 8 (PreOf R mc ms Pc) (PostOf Qc mc ms free) := va_backW (hh := hh) (bytes := bytes) (maxL := maxL) (ret := ret) hM hp.1 hrc hrs hfr hlo hws hcw (fun a' U hW => word_at hW (Or.inl (by first | rfl | simp [Cond.onTables, Cond.keeps, Cond.steady])) hini)
  obtain ⟨hx, hb, hml, ho, -⟩ := S
  obtain ⟨-, ⟨cellB, hcB, hoB, hclB⟩, hPc⟩ := hp
  intro T hT X
  obtain ⟨v, vm₁, ⟨U', l2, c2, s2⟩, hW₁, X', ⟨g', mk, t, L, e1, e2, hq, h1, hL, h2, h3⟩, st⟩ := vx_callVW X hx (C := C) (hh := hh) (bytes := bytes) (maxL := maxL) (ret := ret) ho hl hin hse hcode hy hK (by rw [hT]; exact hcB) hoB hclB hg (hsize.trans hml.symm) (argsL := As) (rest := rest) (fun sig h => hn.trans (hlen sig h)) hstack hW (by rw [hb]; exact hdg)
    (fun vm₁ hW₁ => ⟨hf.1, hf.2, hPc (T.setVm vm₁) hT hW₁⟩)
  dsimp only [Pt.U, Pt.locs, Pt.cells, Pt.slots] at X' e1 e2 h1 h2 h3 st
  subst h1; subst h2; subst h3
  exact ⟨v, (T.setVm vm₁).calling g' mk (Value.ref b :: As).toArray, t, U', L, hT, X', hL, e1, e2, hq, st⟩
section
variable {y : MethodName} {bytes cc : ByteArray} {maxL nL mc ms n index : Nat} {ret : Option FieldType} {ws : List Cond} {rm : Room} {Pc : Array Value → State → Prop} {Qc : Array Value → State → Outcome → State → Prop} {XC : String → State → State → Prop} {free : Addr → Prop} {Ts : List Cond} {own C : String} {b : Addr} {As rest : List Value} {g : JFrame}
theorem vx_runVX {hh : List (Nat × Nat × Nat × Nat)} (S : CallFix p m c cc nL s args Ts own) (hM : vx_Met l y ws rm Pc Qc XC mc ms free) (cw : vx_CVW R s args own C index y bytes maxL ret hh ws rm mc ms n) (hp : PreV s H C b Pc As)
    (hg : g.method = m) (hn : As.length = n) (hsize : g.locals.size = nL) (hstack : g.stack = As.reverse ++ .ref b :: rest) (hW : 2 * g.monitorRoom + (rest.map fun v => v.category).sum ≤ 8) (hdg : decode cc g.pc = .ok (.invokevirtual index, 3)) (hf : cells + mc ≤ R.cells ∧ slots + ms ≤ R.slots) :
    vx_Run p l e R s m args below meth c H locs cells slots mc ms g rest (Qc (Value.ref b :: As).toArray) XC free := by
  obtain ⟨⟨hrc, hrs, hfr, hlo, hws, hcw⟩, hcode, hini, hy, hlen, hl, hin, hse⟩ := cw
  have hK : vx_Back l R p e below s args y 3 8 (PreOf R mc ms Pc) (PostOf Qc mc ms free) (vx_Post XC mc ms free) := vx_backW (hh := hh) (bytes := bytes) (maxL := maxL) (ret := ret) hM hp.1 hrc hrs hfr hlo hws hcw (fun a' U hW => word_at hW (Or.inl (by first | rfl | simp [Cond.onTables, Cond.keeps, Cond.steady])) hini)
  obtain ⟨hx, hb, hml, ho, -⟩ := S
  obtain ⟨-, ⟨cellB, hcB, hoB, hclB⟩, hPc⟩ := hp
  intro T hT X
  rcases vx_callVX X hx (C := C) (hh := hh) (bytes := bytes) (maxL := maxL) (ret := ret) ho hl hin hse hcode hy hK (by rw [hT]; exact hcB) hoB hclB hg (hsize.trans hml.symm) (argsL := As) (rest := rest) (fun sig h => hn.trans (hlen sig h)) hstack hW (by rw [hb]; exact hdg)
    (fun vm₁ hW₁ => ⟨hf.1, hf.2, hPc (T.setVm vm₁) hT hW₁⟩) with ⟨v, vm₁, ⟨U', l2, c2, s2⟩, hW₁, X', ⟨g', mk, t, L, e1, e2, hq, h1, hL, h2, h3⟩, st⟩ | ⟨q, vm₁, ⟨U', l2, c2, s2⟩, hW₁, X', ⟨g', mk, t, L, E, ce, e1, e2, hq, hce, hcv, hcl, h1, hL, h2, h3⟩, st⟩
  · dsimp only [Pt.U, Pt.locs, Pt.cells, Pt.slots] at X' e1 e2 h1 h2 h3 st
    subst h1; subst h2; subst h3
    exact Or.inl ⟨v, (T.setVm vm₁).calling g' mk (Value.ref b :: As).toArray, t, U', L, hT, X', hL, e1, e2, hq, st⟩
  · dsimp only [Pt.U, Pt.locs, Pt.cells, Pt.slots] at X' e1 e2 h1 h2 h3 st hcl
    subst h1; subst h2; subst h3
    exact Or.inr ⟨q, (T.setVm vm₁).calling g' mk (Value.ref b :: As).toArray, t, U', L, E, ce, hT, X', hL, e1, e2, hq, hce, hcv, vx_cls hW₁ hcl, st⟩
theorem vx_runSX {hh : List (Nat × Nat × Nat × Nat)} (S : CallFix p m c cc nL s args Ts own) (hM : vx_Met l y ws rm Pc Qc XC mc ms free) (cw : vx_CSW R s args own index y bytes maxL ret hh ws rm mc ms n) (hp : PreS s H Pc As)
    (hg : g.method = m) (hn : As.length = n) (hsize : g.locals.size = nL) (hstack : g.stack = As.reverse ++ rest) (hW : 2 * g.monitorRoom + (rest.map fun v => v.category).sum ≤ 8) (hdg : decode cc g.pc = .ok (.invokestatic index, 3)) (hf : cells + mc ≤ R.cells ∧ slots + ms ≤ R.slots) :
    vx_Run p l e R s m args below meth c H locs cells slots mc ms g rest (Qc As.toArray) XC free := by
  obtain ⟨⟨hrc, hrs, hfr, hlo, hws, hcw⟩, hcode, hini, hy, hlen, hl, hstt⟩ := cw
  have hK : vx_Back l R p e below s args y 3 8 (PreOf R mc ms Pc) (PostOf Qc mc ms free) (vx_Post XC mc ms free) := vx_backW (hh := hh) (bytes := bytes) (maxL := maxL) (ret := ret) hM hp.1 hrc hrs hfr hlo hws hcw (fun a' U hW => word_at hW (Or.inl (by first | rfl | simp [Cond.onTables, Cond.keeps, Cond.steady])) hini)
  obtain ⟨hx, hb, hml, ho, -⟩ := S
  intro T hT X
  rcases vx_callSX X hx (hh := hh) (bytes := bytes) (maxL := maxL) (ret := ret) ho hl hstt hini hcode hy hK hg (hsize.trans hml.symm) (argsL := As) (rest := rest) (fun sig h => hn.trans (hlen sig h)) hstack hW (by rw [hb]; exact hdg)
    (fun vm₁ hW₁ => ⟨hf.1, hf.2, hp.2 (T.setVm vm₁) hT hW₁⟩) with ⟨v, vm₁, ⟨U', l2, c2, s2⟩, hW₁, X', ⟨g', mk, t, L, e1, e2, hq, h1, hL, h2, h3⟩, st⟩ | ⟨q, vm₁, ⟨U', l2, c2, s2⟩, hW₁, X', ⟨g', mk, t, L, E, ce, e1, e2, hq, hce, hcv, hcl, h1, hL, h2, h3⟩, st⟩
  · dsimp only [Pt.U, Pt.locs, Pt.cells, Pt.slots] at X' e1 e2 h1 h2 h3 st
    subst h1; subst h2; subst h3
    exact Or.inl ⟨v, (T.setVm vm₁).calling g' mk As.toArray, t, U', L, hT, X', hL, e1, e2, hq, st⟩
  · dsimp only [Pt.U, Pt.locs, Pt.cells, Pt.slots] at X' e1 e2 h1 h2 h3 st hcl
    subst h1; subst h2; subst h3
    exact Or.inr ⟨q, (T.setVm vm₁).calling g' mk As.toArray, t, U', L, E, ce, hT, X', hL, e1, e2, hq, hce, hcv, vx_cls hW₁ hcl, st⟩
end
end VXH
theorem vx_ofWH {l : Launch} {y : MethodName} {ws ws' : List Cond} {rm : Room} {Pc : Array Value → State → Prop} {Qc : Array Value → State → Outcome → State → Prop} {XC : String → State → State → Prop} {mc ms : Nat} {free : Addr → Prop} {cc : ByteArray} {maxL : Nat} {ret : Option FieldType} {hh : List (Nat × Nat × Nat × Nat)}
    (hy : plainName y.cls = true) (hw : ws = Cond.codeWith y cc maxL ret hh :: ws')
    (body : ∀ p e s m args below meth c s₁, BodyLoose p l y (headSpec ws rm) cc maxL ret e s m args below meth c s₁ → c.maxLocals = maxL → Pc args s →
      W p l e (headSpec ws rm).room s m args below meth c s.heap [] 0 0 (vx_MQ below Qc XC args s mc ms free) (entryFrame m args maxL)) : vx_Met l y ws rm Pc Qc XC mc ms free := by
  refine MetFree.of_bodyS (code := cc) (maxLocals := maxL) (ret := ret) hy ?_ ?_
  · intro args s m h hn
    obtain ⟨m9, meth, c, hn9, h1, h2, h3, h4, -, h5, h6, -⟩ := Cond.codeWith_spec (atoms_spec (ws := ws) h _ (by rw [hw]; exact List.mem_cons_self))
    cases hn.symm.trans hn9
    exact ⟨meth, c, h1, h2, h3, h4, h5, h6⟩
  · intro p e s m args below meth c s₁ B hml hP _
    have hh0 : s₁.heap = s.heap := by rw [B.state]; rfl
    obtain ⟨t, a1, o, b1, b2, b3⟩ := body p e s m args below meth c s₁ B hml hP s₁ hh0 (Stand.of_body B)
    exact ⟨t, o, a1, b1, b2, b3⟩
/-! ===== END ===== -/
end
section
/-! A throw of a class whose constructor passes its text on by another entry of its own pool than the seventh (NoSuchElementException of JDK 17: entry 13). The kit's row for throws speaks of entry 7 alone; what follows goes the way of the library's constructor law (its remarks name it: JvmDerived/BundleOwnThrow) with that entry left open, and asks less of the object that is made. -/
def tk_at (own : String) (ic : Nat) (X Y : String) (k : Nat) (bs : ByteArray) (names : List String) : List Cond :=
  Bundle.throwableAtoms ++ Bundle.throwableSAtoms ++ (Bundle.passSAtoms X Y k bs ++ Bundle.chainSAtoms Y names) ++
  [.methodLink own ic (Bundle.initS X), .instantiable X 6, .castable X X, .selects X Bundle.tFill0 Bundle.tFill0, .selects X Bundle.tFill Bundle.tFill,
   .lays X Bundle.tN "cause" "Ljava/lang/Throwable;", .lays X Bundle.tN "stackTrace" Bundle.steD, .lays X Bundle.tN "suppressedExceptions" Bundle.listD, .lays X Bundle.tN "detailMessage" "Ljava/lang/String;",
   .isRef (.static Bundle.tN "UNASSIGNED_STACK" Bundle.steD), .isRef (.static Bundle.tN "SUPPRESSED_SENTINEL" Bundle.listD),
   .fieldLink Bundle.tN 198 Bundle.tN "backtrace" "Ljava/lang/Object;", .lays Bundle.tN Bundle.tN "backtrace" "Ljava/lang/Object;", .lays X Bundle.tN "backtrace" "Ljava/lang/Object;"]
section TK
variable {p : Program} {l : Launch} {e : Env} {R : Room} {s : State} {m₀ : MethodId} {args : Array Value} {below : List Frame} {meth : Method} {c : Code} {W : State} {locs : List Loc} {cells slots : Nat}
set_option maxHeartbeats 4000000 in
theorem tk_ctor (X : Stand p l e R s m₀ args below meth c W locs cells slots) (hexec : p.tables.exec = Jvm.exec) (htr : e.platform.stackTraces = false) {own cls sup : String} {names : List String} {ic ix : Nat} {bs : ByteArray}
    (hown : s.vm.findClass own = some m₀.cls) (hcls : Bundle.fit cls = true) (hsup : Bundle.fit sup = true) (hnames : ∀ n ∈ names, Bundle.fit n = true)
    (b0 : decode bs 0 = .ok (.aload_n 0, 1)) (b1 : decode bs 1 = .ok (.aload_n 1, 1)) (b2 : decode bs 2 = .ok (.invokespecial ix, 3)) (b5 : decode bs 5 = .ok (.return_, 1))
    (h : ∀ a ∈ tk_at own ic cls sup ix bs names, a.before args s = true)
    (hlocs : ∀ x ∈ locs, ∀ cell, s.heap[x.base]? = some cell → cell.vm.isStatics = false)
    {a : Addr} {cX : ClassId} {kX : Class} (hfoundX : s.vm.findClass cls = some cX) (hkX : s.vm.classes[cX]? = some kX) (hcell : W.heap[a]? = some (freshCell cX kX)) (hnew : s.heap.size ≤ a)
    {msg : Value} (hmsg : msg.isRef = true)
    {g : JFrame} (hg : g.method = m₀) (hsize : g.locals.size = c.maxLocals) (hlocked : g.locked = none) (hentered : g.entered = []) {rest : List Value} (hstack : g.stack = msg :: .ref a :: .ref a :: rest)
    (hd6 : decode c.code g.pc = .ok (.invokespecial ic, 3)) (hd9 : decode c.code (g.pc + 3) = .ok (.athrow, 1)) (hout : ∀ x ∈ c.exceptionTable.toList, covers x (g.pc + 3) = false)
    (hRframes : names.length + 4 < R.frames) (hRlocals : 2 * g.monitorRoom + ((Value.ref a :: rest).map fun v => v.category).sum + (13 * (names.length + 2) + 42) ≤ R.locals) (hlocks : meth.locks = false) :
    ∃ U : State, Steps p.tables e below (W.setTop g) U ∧ U.status = .running ∧ Ended U below (.threw a) ∧ s.WarmedH U.vm ∧ s.sameButNew ({ U with vm := s.vm } : State) locs cells slots ∧
      ∃ ce, U.heap[a]? = some ce ∧ ce.vm = .none ∧ s.vm.findClass cls = some ce.cls := by
  have howns : e.platform.frameOwnsMonitors = true := by rw [X.admits.platform]
  have hfin : e.platform.finalization = false := by rw [X.admits.platform]
  have hpl : e.platform.magicAccessors = ({} : Platform).magicAccessors := by rw [X.admits.platform]
  have a' : ∀ x, x ∈ tk_at own ic cls sup ix bs names → x.holds args s none s [] = true := fun x hx => h x hx
  obtain ⟨T, Z0, L, -, Y⟩ := ThrowableC.of_atoms (args := args) howns hfin hpl (fun x hx => h x (by simp [tk_at, hx]))
  obtain ⟨Z, M, LZ, LM, hnZ⟩ := Init0T.ofS_atoms (args := args) hpl L Y (fun x hx => h x (by simp [tk_at, hx]))
  obtain ⟨P1, L1, hP1m, hs1⟩ := PassC.ofS_atoms (args := args) (s := s) hpl (X := cls) (Y := sup) (Bundle.fit_spec hcls).1 (Bundle.fit_spec hsup).2 b0 b1 b2 b5 (fun x hx => h x (by simp [tk_at, hx]))
  obtain ⟨P2, Ps, hlen, L2, hL, hP2m, hlink2, hlink⟩ := Bundle.chainS (args := args) hpl hnZ names sup hsup hnames (fun x hx => h x (by simp [tk_at, hx]))
  have hlink1 : P1.sup = P2.m := Option.some.inj (hs1.symm.trans hP2m)
  have hfound : s.vm.findClass cls = some P1.m.cls := findClass_of_methodNamed hP1m
  cases Option.some.inj (hfoundX.symm.trans hfound)
  obtain ⟨c1, kX', hc1, hk, hord, -, -, hn6⟩ := Cond.instantiable_spec (a' (.instantiable cls 6) (by simp [tk_at]))
  cases Option.some.inj (hc1.symm.trans hfound)
  cases Option.some.inj (hkX.symm.trans hk)
  have hsel0 : selectMethod e.platform s.vm P1.m.cls T.fill0 = .method T.fill0 := by
    obtain ⟨c2, r2, m2, q1, q2, q3, q4, -⟩ := Cond.selects_spec (a' (.selects cls Bundle.tFill0 Bundle.tFill0) (by simp [tk_at]))
    cases Option.some.inj (q1.symm.trans hfound)
    cases Option.some.inj (q2.symm.trans (State.methodFound?_of_named Y.fill0 (by decide)))
    cases Option.some.inj (q3.symm.trans Y.fill0)
    rw [Launch.admits_selectMethod X.admits]; exact q4
  have hselF : selectMethod e.platform s.vm P1.m.cls T.fill = .method T.fill := by
    obtain ⟨c2, r2, m2, q1, q2, q3, q4, -⟩ := Cond.selects_spec (a' (.selects cls Bundle.tFill Bundle.tFill) (by simp [tk_at]))
    cases Option.some.inj (q1.symm.trans hfound)
    cases Option.some.inj (q2.symm.trans (State.methodFound?_of_named Y.fill (by decide)))
    cases Option.some.inj (q3.symm.trans Y.fill)
    rw [Launch.admits_selectMethod X.admits]; exact q4
  obtain ⟨cellS0, hcS0, hiss⟩ := Y.statics
  obtain ⟨u0, hu0⟩ := Cond.staticRefV Y.unassigned L.unassignedStatic L.statics hcS0 hiss (a' (.isRef (.static Bundle.tN "UNASSIGNED_STACK" Bundle.steD)) (by simp [tk_at]))
  obtain ⟨sen, hsen⟩ := Cond.staticRefV Y.sentinel L.sentinelStatic L.statics hcS0 hiss (a' (.isRef (.static Bundle.tN "SUPPRESSED_SENTINEL" Bundle.listD)) (by simp [tk_at]))
  obtain ⟨ci198, i198, fB, hk198, hg198, ha198, hsB, -, hnB, htB, hffB⟩ := Cond.ownField (t := .object "java/lang/Object") Y.found L.cls (by decide +kernel) (a' (.fieldLink Bundle.tN 198 Bundle.tN "backtrace" "Ljava/lang/Object;") (by simp [tk_at])) (a' (.lays Bundle.tN Bundle.tN "backtrace" "Ljava/lang/Object;") (by simp [tk_at])) e.platform hpl
  obtain ⟨cellS, hcS', heS, -, hkeep⟩ := X.same.2.2.2.2.2 T.aS cellS0 hcS0
  have hcellS : W.heap[T.aS]? = some cellS := hcS'
  have hout' : ∀ i, (⟨T.aS, i⟩ : Loc) ∉ locs := fun i hmem => by
    have := hlocs _ hmem cellS0 hcS0
    rw [hiss] at this; cases this
  have hknownS : cellS.vm ≠ .unknown := by
    rw [heS]; intro hu
    rw [show cellS0.vm = .unknown from hu] at hiss
    cases hiss
  have hneS : T.aS ≠ a := Nat.ne_of_lt (Nat.lt_of_lt_of_le (Array.getElem?_eq_some_iff.mp hcS0).1 hnew)
  obtain ⟨iM, hffM⟩ := Y.msg
  obtain ⟨tyC, dC, hdC, hdnC⟩ := Cond.laysAt hfound hk Y.cause (a' (.lays cls Bundle.tN "cause" "Ljava/lang/Throwable;") (by simp [tk_at]))
  obtain ⟨tyS, dS, hdS, hdnS⟩ := Cond.laysAt hfound hk Y.stack (a' (.lays cls Bundle.tN "stackTrace" Bundle.steD) (by simp [tk_at]))
  obtain ⟨tyP, dP, hdP, hdnP⟩ := Cond.laysAt hfound hk Y.supp (a' (.lays cls Bundle.tN "suppressedExceptions" Bundle.listD) (by simp [tk_at]))
  obtain ⟨tyM, dM, hdM, hdnM⟩ := Cond.laysAt hfound hk hffM (a' (.lays cls Bundle.tN "detailMessage" "Ljava/lang/String;") (by simp [tk_at]))
  obtain ⟨tyB, dB, hdB, hdnB⟩ := Cond.laysAt hfound hk hffB (a' (.lays cls Bundle.tN "backtrace" "Ljava/lang/Object;") (by simp [tk_at]))
  have bC := Cond.laysApart hdB hdC hdnB hdnC (by rw [hnB, Y.causeName]; decide)
  have bS := Cond.laysApart hdB hdS hdnB hdnS (by rw [hnB, Y.stackName]; decide)
  have bP := Cond.laysApart hdB hdP hdnB hdnP (by rw [hnB, Y.suppName]; decide)
  have hskip : SkipFacts T e.platform s (fun u => u) u0 ((preparedCellV T.toThrowableT (freshCell P1.m.cls kX) a u0 sen).withEntry W.cur) :=
    ⟨{ ci198 := ci198, i198 := i198, fBack := fB }, ⟨hk198, hg198, ha198, hsB⟩, by
      have := fresh_default (c := P1.m.cls) tyB
      rw [htB] at this
      simpa [preparedCellV, Cell.setSlot, Cell.withEntry, Array.getElem?_setIfInBounds, bC, bS, bP, bC.symm, bS.symm, bP.symm, defaultValue] using this, fun _ _ => rfl⟩
  obtain ⟨tm, methC, cdC, kC, vm₁, hnC, -, -, -, -, -, -, -, hW₁, st1⟩ := Steps.initColdS (tb := p.tables) (e := e) (below := below) (s := s) (U := W) X.here hexec X.warmed hpl hown (t := Bundle.initS cls) rfl rfl (Bundle.fit_spec hcls).2
    (a' (.methodLink own ic (Bundle.initS cls)) (by simp [tk_at])) (h (.instanceMethod (Bundle.initS cls)) (by simp [tk_at, Bundle.passSAtoms])) (bytes := bs) (maxL := 2) (h (.code (Bundle.initS cls) bs 2 none) (by simp [tk_at, Bundle.passSAtoms]))
    (f := g) hg (a := a) (msg := msg) (rest := .ref a :: rest) hstack hd6
  cases Option.some.inj (hnC.symm.trans hP1m)
  have X₁ := X.noted hW₁
  obtain ⟨vm₂, X₂, st2⟩ := X₁.ctorMessageOffV hexec (g := { g with stack := .ref a :: rest }) hg hsize T L Z LZ M LM (P1 :: P2 :: Ps)
    (fun P hP => by
      rcases List.mem_cons.mp hP with rfl | hP
      · exact L1
      · rcases List.mem_cons.mp hP with rfl | hP
        · exact L2
        · exact hL P hP) ⟨hlink1, hlink2, hlink⟩ (u0 := u0) (sen := sen) (self := a) hmsg (cell := freshCell P1.m.cls kX) (cellS := cellS)
    hcell (fun _ => by simp) (by simp) rfl rfl hsel0 hselF hcellS hneS hknownS (by rw [hkeep _ (hout' _)]; exact hu0) (by rw [hkeep _ (hout' _)]; exact hsen)
    (Takes.of_laid hk hord tyC (by rw [Y.causeType]; rfl)) (Takes.of_laid hk hord tyS (by rw [Y.stackType]; exact fits_refV_array _ u0)) (Takes.of_laid hk hord tyP (by rw [Y.suppType]; exact fits_refV_object _ sen))
    (Takes.of_laid hk hord tyM (by rw [Y.msgType]; exact fits_refV_object _ ⟨msg, hmsg⟩)) Y.objLocals hskip htr [] hd6
    (by simp only [List.length_cons, hlen]; omega) (by simp only [List.length_cons, hlen]; exact hRlocals)
  obtain ⟨hwalk, hrun, hended, hWU, hsame⟩ := X₂.athrowLeaves hexec (g := { g with stack := .ref a :: rest, pc := g.pc + 3 }) hg hlocked hentered hout (a := a) (rest := rest) rfl hd9
  have hlt : a < ((W.setVm vm₁).setVm vm₂).heap.size := (Array.getElem?_eq_some_iff.mp hcell).1
  have hU := heapAt_setCell_self (s := (W.setVm vm₁).setVm vm₂) (plainBareV T.toThrowableT (freshCell P1.m.cls kX) a u0 sen msg) hlt
  refine ⟨_, st1 _ (fun acts => ?_), hrun, hended, hWU, hsame.weaken (fun y hy hlt' => ?_) (Nat.le_refl _) (Nat.le_refl _), _, hU, rfl, hfound⟩
  · rw [doInvoke_state]
    exact st2 _ hwalk
  · rcases List.mem_append.mp hy with h1 | h1
    · exact h1
    · exfalso
      have hb : y.base = a := by
        simp only [List.mem_cons, List.not_mem_nil, or_false] at h1
        rcases h1 with rfl | rfl | rfl | rfl | rfl <;> rfl
      rw [hb] at hlt'
      exact Nat.not_lt.mpr hnew hlt'
end TK
def tk_atS (own : String) (ic : Nat) (X Y : String) (k : Nat) (bs : ByteArray) (names : List String) : List Cond := (tk_at own ic X Y k bs names).filter vx_no
section TKW
variable {p : Program} {l : Launch} {e : Env} {R : Room} {s : State} {m : MethodId} {args : Array Value} {below : List Frame} {meth : Method} {c : Code} {H : Heap} {locs : List Loc} {cells slots : Nat}
variable {free : Addr → Prop} {ls : Array Slot} {rest : List Value} {Qc : Array Value → State → Outcome → State → Prop} {XC : String → State → State → Prop}
set_option maxHeartbeats 4000000 in
theorem tk_throw {cc : ByteArray} {pc : Nat} (hexec : p.tables.exec = Jvm.exec) (hb : c.code = cc) (hl : l.stackTraces = false) {own cls sup text : String} {names : List String} {ik is ic ix mc ms sa : Nat} {bs : ByteArray} {A : Nat → Prop}
    (hown : s.vm.findClass own = some m.cls) (hcls : Bundle.fit cls = true) (hsup : Bundle.fit sup = true) (hnames : ∀ n ∈ names, Bundle.fit n = true)
    (b0 : decode bs 0 = .ok (.aload_n 0, 1)) (b1 : decode bs 1 = .ok (.aload_n 1, 1)) (b2 : decode bs 2 = .ok (.invokespecial ix, 3)) (b5 : decode bs 5 = .ok (.return_, 1))
    (hk : (Cond.classLink own ik cls).before args s = true) (hini : (Cond.initialized cls).before args s = true) (hstr : vk_R own is text sa s) (hat : ∀ w ∈ tk_atS own ic cls sup ix bs names, w.before args s = true)
    (hgood : ∀ w ∈ Cond.classLink own ik cls :: Cond.initialized cls :: tk_atS own ic cls sup ix bs names, vx_ot w = true)
    (hU : vx_Zq Bundle.tN "UNASSIGNED_STACK" Bundle.steD A s s.heap) (hN : vx_Zq Bundle.tN "SUPPRESSED_SENTINEL" Bundle.listD A s s.heap) (hS : va_S A s.heap H locs) (hsize : ls.size = c.maxLocals)
    (d0 : decode cc pc = .ok (.new ik, 3)) (d3 : decode cc (pc + 3) = .ok (.dup, 1)) (d4 : decode cc (pc + 4) = .ok (.ldc is, 2)) (d6 : decode cc (pc + 6) = .ok (.invokespecial ic, 3)) (d9 : decode cc (pc + 9) = .ok (.athrow, 1))
    (hout : ∀ x ∈ c.exceptionTable.toList, covers x (pc + 9) = false)
    (hRframes : names.length + 4 < R.frames) (hRlocals : (rest.map fun v => v.category).sum + (13 * (names.length + 2) + 43) ≤ R.locals) (hRcells : cells + 1 ≤ R.cells) (hRslots : slots + 6 ≤ R.slots) (hlocks : meth.locks = false)
    (hx : ∀ t : State, s.vm.Alike t.vm → H.size ≤ t.heap.size → (∀ q : Nat, q < H.size → t.heap[q]? = H[q]?) → XC cls s t)
    (hf : ∀ z ∈ locs, free z.base) (hc : cells + 1 ≤ mc) (hs : slots + 6 ≤ ms) :
    W p l e R s m args below meth c H locs cells slots (vx_MQ below Qc XC args s mc ms free) (F0 m pc ls rest) := by
  intro T hT X
  have htr : e.platform.stackTraces = false := (show e.platform.stackTraces = l.stackTraces by rw [X.admits.platform]).trans hl
  have Y := vx_rebase X (R' := { frames := R.frames, locals := R.locals, cells := 1, slots := 6 }) (Nat.le_refl _) (Nat.le_refl _) hRcells hRslots
  obtain ⟨s', hA⟩ : ∃ z, z = (T.setVm s.vm).setFrames (.invoking m args :: below) := ⟨_, rfl⟩
  rw [← hA] at Y
  have hvm : s'.vm = s.vm := by rw [hA]; rfl
  have hhp : s'.heap = H := by rw [hA]; exact hT
  have hW0 : s.WarmedH s'.vm := by rw [hvm]; exact State.WarmedH.refl s
  have hat' : ∀ w ∈ tk_atS own ic cls sup ix bs names, w.before args s' = true := fun w hw => vx_ot_at hW0 hvm.symm (hgood w (List.mem_cons_of_mem _ (List.mem_cons_of_mem _ hw))) (hat w hw)
  have hk' : (Cond.classLink own ik cls).before args s' = true := vx_ot_at hW0 hvm.symm (hgood _ List.mem_cons_self) hk
  have hini' : (Cond.initialized cls).before args s' = true := vx_ot_at hW0 hvm.symm (hgood _ (List.mem_cons_of_mem _ List.mem_cons_self)) hini
  have hU' : vx_Zq Bundle.tN "UNASSIGNED_STACK" Bundle.steD A s' s'.heap := by rw [hhp]; exact vx_Zq.moved hW0.alike (hU.kept hS.2.1)
  have hN' : vx_Zq Bundle.tN "SUPPRESSED_SENTINEL" Bundle.listD A s' s'.heap := by rw [hhp]; exact vx_Zq.moved hW0.alike (hN.kept hS.2.1)
  have h : ∀ w ∈ tk_at own ic cls sup ix bs names, w.before args s' = true := vx_own hat' (vx_isRefq hU'.1) (vx_isRefq hN'.1) hU'.2.word hN'.2.word
  have hown' : s'.vm.findClass own = some m.cls := by rw [hvm]; exact hown
  have hins : (Cond.instantiable cls 6).before args s' = true := h _ (by simp [tk_at])
  obtain ⟨vm₁, cX, kX, hfX, hkX, -, -, X₁, st1⟩ := Y.newCold hexec (own := own) (C := cls) (index := ik) (n := 6) hown' hk' hins hini'
    (g := F0 m pc ls rest) rfl (by rw [hb]; exact d0) (Nat.le_refl _) (Nat.le_refl _)
  generalize hT1 : (T.setVm vm₁).pushCell { cls := cX, slots := kX.instanceTypes.map defaultValue, vm := .none } = T1 at X₁ st1
  have hcat : (Value.ref T.heap.size).category = 1 := rfl
  have hcellA : T1.heap[T.heap.size]? = some (freshCell cX kX) := by rw [← hT1]; exact State.heap_pushCell_size _ _
  have d3' : decode c.code (pc + 3) = .ok (.dup, 1) := by rw [hb]; exact d3
  have d4' : decode c.code (pc + 4) = .ok (.ldc is, 2) := by rw [hb]; exact d4
  have hstr' : vk_R own is text sa s' := vk_R.warm hW0 hstr
  obtain ⟨U, hsteps, hrun, hend, hW, hsame, ce, hce, hOv, hOc⟩ := tk_ctor X₁ hexec htr (own := own) (cls := cls) (sup := sup) (names := names) (ic := ic) (ix := ix) (bs := bs) hown' hcls hsup hnames b0 b1 b2 b5 h (fun x hx => nomatch hx) hfX hkX hcellA (by rw [hhp, hT]; exact Nat.le_refl _) (msg := .ref sa) rfl
    (g := { method := m, pc := pc + 6, locals := ls, stack := .ref sa :: .ref T.heap.size :: .ref T.heap.size :: rest, locked := none }) rfl hsize rfl rfl (rest := rest) rfl
    (by rw [hb]; exact d6) (by rw [hb]; exact d9) hout hRframes (by simp only [List.map_cons, List.sum_cons, hcat]; omega) hlocks
  obtain ⟨f1, f2⟩ := vx_frame hsame
  rw [hhp] at f1 f2
  have hWs : s.WarmedH U.vm := State.WarmedH.trans hW0 hW
  have hcl : s.vm.findClass cls = some ce.cls := by
    rw [hvm] at hOc
    exact hOc
  have hall : s.sameButNew ({ U with vm := s.vm } : State) locs mc ms := by
    subst hA
    obtain ⟨e1, e2⟩ := hsame
    rw [State.setFrames_setFrames] at e1
    have h2 : (T.setVm s.vm).sameButNew ({ U with vm := s.vm } : State) [] (0 + 1) (0 + 6) := ⟨e1, e2⟩
    have h3 := X.same.trans h2
    rw [List.append_nil] at h3
    exact h3.mono hc hs
  refine ⟨U, ?_, .threw T.heap.size, hrun, hend, Or.inr ⟨T.heap.size, rfl, cls, ce, locs, hx U hWs.alike f1 (fun q hq => f2 q hq (fun z hz => nomatch hz)), hce, hOv, hcl, hWs, hall, hf⟩⟩
  refine st1 _ ?_
  show Steps p.tables e below (T1.setTop { method := m, pc := pc + 3, locals := ls, stack := .ref T.heap.size :: rest, locked := none }) _
  jvm_step X₁.here [X₁.here.top, hexec, d3', Value.category]
  exact X₁.ldcString hexec (own := own) (text := text) (index := is) (a := sa) hown' hstr'.1 hstr'.2
    (g := { method := m, pc := pc + 4, locals := ls, stack := .ref T.heap.size :: .ref T.heap.size :: rest, locked := none }) rfl d4' _ hsteps
end TKW
end
section
def bigW : List Cond := lw_tbl.filter goodWord
theorem big_in {w : Cond} (h : w ∈ lw_tbl) (hg : goodWord w = true) : w ∈ bigW := List.mem_filter.mpr ⟨h, hg⟩
theorem gV {own : String} {idx : Nat} {C : String} {y : MethodName} {cd : Cond} (h1 : Cond.methodLink own idx y ∈ bigW) (h2 : Cond.instanceMethod y ∈ bigW) (h3 : Cond.selects C y y ∈ bigW) (h4 : Cond.initialized C ∈ bigW) (h5 : cd ∈ bigW) : GoodIn bigW (wsV own idx C y (cd :: bigW)) := by
  have hb : ∀ w ∈ bigW, w ∈ bigW ∧ ((w.onTables && w.keeps) = true ∨ ∃ ty, w = .arrayClass ty) := fun w h => ⟨h, good_of_word (List.mem_filter.mp h).2⟩
  intro w hw
  unfold wsV at hw
  simp only [List.cons_append, List.nil_append, List.mem_cons] at hw
  rcases hw with rfl | rfl | rfl | rfl | rfl | hw
  · exact hb _ h1
  · exact hb _ h2
  · exact hb _ h3
  · exact hb _ h4
  · exact hb _ h5
  · exact hb _ hw
theorem gS {own : String} {idx : Nat} {y : MethodName} {cd : Cond} (h1 : Cond.methodLink own idx y ∈ bigW) (h2 : Cond.static y ∈ bigW) (h4 : Cond.initialized y.cls ∈ bigW) (h5 : cd ∈ bigW) : GoodIn bigW (va_wsS own idx y (cd :: bigW)) := by
  have hb : ∀ w ∈ bigW, w ∈ bigW ∧ ((w.onTables && w.keeps) = true ∨ ∃ ty, w = .arrayClass ty) := fun w h => ⟨h, good_of_word (List.mem_filter.mp h).2⟩
  intro w hw
  unfold va_wsS at hw
  simp only [List.cons_append, List.nil_append, List.mem_cons] at hw
  rcases hw with rfl | rfl | rfl | rfl | hw
  · exact hb _ h1
  · exact hb _ h2
  · exact hb _ h4
  · exact hb _ h5
  · exact hb _ hw
def RX0 : String := "LogBook"
def TX0 : u_T := fun k => match k with
  | 0 => ("LogBook", "ring", "[I", true)
  | 1 => ("LogBook", "buffer", "[I", true)
  | 2 => ("LogBook", "firstPlace", "I", false)
  | 3 => ("LogBook", "forcedPlace", "I", false)
  | 4 => ("LogBook", "endPlace", "I", false)
  | 5 => ("LogBook", "wordsToFailure", "I", false)
  | _ => ("LogBook", "opened", "Z", false)
def tyX0 : Nat → FieldType := fun k => match k with
  | 0 => .array .int
  | 1 => .array .int
  | 2 => .int
  | 3 => .int
  | 4 => .int
  | 5 => .int
  | _ => .boolean
abbrev wsX00 : List Cond := u_ws RX0 TX0 7
theorem nmX0 : ∀ a, a < 7 → ∀ b, b < 7 → a ≠ b → (TX0 a).2.1 ≠ (TX0 b).2.1 := by decide +kernel
theorem tyX0_ok : ∀ k, k < 7 → parseFieldDescriptor (TX0 k).2.2.1 = some (tyX0 k) := by decide +kernel
theorem in_X0 : ∀ w ∈ wsX00, w ∈ bigW := fun w h => big_in ((by decide +kernel : ∀ w ∈ wsX00, w ∈ lw_tbl) w h) ((by decide +kernel : ∀ w ∈ wsX00, goodWord w = true) w h)
def RX1 : String := "LogBookModel"
def TX1 : u_T := fun k => match k with
  | 0 => ("LogBookModel", "thrown", "I", false)
  | 1 => ("LogBookModel", "buffer", "[I", true)
  | 2 => ("LogBookModel", "words", "[I", true)
  | 3 => ("LogBookModel", "serials", "[I", true)
  | 4 => ("LogBookModel", "lengths", "[I", true)
  | 5 => ("LogBookModel", "kinds", "[I", true)
  | 6 => ("LogBookModel", "owners", "[I", true)
  | 7 => ("LogBookModel", "olders", "[I", true)
  | 8 => ("LogBookModel", "links", "[I", true)
  | 9 => ("LogBookModel", "voids", "[Z", true)
  | 10 => ("LogBookModel", "base", "I", false)
  | 11 => ("LogBookModel", "count", "I", false)
  | 12 => ("LogBookModel", "first", "I", false)
  | 13 => ("LogBookModel", "forced", "I", false)
  | 14 => ("LogBookModel", "end", "I", false)
  | 15 => ("LogBookModel", "closed", "Z", false)
  | 16 => ("LogBookModel", "left", "I", false)
  | 17 => ("LogBookModel", "begun", "I", false)
  | _ => ("LogBookModel", "begunLength", "I", false)
def tyX1 : Nat → FieldType := fun k => match k with
  | 0 => .int
  | 1 => .array .int
  | 2 => .array .int
  | 3 => .array .int
  | 4 => .array .int
  | 5 => .array .int
  | 6 => .array .int
  | 7 => .array .int
  | 8 => .array .int
  | 9 => .array .boolean
  | 10 => .int
  | 11 => .int
  | 12 => .int
  | 13 => .int
  | 14 => .int
  | 15 => .boolean
  | 16 => .int
  | 17 => .int
  | _ => .int
abbrev wsX10 : List Cond := u_ws RX1 TX1 19
theorem nmX1 : ∀ a, a < 19 → ∀ b, b < 19 → a ≠ b → (TX1 a).2.1 ≠ (TX1 b).2.1 := by decide +kernel
theorem tyX1_ok : ∀ k, k < 19 → parseFieldDescriptor (TX1 k).2.2.1 = some (tyX1 k) := by decide +kernel
theorem in_X1 : ∀ w ∈ wsX10, w ∈ bigW := fun w h => big_in ((by decide +kernel : ∀ w ∈ wsX10, w ∈ lw_tbl) w h) ((by decide +kernel : ∀ w ∈ wsX10, goodWord w = true) w h)
def RL : String := "LogBookLaw"
abbrev vwCl : List vw_C := [(RX0, TX0, 7), (RX1, TX1, 19)]
abbrev cX0_init : ByteArray := prog_1_method_1_code
def yX0_init : MethodName := ⟨RX0, "<init>", "()V"⟩
def wsX0_init : List Cond := .code yX0_init cX0_init 1 none :: bigW
abbrev cX0_set : ByteArray := prog_1_method_2_code
def yX0_set : MethodName := ⟨RX0, "set", "(II)V"⟩
def wsX0_set : List Cond := .code yX0_set cX0_set 3 none :: bigW
abbrev cX0_fill : ByteArray := prog_1_method_3_code
def yX0_fill : MethodName := ⟨RX0, "fill", "(II)V"⟩
def wsX0_fill : List Cond := .code yX0_fill cX0_fill 3 none :: bigW
abbrev cX0_append : ByteArray := prog_1_method_4_code
def yX0_append : MethodName := ⟨RX0, "append", "(IIII)I"⟩
def wsX0_append : List Cond := .code yX0_append cX0_append 8 (some .int) :: bigW
abbrev cX0_force : ByteArray := prog_1_method_5_code
def yX0_force : MethodName := ⟨RX0, "force", "(I)I"⟩
def wsX0_force : List Cond := .code yX0_force cX0_force 2 (some .int) :: bigW
abbrev cX0_forceAll : ByteArray := prog_1_method_6_code
def yX0_forceAll : MethodName := ⟨RX0, "forceAll", "()I"⟩
def wsX0_forceAll : List Cond := .code yX0_forceAll cX0_forceAll 1 (some .int) :: bigW
abbrev cX0_giveBack : ByteArray := prog_1_method_7_code
def yX0_giveBack : MethodName := ⟨RX0, "giveBack", "(I)I"⟩
def wsX0_giveBack : List Cond := .code yX0_giveBack cX0_giveBack 3 (some .int) :: bigW
abbrev cX0_first : ByteArray := prog_1_method_8_code
def yX0_first : MethodName := ⟨RX0, "first", "()I"⟩
def wsX0_first : List Cond := .code yX0_first cX0_first 1 (some .int) :: bigW
abbrev cX0_last : ByteArray := prog_1_method_9_code
def yX0_last : MethodName := ⟨RX0, "last", "()I"⟩
def wsX0_last : List Cond := .code yX0_last cX0_last 1 (some .int) :: bigW
abbrev cX0_lastForced : ByteArray := prog_1_method_10_code
def yX0_lastForced : MethodName := ⟨RX0, "lastForced", "()I"⟩
def wsX0_lastForced : List Cond := .code yX0_lastForced cX0_lastForced 1 (some .int) :: bigW
abbrev cX0_next : ByteArray := prog_1_method_11_code
def yX0_next : MethodName := ⟨RX0, "next", "(I)I"⟩
def wsX0_next : List Cond := .code yX0_next cX0_next 2 (some .int) :: bigW
abbrev cX0_before : ByteArray := prog_1_method_12_code
def yX0_before : MethodName := ⟨RX0, "before", "(I)I"⟩
def wsX0_before : List Cond := .code yX0_before cX0_before 2 (some .int) :: bigW
abbrev cX0_lastOf : ByteArray := prog_1_method_13_code
def yX0_lastOf : MethodName := ⟨RX0, "lastOf", "(I)I"⟩
def wsX0_lastOf : List Cond := .code yX0_lastOf cX0_lastOf 2 (some .int) :: bigW
abbrev cX0_of : ByteArray := prog_1_method_14_code
def yX0_of : MethodName := ⟨RX0, "of", "(II)I"⟩
def wsX0_of : List Cond := .code yX0_of cX0_of 3 (some .int) :: bigW
abbrev cX0_word : ByteArray := prog_1_method_15_code
def yX0_word : MethodName := ⟨RX0, "word", "(II)I"⟩
def wsX0_word : List Cond := .code yX0_word cX0_word 3 (some .int) :: bigW
abbrev cX0_back : ByteArray := prog_1_method_16_code
def yX0_back : MethodName := ⟨RX0, "back", "(III)I"⟩
def wsX0_back : List Cond := .code yX0_back cX0_back 4 (some .int) :: bigW
abbrev cX0_count : ByteArray := prog_1_method_17_code
def yX0_count : MethodName := ⟨RX0, "count", "()I"⟩
def wsX0_count : List Cond := .code yX0_count cX0_count 4 (some .int) :: bigW
abbrev cX0_log : ByteArray := prog_1_method_18_code
def yX0_log : MethodName := ⟨RX0, "log", "(I)I"⟩
def wsX0_log : List Cond := .code yX0_log cX0_log 2 (some .int) :: bigW
abbrev cX0_cutAfter : ByteArray := prog_1_method_19_code
def yX0_cutAfter : MethodName := ⟨RX0, "cutAfter", "(I)V"⟩
def wsX0_cutAfter : List Cond := .code yX0_cutAfter cX0_cutAfter 2 none :: bigW
abbrev cX0_cut : ByteArray := prog_1_method_20_code
def yX0_cut : MethodName := ⟨RX0, "cut", "()Z"⟩
def wsX0_cut : List Cond := .code yX0_cut cX0_cut 1 (some .boolean) :: bigW
abbrev cX0_open : ByteArray := prog_1_method_21_code
def yX0_open : MethodName := ⟨RX0, "open", "()I"⟩
def wsX0_open : List Cond := .code yX0_open cX0_open 2 (some .int) :: bigW
abbrev cX0_isOpen : ByteArray := prog_1_method_22_code
def yX0_isOpen : MethodName := ⟨RX0, "isOpen", "()Z"⟩
def wsX0_isOpen : List Cond := .code yX0_isOpen cX0_isOpen 1 (some .boolean) :: bigW
abbrev cX0_requireOpen : ByteArray := prog_1_method_23_code
def yX0_requireOpen : MethodName := ⟨RX0, "requireOpen", "()V"⟩
def wsX0_requireOpen : List Cond := .code yX0_requireOpen cX0_requireOpen 1 none :: bigW
abbrev cX0_requireOwner : ByteArray := prog_1_method_24_code
def yX0_requireOwner : MethodName := ⟨RX0, "requireOwner", "(I)V"⟩
def wsX0_requireOwner : List Cond := .code yX0_requireOwner cX0_requireOwner 2 none :: bigW
abbrev cX0_requireRecord : ByteArray := prog_1_method_25_code
def yX0_requireRecord : MethodName := ⟨RX0, "requireRecord", "(I)V"⟩
def wsX0_requireRecord : List Cond := .code yX0_requireRecord cX0_requireRecord 2 none :: bigW
abbrev cX0_fillBuffer : ByteArray := prog_1_method_26_code
def yX0_fillBuffer : MethodName := ⟨RX0, "fillBuffer", "(II)V"⟩
def wsX0_fillBuffer : List Cond := .code yX0_fillBuffer cX0_fillBuffer 4 none :: bigW
abbrev cX0_wordAt : ByteArray := prog_1_method_27_code
def yX0_wordAt : MethodName := ⟨RX0, "wordAt", "(I)I"⟩
def wsX0_wordAt : List Cond := .code yX0_wordAt cX0_wordAt 2 (some .int) :: bigW
abbrev cX0_addWord : ByteArray := prog_1_method_28_code
def yX0_addWord : MethodName := ⟨RX0, "addWord", "(I)V"⟩
def wsX0_addWord : List Cond := .code yX0_addWord cX0_addWord 2 none :: bigW
abbrev cX0_addContent : ByteArray := prog_1_method_29_code
def yX0_addContent : MethodName := ⟨RX0, "addContent", "(I)V"⟩
def wsX0_addContent : List Cond := .code yX0_addContent cX0_addContent 3 none :: bigW
abbrev cX0_kindAt : ByteArray := prog_1_method_30_code
def yX0_kindAt : MethodName := ⟨RX0, "kindAt", "(I)I"⟩
def wsX0_kindAt : List Cond := .code yX0_kindAt cX0_kindAt 2 (some .int) :: bigW
abbrev cX0_ownerAt : ByteArray := prog_1_method_31_code
def yX0_ownerAt : MethodName := ⟨RX0, "ownerAt", "(I)I"⟩
def wsX0_ownerAt : List Cond := .code yX0_ownerAt cX0_ownerAt 2 (some .int) :: bigW
abbrev cX0_contentWords : ByteArray := prog_1_method_32_code
def yX0_contentWords : MethodName := ⟨RX0, "contentWords", "(I)I"⟩
def wsX0_contentWords : List Cond := .code yX0_contentWords cX0_contentWords 2 (some .int) :: bigW
abbrev cX0_behind : ByteArray := prog_1_method_33_code
def yX0_behind : MethodName := ⟨RX0, "behind", "(I)I"⟩
def wsX0_behind : List Cond := .code yX0_behind cX0_behind 2 (some .int) :: bigW
abbrev cX0_isVoid : ByteArray := prog_1_method_34_code
def yX0_isVoid : MethodName := ⟨RX0, "isVoid", "(I)Z"⟩
def wsX0_isVoid : List Cond := .code yX0_isVoid cX0_isVoid 2 (some .boolean) :: bigW
abbrev cX0_isRecord : ByteArray := prog_1_method_35_code
def yX0_isRecord : MethodName := ⟨RX0, "isRecord", "(I)Z"⟩
def wsX0_isRecord : List Cond := .code yX0_isRecord cX0_isRecord 4 (some .boolean) :: bigW
abbrev cX0_firstRecordFrom : ByteArray := prog_1_method_36_code
def yX0_firstRecordFrom : MethodName := ⟨RX0, "firstRecordFrom", "(I)I"⟩
def wsX0_firstRecordFrom : List Cond := .code yX0_firstRecordFrom cX0_firstRecordFrom 4 (some .int) :: bigW
abbrev cX0_lastRecordBefore : ByteArray := prog_1_method_37_code
def yX0_lastRecordBefore : MethodName := ⟨RX0, "lastRecordBefore", "(I)I"⟩
def wsX0_lastRecordBefore : List Cond := .code yX0_lastRecordBefore cX0_lastRecordBefore 5 (some .int) :: bigW
abbrev cX0_lastRecordOf : ByteArray := prog_1_method_38_code
def yX0_lastRecordOf : MethodName := ⟨RX0, "lastRecordOf", "(I)I"⟩
def wsX0_lastRecordOf : List Cond := .code yX0_lastRecordOf cX0_lastRecordOf 4 (some .int) :: bigW
abbrev cX0_kthOnTheWay : ByteArray := prog_1_method_39_code
def yX0_kthOnTheWay : MethodName := ⟨RX0, "kthOnTheWay", "(III)I"⟩
def wsX0_kthOnTheWay : List Cond := .code yX0_kthOnTheWay cX0_kthOnTheWay 8 (some .int) :: bigW
abbrev cX0_isAskedFor : ByteArray := prog_1_method_40_code
def yX0_isAskedFor : MethodName := ⟨RX0, "isAskedFor", "(III)Z"⟩
def wsX0_isAskedFor : List Cond := .code yX0_isAskedFor cX0_isAskedFor 4 (some .boolean) :: bigW
abbrev cX0_stopBehind : ByteArray := prog_1_method_41_code
def yX0_stopBehind : MethodName := ⟨RX0, "stopBehind", "(I)I"⟩
def wsX0_stopBehind : List Cond := .code yX0_stopBehind cX0_stopBehind 3 (some .int) :: bigW
abbrev cX0_writeUpTo : ByteArray := prog_1_method_42_code
def yX0_writeUpTo : MethodName := ⟨RX0, "writeUpTo", "(I)I"⟩
def wsX0_writeUpTo : List Cond := .code yX0_writeUpTo cX0_writeUpTo 4 (some .int) :: bigW
abbrev cX0_losePower : ByteArray := prog_1_method_43_code
def yX0_losePower : MethodName := ⟨RX0, "losePower", "()V"⟩
def wsX0_losePower : List Cond := .code yX0_losePower cX0_losePower 1 none :: bigW
abbrev cX0_addVoidRest : ByteArray := prog_1_method_44_code
def yX0_addVoidRest : MethodName := ⟨RX0, "addVoidRest", "()V"⟩
def wsX0_addVoidRest : List Cond := .code yX0_addVoidRest cX0_addVoidRest 5 none :: bigW
abbrev cX1_init : ByteArray := prog_3_method_1_code
def yX1_init : MethodName := ⟨RX1, "<init>", "()V"⟩
def wsX1_init : List Cond := .code yX1_init cX1_init 1 none :: bigW
abbrev cX1_thrown : ByteArray := prog_3_method_2_code
def yX1_thrown : MethodName := ⟨RX1, "thrown", "()I"⟩
def wsX1_thrown : List Cond := .code yX1_thrown cX1_thrown 1 (some .int) :: bigW
abbrev cX1_refused : ByteArray := prog_3_method_3_code
def yX1_refused : MethodName := ⟨RX1, "refused", "(ZZZ)Z"⟩
def wsX1_refused : List Cond := .code yX1_refused cX1_refused 4 (some .boolean) :: bigW
abbrev cX1_in : ByteArray := prog_3_method_4_code
def yX1_in : MethodName := ⟨RX1, "in", "(III)Z"⟩
def wsX1_in : List Cond := .code yX1_in cX1_in 3 (some .boolean) :: bigW
abbrev cX1_rowOf : ByteArray := prog_3_method_5_code
def yX1_rowOf : MethodName := ⟨RX1, "rowOf", "(I)I"⟩
def wsX1_rowOf : List Cond := .code yX1_rowOf cX1_rowOf 4 (some .int) :: bigW
abbrev cX1_endOf : ByteArray := prog_3_method_6_code
def yX1_endOf : MethodName := ⟨RX1, "endOf", "(I)I"⟩
def wsX1_endOf : List Cond := .code yX1_endOf cX1_endOf 2 (some .int) :: bigW
abbrev cX1_fail : ByteArray := prog_3_method_7_code
def yX1_fail : MethodName := ⟨RX1, "fail", "()V"⟩
def wsX1_fail : List Cond := .code yX1_fail cX1_fail 2 none :: bigW
abbrev cX1_canWrite : ByteArray := prog_3_method_8_code
def yX1_canWrite : MethodName := ⟨RX1, "canWrite", "()Z"⟩
def wsX1_canWrite : List Cond := .code yX1_canWrite cX1_canWrite 1 (some .boolean) :: bigW
abbrev cX1_cutAfter : ByteArray := prog_3_method_9_code
def yX1_cutAfter : MethodName := ⟨RX1, "cutAfter", "(I)V"⟩
def wsX1_cutAfter : List Cond := .code yX1_cutAfter cX1_cutAfter 2 none :: bigW
abbrev cX1_cut : ByteArray := prog_3_method_10_code
def yX1_cut : MethodName := ⟨RX1, "cut", "()Z"⟩
def wsX1_cut : List Cond := .code yX1_cut cX1_cut 1 (some .boolean) :: bigW
abbrev cX1_isOpen : ByteArray := prog_3_method_11_code
def yX1_isOpen : MethodName := ⟨RX1, "isOpen", "()Z"⟩
def wsX1_isOpen : List Cond := .code yX1_isOpen cX1_isOpen 1 (some .boolean) :: bigW
abbrev cX1_addRow : ByteArray := prog_3_method_12_code
def yX1_addRow : MethodName := ⟨RX1, "addRow", "(IIZ)V"⟩
def wsX1_addRow : List Cond := .code yX1_addRow cX1_addRow 4 none :: bigW
abbrev cX1_open : ByteArray := prog_3_method_13_code
def yX1_open : MethodName := ⟨RX1, "open", "()I"⟩
def wsX1_open : List Cond := .code yX1_open cX1_open 2 (some .int) :: bigW
abbrev cX1_set : ByteArray := prog_3_method_14_code
def yX1_set : MethodName := ⟨RX1, "set", "(II)V"⟩
def wsX1_set : List Cond := .code yX1_set cX1_set 3 none :: bigW
abbrev cX1_fill : ByteArray := prog_3_method_15_code
def yX1_fill : MethodName := ⟨RX1, "fill", "(II)V"⟩
def wsX1_fill : List Cond := .code yX1_fill cX1_fill 4 none :: bigW
abbrev cX1_latestOf : ByteArray := prog_3_method_16_code
def yX1_latestOf : MethodName := ⟨RX1, "latestOf", "(I)I"⟩
def wsX1_latestOf : List Cond := .code yX1_latestOf cX1_latestOf 4 (some .int) :: bigW
abbrev cX1_append : ByteArray := prog_3_method_17_code
def yX1_append : MethodName := ⟨RX1, "append", "(IIII)I"⟩
def wsX1_append : List Cond := .code yX1_append cX1_append 7 (some .int) :: bigW
abbrev cX1_forceTo : ByteArray := prog_3_method_18_code
def yX1_forceTo : MethodName := ⟨RX1, "forceTo", "(I)I"⟩
def wsX1_forceTo : List Cond := .code yX1_forceTo cX1_forceTo 3 (some .int) :: bigW
abbrev cX1_force : ByteArray := prog_3_method_19_code
def yX1_force : MethodName := ⟨RX1, "force", "(I)I"⟩
def wsX1_force : List Cond := .code yX1_force cX1_force 3 (some .int) :: bigW
abbrev cX1_forceAll : ByteArray := prog_3_method_20_code
def yX1_forceAll : MethodName := ⟨RX1, "forceAll", "()I"⟩
def wsX1_forceAll : List Cond := .code yX1_forceAll cX1_forceAll 1 (some .int) :: bigW
abbrev cX1_giveBack : ByteArray := prog_3_method_21_code
def yX1_giveBack : MethodName := ⟨RX1, "giveBack", "(I)I"⟩
def wsX1_giveBack : List Cond := .code yX1_giveBack cX1_giveBack 4 (some .int) :: bigW
abbrev cX1_seek : ByteArray := prog_3_method_22_code
def yX1_seek : MethodName := ⟨RX1, "seek", "(III)I"⟩
def wsX1_seek : List Cond := .code yX1_seek cX1_seek 5 (some .int) :: bigW
abbrev cX1_first : ByteArray := prog_3_method_23_code
def yX1_first : MethodName := ⟨RX1, "first", "()I"⟩
def wsX1_first : List Cond := .code yX1_first cX1_first 1 (some .int) :: bigW
abbrev cX1_last : ByteArray := prog_3_method_24_code
def yX1_last : MethodName := ⟨RX1, "last", "()I"⟩
def wsX1_last : List Cond := .code yX1_last cX1_last 1 (some .int) :: bigW
abbrev cX1_lastForced : ByteArray := prog_3_method_25_code
def yX1_lastForced : MethodName := ⟨RX1, "lastForced", "()I"⟩
def wsX1_lastForced : List Cond := .code yX1_lastForced cX1_lastForced 1 (some .int) :: bigW
abbrev cX1_next : ByteArray := prog_3_method_26_code
def yX1_next : MethodName := ⟨RX1, "next", "(I)I"⟩
def wsX1_next : List Cond := .code yX1_next cX1_next 3 (some .int) :: bigW
abbrev cX1_before : ByteArray := prog_3_method_27_code
def yX1_before : MethodName := ⟨RX1, "before", "(I)I"⟩
def wsX1_before : List Cond := .code yX1_before cX1_before 3 (some .int) :: bigW
abbrev cX1_lastOf : ByteArray := prog_3_method_28_code
def yX1_lastOf : MethodName := ⟨RX1, "lastOf", "(I)I"⟩
def wsX1_lastOf : List Cond := .code yX1_lastOf cX1_lastOf 2 (some .int) :: bigW
abbrev cX1_of : ByteArray := prog_3_method_29_code
def yX1_of : MethodName := ⟨RX1, "of", "(II)I"⟩
def wsX1_of : List Cond := .code yX1_of cX1_of 4 (some .int) :: bigW
abbrev cX1_word : ByteArray := prog_3_method_30_code
def yX1_word : MethodName := ⟨RX1, "word", "(II)I"⟩
def wsX1_word : List Cond := .code yX1_word cX1_word 4 (some .int) :: bigW
abbrev cX1_back : ByteArray := prog_3_method_31_code
def yX1_back : MethodName := ⟨RX1, "back", "(III)I"⟩
def wsX1_back : List Cond := .code yX1_back cX1_back 7 (some .int) :: bigW
abbrev cX1_count : ByteArray := prog_3_method_32_code
def yX1_count : MethodName := ⟨RX1, "count", "()I"⟩
def wsX1_count : List Cond := .code yX1_count cX1_count 3 (some .int) :: bigW
abbrev cX1_log : ByteArray := prog_3_method_33_code
def yX1_log : MethodName := ⟨RX1, "log", "(I)I"⟩
def wsX1_log : List Cond := .code yX1_log cX1_log 2 (some .int) :: bigW
abbrev cL_set : ByteArray := method_3_code
def yL_set : MethodName := ⟨RL, "set", "(LLogBook;II)I"⟩
def wsL_set : List Cond := .codeWith yL_set cL_set 4 (some .int) [(0, 6, 9, 13), (0, 6, 12, 15)] :: bigW
abbrev cL_fill : ByteArray := method_4_code
def yL_fill : MethodName := ⟨RL, "fill", "(LLogBook;II)I"⟩
def wsL_fill : List Cond := .codeWith yL_fill cL_fill 4 (some .int) [(0, 6, 9, 13)] :: bigW
abbrev cL_append : ByteArray := method_5_code
def yL_append : MethodName := ⟨RL, "append", "(LLogBook;IIII[J)I"⟩
def wsL_append : List Cond := .codeWith yL_append cL_append 7 (some .int) [(0, 14, 17, 13), (0, 14, 21, 24)] :: bigW
abbrev cL_force : ByteArray := method_6_code
def yL_force : MethodName := ⟨RL, "force", "(LLogBook;I[J)I"⟩
def wsL_force : List Cond := .codeWith yL_force cL_force 4 (some .int) [(0, 9, 12, 13), (0, 9, 15, 30)] :: bigW
abbrev cL_forceAll : ByteArray := method_7_code
def yL_forceAll : MethodName := ⟨RL, "forceAll", "(LLogBook;[J)I"⟩
def wsL_forceAll : List Cond := .codeWith yL_forceAll cL_forceAll 3 (some .int) [(0, 8, 11, 13)] :: bigW
abbrev cL_giveBack : ByteArray := method_8_code
def yL_giveBack : MethodName := ⟨RL, "giveBack", "(LLogBook;I[J)I"⟩
def wsL_giveBack : List Cond := .codeWith yL_giveBack cL_giveBack 4 (some .int) [(0, 9, 12, 13), (0, 9, 15, 30)] :: bigW
abbrev cL_first : ByteArray := method_9_code
def yL_first : MethodName := ⟨RL, "first", "(LLogBook;[J)I"⟩
def wsL_first : List Cond := .codeWith yL_first cL_first 3 (some .int) [(0, 8, 11, 13)] :: bigW
abbrev cL_last : ByteArray := method_10_code
def yL_last : MethodName := ⟨RL, "last", "(LLogBook;[J)I"⟩
def wsL_last : List Cond := .codeWith yL_last cL_last 3 (some .int) [(0, 8, 11, 13)] :: bigW
abbrev cL_lastForced : ByteArray := method_11_code
def yL_lastForced : MethodName := ⟨RL, "lastForced", "(LLogBook;[J)I"⟩
def wsL_lastForced : List Cond := .codeWith yL_lastForced cL_lastForced 3 (some .int) [(0, 8, 11, 13)] :: bigW
abbrev cL_next : ByteArray := method_12_code
def yL_next : MethodName := ⟨RL, "next", "(LLogBook;I[J)I"⟩
def wsL_next : List Cond := .codeWith yL_next cL_next 4 (some .int) [(0, 9, 12, 13), (0, 9, 15, 30)] :: bigW
abbrev cL_before : ByteArray := method_13_code
def yL_before : MethodName := ⟨RL, "before", "(LLogBook;I[J)I"⟩
def wsL_before : List Cond := .codeWith yL_before cL_before 4 (some .int) [(0, 9, 12, 13), (0, 9, 15, 30)] :: bigW
abbrev cL_lastOf : ByteArray := method_14_code
def yL_lastOf : MethodName := ⟨RL, "lastOf", "(LLogBook;I[J)I"⟩
def wsL_lastOf : List Cond := .codeWith yL_lastOf cL_lastOf 4 (some .int) [(0, 9, 12, 13), (0, 9, 15, 24)] :: bigW
abbrev cL_of : ByteArray := method_15_code
def yL_of : MethodName := ⟨RL, "of", "(LLogBook;II[J)I"⟩
def wsL_of : List Cond := .codeWith yL_of cL_of 5 (some .int) [(0, 10, 13, 13), (0, 10, 17, 30), (0, 10, 21, 15)] :: bigW
abbrev cL_word : ByteArray := method_16_code
def yL_word : MethodName := ⟨RL, "word", "(LLogBook;II[J)I"⟩
def wsL_word : List Cond := .codeWith yL_word cL_word 5 (some .int) [(0, 10, 13, 13), (0, 10, 17, 30), (0, 10, 21, 15)] :: bigW
abbrev cL_back : ByteArray := method_17_code
def yL_back : MethodName := ⟨RL, "back", "(LLogBook;III[J)I"⟩
def wsL_back : List Cond := .codeWith yL_back cL_back 6 (some .int) [(0, 12, 15, 13), (0, 12, 19, 24)] :: bigW
abbrev cL_count : ByteArray := method_18_code
def yL_count : MethodName := ⟨RL, "count", "(LLogBook;[J)I"⟩
def wsL_count : List Cond := .codeWith yL_count cL_count 3 (some .int) [(0, 8, 11, 13)] :: bigW
abbrev cL_log : ByteArray := method_19_code
def yL_log : MethodName := ⟨RL, "log", "(LLogBook;I[J)I"⟩
def wsL_log : List Cond := .codeWith yL_log cL_log 4 (some .int) [(0, 9, 12, 15)] :: bigW
abbrev cL_cutAfter : ByteArray := method_20_code
def yL_cutAfter : MethodName := ⟨RL, "cutAfter", "(LLogBook;I)I"⟩
def wsL_cutAfter : List Cond := .codeWith yL_cutAfter cL_cutAfter 3 (some .int) [(0, 5, 8, 24)] :: bigW
abbrev cL_open : ByteArray := method_21_code
def yL_open : MethodName := ⟨RL, "open", "(LLogBook;[J)I"⟩
def wsL_open : List Cond := .codeWith yL_open cL_open 3 (some .int) [(0, 8, 11, 13)] :: bigW
abbrev cL_law : ByteArray := code
def yL_law : MethodName := ⟨RL, "law", "([I)Z"⟩
end
section
theorem dX0_init_0 : decode cX0_init 0 = .ok (.aload_n 0, 1) := by decide +kernel
theorem dX0_init_1 : decode cX0_init 1 = .ok (.invokespecial 3, 3) := by decide +kernel
theorem dX0_init_4 : decode cX0_init 4 = .ok (.aload_n 0, 1) := by decide +kernel
theorem dX0_init_5 : decode cX0_init 5 = .ok (.ldc 9, 2) := by decide +kernel
theorem dX0_init_7 : decode cX0_init 7 = .ok (.newarray .int, 2) := by decide +kernel
theorem dX0_init_9 : decode cX0_init 9 = .ok (.putfield 10, 3) := by decide +kernel
theorem dX0_init_12 : decode cX0_init 12 = .ok (.aload_n 0, 1) := by decide +kernel
theorem dX0_init_13 : decode cX0_init 13 = .ok (.sipush 200, 3) := by decide +kernel
theorem dX0_init_16 : decode cX0_init 16 = .ok (.newarray .int, 2) := by decide +kernel
theorem dX0_init_18 : decode cX0_init 18 = .ok (.putfield 14, 3) := by decide +kernel
theorem dX0_init_21 : decode cX0_init 21 = .ok (.aload_n 0, 1) := by decide +kernel
theorem dX0_init_22 : decode cX0_init 22 = .ok (.iconst 0, 1) := by decide +kernel
theorem dX0_init_23 : decode cX0_init 23 = .ok (.putfield 17, 3) := by decide +kernel
theorem dX0_init_26 : decode cX0_init 26 = .ok (.aload_n 0, 1) := by decide +kernel
theorem dX0_init_27 : decode cX0_init 27 = .ok (.iconst 0, 1) := by decide +kernel
theorem dX0_init_28 : decode cX0_init 28 = .ok (.putfield 21, 3) := by decide +kernel
theorem dX0_init_31 : decode cX0_init 31 = .ok (.aload_n 0, 1) := by decide +kernel
theorem dX0_init_32 : decode cX0_init 32 = .ok (.iconst 0, 1) := by decide +kernel
theorem dX0_init_33 : decode cX0_init 33 = .ok (.putfield 24, 3) := by decide +kernel
theorem dX0_init_36 : decode cX0_init 36 = .ok (.aload_n 0, 1) := by decide +kernel
theorem dX0_init_37 : decode cX0_init 37 = .ok (.iconst (-1), 1) := by decide +kernel
theorem dX0_init_38 : decode cX0_init 38 = .ok (.putfield 27, 3) := by decide +kernel
theorem dX0_init_41 : decode cX0_init 41 = .ok (.aload_n 0, 1) := by decide +kernel
theorem dX0_init_42 : decode cX0_init 42 = .ok (.iconst 1, 1) := by decide +kernel
theorem dX0_init_43 : decode cX0_init 43 = .ok (.putfield 30, 3) := by decide +kernel
theorem dX0_init_46 : decode cX0_init 46 = .ok (.return_, 1) := by decide +kernel
theorem dX0_append_0 : decode cX0_append 0 = .ok (.aload_n 0, 1) := by decide +kernel
theorem dX0_append_1 : decode cX0_append 1 = .ok (.invokevirtual 34, 3) := by decide +kernel
theorem dX0_append_4 : decode cX0_append 4 = .ok (.aload_n 0, 1) := by decide +kernel
theorem dX0_append_5 : decode cX0_append 5 = .ok (.iload_n 2, 1) := by decide +kernel
theorem dX0_append_6 : decode cX0_append 6 = .ok (.invokevirtual 48, 3) := by decide +kernel
theorem dX0_append_9 : decode cX0_append 9 = .ok (.iload_n 1, 1) := by decide +kernel
theorem dX0_append_10 : decode cX0_append 10 = .ok (.ifCond .lt 9, 3) := by decide +kernel
theorem dX0_append_13 : decode cX0_append 13 = .ok (.iload_n 1, 1) := by decide +kernel
theorem dX0_append_14 : decode cX0_append 14 = .ok (.bipush 16, 2) := by decide +kernel
theorem dX0_append_16 : decode cX0_append 16 = .ok (.if_icmp .lt 13, 3) := by decide +kernel
theorem dX0_append_19 : decode cX0_append 19 = .ok (.new 52, 3) := by decide +kernel
theorem dX0_append_22 : decode cX0_append 22 = .ok (.dup, 1) := by decide +kernel
theorem dX0_append_23 : decode cX0_append 23 = .ok (.ldc 54, 2) := by decide +kernel
theorem dX0_append_25 : decode cX0_append 25 = .ok (.invokespecial 56, 3) := by decide +kernel
theorem dX0_append_28 : decode cX0_append 28 = .ok (.athrow, 1) := by decide +kernel
theorem dX0_append_29 : decode cX0_append 29 = .ok (.iload 4, 2) := by decide +kernel
theorem dX0_append_31 : decode cX0_append 31 = .ok (.ifCond .lt 11, 3) := by decide +kernel
theorem dX0_append_34 : decode cX0_append 34 = .ok (.iload 4, 2) := by decide +kernel
theorem dX0_append_36 : decode cX0_append 36 = .ok (.sipush 200, 3) := by decide +kernel
theorem dX0_append_39 : decode cX0_append 39 = .ok (.if_icmp .le 13, 3) := by decide +kernel
theorem dX0_append_42 : decode cX0_append 42 = .ok (.new 52, 3) := by decide +kernel
theorem dX0_append_45 : decode cX0_append 45 = .ok (.dup, 1) := by decide +kernel
theorem dX0_append_46 : decode cX0_append 46 = .ok (.ldc 57, 2) := by decide +kernel
theorem dX0_append_48 : decode cX0_append 48 = .ok (.invokespecial 56, 3) := by decide +kernel
theorem dX0_append_51 : decode cX0_append 51 = .ok (.athrow, 1) := by decide +kernel
theorem dX0_append_52 : decode cX0_append 52 = .ok (.iload_n 3, 1) := by decide +kernel
theorem dX0_append_53 : decode cX0_append 53 = .ok (.iconst (-1), 1) := by decide +kernel
theorem dX0_append_54 : decode cX0_append 54 = .ok (.if_icmp .lt 11, 3) := by decide +kernel
theorem dX0_append_57 : decode cX0_append 57 = .ok (.iload_n 3, 1) := by decide +kernel
theorem dX0_append_58 : decode cX0_append 58 = .ok (.aload_n 0, 1) := by decide +kernel
theorem dX0_append_59 : decode cX0_append 59 = .ok (.getfield 24, 3) := by decide +kernel
theorem dX0_append_62 : decode cX0_append 62 = .ok (.if_icmp .lt 13, 3) := by decide +kernel
theorem dX0_append_65 : decode cX0_append 65 = .ok (.new 52, 3) := by decide +kernel
theorem dX0_append_68 : decode cX0_append 68 = .ok (.dup, 1) := by decide +kernel
theorem dX0_append_69 : decode cX0_append 69 = .ok (.ldc 59, 2) := by decide +kernel
theorem dX0_append_71 : decode cX0_append 71 = .ok (.invokespecial 56, 3) := by decide +kernel
theorem dX0_append_74 : decode cX0_append 74 = .ok (.athrow, 1) := by decide +kernel
theorem dX0_append_75 : decode cX0_append 75 = .ok (.iload 4, 2) := by decide +kernel
theorem dX0_append_77 : decode cX0_append 77 = .ok (.iconst 5, 1) := by decide +kernel
theorem dX0_append_78 : decode cX0_append 78 = .ok (.iadd, 1) := by decide +kernel
theorem dX0_append_79 : decode cX0_append 79 = .ok (.istore 5, 2) := by decide +kernel
theorem dX0_append_81 : decode cX0_append 81 = .ok (.iload 5, 2) := by decide +kernel
theorem dX0_append_83 : decode cX0_append 83 = .ok (.ldc 9, 2) := by decide +kernel
theorem dX0_append_85 : decode cX0_append 85 = .ok (.aload_n 0, 1) := by decide +kernel
theorem dX0_append_86 : decode cX0_append 86 = .ok (.getfield 24, 3) := by decide +kernel
theorem dX0_append_89 : decode cX0_append 89 = .ok (.aload_n 0, 1) := by decide +kernel
theorem dX0_append_90 : decode cX0_append 90 = .ok (.getfield 17, 3) := by decide +kernel
theorem dX0_append_93 : decode cX0_append 93 = .ok (.isub, 1) := by decide +kernel
theorem dX0_append_94 : decode cX0_append 94 = .ok (.isub, 1) := by decide +kernel
theorem dX0_append_95 : decode cX0_append 95 = .ok (.if_icmp .le 5, 3) := by decide +kernel
theorem dX0_append_98 : decode cX0_append 98 = .ok (.iconst (-1), 1) := by decide +kernel
theorem dX0_append_99 : decode cX0_append 99 = .ok (.ireturn, 1) := by decide +kernel
theorem dX0_append_100 : decode cX0_append 100 = .ok (.aload_n 0, 1) := by decide +kernel
theorem dX0_append_101 : decode cX0_append 101 = .ok (.getfield 24, 3) := by decide +kernel
theorem dX0_append_104 : decode cX0_append 104 = .ok (.istore 6, 2) := by decide +kernel
theorem dX0_append_106 : decode cX0_append 106 = .ok (.aload_n 0, 1) := by decide +kernel
theorem dX0_append_107 : decode cX0_append 107 = .ok (.iload_n 2, 1) := by decide +kernel
theorem dX0_append_108 : decode cX0_append 108 = .ok (.invokevirtual 61, 3) := by decide +kernel
theorem dX0_append_111 : decode cX0_append 111 = .ok (.istore 7, 2) := by decide +kernel
theorem dX0_append_113 : decode cX0_append 113 = .ok (.aload_n 0, 1) := by decide +kernel
theorem dX0_append_114 : decode cX0_append 114 = .ok (.iload 5, 2) := by decide +kernel
theorem dX0_append_116 : decode cX0_append 116 = .ok (.invokevirtual 65, 3) := by decide +kernel
theorem dX0_append_119 : decode cX0_append 119 = .ok (.aload_n 0, 1) := by decide +kernel
theorem dX0_append_120 : decode cX0_append 120 = .ok (.iload_n 1, 1) := by decide +kernel
theorem dX0_append_121 : decode cX0_append 121 = .ok (.bipush 16, 2) := by decide +kernel
theorem dX0_append_123 : decode cX0_append 123 = .ok (.iload_n 2, 1) := by decide +kernel
theorem dX0_append_124 : decode cX0_append 124 = .ok (.imul, 1) := by decide +kernel
theorem dX0_append_125 : decode cX0_append 125 = .ok (.iadd, 1) := by decide +kernel
theorem dX0_append_126 : decode cX0_append 126 = .ok (.invokevirtual 65, 3) := by decide +kernel
theorem dX0_append_129 : decode cX0_append 129 = .ok (.aload_n 0, 1) := by decide +kernel
theorem dX0_append_130 : decode cX0_append 130 = .ok (.iload 7, 2) := by decide +kernel
theorem dX0_append_132 : decode cX0_append 132 = .ok (.invokevirtual 65, 3) := by decide +kernel
theorem dX0_append_135 : decode cX0_append 135 = .ok (.aload_n 0, 1) := by decide +kernel
theorem dX0_append_136 : decode cX0_append 136 = .ok (.iload_n 3, 1) := by decide +kernel
theorem dX0_append_137 : decode cX0_append 137 = .ok (.invokevirtual 65, 3) := by decide +kernel
theorem dX0_append_140 : decode cX0_append 140 = .ok (.aload_n 0, 1) := by decide +kernel
theorem dX0_append_141 : decode cX0_append 141 = .ok (.iload 4, 2) := by decide +kernel
theorem dX0_append_143 : decode cX0_append 143 = .ok (.invokevirtual 68, 3) := by decide +kernel
theorem dX0_append_146 : decode cX0_append 146 = .ok (.aload_n 0, 1) := by decide +kernel
theorem dX0_append_147 : decode cX0_append 147 = .ok (.iload 5, 2) := by decide +kernel
theorem dX0_append_149 : decode cX0_append 149 = .ok (.invokevirtual 65, 3) := by decide +kernel
theorem dX0_append_152 : decode cX0_append 152 = .ok (.iload 6, 2) := by decide +kernel
theorem dX0_append_154 : decode cX0_append 154 = .ok (.ireturn, 1) := by decide +kernel
theorem dX0_back_0 : decode cX0_back 0 = .ok (.aload_n 0, 1) := by decide +kernel
theorem dX0_back_1 : decode cX0_back 1 = .ok (.invokevirtual 34, 3) := by decide +kernel
theorem dX0_back_4 : decode cX0_back 4 = .ok (.aload_n 0, 1) := by decide +kernel
theorem dX0_back_5 : decode cX0_back 5 = .ok (.iload_n 1, 1) := by decide +kernel
theorem dX0_back_6 : decode cX0_back 6 = .ok (.invokevirtual 48, 3) := by decide +kernel
theorem dX0_back_9 : decode cX0_back 9 = .ok (.iload_n 3, 1) := by decide +kernel
theorem dX0_back_10 : decode cX0_back 10 = .ok (.ifCond .ge 13, 3) := by decide +kernel
theorem dX0_back_13 : decode cX0_back 13 = .ok (.new 52, 3) := by decide +kernel
theorem dX0_back_16 : decode cX0_back 16 = .ok (.dup, 1) := by decide +kernel
theorem dX0_back_17 : decode cX0_back 17 = .ok (.ldc 107, 2) := by decide +kernel
theorem dX0_back_19 : decode cX0_back 19 = .ok (.invokespecial 56, 3) := by decide +kernel
theorem dX0_back_22 : decode cX0_back 22 = .ok (.athrow, 1) := by decide +kernel
theorem dX0_back_23 : decode cX0_back 23 = .ok (.aload_n 0, 1) := by decide +kernel
theorem dX0_back_24 : decode cX0_back 24 = .ok (.iload_n 1, 1) := by decide +kernel
theorem dX0_back_25 : decode cX0_back 25 = .ok (.iload_n 2, 1) := by decide +kernel
theorem dX0_back_26 : decode cX0_back 26 = .ok (.iload_n 3, 1) := by decide +kernel
theorem dX0_back_27 : decode cX0_back 27 = .ok (.invokevirtual 109, 3) := by decide +kernel
theorem dX0_back_30 : decode cX0_back 30 = .ok (.ireturn, 1) := by decide +kernel
theorem dX0_requireOpen_0 : decode cX0_requireOpen 0 = .ok (.aload_n 0, 1) := by decide +kernel
theorem dX0_requireOpen_1 : decode cX0_requireOpen 1 = .ok (.getfield 30, 3) := by decide +kernel
theorem dX0_requireOpen_4 : decode cX0_requireOpen 4 = .ok (.ifCond .ne 13, 3) := by decide +kernel
theorem dX0_requireOpen_7 : decode cX0_requireOpen 7 = .ok (.new 80, 3) := by decide +kernel
theorem dX0_requireOpen_10 : decode cX0_requireOpen 10 = .ok (.dup, 1) := by decide +kernel
theorem dX0_requireOpen_11 : decode cX0_requireOpen 11 = .ok (.ldc 125, 2) := by decide +kernel
theorem dX0_requireOpen_13 : decode cX0_requireOpen 13 = .ok (.invokespecial 84, 3) := by decide +kernel
theorem dX0_requireOpen_16 : decode cX0_requireOpen 16 = .ok (.athrow, 1) := by decide +kernel
theorem dX0_requireOpen_17 : decode cX0_requireOpen 17 = .ok (.return_, 1) := by decide +kernel
theorem dX0_requireOwner_0 : decode cX0_requireOwner 0 = .ok (.iload_n 1, 1) := by decide +kernel
theorem dX0_requireOwner_1 : decode cX0_requireOwner 1 = .ok (.ifCond .lt 9, 3) := by decide +kernel
theorem dX0_requireOwner_4 : decode cX0_requireOwner 4 = .ok (.iload_n 1, 1) := by decide +kernel
theorem dX0_requireOwner_5 : decode cX0_requireOwner 5 = .ok (.bipush 8, 2) := by decide +kernel
theorem dX0_requireOwner_7 : decode cX0_requireOwner 7 = .ok (.if_icmp .lt 13, 3) := by decide +kernel
theorem dX0_requireOwner_10 : decode cX0_requireOwner 10 = .ok (.new 52, 3) := by decide +kernel
theorem dX0_requireOwner_13 : decode cX0_requireOwner 13 = .ok (.dup, 1) := by decide +kernel
theorem dX0_requireOwner_14 : decode cX0_requireOwner 14 = .ok (.ldc 127, 2) := by decide +kernel
theorem dX0_requireOwner_16 : decode cX0_requireOwner 16 = .ok (.invokespecial 56, 3) := by decide +kernel
theorem dX0_requireOwner_19 : decode cX0_requireOwner 19 = .ok (.athrow, 1) := by decide +kernel
theorem dX0_requireOwner_20 : decode cX0_requireOwner 20 = .ok (.return_, 1) := by decide +kernel
theorem dX0_wordAt_0 : decode cX0_wordAt 0 = .ok (.aload_n 0, 1) := by decide +kernel
theorem dX0_wordAt_1 : decode cX0_wordAt 1 = .ok (.getfield 10, 3) := by decide +kernel
theorem dX0_wordAt_4 : decode cX0_wordAt 4 = .ok (.iload_n 1, 1) := by decide +kernel
theorem dX0_wordAt_5 : decode cX0_wordAt 5 = .ok (.ldc 138, 2) := by decide +kernel
theorem dX0_wordAt_7 : decode cX0_wordAt 7 = .ok (.iand, 1) := by decide +kernel
theorem dX0_wordAt_8 : decode cX0_wordAt 8 = .ok (.iaload, 1) := by decide +kernel
theorem dX0_wordAt_9 : decode cX0_wordAt 9 = .ok (.ireturn, 1) := by decide +kernel
theorem dX0_addWord_0 : decode cX0_addWord 0 = .ok (.aload_n 0, 1) := by decide +kernel
theorem dX0_addWord_1 : decode cX0_addWord 1 = .ok (.getfield 10, 3) := by decide +kernel
theorem dX0_addWord_4 : decode cX0_addWord 4 = .ok (.aload_n 0, 1) := by decide +kernel
theorem dX0_addWord_5 : decode cX0_addWord 5 = .ok (.getfield 24, 3) := by decide +kernel
theorem dX0_addWord_8 : decode cX0_addWord 8 = .ok (.ldc 138, 2) := by decide +kernel
theorem dX0_addWord_10 : decode cX0_addWord 10 = .ok (.iand, 1) := by decide +kernel
theorem dX0_addWord_11 : decode cX0_addWord 11 = .ok (.iload_n 1, 1) := by decide +kernel
theorem dX0_addWord_12 : decode cX0_addWord 12 = .ok (.iastore, 1) := by decide +kernel
theorem dX0_addWord_13 : decode cX0_addWord 13 = .ok (.aload_n 0, 1) := by decide +kernel
theorem dX0_addWord_14 : decode cX0_addWord 14 = .ok (.dup, 1) := by decide +kernel
theorem dX0_addWord_15 : decode cX0_addWord 15 = .ok (.getfield 24, 3) := by decide +kernel
theorem dX0_addWord_18 : decode cX0_addWord 18 = .ok (.iconst 1, 1) := by decide +kernel
theorem dX0_addWord_19 : decode cX0_addWord 19 = .ok (.iadd, 1) := by decide +kernel
theorem dX0_addWord_20 : decode cX0_addWord 20 = .ok (.putfield 24, 3) := by decide +kernel
theorem dX0_addWord_23 : decode cX0_addWord 23 = .ok (.return_, 1) := by decide +kernel
theorem dX0_addContent_0 : decode cX0_addContent 0 = .ok (.iconst 0, 1) := by decide +kernel
theorem dX0_addContent_1 : decode cX0_addContent 1 = .ok (.istore_n 2, 1) := by decide +kernel
theorem dX0_addContent_2 : decode cX0_addContent 2 = .ok (.iload_n 2, 1) := by decide +kernel
theorem dX0_addContent_3 : decode cX0_addContent 3 = .ok (.iload_n 1, 1) := by decide +kernel
theorem dX0_addContent_4 : decode cX0_addContent 4 = .ok (.if_icmp .ge 28, 3) := by decide +kernel
theorem dX0_addContent_7 : decode cX0_addContent 7 = .ok (.iload_n 2, 1) := by decide +kernel
theorem dX0_addContent_8 : decode cX0_addContent 8 = .ok (.aload_n 0, 1) := by decide +kernel
theorem dX0_addContent_9 : decode cX0_addContent 9 = .ok (.getfield 14, 3) := by decide +kernel
theorem dX0_addContent_12 : decode cX0_addContent 12 = .ok (.arraylength, 1) := by decide +kernel
theorem dX0_addContent_13 : decode cX0_addContent 13 = .ok (.if_icmp .ge 19, 3) := by decide +kernel
theorem dX0_addContent_16 : decode cX0_addContent 16 = .ok (.aload_n 0, 1) := by decide +kernel
theorem dX0_addContent_17 : decode cX0_addContent 17 = .ok (.aload_n 0, 1) := by decide +kernel
theorem dX0_addContent_18 : decode cX0_addContent 18 = .ok (.getfield 14, 3) := by decide +kernel
theorem dX0_addContent_21 : decode cX0_addContent 21 = .ok (.iload_n 2, 1) := by decide +kernel
theorem dX0_addContent_22 : decode cX0_addContent 22 = .ok (.iaload, 1) := by decide +kernel
theorem dX0_addContent_23 : decode cX0_addContent 23 = .ok (.invokevirtual 65, 3) := by decide +kernel
theorem dX0_addContent_26 : decode cX0_addContent 26 = .ok (.iinc 2 1, 3) := by decide +kernel
theorem dX0_addContent_29 : decode cX0_addContent 29 = .ok (.goto (-27), 3) := by decide +kernel
theorem dX0_addContent_32 : decode cX0_addContent 32 = .ok (.return_, 1) := by decide +kernel
theorem dX0_kindAt_0 : decode cX0_kindAt 0 = .ok (.aload_n 0, 1) := by decide +kernel
theorem dX0_kindAt_1 : decode cX0_kindAt 1 = .ok (.iload_n 1, 1) := by decide +kernel
theorem dX0_kindAt_2 : decode cX0_kindAt 2 = .ok (.iconst 1, 1) := by decide +kernel
theorem dX0_kindAt_3 : decode cX0_kindAt 3 = .ok (.iadd, 1) := by decide +kernel
theorem dX0_kindAt_4 : decode cX0_kindAt 4 = .ok (.invokevirtual 97, 3) := by decide +kernel
theorem dX0_kindAt_7 : decode cX0_kindAt 7 = .ok (.bipush 16, 2) := by decide +kernel
theorem dX0_kindAt_9 : decode cX0_kindAt 9 = .ok (.irem, 1) := by decide +kernel
theorem dX0_kindAt_10 : decode cX0_kindAt 10 = .ok (.ireturn, 1) := by decide +kernel
theorem dX0_ownerAt_0 : decode cX0_ownerAt 0 = .ok (.aload_n 0, 1) := by decide +kernel
theorem dX0_ownerAt_1 : decode cX0_ownerAt 1 = .ok (.iload_n 1, 1) := by decide +kernel
theorem dX0_ownerAt_2 : decode cX0_ownerAt 2 = .ok (.iconst 1, 1) := by decide +kernel
theorem dX0_ownerAt_3 : decode cX0_ownerAt 3 = .ok (.iadd, 1) := by decide +kernel
theorem dX0_ownerAt_4 : decode cX0_ownerAt 4 = .ok (.invokevirtual 97, 3) := by decide +kernel
theorem dX0_ownerAt_7 : decode cX0_ownerAt 7 = .ok (.bipush 16, 2) := by decide +kernel
theorem dX0_ownerAt_9 : decode cX0_ownerAt 9 = .ok (.idiv, 1) := by decide +kernel
theorem dX0_ownerAt_10 : decode cX0_ownerAt 10 = .ok (.ireturn, 1) := by decide +kernel
theorem dX0_lastRecordBefore_0 : decode cX0_lastRecordBefore 0 = .ok (.iload_n 1, 1) := by decide +kernel
theorem dX0_lastRecordBefore_1 : decode cX0_lastRecordBefore 1 = .ok (.istore_n 2, 1) := by decide +kernel
theorem dX0_lastRecordBefore_2 : decode cX0_lastRecordBefore 2 = .ok (.iconst 0, 1) := by decide +kernel
theorem dX0_lastRecordBefore_3 : decode cX0_lastRecordBefore 3 = .ok (.istore_n 3, 1) := by decide +kernel
theorem dX0_lastRecordBefore_4 : decode cX0_lastRecordBefore 4 = .ok (.iload_n 3, 1) := by decide +kernel
theorem dX0_lastRecordBefore_5 : decode cX0_lastRecordBefore 5 = .ok (.sipush 13107, 3) := by decide +kernel
theorem dX0_lastRecordBefore_8 : decode cX0_lastRecordBefore 8 = .ok (.if_icmp .ge 41, 3) := by decide +kernel
theorem dX0_lastRecordBefore_11 : decode cX0_lastRecordBefore 11 = .ok (.iload_n 2, 1) := by decide +kernel
theorem dX0_lastRecordBefore_12 : decode cX0_lastRecordBefore 12 = .ok (.aload_n 0, 1) := by decide +kernel
theorem dX0_lastRecordBefore_13 : decode cX0_lastRecordBefore 13 = .ok (.getfield 17, 3) := by decide +kernel
theorem dX0_lastRecordBefore_16 : decode cX0_lastRecordBefore 16 = .ok (.if_icmp .le 33, 3) := by decide +kernel
theorem dX0_lastRecordBefore_19 : decode cX0_lastRecordBefore 19 = .ok (.aload_n 0, 1) := by decide +kernel
theorem dX0_lastRecordBefore_20 : decode cX0_lastRecordBefore 20 = .ok (.iload_n 2, 1) := by decide +kernel
theorem dX0_lastRecordBefore_21 : decode cX0_lastRecordBefore 21 = .ok (.iconst 1, 1) := by decide +kernel
theorem dX0_lastRecordBefore_22 : decode cX0_lastRecordBefore 22 = .ok (.isub, 1) := by decide +kernel
theorem dX0_lastRecordBefore_23 : decode cX0_lastRecordBefore 23 = .ok (.invokevirtual 97, 3) := by decide +kernel
theorem dX0_lastRecordBefore_26 : decode cX0_lastRecordBefore 26 = .ok (.istore 4, 2) := by decide +kernel
theorem dX0_lastRecordBefore_28 : decode cX0_lastRecordBefore 28 = .ok (.iload_n 2, 1) := by decide +kernel
theorem dX0_lastRecordBefore_29 : decode cX0_lastRecordBefore 29 = .ok (.iload 4, 2) := by decide +kernel
theorem dX0_lastRecordBefore_31 : decode cX0_lastRecordBefore 31 = .ok (.invokestatic 142, 3) := by decide +kernel
theorem dX0_lastRecordBefore_34 : decode cX0_lastRecordBefore 34 = .ok (.isub, 1) := by decide +kernel
theorem dX0_lastRecordBefore_35 : decode cX0_lastRecordBefore 35 = .ok (.istore_n 2, 1) := by decide +kernel
theorem dX0_lastRecordBefore_36 : decode cX0_lastRecordBefore 36 = .ok (.iload 4, 2) := by decide +kernel
theorem dX0_lastRecordBefore_38 : decode cX0_lastRecordBefore 38 = .ok (.ifCond .le 5, 3) := by decide +kernel
theorem dX0_lastRecordBefore_41 : decode cX0_lastRecordBefore 41 = .ok (.iload_n 2, 1) := by decide +kernel
theorem dX0_lastRecordBefore_42 : decode cX0_lastRecordBefore 42 = .ok (.ireturn, 1) := by decide +kernel
theorem dX0_lastRecordBefore_43 : decode cX0_lastRecordBefore 43 = .ok (.iinc 3 1, 3) := by decide +kernel
theorem dX0_lastRecordBefore_46 : decode cX0_lastRecordBefore 46 = .ok (.goto (-42), 3) := by decide +kernel
theorem dX0_lastRecordBefore_49 : decode cX0_lastRecordBefore 49 = .ok (.iconst (-1), 1) := by decide +kernel
theorem dX0_lastRecordBefore_50 : decode cX0_lastRecordBefore 50 = .ok (.ireturn, 1) := by decide +kernel
theorem dX0_lastRecordOf_0 : decode cX0_lastRecordOf 0 = .ok (.aload_n 0, 1) := by decide +kernel
theorem dX0_lastRecordOf_1 : decode cX0_lastRecordOf 1 = .ok (.aload_n 0, 1) := by decide +kernel
theorem dX0_lastRecordOf_2 : decode cX0_lastRecordOf 2 = .ok (.getfield 24, 3) := by decide +kernel
theorem dX0_lastRecordOf_5 : decode cX0_lastRecordOf 5 = .ok (.invokevirtual 88, 3) := by decide +kernel
theorem dX0_lastRecordOf_8 : decode cX0_lastRecordOf 8 = .ok (.istore_n 2, 1) := by decide +kernel
theorem dX0_lastRecordOf_9 : decode cX0_lastRecordOf 9 = .ok (.iconst 0, 1) := by decide +kernel
theorem dX0_lastRecordOf_10 : decode cX0_lastRecordOf 10 = .ok (.istore_n 3, 1) := by decide +kernel
theorem dX0_lastRecordOf_11 : decode cX0_lastRecordOf 11 = .ok (.iload_n 3, 1) := by decide +kernel
theorem dX0_lastRecordOf_12 : decode cX0_lastRecordOf 12 = .ok (.sipush 13107, 3) := by decide +kernel
theorem dX0_lastRecordOf_15 : decode cX0_lastRecordOf 15 = .ok (.if_icmp .ge 31, 3) := by decide +kernel
theorem dX0_lastRecordOf_18 : decode cX0_lastRecordOf 18 = .ok (.iload_n 2, 1) := by decide +kernel
theorem dX0_lastRecordOf_19 : decode cX0_lastRecordOf 19 = .ok (.iconst (-1), 1) := by decide +kernel
theorem dX0_lastRecordOf_20 : decode cX0_lastRecordOf 20 = .ok (.if_icmp .eq 26, 3) := by decide +kernel
theorem dX0_lastRecordOf_23 : decode cX0_lastRecordOf 23 = .ok (.aload_n 0, 1) := by decide +kernel
theorem dX0_lastRecordOf_24 : decode cX0_lastRecordOf 24 = .ok (.iload_n 2, 1) := by decide +kernel
theorem dX0_lastRecordOf_25 : decode cX0_lastRecordOf 25 = .ok (.invokevirtual 94, 3) := by decide +kernel
theorem dX0_lastRecordOf_28 : decode cX0_lastRecordOf 28 = .ok (.iload_n 1, 1) := by decide +kernel
theorem dX0_lastRecordOf_29 : decode cX0_lastRecordOf 29 = .ok (.if_icmp .ne 5, 3) := by decide +kernel
theorem dX0_lastRecordOf_32 : decode cX0_lastRecordOf 32 = .ok (.iload_n 2, 1) := by decide +kernel
theorem dX0_lastRecordOf_33 : decode cX0_lastRecordOf 33 = .ok (.ireturn, 1) := by decide +kernel
theorem dX0_lastRecordOf_34 : decode cX0_lastRecordOf 34 = .ok (.aload_n 0, 1) := by decide +kernel
theorem dX0_lastRecordOf_35 : decode cX0_lastRecordOf 35 = .ok (.iload_n 2, 1) := by decide +kernel
theorem dX0_lastRecordOf_36 : decode cX0_lastRecordOf 36 = .ok (.invokevirtual 88, 3) := by decide +kernel
theorem dX0_lastRecordOf_39 : decode cX0_lastRecordOf 39 = .ok (.istore_n 2, 1) := by decide +kernel
theorem dX0_lastRecordOf_40 : decode cX0_lastRecordOf 40 = .ok (.iinc 3 1, 3) := by decide +kernel
theorem dX0_lastRecordOf_43 : decode cX0_lastRecordOf 43 = .ok (.goto (-32), 3) := by decide +kernel
theorem dX0_lastRecordOf_46 : decode cX0_lastRecordOf 46 = .ok (.iconst (-1), 1) := by decide +kernel
theorem dX0_lastRecordOf_47 : decode cX0_lastRecordOf 47 = .ok (.ireturn, 1) := by decide +kernel
theorem dX0_kthOnTheWay_0 : decode cX0_kthOnTheWay 0 = .ok (.aload_n 0, 1) := by decide +kernel
theorem dX0_kthOnTheWay_1 : decode cX0_kthOnTheWay 1 = .ok (.iload_n 1, 1) := by decide +kernel
theorem dX0_kthOnTheWay_2 : decode cX0_kthOnTheWay 2 = .ok (.invokevirtual 61, 3) := by decide +kernel
theorem dX0_kthOnTheWay_5 : decode cX0_kthOnTheWay 5 = .ok (.istore 4, 2) := by decide +kernel
theorem dX0_kthOnTheWay_7 : decode cX0_kthOnTheWay 7 = .ok (.iload 4, 2) := by decide +kernel
theorem dX0_kthOnTheWay_9 : decode cX0_kthOnTheWay 9 = .ok (.istore 5, 2) := by decide +kernel
theorem dX0_kthOnTheWay_11 : decode cX0_kthOnTheWay 11 = .ok (.iload_n 3, 1) := by decide +kernel
theorem dX0_kthOnTheWay_12 : decode cX0_kthOnTheWay 12 = .ok (.istore 6, 2) := by decide +kernel
theorem dX0_kthOnTheWay_14 : decode cX0_kthOnTheWay 14 = .ok (.iconst 0, 1) := by decide +kernel
theorem dX0_kthOnTheWay_15 : decode cX0_kthOnTheWay 15 = .ok (.istore 7, 2) := by decide +kernel
theorem dX0_kthOnTheWay_17 : decode cX0_kthOnTheWay 17 = .ok (.iload 7, 2) := by decide +kernel
theorem dX0_kthOnTheWay_19 : decode cX0_kthOnTheWay 19 = .ok (.sipush 13107, 3) := by decide +kernel
theorem dX0_kthOnTheWay_22 : decode cX0_kthOnTheWay 22 = .ok (.if_icmp .ge 77, 3) := by decide +kernel
theorem dX0_kthOnTheWay_25 : decode cX0_kthOnTheWay 25 = .ok (.iload 5, 2) := by decide +kernel
theorem dX0_kthOnTheWay_27 : decode cX0_kthOnTheWay 27 = .ok (.iconst (-1), 1) := by decide +kernel
theorem dX0_kthOnTheWay_28 : decode cX0_kthOnTheWay 28 = .ok (.if_icmp .eq 71, 3) := by decide +kernel
theorem dX0_kthOnTheWay_31 : decode cX0_kthOnTheWay 31 = .ok (.iload 5, 2) := by decide +kernel
theorem dX0_kthOnTheWay_33 : decode cX0_kthOnTheWay 33 = .ok (.iload 4, 2) := by decide +kernel
theorem dX0_kthOnTheWay_35 : decode cX0_kthOnTheWay 35 = .ok (.if_icmp .lt 64, 3) := by decide +kernel
theorem dX0_kthOnTheWay_38 : decode cX0_kthOnTheWay 38 = .ok (.iload 5, 2) := by decide +kernel
theorem dX0_kthOnTheWay_40 : decode cX0_kthOnTheWay 40 = .ok (.iload 4, 2) := by decide +kernel
theorem dX0_kthOnTheWay_42 : decode cX0_kthOnTheWay 42 = .ok (.if_icmp .ne 33, 3) := by decide +kernel
theorem dX0_kthOnTheWay_45 : decode cX0_kthOnTheWay 45 = .ok (.aload_n 0, 1) := by decide +kernel
theorem dX0_kthOnTheWay_46 : decode cX0_kthOnTheWay 46 = .ok (.iload 5, 2) := by decide +kernel
theorem dX0_kthOnTheWay_48 : decode cX0_kthOnTheWay 48 = .ok (.iload_n 1, 1) := by decide +kernel
theorem dX0_kthOnTheWay_49 : decode cX0_kthOnTheWay 49 = .ok (.iload_n 2, 1) := by decide +kernel
theorem dX0_kthOnTheWay_50 : decode cX0_kthOnTheWay 50 = .ok (.invokevirtual 147, 3) := by decide +kernel
theorem dX0_kthOnTheWay_53 : decode cX0_kthOnTheWay 53 = .ok (.ifCond .eq 14, 3) := by decide +kernel
theorem dX0_kthOnTheWay_56 : decode cX0_kthOnTheWay 56 = .ok (.iload 6, 2) := by decide +kernel
theorem dX0_kthOnTheWay_58 : decode cX0_kthOnTheWay 58 = .ok (.ifCond .ne 6, 3) := by decide +kernel
theorem dX0_kthOnTheWay_61 : decode cX0_kthOnTheWay 61 = .ok (.iload 5, 2) := by decide +kernel
theorem dX0_kthOnTheWay_63 : decode cX0_kthOnTheWay 63 = .ok (.ireturn, 1) := by decide +kernel
theorem dX0_kthOnTheWay_64 : decode cX0_kthOnTheWay 64 = .ok (.iinc 6 (-1), 3) := by decide +kernel
theorem dX0_kthOnTheWay_67 : decode cX0_kthOnTheWay 67 = .ok (.aload_n 0, 1) := by decide +kernel
theorem dX0_kthOnTheWay_68 : decode cX0_kthOnTheWay 68 = .ok (.iload 5, 2) := by decide +kernel
theorem dX0_kthOnTheWay_70 : decode cX0_kthOnTheWay 70 = .ok (.invokevirtual 151, 3) := by decide +kernel
theorem dX0_kthOnTheWay_73 : decode cX0_kthOnTheWay 73 = .ok (.istore 4, 2) := by decide +kernel
theorem dX0_kthOnTheWay_75 : decode cX0_kthOnTheWay 75 = .ok (.iload 4, 2) := by decide +kernel
theorem dX0_kthOnTheWay_77 : decode cX0_kthOnTheWay 77 = .ok (.iconst (-1), 1) := by decide +kernel
theorem dX0_kthOnTheWay_78 : decode cX0_kthOnTheWay 78 = .ok (.if_icmp .ne 7, 3) := by decide +kernel
theorem dX0_kthOnTheWay_81 : decode cX0_kthOnTheWay 81 = .ok (.iconst (-1), 1) := by decide +kernel
theorem dX0_kthOnTheWay_82 : decode cX0_kthOnTheWay 82 = .ok (.goto 9, 3) := by decide +kernel
theorem dX0_kthOnTheWay_85 : decode cX0_kthOnTheWay 85 = .ok (.aload_n 0, 1) := by decide +kernel
theorem dX0_kthOnTheWay_86 : decode cX0_kthOnTheWay 86 = .ok (.iload 5, 2) := by decide +kernel
theorem dX0_kthOnTheWay_88 : decode cX0_kthOnTheWay 88 = .ok (.invokevirtual 88, 3) := by decide +kernel
theorem dX0_kthOnTheWay_91 : decode cX0_kthOnTheWay 91 = .ok (.istore 5, 2) := by decide +kernel
theorem dX0_kthOnTheWay_93 : decode cX0_kthOnTheWay 93 = .ok (.iinc 7 1, 3) := by decide +kernel
theorem dX0_kthOnTheWay_96 : decode cX0_kthOnTheWay 96 = .ok (.goto (-79), 3) := by decide +kernel
theorem dX0_kthOnTheWay_99 : decode cX0_kthOnTheWay 99 = .ok (.iconst (-1), 1) := by decide +kernel
theorem dX0_kthOnTheWay_100 : decode cX0_kthOnTheWay 100 = .ok (.ireturn, 1) := by decide +kernel
theorem dX0_isAskedFor_0 : decode cX0_isAskedFor 0 = .ok (.aload_n 0, 1) := by decide +kernel
theorem dX0_isAskedFor_1 : decode cX0_isAskedFor 1 = .ok (.iload_n 1, 1) := by decide +kernel
theorem dX0_isAskedFor_2 : decode cX0_isAskedFor 2 = .ok (.invokevirtual 94, 3) := by decide +kernel
theorem dX0_isAskedFor_5 : decode cX0_isAskedFor 5 = .ok (.iload_n 2, 1) := by decide +kernel
theorem dX0_isAskedFor_6 : decode cX0_isAskedFor 6 = .ok (.if_icmp .ne 20, 3) := by decide +kernel
theorem dX0_isAskedFor_9 : decode cX0_isAskedFor 9 = .ok (.iload_n 3, 1) := by decide +kernel
theorem dX0_isAskedFor_10 : decode cX0_isAskedFor 10 = .ok (.aload_n 0, 1) := by decide +kernel
theorem dX0_isAskedFor_11 : decode cX0_isAskedFor 11 = .ok (.iload_n 1, 1) := by decide +kernel
theorem dX0_isAskedFor_12 : decode cX0_isAskedFor 12 = .ok (.invokevirtual 91, 3) := by decide +kernel
theorem dX0_isAskedFor_15 : decode cX0_isAskedFor 15 = .ok (.iushr, 1) := by decide +kernel
theorem dX0_isAskedFor_16 : decode cX0_isAskedFor 16 = .ok (.iconst 1, 1) := by decide +kernel
theorem dX0_isAskedFor_17 : decode cX0_isAskedFor 17 = .ok (.iand, 1) := by decide +kernel
theorem dX0_isAskedFor_18 : decode cX0_isAskedFor 18 = .ok (.iconst 1, 1) := by decide +kernel
theorem dX0_isAskedFor_19 : decode cX0_isAskedFor 19 = .ok (.if_icmp .ne 7, 3) := by decide +kernel
theorem dX0_isAskedFor_22 : decode cX0_isAskedFor 22 = .ok (.iconst 1, 1) := by decide +kernel
theorem dX0_isAskedFor_23 : decode cX0_isAskedFor 23 = .ok (.goto 4, 3) := by decide +kernel
theorem dX0_isAskedFor_26 : decode cX0_isAskedFor 26 = .ok (.iconst 0, 1) := by decide +kernel
theorem dX0_isAskedFor_27 : decode cX0_isAskedFor 27 = .ok (.ireturn, 1) := by decide +kernel
theorem dX0_stopBehind_0 : decode cX0_stopBehind 0 = .ok (.aload_n 0, 1) := by decide +kernel
theorem dX0_stopBehind_1 : decode cX0_stopBehind 1 = .ok (.iload_n 1, 1) := by decide +kernel
theorem dX0_stopBehind_2 : decode cX0_stopBehind 2 = .ok (.iconst 3, 1) := by decide +kernel
theorem dX0_stopBehind_3 : decode cX0_stopBehind 3 = .ok (.iadd, 1) := by decide +kernel
theorem dX0_stopBehind_4 : decode cX0_stopBehind 4 = .ok (.invokevirtual 97, 3) := by decide +kernel
theorem dX0_stopBehind_7 : decode cX0_stopBehind 7 = .ok (.istore_n 2, 1) := by decide +kernel
theorem dX0_stopBehind_8 : decode cX0_stopBehind 8 = .ok (.iload_n 2, 1) := by decide +kernel
theorem dX0_stopBehind_9 : decode cX0_stopBehind 9 = .ok (.iconst (-1), 1) := by decide +kernel
theorem dX0_stopBehind_10 : decode cX0_stopBehind 10 = .ok (.if_icmp .eq 7, 3) := by decide +kernel
theorem dX0_stopBehind_13 : decode cX0_stopBehind 13 = .ok (.iload_n 2, 1) := by decide +kernel
theorem dX0_stopBehind_14 : decode cX0_stopBehind 14 = .ok (.goto 10, 3) := by decide +kernel
theorem dX0_stopBehind_17 : decode cX0_stopBehind 17 = .ok (.aload_n 0, 1) := by decide +kernel
theorem dX0_stopBehind_18 : decode cX0_stopBehind 18 = .ok (.iload_n 1, 1) := by decide +kernel
theorem dX0_stopBehind_19 : decode cX0_stopBehind 19 = .ok (.iconst 2, 1) := by decide +kernel
theorem dX0_stopBehind_20 : decode cX0_stopBehind 20 = .ok (.iadd, 1) := by decide +kernel
theorem dX0_stopBehind_21 : decode cX0_stopBehind 21 = .ok (.invokevirtual 97, 3) := by decide +kernel
theorem dX0_stopBehind_24 : decode cX0_stopBehind 24 = .ok (.ireturn, 1) := by decide +kernel
end
section
theorem dX1_init_0 : decode cX1_init 0 = .ok (.aload_n 0, 1) := by decide +kernel
theorem dX1_init_1 : decode cX1_init 1 = .ok (.invokespecial 1, 3) := by decide +kernel
theorem dX1_init_4 : decode cX1_init 4 = .ok (.aload_n 0, 1) := by decide +kernel
theorem dX1_init_5 : decode cX1_init 5 = .ok (.sipush 200, 3) := by decide +kernel
theorem dX1_init_8 : decode cX1_init 8 = .ok (.newarray .int, 2) := by decide +kernel
theorem dX1_init_10 : decode cX1_init 10 = .ok (.putfield 7, 3) := by decide +kernel
theorem dX1_init_13 : decode cX1_init 13 = .ok (.aload_n 0, 1) := by decide +kernel
theorem dX1_init_14 : decode cX1_init 14 = .ok (.ldc 13, 2) := by decide +kernel
theorem dX1_init_16 : decode cX1_init 16 = .ok (.newarray .int, 2) := by decide +kernel
theorem dX1_init_18 : decode cX1_init 18 = .ok (.putfield 14, 3) := by decide +kernel
theorem dX1_init_21 : decode cX1_init 21 = .ok (.aload_n 0, 1) := by decide +kernel
theorem dX1_init_22 : decode cX1_init 22 = .ok (.sipush 4400, 3) := by decide +kernel
theorem dX1_init_25 : decode cX1_init 25 = .ok (.newarray .int, 2) := by decide +kernel
theorem dX1_init_27 : decode cX1_init 27 = .ok (.putfield 17, 3) := by decide +kernel
theorem dX1_init_30 : decode cX1_init 30 = .ok (.aload_n 0, 1) := by decide +kernel
theorem dX1_init_31 : decode cX1_init 31 = .ok (.sipush 4400, 3) := by decide +kernel
theorem dX1_init_34 : decode cX1_init 34 = .ok (.newarray .int, 2) := by decide +kernel
theorem dX1_init_36 : decode cX1_init 36 = .ok (.putfield 20, 3) := by decide +kernel
theorem dX1_init_39 : decode cX1_init 39 = .ok (.aload_n 0, 1) := by decide +kernel
theorem dX1_init_40 : decode cX1_init 40 = .ok (.sipush 4400, 3) := by decide +kernel
theorem dX1_init_43 : decode cX1_init 43 = .ok (.newarray .int, 2) := by decide +kernel
theorem dX1_init_45 : decode cX1_init 45 = .ok (.putfield 23, 3) := by decide +kernel
theorem dX1_init_48 : decode cX1_init 48 = .ok (.aload_n 0, 1) := by decide +kernel
theorem dX1_init_49 : decode cX1_init 49 = .ok (.sipush 4400, 3) := by decide +kernel
theorem dX1_init_52 : decode cX1_init 52 = .ok (.newarray .int, 2) := by decide +kernel
theorem dX1_init_54 : decode cX1_init 54 = .ok (.putfield 26, 3) := by decide +kernel
theorem dX1_init_57 : decode cX1_init 57 = .ok (.aload_n 0, 1) := by decide +kernel
theorem dX1_init_58 : decode cX1_init 58 = .ok (.sipush 4400, 3) := by decide +kernel
theorem dX1_init_61 : decode cX1_init 61 = .ok (.newarray .int, 2) := by decide +kernel
theorem dX1_init_63 : decode cX1_init 63 = .ok (.putfield 29, 3) := by decide +kernel
theorem dX1_init_66 : decode cX1_init 66 = .ok (.aload_n 0, 1) := by decide +kernel
theorem dX1_init_67 : decode cX1_init 67 = .ok (.sipush 4400, 3) := by decide +kernel
theorem dX1_init_70 : decode cX1_init 70 = .ok (.newarray .int, 2) := by decide +kernel
theorem dX1_init_72 : decode cX1_init 72 = .ok (.putfield 32, 3) := by decide +kernel
theorem dX1_init_75 : decode cX1_init 75 = .ok (.aload_n 0, 1) := by decide +kernel
theorem dX1_init_76 : decode cX1_init 76 = .ok (.sipush 4400, 3) := by decide +kernel
theorem dX1_init_79 : decode cX1_init 79 = .ok (.newarray .boolean, 2) := by decide +kernel
theorem dX1_init_81 : decode cX1_init 81 = .ok (.putfield 35, 3) := by decide +kernel
theorem dX1_init_84 : decode cX1_init 84 = .ok (.aload_n 0, 1) := by decide +kernel
theorem dX1_init_85 : decode cX1_init 85 = .ok (.iconst (-1), 1) := by decide +kernel
theorem dX1_init_86 : decode cX1_init 86 = .ok (.putfield 39, 3) := by decide +kernel
theorem dX1_init_89 : decode cX1_init 89 = .ok (.aload_n 0, 1) := by decide +kernel
theorem dX1_init_90 : decode cX1_init 90 = .ok (.iconst (-1), 1) := by decide +kernel
theorem dX1_init_91 : decode cX1_init 91 = .ok (.putfield 43, 3) := by decide +kernel
theorem dX1_init_94 : decode cX1_init 94 = .ok (.aload_n 0, 1) := by decide +kernel
theorem dX1_init_95 : decode cX1_init 95 = .ok (.iconst 0, 1) := by decide +kernel
theorem dX1_init_96 : decode cX1_init 96 = .ok (.putfield 46, 3) := by decide +kernel
theorem dX1_init_99 : decode cX1_init 99 = .ok (.return_, 1) := by decide +kernel
theorem dX1_thrown_0 : decode cX1_thrown 0 = .ok (.aload_n 0, 1) := by decide +kernel
theorem dX1_thrown_1 : decode cX1_thrown 1 = .ok (.getfield 49, 3) := by decide +kernel
theorem dX1_thrown_4 : decode cX1_thrown 4 = .ok (.ireturn, 1) := by decide +kernel
theorem dX1_refused_0 : decode cX1_refused 0 = .ok (.aload_n 0, 1) := by decide +kernel
theorem dX1_refused_1 : decode cX1_refused 1 = .ok (.iload_n 1, 1) := by decide +kernel
theorem dX1_refused_2 : decode cX1_refused 2 = .ok (.ifCond .eq 7, 3) := by decide +kernel
theorem dX1_refused_5 : decode cX1_refused 5 = .ok (.iconst 1, 1) := by decide +kernel
theorem dX1_refused_6 : decode cX1_refused 6 = .ok (.goto 20, 3) := by decide +kernel
theorem dX1_refused_9 : decode cX1_refused 9 = .ok (.iload_n 2, 1) := by decide +kernel
theorem dX1_refused_10 : decode cX1_refused 10 = .ok (.ifCond .eq 7, 3) := by decide +kernel
theorem dX1_refused_13 : decode cX1_refused 13 = .ok (.iconst 2, 1) := by decide +kernel
theorem dX1_refused_14 : decode cX1_refused 14 = .ok (.goto 12, 3) := by decide +kernel
theorem dX1_refused_17 : decode cX1_refused 17 = .ok (.iload_n 3, 1) := by decide +kernel
theorem dX1_refused_18 : decode cX1_refused 18 = .ok (.ifCond .eq 7, 3) := by decide +kernel
theorem dX1_refused_21 : decode cX1_refused 21 = .ok (.iconst 3, 1) := by decide +kernel
theorem dX1_refused_22 : decode cX1_refused 22 = .ok (.goto 4, 3) := by decide +kernel
theorem dX1_refused_25 : decode cX1_refused 25 = .ok (.iconst 0, 1) := by decide +kernel
theorem dX1_refused_26 : decode cX1_refused 26 = .ok (.putfield 49, 3) := by decide +kernel
theorem dX1_refused_29 : decode cX1_refused 29 = .ok (.aload_n 0, 1) := by decide +kernel
theorem dX1_refused_30 : decode cX1_refused 30 = .ok (.getfield 49, 3) := by decide +kernel
theorem dX1_refused_33 : decode cX1_refused 33 = .ok (.ifCond .le 7, 3) := by decide +kernel
theorem dX1_refused_36 : decode cX1_refused 36 = .ok (.iconst 1, 1) := by decide +kernel
theorem dX1_refused_37 : decode cX1_refused 37 = .ok (.goto 4, 3) := by decide +kernel
theorem dX1_refused_40 : decode cX1_refused 40 = .ok (.iconst 0, 1) := by decide +kernel
theorem dX1_refused_41 : decode cX1_refused 41 = .ok (.ireturn, 1) := by decide +kernel
theorem dX1_in_0 : decode cX1_in 0 = .ok (.iload_n 0, 1) := by decide +kernel
theorem dX1_in_1 : decode cX1_in 1 = .ok (.iload_n 1, 1) := by decide +kernel
theorem dX1_in_2 : decode cX1_in 2 = .ok (.if_icmp .lt 12, 3) := by decide +kernel
theorem dX1_in_5 : decode cX1_in 5 = .ok (.iload_n 0, 1) := by decide +kernel
theorem dX1_in_6 : decode cX1_in 6 = .ok (.iload_n 2, 1) := by decide +kernel
theorem dX1_in_7 : decode cX1_in 7 = .ok (.if_icmp .gt 7, 3) := by decide +kernel
theorem dX1_in_10 : decode cX1_in 10 = .ok (.iconst 1, 1) := by decide +kernel
theorem dX1_in_11 : decode cX1_in 11 = .ok (.goto 4, 3) := by decide +kernel
theorem dX1_in_14 : decode cX1_in 14 = .ok (.iconst 0, 1) := by decide +kernel
theorem dX1_in_15 : decode cX1_in 15 = .ok (.ireturn, 1) := by decide +kernel
theorem dX1_rowOf_0 : decode cX1_rowOf 0 = .ok (.iconst (-1), 1) := by decide +kernel
theorem dX1_rowOf_1 : decode cX1_rowOf 1 = .ok (.istore_n 2, 1) := by decide +kernel
theorem dX1_rowOf_2 : decode cX1_rowOf 2 = .ok (.aload_n 0, 1) := by decide +kernel
theorem dX1_rowOf_3 : decode cX1_rowOf 3 = .ok (.getfield 52, 3) := by decide +kernel
theorem dX1_rowOf_6 : decode cX1_rowOf 6 = .ok (.istore_n 3, 1) := by decide +kernel
theorem dX1_rowOf_7 : decode cX1_rowOf 7 = .ok (.iload_n 3, 1) := by decide +kernel
theorem dX1_rowOf_8 : decode cX1_rowOf 8 = .ok (.aload_n 0, 1) := by decide +kernel
theorem dX1_rowOf_9 : decode cX1_rowOf 9 = .ok (.getfield 46, 3) := by decide +kernel
theorem dX1_rowOf_12 : decode cX1_rowOf 12 = .ok (.if_icmp .ge 34, 3) := by decide +kernel
theorem dX1_rowOf_15 : decode cX1_rowOf 15 = .ok (.aload_n 0, 1) := by decide +kernel
theorem dX1_rowOf_16 : decode cX1_rowOf 16 = .ok (.getfield 17, 3) := by decide +kernel
theorem dX1_rowOf_19 : decode cX1_rowOf 19 = .ok (.iload_n 3, 1) := by decide +kernel
theorem dX1_rowOf_20 : decode cX1_rowOf 20 = .ok (.iaload, 1) := by decide +kernel
theorem dX1_rowOf_21 : decode cX1_rowOf 21 = .ok (.iload_n 1, 1) := by decide +kernel
theorem dX1_rowOf_22 : decode cX1_rowOf 22 = .ok (.if_icmp .ne 16, 3) := by decide +kernel
theorem dX1_rowOf_25 : decode cX1_rowOf 25 = .ok (.aload_n 0, 1) := by decide +kernel
theorem dX1_rowOf_26 : decode cX1_rowOf 26 = .ok (.getfield 35, 3) := by decide +kernel
theorem dX1_rowOf_29 : decode cX1_rowOf 29 = .ok (.iload_n 3, 1) := by decide +kernel
theorem dX1_rowOf_30 : decode cX1_rowOf 30 = .ok (.baload, 1) := by decide +kernel
theorem dX1_rowOf_31 : decode cX1_rowOf 31 = .ok (.ifCond .ne 7, 3) := by decide +kernel
theorem dX1_rowOf_34 : decode cX1_rowOf 34 = .ok (.iload_n 3, 1) := by decide +kernel
theorem dX1_rowOf_35 : decode cX1_rowOf 35 = .ok (.goto 4, 3) := by decide +kernel
theorem dX1_rowOf_38 : decode cX1_rowOf 38 = .ok (.iload_n 2, 1) := by decide +kernel
theorem dX1_rowOf_39 : decode cX1_rowOf 39 = .ok (.istore_n 2, 1) := by decide +kernel
theorem dX1_rowOf_40 : decode cX1_rowOf 40 = .ok (.iinc 3 1, 3) := by decide +kernel
theorem dX1_rowOf_43 : decode cX1_rowOf 43 = .ok (.goto (-36), 3) := by decide +kernel
theorem dX1_rowOf_46 : decode cX1_rowOf 46 = .ok (.iload_n 2, 1) := by decide +kernel
theorem dX1_rowOf_47 : decode cX1_rowOf 47 = .ok (.ireturn, 1) := by decide +kernel
theorem dX1_addRow_0 : decode cX1_addRow 0 = .ok (.aload_n 0, 1) := by decide +kernel
theorem dX1_addRow_1 : decode cX1_addRow 1 = .ok (.getfield 17, 3) := by decide +kernel
theorem dX1_addRow_4 : decode cX1_addRow 4 = .ok (.aload_n 0, 1) := by decide +kernel
theorem dX1_addRow_5 : decode cX1_addRow 5 = .ok (.getfield 46, 3) := by decide +kernel
theorem dX1_addRow_8 : decode cX1_addRow 8 = .ok (.iload_n 1, 1) := by decide +kernel
theorem dX1_addRow_9 : decode cX1_addRow 9 = .ok (.iastore, 1) := by decide +kernel
theorem dX1_addRow_10 : decode cX1_addRow 10 = .ok (.aload_n 0, 1) := by decide +kernel
theorem dX1_addRow_11 : decode cX1_addRow 11 = .ok (.getfield 20, 3) := by decide +kernel
theorem dX1_addRow_14 : decode cX1_addRow 14 = .ok (.aload_n 0, 1) := by decide +kernel
theorem dX1_addRow_15 : decode cX1_addRow 15 = .ok (.getfield 46, 3) := by decide +kernel
theorem dX1_addRow_18 : decode cX1_addRow 18 = .ok (.iload_n 2, 1) := by decide +kernel
theorem dX1_addRow_19 : decode cX1_addRow 19 = .ok (.iastore, 1) := by decide +kernel
theorem dX1_addRow_20 : decode cX1_addRow 20 = .ok (.aload_n 0, 1) := by decide +kernel
theorem dX1_addRow_21 : decode cX1_addRow 21 = .ok (.getfield 35, 3) := by decide +kernel
theorem dX1_addRow_24 : decode cX1_addRow 24 = .ok (.aload_n 0, 1) := by decide +kernel
theorem dX1_addRow_25 : decode cX1_addRow 25 = .ok (.getfield 46, 3) := by decide +kernel
theorem dX1_addRow_28 : decode cX1_addRow 28 = .ok (.iload_n 3, 1) := by decide +kernel
theorem dX1_addRow_29 : decode cX1_addRow 29 = .ok (.bastore, 1) := by decide +kernel
theorem dX1_addRow_30 : decode cX1_addRow 30 = .ok (.aload_n 0, 1) := by decide +kernel
theorem dX1_addRow_31 : decode cX1_addRow 31 = .ok (.dup, 1) := by decide +kernel
theorem dX1_addRow_32 : decode cX1_addRow 32 = .ok (.getfield 46, 3) := by decide +kernel
theorem dX1_addRow_35 : decode cX1_addRow 35 = .ok (.iconst 1, 1) := by decide +kernel
theorem dX1_addRow_36 : decode cX1_addRow 36 = .ok (.iadd, 1) := by decide +kernel
theorem dX1_addRow_37 : decode cX1_addRow 37 = .ok (.putfield 46, 3) := by decide +kernel
theorem dX1_addRow_40 : decode cX1_addRow 40 = .ok (.return_, 1) := by decide +kernel
theorem dX1_latestOf_0 : decode cX1_latestOf 0 = .ok (.iconst (-1), 1) := by decide +kernel
theorem dX1_latestOf_1 : decode cX1_latestOf 1 = .ok (.istore_n 2, 1) := by decide +kernel
theorem dX1_latestOf_2 : decode cX1_latestOf 2 = .ok (.aload_n 0, 1) := by decide +kernel
theorem dX1_latestOf_3 : decode cX1_latestOf 3 = .ok (.getfield 52, 3) := by decide +kernel
theorem dX1_latestOf_6 : decode cX1_latestOf 6 = .ok (.istore_n 3, 1) := by decide +kernel
theorem dX1_latestOf_7 : decode cX1_latestOf 7 = .ok (.iload_n 3, 1) := by decide +kernel
theorem dX1_latestOf_8 : decode cX1_latestOf 8 = .ok (.aload_n 0, 1) := by decide +kernel
theorem dX1_latestOf_9 : decode cX1_latestOf 9 = .ok (.getfield 46, 3) := by decide +kernel
theorem dX1_latestOf_12 : decode cX1_latestOf 12 = .ok (.if_icmp .ge 39, 3) := by decide +kernel
theorem dX1_latestOf_15 : decode cX1_latestOf 15 = .ok (.aload_n 0, 1) := by decide +kernel
theorem dX1_latestOf_16 : decode cX1_latestOf 16 = .ok (.getfield 35, 3) := by decide +kernel
theorem dX1_latestOf_19 : decode cX1_latestOf 19 = .ok (.iload_n 3, 1) := by decide +kernel
theorem dX1_latestOf_20 : decode cX1_latestOf 20 = .ok (.baload, 1) := by decide +kernel
theorem dX1_latestOf_21 : decode cX1_latestOf 21 = .ok (.ifCond .ne 22, 3) := by decide +kernel
theorem dX1_latestOf_24 : decode cX1_latestOf 24 = .ok (.aload_n 0, 1) := by decide +kernel
theorem dX1_latestOf_25 : decode cX1_latestOf 25 = .ok (.getfield 26, 3) := by decide +kernel
theorem dX1_latestOf_28 : decode cX1_latestOf 28 = .ok (.iload_n 3, 1) := by decide +kernel
theorem dX1_latestOf_29 : decode cX1_latestOf 29 = .ok (.iaload, 1) := by decide +kernel
theorem dX1_latestOf_30 : decode cX1_latestOf 30 = .ok (.iload_n 1, 1) := by decide +kernel
theorem dX1_latestOf_31 : decode cX1_latestOf 31 = .ok (.if_icmp .ne 12, 3) := by decide +kernel
theorem dX1_latestOf_34 : decode cX1_latestOf 34 = .ok (.aload_n 0, 1) := by decide +kernel
theorem dX1_latestOf_35 : decode cX1_latestOf 35 = .ok (.getfield 17, 3) := by decide +kernel
theorem dX1_latestOf_38 : decode cX1_latestOf 38 = .ok (.iload_n 3, 1) := by decide +kernel
theorem dX1_latestOf_39 : decode cX1_latestOf 39 = .ok (.iaload, 1) := by decide +kernel
theorem dX1_latestOf_40 : decode cX1_latestOf 40 = .ok (.goto 4, 3) := by decide +kernel
theorem dX1_latestOf_43 : decode cX1_latestOf 43 = .ok (.iload_n 2, 1) := by decide +kernel
theorem dX1_latestOf_44 : decode cX1_latestOf 44 = .ok (.istore_n 2, 1) := by decide +kernel
theorem dX1_latestOf_45 : decode cX1_latestOf 45 = .ok (.iinc 3 1, 3) := by decide +kernel
theorem dX1_latestOf_48 : decode cX1_latestOf 48 = .ok (.goto (-41), 3) := by decide +kernel
theorem dX1_latestOf_51 : decode cX1_latestOf 51 = .ok (.iload_n 2, 1) := by decide +kernel
theorem dX1_latestOf_52 : decode cX1_latestOf 52 = .ok (.ireturn, 1) := by decide +kernel
theorem dX1_append_0 : decode cX1_append 0 = .ok (.iload_n 1, 1) := by decide +kernel
theorem dX1_append_1 : decode cX1_append 1 = .ok (.iconst 0, 1) := by decide +kernel
theorem dX1_append_2 : decode cX1_append 2 = .ok (.bipush 15, 2) := by decide +kernel
theorem dX1_append_4 : decode cX1_append 4 = .ok (.invokestatic 83, 3) := by decide +kernel
theorem dX1_append_7 : decode cX1_append 7 = .ok (.ifCond .eq 42, 3) := by decide +kernel
theorem dX1_append_10 : decode cX1_append 10 = .ok (.iload_n 2, 1) := by decide +kernel
theorem dX1_append_11 : decode cX1_append 11 = .ok (.iconst 0, 1) := by decide +kernel
theorem dX1_append_12 : decode cX1_append 12 = .ok (.bipush 7, 2) := by decide +kernel
theorem dX1_append_14 : decode cX1_append 14 = .ok (.invokestatic 83, 3) := by decide +kernel
theorem dX1_append_17 : decode cX1_append 17 = .ok (.ifCond .eq 32, 3) := by decide +kernel
theorem dX1_append_20 : decode cX1_append 20 = .ok (.iload 4, 2) := by decide +kernel
theorem dX1_append_22 : decode cX1_append 22 = .ok (.iconst 0, 1) := by decide +kernel
theorem dX1_append_23 : decode cX1_append 23 = .ok (.sipush 200, 3) := by decide +kernel
theorem dX1_append_26 : decode cX1_append 26 = .ok (.invokestatic 83, 3) := by decide +kernel
theorem dX1_append_29 : decode cX1_append 29 = .ok (.ifCond .eq 20, 3) := by decide +kernel
theorem dX1_append_32 : decode cX1_append 32 = .ok (.iload_n 3, 1) := by decide +kernel
theorem dX1_append_33 : decode cX1_append 33 = .ok (.iconst (-1), 1) := by decide +kernel
theorem dX1_append_34 : decode cX1_append 34 = .ok (.if_icmp .lt 15, 3) := by decide +kernel
theorem dX1_append_37 : decode cX1_append 37 = .ok (.iload_n 3, 1) := by decide +kernel
theorem dX1_append_38 : decode cX1_append 38 = .ok (.aload_n 0, 1) := by decide +kernel
theorem dX1_append_39 : decode cX1_append 39 = .ok (.getfield 62, 3) := by decide +kernel
theorem dX1_append_42 : decode cX1_append 42 = .ok (.if_icmp .ge 7, 3) := by decide +kernel
theorem dX1_append_45 : decode cX1_append 45 = .ok (.iconst 1, 1) := by decide +kernel
theorem dX1_append_46 : decode cX1_append 46 = .ok (.goto 4, 3) := by decide +kernel
theorem dX1_append_49 : decode cX1_append 49 = .ok (.iconst 0, 1) := by decide +kernel
theorem dX1_append_50 : decode cX1_append 50 = .ok (.istore 5, 2) := by decide +kernel
theorem dX1_append_52 : decode cX1_append 52 = .ok (.aload_n 0, 1) := by decide +kernel
theorem dX1_append_53 : decode cX1_append 53 = .ok (.aload_n 0, 1) := by decide +kernel
theorem dX1_append_54 : decode cX1_append 54 = .ok (.getfield 55, 3) := by decide +kernel
theorem dX1_append_57 : decode cX1_append 57 = .ok (.iload 5, 2) := by decide +kernel
theorem dX1_append_59 : decode cX1_append 59 = .ok (.ifCond .ne 7, 3) := by decide +kernel
theorem dX1_append_62 : decode cX1_append 62 = .ok (.iconst 1, 1) := by decide +kernel
theorem dX1_append_63 : decode cX1_append 63 = .ok (.goto 4, 3) := by decide +kernel
theorem dX1_append_66 : decode cX1_append 66 = .ok (.iconst 0, 1) := by decide +kernel
theorem dX1_append_67 : decode cX1_append 67 = .ok (.iconst 0, 1) := by decide +kernel
theorem dX1_append_68 : decode cX1_append 68 = .ok (.invokevirtual 75, 3) := by decide +kernel
theorem dX1_append_71 : decode cX1_append 71 = .ok (.ifCond .eq 5, 3) := by decide +kernel
theorem dX1_append_74 : decode cX1_append 74 = .ok (.iconst 0, 1) := by decide +kernel
theorem dX1_append_75 : decode cX1_append 75 = .ok (.ireturn, 1) := by decide +kernel
theorem dX1_append_76 : decode cX1_append 76 = .ok (.aload_n 0, 1) := by decide +kernel
theorem dX1_append_77 : decode cX1_append 77 = .ok (.getfield 62, 3) := by decide +kernel
theorem dX1_append_80 : decode cX1_append 80 = .ok (.aload_n 0, 1) := by decide +kernel
theorem dX1_append_81 : decode cX1_append 81 = .ok (.getfield 87, 3) := by decide +kernel
theorem dX1_append_84 : decode cX1_append 84 = .ok (.isub, 1) := by decide +kernel
theorem dX1_append_85 : decode cX1_append 85 = .ok (.iload 4, 2) := by decide +kernel
theorem dX1_append_87 : decode cX1_append 87 = .ok (.iadd, 1) := by decide +kernel
theorem dX1_append_88 : decode cX1_append 88 = .ok (.iconst 5, 1) := by decide +kernel
theorem dX1_append_89 : decode cX1_append 89 = .ok (.iadd, 1) := by decide +kernel
theorem dX1_append_90 : decode cX1_append 90 = .ok (.ldc 13, 2) := by decide +kernel
theorem dX1_append_92 : decode cX1_append 92 = .ok (.if_icmp .le 5, 3) := by decide +kernel
theorem dX1_append_95 : decode cX1_append 95 = .ok (.iconst (-1), 1) := by decide +kernel
theorem dX1_append_96 : decode cX1_append 96 = .ok (.ireturn, 1) := by decide +kernel
theorem dX1_append_97 : decode cX1_append 97 = .ok (.aload_n 0, 1) := by decide +kernel
theorem dX1_append_98 : decode cX1_append 98 = .ok (.getfield 23, 3) := by decide +kernel
theorem dX1_append_101 : decode cX1_append 101 = .ok (.aload_n 0, 1) := by decide +kernel
theorem dX1_append_102 : decode cX1_append 102 = .ok (.getfield 46, 3) := by decide +kernel
theorem dX1_append_105 : decode cX1_append 105 = .ok (.iload_n 1, 1) := by decide +kernel
theorem dX1_append_106 : decode cX1_append 106 = .ok (.iastore, 1) := by decide +kernel
theorem dX1_append_107 : decode cX1_append 107 = .ok (.aload_n 0, 1) := by decide +kernel
theorem dX1_append_108 : decode cX1_append 108 = .ok (.getfield 26, 3) := by decide +kernel
theorem dX1_append_111 : decode cX1_append 111 = .ok (.aload_n 0, 1) := by decide +kernel
theorem dX1_append_112 : decode cX1_append 112 = .ok (.getfield 46, 3) := by decide +kernel
theorem dX1_append_115 : decode cX1_append 115 = .ok (.iload_n 2, 1) := by decide +kernel
theorem dX1_append_116 : decode cX1_append 116 = .ok (.iastore, 1) := by decide +kernel
theorem dX1_append_117 : decode cX1_append 117 = .ok (.aload_n 0, 1) := by decide +kernel
theorem dX1_append_118 : decode cX1_append 118 = .ok (.getfield 29, 3) := by decide +kernel
theorem dX1_append_121 : decode cX1_append 121 = .ok (.aload_n 0, 1) := by decide +kernel
theorem dX1_append_122 : decode cX1_append 122 = .ok (.getfield 46, 3) := by decide +kernel
theorem dX1_append_125 : decode cX1_append 125 = .ok (.aload_n 0, 1) := by decide +kernel
theorem dX1_append_126 : decode cX1_append 126 = .ok (.iload_n 2, 1) := by decide +kernel
theorem dX1_append_127 : decode cX1_append 127 = .ok (.invokevirtual 90, 3) := by decide +kernel
theorem dX1_append_130 : decode cX1_append 130 = .ok (.iastore, 1) := by decide +kernel
theorem dX1_append_131 : decode cX1_append 131 = .ok (.aload_n 0, 1) := by decide +kernel
theorem dX1_append_132 : decode cX1_append 132 = .ok (.getfield 32, 3) := by decide +kernel
theorem dX1_append_135 : decode cX1_append 135 = .ok (.aload_n 0, 1) := by decide +kernel
theorem dX1_append_136 : decode cX1_append 136 = .ok (.getfield 46, 3) := by decide +kernel
theorem dX1_append_139 : decode cX1_append 139 = .ok (.iload_n 3, 1) := by decide +kernel
theorem dX1_append_140 : decode cX1_append 140 = .ok (.iastore, 1) := by decide +kernel
theorem dX1_append_141 : decode cX1_append 141 = .ok (.iconst 0, 1) := by decide +kernel
theorem dX1_append_142 : decode cX1_append 142 = .ok (.istore 6, 2) := by decide +kernel
theorem dX1_append_144 : decode cX1_append 144 = .ok (.iload 6, 2) := by decide +kernel
theorem dX1_append_146 : decode cX1_append 146 = .ok (.iload 4, 2) := by decide +kernel
theorem dX1_append_148 : decode cX1_append 148 = .ok (.if_icmp .ge 33, 3) := by decide +kernel
theorem dX1_append_151 : decode cX1_append 151 = .ok (.aload_n 0, 1) := by decide +kernel
theorem dX1_append_152 : decode cX1_append 152 = .ok (.getfield 14, 3) := by decide +kernel
theorem dX1_append_155 : decode cX1_append 155 = .ok (.aload_n 0, 1) := by decide +kernel
theorem dX1_append_156 : decode cX1_append 156 = .ok (.getfield 62, 3) := by decide +kernel
theorem dX1_append_159 : decode cX1_append 159 = .ok (.iconst 4, 1) := by decide +kernel
theorem dX1_append_160 : decode cX1_append 160 = .ok (.iadd, 1) := by decide +kernel
theorem dX1_append_161 : decode cX1_append 161 = .ok (.iload 6, 2) := by decide +kernel
theorem dX1_append_163 : decode cX1_append 163 = .ok (.iadd, 1) := by decide +kernel
theorem dX1_append_164 : decode cX1_append 164 = .ok (.ldc 13, 2) := by decide +kernel
theorem dX1_append_166 : decode cX1_append 166 = .ok (.irem, 1) := by decide +kernel
theorem dX1_append_167 : decode cX1_append 167 = .ok (.aload_n 0, 1) := by decide +kernel
theorem dX1_append_168 : decode cX1_append 168 = .ok (.getfield 7, 3) := by decide +kernel
theorem dX1_append_171 : decode cX1_append 171 = .ok (.iload 6, 2) := by decide +kernel
theorem dX1_append_173 : decode cX1_append 173 = .ok (.iaload, 1) := by decide +kernel
theorem dX1_append_174 : decode cX1_append 174 = .ok (.iastore, 1) := by decide +kernel
theorem dX1_append_175 : decode cX1_append 175 = .ok (.iinc 6 1, 3) := by decide +kernel
theorem dX1_append_178 : decode cX1_append 178 = .ok (.goto (-34), 3) := by decide +kernel
theorem dX1_append_181 : decode cX1_append 181 = .ok (.aload_n 0, 1) := by decide +kernel
theorem dX1_append_182 : decode cX1_append 182 = .ok (.aload_n 0, 1) := by decide +kernel
theorem dX1_append_183 : decode cX1_append 183 = .ok (.getfield 62, 3) := by decide +kernel
theorem dX1_append_186 : decode cX1_append 186 = .ok (.iload 4, 2) := by decide +kernel
theorem dX1_append_188 : decode cX1_append 188 = .ok (.iconst 5, 1) := by decide +kernel
theorem dX1_append_189 : decode cX1_append 189 = .ok (.iadd, 1) := by decide +kernel
theorem dX1_append_190 : decode cX1_append 190 = .ok (.iconst 0, 1) := by decide +kernel
theorem dX1_append_191 : decode cX1_append 191 = .ok (.invokevirtual 79, 3) := by decide +kernel
theorem dX1_append_194 : decode cX1_append 194 = .ok (.aload_n 0, 1) := by decide +kernel
theorem dX1_append_195 : decode cX1_append 195 = .ok (.aload_n 0, 1) := by decide +kernel
theorem dX1_append_196 : decode cX1_append 196 = .ok (.getfield 62, 3) := by decide +kernel
theorem dX1_append_199 : decode cX1_append 199 = .ok (.iload 4, 2) := by decide +kernel
theorem dX1_append_201 : decode cX1_append 201 = .ok (.iadd, 1) := by decide +kernel
theorem dX1_append_202 : decode cX1_append 202 = .ok (.iconst 5, 1) := by decide +kernel
theorem dX1_append_203 : decode cX1_append 203 = .ok (.iadd, 1) := by decide +kernel
theorem dX1_append_204 : decode cX1_append 204 = .ok (.putfield 62, 3) := by decide +kernel
theorem dX1_append_207 : decode cX1_append 207 = .ok (.aload_n 0, 1) := by decide +kernel
theorem dX1_append_208 : decode cX1_append 208 = .ok (.getfield 62, 3) := by decide +kernel
theorem dX1_append_211 : decode cX1_append 211 = .ok (.iload 4, 2) := by decide +kernel
theorem dX1_append_213 : decode cX1_append 213 = .ok (.isub, 1) := by decide +kernel
theorem dX1_append_214 : decode cX1_append 214 = .ok (.iconst 5, 1) := by decide +kernel
theorem dX1_append_215 : decode cX1_append 215 = .ok (.isub, 1) := by decide +kernel
theorem dX1_append_216 : decode cX1_append 216 = .ok (.ireturn, 1) := by decide +kernel
theorem dX1_back_0 : decode cX1_back 0 = .ok (.aload_n 0, 1) := by decide +kernel
theorem dX1_back_1 : decode cX1_back 1 = .ok (.aload_n 0, 1) := by decide +kernel
theorem dX1_back_2 : decode cX1_back 2 = .ok (.getfield 55, 3) := by decide +kernel
theorem dX1_back_5 : decode cX1_back 5 = .ok (.iload_n 1, 1) := by decide +kernel
theorem dX1_back_6 : decode cX1_back 6 = .ok (.iconst 0, 1) := by decide +kernel
theorem dX1_back_7 : decode cX1_back 7 = .ok (.bipush 7, 2) := by decide +kernel
theorem dX1_back_9 : decode cX1_back 9 = .ok (.invokestatic 83, 3) := by decide +kernel
theorem dX1_back_12 : decode cX1_back 12 = .ok (.ifCond .eq 7, 3) := by decide +kernel
theorem dX1_back_15 : decode cX1_back 15 = .ok (.iload_n 3, 1) := by decide +kernel
theorem dX1_back_16 : decode cX1_back 16 = .ok (.ifCond .ge 7, 3) := by decide +kernel
theorem dX1_back_19 : decode cX1_back 19 = .ok (.iconst 1, 1) := by decide +kernel
theorem dX1_back_20 : decode cX1_back 20 = .ok (.goto 4, 3) := by decide +kernel
theorem dX1_back_23 : decode cX1_back 23 = .ok (.iconst 0, 1) := by decide +kernel
theorem dX1_back_24 : decode cX1_back 24 = .ok (.iconst 0, 1) := by decide +kernel
theorem dX1_back_25 : decode cX1_back 25 = .ok (.invokevirtual 75, 3) := by decide +kernel
theorem dX1_back_28 : decode cX1_back 28 = .ok (.ifCond .eq 5, 3) := by decide +kernel
theorem dX1_back_31 : decode cX1_back 31 = .ok (.iconst 0, 1) := by decide +kernel
theorem dX1_back_32 : decode cX1_back 32 = .ok (.ireturn, 1) := by decide +kernel
theorem dX1_back_33 : decode cX1_back 33 = .ok (.aload_n 0, 1) := by decide +kernel
theorem dX1_back_34 : decode cX1_back 34 = .ok (.iload_n 1, 1) := by decide +kernel
theorem dX1_back_35 : decode cX1_back 35 = .ok (.invokevirtual 90, 3) := by decide +kernel
theorem dX1_back_38 : decode cX1_back 38 = .ok (.istore 4, 2) := by decide +kernel
theorem dX1_back_40 : decode cX1_back 40 = .ok (.iload_n 3, 1) := by decide +kernel
theorem dX1_back_41 : decode cX1_back 41 = .ok (.istore 5, 2) := by decide +kernel
theorem dX1_back_43 : decode cX1_back 43 = .ok (.iload 4, 2) := by decide +kernel
theorem dX1_back_45 : decode cX1_back 45 = .ok (.ifCond .lt 78, 3) := by decide +kernel
theorem dX1_back_48 : decode cX1_back 48 = .ok (.aload_n 0, 1) := by decide +kernel
theorem dX1_back_49 : decode cX1_back 49 = .ok (.iload 4, 2) := by decide +kernel
theorem dX1_back_51 : decode cX1_back 51 = .ok (.invokevirtual 97, 3) := by decide +kernel
theorem dX1_back_54 : decode cX1_back 54 = .ok (.ifCond .lt 69, 3) := by decide +kernel
theorem dX1_back_57 : decode cX1_back 57 = .ok (.aload_n 0, 1) := by decide +kernel
theorem dX1_back_58 : decode cX1_back 58 = .ok (.iload 4, 2) := by decide +kernel
theorem dX1_back_60 : decode cX1_back 60 = .ok (.invokevirtual 97, 3) := by decide +kernel
theorem dX1_back_63 : decode cX1_back 63 = .ok (.istore 6, 2) := by decide +kernel
theorem dX1_back_65 : decode cX1_back 65 = .ok (.iload_n 2, 1) := by decide +kernel
theorem dX1_back_66 : decode cX1_back 66 = .ok (.aload_n 0, 1) := by decide +kernel
theorem dX1_back_67 : decode cX1_back 67 = .ok (.getfield 23, 3) := by decide +kernel
theorem dX1_back_70 : decode cX1_back 70 = .ok (.iload 6, 2) := by decide +kernel
theorem dX1_back_72 : decode cX1_back 72 = .ok (.iaload, 1) := by decide +kernel
theorem dX1_back_73 : decode cX1_back 73 = .ok (.ishr, 1) := by decide +kernel
theorem dX1_back_74 : decode cX1_back 74 = .ok (.iconst 1, 1) := by decide +kernel
theorem dX1_back_75 : decode cX1_back 75 = .ok (.iand, 1) := by decide +kernel
theorem dX1_back_76 : decode cX1_back 76 = .ok (.iconst 1, 1) := by decide +kernel
theorem dX1_back_77 : decode cX1_back 77 = .ok (.if_icmp .ne 14, 3) := by decide +kernel
theorem dX1_back_80 : decode cX1_back 80 = .ok (.iload 5, 2) := by decide +kernel
theorem dX1_back_82 : decode cX1_back 82 = .ok (.ifCond .ne 6, 3) := by decide +kernel
theorem dX1_back_85 : decode cX1_back 85 = .ok (.iload 4, 2) := by decide +kernel
theorem dX1_back_87 : decode cX1_back 87 = .ok (.ireturn, 1) := by decide +kernel
theorem dX1_back_88 : decode cX1_back 88 = .ok (.iinc 5 (-1), 3) := by decide +kernel
theorem dX1_back_91 : decode cX1_back 91 = .ok (.aload_n 0, 1) := by decide +kernel
theorem dX1_back_92 : decode cX1_back 92 = .ok (.getfield 32, 3) := by decide +kernel
theorem dX1_back_95 : decode cX1_back 95 = .ok (.iload 6, 2) := by decide +kernel
theorem dX1_back_97 : decode cX1_back 97 = .ok (.iaload, 1) := by decide +kernel
theorem dX1_back_98 : decode cX1_back 98 = .ok (.ifCond .lt 13, 3) := by decide +kernel
theorem dX1_back_101 : decode cX1_back 101 = .ok (.aload_n 0, 1) := by decide +kernel
theorem dX1_back_102 : decode cX1_back 102 = .ok (.getfield 32, 3) := by decide +kernel
theorem dX1_back_105 : decode cX1_back 105 = .ok (.iload 6, 2) := by decide +kernel
theorem dX1_back_107 : decode cX1_back 107 = .ok (.iaload, 1) := by decide +kernel
theorem dX1_back_108 : decode cX1_back 108 = .ok (.goto 10, 3) := by decide +kernel
theorem dX1_back_111 : decode cX1_back 111 = .ok (.aload_n 0, 1) := by decide +kernel
theorem dX1_back_112 : decode cX1_back 112 = .ok (.getfield 29, 3) := by decide +kernel
theorem dX1_back_115 : decode cX1_back 115 = .ok (.iload 6, 2) := by decide +kernel
theorem dX1_back_117 : decode cX1_back 117 = .ok (.iaload, 1) := by decide +kernel
theorem dX1_back_118 : decode cX1_back 118 = .ok (.istore 4, 2) := by decide +kernel
theorem dX1_back_120 : decode cX1_back 120 = .ok (.goto (-77), 3) := by decide +kernel
theorem dX1_back_123 : decode cX1_back 123 = .ok (.iconst (-1), 1) := by decide +kernel
theorem dX1_back_124 : decode cX1_back 124 = .ok (.ireturn, 1) := by decide +kernel
end
section
theorem kw_0 : Cond.fieldLink RX0 10 "LogBook" "ring" "[I" ∈ bigW := big_in (List.mem_of_getElem? (i := 52) (by decide +kernel)) rfl
theorem kw_1 : Cond.constant RX0 138 65535 ∈ bigW := big_in (List.mem_of_getElem? (i := 239) (by decide +kernel)) rfl
theorem kw_2 : Cond.fieldLink RX0 17 "LogBook" "firstPlace" "I" ∈ bigW := big_in (List.mem_of_getElem? (i := 54) (by decide +kernel)) rfl
theorem kw_3 : Cond.methodLink RX0 97 yX0_wordAt ∈ bigW := big_in (List.mem_of_getElem? (i := 235) (by decide +kernel)) rfl
theorem kw_4 : Cond.instanceMethod yX0_wordAt ∈ bigW := big_in (List.mem_of_getElem? (i := 237) (by decide +kernel)) rfl
theorem kw_5 : Cond.selects RX0 yX0_wordAt yX0_wordAt ∈ bigW := big_in (List.mem_of_getElem? (i := 7) (by decide +kernel)) rfl
theorem kw_6 : Cond.initialized RX0 ∈ bigW := big_in (List.mem_of_getElem? (i := 33) (by decide +kernel)) rfl
theorem kw_7 : Cond.code yX0_wordAt cX0_wordAt 2 (some .int) ∈ bigW := big_in (List.mem_of_getElem? (i := 238) (by decide +kernel)) rfl
theorem kw_8 : Cond.methodLink RX0 142 Lib.Math.abs.name ∈ bigW := big_in (List.mem_of_getElem? (i := 240) (by decide +kernel)) rfl
theorem kw_9 : Cond.static Lib.Math.abs.name ∈ bigW := big_in (List.mem_of_getElem? (i := 241) (by decide +kernel)) rfl
theorem kw_10 : Cond.initialized "java/lang/Math" ∈ bigW := big_in (List.mem_of_getElem? (i := 41) (by decide +kernel)) rfl
theorem kw_11 : Cond.code Lib.Math.abs.name Lib.Math.abs.code 1 (some .int) ∈ bigW := big_in (List.mem_of_getElem? (i := 242) (by decide +kernel)) rfl
theorem kw_12 : Cond.fieldLink RX0 24 "LogBook" "endPlace" "I" ∈ bigW := big_in (List.mem_of_getElem? (i := 56) (by decide +kernel)) rfl
theorem kw_13 : Cond.methodLink RX0 88 yX0_lastRecordBefore ∈ bigW := big_in (List.mem_of_getElem? (i := 231) (by decide +kernel)) rfl
theorem kw_14 : Cond.instanceMethod yX0_lastRecordBefore ∈ bigW := big_in (List.mem_of_getElem? (i := 233) (by decide +kernel)) rfl
theorem kw_15 : Cond.selects RX0 yX0_lastRecordBefore yX0_lastRecordBefore ∈ bigW := big_in (List.mem_of_getElem? (i := 6) (by decide +kernel)) rfl
theorem kw_16 : Cond.code yX0_lastRecordBefore cX0_lastRecordBefore 5 (some .int) ∈ bigW := big_in (List.mem_of_getElem? (i := 234) (by decide +kernel)) rfl
theorem kw_17 : Cond.methodLink RX0 94 yX0_ownerAt ∈ bigW := big_in (List.mem_of_getElem? (i := 243) (by decide +kernel)) rfl
theorem kw_18 : Cond.instanceMethod yX0_ownerAt ∈ bigW := big_in (List.mem_of_getElem? (i := 245) (by decide +kernel)) rfl
theorem kw_19 : Cond.selects RX0 yX0_ownerAt yX0_ownerAt ∈ bigW := big_in (List.mem_of_getElem? (i := 8) (by decide +kernel)) rfl
theorem kw_20 : Cond.code yX0_ownerAt cX0_ownerAt 2 (some .int) ∈ bigW := big_in (List.mem_of_getElem? (i := 246) (by decide +kernel)) rfl
theorem kw_21 : Cond.methodLink RX0 91 yX0_kindAt ∈ bigW := big_in (List.mem_of_getElem? (i := 373) (by decide +kernel)) rfl
theorem kw_22 : Cond.instanceMethod yX0_kindAt ∈ bigW := big_in (List.mem_of_getElem? (i := 375) (by decide +kernel)) rfl
theorem kw_23 : Cond.selects RX0 yX0_kindAt yX0_kindAt ∈ bigW := big_in (List.mem_of_getElem? (i := 17) (by decide +kernel)) rfl
theorem kw_24 : Cond.code yX0_kindAt cX0_kindAt 2 (some .int) ∈ bigW := big_in (List.mem_of_getElem? (i := 376) (by decide +kernel)) rfl
theorem kw_25 : Cond.methodLink RX0 61 yX0_lastRecordOf ∈ bigW := big_in (List.mem_of_getElem? (i := 227) (by decide +kernel)) rfl
theorem kw_26 : Cond.instanceMethod yX0_lastRecordOf ∈ bigW := big_in (List.mem_of_getElem? (i := 229) (by decide +kernel)) rfl
theorem kw_27 : Cond.selects RX0 yX0_lastRecordOf yX0_lastRecordOf ∈ bigW := big_in (List.mem_of_getElem? (i := 5) (by decide +kernel)) rfl
theorem kw_28 : Cond.code yX0_lastRecordOf cX0_lastRecordOf 4 (some .int) ∈ bigW := big_in (List.mem_of_getElem? (i := 230) (by decide +kernel)) rfl
theorem kw_29 : Cond.methodLink RX0 147 yX0_isAskedFor ∈ bigW := big_in (List.mem_of_getElem? (i := 402) (by decide +kernel)) rfl
theorem kw_30 : Cond.instanceMethod yX0_isAskedFor ∈ bigW := big_in (List.mem_of_getElem? (i := 404) (by decide +kernel)) rfl
theorem kw_31 : Cond.selects RX0 yX0_isAskedFor yX0_isAskedFor ∈ bigW := big_in (List.mem_of_getElem? (i := 20) (by decide +kernel)) rfl
theorem kw_32 : Cond.code yX0_isAskedFor cX0_isAskedFor 4 (some .boolean) ∈ bigW := big_in (List.mem_of_getElem? (i := 405) (by decide +kernel)) rfl
theorem kw_33 : Cond.methodLink RX0 151 yX0_stopBehind ∈ bigW := big_in (List.mem_of_getElem? (i := 406) (by decide +kernel)) rfl
theorem kw_34 : Cond.instanceMethod yX0_stopBehind ∈ bigW := big_in (List.mem_of_getElem? (i := 408) (by decide +kernel)) rfl
theorem kw_35 : Cond.selects RX0 yX0_stopBehind yX0_stopBehind ∈ bigW := big_in (List.mem_of_getElem? (i := 21) (by decide +kernel)) rfl
theorem kw_36 : Cond.code yX0_stopBehind cX0_stopBehind 3 (some .int) ∈ bigW := big_in (List.mem_of_getElem? (i := 409) (by decide +kernel)) rfl
theorem kw_37 : Cond.fieldLink RX0 14 "LogBook" "buffer" "[I" ∈ bigW := big_in (List.mem_of_getElem? (i := 53) (by decide +kernel)) rfl
theorem kw_38 : Cond.methodLink RX0 65 yX0_addWord ∈ bigW := big_in (List.mem_of_getElem? (i := 247) (by decide +kernel)) rfl
theorem kw_39 : Cond.instanceMethod yX0_addWord ∈ bigW := big_in (List.mem_of_getElem? (i := 249) (by decide +kernel)) rfl
theorem kw_40 : Cond.selects RX0 yX0_addWord yX0_addWord ∈ bigW := big_in (List.mem_of_getElem? (i := 9) (by decide +kernel)) rfl
theorem kw_41 : Cond.code yX0_addWord cX0_addWord 2 none ∈ bigW := big_in (List.mem_of_getElem? (i := 250) (by decide +kernel)) rfl
theorem kw_42 : Cond.fieldLink RX0 30 "LogBook" "opened" "Z" ∈ bigW := big_in (List.mem_of_getElem? (i := 58) (by decide +kernel)) rfl
theorem kw_43 : Cond.classLink RX0 80 "java/lang/IllegalStateException" ∈ bigW := big_in (List.mem_of_getElem? (i := 104) (by decide +kernel)) rfl
theorem kw_44 : Cond.initialized "java/lang/IllegalStateException" ∈ bigW := big_in (List.mem_of_getElem? (i := 38) (by decide +kernel)) rfl
theorem kw_45 : Cond.classLink RX0 52 "java/lang/IllegalArgumentException" ∈ bigW := big_in (List.mem_of_getElem? (i := 208) (by decide +kernel)) rfl
theorem kw_46 : Cond.initialized "java/lang/IllegalArgumentException" ∈ bigW := big_in (List.mem_of_getElem? (i := 40) (by decide +kernel)) rfl
theorem kw_47 : Cond.methodLink RX0 34 yX0_requireOpen ∈ bigW := big_in (List.mem_of_getElem? (i := 100) (by decide +kernel)) rfl
theorem kw_48 : Cond.instanceMethod yX0_requireOpen ∈ bigW := big_in (List.mem_of_getElem? (i := 102) (by decide +kernel)) rfl
theorem kw_49 : Cond.selects RX0 yX0_requireOpen yX0_requireOpen ∈ bigW := big_in (List.mem_of_getElem? (i := 2) (by decide +kernel)) rfl
theorem kw_50 : Cond.code yX0_requireOpen cX0_requireOpen 1 none ∈ bigW := big_in (List.mem_of_getElem? (i := 103) (by decide +kernel)) rfl
theorem kw_51 : Cond.methodLink RX0 48 yX0_requireOwner ∈ bigW := big_in (List.mem_of_getElem? (i := 204) (by decide +kernel)) rfl
theorem kw_52 : Cond.instanceMethod yX0_requireOwner ∈ bigW := big_in (List.mem_of_getElem? (i := 206) (by decide +kernel)) rfl
theorem kw_53 : Cond.selects RX0 yX0_requireOwner yX0_requireOwner ∈ bigW := big_in (List.mem_of_getElem? (i := 4) (by decide +kernel)) rfl
theorem kw_54 : Cond.code yX0_requireOwner cX0_requireOwner 2 none ∈ bigW := big_in (List.mem_of_getElem? (i := 207) (by decide +kernel)) rfl
theorem kw_55 : Cond.constant RX0 9 65536 ∈ bigW := big_in (List.mem_of_getElem? (i := 51) (by decide +kernel)) rfl
theorem kw_56 : Cond.methodLink RX0 68 yX0_addContent ∈ bigW := big_in (List.mem_of_getElem? (i := 251) (by decide +kernel)) rfl
theorem kw_57 : Cond.instanceMethod yX0_addContent ∈ bigW := big_in (List.mem_of_getElem? (i := 253) (by decide +kernel)) rfl
theorem kw_58 : Cond.selects RX0 yX0_addContent yX0_addContent ∈ bigW := big_in (List.mem_of_getElem? (i := 10) (by decide +kernel)) rfl
theorem kw_59 : Cond.code yX0_addContent cX0_addContent 3 none ∈ bigW := big_in (List.mem_of_getElem? (i := 254) (by decide +kernel)) rfl
theorem kw_60 : Cond.methodLink RX0 109 yX0_kthOnTheWay ∈ bigW := big_in (List.mem_of_getElem? (i := 398) (by decide +kernel)) rfl
theorem kw_61 : Cond.instanceMethod yX0_kthOnTheWay ∈ bigW := big_in (List.mem_of_getElem? (i := 400) (by decide +kernel)) rfl
theorem kw_62 : Cond.selects RX0 yX0_kthOnTheWay yX0_kthOnTheWay ∈ bigW := big_in (List.mem_of_getElem? (i := 19) (by decide +kernel)) rfl
theorem kw_63 : Cond.code yX0_kthOnTheWay cX0_kthOnTheWay 8 (some .int) ∈ bigW := big_in (List.mem_of_getElem? (i := 401) (by decide +kernel)) rfl
theorem kw_64 : Cond.fieldLink RX1 49 "LogBookModel" "thrown" "I" ∈ bigW := big_in (List.mem_of_getElem? (i := 452) (by decide +kernel)) rfl
theorem kw_65 : Cond.fieldLink RX1 52 "LogBookModel" "base" "I" ∈ bigW := big_in (List.mem_of_getElem? (i := 462) (by decide +kernel)) rfl
theorem kw_66 : Cond.fieldLink RX1 46 "LogBookModel" "count" "I" ∈ bigW := big_in (List.mem_of_getElem? (i := 463) (by decide +kernel)) rfl
theorem kw_67 : Cond.fieldLink RX1 17 "LogBookModel" "serials" "[I" ∈ bigW := big_in (List.mem_of_getElem? (i := 455) (by decide +kernel)) rfl
theorem kw_68 : Cond.fieldLink RX1 35 "LogBookModel" "voids" "[Z" ∈ bigW := big_in (List.mem_of_getElem? (i := 461) (by decide +kernel)) rfl
theorem kw_69 : Cond.fieldLink RX1 26 "LogBookModel" "owners" "[I" ∈ bigW := big_in (List.mem_of_getElem? (i := 458) (by decide +kernel)) rfl
theorem kw_70 : Cond.fieldLink RX1 20 "LogBookModel" "lengths" "[I" ∈ bigW := big_in (List.mem_of_getElem? (i := 456) (by decide +kernel)) rfl
theorem kw_71 : Cond.methodLink RX1 83 yX1_in ∈ bigW := big_in (List.mem_of_getElem? (i := 551) (by decide +kernel)) rfl
theorem kw_72 : Cond.static yX1_in ∈ bigW := big_in (List.mem_of_getElem? (i := 552) (by decide +kernel)) rfl
theorem kw_73 : Cond.initialized RX1 ∈ bigW := big_in (List.mem_of_getElem? (i := 34) (by decide +kernel)) rfl
theorem kw_74 : Cond.code yX1_in cX1_in 3 (some .boolean) ∈ bigW := big_in (List.mem_of_getElem? (i := 553) (by decide +kernel)) rfl
theorem kw_75 : Cond.fieldLink RX1 62 "LogBookModel" "end" "I" ∈ bigW := big_in (List.mem_of_getElem? (i := 466) (by decide +kernel)) rfl
theorem kw_76 : Cond.fieldLink RX1 55 "LogBookModel" "closed" "Z" ∈ bigW := big_in (List.mem_of_getElem? (i := 467) (by decide +kernel)) rfl
theorem kw_77 : Cond.methodLink RX1 75 yX1_refused ∈ bigW := big_in (List.mem_of_getElem? (i := 519) (by decide +kernel)) rfl
theorem kw_78 : Cond.instanceMethod yX1_refused ∈ bigW := big_in (List.mem_of_getElem? (i := 521) (by decide +kernel)) rfl
theorem kw_79 : Cond.selects RX1 yX1_refused yX1_refused ∈ bigW := big_in (List.mem_of_getElem? (i := 23) (by decide +kernel)) rfl
theorem kw_80 : Cond.code yX1_refused cX1_refused 4 (some .boolean) ∈ bigW := big_in (List.mem_of_getElem? (i := 522) (by decide +kernel)) rfl
theorem kw_81 : Cond.fieldLink RX1 87 "LogBookModel" "first" "I" ∈ bigW := big_in (List.mem_of_getElem? (i := 464) (by decide +kernel)) rfl
theorem kw_82 : Cond.constant RX1 13 65536 ∈ bigW := big_in (List.mem_of_getElem? (i := 451) (by decide +kernel)) rfl
theorem kw_83 : Cond.fieldLink RX1 23 "LogBookModel" "kinds" "[I" ∈ bigW := big_in (List.mem_of_getElem? (i := 457) (by decide +kernel)) rfl
theorem kw_84 : Cond.fieldLink RX1 29 "LogBookModel" "olders" "[I" ∈ bigW := big_in (List.mem_of_getElem? (i := 459) (by decide +kernel)) rfl
theorem kw_85 : Cond.methodLink RX1 90 yX1_latestOf ∈ bigW := big_in (List.mem_of_getElem? (i := 562) (by decide +kernel)) rfl
theorem kw_86 : Cond.instanceMethod yX1_latestOf ∈ bigW := big_in (List.mem_of_getElem? (i := 564) (by decide +kernel)) rfl
theorem kw_87 : Cond.selects RX1 yX1_latestOf yX1_latestOf ∈ bigW := big_in (List.mem_of_getElem? (i := 27) (by decide +kernel)) rfl
theorem kw_88 : Cond.code yX1_latestOf cX1_latestOf 4 (some .int) ∈ bigW := big_in (List.mem_of_getElem? (i := 565) (by decide +kernel)) rfl
theorem kw_89 : Cond.fieldLink RX1 32 "LogBookModel" "links" "[I" ∈ bigW := big_in (List.mem_of_getElem? (i := 460) (by decide +kernel)) rfl
theorem kw_90 : Cond.methodLink RX1 79 yX1_addRow ∈ bigW := big_in (List.mem_of_getElem? (i := 543) (by decide +kernel)) rfl
theorem kw_91 : Cond.instanceMethod yX1_addRow ∈ bigW := big_in (List.mem_of_getElem? (i := 545) (by decide +kernel)) rfl
theorem kw_92 : Cond.selects RX1 yX1_addRow yX1_addRow ∈ bigW := big_in (List.mem_of_getElem? (i := 26) (by decide +kernel)) rfl
theorem kw_93 : Cond.code yX1_addRow cX1_addRow 4 none ∈ bigW := big_in (List.mem_of_getElem? (i := 546) (by decide +kernel)) rfl
theorem kw_94 : Cond.fieldLink RX1 14 "LogBookModel" "words" "[I" ∈ bigW := big_in (List.mem_of_getElem? (i := 454) (by decide +kernel)) rfl
theorem kw_95 : Cond.fieldLink RX1 7 "LogBookModel" "buffer" "[I" ∈ bigW := big_in (List.mem_of_getElem? (i := 453) (by decide +kernel)) rfl
theorem kw_96 : Cond.methodLink RX1 97 yX1_rowOf ∈ bigW := big_in (List.mem_of_getElem? (i := 570) (by decide +kernel)) rfl
theorem kw_97 : Cond.instanceMethod yX1_rowOf ∈ bigW := big_in (List.mem_of_getElem? (i := 572) (by decide +kernel)) rfl
theorem kw_98 : Cond.selects RX1 yX1_rowOf yX1_rowOf ∈ bigW := big_in (List.mem_of_getElem? (i := 28) (by decide +kernel)) rfl
theorem kw_99 : Cond.code yX1_rowOf cX1_rowOf 4 (some .int) ∈ bigW := big_in (List.mem_of_getElem? (i := 573) (by decide +kernel)) rfl
theorem kw_100 : Cond.methodLink RX0 3 objectInit ∈ bigW := big_in (List.mem_of_getElem? (i := 48) (by decide +kernel)) rfl
theorem kw_101 : Cond.instanceMethod objectInit ∈ bigW := big_in (List.mem_of_getElem? (i := 49) (by decide +kernel)) rfl
theorem kw_102 : Cond.code objectInit ⟨#[0xb1]⟩ 1 none ∈ bigW := big_in (List.mem_of_getElem? (i := 50) (by decide +kernel)) rfl
theorem kw_103 : Cond.arrayClass .int ∈ bigW := big_in (List.mem_of_getElem? (i := 74) (by decide +kernel)) rfl
theorem kw_104 : Cond.fieldLink RX0 21 "LogBook" "forcedPlace" "I" ∈ bigW := big_in (List.mem_of_getElem? (i := 55) (by decide +kernel)) rfl
theorem kw_105 : Cond.fieldLink RX0 27 "LogBook" "wordsToFailure" "I" ∈ bigW := big_in (List.mem_of_getElem? (i := 57) (by decide +kernel)) rfl
theorem kw_106 : Cond.methodLink RX1 1 objectInit ∈ bigW := big_in (List.mem_of_getElem? (i := 450) (by decide +kernel)) rfl
theorem kw_107 : Cond.arrayClass .boolean ∈ bigW := big_in (List.mem_of_getElem? (i := 510) (by decide +kernel)) rfl
theorem kw_108 : Cond.fieldLink RX1 39 "LogBookModel" "left" "I" ∈ bigW := big_in (List.mem_of_getElem? (i := 468) (by decide +kernel)) rfl
theorem kw_109 : Cond.fieldLink RX1 43 "LogBookModel" "begun" "I" ∈ bigW := big_in (List.mem_of_getElem? (i := 469) (by decide +kernel)) rfl
theorem kw_110 : Cond.methodLink RL 20 yX0_append ∈ bigW := big_in (List.mem_of_getElem? (i := 200) (by decide +kernel)) rfl
theorem kw_111 : Cond.instanceMethod yX0_append ∈ bigW := big_in (List.mem_of_getElem? (i := 201) (by decide +kernel)) rfl
theorem kw_112 : Cond.selects RX0 yX0_append yX0_append ∈ bigW := big_in (List.mem_of_getElem? (i := 202) (by decide +kernel)) rfl
theorem kw_113 : Cond.code yX0_append cX0_append 8 (some .int) ∈ bigW := big_in (List.mem_of_getElem? (i := 203) (by decide +kernel)) rfl
theorem kw_114 : Cond.classLink RL 13 "java/lang/IllegalStateException" ∈ bigW := big_in (List.mem_of_getElem? (i := 94) (by decide +kernel)) rfl
theorem kw_115 : Cond.classLink RL 24 "java/lang/IllegalArgumentException" ∈ bigW := big_in (List.mem_of_getElem? (i := 199) (by decide +kernel)) rfl
theorem kw_116 : Cond.methodLink RL 64 yX0_back ∈ bigW := big_in (List.mem_of_getElem? (i := 393) (by decide +kernel)) rfl
theorem kw_117 : Cond.instanceMethod yX0_back ∈ bigW := big_in (List.mem_of_getElem? (i := 394) (by decide +kernel)) rfl
theorem kw_118 : Cond.selects RX0 yX0_back yX0_back ∈ bigW := big_in (List.mem_of_getElem? (i := 395) (by decide +kernel)) rfl
theorem kw_119 : Cond.code yX0_back cX0_back 4 (some .int) ∈ bigW := big_in (List.mem_of_getElem? (i := 396) (by decide +kernel)) rfl
theorem g_RX0_97 : GoodIn bigW (wsV RX0 97 RX0 yX0_wordAt wsX0_wordAt) := gV kw_3 kw_4 kw_5 kw_6 kw_7
theorem g_RX0_88 : GoodIn bigW (wsV RX0 88 RX0 yX0_lastRecordBefore wsX0_lastRecordBefore) := gV kw_13 kw_14 kw_15 kw_6 kw_16
theorem g_RX0_94 : GoodIn bigW (wsV RX0 94 RX0 yX0_ownerAt wsX0_ownerAt) := gV kw_17 kw_18 kw_19 kw_6 kw_20
theorem g_RX0_91 : GoodIn bigW (wsV RX0 91 RX0 yX0_kindAt wsX0_kindAt) := gV kw_21 kw_22 kw_23 kw_6 kw_24
theorem g_RX0_61 : GoodIn bigW (wsV RX0 61 RX0 yX0_lastRecordOf wsX0_lastRecordOf) := gV kw_25 kw_26 kw_27 kw_6 kw_28
theorem g_RX0_147 : GoodIn bigW (wsV RX0 147 RX0 yX0_isAskedFor wsX0_isAskedFor) := gV kw_29 kw_30 kw_31 kw_6 kw_32
theorem g_RX0_151 : GoodIn bigW (wsV RX0 151 RX0 yX0_stopBehind wsX0_stopBehind) := gV kw_33 kw_34 kw_35 kw_6 kw_36
theorem g_RX0_65 : GoodIn bigW (wsV RX0 65 RX0 yX0_addWord wsX0_addWord) := gV kw_38 kw_39 kw_40 kw_6 kw_41
theorem g_RX0_34 : GoodIn bigW (wsV RX0 34 RX0 yX0_requireOpen wsX0_requireOpen) := gV kw_47 kw_48 kw_49 kw_6 kw_50
theorem g_RX0_48 : GoodIn bigW (wsV RX0 48 RX0 yX0_requireOwner wsX0_requireOwner) := gV kw_51 kw_52 kw_53 kw_6 kw_54
theorem g_RX0_68 : GoodIn bigW (wsV RX0 68 RX0 yX0_addContent wsX0_addContent) := gV kw_56 kw_57 kw_58 kw_6 kw_59
theorem g_RX0_109 : GoodIn bigW (wsV RX0 109 RX0 yX0_kthOnTheWay wsX0_kthOnTheWay) := gV kw_60 kw_61 kw_62 kw_6 kw_63
theorem g_RX1_83 : GoodIn bigW (va_wsS RX1 83 yX1_in wsX1_in) := gS kw_71 kw_72 kw_73 kw_74
theorem g_RX1_75 : GoodIn bigW (wsV RX1 75 RX1 yX1_refused wsX1_refused) := gV kw_77 kw_78 kw_79 kw_73 kw_80
theorem g_RX1_90 : GoodIn bigW (wsV RX1 90 RX1 yX1_latestOf wsX1_latestOf) := gV kw_85 kw_86 kw_87 kw_73 kw_88
theorem g_RX1_79 : GoodIn bigW (wsV RX1 79 RX1 yX1_addRow wsX1_addRow) := gV kw_90 kw_91 kw_92 kw_73 kw_93
theorem g_RX1_97 : GoodIn bigW (wsV RX1 97 RX1 yX1_rowOf wsX1_rowOf) := gV kw_96 kw_97 kw_98 kw_73 kw_99
theorem g_RL_20 : GoodIn bigW (wsV RL 20 RX0 yX0_append wsX0_append) := gV kw_110 kw_111 kw_112 kw_6 kw_113
theorem g_RL_64 : GoodIn bigW (wsV RL 64 RX0 yX0_back wsX0_back) := gV kw_116 kw_117 kw_118 kw_6 kw_119
theorem xa_RX0_84 : ∀ w ∈ (vx_atS RX0 84 "java/lang/IllegalStateException" ["java/lang/RuntimeException", "java/lang/Exception"]).filter goodWord, w ∈ bigW := fun w hw => big_in ((by decide +kernel : ∀ w ∈ (vx_atS RX0 84 "java/lang/IllegalStateException" ["java/lang/RuntimeException", "java/lang/Exception"]).filter goodWord, w ∈ lw_tbl) w hw) (List.mem_filter.mp hw).2
theorem xa_RX0_56 : ∀ w ∈ (vx_atS RX0 56 "java/lang/IllegalArgumentException" ["java/lang/RuntimeException", "java/lang/Exception"]).filter goodWord, w ∈ bigW := fun w hw => big_in ((by decide +kernel : ∀ w ∈ (vx_atS RX0 56 "java/lang/IllegalArgumentException" ["java/lang/RuntimeException", "java/lang/Exception"]).filter goodWord, w ∈ lw_tbl) w hw) (List.mem_filter.mp hw).2
end
section
def xw_ex : List String := ["java/lang/IllegalStateException", "java/lang/IllegalArgumentException", "java/lang/IndexOutOfBoundsException", "java/util/NoSuchElementException"]
def xw_su : List String := ["java/lang/RuntimeException", "java/lang/Exception", "java/lang/Throwable"]
def xw_st : List (String × Nat × String) := [(RX0, 39, "the buffer has words 0 .. 199"), (RX0, 54, "kinds are 0 .. 15"), (RX0, 57, "a content has 0 .. 200 words"), (RX0, 59, "a link is NONE or a place before the end"), (RX0, 82, "the record is not wholly forced"), (RX0, 103, "what is 0 .. 4"), (RX0, 105, "the record has no such word"), (RX0, 107, "k is not below 0"), (RX0, 113, "which is 0 .. 2"), (RX0, 115, "n is NONE or a number of words"), (RX0, 120, "the book is open"), (RX0, 125, "the book is closed"), (RX0, 127, "owners are 0 .. 7"), (RX0, 135, "no record has this serial")]
def xw_nc : List (String × String) := [("java/lang/IndexOutOfBoundsException", "java/lang/IllegalStateException"), ("java/lang/IllegalArgumentException", "java/lang/IllegalStateException"), ("java/util/NoSuchElementException", "java/lang/IllegalStateException"), ("java/lang/IndexOutOfBoundsException", "java/util/NoSuchElementException")]
/-- what the throw of an exception needs of the start: words of the tables, texts, two statics of Throwable outside A -/
def XW (A : Nat → Prop) (U : State) : Prop :=
  (∀ E ∈ xw_ex, va_Nw (.castable E E) U) ∧ (∀ Y ∈ xw_su, va_Nw (.declares ⟨Y, "<init>", "(Ljava/lang/String;)V"⟩) U) ∧ (∀ q ∈ xw_st, ∃ sa, vk_R q.1 q.2.1 q.2.2 sa U) ∧ (∀ q ∈ xw_nc, va_Nc q.1 q.2 U) ∧ vx_Zq Bundle.tN "UNASSIGNED_STACK" Bundle.steD A U U.heap ∧ vx_Zq Bundle.tN "SUPPRESSED_SENTINEL" Bundle.listD A U U.heap
theorem XW.blind {A : Nat → Prop} {U : State} {g : JFrame} {mk : MethodId} {a : Array Value} (h : XW A U) : XW A (U.calling g mk a) :=
  ⟨fun E hE => va_Nw.same rfl rfl (h.1 E hE), fun Y hY => va_Nw.same rfl rfl (h.2.1 Y hY), fun q hq => (h.2.2.1 q hq).imp (fun _ hs => vk_R.same rfl hs), fun q hq => va_Nc.moved (u := U) (Vm.Alike.refl U.vm) (h.2.2.2.1 q hq), vx_Zq.moved (u := U) (Vm.Alike.refl U.vm) h.2.2.2.2.1, vx_Zq.moved (u := U) (Vm.Alike.refl U.vm) h.2.2.2.2.2⟩
theorem XW.go {A B : Nat → Prop} {s U : State} {H : Heap} {locs : List Loc} (h : XW A s) (hS : va_S A s.heap H locs) (hB : ∀ q, B q → A q) (hU : U.heap = H) (hW : s.WarmedH U.vm) : XW B U := by
  subst hU
  exact ⟨fun E hE => va_Nw.warmC hW (h.1 E hE), fun Y hY => va_Nw.warmD hW (h.2.1 Y hY), fun q hq => (h.2.2.1 q hq).imp (fun _ hs => vk_R.warm hW hs), fun q hq => va_Nc.moved hW.alike (h.2.2.2.1 q hq),
    ((vx_Zq.moved hW.alike h.2.2.2.2.1).kept hS.2.1).narrow hB, ((vx_Zq.moved hW.alike h.2.2.2.2.2).kept hS.2.1).narrow hB⟩
abbrev St_A : Type := (Nat → Int32) × (Nat → Int32) × Int32 × Int32 × Int32 × Int32 × Int32
abbrev at_A (dC : Nat → ClassId) (dI : Nat → Nat → Nat) (A : Nat → Prop) (qA qA_ring qA_buffer : Nat) (cA_ring cA_buffer : ClassId) (u : St_A) (t : State) : Prop := match u with
  | (A_ring, A_buffer, A_firstPlace, A_forcedPlace, A_endPlace, A_wordsToFailure, A_opened) => va_P (dC, dI) vwCl [(qA, .inr (0, [.ref qA_ring, .ref qA_buffer, .int A_firstPlace, .int A_forcedPlace, .int A_endPlace, .int A_wordsToFailure, .int A_opened])), (qA_ring, .inl (cA_ring, 65536, .inl A_ring)), (qA_buffer, .inl (cA_buffer, 200, .inl A_buffer))] t.heap ∧ va_K (dC, dI) vwCl [(cA_ring, .int), (cA_buffer, .int)] t ∧ va_D A [(qA, .inr (0, [.ref qA_ring, .ref qA_buffer, .int A_firstPlace, .int A_forcedPlace, .int A_endPlace, .int A_wordsToFailure, .int A_opened])), (qA_ring, .inl (cA_ring, 65536, .inl A_ring)), (qA_buffer, .inl (cA_buffer, 200, .inl A_buffer))]
abbrev pcR_A (dC : Nat → ClassId) (dI : Nat → Nat → Nat) (qA qA_ring qA_buffer : Nat) (cA_ring cA_buffer : ClassId) (A_ring : Nat → Int32) (A_buffer : Nat → Int32) (A_firstPlace : Int32) (A_forcedPlace : Int32) (A_endPlace : Int32) (A_wordsToFailure : Int32) (A_opened : Int32) (av : List Value) : Array Value → State → Prop := va_Pc av (fun U => va_P (dC, dI) vwCl [(qA, .inr (0, [.ref qA_ring, .ref qA_buffer, .int A_firstPlace, .int A_forcedPlace, .int A_endPlace, .int A_wordsToFailure, .int A_opened])), (qA_ring, .inl (cA_ring, 65536, .inl A_ring)), (qA_buffer, .inl (cA_buffer, 200, .inl A_buffer))] U.heap ∧ va_K (dC, dI) vwCl [(cA_ring, .int), (cA_buffer, .int)] U)
abbrev pcW_A (dC : Nat → ClassId) (dI : Nat → Nat → Nat) (qA qA_ring qA_buffer : Nat) (cA_ring cA_buffer : ClassId) (sz : Nat) (A_ring : Nat → Int32) (A_buffer : Nat → Int32) (A_firstPlace : Int32) (A_forcedPlace : Int32) (A_endPlace : Int32) (A_wordsToFailure : Int32) (A_opened : Int32) (av : List Value) : Array Value → State → Prop := va_Pc av (fun U => U.heap.size = sz ∧ va_P (dC, dI) vwCl [(qA, .inr (0, [.ref qA_ring, .ref qA_buffer, .int A_firstPlace, .int A_forcedPlace, .int A_endPlace, .int A_wordsToFailure, .int A_opened])), (qA_ring, .inl (cA_ring, 65536, .inl A_ring)), (qA_buffer, .inl (cA_buffer, 200, .inl A_buffer))] U.heap ∧ va_K (dC, dI) vwCl [(cA_ring, .int), (cA_buffer, .int)] U ∧ va_D (fun _ => True) [(qA, .inr (0, [.ref qA_ring, .ref qA_buffer, .int A_firstPlace, .int A_forcedPlace, .int A_endPlace, .int A_wordsToFailure, .int A_opened])), (qA_ring, .inl (cA_ring, 65536, .inl A_ring)), (qA_buffer, .inl (cA_buffer, 200, .inl A_buffer))])
abbrev pcX_A (dC : Nat → ClassId) (dI : Nat → Nat → Nat) (qA qA_ring qA_buffer : Nat) (cA_ring cA_buffer : ClassId) (sz : Nat) (A_ring : Nat → Int32) (A_buffer : Nat → Int32) (A_firstPlace : Int32) (A_forcedPlace : Int32) (A_endPlace : Int32) (A_wordsToFailure : Int32) (A_opened : Int32) (av : List Value) : Array Value → State → Prop := va_Pc av (fun U => U.heap.size = sz ∧ va_P (dC, dI) vwCl [(qA, .inr (0, [.ref qA_ring, .ref qA_buffer, .int A_firstPlace, .int A_forcedPlace, .int A_endPlace, .int A_wordsToFailure, .int A_opened])), (qA_ring, .inl (cA_ring, 65536, .inl A_ring)), (qA_buffer, .inl (cA_buffer, 200, .inl A_buffer))] U.heap ∧ va_K (dC, dI) vwCl [(cA_ring, .int), (cA_buffer, .int)] U ∧ va_D (fun _ => True) [(qA, .inr (0, [.ref qA_ring, .ref qA_buffer, .int A_firstPlace, .int A_forcedPlace, .int A_endPlace, .int A_wordsToFailure, .int A_opened])), (qA_ring, .inl (cA_ring, 65536, .inl A_ring)), (qA_buffer, .inl (cA_buffer, 200, .inl A_buffer))] ∧ XW (va_A [(qA, .inr (0, [.ref qA_ring, .ref qA_buffer, .int A_firstPlace, .int A_forcedPlace, .int A_endPlace, .int A_wordsToFailure, .int A_opened])), (qA_ring, .inl (cA_ring, 65536, .inl A_ring)), (qA_buffer, .inl (cA_buffer, 200, .inl A_buffer))] sz) U)
theorem pcR_A_b (dC : Nat → ClassId) (dI : Nat → Nat → Nat) (qA qA_ring qA_buffer : Nat) (cA_ring cA_buffer : ClassId) (A_ring : Nat → Int32) (A_buffer : Nat → Int32) (A_firstPlace : Int32) (A_forcedPlace : Int32) (A_endPlace : Int32) (A_wordsToFailure : Int32) (A_opened : Int32) (av : List Value) : FrameBlind (pcR_A dC dI qA qA_ring qA_buffer cA_ring cA_buffer A_ring A_buffer A_firstPlace A_forcedPlace A_endPlace A_wordsToFailure A_opened av) := fun a U g mk q => by
  obtain ⟨q0, qP, qK⟩ := q
  exact ⟨q0, qP, va_K.moved (u := U) (U := U.calling g mk a) (Vm.Alike.refl U.vm) qK⟩
theorem pcW_A_b (dC : Nat → ClassId) (dI : Nat → Nat → Nat) (qA qA_ring qA_buffer : Nat) (cA_ring cA_buffer : ClassId) (sz : Nat) (A_ring : Nat → Int32) (A_buffer : Nat → Int32) (A_firstPlace : Int32) (A_forcedPlace : Int32) (A_endPlace : Int32) (A_wordsToFailure : Int32) (A_opened : Int32) (av : List Value) : FrameBlind (pcW_A dC dI qA qA_ring qA_buffer cA_ring cA_buffer sz A_ring A_buffer A_firstPlace A_forcedPlace A_endPlace A_wordsToFailure A_opened av) := fun a U g mk q => by
  obtain ⟨q0, q1, qP, qK, qD⟩ := q
  exact ⟨q0, q1, qP, va_K.moved (u := U) (U := U.calling g mk a) (Vm.Alike.refl U.vm) qK, qD⟩
theorem pcX_A_b (dC : Nat → ClassId) (dI : Nat → Nat → Nat) (qA qA_ring qA_buffer : Nat) (cA_ring cA_buffer : ClassId) (sz : Nat) (A_ring : Nat → Int32) (A_buffer : Nat → Int32) (A_firstPlace : Int32) (A_forcedPlace : Int32) (A_endPlace : Int32) (A_wordsToFailure : Int32) (A_opened : Int32) (av : List Value) : FrameBlind (pcX_A dC dI qA qA_ring qA_buffer cA_ring cA_buffer sz A_ring A_buffer A_firstPlace A_forcedPlace A_endPlace A_wordsToFailure A_opened av) := fun a U g mk q => by
  obtain ⟨q0, q1, qP, qK, qD, qX⟩ := q
  exact ⟨q0, q1, qP, va_K.moved (u := U) (U := U.calling g mk a) (Vm.Alike.refl U.vm) qK, qD, XW.blind qX⟩
abbrev St_B : Type := Int32 × (Nat → Int32) × (Nat → Int32) × (Nat → Int32) × (Nat → Int32) × (Nat → Int32) × (Nat → Int32) × (Nat → Int32) × (Nat → Int32) × (Nat → Int32) × Int32 × Int32 × Int32 × Int32 × Int32 × Int32 × Int32 × Int32 × Int32
abbrev at_B (dC : Nat → ClassId) (dI : Nat → Nat → Nat) (A : Nat → Prop) (qB qB_buffer qB_words qB_serials qB_lengths qB_kinds qB_owners qB_olders qB_links qB_voids : Nat) (cB_buffer cB_words cB_serials cB_lengths cB_kinds cB_owners cB_olders cB_links cB_voids : ClassId) (u : St_B) (t : State) : Prop := match u with
  | (B_thrown, B_buffer, B_words, B_serials, B_lengths, B_kinds, B_owners, B_olders, B_links, B_voids, B_base, B_count, B_first, B_forced, B_end, B_closed, B_left, B_begun, B_begunLength) => va_P (dC, dI) vwCl [(qB, .inr (1, [.int B_thrown, .ref qB_buffer, .ref qB_words, .ref qB_serials, .ref qB_lengths, .ref qB_kinds, .ref qB_owners, .ref qB_olders, .ref qB_links, .ref qB_voids, .int B_base, .int B_count, .int B_first, .int B_forced, .int B_end, .int B_closed, .int B_left, .int B_begun, .int B_begunLength])), (qB_buffer, .inl (cB_buffer, 200, .inl B_buffer)), (qB_words, .inl (cB_words, 65536, .inl B_words)), (qB_serials, .inl (cB_serials, 4400, .inl B_serials)), (qB_lengths, .inl (cB_lengths, 4400, .inl B_lengths)), (qB_kinds, .inl (cB_kinds, 4400, .inl B_kinds)), (qB_owners, .inl (cB_owners, 4400, .inl B_owners)), (qB_olders, .inl (cB_olders, 4400, .inl B_olders)), (qB_links, .inl (cB_links, 4400, .inl B_links)), (qB_voids, .inl (cB_voids, 4400, .inl B_voids))] t.heap ∧ va_K (dC, dI) vwCl [(cB_buffer, .int), (cB_words, .int), (cB_serials, .int), (cB_lengths, .int), (cB_kinds, .int), (cB_owners, .int), (cB_olders, .int), (cB_links, .int), (cB_voids, .boolean)] t ∧ va_D A [(qB, .inr (1, [.int B_thrown, .ref qB_buffer, .ref qB_words, .ref qB_serials, .ref qB_lengths, .ref qB_kinds, .ref qB_owners, .ref qB_olders, .ref qB_links, .ref qB_voids, .int B_base, .int B_count, .int B_first, .int B_forced, .int B_end, .int B_closed, .int B_left, .int B_begun, .int B_begunLength])), (qB_buffer, .inl (cB_buffer, 200, .inl B_buffer)), (qB_words, .inl (cB_words, 65536, .inl B_words)), (qB_serials, .inl (cB_serials, 4400, .inl B_serials)), (qB_lengths, .inl (cB_lengths, 4400, .inl B_lengths)), (qB_kinds, .inl (cB_kinds, 4400, .inl B_kinds)), (qB_owners, .inl (cB_owners, 4400, .inl B_owners)), (qB_olders, .inl (cB_olders, 4400, .inl B_olders)), (qB_links, .inl (cB_links, 4400, .inl B_links)), (qB_voids, .inl (cB_voids, 4400, .inl B_voids))]
abbrev pcR_B (dC : Nat → ClassId) (dI : Nat → Nat → Nat) (qB qB_buffer qB_words qB_serials qB_lengths qB_kinds qB_owners qB_olders qB_links qB_voids : Nat) (cB_buffer cB_words cB_serials cB_lengths cB_kinds cB_owners cB_olders cB_links cB_voids : ClassId) (B_thrown : Int32) (B_buffer : Nat → Int32) (B_words : Nat → Int32) (B_serials : Nat → Int32) (B_lengths : Nat → Int32) (B_kinds : Nat → Int32) (B_owners : Nat → Int32) (B_olders : Nat → Int32) (B_links : Nat → Int32) (B_voids : Nat → Int32) (B_base : Int32) (B_count : Int32) (B_first : Int32) (B_forced : Int32) (B_end : Int32) (B_closed : Int32) (B_left : Int32) (B_begun : Int32) (B_begunLength : Int32) (av : List Value) : Array Value → State → Prop := va_Pc av (fun U => va_P (dC, dI) vwCl [(qB, .inr (1, [.int B_thrown, .ref qB_buffer, .ref qB_words, .ref qB_serials, .ref qB_lengths, .ref qB_kinds, .ref qB_owners, .ref qB_olders, .ref qB_links, .ref qB_voids, .int B_base, .int B_count, .int B_first, .int B_forced, .int B_end, .int B_closed, .int B_left, .int B_begun, .int B_begunLength])), (qB_buffer, .inl (cB_buffer, 200, .inl B_buffer)), (qB_words, .inl (cB_words, 65536, .inl B_words)), (qB_serials, .inl (cB_serials, 4400, .inl B_serials)), (qB_lengths, .inl (cB_lengths, 4400, .inl B_lengths)), (qB_kinds, .inl (cB_kinds, 4400, .inl B_kinds)), (qB_owners, .inl (cB_owners, 4400, .inl B_owners)), (qB_olders, .inl (cB_olders, 4400, .inl B_olders)), (qB_links, .inl (cB_links, 4400, .inl B_links)), (qB_voids, .inl (cB_voids, 4400, .inl B_voids))] U.heap ∧ va_K (dC, dI) vwCl [(cB_buffer, .int), (cB_words, .int), (cB_serials, .int), (cB_lengths, .int), (cB_kinds, .int), (cB_owners, .int), (cB_olders, .int), (cB_links, .int), (cB_voids, .boolean)] U)
abbrev pcW_B (dC : Nat → ClassId) (dI : Nat → Nat → Nat) (qB qB_buffer qB_words qB_serials qB_lengths qB_kinds qB_owners qB_olders qB_links qB_voids : Nat) (cB_buffer cB_words cB_serials cB_lengths cB_kinds cB_owners cB_olders cB_links cB_voids : ClassId) (sz : Nat) (B_thrown : Int32) (B_buffer : Nat → Int32) (B_words : Nat → Int32) (B_serials : Nat → Int32) (B_lengths : Nat → Int32) (B_kinds : Nat → Int32) (B_owners : Nat → Int32) (B_olders : Nat → Int32) (B_links : Nat → Int32) (B_voids : Nat → Int32) (B_base : Int32) (B_count : Int32) (B_first : Int32) (B_forced : Int32) (B_end : Int32) (B_closed : Int32) (B_left : Int32) (B_begun : Int32) (B_begunLength : Int32) (av : List Value) : Array Value → State → Prop := va_Pc av (fun U => U.heap.size = sz ∧ va_P (dC, dI) vwCl [(qB, .inr (1, [.int B_thrown, .ref qB_buffer, .ref qB_words, .ref qB_serials, .ref qB_lengths, .ref qB_kinds, .ref qB_owners, .ref qB_olders, .ref qB_links, .ref qB_voids, .int B_base, .int B_count, .int B_first, .int B_forced, .int B_end, .int B_closed, .int B_left, .int B_begun, .int B_begunLength])), (qB_buffer, .inl (cB_buffer, 200, .inl B_buffer)), (qB_words, .inl (cB_words, 65536, .inl B_words)), (qB_serials, .inl (cB_serials, 4400, .inl B_serials)), (qB_lengths, .inl (cB_lengths, 4400, .inl B_lengths)), (qB_kinds, .inl (cB_kinds, 4400, .inl B_kinds)), (qB_owners, .inl (cB_owners, 4400, .inl B_owners)), (qB_olders, .inl (cB_olders, 4400, .inl B_olders)), (qB_links, .inl (cB_links, 4400, .inl B_links)), (qB_voids, .inl (cB_voids, 4400, .inl B_voids))] U.heap ∧ va_K (dC, dI) vwCl [(cB_buffer, .int), (cB_words, .int), (cB_serials, .int), (cB_lengths, .int), (cB_kinds, .int), (cB_owners, .int), (cB_olders, .int), (cB_links, .int), (cB_voids, .boolean)] U ∧ va_D (fun _ => True) [(qB, .inr (1, [.int B_thrown, .ref qB_buffer, .ref qB_words, .ref qB_serials, .ref qB_lengths, .ref qB_kinds, .ref qB_owners, .ref qB_olders, .ref qB_links, .ref qB_voids, .int B_base, .int B_count, .int B_first, .int B_forced, .int B_end, .int B_closed, .int B_left, .int B_begun, .int B_begunLength])), (qB_buffer, .inl (cB_buffer, 200, .inl B_buffer)), (qB_words, .inl (cB_words, 65536, .inl B_words)), (qB_serials, .inl (cB_serials, 4400, .inl B_serials)), (qB_lengths, .inl (cB_lengths, 4400, .inl B_lengths)), (qB_kinds, .inl (cB_kinds, 4400, .inl B_kinds)), (qB_owners, .inl (cB_owners, 4400, .inl B_owners)), (qB_olders, .inl (cB_olders, 4400, .inl B_olders)), (qB_links, .inl (cB_links, 4400, .inl B_links)), (qB_voids, .inl (cB_voids, 4400, .inl B_voids))])
abbrev pcX_B (dC : Nat → ClassId) (dI : Nat → Nat → Nat) (qB qB_buffer qB_words qB_serials qB_lengths qB_kinds qB_owners qB_olders qB_links qB_voids : Nat) (cB_buffer cB_words cB_serials cB_lengths cB_kinds cB_owners cB_olders cB_links cB_voids : ClassId) (sz : Nat) (B_thrown : Int32) (B_buffer : Nat → Int32) (B_words : Nat → Int32) (B_serials : Nat → Int32) (B_lengths : Nat → Int32) (B_kinds : Nat → Int32) (B_owners : Nat → Int32) (B_olders : Nat → Int32) (B_links : Nat → Int32) (B_voids : Nat → Int32) (B_base : Int32) (B_count : Int32) (B_first : Int32) (B_forced : Int32) (B_end : Int32) (B_closed : Int32) (B_left : Int32) (B_begun : Int32) (B_begunLength : Int32) (av : List Value) : Array Value → State → Prop := va_Pc av (fun U => U.heap.size = sz ∧ va_P (dC, dI) vwCl [(qB, .inr (1, [.int B_thrown, .ref qB_buffer, .ref qB_words, .ref qB_serials, .ref qB_lengths, .ref qB_kinds, .ref qB_owners, .ref qB_olders, .ref qB_links, .ref qB_voids, .int B_base, .int B_count, .int B_first, .int B_forced, .int B_end, .int B_closed, .int B_left, .int B_begun, .int B_begunLength])), (qB_buffer, .inl (cB_buffer, 200, .inl B_buffer)), (qB_words, .inl (cB_words, 65536, .inl B_words)), (qB_serials, .inl (cB_serials, 4400, .inl B_serials)), (qB_lengths, .inl (cB_lengths, 4400, .inl B_lengths)), (qB_kinds, .inl (cB_kinds, 4400, .inl B_kinds)), (qB_owners, .inl (cB_owners, 4400, .inl B_owners)), (qB_olders, .inl (cB_olders, 4400, .inl B_olders)), (qB_links, .inl (cB_links, 4400, .inl B_links)), (qB_voids, .inl (cB_voids, 4400, .inl B_voids))] U.heap ∧ va_K (dC, dI) vwCl [(cB_buffer, .int), (cB_words, .int), (cB_serials, .int), (cB_lengths, .int), (cB_kinds, .int), (cB_owners, .int), (cB_olders, .int), (cB_links, .int), (cB_voids, .boolean)] U ∧ va_D (fun _ => True) [(qB, .inr (1, [.int B_thrown, .ref qB_buffer, .ref qB_words, .ref qB_serials, .ref qB_lengths, .ref qB_kinds, .ref qB_owners, .ref qB_olders, .ref qB_links, .ref qB_voids, .int B_base, .int B_count, .int B_first, .int B_forced, .int B_end, .int B_closed, .int B_left, .int B_begun, .int B_begunLength])), (qB_buffer, .inl (cB_buffer, 200, .inl B_buffer)), (qB_words, .inl (cB_words, 65536, .inl B_words)), (qB_serials, .inl (cB_serials, 4400, .inl B_serials)), (qB_lengths, .inl (cB_lengths, 4400, .inl B_lengths)), (qB_kinds, .inl (cB_kinds, 4400, .inl B_kinds)), (qB_owners, .inl (cB_owners, 4400, .inl B_owners)), (qB_olders, .inl (cB_olders, 4400, .inl B_olders)), (qB_links, .inl (cB_links, 4400, .inl B_links)), (qB_voids, .inl (cB_voids, 4400, .inl B_voids))] ∧ XW (va_A [(qB, .inr (1, [.int B_thrown, .ref qB_buffer, .ref qB_words, .ref qB_serials, .ref qB_lengths, .ref qB_kinds, .ref qB_owners, .ref qB_olders, .ref qB_links, .ref qB_voids, .int B_base, .int B_count, .int B_first, .int B_forced, .int B_end, .int B_closed, .int B_left, .int B_begun, .int B_begunLength])), (qB_buffer, .inl (cB_buffer, 200, .inl B_buffer)), (qB_words, .inl (cB_words, 65536, .inl B_words)), (qB_serials, .inl (cB_serials, 4400, .inl B_serials)), (qB_lengths, .inl (cB_lengths, 4400, .inl B_lengths)), (qB_kinds, .inl (cB_kinds, 4400, .inl B_kinds)), (qB_owners, .inl (cB_owners, 4400, .inl B_owners)), (qB_olders, .inl (cB_olders, 4400, .inl B_olders)), (qB_links, .inl (cB_links, 4400, .inl B_links)), (qB_voids, .inl (cB_voids, 4400, .inl B_voids))] sz) U)
theorem pcR_B_b (dC : Nat → ClassId) (dI : Nat → Nat → Nat) (qB qB_buffer qB_words qB_serials qB_lengths qB_kinds qB_owners qB_olders qB_links qB_voids : Nat) (cB_buffer cB_words cB_serials cB_lengths cB_kinds cB_owners cB_olders cB_links cB_voids : ClassId) (B_thrown : Int32) (B_buffer : Nat → Int32) (B_words : Nat → Int32) (B_serials : Nat → Int32) (B_lengths : Nat → Int32) (B_kinds : Nat → Int32) (B_owners : Nat → Int32) (B_olders : Nat → Int32) (B_links : Nat → Int32) (B_voids : Nat → Int32) (B_base : Int32) (B_count : Int32) (B_first : Int32) (B_forced : Int32) (B_end : Int32) (B_closed : Int32) (B_left : Int32) (B_begun : Int32) (B_begunLength : Int32) (av : List Value) : FrameBlind (pcR_B dC dI qB qB_buffer qB_words qB_serials qB_lengths qB_kinds qB_owners qB_olders qB_links qB_voids cB_buffer cB_words cB_serials cB_lengths cB_kinds cB_owners cB_olders cB_links cB_voids B_thrown B_buffer B_words B_serials B_lengths B_kinds B_owners B_olders B_links B_voids B_base B_count B_first B_forced B_end B_closed B_left B_begun B_begunLength av) := fun a U g mk q => by
  obtain ⟨q0, qP, qK⟩ := q
  exact ⟨q0, qP, va_K.moved (u := U) (U := U.calling g mk a) (Vm.Alike.refl U.vm) qK⟩
theorem pcW_B_b (dC : Nat → ClassId) (dI : Nat → Nat → Nat) (qB qB_buffer qB_words qB_serials qB_lengths qB_kinds qB_owners qB_olders qB_links qB_voids : Nat) (cB_buffer cB_words cB_serials cB_lengths cB_kinds cB_owners cB_olders cB_links cB_voids : ClassId) (sz : Nat) (B_thrown : Int32) (B_buffer : Nat → Int32) (B_words : Nat → Int32) (B_serials : Nat → Int32) (B_lengths : Nat → Int32) (B_kinds : Nat → Int32) (B_owners : Nat → Int32) (B_olders : Nat → Int32) (B_links : Nat → Int32) (B_voids : Nat → Int32) (B_base : Int32) (B_count : Int32) (B_first : Int32) (B_forced : Int32) (B_end : Int32) (B_closed : Int32) (B_left : Int32) (B_begun : Int32) (B_begunLength : Int32) (av : List Value) : FrameBlind (pcW_B dC dI qB qB_buffer qB_words qB_serials qB_lengths qB_kinds qB_owners qB_olders qB_links qB_voids cB_buffer cB_words cB_serials cB_lengths cB_kinds cB_owners cB_olders cB_links cB_voids sz B_thrown B_buffer B_words B_serials B_lengths B_kinds B_owners B_olders B_links B_voids B_base B_count B_first B_forced B_end B_closed B_left B_begun B_begunLength av) := fun a U g mk q => by
  obtain ⟨q0, q1, qP, qK, qD⟩ := q
  exact ⟨q0, q1, qP, va_K.moved (u := U) (U := U.calling g mk a) (Vm.Alike.refl U.vm) qK, qD⟩
theorem pcX_B_b (dC : Nat → ClassId) (dI : Nat → Nat → Nat) (qB qB_buffer qB_words qB_serials qB_lengths qB_kinds qB_owners qB_olders qB_links qB_voids : Nat) (cB_buffer cB_words cB_serials cB_lengths cB_kinds cB_owners cB_olders cB_links cB_voids : ClassId) (sz : Nat) (B_thrown : Int32) (B_buffer : Nat → Int32) (B_words : Nat → Int32) (B_serials : Nat → Int32) (B_lengths : Nat → Int32) (B_kinds : Nat → Int32) (B_owners : Nat → Int32) (B_olders : Nat → Int32) (B_links : Nat → Int32) (B_voids : Nat → Int32) (B_base : Int32) (B_count : Int32) (B_first : Int32) (B_forced : Int32) (B_end : Int32) (B_closed : Int32) (B_left : Int32) (B_begun : Int32) (B_begunLength : Int32) (av : List Value) : FrameBlind (pcX_B dC dI qB qB_buffer qB_words qB_serials qB_lengths qB_kinds qB_owners qB_olders qB_links qB_voids cB_buffer cB_words cB_serials cB_lengths cB_kinds cB_owners cB_olders cB_links cB_voids sz B_thrown B_buffer B_words B_serials B_lengths B_kinds B_owners B_olders B_links B_voids B_base B_count B_first B_forced B_end B_closed B_left B_begun B_begunLength av) := fun a U g mk q => by
  obtain ⟨q0, q1, qP, qK, qD, qX⟩ := q
  exact ⟨q0, q1, qP, va_K.moved (u := U) (U := U.calling g mk a) (Vm.Alike.refl U.vm) qK, qD, XW.blind qX⟩
abbrev St_AO : Type := (Nat → Int32) × (Nat → Int32) × Int32 × Int32 × Int32 × Int32 × Int32 × (Nat → Int64)
abbrev at_AO (dC : Nat → ClassId) (dI : Nat → Nat → Nat) (A : Nat → Prop) (qA qA_ring qA_buffer qO : Nat) (cA_ring cA_buffer cO : ClassId) (u : St_AO) (t : State) : Prop := match u with
  | (A_ring, A_buffer, A_firstPlace, A_forcedPlace, A_endPlace, A_wordsToFailure, A_opened, O_v) => va_P (dC, dI) vwCl [(qA, .inr (0, [.ref qA_ring, .ref qA_buffer, .int A_firstPlace, .int A_forcedPlace, .int A_endPlace, .int A_wordsToFailure, .int A_opened])), (qA_ring, .inl (cA_ring, 65536, .inl A_ring)), (qA_buffer, .inl (cA_buffer, 200, .inl A_buffer)), (qO, .inl (cO, 1, .inr (.inl O_v)))] t.heap ∧ va_K (dC, dI) vwCl [(cA_ring, .int), (cA_buffer, .int), (cO, .long)] t ∧ va_D A [(qA, .inr (0, [.ref qA_ring, .ref qA_buffer, .int A_firstPlace, .int A_forcedPlace, .int A_endPlace, .int A_wordsToFailure, .int A_opened])), (qA_ring, .inl (cA_ring, 65536, .inl A_ring)), (qA_buffer, .inl (cA_buffer, 200, .inl A_buffer)), (qO, .inl (cO, 1, .inr (.inl O_v)))]
abbrev pcR_AO (dC : Nat → ClassId) (dI : Nat → Nat → Nat) (qA qA_ring qA_buffer qO : Nat) (cA_ring cA_buffer cO : ClassId) (A_ring : Nat → Int32) (A_buffer : Nat → Int32) (A_firstPlace : Int32) (A_forcedPlace : Int32) (A_endPlace : Int32) (A_wordsToFailure : Int32) (A_opened : Int32) (O_v : Nat → Int64) (av : List Value) : Array Value → State → Prop := va_Pc av (fun U => va_P (dC, dI) vwCl [(qA, .inr (0, [.ref qA_ring, .ref qA_buffer, .int A_firstPlace, .int A_forcedPlace, .int A_endPlace, .int A_wordsToFailure, .int A_opened])), (qA_ring, .inl (cA_ring, 65536, .inl A_ring)), (qA_buffer, .inl (cA_buffer, 200, .inl A_buffer)), (qO, .inl (cO, 1, .inr (.inl O_v)))] U.heap ∧ va_K (dC, dI) vwCl [(cA_ring, .int), (cA_buffer, .int), (cO, .long)] U)
abbrev pcW_AO (dC : Nat → ClassId) (dI : Nat → Nat → Nat) (qA qA_ring qA_buffer qO : Nat) (cA_ring cA_buffer cO : ClassId) (sz : Nat) (A_ring : Nat → Int32) (A_buffer : Nat → Int32) (A_firstPlace : Int32) (A_forcedPlace : Int32) (A_endPlace : Int32) (A_wordsToFailure : Int32) (A_opened : Int32) (O_v : Nat → Int64) (av : List Value) : Array Value → State → Prop := va_Pc av (fun U => U.heap.size = sz ∧ va_P (dC, dI) vwCl [(qA, .inr (0, [.ref qA_ring, .ref qA_buffer, .int A_firstPlace, .int A_forcedPlace, .int A_endPlace, .int A_wordsToFailure, .int A_opened])), (qA_ring, .inl (cA_ring, 65536, .inl A_ring)), (qA_buffer, .inl (cA_buffer, 200, .inl A_buffer)), (qO, .inl (cO, 1, .inr (.inl O_v)))] U.heap ∧ va_K (dC, dI) vwCl [(cA_ring, .int), (cA_buffer, .int), (cO, .long)] U ∧ va_D (fun _ => True) [(qA, .inr (0, [.ref qA_ring, .ref qA_buffer, .int A_firstPlace, .int A_forcedPlace, .int A_endPlace, .int A_wordsToFailure, .int A_opened])), (qA_ring, .inl (cA_ring, 65536, .inl A_ring)), (qA_buffer, .inl (cA_buffer, 200, .inl A_buffer)), (qO, .inl (cO, 1, .inr (.inl O_v)))])
abbrev pcX_AO (dC : Nat → ClassId) (dI : Nat → Nat → Nat) (qA qA_ring qA_buffer qO : Nat) (cA_ring cA_buffer cO : ClassId) (sz : Nat) (A_ring : Nat → Int32) (A_buffer : Nat → Int32) (A_firstPlace : Int32) (A_forcedPlace : Int32) (A_endPlace : Int32) (A_wordsToFailure : Int32) (A_opened : Int32) (O_v : Nat → Int64) (av : List Value) : Array Value → State → Prop := va_Pc av (fun U => U.heap.size = sz ∧ va_P (dC, dI) vwCl [(qA, .inr (0, [.ref qA_ring, .ref qA_buffer, .int A_firstPlace, .int A_forcedPlace, .int A_endPlace, .int A_wordsToFailure, .int A_opened])), (qA_ring, .inl (cA_ring, 65536, .inl A_ring)), (qA_buffer, .inl (cA_buffer, 200, .inl A_buffer)), (qO, .inl (cO, 1, .inr (.inl O_v)))] U.heap ∧ va_K (dC, dI) vwCl [(cA_ring, .int), (cA_buffer, .int), (cO, .long)] U ∧ va_D (fun _ => True) [(qA, .inr (0, [.ref qA_ring, .ref qA_buffer, .int A_firstPlace, .int A_forcedPlace, .int A_endPlace, .int A_wordsToFailure, .int A_opened])), (qA_ring, .inl (cA_ring, 65536, .inl A_ring)), (qA_buffer, .inl (cA_buffer, 200, .inl A_buffer)), (qO, .inl (cO, 1, .inr (.inl O_v)))] ∧ XW (va_A [(qA, .inr (0, [.ref qA_ring, .ref qA_buffer, .int A_firstPlace, .int A_forcedPlace, .int A_endPlace, .int A_wordsToFailure, .int A_opened])), (qA_ring, .inl (cA_ring, 65536, .inl A_ring)), (qA_buffer, .inl (cA_buffer, 200, .inl A_buffer)), (qO, .inl (cO, 1, .inr (.inl O_v)))] sz) U)
theorem pcR_AO_b (dC : Nat → ClassId) (dI : Nat → Nat → Nat) (qA qA_ring qA_buffer qO : Nat) (cA_ring cA_buffer cO : ClassId) (A_ring : Nat → Int32) (A_buffer : Nat → Int32) (A_firstPlace : Int32) (A_forcedPlace : Int32) (A_endPlace : Int32) (A_wordsToFailure : Int32) (A_opened : Int32) (O_v : Nat → Int64) (av : List Value) : FrameBlind (pcR_AO dC dI qA qA_ring qA_buffer qO cA_ring cA_buffer cO A_ring A_buffer A_firstPlace A_forcedPlace A_endPlace A_wordsToFailure A_opened O_v av) := fun a U g mk q => by
  obtain ⟨q0, qP, qK⟩ := q
  exact ⟨q0, qP, va_K.moved (u := U) (U := U.calling g mk a) (Vm.Alike.refl U.vm) qK⟩
theorem pcW_AO_b (dC : Nat → ClassId) (dI : Nat → Nat → Nat) (qA qA_ring qA_buffer qO : Nat) (cA_ring cA_buffer cO : ClassId) (sz : Nat) (A_ring : Nat → Int32) (A_buffer : Nat → Int32) (A_firstPlace : Int32) (A_forcedPlace : Int32) (A_endPlace : Int32) (A_wordsToFailure : Int32) (A_opened : Int32) (O_v : Nat → Int64) (av : List Value) : FrameBlind (pcW_AO dC dI qA qA_ring qA_buffer qO cA_ring cA_buffer cO sz A_ring A_buffer A_firstPlace A_forcedPlace A_endPlace A_wordsToFailure A_opened O_v av) := fun a U g mk q => by
  obtain ⟨q0, q1, qP, qK, qD⟩ := q
  exact ⟨q0, q1, qP, va_K.moved (u := U) (U := U.calling g mk a) (Vm.Alike.refl U.vm) qK, qD⟩
theorem pcX_AO_b (dC : Nat → ClassId) (dI : Nat → Nat → Nat) (qA qA_ring qA_buffer qO : Nat) (cA_ring cA_buffer cO : ClassId) (sz : Nat) (A_ring : Nat → Int32) (A_buffer : Nat → Int32) (A_firstPlace : Int32) (A_forcedPlace : Int32) (A_endPlace : Int32) (A_wordsToFailure : Int32) (A_opened : Int32) (O_v : Nat → Int64) (av : List Value) : FrameBlind (pcX_AO dC dI qA qA_ring qA_buffer qO cA_ring cA_buffer cO sz A_ring A_buffer A_firstPlace A_forcedPlace A_endPlace A_wordsToFailure A_opened O_v av) := fun a U g mk q => by
  obtain ⟨q0, q1, qP, qK, qD, qX⟩ := q
  exact ⟨q0, q1, qP, va_K.moved (u := U) (U := U.calling g mk a) (Vm.Alike.refl U.vm) qK, qD, XW.blind qX⟩
abbrev St_ABO : Type := (Nat → Int32) × (Nat → Int32) × Int32 × Int32 × Int32 × Int32 × Int32 × Int32 × (Nat → Int32) × (Nat → Int32) × (Nat → Int32) × (Nat → Int32) × (Nat → Int32) × (Nat → Int32) × (Nat → Int32) × (Nat → Int32) × (Nat → Int32) × Int32 × Int32 × Int32 × Int32 × Int32 × Int32 × Int32 × Int32 × Int32 × (Nat → Int64)
abbrev at_ABO (dC : Nat → ClassId) (dI : Nat → Nat → Nat) (A : Nat → Prop) (qA qA_ring qA_buffer qB qB_buffer qB_words qB_serials qB_lengths qB_kinds qB_owners qB_olders qB_links qB_voids qO : Nat) (cA_ring cA_buffer cB_buffer cB_words cB_serials cB_lengths cB_kinds cB_owners cB_olders cB_links cB_voids cO : ClassId) (u : St_ABO) (t : State) : Prop := match u with
  | (A_ring, A_buffer, A_firstPlace, A_forcedPlace, A_endPlace, A_wordsToFailure, A_opened, B_thrown, B_buffer, B_words, B_serials, B_lengths, B_kinds, B_owners, B_olders, B_links, B_voids, B_base, B_count, B_first, B_forced, B_end, B_closed, B_left, B_begun, B_begunLength, O_v) => va_P (dC, dI) vwCl [(qA, .inr (0, [.ref qA_ring, .ref qA_buffer, .int A_firstPlace, .int A_forcedPlace, .int A_endPlace, .int A_wordsToFailure, .int A_opened])), (qA_ring, .inl (cA_ring, 65536, .inl A_ring)), (qA_buffer, .inl (cA_buffer, 200, .inl A_buffer)), (qB, .inr (1, [.int B_thrown, .ref qB_buffer, .ref qB_words, .ref qB_serials, .ref qB_lengths, .ref qB_kinds, .ref qB_owners, .ref qB_olders, .ref qB_links, .ref qB_voids, .int B_base, .int B_count, .int B_first, .int B_forced, .int B_end, .int B_closed, .int B_left, .int B_begun, .int B_begunLength])), (qB_buffer, .inl (cB_buffer, 200, .inl B_buffer)), (qB_words, .inl (cB_words, 65536, .inl B_words)), (qB_serials, .inl (cB_serials, 4400, .inl B_serials)), (qB_lengths, .inl (cB_lengths, 4400, .inl B_lengths)), (qB_kinds, .inl (cB_kinds, 4400, .inl B_kinds)), (qB_owners, .inl (cB_owners, 4400, .inl B_owners)), (qB_olders, .inl (cB_olders, 4400, .inl B_olders)), (qB_links, .inl (cB_links, 4400, .inl B_links)), (qB_voids, .inl (cB_voids, 4400, .inl B_voids)), (qO, .inl (cO, 1, .inr (.inl O_v)))] t.heap ∧ va_K (dC, dI) vwCl [(cA_ring, .int), (cA_buffer, .int), (cB_buffer, .int), (cB_words, .int), (cB_serials, .int), (cB_lengths, .int), (cB_kinds, .int), (cB_owners, .int), (cB_olders, .int), (cB_links, .int), (cB_voids, .boolean), (cO, .long)] t ∧ va_D A [(qA, .inr (0, [.ref qA_ring, .ref qA_buffer, .int A_firstPlace, .int A_forcedPlace, .int A_endPlace, .int A_wordsToFailure, .int A_opened])), (qA_ring, .inl (cA_ring, 65536, .inl A_ring)), (qA_buffer, .inl (cA_buffer, 200, .inl A_buffer)), (qB, .inr (1, [.int B_thrown, .ref qB_buffer, .ref qB_words, .ref qB_serials, .ref qB_lengths, .ref qB_kinds, .ref qB_owners, .ref qB_olders, .ref qB_links, .ref qB_voids, .int B_base, .int B_count, .int B_first, .int B_forced, .int B_end, .int B_closed, .int B_left, .int B_begun, .int B_begunLength])), (qB_buffer, .inl (cB_buffer, 200, .inl B_buffer)), (qB_words, .inl (cB_words, 65536, .inl B_words)), (qB_serials, .inl (cB_serials, 4400, .inl B_serials)), (qB_lengths, .inl (cB_lengths, 4400, .inl B_lengths)), (qB_kinds, .inl (cB_kinds, 4400, .inl B_kinds)), (qB_owners, .inl (cB_owners, 4400, .inl B_owners)), (qB_olders, .inl (cB_olders, 4400, .inl B_olders)), (qB_links, .inl (cB_links, 4400, .inl B_links)), (qB_voids, .inl (cB_voids, 4400, .inl B_voids)), (qO, .inl (cO, 1, .inr (.inl O_v)))]
abbrev pcR_ABO (dC : Nat → ClassId) (dI : Nat → Nat → Nat) (qA qA_ring qA_buffer qB qB_buffer qB_words qB_serials qB_lengths qB_kinds qB_owners qB_olders qB_links qB_voids qO : Nat) (cA_ring cA_buffer cB_buffer cB_words cB_serials cB_lengths cB_kinds cB_owners cB_olders cB_links cB_voids cO : ClassId) (A_ring : Nat → Int32) (A_buffer : Nat → Int32) (A_firstPlace : Int32) (A_forcedPlace : Int32) (A_endPlace : Int32) (A_wordsToFailure : Int32) (A_opened : Int32) (B_thrown : Int32) (B_buffer : Nat → Int32) (B_words : Nat → Int32) (B_serials : Nat → Int32) (B_lengths : Nat → Int32) (B_kinds : Nat → Int32) (B_owners : Nat → Int32) (B_olders : Nat → Int32) (B_links : Nat → Int32) (B_voids : Nat → Int32) (B_base : Int32) (B_count : Int32) (B_first : Int32) (B_forced : Int32) (B_end : Int32) (B_closed : Int32) (B_left : Int32) (B_begun : Int32) (B_begunLength : Int32) (O_v : Nat → Int64) (av : List Value) : Array Value → State → Prop := va_Pc av (fun U => va_P (dC, dI) vwCl [(qA, .inr (0, [.ref qA_ring, .ref qA_buffer, .int A_firstPlace, .int A_forcedPlace, .int A_endPlace, .int A_wordsToFailure, .int A_opened])), (qA_ring, .inl (cA_ring, 65536, .inl A_ring)), (qA_buffer, .inl (cA_buffer, 200, .inl A_buffer)), (qB, .inr (1, [.int B_thrown, .ref qB_buffer, .ref qB_words, .ref qB_serials, .ref qB_lengths, .ref qB_kinds, .ref qB_owners, .ref qB_olders, .ref qB_links, .ref qB_voids, .int B_base, .int B_count, .int B_first, .int B_forced, .int B_end, .int B_closed, .int B_left, .int B_begun, .int B_begunLength])), (qB_buffer, .inl (cB_buffer, 200, .inl B_buffer)), (qB_words, .inl (cB_words, 65536, .inl B_words)), (qB_serials, .inl (cB_serials, 4400, .inl B_serials)), (qB_lengths, .inl (cB_lengths, 4400, .inl B_lengths)), (qB_kinds, .inl (cB_kinds, 4400, .inl B_kinds)), (qB_owners, .inl (cB_owners, 4400, .inl B_owners)), (qB_olders, .inl (cB_olders, 4400, .inl B_olders)), (qB_links, .inl (cB_links, 4400, .inl B_links)), (qB_voids, .inl (cB_voids, 4400, .inl B_voids)), (qO, .inl (cO, 1, .inr (.inl O_v)))] U.heap ∧ va_K (dC, dI) vwCl [(cA_ring, .int), (cA_buffer, .int), (cB_buffer, .int), (cB_words, .int), (cB_serials, .int), (cB_lengths, .int), (cB_kinds, .int), (cB_owners, .int), (cB_olders, .int), (cB_links, .int), (cB_voids, .boolean), (cO, .long)] U)
abbrev pcW_ABO (dC : Nat → ClassId) (dI : Nat → Nat → Nat) (qA qA_ring qA_buffer qB qB_buffer qB_words qB_serials qB_lengths qB_kinds qB_owners qB_olders qB_links qB_voids qO : Nat) (cA_ring cA_buffer cB_buffer cB_words cB_serials cB_lengths cB_kinds cB_owners cB_olders cB_links cB_voids cO : ClassId) (sz : Nat) (A_ring : Nat → Int32) (A_buffer : Nat → Int32) (A_firstPlace : Int32) (A_forcedPlace : Int32) (A_endPlace : Int32) (A_wordsToFailure : Int32) (A_opened : Int32) (B_thrown : Int32) (B_buffer : Nat → Int32) (B_words : Nat → Int32) (B_serials : Nat → Int32) (B_lengths : Nat → Int32) (B_kinds : Nat → Int32) (B_owners : Nat → Int32) (B_olders : Nat → Int32) (B_links : Nat → Int32) (B_voids : Nat → Int32) (B_base : Int32) (B_count : Int32) (B_first : Int32) (B_forced : Int32) (B_end : Int32) (B_closed : Int32) (B_left : Int32) (B_begun : Int32) (B_begunLength : Int32) (O_v : Nat → Int64) (av : List Value) : Array Value → State → Prop := va_Pc av (fun U => U.heap.size = sz ∧ va_P (dC, dI) vwCl [(qA, .inr (0, [.ref qA_ring, .ref qA_buffer, .int A_firstPlace, .int A_forcedPlace, .int A_endPlace, .int A_wordsToFailure, .int A_opened])), (qA_ring, .inl (cA_ring, 65536, .inl A_ring)), (qA_buffer, .inl (cA_buffer, 200, .inl A_buffer)), (qB, .inr (1, [.int B_thrown, .ref qB_buffer, .ref qB_words, .ref qB_serials, .ref qB_lengths, .ref qB_kinds, .ref qB_owners, .ref qB_olders, .ref qB_links, .ref qB_voids, .int B_base, .int B_count, .int B_first, .int B_forced, .int B_end, .int B_closed, .int B_left, .int B_begun, .int B_begunLength])), (qB_buffer, .inl (cB_buffer, 200, .inl B_buffer)), (qB_words, .inl (cB_words, 65536, .inl B_words)), (qB_serials, .inl (cB_serials, 4400, .inl B_serials)), (qB_lengths, .inl (cB_lengths, 4400, .inl B_lengths)), (qB_kinds, .inl (cB_kinds, 4400, .inl B_kinds)), (qB_owners, .inl (cB_owners, 4400, .inl B_owners)), (qB_olders, .inl (cB_olders, 4400, .inl B_olders)), (qB_links, .inl (cB_links, 4400, .inl B_links)), (qB_voids, .inl (cB_voids, 4400, .inl B_voids)), (qO, .inl (cO, 1, .inr (.inl O_v)))] U.heap ∧ va_K (dC, dI) vwCl [(cA_ring, .int), (cA_buffer, .int), (cB_buffer, .int), (cB_words, .int), (cB_serials, .int), (cB_lengths, .int), (cB_kinds, .int), (cB_owners, .int), (cB_olders, .int), (cB_links, .int), (cB_voids, .boolean), (cO, .long)] U ∧ va_D (fun _ => True) [(qA, .inr (0, [.ref qA_ring, .ref qA_buffer, .int A_firstPlace, .int A_forcedPlace, .int A_endPlace, .int A_wordsToFailure, .int A_opened])), (qA_ring, .inl (cA_ring, 65536, .inl A_ring)), (qA_buffer, .inl (cA_buffer, 200, .inl A_buffer)), (qB, .inr (1, [.int B_thrown, .ref qB_buffer, .ref qB_words, .ref qB_serials, .ref qB_lengths, .ref qB_kinds, .ref qB_owners, .ref qB_olders, .ref qB_links, .ref qB_voids, .int B_base, .int B_count, .int B_first, .int B_forced, .int B_end, .int B_closed, .int B_left, .int B_begun, .int B_begunLength])), (qB_buffer, .inl (cB_buffer, 200, .inl B_buffer)), (qB_words, .inl (cB_words, 65536, .inl B_words)), (qB_serials, .inl (cB_serials, 4400, .inl B_serials)), (qB_lengths, .inl (cB_lengths, 4400, .inl B_lengths)), (qB_kinds, .inl (cB_kinds, 4400, .inl B_kinds)), (qB_owners, .inl (cB_owners, 4400, .inl B_owners)), (qB_olders, .inl (cB_olders, 4400, .inl B_olders)), (qB_links, .inl (cB_links, 4400, .inl B_links)), (qB_voids, .inl (cB_voids, 4400, .inl B_voids)), (qO, .inl (cO, 1, .inr (.inl O_v)))])
abbrev pcX_ABO (dC : Nat → ClassId) (dI : Nat → Nat → Nat) (qA qA_ring qA_buffer qB qB_buffer qB_words qB_serials qB_lengths qB_kinds qB_owners qB_olders qB_links qB_voids qO : Nat) (cA_ring cA_buffer cB_buffer cB_words cB_serials cB_lengths cB_kinds cB_owners cB_olders cB_links cB_voids cO : ClassId) (sz : Nat) (A_ring : Nat → Int32) (A_buffer : Nat → Int32) (A_firstPlace : Int32) (A_forcedPlace : Int32) (A_endPlace : Int32) (A_wordsToFailure : Int32) (A_opened : Int32) (B_thrown : Int32) (B_buffer : Nat → Int32) (B_words : Nat → Int32) (B_serials : Nat → Int32) (B_lengths : Nat → Int32) (B_kinds : Nat → Int32) (B_owners : Nat → Int32) (B_olders : Nat → Int32) (B_links : Nat → Int32) (B_voids : Nat → Int32) (B_base : Int32) (B_count : Int32) (B_first : Int32) (B_forced : Int32) (B_end : Int32) (B_closed : Int32) (B_left : Int32) (B_begun : Int32) (B_begunLength : Int32) (O_v : Nat → Int64) (av : List Value) : Array Value → State → Prop := va_Pc av (fun U => U.heap.size = sz ∧ va_P (dC, dI) vwCl [(qA, .inr (0, [.ref qA_ring, .ref qA_buffer, .int A_firstPlace, .int A_forcedPlace, .int A_endPlace, .int A_wordsToFailure, .int A_opened])), (qA_ring, .inl (cA_ring, 65536, .inl A_ring)), (qA_buffer, .inl (cA_buffer, 200, .inl A_buffer)), (qB, .inr (1, [.int B_thrown, .ref qB_buffer, .ref qB_words, .ref qB_serials, .ref qB_lengths, .ref qB_kinds, .ref qB_owners, .ref qB_olders, .ref qB_links, .ref qB_voids, .int B_base, .int B_count, .int B_first, .int B_forced, .int B_end, .int B_closed, .int B_left, .int B_begun, .int B_begunLength])), (qB_buffer, .inl (cB_buffer, 200, .inl B_buffer)), (qB_words, .inl (cB_words, 65536, .inl B_words)), (qB_serials, .inl (cB_serials, 4400, .inl B_serials)), (qB_lengths, .inl (cB_lengths, 4400, .inl B_lengths)), (qB_kinds, .inl (cB_kinds, 4400, .inl B_kinds)), (qB_owners, .inl (cB_owners, 4400, .inl B_owners)), (qB_olders, .inl (cB_olders, 4400, .inl B_olders)), (qB_links, .inl (cB_links, 4400, .inl B_links)), (qB_voids, .inl (cB_voids, 4400, .inl B_voids)), (qO, .inl (cO, 1, .inr (.inl O_v)))] U.heap ∧ va_K (dC, dI) vwCl [(cA_ring, .int), (cA_buffer, .int), (cB_buffer, .int), (cB_words, .int), (cB_serials, .int), (cB_lengths, .int), (cB_kinds, .int), (cB_owners, .int), (cB_olders, .int), (cB_links, .int), (cB_voids, .boolean), (cO, .long)] U ∧ va_D (fun _ => True) [(qA, .inr (0, [.ref qA_ring, .ref qA_buffer, .int A_firstPlace, .int A_forcedPlace, .int A_endPlace, .int A_wordsToFailure, .int A_opened])), (qA_ring, .inl (cA_ring, 65536, .inl A_ring)), (qA_buffer, .inl (cA_buffer, 200, .inl A_buffer)), (qB, .inr (1, [.int B_thrown, .ref qB_buffer, .ref qB_words, .ref qB_serials, .ref qB_lengths, .ref qB_kinds, .ref qB_owners, .ref qB_olders, .ref qB_links, .ref qB_voids, .int B_base, .int B_count, .int B_first, .int B_forced, .int B_end, .int B_closed, .int B_left, .int B_begun, .int B_begunLength])), (qB_buffer, .inl (cB_buffer, 200, .inl B_buffer)), (qB_words, .inl (cB_words, 65536, .inl B_words)), (qB_serials, .inl (cB_serials, 4400, .inl B_serials)), (qB_lengths, .inl (cB_lengths, 4400, .inl B_lengths)), (qB_kinds, .inl (cB_kinds, 4400, .inl B_kinds)), (qB_owners, .inl (cB_owners, 4400, .inl B_owners)), (qB_olders, .inl (cB_olders, 4400, .inl B_olders)), (qB_links, .inl (cB_links, 4400, .inl B_links)), (qB_voids, .inl (cB_voids, 4400, .inl B_voids)), (qO, .inl (cO, 1, .inr (.inl O_v)))] ∧ XW (va_A [(qA, .inr (0, [.ref qA_ring, .ref qA_buffer, .int A_firstPlace, .int A_forcedPlace, .int A_endPlace, .int A_wordsToFailure, .int A_opened])), (qA_ring, .inl (cA_ring, 65536, .inl A_ring)), (qA_buffer, .inl (cA_buffer, 200, .inl A_buffer)), (qB, .inr (1, [.int B_thrown, .ref qB_buffer, .ref qB_words, .ref qB_serials, .ref qB_lengths, .ref qB_kinds, .ref qB_owners, .ref qB_olders, .ref qB_links, .ref qB_voids, .int B_base, .int B_count, .int B_first, .int B_forced, .int B_end, .int B_closed, .int B_left, .int B_begun, .int B_begunLength])), (qB_buffer, .inl (cB_buffer, 200, .inl B_buffer)), (qB_words, .inl (cB_words, 65536, .inl B_words)), (qB_serials, .inl (cB_serials, 4400, .inl B_serials)), (qB_lengths, .inl (cB_lengths, 4400, .inl B_lengths)), (qB_kinds, .inl (cB_kinds, 4400, .inl B_kinds)), (qB_owners, .inl (cB_owners, 4400, .inl B_owners)), (qB_olders, .inl (cB_olders, 4400, .inl B_olders)), (qB_links, .inl (cB_links, 4400, .inl B_links)), (qB_voids, .inl (cB_voids, 4400, .inl B_voids)), (qO, .inl (cO, 1, .inr (.inl O_v)))] sz) U)
theorem pcR_ABO_b (dC : Nat → ClassId) (dI : Nat → Nat → Nat) (qA qA_ring qA_buffer qB qB_buffer qB_words qB_serials qB_lengths qB_kinds qB_owners qB_olders qB_links qB_voids qO : Nat) (cA_ring cA_buffer cB_buffer cB_words cB_serials cB_lengths cB_kinds cB_owners cB_olders cB_links cB_voids cO : ClassId) (A_ring : Nat → Int32) (A_buffer : Nat → Int32) (A_firstPlace : Int32) (A_forcedPlace : Int32) (A_endPlace : Int32) (A_wordsToFailure : Int32) (A_opened : Int32) (B_thrown : Int32) (B_buffer : Nat → Int32) (B_words : Nat → Int32) (B_serials : Nat → Int32) (B_lengths : Nat → Int32) (B_kinds : Nat → Int32) (B_owners : Nat → Int32) (B_olders : Nat → Int32) (B_links : Nat → Int32) (B_voids : Nat → Int32) (B_base : Int32) (B_count : Int32) (B_first : Int32) (B_forced : Int32) (B_end : Int32) (B_closed : Int32) (B_left : Int32) (B_begun : Int32) (B_begunLength : Int32) (O_v : Nat → Int64) (av : List Value) : FrameBlind (pcR_ABO dC dI qA qA_ring qA_buffer qB qB_buffer qB_words qB_serials qB_lengths qB_kinds qB_owners qB_olders qB_links qB_voids qO cA_ring cA_buffer cB_buffer cB_words cB_serials cB_lengths cB_kinds cB_owners cB_olders cB_links cB_voids cO A_ring A_buffer A_firstPlace A_forcedPlace A_endPlace A_wordsToFailure A_opened B_thrown B_buffer B_words B_serials B_lengths B_kinds B_owners B_olders B_links B_voids B_base B_count B_first B_forced B_end B_closed B_left B_begun B_begunLength O_v av) := fun a U g mk q => by
  obtain ⟨q0, qP, qK⟩ := q
  exact ⟨q0, qP, va_K.moved (u := U) (U := U.calling g mk a) (Vm.Alike.refl U.vm) qK⟩
theorem pcW_ABO_b (dC : Nat → ClassId) (dI : Nat → Nat → Nat) (qA qA_ring qA_buffer qB qB_buffer qB_words qB_serials qB_lengths qB_kinds qB_owners qB_olders qB_links qB_voids qO : Nat) (cA_ring cA_buffer cB_buffer cB_words cB_serials cB_lengths cB_kinds cB_owners cB_olders cB_links cB_voids cO : ClassId) (sz : Nat) (A_ring : Nat → Int32) (A_buffer : Nat → Int32) (A_firstPlace : Int32) (A_forcedPlace : Int32) (A_endPlace : Int32) (A_wordsToFailure : Int32) (A_opened : Int32) (B_thrown : Int32) (B_buffer : Nat → Int32) (B_words : Nat → Int32) (B_serials : Nat → Int32) (B_lengths : Nat → Int32) (B_kinds : Nat → Int32) (B_owners : Nat → Int32) (B_olders : Nat → Int32) (B_links : Nat → Int32) (B_voids : Nat → Int32) (B_base : Int32) (B_count : Int32) (B_first : Int32) (B_forced : Int32) (B_end : Int32) (B_closed : Int32) (B_left : Int32) (B_begun : Int32) (B_begunLength : Int32) (O_v : Nat → Int64) (av : List Value) : FrameBlind (pcW_ABO dC dI qA qA_ring qA_buffer qB qB_buffer qB_words qB_serials qB_lengths qB_kinds qB_owners qB_olders qB_links qB_voids qO cA_ring cA_buffer cB_buffer cB_words cB_serials cB_lengths cB_kinds cB_owners cB_olders cB_links cB_voids cO sz A_ring A_buffer A_firstPlace A_forcedPlace A_endPlace A_wordsToFailure A_opened B_thrown B_buffer B_words B_serials B_lengths B_kinds B_owners B_olders B_links B_voids B_base B_count B_first B_forced B_end B_closed B_left B_begun B_begunLength O_v av) := fun a U g mk q => by
  obtain ⟨q0, q1, qP, qK, qD⟩ := q
  exact ⟨q0, q1, qP, va_K.moved (u := U) (U := U.calling g mk a) (Vm.Alike.refl U.vm) qK, qD⟩
theorem pcX_ABO_b (dC : Nat → ClassId) (dI : Nat → Nat → Nat) (qA qA_ring qA_buffer qB qB_buffer qB_words qB_serials qB_lengths qB_kinds qB_owners qB_olders qB_links qB_voids qO : Nat) (cA_ring cA_buffer cB_buffer cB_words cB_serials cB_lengths cB_kinds cB_owners cB_olders cB_links cB_voids cO : ClassId) (sz : Nat) (A_ring : Nat → Int32) (A_buffer : Nat → Int32) (A_firstPlace : Int32) (A_forcedPlace : Int32) (A_endPlace : Int32) (A_wordsToFailure : Int32) (A_opened : Int32) (B_thrown : Int32) (B_buffer : Nat → Int32) (B_words : Nat → Int32) (B_serials : Nat → Int32) (B_lengths : Nat → Int32) (B_kinds : Nat → Int32) (B_owners : Nat → Int32) (B_olders : Nat → Int32) (B_links : Nat → Int32) (B_voids : Nat → Int32) (B_base : Int32) (B_count : Int32) (B_first : Int32) (B_forced : Int32) (B_end : Int32) (B_closed : Int32) (B_left : Int32) (B_begun : Int32) (B_begunLength : Int32) (O_v : Nat → Int64) (av : List Value) : FrameBlind (pcX_ABO dC dI qA qA_ring qA_buffer qB qB_buffer qB_words qB_serials qB_lengths qB_kinds qB_owners qB_olders qB_links qB_voids qO cA_ring cA_buffer cB_buffer cB_words cB_serials cB_lengths cB_kinds cB_owners cB_olders cB_links cB_voids cO sz A_ring A_buffer A_firstPlace A_forcedPlace A_endPlace A_wordsToFailure A_opened B_thrown B_buffer B_words B_serials B_lengths B_kinds B_owners B_olders B_links B_voids B_base B_count B_first B_forced B_end B_closed B_left B_begun B_begunLength O_v av) := fun a U g mk q => by
  obtain ⟨q0, q1, qP, qK, qD, qX⟩ := q
  exact ⟨q0, q1, qP, va_K.moved (u := U) (U := U.calling g mk a) (Vm.Alike.refl U.vm) qK, qD, XW.blind qX⟩
abbrev pcR_N (dC : Nat → ClassId) (dI : Nat → Nat → Nat) (av : List Value) : Array Value → State → Prop := va_Pc av (fun U => va_P (dC, dI) vwCl [] U.heap ∧ va_K (dC, dI) vwCl [] U)
theorem pcR_N_b (dC : Nat → ClassId) (dI : Nat → Nat → Nat) (av : List Value) : FrameBlind (pcR_N dC dI av) := fun a U g mk q => by
  obtain ⟨q0, qP, qK⟩ := q
  exact ⟨q0, qP, va_K.moved (u := U) (U := U.calling g mk a) (Vm.Alike.refl U.vm) qK⟩
abbrev atx_A (dC : Nat → ClassId) (dI : Nat → Nat → Nat) (A : Nat → Prop) (qA qA_ring qA_buffer : Nat) (cA_ring cA_buffer : ClassId) (E : String) (u : String × St_A) (t : State) : Prop := E = u.1 ∧ at_A dC dI A qA qA_ring qA_buffer cA_ring cA_buffer u.2 t
end
section
set_option maxHeartbeats 4000000 in
set_option maxRecDepth 100000 in
theorem met_X0_init (l : Launch) (dC : Nat → ClassId) (dI : Nat → Nat → Nat) (qA : Nat) (sz : Nat) :
    Met l yX0_init wsX0_init ({ frames := 1, cells := 2, slots := 65736, locals := 24 } : Room) (va_Pc [.ref qA] (fun U => U.heap.size = sz ∧ va_P (dC, dI) vwCl [(qA, .inr (0, [.null, .null, .int 0, .int 0, .int 0, .int 0, .int 0]))] U.heap ∧ va_K (dC, dI) vwCl [] U ∧ va_D (fun _ => True) [(qA, .inr (0, [.null, .null, .int 0, .int 0, .int 0, .int 0, .int 0]))])) (va_Qv (fun _ : Unit => True) (fun _ t => ∃ (qA_ring qA_buffer : Nat) (cA_ring cA_buffer : ClassId), at_A dC dI (va_A [(qA, .inr (0, [.null, .null, .int 0, .int 0, .int 0, .int 0, .int 0]))] sz) qA qA_ring qA_buffer cA_ring cA_buffer ((fun _ => 0), (fun _ => 0), (0 : Int32), (0 : Int32), (0 : Int32), (-1 : Int32), (1 : Int32)) t) (va_A [(qA, .inr (0, [.null, .null, .int 0, .int 0, .int 0, .int 0, .int 0]))] sz)) 2 65736 (va_A [(qA, .inr (0, [.null, .null, .int 0, .int 0, .int 0, .int 0, .int 0]))] sz) := by
  refine Met.ofW (cc := cX0_init) (maxL := 1) (ret := none) (by decide) rfl ?_
  intro p e s m args below meth c s₁ B hml hv
  obtain ⟨hav, hsz, hP, hK, hD0⟩ := hv
  have hx := B.exec
  have hb := B.bytes
  have hr := B.returns
  have hts := atoms_spec (ws := wsX0_init) B.pre
  have hbg : ∀ w ∈ bigW, w.before args s = true := fun w h => hts w (List.mem_cons_of_mem _ h)
  have hown : s.vm.findClass RX0 = some m.cls := findClass_of_methodNamed B.named
  have hlocks := B.notSynchronized
  have hin : meth.name = "<init>" := (name_of_methodNamed B.named B.method).1
  subst hsz
  have hD := hD0.self (sz := s.heap.size)
  generalize hAe : va_A [(qA, .inr (0, [.null, .null, .int 0, .int 0, .int 0, .int 0, .int 0]))] s.heap.size = A at hD ⊢
  have hA : ∀ q : Nat, s.heap.size ≤ q → A q := fun q h => by rw [← hAe]; exact Or.inr h
  have hS : va_S A s.heap s.heap [] := va_S.rf
  have hl := lv_entry ([.ref qA]) (n := 1) (Nat.le_of_ble_eq_true rfl)
  rw [show entryFrame m args 1 = entryFrame m ([.ref qA] : List Value).toArray 1 by rw [hav], lg_entry_eq]
  generalize (lg_sl ([.ref qA]) ++ List.replicate (1 - (lg_sl ([.ref qA])).length) Slot.unset).toArray = ls at hl ⊢
  have hl : lv_has ls 1 [(0, .ref qA)] := hl
  refine lv_aload_n hx hb dX0_init_0 rfl (lv_at hl 0 rfl) ?_
  refine W.objInit hx hb hown (hbg _ kw_100) (hbg _ kw_101) (hbg _ kw_102) rfl (by rw [hml]; exact hl.1) rfl dX0_init_1 (Nat.le_of_ble_eq_true rfl) (Nat.le_of_ble_eq_true rfl) ?_
  refine W.eq (g2 := F0 m 4 ls []) rfl ?_
  refine lv_aload_n hx hb dX0_init_4 rfl (lv_at hl 0 rfl) ?_
  refine lv_ldc (v := (65536 : Int32)) hx hb hown (hbg _ kw_55) dX0_init_5 ?_
  refine va_newa (atype := .int) hx hb (hbg _ kw_103) (ty := .int) rfl hK hP hD hS hA (N' := 65536) (a0 := (65536, .inl (fun _ => 0))) (fun _ => rfl) (by decide) (by decide) (by decide) (Nat.le_of_ble_eq_true rfl) (Nat.le_of_ble_eq_true rfl) dX0_init_7 (fun q1 cq1 H7 hK hP hD hS => ?_)
  have hP : va_P (dC, dI) vwCl [(qA, .inr (0, [.null, .null, .int 0, .int 0, .int 0, .int 0, .int 0])), (q1, .inl (cq1, 65536, .inl (fun _ => 0)))] H7 := hP
  have hD : va_D A [(qA, .inr (0, [.null, .null, .int 0, .int 0, .int 0, .int 0, .int 0])), (q1, .inl (cq1, 65536, .inl (fun _ => 0)))] := hD
  have hK : va_K (dC, dI) vwCl [(cq1, .int)] s := hK
  refine W.widen (k := 1) (n := 65536) (Nat.le_of_ble_eq_true rfl) (Nat.le_of_ble_eq_true rfl) ?_
  refine va_putF (D := (dC, dI)) (ci := 0) (v := .ref q1) (ty := (.array .int)) (C := RX0) (T := TX0) (N := 7) hx hb hbg in_X0 tyX0 tyX0_ok nmX0 hown hK hP hD hS 0 rfl rfl 0 (by decide) (hbg _ kw_0) (fun _ h9 => h9) rfl hin rfl (by decide +kernel) rfl rfl (Nat.le_of_ble_eq_true rfl) dX0_init_9 (fun H9 locs hP hD hS => ?_)
  have hP : va_P (dC, dI) vwCl [(qA, .inr (0, [.ref q1, .null, .int 0, .int 0, .int 0, .int 0, .int 0])), (q1, .inl (cq1, 65536, .inl (fun _ => 0)))] H9 := hP
  have hD : va_D A [(qA, .inr (0, [.ref q1, .null, .int 0, .int 0, .int 0, .int 0, .int 0])), (q1, .inl (cq1, 65536, .inl (fun _ => 0)))] := hD
  refine lv_aload_n hx hb dX0_init_12 rfl (lv_at hl 0 rfl) ?_
  refine lv_sipush (v := (200 : Int32)) hx hb dX0_init_13 (by decide) ?_
  refine va_newa (atype := .int) hx hb (hbg _ kw_103) (ty := .int) rfl hK hP hD hS hA (N' := 200) (a0 := (200, .inl (fun _ => 0))) (fun _ => rfl) (by decide) (by decide) (by decide) (Nat.le_of_ble_eq_true rfl) (Nat.le_of_ble_eq_true rfl) dX0_init_16 (fun q3 cq3 H16 hK hP hD hS => ?_)
  have hP : va_P (dC, dI) vwCl [(qA, .inr (0, [.ref q1, .null, .int 0, .int 0, .int 0, .int 0, .int 0])), (q1, .inl (cq1, 65536, .inl (fun _ => 0))), (q3, .inl (cq3, 200, .inl (fun _ => 0)))] H16 := hP
  have hD : va_D A [(qA, .inr (0, [.ref q1, .null, .int 0, .int 0, .int 0, .int 0, .int 0])), (q1, .inl (cq1, 65536, .inl (fun _ => 0))), (q3, .inl (cq3, 200, .inl (fun _ => 0)))] := hD
  have hK : va_K (dC, dI) vwCl [(cq1, .int), (cq3, .int)] s := hK
  refine W.widen (k := 2) (n := 65736) (Nat.le_of_ble_eq_true rfl) (Nat.le_of_ble_eq_true rfl) ?_
  refine va_putF (D := (dC, dI)) (ci := 0) (v := .ref q3) (ty := (.array .int)) (C := RX0) (T := TX0) (N := 7) hx hb hbg in_X0 tyX0 tyX0_ok nmX0 hown hK hP hD hS 0 rfl rfl 1 (by decide) (hbg _ kw_37) (fun _ h9 => h9) rfl hin rfl (by decide +kernel) rfl rfl (Nat.le_of_ble_eq_true rfl) dX0_init_18 (fun H18 locs hP hD hS => ?_)
  have hP : va_P (dC, dI) vwCl [(qA, .inr (0, [.ref q1, .ref q3, .int 0, .int 0, .int 0, .int 0, .int 0])), (q1, .inl (cq1, 65536, .inl (fun _ => 0))), (q3, .inl (cq3, 200, .inl (fun _ => 0)))] H18 := hP
  have hD : va_D A [(qA, .inr (0, [.ref q1, .ref q3, .int 0, .int 0, .int 0, .int 0, .int 0])), (q1, .inl (cq1, 65536, .inl (fun _ => 0))), (q3, .inl (cq3, 200, .inl (fun _ => 0)))] := hD
  refine lv_aload_n hx hb dX0_init_21 rfl (lv_at hl 0 rfl) ?_
  refine lv_iconst (v := (0 : Int32)) hx hb dX0_init_22 (by decide) ?_
  refine va_put (D := (dC, dI)) (ci := 0) (v := .int (0 : Int32)) (ty := .int) (C := RX0) (T := TX0) (N := 7) hx hb hbg in_X0 tyX0 tyX0_ok nmX0 hown hK hP hD hS 0 rfl rfl 2 (by decide) (hbg _ kw_2) (fun _ h9 => h9) rfl (by decide +kernel) rfl rfl (Nat.le_of_ble_eq_true rfl) dX0_init_23 (fun H23 locs hP hD hS => ?_)
  have hP : va_P (dC, dI) vwCl [(qA, .inr (0, [.ref q1, .ref q3, .int (0 : Int32), .int 0, .int 0, .int 0, .int 0])), (q1, .inl (cq1, 65536, .inl (fun _ => 0))), (q3, .inl (cq3, 200, .inl (fun _ => 0)))] H23 := hP
  have hD : va_D A [(qA, .inr (0, [.ref q1, .ref q3, .int (0 : Int32), .int 0, .int 0, .int 0, .int 0])), (q1, .inl (cq1, 65536, .inl (fun _ => 0))), (q3, .inl (cq3, 200, .inl (fun _ => 0)))] := hD
  refine lv_aload_n hx hb dX0_init_26 rfl (lv_at hl 0 rfl) ?_
  refine lv_iconst (v := (0 : Int32)) hx hb dX0_init_27 (by decide) ?_
  refine va_put (D := (dC, dI)) (ci := 0) (v := .int (0 : Int32)) (ty := .int) (C := RX0) (T := TX0) (N := 7) hx hb hbg in_X0 tyX0 tyX0_ok nmX0 hown hK hP hD hS 0 rfl rfl 3 (by decide) (hbg _ kw_104) (fun _ h9 => h9) rfl (by decide +kernel) rfl rfl (Nat.le_of_ble_eq_true rfl) dX0_init_28 (fun H28 locs hP hD hS => ?_)
  have hP : va_P (dC, dI) vwCl [(qA, .inr (0, [.ref q1, .ref q3, .int (0 : Int32), .int (0 : Int32), .int 0, .int 0, .int 0])), (q1, .inl (cq1, 65536, .inl (fun _ => 0))), (q3, .inl (cq3, 200, .inl (fun _ => 0)))] H28 := hP
  have hD : va_D A [(qA, .inr (0, [.ref q1, .ref q3, .int (0 : Int32), .int (0 : Int32), .int 0, .int 0, .int 0])), (q1, .inl (cq1, 65536, .inl (fun _ => 0))), (q3, .inl (cq3, 200, .inl (fun _ => 0)))] := hD
  refine lv_aload_n hx hb dX0_init_31 rfl (lv_at hl 0 rfl) ?_
  refine lv_iconst (v := (0 : Int32)) hx hb dX0_init_32 (by decide) ?_
  refine va_put (D := (dC, dI)) (ci := 0) (v := .int (0 : Int32)) (ty := .int) (C := RX0) (T := TX0) (N := 7) hx hb hbg in_X0 tyX0 tyX0_ok nmX0 hown hK hP hD hS 0 rfl rfl 4 (by decide) (hbg _ kw_12) (fun _ h9 => h9) rfl (by decide +kernel) rfl rfl (Nat.le_of_ble_eq_true rfl) dX0_init_33 (fun H33 locs hP hD hS => ?_)
  have hP : va_P (dC, dI) vwCl [(qA, .inr (0, [.ref q1, .ref q3, .int (0 : Int32), .int (0 : Int32), .int (0 : Int32), .int 0, .int 0])), (q1, .inl (cq1, 65536, .inl (fun _ => 0))), (q3, .inl (cq3, 200, .inl (fun _ => 0)))] H33 := hP
  have hD : va_D A [(qA, .inr (0, [.ref q1, .ref q3, .int (0 : Int32), .int (0 : Int32), .int (0 : Int32), .int 0, .int 0])), (q1, .inl (cq1, 65536, .inl (fun _ => 0))), (q3, .inl (cq3, 200, .inl (fun _ => 0)))] := hD
  refine lv_aload_n hx hb dX0_init_36 rfl (lv_at hl 0 rfl) ?_
  refine lv_iconst (v := (-1 : Int32)) hx hb dX0_init_37 (by decide) ?_
  refine va_put (D := (dC, dI)) (ci := 0) (v := .int (-1 : Int32)) (ty := .int) (C := RX0) (T := TX0) (N := 7) hx hb hbg in_X0 tyX0 tyX0_ok nmX0 hown hK hP hD hS 0 rfl rfl 5 (by decide) (hbg _ kw_105) (fun _ h9 => h9) rfl (by decide +kernel) rfl rfl (Nat.le_of_ble_eq_true rfl) dX0_init_38 (fun H38 locs hP hD hS => ?_)
  have hP : va_P (dC, dI) vwCl [(qA, .inr (0, [.ref q1, .ref q3, .int (0 : Int32), .int (0 : Int32), .int (0 : Int32), .int (-1 : Int32), .int 0])), (q1, .inl (cq1, 65536, .inl (fun _ => 0))), (q3, .inl (cq3, 200, .inl (fun _ => 0)))] H38 := hP
  have hD : va_D A [(qA, .inr (0, [.ref q1, .ref q3, .int (0 : Int32), .int (0 : Int32), .int (0 : Int32), .int (-1 : Int32), .int 0])), (q1, .inl (cq1, 65536, .inl (fun _ => 0))), (q3, .inl (cq3, 200, .inl (fun _ => 0)))] := hD
  refine lv_aload_n hx hb dX0_init_41 rfl (lv_at hl 0 rfl) ?_
  refine lv_iconst (v := (1 : Int32)) hx hb dX0_init_42 (by decide) ?_
  refine va_put (D := (dC, dI)) (ci := 0) (v := .int (1 : Int32)) (ty := .boolean) (C := RX0) (T := TX0) (N := 7) hx hb hbg in_X0 tyX0 tyX0_ok nmX0 hown hK hP hD hS 0 rfl rfl 6 (by decide) (hbg _ kw_42) (fun _ h9 => h9) rfl (by decide +kernel) rfl rfl (Nat.le_of_ble_eq_true rfl) dX0_init_43 (fun H43 locs hP hD hS => ?_)
  have hP : va_P (dC, dI) vwCl [(qA, .inr (0, [.ref q1, .ref q3, .int (0 : Int32), .int (0 : Int32), .int (0 : Int32), .int (-1 : Int32), .int (1 : Int32)])), (q1, .inl (cq1, 65536, .inl (fun _ => 0))), (q3, .inl (cq3, 200, .inl (fun _ => 0)))] H43 := hP
  have hD : va_D A [(qA, .inr (0, [.ref q1, .ref q3, .int (0 : Int32), .int (0 : Int32), .int (0 : Int32), .int (-1 : Int32), .int (1 : Int32)])), (q1, .inl (cq1, 65536, .inl (fun _ => 0))), (q3, .inl (cq3, 200, .inl (fun _ => 0)))] := hD
  have hP9 := hP.sub (ws' := [(qA, .inr (0, [.ref q1, .ref q3, .int (0 : Int32), .int (0 : Int32), .int (0 : Int32), .int (-1 : Int32), .int (1 : Int32)])), (q1, .inl (cq1, 65536, .inl (fun _ => 0))), (q3, .inl (cq3, 200, .inl (fun _ => 0)))]) [0, 1, 2] rfl
  have hD9 := hD.sub (ws' := [(qA, .inr (0, [.ref q1, .ref q3, .int (0 : Int32), .int (0 : Int32), .int (0 : Int32), .int (-1 : Int32), .int (1 : Int32)])), (q1, .inl (cq1, 65536, .inl (fun _ => 0))), (q3, .inl (cq3, 200, .inl (fun _ => 0)))]) [0, 1, 2] (by decide) rfl
  have hK9 := hK.sub (tys' := [(cq1, .int), (cq3, .int)]) [0, 1] rfl
  exact W.vret hx hb hr (fun t ht hW => ⟨⟨(), rfl, trivial, q1, q3, cq1, cq3, by rw [ht]; exact hP9, va_K.moved hW.alike hK9, hD9⟩, hS.F ht⟩) hS.2.2 dX0_init_46
end
section
set_option maxHeartbeats 4000000 in
set_option maxRecDepth 100000 in
theorem met_X1_init (l : Launch) (dC : Nat → ClassId) (dI : Nat → Nat → Nat) (qB : Nat) (sz : Nat) :
    Met l yX1_init wsX1_init ({ frames := 1, cells := 9, slots := 96536, locals := 24 } : Room) (va_Pc [.ref qB] (fun U => U.heap.size = sz ∧ va_P (dC, dI) vwCl [(qB, .inr (1, [.int 0, .null, .null, .null, .null, .null, .null, .null, .null, .null, .int 0, .int 0, .int 0, .int 0, .int 0, .int 0, .int 0, .int 0, .int 0]))] U.heap ∧ va_K (dC, dI) vwCl [] U ∧ va_D (fun _ => True) [(qB, .inr (1, [.int 0, .null, .null, .null, .null, .null, .null, .null, .null, .null, .int 0, .int 0, .int 0, .int 0, .int 0, .int 0, .int 0, .int 0, .int 0]))])) (va_Qv (fun _ : Unit => True) (fun _ t => ∃ (qB_buffer qB_words qB_serials qB_lengths qB_kinds qB_owners qB_olders qB_links qB_voids : Nat) (cB_buffer cB_words cB_serials cB_lengths cB_kinds cB_owners cB_olders cB_links cB_voids : ClassId), at_B dC dI (va_A [(qB, .inr (1, [.int 0, .null, .null, .null, .null, .null, .null, .null, .null, .null, .int 0, .int 0, .int 0, .int 0, .int 0, .int 0, .int 0, .int 0, .int 0]))] sz) qB qB_buffer qB_words qB_serials qB_lengths qB_kinds qB_owners qB_olders qB_links qB_voids cB_buffer cB_words cB_serials cB_lengths cB_kinds cB_owners cB_olders cB_links cB_voids (0, (fun _ => 0), (fun _ => 0), (fun _ => 0), (fun _ => 0), (fun _ => 0), (fun _ => 0), (fun _ => 0), (fun _ => 0), (fun _ => 0), 0, (0 : Int32), 0, 0, 0, 0, (-1 : Int32), (-1 : Int32), 0) t) (va_A [(qB, .inr (1, [.int 0, .null, .null, .null, .null, .null, .null, .null, .null, .null, .int 0, .int 0, .int 0, .int 0, .int 0, .int 0, .int 0, .int 0, .int 0]))] sz)) 9 96536 (va_A [(qB, .inr (1, [.int 0, .null, .null, .null, .null, .null, .null, .null, .null, .null, .int 0, .int 0, .int 0, .int 0, .int 0, .int 0, .int 0, .int 0, .int 0]))] sz) := by
  refine Met.ofW (cc := cX1_init) (maxL := 1) (ret := none) (by decide) rfl ?_
  intro p e s m args below meth c s₁ B hml hv
  obtain ⟨hav, hsz, hP, hK, hD0⟩ := hv
  have hx := B.exec
  have hb := B.bytes
  have hr := B.returns
  have hts := atoms_spec (ws := wsX1_init) B.pre
  have hbg : ∀ w ∈ bigW, w.before args s = true := fun w h => hts w (List.mem_cons_of_mem _ h)
  have hown : s.vm.findClass RX1 = some m.cls := findClass_of_methodNamed B.named
  have hlocks := B.notSynchronized
  have hin : meth.name = "<init>" := (name_of_methodNamed B.named B.method).1
  subst hsz
  have hD := hD0.self (sz := s.heap.size)
  generalize hAe : va_A [(qB, .inr (1, [.int 0, .null, .null, .null, .null, .null, .null, .null, .null, .null, .int 0, .int 0, .int 0, .int 0, .int 0, .int 0, .int 0, .int 0, .int 0]))] s.heap.size = A at hD ⊢
  have hA : ∀ q : Nat, s.heap.size ≤ q → A q := fun q h => by rw [← hAe]; exact Or.inr h
  have hS : va_S A s.heap s.heap [] := va_S.rf
  have hl := lv_entry ([.ref qB]) (n := 1) (Nat.le_of_ble_eq_true rfl)
  rw [show entryFrame m args 1 = entryFrame m ([.ref qB] : List Value).toArray 1 by rw [hav], lg_entry_eq]
  generalize (lg_sl ([.ref qB]) ++ List.replicate (1 - (lg_sl ([.ref qB])).length) Slot.unset).toArray = ls at hl ⊢
  have hl : lv_has ls 1 [(0, .ref qB)] := hl
  refine lv_aload_n hx hb dX1_init_0 rfl (lv_at hl 0 rfl) ?_
  refine W.objInit hx hb hown (hbg _ kw_106) (hbg _ kw_101) (hbg _ kw_102) rfl (by rw [hml]; exact hl.1) rfl dX1_init_1 (Nat.le_of_ble_eq_true rfl) (Nat.le_of_ble_eq_true rfl) ?_
  refine W.eq (g2 := F0 m 4 ls []) rfl ?_
  refine lv_aload_n hx hb dX1_init_4 rfl (lv_at hl 0 rfl) ?_
  refine lv_sipush (v := (200 : Int32)) hx hb dX1_init_5 (by decide) ?_
  refine va_newa (atype := .int) hx hb (hbg _ kw_103) (ty := .int) rfl hK hP hD hS hA (N' := 200) (a0 := (200, .inl (fun _ => 0))) (fun _ => rfl) (by decide) (by decide) (by decide) (Nat.le_of_ble_eq_true rfl) (Nat.le_of_ble_eq_true rfl) dX1_init_8 (fun q1 cq1 H8 hK hP hD hS => ?_)
  have hP : va_P (dC, dI) vwCl [(qB, .inr (1, [.int 0, .null, .null, .null, .null, .null, .null, .null, .null, .null, .int 0, .int 0, .int 0, .int 0, .int 0, .int 0, .int 0, .int 0, .int 0])), (q1, .inl (cq1, 200, .inl (fun _ => 0)))] H8 := hP
  have hD : va_D A [(qB, .inr (1, [.int 0, .null, .null, .null, .null, .null, .null, .null, .null, .null, .int 0, .int 0, .int 0, .int 0, .int 0, .int 0, .int 0, .int 0, .int 0])), (q1, .inl (cq1, 200, .inl (fun _ => 0)))] := hD
  have hK : va_K (dC, dI) vwCl [(cq1, .int)] s := hK
  refine W.widen (k := 1) (n := 200) (Nat.le_of_ble_eq_true rfl) (Nat.le_of_ble_eq_true rfl) ?_
  refine va_putF (D := (dC, dI)) (ci := 1) (v := .ref q1) (ty := (.array .int)) (C := RX1) (T := TX1) (N := 19) hx hb hbg in_X1 tyX1 tyX1_ok nmX1 hown hK hP hD hS 0 rfl rfl 1 (by decide) (hbg _ kw_95) (fun _ h9 => h9) rfl hin rfl (by decide +kernel) rfl rfl (Nat.le_of_ble_eq_true rfl) dX1_init_10 (fun H10 locs hP hD hS => ?_)
  have hP : va_P (dC, dI) vwCl [(qB, .inr (1, [.int 0, .ref q1, .null, .null, .null, .null, .null, .null, .null, .null, .int 0, .int 0, .int 0, .int 0, .int 0, .int 0, .int 0, .int 0, .int 0])), (q1, .inl (cq1, 200, .inl (fun _ => 0)))] H10 := hP
  have hD : va_D A [(qB, .inr (1, [.int 0, .ref q1, .null, .null, .null, .null, .null, .null, .null, .null, .int 0, .int 0, .int 0, .int 0, .int 0, .int 0, .int 0, .int 0, .int 0])), (q1, .inl (cq1, 200, .inl (fun _ => 0)))] := hD
  refine lv_aload_n hx hb dX1_init_13 rfl (lv_at hl 0 rfl) ?_
  refine lv_ldc (v := (65536 : Int32)) hx hb hown (hbg _ kw_82) dX1_init_14 ?_
  refine va_newa (atype := .int) hx hb (hbg _ kw_103) (ty := .int) rfl hK hP hD hS hA (N' := 65536) (a0 := (65536, .inl (fun _ => 0))) (fun _ => rfl) (by decide) (by decide) (by decide) (Nat.le_of_ble_eq_true rfl) (Nat.le_of_ble_eq_true rfl) dX1_init_16 (fun q3 cq3 H16 hK hP hD hS => ?_)
  have hP : va_P (dC, dI) vwCl [(qB, .inr (1, [.int 0, .ref q1, .null, .null, .null, .null, .null, .null, .null, .null, .int 0, .int 0, .int 0, .int 0, .int 0, .int 0, .int 0, .int 0, .int 0])), (q1, .inl (cq1, 200, .inl (fun _ => 0))), (q3, .inl (cq3, 65536, .inl (fun _ => 0)))] H16 := hP
  have hD : va_D A [(qB, .inr (1, [.int 0, .ref q1, .null, .null, .null, .null, .null, .null, .null, .null, .int 0, .int 0, .int 0, .int 0, .int 0, .int 0, .int 0, .int 0, .int 0])), (q1, .inl (cq1, 200, .inl (fun _ => 0))), (q3, .inl (cq3, 65536, .inl (fun _ => 0)))] := hD
  have hK : va_K (dC, dI) vwCl [(cq1, .int), (cq3, .int)] s := hK
  refine W.widen (k := 2) (n := 65736) (Nat.le_of_ble_eq_true rfl) (Nat.le_of_ble_eq_true rfl) ?_
  refine va_putF (D := (dC, dI)) (ci := 1) (v := .ref q3) (ty := (.array .int)) (C := RX1) (T := TX1) (N := 19) hx hb hbg in_X1 tyX1 tyX1_ok nmX1 hown hK hP hD hS 0 rfl rfl 2 (by decide) (hbg _ kw_94) (fun _ h9 => h9) rfl hin rfl (by decide +kernel) rfl rfl (Nat.le_of_ble_eq_true rfl) dX1_init_18 (fun H18 locs hP hD hS => ?_)
  have hP : va_P (dC, dI) vwCl [(qB, .inr (1, [.int 0, .ref q1, .ref q3, .null, .null, .null, .null, .null, .null, .null, .int 0, .int 0, .int 0, .int 0, .int 0, .int 0, .int 0, .int 0, .int 0])), (q1, .inl (cq1, 200, .inl (fun _ => 0))), (q3, .inl (cq3, 65536, .inl (fun _ => 0)))] H18 := hP
  have hD : va_D A [(qB, .inr (1, [.int 0, .ref q1, .ref q3, .null, .null, .null, .null, .null, .null, .null, .int 0, .int 0, .int 0, .int 0, .int 0, .int 0, .int 0, .int 0, .int 0])), (q1, .inl (cq1, 200, .inl (fun _ => 0))), (q3, .inl (cq3, 65536, .inl (fun _ => 0)))] := hD
  refine lv_aload_n hx hb dX1_init_21 rfl (lv_at hl 0 rfl) ?_
  refine lv_sipush (v := (4400 : Int32)) hx hb dX1_init_22 (by decide) ?_
  refine va_newa (atype := .int) hx hb (hbg _ kw_103) (ty := .int) rfl hK hP hD hS hA (N' := 4400) (a0 := (4400, .inl (fun _ => 0))) (fun _ => rfl) (by decide) (by decide) (by decide) (Nat.le_of_ble_eq_true rfl) (Nat.le_of_ble_eq_true rfl) dX1_init_25 (fun q5 cq5 H25 hK hP hD hS => ?_)
  have hP : va_P (dC, dI) vwCl [(qB, .inr (1, [.int 0, .ref q1, .ref q3, .null, .null, .null, .null, .null, .null, .null, .int 0, .int 0, .int 0, .int 0, .int 0, .int 0, .int 0, .int 0, .int 0])), (q1, .inl (cq1, 200, .inl (fun _ => 0))), (q3, .inl (cq3, 65536, .inl (fun _ => 0))), (q5, .inl (cq5, 4400, .inl (fun _ => 0)))] H25 := hP
  have hD : va_D A [(qB, .inr (1, [.int 0, .ref q1, .ref q3, .null, .null, .null, .null, .null, .null, .null, .int 0, .int 0, .int 0, .int 0, .int 0, .int 0, .int 0, .int 0, .int 0])), (q1, .inl (cq1, 200, .inl (fun _ => 0))), (q3, .inl (cq3, 65536, .inl (fun _ => 0))), (q5, .inl (cq5, 4400, .inl (fun _ => 0)))] := hD
  have hK : va_K (dC, dI) vwCl [(cq1, .int), (cq3, .int), (cq5, .int)] s := hK
  refine W.widen (k := 3) (n := 70136) (Nat.le_of_ble_eq_true rfl) (Nat.le_of_ble_eq_true rfl) ?_
  refine va_putF (D := (dC, dI)) (ci := 1) (v := .ref q5) (ty := (.array .int)) (C := RX1) (T := TX1) (N := 19) hx hb hbg in_X1 tyX1 tyX1_ok nmX1 hown hK hP hD hS 0 rfl rfl 3 (by decide) (hbg _ kw_67) (fun _ h9 => h9) rfl hin rfl (by decide +kernel) rfl rfl (Nat.le_of_ble_eq_true rfl) dX1_init_27 (fun H27 locs hP hD hS => ?_)
  have hP : va_P (dC, dI) vwCl [(qB, .inr (1, [.int 0, .ref q1, .ref q3, .ref q5, .null, .null, .null, .null, .null, .null, .int 0, .int 0, .int 0, .int 0, .int 0, .int 0, .int 0, .int 0, .int 0])), (q1, .inl (cq1, 200, .inl (fun _ => 0))), (q3, .inl (cq3, 65536, .inl (fun _ => 0))), (q5, .inl (cq5, 4400, .inl (fun _ => 0)))] H27 := hP
  have hD : va_D A [(qB, .inr (1, [.int 0, .ref q1, .ref q3, .ref q5, .null, .null, .null, .null, .null, .null, .int 0, .int 0, .int 0, .int 0, .int 0, .int 0, .int 0, .int 0, .int 0])), (q1, .inl (cq1, 200, .inl (fun _ => 0))), (q3, .inl (cq3, 65536, .inl (fun _ => 0))), (q5, .inl (cq5, 4400, .inl (fun _ => 0)))] := hD
  refine lv_aload_n hx hb dX1_init_30 rfl (lv_at hl 0 rfl) ?_
  refine lv_sipush (v := (4400 : Int32)) hx hb dX1_init_31 (by decide) ?_
  refine va_newa (atype := .int) hx hb (hbg _ kw_103) (ty := .int) rfl hK hP hD hS hA (N' := 4400) (a0 := (4400, .inl (fun _ => 0))) (fun _ => rfl) (by decide) (by decide) (by decide) (Nat.le_of_ble_eq_true rfl) (Nat.le_of_ble_eq_true rfl) dX1_init_34 (fun q7 cq7 H34 hK hP hD hS => ?_)
  have hP : va_P (dC, dI) vwCl [(qB, .inr (1, [.int 0, .ref q1, .ref q3, .ref q5, .null, .null, .null, .null, .null, .null, .int 0, .int 0, .int 0, .int 0, .int 0, .int 0, .int 0, .int 0, .int 0])), (q1, .inl (cq1, 200, .inl (fun _ => 0))), (q3, .inl (cq3, 65536, .inl (fun _ => 0))), (q5, .inl (cq5, 4400, .inl (fun _ => 0))), (q7, .inl (cq7, 4400, .inl (fun _ => 0)))] H34 := hP
  have hD : va_D A [(qB, .inr (1, [.int 0, .ref q1, .ref q3, .ref q5, .null, .null, .null, .null, .null, .null, .int 0, .int 0, .int 0, .int 0, .int 0, .int 0, .int 0, .int 0, .int 0])), (q1, .inl (cq1, 200, .inl (fun _ => 0))), (q3, .inl (cq3, 65536, .inl (fun _ => 0))), (q5, .inl (cq5, 4400, .inl (fun _ => 0))), (q7, .inl (cq7, 4400, .inl (fun _ => 0)))] := hD
  have hK : va_K (dC, dI) vwCl [(cq1, .int), (cq3, .int), (cq5, .int), (cq7, .int)] s := hK
  refine W.widen (k := 4) (n := 74536) (Nat.le_of_ble_eq_true rfl) (Nat.le_of_ble_eq_true rfl) ?_
  refine va_putF (D := (dC, dI)) (ci := 1) (v := .ref q7) (ty := (.array .int)) (C := RX1) (T := TX1) (N := 19) hx hb hbg in_X1 tyX1 tyX1_ok nmX1 hown hK hP hD hS 0 rfl rfl 4 (by decide) (hbg _ kw_70) (fun _ h9 => h9) rfl hin rfl (by decide +kernel) rfl rfl (Nat.le_of_ble_eq_true rfl) dX1_init_36 (fun H36 locs hP hD hS => ?_)
  have hP : va_P (dC, dI) vwCl [(qB, .inr (1, [.int 0, .ref q1, .ref q3, .ref q5, .ref q7, .null, .null, .null, .null, .null, .int 0, .int 0, .int 0, .int 0, .int 0, .int 0, .int 0, .int 0, .int 0])), (q1, .inl (cq1, 200, .inl (fun _ => 0))), (q3, .inl (cq3, 65536, .inl (fun _ => 0))), (q5, .inl (cq5, 4400, .inl (fun _ => 0))), (q7, .inl (cq7, 4400, .inl (fun _ => 0)))] H36 := hP
  have hD : va_D A [(qB, .inr (1, [.int 0, .ref q1, .ref q3, .ref q5, .ref q7, .null, .null, .null, .null, .null, .int 0, .int 0, .int 0, .int 0, .int 0, .int 0, .int 0, .int 0, .int 0])), (q1, .inl (cq1, 200, .inl (fun _ => 0))), (q3, .inl (cq3, 65536, .inl (fun _ => 0))), (q5, .inl (cq5, 4400, .inl (fun _ => 0))), (q7, .inl (cq7, 4400, .inl (fun _ => 0)))] := hD
  refine lv_aload_n hx hb dX1_init_39 rfl (lv_at hl 0 rfl) ?_
  refine lv_sipush (v := (4400 : Int32)) hx hb dX1_init_40 (by decide) ?_
  refine va_newa (atype := .int) hx hb (hbg _ kw_103) (ty := .int) rfl hK hP hD hS hA (N' := 4400) (a0 := (4400, .inl (fun _ => 0))) (fun _ => rfl) (by decide) (by decide) (by decide) (Nat.le_of_ble_eq_true rfl) (Nat.le_of_ble_eq_true rfl) dX1_init_43 (fun q9 cq9 H43 hK hP hD hS => ?_)
  have hP : va_P (dC, dI) vwCl [(qB, .inr (1, [.int 0, .ref q1, .ref q3, .ref q5, .ref q7, .null, .null, .null, .null, .null, .int 0, .int 0, .int 0, .int 0, .int 0, .int 0, .int 0, .int 0, .int 0])), (q1, .inl (cq1, 200, .inl (fun _ => 0))), (q3, .inl (cq3, 65536, .inl (fun _ => 0))), (q5, .inl (cq5, 4400, .inl (fun _ => 0))), (q7, .inl (cq7, 4400, .inl (fun _ => 0))), (q9, .inl (cq9, 4400, .inl (fun _ => 0)))] H43 := hP
  have hD : va_D A [(qB, .inr (1, [.int 0, .ref q1, .ref q3, .ref q5, .ref q7, .null, .null, .null, .null, .null, .int 0, .int 0, .int 0, .int 0, .int 0, .int 0, .int 0, .int 0, .int 0])), (q1, .inl (cq1, 200, .inl (fun _ => 0))), (q3, .inl (cq3, 65536, .inl (fun _ => 0))), (q5, .inl (cq5, 4400, .inl (fun _ => 0))), (q7, .inl (cq7, 4400, .inl (fun _ => 0))), (q9, .inl (cq9, 4400, .inl (fun _ => 0)))] := hD
  have hK : va_K (dC, dI) vwCl [(cq1, .int), (cq3, .int), (cq5, .int), (cq7, .int), (cq9, .int)] s := hK
  refine W.widen (k := 5) (n := 78936) (Nat.le_of_ble_eq_true rfl) (Nat.le_of_ble_eq_true rfl) ?_
  refine va_putF (D := (dC, dI)) (ci := 1) (v := .ref q9) (ty := (.array .int)) (C := RX1) (T := TX1) (N := 19) hx hb hbg in_X1 tyX1 tyX1_ok nmX1 hown hK hP hD hS 0 rfl rfl 5 (by decide) (hbg _ kw_83) (fun _ h9 => h9) rfl hin rfl (by decide +kernel) rfl rfl (Nat.le_of_ble_eq_true rfl) dX1_init_45 (fun H45 locs hP hD hS => ?_)
  have hP : va_P (dC, dI) vwCl [(qB, .inr (1, [.int 0, .ref q1, .ref q3, .ref q5, .ref q7, .ref q9, .null, .null, .null, .null, .int 0, .int 0, .int 0, .int 0, .int 0, .int 0, .int 0, .int 0, .int 0])), (q1, .inl (cq1, 200, .inl (fun _ => 0))), (q3, .inl (cq3, 65536, .inl (fun _ => 0))), (q5, .inl (cq5, 4400, .inl (fun _ => 0))), (q7, .inl (cq7, 4400, .inl (fun _ => 0))), (q9, .inl (cq9, 4400, .inl (fun _ => 0)))] H45 := hP
  have hD : va_D A [(qB, .inr (1, [.int 0, .ref q1, .ref q3, .ref q5, .ref q7, .ref q9, .null, .null, .null, .null, .int 0, .int 0, .int 0, .int 0, .int 0, .int 0, .int 0, .int 0, .int 0])), (q1, .inl (cq1, 200, .inl (fun _ => 0))), (q3, .inl (cq3, 65536, .inl (fun _ => 0))), (q5, .inl (cq5, 4400, .inl (fun _ => 0))), (q7, .inl (cq7, 4400, .inl (fun _ => 0))), (q9, .inl (cq9, 4400, .inl (fun _ => 0)))] := hD
  refine lv_aload_n hx hb dX1_init_48 rfl (lv_at hl 0 rfl) ?_
  refine lv_sipush (v := (4400 : Int32)) hx hb dX1_init_49 (by decide) ?_
  refine va_newa (atype := .int) hx hb (hbg _ kw_103) (ty := .int) rfl hK hP hD hS hA (N' := 4400) (a0 := (4400, .inl (fun _ => 0))) (fun _ => rfl) (by decide) (by decide) (by decide) (Nat.le_of_ble_eq_true rfl) (Nat.le_of_ble_eq_true rfl) dX1_init_52 (fun q11 cq11 H52 hK hP hD hS => ?_)
  have hP : va_P (dC, dI) vwCl [(qB, .inr (1, [.int 0, .ref q1, .ref q3, .ref q5, .ref q7, .ref q9, .null, .null, .null, .null, .int 0, .int 0, .int 0, .int 0, .int 0, .int 0, .int 0, .int 0, .int 0])), (q1, .inl (cq1, 200, .inl (fun _ => 0))), (q3, .inl (cq3, 65536, .inl (fun _ => 0))), (q5, .inl (cq5, 4400, .inl (fun _ => 0))), (q7, .inl (cq7, 4400, .inl (fun _ => 0))), (q9, .inl (cq9, 4400, .inl (fun _ => 0))), (q11, .inl (cq11, 4400, .inl (fun _ => 0)))] H52 := hP
  have hD : va_D A [(qB, .inr (1, [.int 0, .ref q1, .ref q3, .ref q5, .ref q7, .ref q9, .null, .null, .null, .null, .int 0, .int 0, .int 0, .int 0, .int 0, .int 0, .int 0, .int 0, .int 0])), (q1, .inl (cq1, 200, .inl (fun _ => 0))), (q3, .inl (cq3, 65536, .inl (fun _ => 0))), (q5, .inl (cq5, 4400, .inl (fun _ => 0))), (q7, .inl (cq7, 4400, .inl (fun _ => 0))), (q9, .inl (cq9, 4400, .inl (fun _ => 0))), (q11, .inl (cq11, 4400, .inl (fun _ => 0)))] := hD
  have hK : va_K (dC, dI) vwCl [(cq1, .int), (cq3, .int), (cq5, .int), (cq7, .int), (cq9, .int), (cq11, .int)] s := hK
  refine W.widen (k := 6) (n := 83336) (Nat.le_of_ble_eq_true rfl) (Nat.le_of_ble_eq_true rfl) ?_
  refine va_putF (D := (dC, dI)) (ci := 1) (v := .ref q11) (ty := (.array .int)) (C := RX1) (T := TX1) (N := 19) hx hb hbg in_X1 tyX1 tyX1_ok nmX1 hown hK hP hD hS 0 rfl rfl 6 (by decide) (hbg _ kw_69) (fun _ h9 => h9) rfl hin rfl (by decide +kernel) rfl rfl (Nat.le_of_ble_eq_true rfl) dX1_init_54 (fun H54 locs hP hD hS => ?_)
  have hP : va_P (dC, dI) vwCl [(qB, .inr (1, [.int 0, .ref q1, .ref q3, .ref q5, .ref q7, .ref q9, .ref q11, .null, .null, .null, .int 0, .int 0, .int 0, .int 0, .int 0, .int 0, .int 0, .int 0, .int 0])), (q1, .inl (cq1, 200, .inl (fun _ => 0))), (q3, .inl (cq3, 65536, .inl (fun _ => 0))), (q5, .inl (cq5, 4400, .inl (fun _ => 0))), (q7, .inl (cq7, 4400, .inl (fun _ => 0))), (q9, .inl (cq9, 4400, .inl (fun _ => 0))), (q11, .inl (cq11, 4400, .inl (fun _ => 0)))] H54 := hP
  have hD : va_D A [(qB, .inr (1, [.int 0, .ref q1, .ref q3, .ref q5, .ref q7, .ref q9, .ref q11, .null, .null, .null, .int 0, .int 0, .int 0, .int 0, .int 0, .int 0, .int 0, .int 0, .int 0])), (q1, .inl (cq1, 200, .inl (fun _ => 0))), (q3, .inl (cq3, 65536, .inl (fun _ => 0))), (q5, .inl (cq5, 4400, .inl (fun _ => 0))), (q7, .inl (cq7, 4400, .inl (fun _ => 0))), (q9, .inl (cq9, 4400, .inl (fun _ => 0))), (q11, .inl (cq11, 4400, .inl (fun _ => 0)))] := hD
  refine lv_aload_n hx hb dX1_init_57 rfl (lv_at hl 0 rfl) ?_
  refine lv_sipush (v := (4400 : Int32)) hx hb dX1_init_58 (by decide) ?_
  refine va_newa (atype := .int) hx hb (hbg _ kw_103) (ty := .int) rfl hK hP hD hS hA (N' := 4400) (a0 := (4400, .inl (fun _ => 0))) (fun _ => rfl) (by decide) (by decide) (by decide) (Nat.le_of_ble_eq_true rfl) (Nat.le_of_ble_eq_true rfl) dX1_init_61 (fun q13 cq13 H61 hK hP hD hS => ?_)
  have hP : va_P (dC, dI) vwCl [(qB, .inr (1, [.int 0, .ref q1, .ref q3, .ref q5, .ref q7, .ref q9, .ref q11, .null, .null, .null, .int 0, .int 0, .int 0, .int 0, .int 0, .int 0, .int 0, .int 0, .int 0])), (q1, .inl (cq1, 200, .inl (fun _ => 0))), (q3, .inl (cq3, 65536, .inl (fun _ => 0))), (q5, .inl (cq5, 4400, .inl (fun _ => 0))), (q7, .inl (cq7, 4400, .inl (fun _ => 0))), (q9, .inl (cq9, 4400, .inl (fun _ => 0))), (q11, .inl (cq11, 4400, .inl (fun _ => 0))), (q13, .inl (cq13, 4400, .inl (fun _ => 0)))] H61 := hP
  have hD : va_D A [(qB, .inr (1, [.int 0, .ref q1, .ref q3, .ref q5, .ref q7, .ref q9, .ref q11, .null, .null, .null, .int 0, .int 0, .int 0, .int 0, .int 0, .int 0, .int 0, .int 0, .int 0])), (q1, .inl (cq1, 200, .inl (fun _ => 0))), (q3, .inl (cq3, 65536, .inl (fun _ => 0))), (q5, .inl (cq5, 4400, .inl (fun _ => 0))), (q7, .inl (cq7, 4400, .inl (fun _ => 0))), (q9, .inl (cq9, 4400, .inl (fun _ => 0))), (q11, .inl (cq11, 4400, .inl (fun _ => 0))), (q13, .inl (cq13, 4400, .inl (fun _ => 0)))] := hD
  have hK : va_K (dC, dI) vwCl [(cq1, .int), (cq3, .int), (cq5, .int), (cq7, .int), (cq9, .int), (cq11, .int), (cq13, .int)] s := hK
  refine W.widen (k := 7) (n := 87736) (Nat.le_of_ble_eq_true rfl) (Nat.le_of_ble_eq_true rfl) ?_
  refine va_putF (D := (dC, dI)) (ci := 1) (v := .ref q13) (ty := (.array .int)) (C := RX1) (T := TX1) (N := 19) hx hb hbg in_X1 tyX1 tyX1_ok nmX1 hown hK hP hD hS 0 rfl rfl 7 (by decide) (hbg _ kw_84) (fun _ h9 => h9) rfl hin rfl (by decide +kernel) rfl rfl (Nat.le_of_ble_eq_true rfl) dX1_init_63 (fun H63 locs hP hD hS => ?_)
  have hP : va_P (dC, dI) vwCl [(qB, .inr (1, [.int 0, .ref q1, .ref q3, .ref q5, .ref q7, .ref q9, .ref q11, .ref q13, .null, .null, .int 0, .int 0, .int 0, .int 0, .int 0, .int 0, .int 0, .int 0, .int 0])), (q1, .inl (cq1, 200, .inl (fun _ => 0))), (q3, .inl (cq3, 65536, .inl (fun _ => 0))), (q5, .inl (cq5, 4400, .inl (fun _ => 0))), (q7, .inl (cq7, 4400, .inl (fun _ => 0))), (q9, .inl (cq9, 4400, .inl (fun _ => 0))), (q11, .inl (cq11, 4400, .inl (fun _ => 0))), (q13, .inl (cq13, 4400, .inl (fun _ => 0)))] H63 := hP
  have hD : va_D A [(qB, .inr (1, [.int 0, .ref q1, .ref q3, .ref q5, .ref q7, .ref q9, .ref q11, .ref q13, .null, .null, .int 0, .int 0, .int 0, .int 0, .int 0, .int 0, .int 0, .int 0, .int 0])), (q1, .inl (cq1, 200, .inl (fun _ => 0))), (q3, .inl (cq3, 65536, .inl (fun _ => 0))), (q5, .inl (cq5, 4400, .inl (fun _ => 0))), (q7, .inl (cq7, 4400, .inl (fun _ => 0))), (q9, .inl (cq9, 4400, .inl (fun _ => 0))), (q11, .inl (cq11, 4400, .inl (fun _ => 0))), (q13, .inl (cq13, 4400, .inl (fun _ => 0)))] := hD
  refine lv_aload_n hx hb dX1_init_66 rfl (lv_at hl 0 rfl) ?_
  refine lv_sipush (v := (4400 : Int32)) hx hb dX1_init_67 (by decide) ?_
  refine va_newa (atype := .int) hx hb (hbg _ kw_103) (ty := .int) rfl hK hP hD hS hA (N' := 4400) (a0 := (4400, .inl (fun _ => 0))) (fun _ => rfl) (by decide) (by decide) (by decide) (Nat.le_of_ble_eq_true rfl) (Nat.le_of_ble_eq_true rfl) dX1_init_70 (fun q15 cq15 H70 hK hP hD hS => ?_)
  have hP : va_P (dC, dI) vwCl [(qB, .inr (1, [.int 0, .ref q1, .ref q3, .ref q5, .ref q7, .ref q9, .ref q11, .ref q13, .null, .null, .int 0, .int 0, .int 0, .int 0, .int 0, .int 0, .int 0, .int 0, .int 0])), (q1, .inl (cq1, 200, .inl (fun _ => 0))), (q3, .inl (cq3, 65536, .inl (fun _ => 0))), (q5, .inl (cq5, 4400, .inl (fun _ => 0))), (q7, .inl (cq7, 4400, .inl (fun _ => 0))), (q9, .inl (cq9, 4400, .inl (fun _ => 0))), (q11, .inl (cq11, 4400, .inl (fun _ => 0))), (q13, .inl (cq13, 4400, .inl (fun _ => 0))), (q15, .inl (cq15, 4400, .inl (fun _ => 0)))] H70 := hP
  have hD : va_D A [(qB, .inr (1, [.int 0, .ref q1, .ref q3, .ref q5, .ref q7, .ref q9, .ref q11, .ref q13, .null, .null, .int 0, .int 0, .int 0, .int 0, .int 0, .int 0, .int 0, .int 0, .int 0])), (q1, .inl (cq1, 200, .inl (fun _ => 0))), (q3, .inl (cq3, 65536, .inl (fun _ => 0))), (q5, .inl (cq5, 4400, .inl (fun _ => 0))), (q7, .inl (cq7, 4400, .inl (fun _ => 0))), (q9, .inl (cq9, 4400, .inl (fun _ => 0))), (q11, .inl (cq11, 4400, .inl (fun _ => 0))), (q13, .inl (cq13, 4400, .inl (fun _ => 0))), (q15, .inl (cq15, 4400, .inl (fun _ => 0)))] := hD
  have hK : va_K (dC, dI) vwCl [(cq1, .int), (cq3, .int), (cq5, .int), (cq7, .int), (cq9, .int), (cq11, .int), (cq13, .int), (cq15, .int)] s := hK
  refine W.widen (k := 8) (n := 92136) (Nat.le_of_ble_eq_true rfl) (Nat.le_of_ble_eq_true rfl) ?_
  refine va_putF (D := (dC, dI)) (ci := 1) (v := .ref q15) (ty := (.array .int)) (C := RX1) (T := TX1) (N := 19) hx hb hbg in_X1 tyX1 tyX1_ok nmX1 hown hK hP hD hS 0 rfl rfl 8 (by decide) (hbg _ kw_89) (fun _ h9 => h9) rfl hin rfl (by decide +kernel) rfl rfl (Nat.le_of_ble_eq_true rfl) dX1_init_72 (fun H72 locs hP hD hS => ?_)
  have hP : va_P (dC, dI) vwCl [(qB, .inr (1, [.int 0, .ref q1, .ref q3, .ref q5, .ref q7, .ref q9, .ref q11, .ref q13, .ref q15, .null, .int 0, .int 0, .int 0, .int 0, .int 0, .int 0, .int 0, .int 0, .int 0])), (q1, .inl (cq1, 200, .inl (fun _ => 0))), (q3, .inl (cq3, 65536, .inl (fun _ => 0))), (q5, .inl (cq5, 4400, .inl (fun _ => 0))), (q7, .inl (cq7, 4400, .inl (fun _ => 0))), (q9, .inl (cq9, 4400, .inl (fun _ => 0))), (q11, .inl (cq11, 4400, .inl (fun _ => 0))), (q13, .inl (cq13, 4400, .inl (fun _ => 0))), (q15, .inl (cq15, 4400, .inl (fun _ => 0)))] H72 := hP
  have hD : va_D A [(qB, .inr (1, [.int 0, .ref q1, .ref q3, .ref q5, .ref q7, .ref q9, .ref q11, .ref q13, .ref q15, .null, .int 0, .int 0, .int 0, .int 0, .int 0, .int 0, .int 0, .int 0, .int 0])), (q1, .inl (cq1, 200, .inl (fun _ => 0))), (q3, .inl (cq3, 65536, .inl (fun _ => 0))), (q5, .inl (cq5, 4400, .inl (fun _ => 0))), (q7, .inl (cq7, 4400, .inl (fun _ => 0))), (q9, .inl (cq9, 4400, .inl (fun _ => 0))), (q11, .inl (cq11, 4400, .inl (fun _ => 0))), (q13, .inl (cq13, 4400, .inl (fun _ => 0))), (q15, .inl (cq15, 4400, .inl (fun _ => 0)))] := hD
  refine lv_aload_n hx hb dX1_init_75 rfl (lv_at hl 0 rfl) ?_
  refine lv_sipush (v := (4400 : Int32)) hx hb dX1_init_76 (by decide) ?_
  refine va_newa (atype := .boolean) hx hb (hbg _ kw_107) (ty := .boolean) rfl hK hP hD hS hA (N' := 4400) (a0 := (4400, .inl (fun _ => 0))) (fun _ => rfl) (by decide) (by decide) (by decide) (Nat.le_of_ble_eq_true rfl) (Nat.le_of_ble_eq_true rfl) dX1_init_79 (fun q17 cq17 H79 hK hP hD hS => ?_)
  have hP : va_P (dC, dI) vwCl [(qB, .inr (1, [.int 0, .ref q1, .ref q3, .ref q5, .ref q7, .ref q9, .ref q11, .ref q13, .ref q15, .null, .int 0, .int 0, .int 0, .int 0, .int 0, .int 0, .int 0, .int 0, .int 0])), (q1, .inl (cq1, 200, .inl (fun _ => 0))), (q3, .inl (cq3, 65536, .inl (fun _ => 0))), (q5, .inl (cq5, 4400, .inl (fun _ => 0))), (q7, .inl (cq7, 4400, .inl (fun _ => 0))), (q9, .inl (cq9, 4400, .inl (fun _ => 0))), (q11, .inl (cq11, 4400, .inl (fun _ => 0))), (q13, .inl (cq13, 4400, .inl (fun _ => 0))), (q15, .inl (cq15, 4400, .inl (fun _ => 0))), (q17, .inl (cq17, 4400, .inl (fun _ => 0)))] H79 := hP
  have hD : va_D A [(qB, .inr (1, [.int 0, .ref q1, .ref q3, .ref q5, .ref q7, .ref q9, .ref q11, .ref q13, .ref q15, .null, .int 0, .int 0, .int 0, .int 0, .int 0, .int 0, .int 0, .int 0, .int 0])), (q1, .inl (cq1, 200, .inl (fun _ => 0))), (q3, .inl (cq3, 65536, .inl (fun _ => 0))), (q5, .inl (cq5, 4400, .inl (fun _ => 0))), (q7, .inl (cq7, 4400, .inl (fun _ => 0))), (q9, .inl (cq9, 4400, .inl (fun _ => 0))), (q11, .inl (cq11, 4400, .inl (fun _ => 0))), (q13, .inl (cq13, 4400, .inl (fun _ => 0))), (q15, .inl (cq15, 4400, .inl (fun _ => 0))), (q17, .inl (cq17, 4400, .inl (fun _ => 0)))] := hD
  have hK : va_K (dC, dI) vwCl [(cq1, .int), (cq3, .int), (cq5, .int), (cq7, .int), (cq9, .int), (cq11, .int), (cq13, .int), (cq15, .int), (cq17, .boolean)] s := hK
  refine W.widen (k := 9) (n := 96536) (Nat.le_of_ble_eq_true rfl) (Nat.le_of_ble_eq_true rfl) ?_
  refine va_putF (D := (dC, dI)) (ci := 1) (v := .ref q17) (ty := (.array .boolean)) (C := RX1) (T := TX1) (N := 19) hx hb hbg in_X1 tyX1 tyX1_ok nmX1 hown hK hP hD hS 0 rfl rfl 9 (by decide) (hbg _ kw_68) (fun _ h9 => h9) rfl hin rfl (by decide +kernel) rfl rfl (Nat.le_of_ble_eq_true rfl) dX1_init_81 (fun H81 locs hP hD hS => ?_)
  have hP : va_P (dC, dI) vwCl [(qB, .inr (1, [.int 0, .ref q1, .ref q3, .ref q5, .ref q7, .ref q9, .ref q11, .ref q13, .ref q15, .ref q17, .int 0, .int 0, .int 0, .int 0, .int 0, .int 0, .int 0, .int 0, .int 0])), (q1, .inl (cq1, 200, .inl (fun _ => 0))), (q3, .inl (cq3, 65536, .inl (fun _ => 0))), (q5, .inl (cq5, 4400, .inl (fun _ => 0))), (q7, .inl (cq7, 4400, .inl (fun _ => 0))), (q9, .inl (cq9, 4400, .inl (fun _ => 0))), (q11, .inl (cq11, 4400, .inl (fun _ => 0))), (q13, .inl (cq13, 4400, .inl (fun _ => 0))), (q15, .inl (cq15, 4400, .inl (fun _ => 0))), (q17, .inl (cq17, 4400, .inl (fun _ => 0)))] H81 := hP
  have hD : va_D A [(qB, .inr (1, [.int 0, .ref q1, .ref q3, .ref q5, .ref q7, .ref q9, .ref q11, .ref q13, .ref q15, .ref q17, .int 0, .int 0, .int 0, .int 0, .int 0, .int 0, .int 0, .int 0, .int 0])), (q1, .inl (cq1, 200, .inl (fun _ => 0))), (q3, .inl (cq3, 65536, .inl (fun _ => 0))), (q5, .inl (cq5, 4400, .inl (fun _ => 0))), (q7, .inl (cq7, 4400, .inl (fun _ => 0))), (q9, .inl (cq9, 4400, .inl (fun _ => 0))), (q11, .inl (cq11, 4400, .inl (fun _ => 0))), (q13, .inl (cq13, 4400, .inl (fun _ => 0))), (q15, .inl (cq15, 4400, .inl (fun _ => 0))), (q17, .inl (cq17, 4400, .inl (fun _ => 0)))] := hD
  refine lv_aload_n hx hb dX1_init_84 rfl (lv_at hl 0 rfl) ?_
  refine lv_iconst (v := (-1 : Int32)) hx hb dX1_init_85 (by decide) ?_
  refine va_put (D := (dC, dI)) (ci := 1) (v := .int (-1 : Int32)) (ty := .int) (C := RX1) (T := TX1) (N := 19) hx hb hbg in_X1 tyX1 tyX1_ok nmX1 hown hK hP hD hS 0 rfl rfl 16 (by decide) (hbg _ kw_108) (fun _ h9 => h9) rfl (by decide +kernel) rfl rfl (Nat.le_of_ble_eq_true rfl) dX1_init_86 (fun H86 locs hP hD hS => ?_)
  have hP : va_P (dC, dI) vwCl [(qB, .inr (1, [.int 0, .ref q1, .ref q3, .ref q5, .ref q7, .ref q9, .ref q11, .ref q13, .ref q15, .ref q17, .int 0, .int 0, .int 0, .int 0, .int 0, .int 0, .int (-1 : Int32), .int 0, .int 0])), (q1, .inl (cq1, 200, .inl (fun _ => 0))), (q3, .inl (cq3, 65536, .inl (fun _ => 0))), (q5, .inl (cq5, 4400, .inl (fun _ => 0))), (q7, .inl (cq7, 4400, .inl (fun _ => 0))), (q9, .inl (cq9, 4400, .inl (fun _ => 0))), (q11, .inl (cq11, 4400, .inl (fun _ => 0))), (q13, .inl (cq13, 4400, .inl (fun _ => 0))), (q15, .inl (cq15, 4400, .inl (fun _ => 0))), (q17, .inl (cq17, 4400, .inl (fun _ => 0)))] H86 := hP
  have hD : va_D A [(qB, .inr (1, [.int 0, .ref q1, .ref q3, .ref q5, .ref q7, .ref q9, .ref q11, .ref q13, .ref q15, .ref q17, .int 0, .int 0, .int 0, .int 0, .int 0, .int 0, .int (-1 : Int32), .int 0, .int 0])), (q1, .inl (cq1, 200, .inl (fun _ => 0))), (q3, .inl (cq3, 65536, .inl (fun _ => 0))), (q5, .inl (cq5, 4400, .inl (fun _ => 0))), (q7, .inl (cq7, 4400, .inl (fun _ => 0))), (q9, .inl (cq9, 4400, .inl (fun _ => 0))), (q11, .inl (cq11, 4400, .inl (fun _ => 0))), (q13, .inl (cq13, 4400, .inl (fun _ => 0))), (q15, .inl (cq15, 4400, .inl (fun _ => 0))), (q17, .inl (cq17, 4400, .inl (fun _ => 0)))] := hD
  refine lv_aload_n hx hb dX1_init_89 rfl (lv_at hl 0 rfl) ?_
  refine lv_iconst (v := (-1 : Int32)) hx hb dX1_init_90 (by decide) ?_
  refine va_put (D := (dC, dI)) (ci := 1) (v := .int (-1 : Int32)) (ty := .int) (C := RX1) (T := TX1) (N := 19) hx hb hbg in_X1 tyX1 tyX1_ok nmX1 hown hK hP hD hS 0 rfl rfl 17 (by decide) (hbg _ kw_109) (fun _ h9 => h9) rfl (by decide +kernel) rfl rfl (Nat.le_of_ble_eq_true rfl) dX1_init_91 (fun H91 locs hP hD hS => ?_)
  have hP : va_P (dC, dI) vwCl [(qB, .inr (1, [.int 0, .ref q1, .ref q3, .ref q5, .ref q7, .ref q9, .ref q11, .ref q13, .ref q15, .ref q17, .int 0, .int 0, .int 0, .int 0, .int 0, .int 0, .int (-1 : Int32), .int (-1 : Int32), .int 0])), (q1, .inl (cq1, 200, .inl (fun _ => 0))), (q3, .inl (cq3, 65536, .inl (fun _ => 0))), (q5, .inl (cq5, 4400, .inl (fun _ => 0))), (q7, .inl (cq7, 4400, .inl (fun _ => 0))), (q9, .inl (cq9, 4400, .inl (fun _ => 0))), (q11, .inl (cq11, 4400, .inl (fun _ => 0))), (q13, .inl (cq13, 4400, .inl (fun _ => 0))), (q15, .inl (cq15, 4400, .inl (fun _ => 0))), (q17, .inl (cq17, 4400, .inl (fun _ => 0)))] H91 := hP
  have hD : va_D A [(qB, .inr (1, [.int 0, .ref q1, .ref q3, .ref q5, .ref q7, .ref q9, .ref q11, .ref q13, .ref q15, .ref q17, .int 0, .int 0, .int 0, .int 0, .int 0, .int 0, .int (-1 : Int32), .int (-1 : Int32), .int 0])), (q1, .inl (cq1, 200, .inl (fun _ => 0))), (q3, .inl (cq3, 65536, .inl (fun _ => 0))), (q5, .inl (cq5, 4400, .inl (fun _ => 0))), (q7, .inl (cq7, 4400, .inl (fun _ => 0))), (q9, .inl (cq9, 4400, .inl (fun _ => 0))), (q11, .inl (cq11, 4400, .inl (fun _ => 0))), (q13, .inl (cq13, 4400, .inl (fun _ => 0))), (q15, .inl (cq15, 4400, .inl (fun _ => 0))), (q17, .inl (cq17, 4400, .inl (fun _ => 0)))] := hD
  refine lv_aload_n hx hb dX1_init_94 rfl (lv_at hl 0 rfl) ?_
  refine lv_iconst (v := (0 : Int32)) hx hb dX1_init_95 (by decide) ?_
  refine va_put (D := (dC, dI)) (ci := 1) (v := .int (0 : Int32)) (ty := .int) (C := RX1) (T := TX1) (N := 19) hx hb hbg in_X1 tyX1 tyX1_ok nmX1 hown hK hP hD hS 0 rfl rfl 11 (by decide) (hbg _ kw_66) (fun _ h9 => h9) rfl (by decide +kernel) rfl rfl (Nat.le_of_ble_eq_true rfl) dX1_init_96 (fun H96 locs hP hD hS => ?_)
  have hP : va_P (dC, dI) vwCl [(qB, .inr (1, [.int 0, .ref q1, .ref q3, .ref q5, .ref q7, .ref q9, .ref q11, .ref q13, .ref q15, .ref q17, .int 0, .int (0 : Int32), .int 0, .int 0, .int 0, .int 0, .int (-1 : Int32), .int (-1 : Int32), .int 0])), (q1, .inl (cq1, 200, .inl (fun _ => 0))), (q3, .inl (cq3, 65536, .inl (fun _ => 0))), (q5, .inl (cq5, 4400, .inl (fun _ => 0))), (q7, .inl (cq7, 4400, .inl (fun _ => 0))), (q9, .inl (cq9, 4400, .inl (fun _ => 0))), (q11, .inl (cq11, 4400, .inl (fun _ => 0))), (q13, .inl (cq13, 4400, .inl (fun _ => 0))), (q15, .inl (cq15, 4400, .inl (fun _ => 0))), (q17, .inl (cq17, 4400, .inl (fun _ => 0)))] H96 := hP
  have hD : va_D A [(qB, .inr (1, [.int 0, .ref q1, .ref q3, .ref q5, .ref q7, .ref q9, .ref q11, .ref q13, .ref q15, .ref q17, .int 0, .int (0 : Int32), .int 0, .int 0, .int 0, .int 0, .int (-1 : Int32), .int (-1 : Int32), .int 0])), (q1, .inl (cq1, 200, .inl (fun _ => 0))), (q3, .inl (cq3, 65536, .inl (fun _ => 0))), (q5, .inl (cq5, 4400, .inl (fun _ => 0))), (q7, .inl (cq7, 4400, .inl (fun _ => 0))), (q9, .inl (cq9, 4400, .inl (fun _ => 0))), (q11, .inl (cq11, 4400, .inl (fun _ => 0))), (q13, .inl (cq13, 4400, .inl (fun _ => 0))), (q15, .inl (cq15, 4400, .inl (fun _ => 0))), (q17, .inl (cq17, 4400, .inl (fun _ => 0)))] := hD
  have hP9 := hP.sub (ws' := [(qB, .inr (1, [.int 0, .ref q1, .ref q3, .ref q5, .ref q7, .ref q9, .ref q11, .ref q13, .ref q15, .ref q17, .int 0, .int (0 : Int32), .int 0, .int 0, .int 0, .int 0, .int (-1 : Int32), .int (-1 : Int32), .int 0])), (q1, .inl (cq1, 200, .inl (fun _ => 0))), (q3, .inl (cq3, 65536, .inl (fun _ => 0))), (q5, .inl (cq5, 4400, .inl (fun _ => 0))), (q7, .inl (cq7, 4400, .inl (fun _ => 0))), (q9, .inl (cq9, 4400, .inl (fun _ => 0))), (q11, .inl (cq11, 4400, .inl (fun _ => 0))), (q13, .inl (cq13, 4400, .inl (fun _ => 0))), (q15, .inl (cq15, 4400, .inl (fun _ => 0))), (q17, .inl (cq17, 4400, .inl (fun _ => 0)))]) [0, 1, 2, 3, 4, 5, 6, 7, 8, 9] rfl
  have hD9 := hD.sub (ws' := [(qB, .inr (1, [.int 0, .ref q1, .ref q3, .ref q5, .ref q7, .ref q9, .ref q11, .ref q13, .ref q15, .ref q17, .int 0, .int (0 : Int32), .int 0, .int 0, .int 0, .int 0, .int (-1 : Int32), .int (-1 : Int32), .int 0])), (q1, .inl (cq1, 200, .inl (fun _ => 0))), (q3, .inl (cq3, 65536, .inl (fun _ => 0))), (q5, .inl (cq5, 4400, .inl (fun _ => 0))), (q7, .inl (cq7, 4400, .inl (fun _ => 0))), (q9, .inl (cq9, 4400, .inl (fun _ => 0))), (q11, .inl (cq11, 4400, .inl (fun _ => 0))), (q13, .inl (cq13, 4400, .inl (fun _ => 0))), (q15, .inl (cq15, 4400, .inl (fun _ => 0))), (q17, .inl (cq17, 4400, .inl (fun _ => 0)))]) [0, 1, 2, 3, 4, 5, 6, 7, 8, 9] (by decide) rfl
  have hK9 := hK.sub (tys' := [(cq1, .int), (cq3, .int), (cq5, .int), (cq7, .int), (cq9, .int), (cq11, .int), (cq13, .int), (cq15, .int), (cq17, .boolean)]) [0, 1, 2, 3, 4, 5, 6, 7, 8] rfl
  exact W.vret hx hb hr (fun t ht hW => ⟨⟨(), rfl, trivial, q1, q3, q5, q7, q9, q11, q13, q15, q17, cq1, cq3, cq5, cq7, cq9, cq11, cq13, cq15, cq17, by rw [ht]; exact hP9, va_K.moved hW.alike hK9, hD9⟩, hS.F ht⟩) hS.2.2 dX1_init_99
end
section
def wp_X0_wordAt (post : Int32 → Prop) (x1 : Int32) (A_ring : Nat → Int32) (A_buffer : Nat → Int32) (A_firstPlace : Int32) (A_forcedPlace : Int32) (A_endPlace : Int32) (A_wordsToFailure : Int32) (A_opened : Int32) : Prop :=
  vp_in (x1 &&& (65535 : Int32)) 65536 ∧ (post (A_ring (x1 &&& (65535 : Int32)).toNatClampNeg))
set_option maxHeartbeats 4000000 in
set_option maxRecDepth 100000 in
theorem met_X0_wordAt (l : Launch) (dC : Nat → ClassId) (dI : Nat → Nat → Nat) (qA qA_ring qA_buffer : Nat) (cA_ring cA_buffer : ClassId) (A_ring : Nat → Int32) (A_buffer : Nat → Int32) (A_firstPlace : Int32) (A_forcedPlace : Int32) (A_endPlace : Int32) (A_wordsToFailure : Int32) (A_opened : Int32) (x1 : Int32) (post : Int32 → Prop) (hw : wp_X0_wordAt post x1 A_ring A_buffer A_firstPlace A_forcedPlace A_endPlace A_wordsToFailure A_opened) :
    Met l yX0_wordAt wsX0_wordAt ({ frames := 0, cells := 0, slots := 0, locals := 0 } : Room) (pcR_A dC dI qA qA_ring qA_buffer cA_ring cA_buffer A_ring A_buffer A_firstPlace A_forcedPlace A_endPlace A_wordsToFailure A_opened [.ref qA, .int x1]) (vp_Si post) 0 0 (fun _ => False) := by
  refine Met.ofW (cc := cX0_wordAt) (maxL := 2) (ret := (some .int)) (by decide) rfl ?_
  intro p e s m args below meth c s₁ B hml hv
  obtain ⟨hav, hP, hK⟩ := hv
  have hx := B.exec
  have hb := B.bytes
  have hr := B.returns
  have hts := atoms_spec (ws := wsX0_wordAt) B.pre
  have hbg : ∀ w ∈ bigW, w.before args s = true := fun w h => hts w (List.mem_cons_of_mem _ h)
  have hown : s.vm.findClass RX0 = some m.cls := findClass_of_methodNamed B.named
  have hlocks := B.notSynchronized
  have hP : va_P (dC, dI) vwCl [(qA, .inr (0, [.ref qA_ring, .ref qA_buffer, .int A_firstPlace, .int A_forcedPlace, .int A_endPlace, .int A_wordsToFailure, .int A_opened])), (qA_ring, .inl (cA_ring, 65536, .inl A_ring)), (qA_buffer, .inl (cA_buffer, 200, .inl A_buffer))] s.heap := hP
  generalize hQQ : MQ below (vp_Si post) args s 0 0 (fun _ => False) = QQ
  have hl := lv_entry ([.ref qA, .int x1]) (n := 2) (Nat.le_of_ble_eq_true rfl)
  rw [show entryFrame m args 2 = entryFrame m ([.ref qA, .int x1] : List Value).toArray 2 by rw [hav], lg_entry_eq]
  generalize (lg_sl ([.ref qA, .int x1]) ++ List.replicate (2 - (lg_sl ([.ref qA, .int x1])).length) Slot.unset).toArray = ls at hl ⊢
  have hl : lv_has ls 2 [(0, .ref qA), (1, .int x1)] := hl
  unfold wp_X0_wordAt at hw
  refine lv_aload_n hx hb dX0_wordAt_0 rfl (lv_at hl 0 rfl) ?_
  refine va_get (D := (dC, dI)) (ci := 0) (v := .ref qA_ring) (C := RX0) (T := TX0) (N := 7) hx hb hbg in_X0 hown hK hP 0 rfl rfl 0 (by decide) (hbg _ kw_0) (fun _ h9 => h9) rfl dX0_wordAt_1 ?_
  refine lv_iload_n hx hb dX0_wordAt_4 rfl (lv_at hl 1 rfl) ?_
  refine lv_ldc (v := (65535 : Int32)) hx hb hown (hbg _ kw_1) dX0_wordAt_5 ?_
  refine lv_iand hx hb dX0_wordAt_7 ?_
  obtain ⟨h_1, hw⟩ := hw
  refine va_iald hx hb hK hP 1 0 rfl rfl h_1 dX0_wordAt_8 ?_
  subst hQQ
  exact W.iret (v := A_ring (x1 &&& (65535 : Int32)).toNatClampNeg) hx hb hr (fun t ht _ => ⟨A_ring (x1 &&& (65535 : Int32)).toNatClampNeg, rfl, hw, ht⟩) (by simp) dX0_wordAt_9
def wl_X0_lastRecordBefore_4 (post : Int32 → Prop) (A_ring : Nat → Int32) (A_buffer : Nat → Int32) (A_firstPlace : Int32) (A_forcedPlace : Int32) (A_endPlace : Int32) (A_wordsToFailure : Int32) (A_opened : Int32) (k4_1 : Int32) : Nat → Int32 → Int32 → Prop
  | 0, _, _ => False
  | n4 + 1, y4_2, y4_3 =>
    (((13107 : Int32) ≤ y4_3 → post (-1 : Int32)) ∧ (¬ (13107 : Int32) ≤ y4_3 → ((y4_2 ≤ A_firstPlace → post (-1 : Int32)) ∧ (¬ y4_2 ≤ A_firstPlace → wp_X0_wordAt (fun r_1 => (∀ v2_2 : Int32, v2_2 = (y4_2 - (if 0 ≤ r_1 then r_1 else 0 - r_1)) → ((r_1 ≤ (0 : Int32) → wl_X0_lastRecordBefore_4 post A_ring A_buffer A_firstPlace A_forcedPlace A_endPlace A_wordsToFailure A_opened k4_1 n4 v2_2 (y4_3 + (1 : Int32))) ∧ (¬ r_1 ≤ (0 : Int32) → post v2_2)))) (y4_2 - (1 : Int32)) A_ring A_buffer A_firstPlace A_forcedPlace A_endPlace A_wordsToFailure A_opened))))
def wp_X0_lastRecordBefore (post : Int32 → Prop) (x1 : Int32) (A_ring : Nat → Int32) (A_buffer : Nat → Int32) (A_firstPlace : Int32) (A_forcedPlace : Int32) (A_endPlace : Int32) (A_wordsToFailure : Int32) (A_opened : Int32) : Prop :=
  ∃ n, wl_X0_lastRecordBefore_4 post A_ring A_buffer A_firstPlace A_forcedPlace A_endPlace A_wordsToFailure A_opened x1 n x1 (0 : Int32)
set_option maxHeartbeats 4000000 in
set_option maxRecDepth 100000 in
theorem met_X0_lastRecordBefore (l : Launch) (dC : Nat → ClassId) (dI : Nat → Nat → Nat) (qA qA_ring qA_buffer : Nat) (cA_ring cA_buffer : ClassId) (A_ring : Nat → Int32) (A_buffer : Nat → Int32) (A_firstPlace : Int32) (A_forcedPlace : Int32) (A_endPlace : Int32) (A_wordsToFailure : Int32) (A_opened : Int32) (x1 : Int32) (post : Int32 → Prop) (hw : wp_X0_lastRecordBefore post x1 A_ring A_buffer A_firstPlace A_forcedPlace A_endPlace A_wordsToFailure A_opened) :
    Met l yX0_lastRecordBefore wsX0_lastRecordBefore ({ frames := 1, cells := 0, slots := 0, locals := 24 } : Room) (pcR_A dC dI qA qA_ring qA_buffer cA_ring cA_buffer A_ring A_buffer A_firstPlace A_forcedPlace A_endPlace A_wordsToFailure A_opened [.ref qA, .int x1]) (vp_Si post) 0 0 (fun _ => False) := by
  refine Met.ofW (cc := cX0_lastRecordBefore) (maxL := 5) (ret := (some .int)) (by decide) rfl ?_
  intro p e s m args below meth c s₁ B hml hv
  obtain ⟨hav, hP, hK⟩ := hv
  have hx := B.exec
  have hb := B.bytes
  have hr := B.returns
  have hts := atoms_spec (ws := wsX0_lastRecordBefore) B.pre
  have hbg : ∀ w ∈ bigW, w.before args s = true := fun w h => hts w (List.mem_cons_of_mem _ h)
  have hown : s.vm.findClass RX0 = some m.cls := findClass_of_methodNamed B.named
  have hlocks := B.notSynchronized
  have hP : va_P (dC, dI) vwCl [(qA, .inr (0, [.ref qA_ring, .ref qA_buffer, .int A_firstPlace, .int A_forcedPlace, .int A_endPlace, .int A_wordsToFailure, .int A_opened])), (qA_ring, .inl (cA_ring, 65536, .inl A_ring)), (qA_buffer, .inl (cA_buffer, 200, .inl A_buffer))] s.heap := hP
  generalize hQQ : MQ below (vp_Si post) args s 0 0 (fun _ => False) = QQ
  have hl := lv_entry ([.ref qA, .int x1]) (n := 5) (Nat.le_of_ble_eq_true rfl)
  rw [show entryFrame m args 5 = entryFrame m ([.ref qA, .int x1] : List Value).toArray 5 by rw [hav], lg_entry_eq]
  generalize (lg_sl ([.ref qA, .int x1]) ++ List.replicate (5 - (lg_sl ([.ref qA, .int x1])).length) Slot.unset).toArray = ls at hl ⊢
  have hl : lv_has ls 5 [(0, .ref qA), (1, .int x1)] := hl
  unfold wp_X0_lastRecordBefore at hw
  have hL4 : ∀ (n4 : Nat) (k4_1 : Int32) (y4_2 : Int32) (y4_3 : Int32), wl_X0_lastRecordBefore_4 post A_ring A_buffer A_firstPlace A_forcedPlace A_endPlace A_wordsToFailure A_opened k4_1 n4 y4_2 y4_3 → ∀ ls : Array Slot, lv_has ls 5 [(0, .ref qA), (1, .int k4_1), (2, .int y4_2), (3, .int y4_3)] → W p l e (headSpec wsX0_lastRecordBefore ({ frames := 1, cells := 0, slots := 0, locals := 24 } : Room)).room s m args below meth c s.heap [] 0 0 QQ (F0 m 4 ls []) := by
    intro n4
    induction n4 with
    | zero => intro k4_1 y4_2 y4_3 hw; exact False.elim hw
    | succ n4 ih4 =>
      intro k4_1 y4_2 y4_3 hw ls hl
      rw [wl_X0_lastRecordBefore_4] at hw
      refine lv_iload_n hx hb dX0_lastRecordBefore_4 rfl (lv_at hl 3 rfl) ?_
      refine lv_sipush (v := (13107 : Int32)) hx hb dX0_lastRecordBefore_5 (by decide) ?_
      refine lv_icmp_ge (tgt := 49) hx hb dX0_lastRecordBefore_8 (by decide) (fun c9 => ?_) (fun c9 => ?_)
      · have hw := hw.1 c9
        refine lv_iconst (v := (-1 : Int32)) hx hb dX0_lastRecordBefore_49 (by decide) ?_
        subst hQQ
        exact W.iret (v := (-1 : Int32)) hx hb hr (fun t ht _ => ⟨(-1 : Int32), rfl, hw, ht⟩) (by simp) dX0_lastRecordBefore_50
      · have hw := hw.2 c9
        refine lv_iload_n hx hb dX0_lastRecordBefore_11 rfl (lv_at hl 2 rfl) ?_
        refine lv_aload_n hx hb dX0_lastRecordBefore_12 rfl (lv_at hl 0 rfl) ?_
        refine va_get (D := (dC, dI)) (ci := 0) (v := .int A_firstPlace) (C := RX0) (T := TX0) (N := 7) hx hb hbg in_X0 hown hK hP 0 rfl rfl 2 (by decide) (hbg _ kw_2) (fun _ h9 => h9) rfl dX0_lastRecordBefore_13 ?_
        refine lv_icmp_le (tgt := 49) hx hb dX0_lastRecordBefore_16 (by decide) (fun c9 => ?_) (fun c9 => ?_)
        · have hw := hw.1 c9
          refine lv_iconst (v := (-1 : Int32)) hx hb dX0_lastRecordBefore_49 (by decide) ?_
          subst hQQ
          exact W.iret (v := (-1 : Int32)) hx hb hr (fun t ht _ => ⟨(-1 : Int32), rfl, hw, ht⟩) (by simp) dX0_lastRecordBefore_50
        · have hw := hw.2 c9
          refine lv_aload_n hx hb dX0_lastRecordBefore_19 rfl (lv_at hl 0 rfl) ?_
          refine lv_iload_n hx hb dX0_lastRecordBefore_20 rfl (lv_at hl 2 rfl) ?_
          refine lv_iconst (v := (1 : Int32)) hx hb dX0_lastRecordBefore_21 (by decide) ?_
          refine lv_isub hx hb dX0_lastRecordBefore_22 ?_
          refine vp_callSi (W.runV (As := [.int (y4_2 - (1 : Int32))]) (rest := []) ⟨hx, hb, hml, hown, hbg⟩ (met_X0_wordAt l dC dI qA qA_ring qA_buffer cA_ring cA_buffer A_ring A_buffer A_firstPlace A_forcedPlace A_endPlace A_wordsToFailure A_opened (y4_2 - (1 : Int32)) _ hw) (cwV 1 hbg g_RX0_97 rfl rfl rfl (by decide +kernel) ⟨Nat.le_of_ble_eq_true rfl, Nat.le_of_ble_eq_true rfl⟩) ⟨pcR_A_b _ _ _ _ _ _ _ _ _ _ _ _ _ _ _ , va_recv hK hP (ci := 0) (q0 := 0) rfl rfl, fun U hU hW => ⟨rfl, by rw [hU]; exact hP, va_K.moved hW.alike hK⟩⟩ rfl rfl hl.1 rfl (lv_room (Nat.le_of_ble_eq_true rfl)) dX0_lastRecordBefore_23 ⟨Nat.le_of_ble_eq_true rfl, Nat.le_of_ble_eq_true rfl⟩) (fun r_1 hw => ?_)
          try dsimp only at hw
          refine lv_istore (lv' := [(4, .int r_1), (0, .ref qA), (1, .int k4_1), (2, .int y4_2), (3, .int y4_3)]) hx hb dX0_lastRecordBefore_26 hl (by decide) rfl (fun ls hl => ?_)
          refine lv_iload_n hx hb dX0_lastRecordBefore_28 rfl (lv_at hl 3 rfl) ?_
          refine lv_iload hx hb dX0_lastRecordBefore_29 (lv_at hl 0 rfl) ?_
          refine va_mabs hx hb (hml.trans hl.1.symm) hown (hbg _ kw_8) (hbg _ kw_9) (hbg _ kw_10) (hbg _ kw_11) (Nat.le_of_ble_eq_true rfl) (Nat.le_of_ble_eq_true rfl) (Nat.le_of_ble_eq_true rfl) (Nat.le_of_ble_eq_true rfl) dX0_lastRecordBefore_31 ?_
          refine lv_isub hx hb dX0_lastRecordBefore_34 ?_
          refine lv_topi (fun v2_2 ev2_2 => ?_)
          have hw := hw v2_2 ev2_2
          refine lv_istore_n (lv' := [(2, .int v2_2), (4, .int r_1), (0, .ref qA), (1, .int k4_1), (3, .int y4_3)]) hx hb dX0_lastRecordBefore_35 rfl hl (by decide) rfl (fun ls hl => ?_)
          refine lv_iload hx hb dX0_lastRecordBefore_36 (lv_at hl 1 rfl) ?_
          refine lv_if_le (tgt := 43) hx hb dX0_lastRecordBefore_38 (by decide) (fun c9 => ?_) (fun c9 => ?_)
          · have hw := hw.1 c9
            refine lv_iinc (v := y4_3 + (1 : Int32)) (lv' := [(3, .int (y4_3 + (1 : Int32))), (2, .int v2_2), (4, .int r_1), (0, .ref qA), (1, .int k4_1)]) hx hb dX0_lastRecordBefore_43 hl (k := 4) rfl rfl (by decide) rfl (fun ls hl => ?_)
            refine lv_goto (tgt := 4) hx hb dX0_lastRecordBefore_46 (by decide) ?_
            exact ih4 k4_1 v2_2 (y4_3 + (1 : Int32)) hw ls (lv_sub hl [3, 4, 1, 0] rfl)
          · have hw := hw.2 c9
            refine lv_iload_n hx hb dX0_lastRecordBefore_41 rfl (lv_at hl 0 rfl) ?_
            subst hQQ
            exact W.iret (v := v2_2) hx hb hr (fun t ht _ => ⟨v2_2, rfl, hw, ht⟩) (by simp) dX0_lastRecordBefore_42
  refine lv_iload_n hx hb dX0_lastRecordBefore_0 rfl (lv_at hl 1 rfl) ?_
  refine lv_istore_n (lv' := [(2, .int x1), (0, .ref qA), (1, .int x1)]) hx hb dX0_lastRecordBefore_1 rfl hl (by decide) rfl (fun ls hl => ?_)
  refine lv_iconst (v := (0 : Int32)) hx hb dX0_lastRecordBefore_2 (by decide) ?_
  refine lv_istore_n (lv' := [(3, .int (0 : Int32)), (2, .int x1), (0, .ref qA), (1, .int x1)]) hx hb dX0_lastRecordBefore_3 rfl hl (by decide) rfl (fun ls hl => ?_)
  obtain ⟨n9, hw⟩ := hw
  exact hL4 n9 x1 x1 (0 : Int32) hw ls (lv_sub hl [2, 3, 1, 0] rfl)
def wp_X0_ownerAt (post : Int32 → Prop) (x1 : Int32) (A_ring : Nat → Int32) (A_buffer : Nat → Int32) (A_firstPlace : Int32) (A_forcedPlace : Int32) (A_endPlace : Int32) (A_wordsToFailure : Int32) (A_opened : Int32) : Prop :=
  wp_X0_wordAt (fun r_1 => post (r_1 / (16 : Int32))) (x1 + (1 : Int32)) A_ring A_buffer A_firstPlace A_forcedPlace A_endPlace A_wordsToFailure A_opened
set_option maxHeartbeats 4000000 in
set_option maxRecDepth 100000 in
theorem met_X0_ownerAt (l : Launch) (dC : Nat → ClassId) (dI : Nat → Nat → Nat) (qA qA_ring qA_buffer : Nat) (cA_ring cA_buffer : ClassId) (A_ring : Nat → Int32) (A_buffer : Nat → Int32) (A_firstPlace : Int32) (A_forcedPlace : Int32) (A_endPlace : Int32) (A_wordsToFailure : Int32) (A_opened : Int32) (x1 : Int32) (post : Int32 → Prop) (hw : wp_X0_ownerAt post x1 A_ring A_buffer A_firstPlace A_forcedPlace A_endPlace A_wordsToFailure A_opened) :
    Met l yX0_ownerAt wsX0_ownerAt ({ frames := 1, cells := 0, slots := 0, locals := 21 } : Room) (pcR_A dC dI qA qA_ring qA_buffer cA_ring cA_buffer A_ring A_buffer A_firstPlace A_forcedPlace A_endPlace A_wordsToFailure A_opened [.ref qA, .int x1]) (vp_Si post) 0 0 (fun _ => False) := by
  refine Met.ofW (cc := cX0_ownerAt) (maxL := 2) (ret := (some .int)) (by decide) rfl ?_
  intro p e s m args below meth c s₁ B hml hv
  obtain ⟨hav, hP, hK⟩ := hv
  have hx := B.exec
  have hb := B.bytes
  have hr := B.returns
  have hts := atoms_spec (ws := wsX0_ownerAt) B.pre
  have hbg : ∀ w ∈ bigW, w.before args s = true := fun w h => hts w (List.mem_cons_of_mem _ h)
  have hown : s.vm.findClass RX0 = some m.cls := findClass_of_methodNamed B.named
  have hlocks := B.notSynchronized
  have hP : va_P (dC, dI) vwCl [(qA, .inr (0, [.ref qA_ring, .ref qA_buffer, .int A_firstPlace, .int A_forcedPlace, .int A_endPlace, .int A_wordsToFailure, .int A_opened])), (qA_ring, .inl (cA_ring, 65536, .inl A_ring)), (qA_buffer, .inl (cA_buffer, 200, .inl A_buffer))] s.heap := hP
  generalize hQQ : MQ below (vp_Si post) args s 0 0 (fun _ => False) = QQ
  have hl := lv_entry ([.ref qA, .int x1]) (n := 2) (Nat.le_of_ble_eq_true rfl)
  rw [show entryFrame m args 2 = entryFrame m ([.ref qA, .int x1] : List Value).toArray 2 by rw [hav], lg_entry_eq]
  generalize (lg_sl ([.ref qA, .int x1]) ++ List.replicate (2 - (lg_sl ([.ref qA, .int x1])).length) Slot.unset).toArray = ls at hl ⊢
  have hl : lv_has ls 2 [(0, .ref qA), (1, .int x1)] := hl
  unfold wp_X0_ownerAt at hw
  refine lv_aload_n hx hb dX0_ownerAt_0 rfl (lv_at hl 0 rfl) ?_
  refine lv_iload_n hx hb dX0_ownerAt_1 rfl (lv_at hl 1 rfl) ?_
  refine lv_iconst (v := (1 : Int32)) hx hb dX0_ownerAt_2 (by decide) ?_
  refine lv_iadd hx hb dX0_ownerAt_3 ?_
  refine vp_callSi (W.runV (As := [.int (x1 + (1 : Int32))]) (rest := []) ⟨hx, hb, hml, hown, hbg⟩ (met_X0_wordAt l dC dI qA qA_ring qA_buffer cA_ring cA_buffer A_ring A_buffer A_firstPlace A_forcedPlace A_endPlace A_wordsToFailure A_opened (x1 + (1 : Int32)) _ hw) (cwV 1 hbg g_RX0_97 rfl rfl rfl (by decide +kernel) ⟨Nat.le_of_ble_eq_true rfl, Nat.le_of_ble_eq_true rfl⟩) ⟨pcR_A_b _ _ _ _ _ _ _ _ _ _ _ _ _ _ _ , va_recv hK hP (ci := 0) (q0 := 0) rfl rfl, fun U hU hW => ⟨rfl, by rw [hU]; exact hP, va_K.moved hW.alike hK⟩⟩ rfl rfl hl.1 rfl (lv_room (Nat.le_of_ble_eq_true rfl)) dX0_ownerAt_4 ⟨Nat.le_of_ble_eq_true rfl, Nat.le_of_ble_eq_true rfl⟩) (fun r_1 hw => ?_)
  try dsimp only at hw
  refine lv_bipush (v := (16 : Int32)) hx hb dX0_ownerAt_7 (by decide) ?_
  refine lv_idiv hx hb dX0_ownerAt_9 (by decide) ?_
  subst hQQ
  exact W.iret (v := r_1 / (16 : Int32)) hx hb hr (fun t ht _ => ⟨r_1 / (16 : Int32), rfl, hw, ht⟩) (by simp) dX0_ownerAt_10
def wl_X0_lastRecordOf_11 (post : Int32 → Prop) (A_ring : Nat → Int32) (A_buffer : Nat → Int32) (A_firstPlace : Int32) (A_forcedPlace : Int32) (A_endPlace : Int32) (A_wordsToFailure : Int32) (A_opened : Int32) (k11_1 : Int32) : Nat → Int32 → Int32 → Prop
  | 0, _, _ => False
  | n11 + 1, y11_2, y11_3 =>
    (((13107 : Int32) ≤ y11_3 → post (-1 : Int32)) ∧ (¬ (13107 : Int32) ≤ y11_3 → ((y11_2 = (-1 : Int32) → post (-1 : Int32)) ∧ (¬ y11_2 = (-1 : Int32) → wp_X0_ownerAt (fun r_1 => ((r_1 = k11_1 → post y11_2) ∧ (¬ r_1 = k11_1 → wp_X0_lastRecordBefore (fun r_2 => wl_X0_lastRecordOf_11 post A_ring A_buffer A_firstPlace A_forcedPlace A_endPlace A_wordsToFailure A_opened k11_1 n11 r_2 (y11_3 + (1 : Int32))) y11_2 A_ring A_buffer A_firstPlace A_forcedPlace A_endPlace A_wordsToFailure A_opened))) y11_2 A_ring A_buffer A_firstPlace A_forcedPlace A_endPlace A_wordsToFailure A_opened))))
def wp_X0_lastRecordOf (post : Int32 → Prop) (x1 : Int32) (A_ring : Nat → Int32) (A_buffer : Nat → Int32) (A_firstPlace : Int32) (A_forcedPlace : Int32) (A_endPlace : Int32) (A_wordsToFailure : Int32) (A_opened : Int32) : Prop :=
  wp_X0_lastRecordBefore (fun r_3 => ∃ n, wl_X0_lastRecordOf_11 post A_ring A_buffer A_firstPlace A_forcedPlace A_endPlace A_wordsToFailure A_opened x1 n r_3 (0 : Int32)) A_endPlace A_ring A_buffer A_firstPlace A_forcedPlace A_endPlace A_wordsToFailure A_opened
set_option maxHeartbeats 4000000 in
set_option maxRecDepth 100000 in
theorem met_X0_lastRecordOf (l : Launch) (dC : Nat → ClassId) (dI : Nat → Nat → Nat) (qA qA_ring qA_buffer : Nat) (cA_ring cA_buffer : ClassId) (A_ring : Nat → Int32) (A_buffer : Nat → Int32) (A_firstPlace : Int32) (A_forcedPlace : Int32) (A_endPlace : Int32) (A_wordsToFailure : Int32) (A_opened : Int32) (x1 : Int32) (post : Int32 → Prop) (hw : wp_X0_lastRecordOf post x1 A_ring A_buffer A_firstPlace A_forcedPlace A_endPlace A_wordsToFailure A_opened) :
    Met l yX0_lastRecordOf wsX0_lastRecordOf ({ frames := 2, cells := 0, slots := 0, locals := 48 } : Room) (pcR_A dC dI qA qA_ring qA_buffer cA_ring cA_buffer A_ring A_buffer A_firstPlace A_forcedPlace A_endPlace A_wordsToFailure A_opened [.ref qA, .int x1]) (vp_Si post) 0 0 (fun _ => False) := by
  refine Met.ofW (cc := cX0_lastRecordOf) (maxL := 4) (ret := (some .int)) (by decide) rfl ?_
  intro p e s m args below meth c s₁ B hml hv
  obtain ⟨hav, hP, hK⟩ := hv
  have hx := B.exec
  have hb := B.bytes
  have hr := B.returns
  have hts := atoms_spec (ws := wsX0_lastRecordOf) B.pre
  have hbg : ∀ w ∈ bigW, w.before args s = true := fun w h => hts w (List.mem_cons_of_mem _ h)
  have hown : s.vm.findClass RX0 = some m.cls := findClass_of_methodNamed B.named
  have hlocks := B.notSynchronized
  have hP : va_P (dC, dI) vwCl [(qA, .inr (0, [.ref qA_ring, .ref qA_buffer, .int A_firstPlace, .int A_forcedPlace, .int A_endPlace, .int A_wordsToFailure, .int A_opened])), (qA_ring, .inl (cA_ring, 65536, .inl A_ring)), (qA_buffer, .inl (cA_buffer, 200, .inl A_buffer))] s.heap := hP
  generalize hQQ : MQ below (vp_Si post) args s 0 0 (fun _ => False) = QQ
  have hl := lv_entry ([.ref qA, .int x1]) (n := 4) (Nat.le_of_ble_eq_true rfl)
  rw [show entryFrame m args 4 = entryFrame m ([.ref qA, .int x1] : List Value).toArray 4 by rw [hav], lg_entry_eq]
  generalize (lg_sl ([.ref qA, .int x1]) ++ List.replicate (4 - (lg_sl ([.ref qA, .int x1])).length) Slot.unset).toArray = ls at hl ⊢
  have hl : lv_has ls 4 [(0, .ref qA), (1, .int x1)] := hl
  unfold wp_X0_lastRecordOf at hw
  have hL11 : ∀ (n11 : Nat) (k11_1 : Int32) (y11_2 : Int32) (y11_3 : Int32), wl_X0_lastRecordOf_11 post A_ring A_buffer A_firstPlace A_forcedPlace A_endPlace A_wordsToFailure A_opened k11_1 n11 y11_2 y11_3 → ∀ ls : Array Slot, lv_has ls 4 [(0, .ref qA), (1, .int k11_1), (2, .int y11_2), (3, .int y11_3)] → W p l e (headSpec wsX0_lastRecordOf ({ frames := 2, cells := 0, slots := 0, locals := 48 } : Room)).room s m args below meth c s.heap [] 0 0 QQ (F0 m 11 ls []) := by
    intro n11
    induction n11 with
    | zero => intro k11_1 y11_2 y11_3 hw; exact False.elim hw
    | succ n11 ih11 =>
      intro k11_1 y11_2 y11_3 hw ls hl
      rw [wl_X0_lastRecordOf_11] at hw
      refine lv_iload_n hx hb dX0_lastRecordOf_11 rfl (lv_at hl 3 rfl) ?_
      refine lv_sipush (v := (13107 : Int32)) hx hb dX0_lastRecordOf_12 (by decide) ?_
      refine lv_icmp_ge (tgt := 46) hx hb dX0_lastRecordOf_15 (by decide) (fun c9 => ?_) (fun c9 => ?_)
      · have hw := hw.1 c9
        refine lv_iconst (v := (-1 : Int32)) hx hb dX0_lastRecordOf_46 (by decide) ?_
        subst hQQ
        exact W.iret (v := (-1 : Int32)) hx hb hr (fun t ht _ => ⟨(-1 : Int32), rfl, hw, ht⟩) (by simp) dX0_lastRecordOf_47
      · have hw := hw.2 c9
        refine lv_iload_n hx hb dX0_lastRecordOf_18 rfl (lv_at hl 2 rfl) ?_
        refine lv_iconst (v := (-1 : Int32)) hx hb dX0_lastRecordOf_19 (by decide) ?_
        refine lv_icmp_eq (tgt := 46) hx hb dX0_lastRecordOf_20 (by decide) (fun c9 => ?_) (fun c9 => ?_)
        · have hw := hw.1 c9
          refine lv_iconst (v := (-1 : Int32)) hx hb dX0_lastRecordOf_46 (by decide) ?_
          subst hQQ
          exact W.iret (v := (-1 : Int32)) hx hb hr (fun t ht _ => ⟨(-1 : Int32), rfl, hw, ht⟩) (by simp) dX0_lastRecordOf_47
        · have hw := hw.2 c9
          refine lv_aload_n hx hb dX0_lastRecordOf_23 rfl (lv_at hl 0 rfl) ?_
          refine lv_iload_n hx hb dX0_lastRecordOf_24 rfl (lv_at hl 2 rfl) ?_
          refine vp_callSi (W.runV (As := [.int y11_2]) (rest := []) ⟨hx, hb, hml, hown, hbg⟩ (met_X0_ownerAt l dC dI qA qA_ring qA_buffer cA_ring cA_buffer A_ring A_buffer A_firstPlace A_forcedPlace A_endPlace A_wordsToFailure A_opened y11_2 _ hw) (cwV 1 hbg g_RX0_94 rfl rfl rfl (by decide +kernel) ⟨Nat.le_of_ble_eq_true rfl, Nat.le_of_ble_eq_true rfl⟩) ⟨pcR_A_b _ _ _ _ _ _ _ _ _ _ _ _ _ _ _ , va_recv hK hP (ci := 0) (q0 := 0) rfl rfl, fun U hU hW => ⟨rfl, by rw [hU]; exact hP, va_K.moved hW.alike hK⟩⟩ rfl rfl hl.1 rfl (lv_room (Nat.le_of_ble_eq_true rfl)) dX0_lastRecordOf_25 ⟨Nat.le_of_ble_eq_true rfl, Nat.le_of_ble_eq_true rfl⟩) (fun r_1 hw => ?_)
          try dsimp only at hw
          refine lv_iload_n hx hb dX0_lastRecordOf_28 rfl (lv_at hl 1 rfl) ?_
          refine lv_icmp_ne (tgt := 34) hx hb dX0_lastRecordOf_29 (by decide) (fun c9 => ?_) (fun c9 => ?_)
          · have hw := hw.2 c9
            refine lv_aload_n hx hb dX0_lastRecordOf_34 rfl (lv_at hl 0 rfl) ?_
            refine lv_iload_n hx hb dX0_lastRecordOf_35 rfl (lv_at hl 2 rfl) ?_
            refine vp_callSi (W.runV (As := [.int y11_2]) (rest := []) ⟨hx, hb, hml, hown, hbg⟩ (met_X0_lastRecordBefore l dC dI qA qA_ring qA_buffer cA_ring cA_buffer A_ring A_buffer A_firstPlace A_forcedPlace A_endPlace A_wordsToFailure A_opened y11_2 _ hw) (cwV 1 hbg g_RX0_88 rfl rfl rfl (by decide +kernel) ⟨Nat.le_of_ble_eq_true rfl, Nat.le_of_ble_eq_true rfl⟩) ⟨pcR_A_b _ _ _ _ _ _ _ _ _ _ _ _ _ _ _ , va_recv hK hP (ci := 0) (q0 := 0) rfl rfl, fun U hU hW => ⟨rfl, by rw [hU]; exact hP, va_K.moved hW.alike hK⟩⟩ rfl rfl hl.1 rfl (lv_room (Nat.le_of_ble_eq_true rfl)) dX0_lastRecordOf_36 ⟨Nat.le_of_ble_eq_true rfl, Nat.le_of_ble_eq_true rfl⟩) (fun r_2 hw => ?_)
            try dsimp only at hw
            refine lv_istore_n (lv' := [(2, .int r_2), (0, .ref qA), (1, .int k11_1), (3, .int y11_3)]) hx hb dX0_lastRecordOf_39 rfl hl (by decide) rfl (fun ls hl => ?_)
            refine lv_iinc (v := y11_3 + (1 : Int32)) (lv' := [(3, .int (y11_3 + (1 : Int32))), (2, .int r_2), (0, .ref qA), (1, .int k11_1)]) hx hb dX0_lastRecordOf_40 hl (k := 3) rfl rfl (by decide) rfl (fun ls hl => ?_)
            refine lv_goto (tgt := 11) hx hb dX0_lastRecordOf_43 (by decide) ?_
            exact ih11 k11_1 r_2 (y11_3 + (1 : Int32)) hw ls (lv_sub hl [2, 3, 1, 0] rfl)
          · have hw := hw.1 c9
            refine lv_iload_n hx hb dX0_lastRecordOf_32 rfl (lv_at hl 2 rfl) ?_
            subst hQQ
            exact W.iret (v := y11_2) hx hb hr (fun t ht _ => ⟨y11_2, rfl, hw, ht⟩) (by simp) dX0_lastRecordOf_33
  refine lv_aload_n hx hb dX0_lastRecordOf_0 rfl (lv_at hl 0 rfl) ?_
  refine lv_aload_n hx hb dX0_lastRecordOf_1 rfl (lv_at hl 0 rfl) ?_
  refine va_get (D := (dC, dI)) (ci := 0) (v := .int A_endPlace) (C := RX0) (T := TX0) (N := 7) hx hb hbg in_X0 hown hK hP 0 rfl rfl 4 (by decide) (hbg _ kw_12) (fun _ h9 => h9) rfl dX0_lastRecordOf_2 ?_
  refine vp_callSi (W.runV (As := [.int A_endPlace]) (rest := []) ⟨hx, hb, hml, hown, hbg⟩ (met_X0_lastRecordBefore l dC dI qA qA_ring qA_buffer cA_ring cA_buffer A_ring A_buffer A_firstPlace A_forcedPlace A_endPlace A_wordsToFailure A_opened A_endPlace _ hw) (cwV 1 hbg g_RX0_88 rfl rfl rfl (by decide +kernel) ⟨Nat.le_of_ble_eq_true rfl, Nat.le_of_ble_eq_true rfl⟩) ⟨pcR_A_b _ _ _ _ _ _ _ _ _ _ _ _ _ _ _ , va_recv hK hP (ci := 0) (q0 := 0) rfl rfl, fun U hU hW => ⟨rfl, by rw [hU]; exact hP, va_K.moved hW.alike hK⟩⟩ rfl rfl hl.1 rfl (lv_room (Nat.le_of_ble_eq_true rfl)) dX0_lastRecordOf_5 ⟨Nat.le_of_ble_eq_true rfl, Nat.le_of_ble_eq_true rfl⟩) (fun r_3 hw => ?_)
  try dsimp only at hw
  refine lv_istore_n (lv' := [(2, .int r_3), (0, .ref qA), (1, .int x1)]) hx hb dX0_lastRecordOf_8 rfl hl (by decide) rfl (fun ls hl => ?_)
  refine lv_iconst (v := (0 : Int32)) hx hb dX0_lastRecordOf_9 (by decide) ?_
  refine lv_istore_n (lv' := [(3, .int (0 : Int32)), (2, .int r_3), (0, .ref qA), (1, .int x1)]) hx hb dX0_lastRecordOf_10 rfl hl (by decide) rfl (fun ls hl => ?_)
  obtain ⟨n9, hw⟩ := hw
  exact hL11 n9 x1 r_3 (0 : Int32) hw ls (lv_sub hl [2, 3, 1, 0] rfl)
def wp_X0_kindAt (post : Int32 → Prop) (x1 : Int32) (A_ring : Nat → Int32) (A_buffer : Nat → Int32) (A_firstPlace : Int32) (A_forcedPlace : Int32) (A_endPlace : Int32) (A_wordsToFailure : Int32) (A_opened : Int32) : Prop :=
  wp_X0_wordAt (fun r_1 => post (r_1 - r_1 / (16 : Int32) * (16 : Int32))) (x1 + (1 : Int32)) A_ring A_buffer A_firstPlace A_forcedPlace A_endPlace A_wordsToFailure A_opened
set_option maxHeartbeats 4000000 in
set_option maxRecDepth 100000 in
theorem met_X0_kindAt (l : Launch) (dC : Nat → ClassId) (dI : Nat → Nat → Nat) (qA qA_ring qA_buffer : Nat) (cA_ring cA_buffer : ClassId) (A_ring : Nat → Int32) (A_buffer : Nat → Int32) (A_firstPlace : Int32) (A_forcedPlace : Int32) (A_endPlace : Int32) (A_wordsToFailure : Int32) (A_opened : Int32) (x1 : Int32) (post : Int32 → Prop) (hw : wp_X0_kindAt post x1 A_ring A_buffer A_firstPlace A_forcedPlace A_endPlace A_wordsToFailure A_opened) :
    Met l yX0_kindAt wsX0_kindAt ({ frames := 1, cells := 0, slots := 0, locals := 21 } : Room) (pcR_A dC dI qA qA_ring qA_buffer cA_ring cA_buffer A_ring A_buffer A_firstPlace A_forcedPlace A_endPlace A_wordsToFailure A_opened [.ref qA, .int x1]) (vp_Si post) 0 0 (fun _ => False) := by
  refine Met.ofW (cc := cX0_kindAt) (maxL := 2) (ret := (some .int)) (by decide) rfl ?_
  intro p e s m args below meth c s₁ B hml hv
  obtain ⟨hav, hP, hK⟩ := hv
  have hx := B.exec
  have hb := B.bytes
  have hr := B.returns
  have hts := atoms_spec (ws := wsX0_kindAt) B.pre
  have hbg : ∀ w ∈ bigW, w.before args s = true := fun w h => hts w (List.mem_cons_of_mem _ h)
  have hown : s.vm.findClass RX0 = some m.cls := findClass_of_methodNamed B.named
  have hlocks := B.notSynchronized
  have hP : va_P (dC, dI) vwCl [(qA, .inr (0, [.ref qA_ring, .ref qA_buffer, .int A_firstPlace, .int A_forcedPlace, .int A_endPlace, .int A_wordsToFailure, .int A_opened])), (qA_ring, .inl (cA_ring, 65536, .inl A_ring)), (qA_buffer, .inl (cA_buffer, 200, .inl A_buffer))] s.heap := hP
  generalize hQQ : MQ below (vp_Si post) args s 0 0 (fun _ => False) = QQ
  have hl := lv_entry ([.ref qA, .int x1]) (n := 2) (Nat.le_of_ble_eq_true rfl)
  rw [show entryFrame m args 2 = entryFrame m ([.ref qA, .int x1] : List Value).toArray 2 by rw [hav], lg_entry_eq]
  generalize (lg_sl ([.ref qA, .int x1]) ++ List.replicate (2 - (lg_sl ([.ref qA, .int x1])).length) Slot.unset).toArray = ls at hl ⊢
  have hl : lv_has ls 2 [(0, .ref qA), (1, .int x1)] := hl
  unfold wp_X0_kindAt at hw
  refine lv_aload_n hx hb dX0_kindAt_0 rfl (lv_at hl 0 rfl) ?_
  refine lv_iload_n hx hb dX0_kindAt_1 rfl (lv_at hl 1 rfl) ?_
  refine lv_iconst (v := (1 : Int32)) hx hb dX0_kindAt_2 (by decide) ?_
  refine lv_iadd hx hb dX0_kindAt_3 ?_
  refine vp_callSi (W.runV (As := [.int (x1 + (1 : Int32))]) (rest := []) ⟨hx, hb, hml, hown, hbg⟩ (met_X0_wordAt l dC dI qA qA_ring qA_buffer cA_ring cA_buffer A_ring A_buffer A_firstPlace A_forcedPlace A_endPlace A_wordsToFailure A_opened (x1 + (1 : Int32)) _ hw) (cwV 1 hbg g_RX0_97 rfl rfl rfl (by decide +kernel) ⟨Nat.le_of_ble_eq_true rfl, Nat.le_of_ble_eq_true rfl⟩) ⟨pcR_A_b _ _ _ _ _ _ _ _ _ _ _ _ _ _ _ , va_recv hK hP (ci := 0) (q0 := 0) rfl rfl, fun U hU hW => ⟨rfl, by rw [hU]; exact hP, va_K.moved hW.alike hK⟩⟩ rfl rfl hl.1 rfl (lv_room (Nat.le_of_ble_eq_true rfl)) dX0_kindAt_4 ⟨Nat.le_of_ble_eq_true rfl, Nat.le_of_ble_eq_true rfl⟩) (fun r_1 hw => ?_)
  try dsimp only at hw
  refine lv_bipush (v := (16 : Int32)) hx hb dX0_kindAt_7 (by decide) ?_
  refine lv_irem hx hb dX0_kindAt_9 (by decide) ?_
  subst hQQ
  exact W.iret (v := r_1 - r_1 / (16 : Int32) * (16 : Int32)) hx hb hr (fun t ht _ => ⟨r_1 - r_1 / (16 : Int32) * (16 : Int32), rfl, hw, ht⟩) (by simp) dX0_kindAt_10
def wp_X0_isAskedFor (post : Int32 → Prop) (x1 : Int32) (x2 : Int32) (x3 : Int32) (A_ring : Nat → Int32) (A_buffer : Nat → Int32) (A_firstPlace : Int32) (A_forcedPlace : Int32) (A_endPlace : Int32) (A_wordsToFailure : Int32) (A_opened : Int32) : Prop :=
  wp_X0_ownerAt (fun r_1 => ((r_1 = x2 → wp_X0_kindAt (fun r_2 => (((((x3.toUInt32 >>> (r_2.toUInt32 &&& Int32.toUInt32 31)).toInt32) &&& (1 : Int32)) = (1 : Int32) → post (1 : Int32)) ∧ (¬ (((x3.toUInt32 >>> (r_2.toUInt32 &&& Int32.toUInt32 31)).toInt32) &&& (1 : Int32)) = (1 : Int32) → post (0 : Int32)))) x1 A_ring A_buffer A_firstPlace A_forcedPlace A_endPlace A_wordsToFailure A_opened) ∧ (¬ r_1 = x2 → post (0 : Int32)))) x1 A_ring A_buffer A_firstPlace A_forcedPlace A_endPlace A_wordsToFailure A_opened
set_option maxHeartbeats 4000000 in
set_option maxRecDepth 100000 in
theorem met_X0_isAskedFor (l : Launch) (dC : Nat → ClassId) (dI : Nat → Nat → Nat) (qA qA_ring qA_buffer : Nat) (cA_ring cA_buffer : ClassId) (A_ring : Nat → Int32) (A_buffer : Nat → Int32) (A_firstPlace : Int32) (A_forcedPlace : Int32) (A_endPlace : Int32) (A_wordsToFailure : Int32) (A_opened : Int32) (x1 : Int32) (x2 : Int32) (x3 : Int32) (post : Int32 → Prop) (hw : wp_X0_isAskedFor post x1 x2 x3 A_ring A_buffer A_firstPlace A_forcedPlace A_endPlace A_wordsToFailure A_opened) :
    Met l yX0_isAskedFor wsX0_isAskedFor ({ frames := 2, cells := 0, slots := 0, locals := 42 } : Room) (pcR_A dC dI qA qA_ring qA_buffer cA_ring cA_buffer A_ring A_buffer A_firstPlace A_forcedPlace A_endPlace A_wordsToFailure A_opened [.ref qA, .int x1, .int x2, .int x3]) (vp_Si post) 0 0 (fun _ => False) := by
  refine Met.ofW (cc := cX0_isAskedFor) (maxL := 4) (ret := (some .boolean)) (by decide) rfl ?_
  intro p e s m args below meth c s₁ B hml hv
  obtain ⟨hav, hP, hK⟩ := hv
  have hx := B.exec
  have hb := B.bytes
  have hr := B.returns
  have hts := atoms_spec (ws := wsX0_isAskedFor) B.pre
  have hbg : ∀ w ∈ bigW, w.before args s = true := fun w h => hts w (List.mem_cons_of_mem _ h)
  have hown : s.vm.findClass RX0 = some m.cls := findClass_of_methodNamed B.named
  have hlocks := B.notSynchronized
  have hP : va_P (dC, dI) vwCl [(qA, .inr (0, [.ref qA_ring, .ref qA_buffer, .int A_firstPlace, .int A_forcedPlace, .int A_endPlace, .int A_wordsToFailure, .int A_opened])), (qA_ring, .inl (cA_ring, 65536, .inl A_ring)), (qA_buffer, .inl (cA_buffer, 200, .inl A_buffer))] s.heap := hP
  generalize hQQ : MQ below (vp_Si post) args s 0 0 (fun _ => False) = QQ
  have hl := lv_entry ([.ref qA, .int x1, .int x2, .int x3]) (n := 4) (Nat.le_of_ble_eq_true rfl)
  rw [show entryFrame m args 4 = entryFrame m ([.ref qA, .int x1, .int x2, .int x3] : List Value).toArray 4 by rw [hav], lg_entry_eq]
  generalize (lg_sl ([.ref qA, .int x1, .int x2, .int x3]) ++ List.replicate (4 - (lg_sl ([.ref qA, .int x1, .int x2, .int x3])).length) Slot.unset).toArray = ls at hl ⊢
  have hl : lv_has ls 4 [(0, .ref qA), (1, .int x1), (2, .int x2), (3, .int x3)] := hl
  unfold wp_X0_isAskedFor at hw
  refine lv_aload_n hx hb dX0_isAskedFor_0 rfl (lv_at hl 0 rfl) ?_
  refine lv_iload_n hx hb dX0_isAskedFor_1 rfl (lv_at hl 1 rfl) ?_
  refine vp_callSi (W.runV (As := [.int x1]) (rest := []) ⟨hx, hb, hml, hown, hbg⟩ (met_X0_ownerAt l dC dI qA qA_ring qA_buffer cA_ring cA_buffer A_ring A_buffer A_firstPlace A_forcedPlace A_endPlace A_wordsToFailure A_opened x1 _ hw) (cwV 1 hbg g_RX0_94 rfl rfl rfl (by decide +kernel) ⟨Nat.le_of_ble_eq_true rfl, Nat.le_of_ble_eq_true rfl⟩) ⟨pcR_A_b _ _ _ _ _ _ _ _ _ _ _ _ _ _ _ , va_recv hK hP (ci := 0) (q0 := 0) rfl rfl, fun U hU hW => ⟨rfl, by rw [hU]; exact hP, va_K.moved hW.alike hK⟩⟩ rfl rfl hl.1 rfl (lv_room (Nat.le_of_ble_eq_true rfl)) dX0_isAskedFor_2 ⟨Nat.le_of_ble_eq_true rfl, Nat.le_of_ble_eq_true rfl⟩) (fun r_1 hw => ?_)
  try dsimp only at hw
  refine lv_iload_n hx hb dX0_isAskedFor_5 rfl (lv_at hl 2 rfl) ?_
  refine lv_icmp_ne (tgt := 26) hx hb dX0_isAskedFor_6 (by decide) (fun c9 => ?_) (fun c9 => ?_)
  · have hw := hw.2 c9
    refine lv_iconst (v := (0 : Int32)) hx hb dX0_isAskedFor_26 (by decide) ?_
    subst hQQ
    exact W.zret (v := (0 : Int32)) hx hb hr rfl (fun t ht _ => ⟨(0 : Int32), rfl, hw, ht⟩) (by simp) dX0_isAskedFor_27
  · have hw := hw.1 c9
    refine lv_iload_n hx hb dX0_isAskedFor_9 rfl (lv_at hl 3 rfl) ?_
    refine lv_aload_n hx hb dX0_isAskedFor_10 rfl (lv_at hl 0 rfl) ?_
    refine lv_iload_n hx hb dX0_isAskedFor_11 rfl (lv_at hl 1 rfl) ?_
    refine vp_callSi (W.runV (As := [.int x1]) (rest := [.int x3]) ⟨hx, hb, hml, hown, hbg⟩ (met_X0_kindAt l dC dI qA qA_ring qA_buffer cA_ring cA_buffer A_ring A_buffer A_firstPlace A_forcedPlace A_endPlace A_wordsToFailure A_opened x1 _ hw) (cwV 1 hbg g_RX0_91 rfl rfl rfl (by decide +kernel) ⟨Nat.le_of_ble_eq_true rfl, Nat.le_of_ble_eq_true rfl⟩) ⟨pcR_A_b _ _ _ _ _ _ _ _ _ _ _ _ _ _ _ , va_recv hK hP (ci := 0) (q0 := 0) rfl rfl, fun U hU hW => ⟨rfl, by rw [hU]; exact hP, va_K.moved hW.alike hK⟩⟩ rfl rfl hl.1 rfl (lv_room (Nat.le_of_ble_eq_true rfl)) dX0_isAskedFor_12 ⟨Nat.le_of_ble_eq_true rfl, Nat.le_of_ble_eq_true rfl⟩) (fun r_2 hw => ?_)
    try dsimp only at hw
    refine lv_iushr (v := (x3.toUInt32 >>> (r_2.toUInt32 &&& Int32.toUInt32 31)).toInt32) hx hb dX0_isAskedFor_15 rfl ?_
    refine lv_iconst (v := (1 : Int32)) hx hb dX0_isAskedFor_16 (by decide) ?_
    refine lv_iand hx hb dX0_isAskedFor_17 ?_
    refine lv_iconst (v := (1 : Int32)) hx hb dX0_isAskedFor_18 (by decide) ?_
    refine lv_icmp_ne (tgt := 26) hx hb dX0_isAskedFor_19 (by decide) (fun c9 => ?_) (fun c9 => ?_)
    · have hw := hw.2 c9
      refine lv_iconst (v := (0 : Int32)) hx hb dX0_isAskedFor_26 (by decide) ?_
      subst hQQ
      exact W.zret (v := (0 : Int32)) hx hb hr rfl (fun t ht _ => ⟨(0 : Int32), rfl, hw, ht⟩) (by simp) dX0_isAskedFor_27
    · have hw := hw.1 c9
      refine lv_iconst (v := (1 : Int32)) hx hb dX0_isAskedFor_22 (by decide) ?_
      refine lv_goto (tgt := 27) hx hb dX0_isAskedFor_23 (by decide) ?_
      subst hQQ
      exact W.zret (v := (1 : Int32)) hx hb hr rfl (fun t ht _ => ⟨(1 : Int32), rfl, hw, ht⟩) (by simp) dX0_isAskedFor_27
def wp_X0_stopBehind (post : Int32 → Prop) (x1 : Int32) (A_ring : Nat → Int32) (A_buffer : Nat → Int32) (A_firstPlace : Int32) (A_forcedPlace : Int32) (A_endPlace : Int32) (A_wordsToFailure : Int32) (A_opened : Int32) : Prop :=
  wp_X0_wordAt (fun r_1 => ((r_1 = (-1 : Int32) → wp_X0_wordAt (fun r_2 => post r_2) (x1 + (2 : Int32)) A_ring A_buffer A_firstPlace A_forcedPlace A_endPlace A_wordsToFailure A_opened) ∧ (¬ r_1 = (-1 : Int32) → post r_1))) (x1 + (3 : Int32)) A_ring A_buffer A_firstPlace A_forcedPlace A_endPlace A_wordsToFailure A_opened
set_option maxHeartbeats 4000000 in
set_option maxRecDepth 100000 in
theorem met_X0_stopBehind (l : Launch) (dC : Nat → ClassId) (dI : Nat → Nat → Nat) (qA qA_ring qA_buffer : Nat) (cA_ring cA_buffer : ClassId) (A_ring : Nat → Int32) (A_buffer : Nat → Int32) (A_firstPlace : Int32) (A_forcedPlace : Int32) (A_endPlace : Int32) (A_wordsToFailure : Int32) (A_opened : Int32) (x1 : Int32) (post : Int32 → Prop) (hw : wp_X0_stopBehind post x1 A_ring A_buffer A_firstPlace A_forcedPlace A_endPlace A_wordsToFailure A_opened) :
    Met l yX0_stopBehind wsX0_stopBehind ({ frames := 1, cells := 0, slots := 0, locals := 21 } : Room) (pcR_A dC dI qA qA_ring qA_buffer cA_ring cA_buffer A_ring A_buffer A_firstPlace A_forcedPlace A_endPlace A_wordsToFailure A_opened [.ref qA, .int x1]) (vp_Si post) 0 0 (fun _ => False) := by
  refine Met.ofW (cc := cX0_stopBehind) (maxL := 3) (ret := (some .int)) (by decide) rfl ?_
  intro p e s m args below meth c s₁ B hml hv
  obtain ⟨hav, hP, hK⟩ := hv
  have hx := B.exec
  have hb := B.bytes
  have hr := B.returns
  have hts := atoms_spec (ws := wsX0_stopBehind) B.pre
  have hbg : ∀ w ∈ bigW, w.before args s = true := fun w h => hts w (List.mem_cons_of_mem _ h)
  have hown : s.vm.findClass RX0 = some m.cls := findClass_of_methodNamed B.named
  have hlocks := B.notSynchronized
  have hP : va_P (dC, dI) vwCl [(qA, .inr (0, [.ref qA_ring, .ref qA_buffer, .int A_firstPlace, .int A_forcedPlace, .int A_endPlace, .int A_wordsToFailure, .int A_opened])), (qA_ring, .inl (cA_ring, 65536, .inl A_ring)), (qA_buffer, .inl (cA_buffer, 200, .inl A_buffer))] s.heap := hP
  generalize hQQ : MQ below (vp_Si post) args s 0 0 (fun _ => False) = QQ
  have hl := lv_entry ([.ref qA, .int x1]) (n := 3) (Nat.le_of_ble_eq_true rfl)
  rw [show entryFrame m args 3 = entryFrame m ([.ref qA, .int x1] : List Value).toArray 3 by rw [hav], lg_entry_eq]
  generalize (lg_sl ([.ref qA, .int x1]) ++ List.replicate (3 - (lg_sl ([.ref qA, .int x1])).length) Slot.unset).toArray = ls at hl ⊢
  have hl : lv_has ls 3 [(0, .ref qA), (1, .int x1)] := hl
  unfold wp_X0_stopBehind at hw
  refine lv_aload_n hx hb dX0_stopBehind_0 rfl (lv_at hl 0 rfl) ?_
  refine lv_iload_n hx hb dX0_stopBehind_1 rfl (lv_at hl 1 rfl) ?_
  refine lv_iconst (v := (3 : Int32)) hx hb dX0_stopBehind_2 (by decide) ?_
  refine lv_iadd hx hb dX0_stopBehind_3 ?_
  refine vp_callSi (W.runV (As := [.int (x1 + (3 : Int32))]) (rest := []) ⟨hx, hb, hml, hown, hbg⟩ (met_X0_wordAt l dC dI qA qA_ring qA_buffer cA_ring cA_buffer A_ring A_buffer A_firstPlace A_forcedPlace A_endPlace A_wordsToFailure A_opened (x1 + (3 : Int32)) _ hw) (cwV 1 hbg g_RX0_97 rfl rfl rfl (by decide +kernel) ⟨Nat.le_of_ble_eq_true rfl, Nat.le_of_ble_eq_true rfl⟩) ⟨pcR_A_b _ _ _ _ _ _ _ _ _ _ _ _ _ _ _ , va_recv hK hP (ci := 0) (q0 := 0) rfl rfl, fun U hU hW => ⟨rfl, by rw [hU]; exact hP, va_K.moved hW.alike hK⟩⟩ rfl rfl hl.1 rfl (lv_room (Nat.le_of_ble_eq_true rfl)) dX0_stopBehind_4 ⟨Nat.le_of_ble_eq_true rfl, Nat.le_of_ble_eq_true rfl⟩) (fun r_1 hw => ?_)
  try dsimp only at hw
  refine lv_istore_n (lv' := [(2, .int r_1), (0, .ref qA), (1, .int x1)]) hx hb dX0_stopBehind_7 rfl hl (by decide) rfl (fun ls hl => ?_)
  refine lv_iload_n hx hb dX0_stopBehind_8 rfl (lv_at hl 0 rfl) ?_
  refine lv_iconst (v := (-1 : Int32)) hx hb dX0_stopBehind_9 (by decide) ?_
  refine lv_icmp_eq (tgt := 17) hx hb dX0_stopBehind_10 (by decide) (fun c9 => ?_) (fun c9 => ?_)
  · have hw := hw.1 c9
    refine lv_aload_n hx hb dX0_stopBehind_17 rfl (lv_at hl 1 rfl) ?_
    refine lv_iload_n hx hb dX0_stopBehind_18 rfl (lv_at hl 2 rfl) ?_
    refine lv_iconst (v := (2 : Int32)) hx hb dX0_stopBehind_19 (by decide) ?_
    refine lv_iadd hx hb dX0_stopBehind_20 ?_
    refine vp_callSi (W.runV (As := [.int (x1 + (2 : Int32))]) (rest := []) ⟨hx, hb, hml, hown, hbg⟩ (met_X0_wordAt l dC dI qA qA_ring qA_buffer cA_ring cA_buffer A_ring A_buffer A_firstPlace A_forcedPlace A_endPlace A_wordsToFailure A_opened (x1 + (2 : Int32)) _ hw) (cwV 1 hbg g_RX0_97 rfl rfl rfl (by decide +kernel) ⟨Nat.le_of_ble_eq_true rfl, Nat.le_of_ble_eq_true rfl⟩) ⟨pcR_A_b _ _ _ _ _ _ _ _ _ _ _ _ _ _ _ , va_recv hK hP (ci := 0) (q0 := 0) rfl rfl, fun U hU hW => ⟨rfl, by rw [hU]; exact hP, va_K.moved hW.alike hK⟩⟩ rfl rfl hl.1 rfl (lv_room (Nat.le_of_ble_eq_true rfl)) dX0_stopBehind_21 ⟨Nat.le_of_ble_eq_true rfl, Nat.le_of_ble_eq_true rfl⟩) (fun r_2 hw => ?_)
    try dsimp only at hw
    subst hQQ
    exact W.iret (v := r_2) hx hb hr (fun t ht _ => ⟨r_2, rfl, hw, ht⟩) (by simp) dX0_stopBehind_24
  · have hw := hw.2 c9
    refine lv_iload_n hx hb dX0_stopBehind_13 rfl (lv_at hl 0 rfl) ?_
    refine lv_goto (tgt := 24) hx hb dX0_stopBehind_14 (by decide) ?_
    subst hQQ
    exact W.iret (v := r_1) hx hb hr (fun t ht _ => ⟨r_1, rfl, hw, ht⟩) (by simp) dX0_stopBehind_24
def wl_X0_kthOnTheWay_17 (post : Int32 → Prop) (A_ring : Nat → Int32) (A_buffer : Nat → Int32) (A_firstPlace : Int32) (A_forcedPlace : Int32) (A_endPlace : Int32) (A_wordsToFailure : Int32) (A_opened : Int32) (k17_1 : Int32) (k17_2 : Int32) (k17_3 : Int32) : Nat → Int32 → Int32 → Int32 → Int32 → Prop
  | 0, _, _, _, _ => False
  | n17 + 1, y17_4, y17_5, y17_6, y17_7 =>
    (((13107 : Int32) ≤ y17_7 → post (-1 : Int32)) ∧ (¬ (13107 : Int32) ≤ y17_7 → ((y17_5 = (-1 : Int32) → post (-1 : Int32)) ∧ (¬ y17_5 = (-1 : Int32) → ((y17_5 < y17_4 → post (-1 : Int32)) ∧ (¬ y17_5 < y17_4 → ((y17_5 = y17_4 → wp_X0_isAskedFor (fun r_2 => ((r_2 = (0 : Int32) → wp_X0_stopBehind (fun r_3 => ((r_3 = (-1 : Int32) → wl_X0_kthOnTheWay_17 post A_ring A_buffer A_firstPlace A_forcedPlace A_endPlace A_wordsToFailure A_opened k17_1 k17_2 k17_3 n17 r_3 (-1 : Int32) y17_6 (y17_7 + (1 : Int32))) ∧ (¬ r_3 = (-1 : Int32) → wp_X0_lastRecordBefore (fun r_4 => wl_X0_kthOnTheWay_17 post A_ring A_buffer A_firstPlace A_forcedPlace A_endPlace A_wordsToFailure A_opened k17_1 k17_2 k17_3 n17 r_3 r_4 y17_6 (y17_7 + (1 : Int32))) y17_5 A_ring A_buffer A_firstPlace A_forcedPlace A_endPlace A_wordsToFailure A_opened))) y17_5 A_ring A_buffer A_firstPlace A_forcedPlace A_endPlace A_wordsToFailure A_opened) ∧ (¬ r_2 = (0 : Int32) → ((y17_6 = (0 : Int32) → post y17_5) ∧ (¬ y17_6 = (0 : Int32) → wp_X0_stopBehind (fun r_5 => ((r_5 = (-1 : Int32) → wl_X0_kthOnTheWay_17 post A_ring A_buffer A_firstPlace A_forcedPlace A_endPlace A_wordsToFailure A_opened k17_1 k17_2 k17_3 n17 r_5 (-1 : Int32) (y17_6 + (-1 : Int32)) (y17_7 + (1 : Int32))) ∧ (¬ r_5 = (-1 : Int32) → wp_X0_lastRecordBefore (fun r_6 => wl_X0_kthOnTheWay_17 post A_ring A_buffer A_firstPlace A_forcedPlace A_endPlace A_wordsToFailure A_opened k17_1 k17_2 k17_3 n17 r_5 r_6 (y17_6 + (-1 : Int32)) (y17_7 + (1 : Int32))) y17_5 A_ring A_buffer A_firstPlace A_forcedPlace A_endPlace A_wordsToFailure A_opened))) y17_5 A_ring A_buffer A_firstPlace A_forcedPlace A_endPlace A_wordsToFailure A_opened))))) y17_5 k17_1 k17_2 A_ring A_buffer A_firstPlace A_forcedPlace A_endPlace A_wordsToFailure A_opened) ∧ (¬ y17_5 = y17_4 → ((y17_4 = (-1 : Int32) → wl_X0_kthOnTheWay_17 post A_ring A_buffer A_firstPlace A_forcedPlace A_endPlace A_wordsToFailure A_opened k17_1 k17_2 k17_3 n17 y17_4 (-1 : Int32) y17_6 (y17_7 + (1 : Int32))) ∧ (¬ y17_4 = (-1 : Int32) → wp_X0_lastRecordBefore (fun r_1 => wl_X0_kthOnTheWay_17 post A_ring A_buffer A_firstPlace A_forcedPlace A_endPlace A_wordsToFailure A_opened k17_1 k17_2 k17_3 n17 y17_4 r_1 y17_6 (y17_7 + (1 : Int32))) y17_5 A_ring A_buffer A_firstPlace A_forcedPlace A_endPlace A_wordsToFailure A_opened))))))))))
def wp_X0_kthOnTheWay (post : Int32 → Prop) (x1 : Int32) (x2 : Int32) (x3 : Int32) (A_ring : Nat → Int32) (A_buffer : Nat → Int32) (A_firstPlace : Int32) (A_forcedPlace : Int32) (A_endPlace : Int32) (A_wordsToFailure : Int32) (A_opened : Int32) : Prop :=
  wp_X0_lastRecordOf (fun r_7 => ∃ n, wl_X0_kthOnTheWay_17 post A_ring A_buffer A_firstPlace A_forcedPlace A_endPlace A_wordsToFailure A_opened x1 x2 x3 n r_7 r_7 x3 (0 : Int32)) x1 A_ring A_buffer A_firstPlace A_forcedPlace A_endPlace A_wordsToFailure A_opened
set_option maxHeartbeats 4000000 in
set_option maxRecDepth 100000 in
theorem met_X0_kthOnTheWay (l : Launch) (dC : Nat → ClassId) (dI : Nat → Nat → Nat) (qA qA_ring qA_buffer : Nat) (cA_ring cA_buffer : ClassId) (A_ring : Nat → Int32) (A_buffer : Nat → Int32) (A_firstPlace : Int32) (A_forcedPlace : Int32) (A_endPlace : Int32) (A_wordsToFailure : Int32) (A_opened : Int32) (x1 : Int32) (x2 : Int32) (x3 : Int32) (post : Int32 → Prop) (hw : wp_X0_kthOnTheWay post x1 x2 x3 A_ring A_buffer A_firstPlace A_forcedPlace A_endPlace A_wordsToFailure A_opened) :
    Met l yX0_kthOnTheWay wsX0_kthOnTheWay ({ frames := 3, cells := 0, slots := 0, locals := 71 } : Room) (pcR_A dC dI qA qA_ring qA_buffer cA_ring cA_buffer A_ring A_buffer A_firstPlace A_forcedPlace A_endPlace A_wordsToFailure A_opened [.ref qA, .int x1, .int x2, .int x3]) (vp_Si post) 0 0 (fun _ => False) := by
  refine Met.ofW (cc := cX0_kthOnTheWay) (maxL := 8) (ret := (some .int)) (by decide) rfl ?_
  intro p e s m args below meth c s₁ B hml hv
  obtain ⟨hav, hP, hK⟩ := hv
  have hx := B.exec
  have hb := B.bytes
  have hr := B.returns
  have hts := atoms_spec (ws := wsX0_kthOnTheWay) B.pre
  have hbg : ∀ w ∈ bigW, w.before args s = true := fun w h => hts w (List.mem_cons_of_mem _ h)
  have hown : s.vm.findClass RX0 = some m.cls := findClass_of_methodNamed B.named
  have hlocks := B.notSynchronized
  have hP : va_P (dC, dI) vwCl [(qA, .inr (0, [.ref qA_ring, .ref qA_buffer, .int A_firstPlace, .int A_forcedPlace, .int A_endPlace, .int A_wordsToFailure, .int A_opened])), (qA_ring, .inl (cA_ring, 65536, .inl A_ring)), (qA_buffer, .inl (cA_buffer, 200, .inl A_buffer))] s.heap := hP
  generalize hQQ : MQ below (vp_Si post) args s 0 0 (fun _ => False) = QQ
  have hl := lv_entry ([.ref qA, .int x1, .int x2, .int x3]) (n := 8) (Nat.le_of_ble_eq_true rfl)
  rw [show entryFrame m args 8 = entryFrame m ([.ref qA, .int x1, .int x2, .int x3] : List Value).toArray 8 by rw [hav], lg_entry_eq]
  generalize (lg_sl ([.ref qA, .int x1, .int x2, .int x3]) ++ List.replicate (8 - (lg_sl ([.ref qA, .int x1, .int x2, .int x3])).length) Slot.unset).toArray = ls at hl ⊢
  have hl : lv_has ls 8 [(0, .ref qA), (1, .int x1), (2, .int x2), (3, .int x3)] := hl
  unfold wp_X0_kthOnTheWay at hw
  have hL17 : ∀ (n17 : Nat) (k17_1 : Int32) (k17_2 : Int32) (k17_3 : Int32) (y17_4 : Int32) (y17_5 : Int32) (y17_6 : Int32) (y17_7 : Int32), wl_X0_kthOnTheWay_17 post A_ring A_buffer A_firstPlace A_forcedPlace A_endPlace A_wordsToFailure A_opened k17_1 k17_2 k17_3 n17 y17_4 y17_5 y17_6 y17_7 → ∀ ls : Array Slot, lv_has ls 8 [(0, .ref qA), (1, .int k17_1), (2, .int k17_2), (3, .int k17_3), (4, .int y17_4), (5, .int y17_5), (6, .int y17_6), (7, .int y17_7)] → W p l e (headSpec wsX0_kthOnTheWay ({ frames := 3, cells := 0, slots := 0, locals := 71 } : Room)).room s m args below meth c s.heap [] 0 0 QQ (F0 m 17 ls []) := by
    intro n17
    induction n17 with
    | zero => intro k17_1 k17_2 k17_3 y17_4 y17_5 y17_6 y17_7 hw; exact False.elim hw
    | succ n17 ih17 =>
      intro k17_1 k17_2 k17_3 y17_4 y17_5 y17_6 y17_7 hw ls hl
      rw [wl_X0_kthOnTheWay_17] at hw
      refine lv_iload hx hb dX0_kthOnTheWay_17 (lv_at hl 7 rfl) ?_
      refine lv_sipush (v := (13107 : Int32)) hx hb dX0_kthOnTheWay_19 (by decide) ?_
      refine lv_icmp_ge (tgt := 99) hx hb dX0_kthOnTheWay_22 (by decide) (fun c9 => ?_) (fun c9 => ?_)
      · have hw := hw.1 c9
        refine lv_iconst (v := (-1 : Int32)) hx hb dX0_kthOnTheWay_99 (by decide) ?_
        subst hQQ
        exact W.iret (v := (-1 : Int32)) hx hb hr (fun t ht _ => ⟨(-1 : Int32), rfl, hw, ht⟩) (by simp) dX0_kthOnTheWay_100
      · have hw := hw.2 c9
        refine lv_iload hx hb dX0_kthOnTheWay_25 (lv_at hl 5 rfl) ?_
        refine lv_iconst (v := (-1 : Int32)) hx hb dX0_kthOnTheWay_27 (by decide) ?_
        refine lv_icmp_eq (tgt := 99) hx hb dX0_kthOnTheWay_28 (by decide) (fun c9 => ?_) (fun c9 => ?_)
        · have hw := hw.1 c9
          refine lv_iconst (v := (-1 : Int32)) hx hb dX0_kthOnTheWay_99 (by decide) ?_
          subst hQQ
          exact W.iret (v := (-1 : Int32)) hx hb hr (fun t ht _ => ⟨(-1 : Int32), rfl, hw, ht⟩) (by simp) dX0_kthOnTheWay_100
        · have hw := hw.2 c9
          refine lv_iload hx hb dX0_kthOnTheWay_31 (lv_at hl 5 rfl) ?_
          refine lv_iload hx hb dX0_kthOnTheWay_33 (lv_at hl 4 rfl) ?_
          refine lv_icmp_lt (tgt := 99) hx hb dX0_kthOnTheWay_35 (by decide) (fun c9 => ?_) (fun c9 => ?_)
          · have hw := hw.1 c9
            refine lv_iconst (v := (-1 : Int32)) hx hb dX0_kthOnTheWay_99 (by decide) ?_
            subst hQQ
            exact W.iret (v := (-1 : Int32)) hx hb hr (fun t ht _ => ⟨(-1 : Int32), rfl, hw, ht⟩) (by simp) dX0_kthOnTheWay_100
          · have hw := hw.2 c9
            refine lv_iload hx hb dX0_kthOnTheWay_38 (lv_at hl 5 rfl) ?_
            refine lv_iload hx hb dX0_kthOnTheWay_40 (lv_at hl 4 rfl) ?_
            refine lv_icmp_ne (tgt := 75) hx hb dX0_kthOnTheWay_42 (by decide) (fun c9 => ?_) (fun c9 => ?_)
            · have hw := hw.2 c9
              refine lv_iload hx hb dX0_kthOnTheWay_75 (lv_at hl 4 rfl) ?_
              refine lv_iconst (v := (-1 : Int32)) hx hb dX0_kthOnTheWay_77 (by decide) ?_
              refine lv_icmp_ne (tgt := 85) hx hb dX0_kthOnTheWay_78 (by decide) (fun c9 => ?_) (fun c9 => ?_)
              · have hw := hw.2 c9
                refine lv_aload_n hx hb dX0_kthOnTheWay_85 rfl (lv_at hl 0 rfl) ?_
                refine lv_iload hx hb dX0_kthOnTheWay_86 (lv_at hl 5 rfl) ?_
                refine vp_callSi (W.runV (As := [.int y17_5]) (rest := []) ⟨hx, hb, hml, hown, hbg⟩ (met_X0_lastRecordBefore l dC dI qA qA_ring qA_buffer cA_ring cA_buffer A_ring A_buffer A_firstPlace A_forcedPlace A_endPlace A_wordsToFailure A_opened y17_5 _ hw) (cwV 1 hbg g_RX0_88 rfl rfl rfl (by decide +kernel) ⟨Nat.le_of_ble_eq_true rfl, Nat.le_of_ble_eq_true rfl⟩) ⟨pcR_A_b _ _ _ _ _ _ _ _ _ _ _ _ _ _ _ , va_recv hK hP (ci := 0) (q0 := 0) rfl rfl, fun U hU hW => ⟨rfl, by rw [hU]; exact hP, va_K.moved hW.alike hK⟩⟩ rfl rfl hl.1 rfl (lv_room (Nat.le_of_ble_eq_true rfl)) dX0_kthOnTheWay_88 ⟨Nat.le_of_ble_eq_true rfl, Nat.le_of_ble_eq_true rfl⟩) (fun r_1 hw => ?_)
                try dsimp only at hw
                refine lv_istore (lv' := [(5, .int r_1), (0, .ref qA), (1, .int k17_1), (2, .int k17_2), (3, .int k17_3), (4, .int y17_4), (6, .int y17_6), (7, .int y17_7)]) hx hb dX0_kthOnTheWay_91 hl (by decide) rfl (fun ls hl => ?_)
                refine lv_iinc (v := y17_7 + (1 : Int32)) (lv' := [(7, .int (y17_7 + (1 : Int32))), (5, .int r_1), (0, .ref qA), (1, .int k17_1), (2, .int k17_2), (3, .int k17_3), (4, .int y17_4), (6, .int y17_6)]) hx hb dX0_kthOnTheWay_93 hl (k := 7) rfl rfl (by decide) rfl (fun ls hl => ?_)
                refine lv_goto (tgt := 17) hx hb dX0_kthOnTheWay_96 (by decide) ?_
                exact ih17 k17_1 k17_2 k17_3 y17_4 r_1 y17_6 (y17_7 + (1 : Int32)) hw ls (lv_sub hl [2, 3, 4, 5, 6, 1, 7, 0] rfl)
              · have hw := hw.1 c9
                refine lv_iconst (v := (-1 : Int32)) hx hb dX0_kthOnTheWay_81 (by decide) ?_
                refine lv_goto (tgt := 91) hx hb dX0_kthOnTheWay_82 (by decide) ?_
                refine lv_istore (lv' := [(5, .int (-1 : Int32)), (0, .ref qA), (1, .int k17_1), (2, .int k17_2), (3, .int k17_3), (4, .int y17_4), (6, .int y17_6), (7, .int y17_7)]) hx hb dX0_kthOnTheWay_91 hl (by decide) rfl (fun ls hl => ?_)
                refine lv_iinc (v := y17_7 + (1 : Int32)) (lv' := [(7, .int (y17_7 + (1 : Int32))), (5, .int (-1 : Int32)), (0, .ref qA), (1, .int k17_1), (2, .int k17_2), (3, .int k17_3), (4, .int y17_4), (6, .int y17_6)]) hx hb dX0_kthOnTheWay_93 hl (k := 7) rfl rfl (by decide) rfl (fun ls hl => ?_)
                refine lv_goto (tgt := 17) hx hb dX0_kthOnTheWay_96 (by decide) ?_
                exact ih17 k17_1 k17_2 k17_3 y17_4 (-1 : Int32) y17_6 (y17_7 + (1 : Int32)) hw ls (lv_sub hl [2, 3, 4, 5, 6, 1, 7, 0] rfl)
            · have hw := hw.1 c9
              refine lv_aload_n hx hb dX0_kthOnTheWay_45 rfl (lv_at hl 0 rfl) ?_
              refine lv_iload hx hb dX0_kthOnTheWay_46 (lv_at hl 5 rfl) ?_
              refine lv_iload_n hx hb dX0_kthOnTheWay_48 rfl (lv_at hl 1 rfl) ?_
              refine lv_iload_n hx hb dX0_kthOnTheWay_49 rfl (lv_at hl 2 rfl) ?_
              refine vp_callSi (W.runV (As := [.int y17_5, .int k17_1, .int k17_2]) (rest := []) ⟨hx, hb, hml, hown, hbg⟩ (met_X0_isAskedFor l dC dI qA qA_ring qA_buffer cA_ring cA_buffer A_ring A_buffer A_firstPlace A_forcedPlace A_endPlace A_wordsToFailure A_opened y17_5 k17_1 k17_2 _ hw) (cwV 3 hbg g_RX0_147 rfl rfl rfl (by decide +kernel) ⟨Nat.le_of_ble_eq_true rfl, Nat.le_of_ble_eq_true rfl⟩) ⟨pcR_A_b _ _ _ _ _ _ _ _ _ _ _ _ _ _ _ , va_recv hK hP (ci := 0) (q0 := 0) rfl rfl, fun U hU hW => ⟨rfl, by rw [hU]; exact hP, va_K.moved hW.alike hK⟩⟩ rfl rfl hl.1 rfl (lv_room (Nat.le_of_ble_eq_true rfl)) dX0_kthOnTheWay_50 ⟨Nat.le_of_ble_eq_true rfl, Nat.le_of_ble_eq_true rfl⟩) (fun r_2 hw => ?_)
              try dsimp only at hw
              refine lv_if_eq (tgt := 67) hx hb dX0_kthOnTheWay_53 (by decide) (fun c9 => ?_) (fun c9 => ?_)
              · have hw := hw.1 c9
                refine lv_aload_n hx hb dX0_kthOnTheWay_67 rfl (lv_at hl 0 rfl) ?_
                refine lv_iload hx hb dX0_kthOnTheWay_68 (lv_at hl 5 rfl) ?_
                refine vp_callSi (W.runV (As := [.int y17_5]) (rest := []) ⟨hx, hb, hml, hown, hbg⟩ (met_X0_stopBehind l dC dI qA qA_ring qA_buffer cA_ring cA_buffer A_ring A_buffer A_firstPlace A_forcedPlace A_endPlace A_wordsToFailure A_opened y17_5 _ hw) (cwV 1 hbg g_RX0_151 rfl rfl rfl (by decide +kernel) ⟨Nat.le_of_ble_eq_true rfl, Nat.le_of_ble_eq_true rfl⟩) ⟨pcR_A_b _ _ _ _ _ _ _ _ _ _ _ _ _ _ _ , va_recv hK hP (ci := 0) (q0 := 0) rfl rfl, fun U hU hW => ⟨rfl, by rw [hU]; exact hP, va_K.moved hW.alike hK⟩⟩ rfl rfl hl.1 rfl (lv_room (Nat.le_of_ble_eq_true rfl)) dX0_kthOnTheWay_70 ⟨Nat.le_of_ble_eq_true rfl, Nat.le_of_ble_eq_true rfl⟩) (fun r_3 hw => ?_)
                try dsimp only at hw
                refine lv_istore (lv' := [(4, .int r_3), (0, .ref qA), (1, .int k17_1), (2, .int k17_2), (3, .int k17_3), (5, .int y17_5), (6, .int y17_6), (7, .int y17_7)]) hx hb dX0_kthOnTheWay_73 hl (by decide) rfl (fun ls hl => ?_)
                refine lv_iload hx hb dX0_kthOnTheWay_75 (lv_at hl 0 rfl) ?_
                refine lv_iconst (v := (-1 : Int32)) hx hb dX0_kthOnTheWay_77 (by decide) ?_
                refine lv_icmp_ne (tgt := 85) hx hb dX0_kthOnTheWay_78 (by decide) (fun c9 => ?_) (fun c9 => ?_)
                · have hw := hw.2 c9
                  refine lv_aload_n hx hb dX0_kthOnTheWay_85 rfl (lv_at hl 1 rfl) ?_
                  refine lv_iload hx hb dX0_kthOnTheWay_86 (lv_at hl 5 rfl) ?_
                  refine vp_callSi (W.runV (As := [.int y17_5]) (rest := []) ⟨hx, hb, hml, hown, hbg⟩ (met_X0_lastRecordBefore l dC dI qA qA_ring qA_buffer cA_ring cA_buffer A_ring A_buffer A_firstPlace A_forcedPlace A_endPlace A_wordsToFailure A_opened y17_5 _ hw) (cwV 1 hbg g_RX0_88 rfl rfl rfl (by decide +kernel) ⟨Nat.le_of_ble_eq_true rfl, Nat.le_of_ble_eq_true rfl⟩) ⟨pcR_A_b _ _ _ _ _ _ _ _ _ _ _ _ _ _ _ , va_recv hK hP (ci := 0) (q0 := 0) rfl rfl, fun U hU hW => ⟨rfl, by rw [hU]; exact hP, va_K.moved hW.alike hK⟩⟩ rfl rfl hl.1 rfl (lv_room (Nat.le_of_ble_eq_true rfl)) dX0_kthOnTheWay_88 ⟨Nat.le_of_ble_eq_true rfl, Nat.le_of_ble_eq_true rfl⟩) (fun r_4 hw => ?_)
                  try dsimp only at hw
                  refine lv_istore (lv' := [(5, .int r_4), (4, .int r_3), (0, .ref qA), (1, .int k17_1), (2, .int k17_2), (3, .int k17_3), (6, .int y17_6), (7, .int y17_7)]) hx hb dX0_kthOnTheWay_91 hl (by decide) rfl (fun ls hl => ?_)
                  refine lv_iinc (v := y17_7 + (1 : Int32)) (lv' := [(7, .int (y17_7 + (1 : Int32))), (5, .int r_4), (4, .int r_3), (0, .ref qA), (1, .int k17_1), (2, .int k17_2), (3, .int k17_3), (6, .int y17_6)]) hx hb dX0_kthOnTheWay_93 hl (k := 7) rfl rfl (by decide) rfl (fun ls hl => ?_)
                  refine lv_goto (tgt := 17) hx hb dX0_kthOnTheWay_96 (by decide) ?_
                  exact ih17 k17_1 k17_2 k17_3 r_3 r_4 y17_6 (y17_7 + (1 : Int32)) hw ls (lv_sub hl [3, 4, 5, 6, 2, 1, 7, 0] rfl)
                · have hw := hw.1 c9
                  refine lv_iconst (v := (-1 : Int32)) hx hb dX0_kthOnTheWay_81 (by decide) ?_
                  refine lv_goto (tgt := 91) hx hb dX0_kthOnTheWay_82 (by decide) ?_
                  refine lv_istore (lv' := [(5, .int (-1 : Int32)), (4, .int r_3), (0, .ref qA), (1, .int k17_1), (2, .int k17_2), (3, .int k17_3), (6, .int y17_6), (7, .int y17_7)]) hx hb dX0_kthOnTheWay_91 hl (by decide) rfl (fun ls hl => ?_)
                  refine lv_iinc (v := y17_7 + (1 : Int32)) (lv' := [(7, .int (y17_7 + (1 : Int32))), (5, .int (-1 : Int32)), (4, .int r_3), (0, .ref qA), (1, .int k17_1), (2, .int k17_2), (3, .int k17_3), (6, .int y17_6)]) hx hb dX0_kthOnTheWay_93 hl (k := 7) rfl rfl (by decide) rfl (fun ls hl => ?_)
                  refine lv_goto (tgt := 17) hx hb dX0_kthOnTheWay_96 (by decide) ?_
                  exact ih17 k17_1 k17_2 k17_3 r_3 (-1 : Int32) y17_6 (y17_7 + (1 : Int32)) hw ls (lv_sub hl [3, 4, 5, 6, 2, 1, 7, 0] rfl)
              · have hw := hw.2 c9
                refine lv_iload hx hb dX0_kthOnTheWay_56 (lv_at hl 6 rfl) ?_
                refine lv_if_ne (tgt := 64) hx hb dX0_kthOnTheWay_58 (by decide) (fun c9 => ?_) (fun c9 => ?_)
                · have hw := hw.2 c9
                  refine lv_iinc (v := y17_6 + (-1 : Int32)) (lv' := [(6, .int (y17_6 + (-1 : Int32))), (0, .ref qA), (1, .int k17_1), (2, .int k17_2), (3, .int k17_3), (4, .int y17_4), (5, .int y17_5), (7, .int y17_7)]) hx hb dX0_kthOnTheWay_64 hl (k := 6) rfl rfl (by decide) rfl (fun ls hl => ?_)
                  refine lv_aload_n hx hb dX0_kthOnTheWay_67 rfl (lv_at hl 1 rfl) ?_
                  refine lv_iload hx hb dX0_kthOnTheWay_68 (lv_at hl 6 rfl) ?_
                  refine vp_callSi (W.runV (As := [.int y17_5]) (rest := []) ⟨hx, hb, hml, hown, hbg⟩ (met_X0_stopBehind l dC dI qA qA_ring qA_buffer cA_ring cA_buffer A_ring A_buffer A_firstPlace A_forcedPlace A_endPlace A_wordsToFailure A_opened y17_5 _ hw) (cwV 1 hbg g_RX0_151 rfl rfl rfl (by decide +kernel) ⟨Nat.le_of_ble_eq_true rfl, Nat.le_of_ble_eq_true rfl⟩) ⟨pcR_A_b _ _ _ _ _ _ _ _ _ _ _ _ _ _ _ , va_recv hK hP (ci := 0) (q0 := 0) rfl rfl, fun U hU hW => ⟨rfl, by rw [hU]; exact hP, va_K.moved hW.alike hK⟩⟩ rfl rfl hl.1 rfl (lv_room (Nat.le_of_ble_eq_true rfl)) dX0_kthOnTheWay_70 ⟨Nat.le_of_ble_eq_true rfl, Nat.le_of_ble_eq_true rfl⟩) (fun r_5 hw => ?_)
                  try dsimp only at hw
                  refine lv_istore (lv' := [(4, .int r_5), (6, .int (y17_6 + (-1 : Int32))), (0, .ref qA), (1, .int k17_1), (2, .int k17_2), (3, .int k17_3), (5, .int y17_5), (7, .int y17_7)]) hx hb dX0_kthOnTheWay_73 hl (by decide) rfl (fun ls hl => ?_)
                  refine lv_iload hx hb dX0_kthOnTheWay_75 (lv_at hl 0 rfl) ?_
                  refine lv_iconst (v := (-1 : Int32)) hx hb dX0_kthOnTheWay_77 (by decide) ?_
                  refine lv_icmp_ne (tgt := 85) hx hb dX0_kthOnTheWay_78 (by decide) (fun c9 => ?_) (fun c9 => ?_)
                  · have hw := hw.2 c9
                    refine lv_aload_n hx hb dX0_kthOnTheWay_85 rfl (lv_at hl 2 rfl) ?_
                    refine lv_iload hx hb dX0_kthOnTheWay_86 (lv_at hl 6 rfl) ?_
                    refine vp_callSi (W.runV (As := [.int y17_5]) (rest := []) ⟨hx, hb, hml, hown, hbg⟩ (met_X0_lastRecordBefore l dC dI qA qA_ring qA_buffer cA_ring cA_buffer A_ring A_buffer A_firstPlace A_forcedPlace A_endPlace A_wordsToFailure A_opened y17_5 _ hw) (cwV 1 hbg g_RX0_88 rfl rfl rfl (by decide +kernel) ⟨Nat.le_of_ble_eq_true rfl, Nat.le_of_ble_eq_true rfl⟩) ⟨pcR_A_b _ _ _ _ _ _ _ _ _ _ _ _ _ _ _ , va_recv hK hP (ci := 0) (q0 := 0) rfl rfl, fun U hU hW => ⟨rfl, by rw [hU]; exact hP, va_K.moved hW.alike hK⟩⟩ rfl rfl hl.1 rfl (lv_room (Nat.le_of_ble_eq_true rfl)) dX0_kthOnTheWay_88 ⟨Nat.le_of_ble_eq_true rfl, Nat.le_of_ble_eq_true rfl⟩) (fun r_6 hw => ?_)
                    try dsimp only at hw
                    refine lv_istore (lv' := [(5, .int r_6), (4, .int r_5), (6, .int (y17_6 + (-1 : Int32))), (0, .ref qA), (1, .int k17_1), (2, .int k17_2), (3, .int k17_3), (7, .int y17_7)]) hx hb dX0_kthOnTheWay_91 hl (by decide) rfl (fun ls hl => ?_)
                    refine lv_iinc (v := y17_7 + (1 : Int32)) (lv' := [(7, .int (y17_7 + (1 : Int32))), (5, .int r_6), (4, .int r_5), (6, .int (y17_6 + (-1 : Int32))), (0, .ref qA), (1, .int k17_1), (2, .int k17_2), (3, .int k17_3)]) hx hb dX0_kthOnTheWay_93 hl (k := 7) rfl rfl (by decide) rfl (fun ls hl => ?_)
                    refine lv_goto (tgt := 17) hx hb dX0_kthOnTheWay_96 (by decide) ?_
                    exact ih17 k17_1 k17_2 k17_3 r_5 r_6 (y17_6 + (-1 : Int32)) (y17_7 + (1 : Int32)) hw ls (lv_sub hl [4, 5, 6, 7, 2, 1, 3, 0] rfl)
                  · have hw := hw.1 c9
                    refine lv_iconst (v := (-1 : Int32)) hx hb dX0_kthOnTheWay_81 (by decide) ?_
                    refine lv_goto (tgt := 91) hx hb dX0_kthOnTheWay_82 (by decide) ?_
                    refine lv_istore (lv' := [(5, .int (-1 : Int32)), (4, .int r_5), (6, .int (y17_6 + (-1 : Int32))), (0, .ref qA), (1, .int k17_1), (2, .int k17_2), (3, .int k17_3), (7, .int y17_7)]) hx hb dX0_kthOnTheWay_91 hl (by decide) rfl (fun ls hl => ?_)
                    refine lv_iinc (v := y17_7 + (1 : Int32)) (lv' := [(7, .int (y17_7 + (1 : Int32))), (5, .int (-1 : Int32)), (4, .int r_5), (6, .int (y17_6 + (-1 : Int32))), (0, .ref qA), (1, .int k17_1), (2, .int k17_2), (3, .int k17_3)]) hx hb dX0_kthOnTheWay_93 hl (k := 7) rfl rfl (by decide) rfl (fun ls hl => ?_)
                    refine lv_goto (tgt := 17) hx hb dX0_kthOnTheWay_96 (by decide) ?_
                    exact ih17 k17_1 k17_2 k17_3 r_5 (-1 : Int32) (y17_6 + (-1 : Int32)) (y17_7 + (1 : Int32)) hw ls (lv_sub hl [4, 5, 6, 7, 2, 1, 3, 0] rfl)
                · have hw := hw.1 c9
                  refine lv_iload hx hb dX0_kthOnTheWay_61 (lv_at hl 5 rfl) ?_
                  subst hQQ
                  exact W.iret (v := y17_5) hx hb hr (fun t ht _ => ⟨y17_5, rfl, hw, ht⟩) (by simp) dX0_kthOnTheWay_63
  refine lv_aload_n hx hb dX0_kthOnTheWay_0 rfl (lv_at hl 0 rfl) ?_
  refine lv_iload_n hx hb dX0_kthOnTheWay_1 rfl (lv_at hl 1 rfl) ?_
  refine vp_callSi (W.runV (As := [.int x1]) (rest := []) ⟨hx, hb, hml, hown, hbg⟩ (met_X0_lastRecordOf l dC dI qA qA_ring qA_buffer cA_ring cA_buffer A_ring A_buffer A_firstPlace A_forcedPlace A_endPlace A_wordsToFailure A_opened x1 _ hw) (cwV 1 hbg g_RX0_61 rfl rfl rfl (by decide +kernel) ⟨Nat.le_of_ble_eq_true rfl, Nat.le_of_ble_eq_true rfl⟩) ⟨pcR_A_b _ _ _ _ _ _ _ _ _ _ _ _ _ _ _ , va_recv hK hP (ci := 0) (q0 := 0) rfl rfl, fun U hU hW => ⟨rfl, by rw [hU]; exact hP, va_K.moved hW.alike hK⟩⟩ rfl rfl hl.1 rfl (lv_room (Nat.le_of_ble_eq_true rfl)) dX0_kthOnTheWay_2 ⟨Nat.le_of_ble_eq_true rfl, Nat.le_of_ble_eq_true rfl⟩) (fun r_7 hw => ?_)
  try dsimp only at hw
  refine lv_istore (lv' := [(4, .int r_7), (0, .ref qA), (1, .int x1), (2, .int x2), (3, .int x3)]) hx hb dX0_kthOnTheWay_5 hl (by decide) rfl (fun ls hl => ?_)
  refine lv_iload hx hb dX0_kthOnTheWay_7 (lv_at hl 0 rfl) ?_
  refine lv_istore (lv' := [(5, .int r_7), (4, .int r_7), (0, .ref qA), (1, .int x1), (2, .int x2), (3, .int x3)]) hx hb dX0_kthOnTheWay_9 hl (by decide) rfl (fun ls hl => ?_)
  refine lv_iload_n hx hb dX0_kthOnTheWay_11 rfl (lv_at hl 5 rfl) ?_
  refine lv_istore (lv' := [(6, .int x3), (5, .int r_7), (4, .int r_7), (0, .ref qA), (1, .int x1), (2, .int x2), (3, .int x3)]) hx hb dX0_kthOnTheWay_12 hl (by decide) rfl (fun ls hl => ?_)
  refine lv_iconst (v := (0 : Int32)) hx hb dX0_kthOnTheWay_14 (by decide) ?_
  refine lv_istore (lv' := [(7, .int (0 : Int32)), (6, .int x3), (5, .int r_7), (4, .int r_7), (0, .ref qA), (1, .int x1), (2, .int x2), (3, .int x3)]) hx hb dX0_kthOnTheWay_15 hl (by decide) rfl (fun ls hl => ?_)
  obtain ⟨n9, hw⟩ := hw
  exact hL17 n9 x1 x2 x3 r_7 r_7 x3 (0 : Int32) hw ls (lv_sub hl [4, 5, 6, 7, 3, 2, 1, 0] rfl)
end
section
def wp_X0_addWord (post : St_A → Prop) (x1 : Int32) (A_ring : Nat → Int32) (A_buffer : Nat → Int32) (A_firstPlace : Int32) (A_forcedPlace : Int32) (A_endPlace : Int32) (A_wordsToFailure : Int32) (A_opened : Int32) : Prop :=
  vp_in (A_endPlace &&& (65535 : Int32)) 65536 ∧ (post (upd A_ring (A_endPlace &&& (65535 : Int32)).toNatClampNeg x1, A_buffer, A_firstPlace, A_forcedPlace, A_endPlace + (1 : Int32), A_wordsToFailure, A_opened))
set_option maxHeartbeats 4000000 in
set_option maxRecDepth 100000 in
theorem met_X0_addWord (l : Launch) (dC : Nat → ClassId) (dI : Nat → Nat → Nat) (qA qA_ring qA_buffer : Nat) (cA_ring cA_buffer : ClassId) (sz : Nat) (A_ring : Nat → Int32) (A_buffer : Nat → Int32) (A_firstPlace : Int32) (A_forcedPlace : Int32) (A_endPlace : Int32) (A_wordsToFailure : Int32) (A_opened : Int32) (x1 : Int32) (post : St_A → Prop) (hw : wp_X0_addWord post x1 A_ring A_buffer A_firstPlace A_forcedPlace A_endPlace A_wordsToFailure A_opened) :
    Met l yX0_addWord wsX0_addWord ({ frames := 0, cells := 0, slots := 0, locals := 0 } : Room) (pcW_A dC dI qA qA_ring qA_buffer cA_ring cA_buffer sz A_ring A_buffer A_firstPlace A_forcedPlace A_endPlace A_wordsToFailure A_opened [.ref qA, .int x1]) (va_Qv post (at_A dC dI (va_A [(qA, .inr (0, [.ref qA_ring, .ref qA_buffer, .int A_firstPlace, .int A_forcedPlace, .int A_endPlace, .int A_wordsToFailure, .int A_opened])), (qA_ring, .inl (cA_ring, 65536, .inl A_ring)), (qA_buffer, .inl (cA_buffer, 200, .inl A_buffer))] sz) qA qA_ring qA_buffer cA_ring cA_buffer) (va_A [(qA, .inr (0, [.ref qA_ring, .ref qA_buffer, .int A_firstPlace, .int A_forcedPlace, .int A_endPlace, .int A_wordsToFailure, .int A_opened])), (qA_ring, .inl (cA_ring, 65536, .inl A_ring)), (qA_buffer, .inl (cA_buffer, 200, .inl A_buffer))] sz)) 0 0 (va_A [(qA, .inr (0, [.ref qA_ring, .ref qA_buffer, .int A_firstPlace, .int A_forcedPlace, .int A_endPlace, .int A_wordsToFailure, .int A_opened])), (qA_ring, .inl (cA_ring, 65536, .inl A_ring)), (qA_buffer, .inl (cA_buffer, 200, .inl A_buffer))] sz) := by
  refine Met.ofW (cc := cX0_addWord) (maxL := 2) (ret := none) (by decide) rfl ?_
  intro p e s m args below meth c s₁ B hml hv
  obtain ⟨hav, hsz, hP, hK, hD0⟩ := hv
  have hx := B.exec
  have hb := B.bytes
  have hr := B.returns
  have hts := atoms_spec (ws := wsX0_addWord) B.pre
  have hbg : ∀ w ∈ bigW, w.before args s = true := fun w h => hts w (List.mem_cons_of_mem _ h)
  have hown : s.vm.findClass RX0 = some m.cls := findClass_of_methodNamed B.named
  have hlocks := B.notSynchronized
  subst hsz
  have hD := hD0.self (sz := s.heap.size)
  generalize hAe : va_A [(qA, .inr (0, [.ref qA_ring, .ref qA_buffer, .int A_firstPlace, .int A_forcedPlace, .int A_endPlace, .int A_wordsToFailure, .int A_opened])), (qA_ring, .inl (cA_ring, 65536, .inl A_ring)), (qA_buffer, .inl (cA_buffer, 200, .inl A_buffer))] s.heap.size = A at hD ⊢
  have hA : ∀ q : Nat, s.heap.size ≤ q → A q := fun q h => by rw [← hAe]; exact Or.inr h
  have hS : va_S A s.heap s.heap [] := va_S.rf
  have hP : va_P (dC, dI) vwCl [(qA, .inr (0, [.ref qA_ring, .ref qA_buffer, .int A_firstPlace, .int A_forcedPlace, .int A_endPlace, .int A_wordsToFailure, .int A_opened])), (qA_ring, .inl (cA_ring, 65536, .inl A_ring)), (qA_buffer, .inl (cA_buffer, 200, .inl A_buffer))] s.heap := hP
  generalize hQQ : MQ below (va_Qv post (at_A dC dI A qA qA_ring qA_buffer cA_ring cA_buffer) A) args s 0 0 A = QQ
  have hl := lv_entry ([.ref qA, .int x1]) (n := 2) (Nat.le_of_ble_eq_true rfl)
  rw [show entryFrame m args 2 = entryFrame m ([.ref qA, .int x1] : List Value).toArray 2 by rw [hav], lg_entry_eq]
  generalize (lg_sl ([.ref qA, .int x1]) ++ List.replicate (2 - (lg_sl ([.ref qA, .int x1])).length) Slot.unset).toArray = ls at hl ⊢
  have hl : lv_has ls 2 [(0, .ref qA), (1, .int x1)] := hl
  unfold wp_X0_addWord at hw
  refine lv_aload_n hx hb dX0_addWord_0 rfl (lv_at hl 0 rfl) ?_
  refine va_get (D := (dC, dI)) (ci := 0) (v := .ref qA_ring) (C := RX0) (T := TX0) (N := 7) hx hb hbg in_X0 hown hK hP 0 rfl rfl 0 (by decide) (hbg _ kw_0) (fun _ h9 => h9) rfl dX0_addWord_1 ?_
  refine lv_aload_n hx hb dX0_addWord_4 rfl (lv_at hl 0 rfl) ?_
  refine va_get (D := (dC, dI)) (ci := 0) (v := .int A_endPlace) (C := RX0) (T := TX0) (N := 7) hx hb hbg in_X0 hown hK hP 0 rfl rfl 4 (by decide) (hbg _ kw_12) (fun _ h9 => h9) rfl dX0_addWord_5 ?_
  refine lv_ldc (v := (65535 : Int32)) hx hb hown (hbg _ kw_1) dX0_addWord_8 ?_
  refine lv_iand hx hb dX0_addWord_10 ?_
  refine lv_iload_n hx hb dX0_addWord_11 rfl (lv_at hl 1 rfl) ?_
  obtain ⟨h_1, hw⟩ := hw
  refine va_iast hx hb hK hP hD hS 1 0 rfl rfl h_1 dX0_addWord_12 (fun H_2 locs hP hD hS => ?_)
  have hP : va_P (dC, dI) vwCl [(qA, .inr (0, [.ref qA_ring, .ref qA_buffer, .int A_firstPlace, .int A_forcedPlace, .int A_endPlace, .int A_wordsToFailure, .int A_opened])), (qA_ring, .inl (cA_ring, 65536, .inl (upd A_ring (A_endPlace &&& (65535 : Int32)).toNatClampNeg x1))), (qA_buffer, .inl (cA_buffer, 200, .inl A_buffer))] H_2 := hP
  have hD : va_D A [(qA, .inr (0, [.ref qA_ring, .ref qA_buffer, .int A_firstPlace, .int A_forcedPlace, .int A_endPlace, .int A_wordsToFailure, .int A_opened])), (qA_ring, .inl (cA_ring, 65536, .inl (upd A_ring (A_endPlace &&& (65535 : Int32)).toNatClampNeg x1))), (qA_buffer, .inl (cA_buffer, 200, .inl A_buffer))] := hD
  refine lv_aload_n hx hb dX0_addWord_13 rfl (lv_at hl 0 rfl) ?_
  refine lv_dup hx hb dX0_addWord_14 rfl ?_
  refine va_get (D := (dC, dI)) (ci := 0) (v := .int A_endPlace) (C := RX0) (T := TX0) (N := 7) hx hb hbg in_X0 hown hK hP 0 rfl rfl 4 (by decide) (hbg _ kw_12) (fun _ h9 => h9) rfl dX0_addWord_15 ?_
  refine lv_iconst (v := (1 : Int32)) hx hb dX0_addWord_18 (by decide) ?_
  refine lv_iadd hx hb dX0_addWord_19 ?_
  refine va_put (D := (dC, dI)) (ci := 0) (v := .int (A_endPlace + (1 : Int32))) (ty := .int) (C := RX0) (T := TX0) (N := 7) hx hb hbg in_X0 tyX0 tyX0_ok nmX0 hown hK hP hD hS 0 rfl rfl 4 (by decide) (hbg _ kw_12) (fun _ h9 => h9) rfl (by decide +kernel) rfl rfl (Nat.le_of_ble_eq_true rfl) dX0_addWord_20 (fun H_3 locs hP hD hS => ?_)
  have hP : va_P (dC, dI) vwCl [(qA, .inr (0, [.ref qA_ring, .ref qA_buffer, .int A_firstPlace, .int A_forcedPlace, .int (A_endPlace + (1 : Int32)), .int A_wordsToFailure, .int A_opened])), (qA_ring, .inl (cA_ring, 65536, .inl (upd A_ring (A_endPlace &&& (65535 : Int32)).toNatClampNeg x1))), (qA_buffer, .inl (cA_buffer, 200, .inl A_buffer))] H_3 := hP
  have hD : va_D A [(qA, .inr (0, [.ref qA_ring, .ref qA_buffer, .int A_firstPlace, .int A_forcedPlace, .int (A_endPlace + (1 : Int32)), .int A_wordsToFailure, .int A_opened])), (qA_ring, .inl (cA_ring, 65536, .inl (upd A_ring (A_endPlace &&& (65535 : Int32)).toNatClampNeg x1))), (qA_buffer, .inl (cA_buffer, 200, .inl A_buffer))] := hD
  subst hQQ
  exact W.vret hx hb hr (fun t ht hW => ⟨⟨(upd A_ring (A_endPlace &&& (65535 : Int32)).toNatClampNeg x1, A_buffer, A_firstPlace, A_forcedPlace, A_endPlace + (1 : Int32), A_wordsToFailure, A_opened), rfl, hw, by rw [ht]; exact hP, va_K.moved hW.alike hK, hD⟩, hS.F ht⟩) hS.2.2 dX0_addWord_23
def wl_X0_addContent_2 (post : St_A → Prop) (k2_1 : Int32) : Nat → Int32 → (Nat → Int32) → (Nat → Int32) → Int32 → Int32 → Int32 → Int32 → Int32 → Prop
  | 0, _, _, _, _, _, _, _, _ => False
  | n2 + 1, y2_2, A_ring_L2, A_buffer_L2, A_firstPlace_L2, A_forcedPlace_L2, A_endPlace_L2, A_wordsToFailure_L2, A_opened_L2 =>
    ((k2_1 ≤ y2_2 → post (A_ring_L2, A_buffer_L2, A_firstPlace_L2, A_forcedPlace_L2, A_endPlace_L2, A_wordsToFailure_L2, A_opened_L2)) ∧ (¬ k2_1 ≤ y2_2 → (((200 : Int32) ≤ y2_2 → post (A_ring_L2, A_buffer_L2, A_firstPlace_L2, A_forcedPlace_L2, A_endPlace_L2, A_wordsToFailure_L2, A_opened_L2)) ∧ (¬ (200 : Int32) ≤ y2_2 → vp_in y2_2 200 ∧ (wp_X0_addWord (fun u_2 => match u_2 with | (A_ring_2, A_buffer_2, A_firstPlace_2, A_forcedPlace_2, A_endPlace_2, A_wordsToFailure_2, A_opened_2) => wl_X0_addContent_2 post k2_1 n2 (y2_2 + (1 : Int32)) A_ring_2 A_buffer_2 A_firstPlace_2 A_forcedPlace_2 A_endPlace_2 A_wordsToFailure_2 A_opened_2) (A_buffer_L2 y2_2.toNatClampNeg) A_ring_L2 A_buffer_L2 A_firstPlace_L2 A_forcedPlace_L2 A_endPlace_L2 A_wordsToFailure_L2 A_opened_L2)))))
def wp_X0_addContent (post : St_A → Prop) (x1 : Int32) (A_ring : Nat → Int32) (A_buffer : Nat → Int32) (A_firstPlace : Int32) (A_forcedPlace : Int32) (A_endPlace : Int32) (A_wordsToFailure : Int32) (A_opened : Int32) : Prop :=
  ∃ n, wl_X0_addContent_2 post x1 n (0 : Int32) A_ring A_buffer A_firstPlace A_forcedPlace A_endPlace A_wordsToFailure A_opened
set_option maxHeartbeats 4000000 in
set_option maxRecDepth 100000 in
theorem met_X0_addContent (l : Launch) (dC : Nat → ClassId) (dI : Nat → Nat → Nat) (qA qA_ring qA_buffer : Nat) (cA_ring cA_buffer : ClassId) (sz : Nat) (A_ring : Nat → Int32) (A_buffer : Nat → Int32) (A_firstPlace : Int32) (A_forcedPlace : Int32) (A_endPlace : Int32) (A_wordsToFailure : Int32) (A_opened : Int32) (x1 : Int32) (post : St_A → Prop) (hw : wp_X0_addContent post x1 A_ring A_buffer A_firstPlace A_forcedPlace A_endPlace A_wordsToFailure A_opened) :
    Met l yX0_addContent wsX0_addContent ({ frames := 1, cells := 0, slots := 0, locals := 21 } : Room) (pcW_A dC dI qA qA_ring qA_buffer cA_ring cA_buffer sz A_ring A_buffer A_firstPlace A_forcedPlace A_endPlace A_wordsToFailure A_opened [.ref qA, .int x1]) (va_Qv post (at_A dC dI (va_A [(qA, .inr (0, [.ref qA_ring, .ref qA_buffer, .int A_firstPlace, .int A_forcedPlace, .int A_endPlace, .int A_wordsToFailure, .int A_opened])), (qA_ring, .inl (cA_ring, 65536, .inl A_ring)), (qA_buffer, .inl (cA_buffer, 200, .inl A_buffer))] sz) qA qA_ring qA_buffer cA_ring cA_buffer) (va_A [(qA, .inr (0, [.ref qA_ring, .ref qA_buffer, .int A_firstPlace, .int A_forcedPlace, .int A_endPlace, .int A_wordsToFailure, .int A_opened])), (qA_ring, .inl (cA_ring, 65536, .inl A_ring)), (qA_buffer, .inl (cA_buffer, 200, .inl A_buffer))] sz)) 0 0 (va_A [(qA, .inr (0, [.ref qA_ring, .ref qA_buffer, .int A_firstPlace, .int A_forcedPlace, .int A_endPlace, .int A_wordsToFailure, .int A_opened])), (qA_ring, .inl (cA_ring, 65536, .inl A_ring)), (qA_buffer, .inl (cA_buffer, 200, .inl A_buffer))] sz) := by
  refine Met.ofW (cc := cX0_addContent) (maxL := 3) (ret := none) (by decide) rfl ?_
  intro p e s m args below meth c s₁ B hml hv
  obtain ⟨hav, hsz, hP, hK, hD0⟩ := hv
  have hx := B.exec
  have hb := B.bytes
  have hr := B.returns
  have hts := atoms_spec (ws := wsX0_addContent) B.pre
  have hbg : ∀ w ∈ bigW, w.before args s = true := fun w h => hts w (List.mem_cons_of_mem _ h)
  have hown : s.vm.findClass RX0 = some m.cls := findClass_of_methodNamed B.named
  have hlocks := B.notSynchronized
  subst hsz
  have hD := hD0.self (sz := s.heap.size)
  generalize hAe : va_A [(qA, .inr (0, [.ref qA_ring, .ref qA_buffer, .int A_firstPlace, .int A_forcedPlace, .int A_endPlace, .int A_wordsToFailure, .int A_opened])), (qA_ring, .inl (cA_ring, 65536, .inl A_ring)), (qA_buffer, .inl (cA_buffer, 200, .inl A_buffer))] s.heap.size = A at hD ⊢
  have hA : ∀ q : Nat, s.heap.size ≤ q → A q := fun q h => by rw [← hAe]; exact Or.inr h
  have hS : va_S A s.heap s.heap [] := va_S.rf
  have hP : va_P (dC, dI) vwCl [(qA, .inr (0, [.ref qA_ring, .ref qA_buffer, .int A_firstPlace, .int A_forcedPlace, .int A_endPlace, .int A_wordsToFailure, .int A_opened])), (qA_ring, .inl (cA_ring, 65536, .inl A_ring)), (qA_buffer, .inl (cA_buffer, 200, .inl A_buffer))] s.heap := hP
  generalize hQQ : MQ below (va_Qv post (at_A dC dI A qA qA_ring qA_buffer cA_ring cA_buffer) A) args s 0 0 A = QQ
  have hl := lv_entry ([.ref qA, .int x1]) (n := 3) (Nat.le_of_ble_eq_true rfl)
  rw [show entryFrame m args 3 = entryFrame m ([.ref qA, .int x1] : List Value).toArray 3 by rw [hav], lg_entry_eq]
  generalize (lg_sl ([.ref qA, .int x1]) ++ List.replicate (3 - (lg_sl ([.ref qA, .int x1])).length) Slot.unset).toArray = ls at hl ⊢
  have hl : lv_has ls 3 [(0, .ref qA), (1, .int x1)] := hl
  unfold wp_X0_addContent at hw
  have hL2 : ∀ (n2 : Nat) (k2_1 : Int32) (y2_2 : Int32) (A_ring_L2 : Nat → Int32) (A_buffer_L2 : Nat → Int32) (A_firstPlace_L2 : Int32) (A_forcedPlace_L2 : Int32) (A_endPlace_L2 : Int32) (A_wordsToFailure_L2 : Int32) (A_opened_L2 : Int32), wl_X0_addContent_2 post k2_1 n2 y2_2 A_ring_L2 A_buffer_L2 A_firstPlace_L2 A_forcedPlace_L2 A_endPlace_L2 A_wordsToFailure_L2 A_opened_L2 → ∀ (H : Heap) (locs : List Loc), va_P (dC, dI) vwCl [(qA, .inr (0, [.ref qA_ring, .ref qA_buffer, .int A_firstPlace_L2, .int A_forcedPlace_L2, .int A_endPlace_L2, .int A_wordsToFailure_L2, .int A_opened_L2])), (qA_ring, .inl (cA_ring, 65536, .inl A_ring_L2)), (qA_buffer, .inl (cA_buffer, 200, .inl A_buffer_L2))] H → va_D A [(qA, .inr (0, [.ref qA_ring, .ref qA_buffer, .int A_firstPlace_L2, .int A_forcedPlace_L2, .int A_endPlace_L2, .int A_wordsToFailure_L2, .int A_opened_L2])), (qA_ring, .inl (cA_ring, 65536, .inl A_ring_L2)), (qA_buffer, .inl (cA_buffer, 200, .inl A_buffer_L2))] → va_S A s.heap H locs → ∀ ls : Array Slot, lv_has ls 3 [(0, .ref qA), (1, .int k2_1), (2, .int y2_2)] → W p l e (headSpec wsX0_addContent ({ frames := 1, cells := 0, slots := 0, locals := 21 } : Room)).room s m args below meth c H locs 0 0 QQ (F0 m 2 ls []) := by
    intro n2
    induction n2 with
    | zero => intro k2_1 y2_2 A_ring_L2 A_buffer_L2 A_firstPlace_L2 A_forcedPlace_L2 A_endPlace_L2 A_wordsToFailure_L2 A_opened_L2 hw; exact False.elim hw
    | succ n2 ih2 =>
      intro k2_1 y2_2 A_ring_L2 A_buffer_L2 A_firstPlace_L2 A_forcedPlace_L2 A_endPlace_L2 A_wordsToFailure_L2 A_opened_L2 hw H locs hP hD hS ls hl
      rw [wl_X0_addContent_2] at hw
      refine lv_iload_n hx hb dX0_addContent_2 rfl (lv_at hl 2 rfl) ?_
      refine lv_iload_n hx hb dX0_addContent_3 rfl (lv_at hl 1 rfl) ?_
      refine lv_icmp_ge (tgt := 32) hx hb dX0_addContent_4 (by decide) (fun c9 => ?_) (fun c9 => ?_)
      · have hw := hw.1 c9
        subst hQQ
        exact W.vret hx hb hr (fun t ht hW => ⟨⟨(A_ring_L2, A_buffer_L2, A_firstPlace_L2, A_forcedPlace_L2, A_endPlace_L2, A_wordsToFailure_L2, A_opened_L2), rfl, hw, by rw [ht]; exact hP, va_K.moved hW.alike hK, hD⟩, hS.F ht⟩) hS.2.2 dX0_addContent_32
      · have hw := hw.2 c9
        refine lv_iload_n hx hb dX0_addContent_7 rfl (lv_at hl 2 rfl) ?_
        refine lv_aload_n hx hb dX0_addContent_8 rfl (lv_at hl 0 rfl) ?_
        refine va_get (D := (dC, dI)) (ci := 0) (v := .ref qA_buffer) (C := RX0) (T := TX0) (N := 7) hx hb hbg in_X0 hown hK hP 0 rfl rfl 1 (by decide) (hbg _ kw_37) (fun _ h9 => h9) rfl dX0_addContent_9 ?_
        refine va_alen (v := (200 : Int32)) hx hb hK hP 2 1 rfl rfl rfl dX0_addContent_12 ?_
        refine lv_icmp_ge (tgt := 32) hx hb dX0_addContent_13 (by decide) (fun c9 => ?_) (fun c9 => ?_)
        · have hw := hw.1 c9
          subst hQQ
          exact W.vret hx hb hr (fun t ht hW => ⟨⟨(A_ring_L2, A_buffer_L2, A_firstPlace_L2, A_forcedPlace_L2, A_endPlace_L2, A_wordsToFailure_L2, A_opened_L2), rfl, hw, by rw [ht]; exact hP, va_K.moved hW.alike hK, hD⟩, hS.F ht⟩) hS.2.2 dX0_addContent_32
        · have hw := hw.2 c9
          refine lv_aload_n hx hb dX0_addContent_16 rfl (lv_at hl 0 rfl) ?_
          refine lv_aload_n hx hb dX0_addContent_17 rfl (lv_at hl 0 rfl) ?_
          refine va_get (D := (dC, dI)) (ci := 0) (v := .ref qA_buffer) (C := RX0) (T := TX0) (N := 7) hx hb hbg in_X0 hown hK hP 0 rfl rfl 1 (by decide) (hbg _ kw_37) (fun _ h9 => h9) rfl dX0_addContent_18 ?_
          refine lv_iload_n hx hb dX0_addContent_21 rfl (lv_at hl 2 rfl) ?_
          obtain ⟨h_1, hw⟩ := hw
          refine va_iald hx hb hK hP 2 1 rfl rfl h_1 dX0_addContent_22 ?_
          have hFc := va_free (wc := [(qA, .inr (0, [.ref qA_ring, .ref qA_buffer, .int A_firstPlace_L2, .int A_forcedPlace_L2, .int A_endPlace_L2, .int A_wordsToFailure_L2, .int A_opened_L2])), (qA_ring, .inl (cA_ring, 65536, .inl A_ring_L2)), (qA_buffer, .inl (cA_buffer, 200, .inl A_buffer_L2))]) hD hS hA [0, 1, 2] rfl
          refine va_callv (va_runV (As := [.int (A_buffer_L2 y2_2.toNatClampNeg)]) (rest := []) ⟨hx, hb, hml, hown, hbg⟩ (met_X0_addWord l dC dI qA qA_ring qA_buffer cA_ring cA_buffer H.size A_ring_L2 A_buffer_L2 A_firstPlace_L2 A_forcedPlace_L2 A_endPlace_L2 A_wordsToFailure_L2 A_opened_L2 (A_buffer_L2 y2_2.toNatClampNeg) _ hw) (cwV 1 hbg g_RX0_65 rfl rfl rfl (by decide +kernel) ⟨Nat.le_of_ble_eq_true rfl, Nat.le_of_ble_eq_true rfl⟩) ⟨pcW_A_b _ _ _ _ _ _ _ _ _ _ _ _ _ _ _ _, va_recv hK hP (ci := 0) (q0 := 0) rfl rfl, fun U hU hW => ⟨rfl, by rw [hU], by rw [hU]; exact hP, va_K.moved hW.alike hK, hD.weaken (fun _ _ _ _ => trivial)⟩⟩ rfl rfl hl.1 rfl (lv_room (Nat.le_of_ble_eq_true rfl)) dX0_addContent_23 ⟨Nat.le_of_ble_eq_true rfl, Nat.le_of_ble_eq_true rfl⟩) hS (fun q _ h => hFc q h) hFc (fun u_2 t_2 H_2 locs ht hvm hw hB hz1 hk1 hS => ?_)
          obtain ⟨A_ring_2, A_buffer_2, A_firstPlace_2, A_forcedPlace_2, A_endPlace_2, A_wordsToFailure_2, A_opened_2⟩ := u_2
          obtain ⟨hP1, hK1, hD1⟩ := hB
          rw [ht] at hP1
          try dsimp only at hw
          have hP : va_P (dC, dI) vwCl [(qA, .inr (0, [.ref qA_ring, .ref qA_buffer, .int A_firstPlace_2, .int A_forcedPlace_2, .int A_endPlace_2, .int A_wordsToFailure_2, .int A_opened_2])), (qA_ring, .inl (cA_ring, 65536, .inl A_ring_2)), (qA_buffer, .inl (cA_buffer, 200, .inl A_buffer_2))] H_2 := hP1
          have hD : va_D A [(qA, .inr (0, [.ref qA_ring, .ref qA_buffer, .int A_firstPlace_2, .int A_forcedPlace_2, .int A_endPlace_2, .int A_wordsToFailure_2, .int A_opened_2])), (qA_ring, .inl (cA_ring, 65536, .inl A_ring_2)), (qA_buffer, .inl (cA_buffer, 200, .inl A_buffer_2))] := hD1.weaken (fun _ _ _ h => hFc _ h)
          refine lv_iinc (v := y2_2 + (1 : Int32)) (lv' := [(2, .int (y2_2 + (1 : Int32))), (0, .ref qA), (1, .int k2_1)]) hx hb dX0_addContent_26 hl (k := 2) rfl rfl (by decide) rfl (fun ls hl => ?_)
          refine lv_goto (tgt := 2) hx hb dX0_addContent_29 (by decide) ?_
          exact ih2 k2_1 (y2_2 + (1 : Int32)) A_ring_2 A_buffer_2 A_firstPlace_2 A_forcedPlace_2 A_endPlace_2 A_wordsToFailure_2 A_opened_2 hw _ _ hP hD hS ls (lv_sub hl [1, 2, 0] rfl)
  refine lv_iconst (v := (0 : Int32)) hx hb dX0_addContent_0 (by decide) ?_
  refine lv_istore_n (lv' := [(2, .int (0 : Int32)), (0, .ref qA), (1, .int x1)]) hx hb dX0_addContent_1 rfl hl (by decide) rfl (fun ls hl => ?_)
  obtain ⟨n9, hw⟩ := hw
  exact hL2 n9 x1 (0 : Int32) A_ring A_buffer A_firstPlace A_forcedPlace A_endPlace A_wordsToFailure A_opened hw _ _ hP hD hS ls (lv_sub hl [1, 2, 0] rfl)
end
section
def wp_X0_requireOpen (post : St_A → Prop) (px : String → St_A → Prop) (A_ring : Nat → Int32) (A_buffer : Nat → Int32) (A_firstPlace : Int32) (A_forcedPlace : Int32) (A_endPlace : Int32) (A_wordsToFailure : Int32) (A_opened : Int32) : Prop :=
  ((A_opened = (0 : Int32) → px "java/lang/IllegalStateException" (A_ring, A_buffer, A_firstPlace, A_forcedPlace, A_endPlace, A_wordsToFailure, A_opened)) ∧ (¬ A_opened = (0 : Int32) → post (A_ring, A_buffer, A_firstPlace, A_forcedPlace, A_endPlace, A_wordsToFailure, A_opened)))
set_option maxHeartbeats 4000000 in
set_option maxRecDepth 100000 in
theorem met_X0_requireOpen (l : Launch) (hl9 : l.stackTraces = false) (dC : Nat → ClassId) (dI : Nat → Nat → Nat) (qA qA_ring qA_buffer : Nat) (cA_ring cA_buffer : ClassId) (sz : Nat) (A_ring : Nat → Int32) (A_buffer : Nat → Int32) (A_firstPlace : Int32) (A_forcedPlace : Int32) (A_endPlace : Int32) (A_wordsToFailure : Int32) (A_opened : Int32) (post : St_A → Prop) (px : String → St_A → Prop) (hw : wp_X0_requireOpen post px A_ring A_buffer A_firstPlace A_forcedPlace A_endPlace A_wordsToFailure A_opened) :
    vx_Met l yX0_requireOpen wsX0_requireOpen ({ frames := 6, cells := 1, slots := 6, locals := 96 } : Room) (pcX_A dC dI qA qA_ring qA_buffer cA_ring cA_buffer sz A_ring A_buffer A_firstPlace A_forcedPlace A_endPlace A_wordsToFailure A_opened [.ref qA]) (va_Qv post (at_A dC dI (va_A [(qA, .inr (0, [.ref qA_ring, .ref qA_buffer, .int A_firstPlace, .int A_forcedPlace, .int A_endPlace, .int A_wordsToFailure, .int A_opened])), (qA_ring, .inl (cA_ring, 65536, .inl A_ring)), (qA_buffer, .inl (cA_buffer, 200, .inl A_buffer))] sz) qA qA_ring qA_buffer cA_ring cA_buffer) (va_A [(qA, .inr (0, [.ref qA_ring, .ref qA_buffer, .int A_firstPlace, .int A_forcedPlace, .int A_endPlace, .int A_wordsToFailure, .int A_opened])), (qA_ring, .inl (cA_ring, 65536, .inl A_ring)), (qA_buffer, .inl (cA_buffer, 200, .inl A_buffer))] sz)) (vx_X (fun u => px u.1 u.2) (atx_A dC dI (va_A [(qA, .inr (0, [.ref qA_ring, .ref qA_buffer, .int A_firstPlace, .int A_forcedPlace, .int A_endPlace, .int A_wordsToFailure, .int A_opened])), (qA_ring, .inl (cA_ring, 65536, .inl A_ring)), (qA_buffer, .inl (cA_buffer, 200, .inl A_buffer))] sz) qA qA_ring qA_buffer cA_ring cA_buffer) (va_A [(qA, .inr (0, [.ref qA_ring, .ref qA_buffer, .int A_firstPlace, .int A_forcedPlace, .int A_endPlace, .int A_wordsToFailure, .int A_opened])), (qA_ring, .inl (cA_ring, 65536, .inl A_ring)), (qA_buffer, .inl (cA_buffer, 200, .inl A_buffer))] sz)) 1 6 (va_A [(qA, .inr (0, [.ref qA_ring, .ref qA_buffer, .int A_firstPlace, .int A_forcedPlace, .int A_endPlace, .int A_wordsToFailure, .int A_opened])), (qA_ring, .inl (cA_ring, 65536, .inl A_ring)), (qA_buffer, .inl (cA_buffer, 200, .inl A_buffer))] sz) := by
  refine vx_ofW (cc := cX0_requireOpen) (maxL := 1) (ret := none) (by decide) rfl ?_
  intro p e s m args below meth c s₁ B hml hEx hv
  obtain ⟨hav, hsz, hP, hK, hD0, hXW0⟩ := hv
  have hx := B.exec
  have hb := B.bytes
  have hr := B.returns
  have hts := atoms_spec (ws := wsX0_requireOpen) B.pre
  have hbg : ∀ w ∈ bigW, w.before args s = true := fun w h => hts w (List.mem_cons_of_mem _ h)
  have hown : s.vm.findClass RX0 = some m.cls := findClass_of_methodNamed B.named
  have hlocks := B.notSynchronized
  subst hsz
  have hD := hD0.self (sz := s.heap.size)
  generalize hAe : va_A [(qA, .inr (0, [.ref qA_ring, .ref qA_buffer, .int A_firstPlace, .int A_forcedPlace, .int A_endPlace, .int A_wordsToFailure, .int A_opened])), (qA_ring, .inl (cA_ring, 65536, .inl A_ring)), (qA_buffer, .inl (cA_buffer, 200, .inl A_buffer))] s.heap.size = A at hD hXW0 ⊢
  have hA : ∀ q : Nat, s.heap.size ≤ q → A q := fun q h => by rw [← hAe]; exact Or.inr h
  have hS : va_S A s.heap s.heap [] := va_S.rf
  have hP : va_P (dC, dI) vwCl [(qA, .inr (0, [.ref qA_ring, .ref qA_buffer, .int A_firstPlace, .int A_forcedPlace, .int A_endPlace, .int A_wordsToFailure, .int A_opened])), (qA_ring, .inl (cA_ring, 65536, .inl A_ring)), (qA_buffer, .inl (cA_buffer, 200, .inl A_buffer))] s.heap := hP
  generalize hQQ : vx_MQ below (va_Qv post (at_A dC dI A qA qA_ring qA_buffer cA_ring cA_buffer) A) (vx_X (fun u => px u.1 u.2) (atx_A dC dI A qA qA_ring qA_buffer cA_ring cA_buffer) A) args s 1 6 A = QQ
  have hl := lv_entry ([.ref qA]) (n := 1) (Nat.le_of_ble_eq_true rfl)
  rw [show entryFrame m args 1 = entryFrame m ([.ref qA] : List Value).toArray 1 by rw [hav], lg_entry_eq]
  generalize (lg_sl ([.ref qA]) ++ List.replicate (1 - (lg_sl ([.ref qA])).length) Slot.unset).toArray = ls at hl ⊢
  have hl : lv_has ls 1 [(0, .ref qA)] := hl
  unfold wp_X0_requireOpen at hw
  refine lv_aload_n hx hb dX0_requireOpen_0 rfl (lv_at hl 0 rfl) ?_
  refine va_get (D := (dC, dI)) (ci := 0) (v := .int A_opened) (C := RX0) (T := TX0) (N := 7) hx hb hbg in_X0 hown hK hP 0 rfl rfl 6 (by decide) (hbg _ kw_42) (fun _ h9 => h9) rfl dX0_requireOpen_1 ?_
  refine lv_if_ne (tgt := 17) hx hb dX0_requireOpen_4 (by decide) (fun c9 => ?_) (fun c9 => ?_)
  · have hw := hw.2 c9
    subst hQQ
    refine W.widen (k := 1) (n := 6) (Nat.le_of_ble_eq_true rfl) (Nat.le_of_ble_eq_true rfl) ?_
    refine vx_ret ?_
    exact W.vret hx hb hr (fun t ht hW => ⟨⟨(A_ring, A_buffer, A_firstPlace, A_forcedPlace, A_endPlace, A_wordsToFailure, A_opened), rfl, hw, by rw [ht]; exact hP, va_K.moved hW.alike hK, hD⟩, hS.F ht⟩) hS.2.2 dX0_requireOpen_17
  · have hw := hw.1 c9
    subst hQQ
    obtain ⟨sa, hsa⟩ := hXW0.2.2.1 (RX0, 125, "the book is closed") (by decide +kernel)
    exact vx_throwS (own := RX0) (cls := "java/lang/IllegalStateException") (names := ["java/lang/RuntimeException", "java/lang/Exception"]) hx hb hl9 hown (by decide +kernel) (by decide +kernel) (hbg _ kw_43) (hbg _ kw_44) hsa (vx_hat (L := vx_atS RX0 84 "java/lang/IllegalStateException" ["java/lang/RuntimeException", "java/lang/Exception"]) (B := [.castable "java/lang/IllegalStateException" "java/lang/IllegalStateException", .declares ⟨"java/lang/RuntimeException", "<init>", "(Ljava/lang/String;)V"⟩, .declares ⟨"java/lang/Exception", "<init>", "(Ljava/lang/String;)V"⟩, .declares ⟨"java/lang/Throwable", "<init>", "(Ljava/lang/String;)V"⟩]) (fun w hw => hbg w (xa_RX0_84 w hw)) (by decide +kernel) (vx_c (va_Nw.use rfl (hXW0.1 "java/lang/IllegalStateException" (by decide))) (vx_c (va_Nw.use rfl (hXW0.2.1 "java/lang/RuntimeException" (by decide))) (vx_c (va_Nw.use rfl (hXW0.2.1 "java/lang/Exception" (by decide))) (vx_c (va_Nw.use rfl (hXW0.2.1 "java/lang/Throwable" (by decide))) (vx_n)))))) (by decide +kernel) hXW0.2.2.2.2.1 hXW0.2.2.2.2.2 hS (hl.1.trans hml.symm) dX0_requireOpen_7 dX0_requireOpen_10 dX0_requireOpen_11 dX0_requireOpen_13 dX0_requireOpen_16 (fun x hx => (hEx x hx).elim) (Nat.le_of_ble_eq_true rfl) (Nat.le_of_ble_eq_true rfl) (Nat.le_of_ble_eq_true rfl) (Nat.le_of_ble_eq_true rfl) hlocks (fun t ha hsz hk => ⟨("java/lang/IllegalStateException", (A_ring, A_buffer, A_firstPlace, A_forcedPlace, A_endPlace, A_wordsToFailure, A_opened)), hw, ⟨rfl, hP.kept (fun k q hq => hk q.1 (hP k q hq).lt), va_K.moved ha hK, hD⟩, Nat.le_trans hS.1 hsz, fun q h1 h2 => (hk q (Nat.lt_of_lt_of_le h1 hS.1)).trans (hS.2.1 q h1 h2)⟩) hS.2.2 (Nat.le_of_ble_eq_true rfl) (Nat.le_of_ble_eq_true rfl)
def wp_X0_requireOwner (post : St_A → Prop) (px : String → St_A → Prop) (x1 : Int32) (A_ring : Nat → Int32) (A_buffer : Nat → Int32) (A_firstPlace : Int32) (A_forcedPlace : Int32) (A_endPlace : Int32) (A_wordsToFailure : Int32) (A_opened : Int32) : Prop :=
  ((x1 < (0 : Int32) → px "java/lang/IllegalArgumentException" (A_ring, A_buffer, A_firstPlace, A_forcedPlace, A_endPlace, A_wordsToFailure, A_opened)) ∧ (¬ x1 < (0 : Int32) → ((x1 < (8 : Int32) → post (A_ring, A_buffer, A_firstPlace, A_forcedPlace, A_endPlace, A_wordsToFailure, A_opened)) ∧ (¬ x1 < (8 : Int32) → px "java/lang/IllegalArgumentException" (A_ring, A_buffer, A_firstPlace, A_forcedPlace, A_endPlace, A_wordsToFailure, A_opened)))))
set_option maxHeartbeats 4000000 in
set_option maxRecDepth 100000 in
theorem met_X0_requireOwner (l : Launch) (hl9 : l.stackTraces = false) (dC : Nat → ClassId) (dI : Nat → Nat → Nat) (qA qA_ring qA_buffer : Nat) (cA_ring cA_buffer : ClassId) (sz : Nat) (A_ring : Nat → Int32) (A_buffer : Nat → Int32) (A_firstPlace : Int32) (A_forcedPlace : Int32) (A_endPlace : Int32) (A_wordsToFailure : Int32) (A_opened : Int32) (x1 : Int32) (post : St_A → Prop) (px : String → St_A → Prop) (hw : wp_X0_requireOwner post px x1 A_ring A_buffer A_firstPlace A_forcedPlace A_endPlace A_wordsToFailure A_opened) :
    vx_Met l yX0_requireOwner wsX0_requireOwner ({ frames := 6, cells := 1, slots := 6, locals := 96 } : Room) (pcX_A dC dI qA qA_ring qA_buffer cA_ring cA_buffer sz A_ring A_buffer A_firstPlace A_forcedPlace A_endPlace A_wordsToFailure A_opened [.ref qA, .int x1]) (va_Qv post (at_A dC dI (va_A [(qA, .inr (0, [.ref qA_ring, .ref qA_buffer, .int A_firstPlace, .int A_forcedPlace, .int A_endPlace, .int A_wordsToFailure, .int A_opened])), (qA_ring, .inl (cA_ring, 65536, .inl A_ring)), (qA_buffer, .inl (cA_buffer, 200, .inl A_buffer))] sz) qA qA_ring qA_buffer cA_ring cA_buffer) (va_A [(qA, .inr (0, [.ref qA_ring, .ref qA_buffer, .int A_firstPlace, .int A_forcedPlace, .int A_endPlace, .int A_wordsToFailure, .int A_opened])), (qA_ring, .inl (cA_ring, 65536, .inl A_ring)), (qA_buffer, .inl (cA_buffer, 200, .inl A_buffer))] sz)) (vx_X (fun u => px u.1 u.2) (atx_A dC dI (va_A [(qA, .inr (0, [.ref qA_ring, .ref qA_buffer, .int A_firstPlace, .int A_forcedPlace, .int A_endPlace, .int A_wordsToFailure, .int A_opened])), (qA_ring, .inl (cA_ring, 65536, .inl A_ring)), (qA_buffer, .inl (cA_buffer, 200, .inl A_buffer))] sz) qA qA_ring qA_buffer cA_ring cA_buffer) (va_A [(qA, .inr (0, [.ref qA_ring, .ref qA_buffer, .int A_firstPlace, .int A_forcedPlace, .int A_endPlace, .int A_wordsToFailure, .int A_opened])), (qA_ring, .inl (cA_ring, 65536, .inl A_ring)), (qA_buffer, .inl (cA_buffer, 200, .inl A_buffer))] sz)) 1 6 (va_A [(qA, .inr (0, [.ref qA_ring, .ref qA_buffer, .int A_firstPlace, .int A_forcedPlace, .int A_endPlace, .int A_wordsToFailure, .int A_opened])), (qA_ring, .inl (cA_ring, 65536, .inl A_ring)), (qA_buffer, .inl (cA_buffer, 200, .inl A_buffer))] sz) := by
  refine vx_ofW (cc := cX0_requireOwner) (maxL := 2) (ret := none) (by decide) rfl ?_
  intro p e s m args below meth c s₁ B hml hEx hv
  obtain ⟨hav, hsz, hP, hK, hD0, hXW0⟩ := hv
  have hx := B.exec
  have hb := B.bytes
  have hr := B.returns
  have hts := atoms_spec (ws := wsX0_requireOwner) B.pre
  have hbg : ∀ w ∈ bigW, w.before args s = true := fun w h => hts w (List.mem_cons_of_mem _ h)
  have hown : s.vm.findClass RX0 = some m.cls := findClass_of_methodNamed B.named
  have hlocks := B.notSynchronized
  subst hsz
  have hD := hD0.self (sz := s.heap.size)
  generalize hAe : va_A [(qA, .inr (0, [.ref qA_ring, .ref qA_buffer, .int A_firstPlace, .int A_forcedPlace, .int A_endPlace, .int A_wordsToFailure, .int A_opened])), (qA_ring, .inl (cA_ring, 65536, .inl A_ring)), (qA_buffer, .inl (cA_buffer, 200, .inl A_buffer))] s.heap.size = A at hD hXW0 ⊢
  have hA : ∀ q : Nat, s.heap.size ≤ q → A q := fun q h => by rw [← hAe]; exact Or.inr h
  have hS : va_S A s.heap s.heap [] := va_S.rf
  have hP : va_P (dC, dI) vwCl [(qA, .inr (0, [.ref qA_ring, .ref qA_buffer, .int A_firstPlace, .int A_forcedPlace, .int A_endPlace, .int A_wordsToFailure, .int A_opened])), (qA_ring, .inl (cA_ring, 65536, .inl A_ring)), (qA_buffer, .inl (cA_buffer, 200, .inl A_buffer))] s.heap := hP
  generalize hQQ : vx_MQ below (va_Qv post (at_A dC dI A qA qA_ring qA_buffer cA_ring cA_buffer) A) (vx_X (fun u => px u.1 u.2) (atx_A dC dI A qA qA_ring qA_buffer cA_ring cA_buffer) A) args s 1 6 A = QQ
  have hl := lv_entry ([.ref qA, .int x1]) (n := 2) (Nat.le_of_ble_eq_true rfl)
  rw [show entryFrame m args 2 = entryFrame m ([.ref qA, .int x1] : List Value).toArray 2 by rw [hav], lg_entry_eq]
  generalize (lg_sl ([.ref qA, .int x1]) ++ List.replicate (2 - (lg_sl ([.ref qA, .int x1])).length) Slot.unset).toArray = ls at hl ⊢
  have hl : lv_has ls 2 [(0, .ref qA), (1, .int x1)] := hl
  unfold wp_X0_requireOwner at hw
  refine lv_iload_n hx hb dX0_requireOwner_0 rfl (lv_at hl 1 rfl) ?_
  refine lv_if_lt (tgt := 10) hx hb dX0_requireOwner_1 (by decide) (fun c9 => ?_) (fun c9 => ?_)
  · have hw := hw.1 c9
    subst hQQ
    obtain ⟨sa, hsa⟩ := hXW0.2.2.1 (RX0, 127, "owners are 0 .. 7") (by decide +kernel)
    exact vx_throwS (own := RX0) (cls := "java/lang/IllegalArgumentException") (names := ["java/lang/RuntimeException", "java/lang/Exception"]) hx hb hl9 hown (by decide +kernel) (by decide +kernel) (hbg _ kw_45) (hbg _ kw_46) hsa (vx_hat (L := vx_atS RX0 56 "java/lang/IllegalArgumentException" ["java/lang/RuntimeException", "java/lang/Exception"]) (B := [.castable "java/lang/IllegalArgumentException" "java/lang/IllegalArgumentException", .declares ⟨"java/lang/RuntimeException", "<init>", "(Ljava/lang/String;)V"⟩, .declares ⟨"java/lang/Exception", "<init>", "(Ljava/lang/String;)V"⟩, .declares ⟨"java/lang/Throwable", "<init>", "(Ljava/lang/String;)V"⟩]) (fun w hw => hbg w (xa_RX0_56 w hw)) (by decide +kernel) (vx_c (va_Nw.use rfl (hXW0.1 "java/lang/IllegalArgumentException" (by decide))) (vx_c (va_Nw.use rfl (hXW0.2.1 "java/lang/RuntimeException" (by decide))) (vx_c (va_Nw.use rfl (hXW0.2.1 "java/lang/Exception" (by decide))) (vx_c (va_Nw.use rfl (hXW0.2.1 "java/lang/Throwable" (by decide))) (vx_n)))))) (by decide +kernel) hXW0.2.2.2.2.1 hXW0.2.2.2.2.2 hS (hl.1.trans hml.symm) dX0_requireOwner_10 dX0_requireOwner_13 dX0_requireOwner_14 dX0_requireOwner_16 dX0_requireOwner_19 (fun x hx => (hEx x hx).elim) (Nat.le_of_ble_eq_true rfl) (Nat.le_of_ble_eq_true rfl) (Nat.le_of_ble_eq_true rfl) (Nat.le_of_ble_eq_true rfl) hlocks (fun t ha hsz hk => ⟨("java/lang/IllegalArgumentException", (A_ring, A_buffer, A_firstPlace, A_forcedPlace, A_endPlace, A_wordsToFailure, A_opened)), hw, ⟨rfl, hP.kept (fun k q hq => hk q.1 (hP k q hq).lt), va_K.moved ha hK, hD⟩, Nat.le_trans hS.1 hsz, fun q h1 h2 => (hk q (Nat.lt_of_lt_of_le h1 hS.1)).trans (hS.2.1 q h1 h2)⟩) hS.2.2 (Nat.le_of_ble_eq_true rfl) (Nat.le_of_ble_eq_true rfl)
  · have hw := hw.2 c9
    refine lv_iload_n hx hb dX0_requireOwner_4 rfl (lv_at hl 1 rfl) ?_
    refine lv_bipush (v := (8 : Int32)) hx hb dX0_requireOwner_5 (by decide) ?_
    refine lv_icmp_lt (tgt := 20) hx hb dX0_requireOwner_7 (by decide) (fun c9 => ?_) (fun c9 => ?_)
    · have hw := hw.1 c9
      subst hQQ
      refine W.widen (k := 1) (n := 6) (Nat.le_of_ble_eq_true rfl) (Nat.le_of_ble_eq_true rfl) ?_
      refine vx_ret ?_
      exact W.vret hx hb hr (fun t ht hW => ⟨⟨(A_ring, A_buffer, A_firstPlace, A_forcedPlace, A_endPlace, A_wordsToFailure, A_opened), rfl, hw, by rw [ht]; exact hP, va_K.moved hW.alike hK, hD⟩, hS.F ht⟩) hS.2.2 dX0_requireOwner_20
    · have hw := hw.2 c9
      subst hQQ
      obtain ⟨sa, hsa⟩ := hXW0.2.2.1 (RX0, 127, "owners are 0 .. 7") (by decide +kernel)
      exact vx_throwS (own := RX0) (cls := "java/lang/IllegalArgumentException") (names := ["java/lang/RuntimeException", "java/lang/Exception"]) hx hb hl9 hown (by decide +kernel) (by decide +kernel) (hbg _ kw_45) (hbg _ kw_46) hsa (vx_hat (L := vx_atS RX0 56 "java/lang/IllegalArgumentException" ["java/lang/RuntimeException", "java/lang/Exception"]) (B := [.castable "java/lang/IllegalArgumentException" "java/lang/IllegalArgumentException", .declares ⟨"java/lang/RuntimeException", "<init>", "(Ljava/lang/String;)V"⟩, .declares ⟨"java/lang/Exception", "<init>", "(Ljava/lang/String;)V"⟩, .declares ⟨"java/lang/Throwable", "<init>", "(Ljava/lang/String;)V"⟩]) (fun w hw => hbg w (xa_RX0_56 w hw)) (by decide +kernel) (vx_c (va_Nw.use rfl (hXW0.1 "java/lang/IllegalArgumentException" (by decide))) (vx_c (va_Nw.use rfl (hXW0.2.1 "java/lang/RuntimeException" (by decide))) (vx_c (va_Nw.use rfl (hXW0.2.1 "java/lang/Exception" (by decide))) (vx_c (va_Nw.use rfl (hXW0.2.1 "java/lang/Throwable" (by decide))) (vx_n)))))) (by decide +kernel) hXW0.2.2.2.2.1 hXW0.2.2.2.2.2 hS (hl.1.trans hml.symm) dX0_requireOwner_10 dX0_requireOwner_13 dX0_requireOwner_14 dX0_requireOwner_16 dX0_requireOwner_19 (fun x hx => (hEx x hx).elim) (Nat.le_of_ble_eq_true rfl) (Nat.le_of_ble_eq_true rfl) (Nat.le_of_ble_eq_true rfl) (Nat.le_of_ble_eq_true rfl) hlocks (fun t ha hsz hk => ⟨("java/lang/IllegalArgumentException", (A_ring, A_buffer, A_firstPlace, A_forcedPlace, A_endPlace, A_wordsToFailure, A_opened)), hw, ⟨rfl, hP.kept (fun k q hq => hk q.1 (hP k q hq).lt), va_K.moved ha hK, hD⟩, Nat.le_trans hS.1 hsz, fun q h1 h2 => (hk q (Nat.lt_of_lt_of_le h1 hS.1)).trans (hS.2.1 q h1 h2)⟩) hS.2.2 (Nat.le_of_ble_eq_true rfl) (Nat.le_of_ble_eq_true rfl)
end
section
def wp_X0_append (post : Int32 → St_A → Prop) (px : String → St_A → Prop) (x1 : Int32) (x2 : Int32) (x3 : Int32) (x4 : Int32) (A_ring : Nat → Int32) (A_buffer : Nat → Int32) (A_firstPlace : Int32) (A_forcedPlace : Int32) (A_endPlace : Int32) (A_wordsToFailure : Int32) (A_opened : Int32) : Prop :=
  wp_X0_requireOpen (fun u_1 => match u_1 with | (A_ring_1, A_buffer_1, A_firstPlace_1, A_forcedPlace_1, A_endPlace_1, A_wordsToFailure_1, A_opened_1) => wp_X0_requireOwner (fun u_2 => match u_2 with | (A_ring_2, A_buffer_2, A_firstPlace_2, A_forcedPlace_2, A_endPlace_2, A_wordsToFailure_2, A_opened_2) => ((x1 < (0 : Int32) → px "java/lang/IllegalArgumentException" (A_ring_2, A_buffer_2, A_firstPlace_2, A_forcedPlace_2, A_endPlace_2, A_wordsToFailure_2, A_opened_2)) ∧ (¬ x1 < (0 : Int32) → ((x1 < (16 : Int32) → ((x4 < (0 : Int32) → px "java/lang/IllegalArgumentException" (A_ring_2, A_buffer_2, A_firstPlace_2, A_forcedPlace_2, A_endPlace_2, A_wordsToFailure_2, A_opened_2)) ∧ (¬ x4 < (0 : Int32) → ((x4 ≤ (200 : Int32) → ((x3 < (-1 : Int32) → px "java/lang/IllegalArgumentException" (A_ring_2, A_buffer_2, A_firstPlace_2, A_forcedPlace_2, A_endPlace_2, A_wordsToFailure_2, A_opened_2)) ∧ (¬ x3 < (-1 : Int32) → ((x3 < A_endPlace_2 → (((x4 + (5 : Int32)) ≤ ((65536 : Int32) - (A_endPlace_2 - A_firstPlace_2)) → wp_X0_lastRecordOf (fun r_3 => wp_X0_addWord (fun u_4 => match u_4 with | (A_ring_4, A_buffer_4, A_firstPlace_4, A_forcedPlace_4, A_endPlace_4, A_wordsToFailure_4, A_opened_4) => wp_X0_addWord (fun u_5 => match u_5 with | (A_ring_5, A_buffer_5, A_firstPlace_5, A_forcedPlace_5, A_endPlace_5, A_wordsToFailure_5, A_opened_5) => wp_X0_addWord (fun u_6 => match u_6 with | (A_ring_6, A_buffer_6, A_firstPlace_6, A_forcedPlace_6, A_endPlace_6, A_wordsToFailure_6, A_opened_6) => wp_X0_addWord (fun u_7 => match u_7 with | (A_ring_7, A_buffer_7, A_firstPlace_7, A_forcedPlace_7, A_endPlace_7, A_wordsToFailure_7, A_opened_7) => wp_X0_addContent (fun u_8 => match u_8 with | (A_ring_8, A_buffer_8, A_firstPlace_8, A_forcedPlace_8, A_endPlace_8, A_wordsToFailure_8, A_opened_8) => wp_X0_addWord (fun u_9 => match u_9 with | (A_ring_9, A_buffer_9, A_firstPlace_9, A_forcedPlace_9, A_endPlace_9, A_wordsToFailure_9, A_opened_9) => post A_endPlace_2 (A_ring_9, A_buffer_9, A_firstPlace_9, A_forcedPlace_9, A_endPlace_9, A_wordsToFailure_9, A_opened_9)) (x4 + (5 : Int32)) A_ring_8 A_buffer_8 A_firstPlace_8 A_forcedPlace_8 A_endPlace_8 A_wordsToFailure_8 A_opened_8) x4 A_ring_7 A_buffer_7 A_firstPlace_7 A_forcedPlace_7 A_endPlace_7 A_wordsToFailure_7 A_opened_7) x3 A_ring_6 A_buffer_6 A_firstPlace_6 A_forcedPlace_6 A_endPlace_6 A_wordsToFailure_6 A_opened_6) r_3 A_ring_5 A_buffer_5 A_firstPlace_5 A_forcedPlace_5 A_endPlace_5 A_wordsToFailure_5 A_opened_5) (x1 + ((16 : Int32) * x2)) A_ring_4 A_buffer_4 A_firstPlace_4 A_forcedPlace_4 A_endPlace_4 A_wordsToFailure_4 A_opened_4) (x4 + (5 : Int32)) A_ring_2 A_buffer_2 A_firstPlace_2 A_forcedPlace_2 A_endPlace_2 A_wordsToFailure_2 A_opened_2) x2 A_ring_2 A_buffer_2 A_firstPlace_2 A_forcedPlace_2 A_endPlace_2 A_wordsToFailure_2 A_opened_2) ∧ (¬ (x4 + (5 : Int32)) ≤ ((65536 : Int32) - (A_endPlace_2 - A_firstPlace_2)) → post (-1 : Int32) (A_ring_2, A_buffer_2, A_firstPlace_2, A_forcedPlace_2, A_endPlace_2, A_wordsToFailure_2, A_opened_2)))) ∧ (¬ x3 < A_endPlace_2 → px "java/lang/IllegalArgumentException" (A_ring_2, A_buffer_2, A_firstPlace_2, A_forcedPlace_2, A_endPlace_2, A_wordsToFailure_2, A_opened_2)))))) ∧ (¬ x4 ≤ (200 : Int32) → px "java/lang/IllegalArgumentException" (A_ring_2, A_buffer_2, A_firstPlace_2, A_forcedPlace_2, A_endPlace_2, A_wordsToFailure_2, A_opened_2)))))) ∧ (¬ x1 < (16 : Int32) → px "java/lang/IllegalArgumentException" (A_ring_2, A_buffer_2, A_firstPlace_2, A_forcedPlace_2, A_endPlace_2, A_wordsToFailure_2, A_opened_2)))))) px x2 A_ring_1 A_buffer_1 A_firstPlace_1 A_forcedPlace_1 A_endPlace_1 A_wordsToFailure_1 A_opened_1) px A_ring A_buffer A_firstPlace A_forcedPlace A_endPlace A_wordsToFailure A_opened
set_option maxHeartbeats 4000000 in
set_option maxRecDepth 100000 in
theorem met_X0_append (l : Launch) (hl9 : l.stackTraces = false) (dC : Nat → ClassId) (dI : Nat → Nat → Nat) (qA qA_ring qA_buffer : Nat) (cA_ring cA_buffer : ClassId) (sz : Nat) (A_ring : Nat → Int32) (A_buffer : Nat → Int32) (A_firstPlace : Int32) (A_forcedPlace : Int32) (A_endPlace : Int32) (A_wordsToFailure : Int32) (A_opened : Int32) (x1 : Int32) (x2 : Int32) (x3 : Int32) (x4 : Int32) (post : Int32 → St_A → Prop) (px : String → St_A → Prop) (hw : wp_X0_append post px x1 x2 x3 x4 A_ring A_buffer A_firstPlace A_forcedPlace A_endPlace A_wordsToFailure A_opened) :
    vx_Met l yX0_append wsX0_append ({ frames := 7, cells := 3, slots := 18, locals := 117 } : Room) (pcX_A dC dI qA qA_ring qA_buffer cA_ring cA_buffer sz A_ring A_buffer A_firstPlace A_forcedPlace A_endPlace A_wordsToFailure A_opened [.ref qA, .int x1, .int x2, .int x3, .int x4]) (va_Qi post (at_A dC dI (va_A [(qA, .inr (0, [.ref qA_ring, .ref qA_buffer, .int A_firstPlace, .int A_forcedPlace, .int A_endPlace, .int A_wordsToFailure, .int A_opened])), (qA_ring, .inl (cA_ring, 65536, .inl A_ring)), (qA_buffer, .inl (cA_buffer, 200, .inl A_buffer))] sz) qA qA_ring qA_buffer cA_ring cA_buffer) (va_A [(qA, .inr (0, [.ref qA_ring, .ref qA_buffer, .int A_firstPlace, .int A_forcedPlace, .int A_endPlace, .int A_wordsToFailure, .int A_opened])), (qA_ring, .inl (cA_ring, 65536, .inl A_ring)), (qA_buffer, .inl (cA_buffer, 200, .inl A_buffer))] sz)) (vx_X (fun u => px u.1 u.2) (atx_A dC dI (va_A [(qA, .inr (0, [.ref qA_ring, .ref qA_buffer, .int A_firstPlace, .int A_forcedPlace, .int A_endPlace, .int A_wordsToFailure, .int A_opened])), (qA_ring, .inl (cA_ring, 65536, .inl A_ring)), (qA_buffer, .inl (cA_buffer, 200, .inl A_buffer))] sz) qA qA_ring qA_buffer cA_ring cA_buffer) (va_A [(qA, .inr (0, [.ref qA_ring, .ref qA_buffer, .int A_firstPlace, .int A_forcedPlace, .int A_endPlace, .int A_wordsToFailure, .int A_opened])), (qA_ring, .inl (cA_ring, 65536, .inl A_ring)), (qA_buffer, .inl (cA_buffer, 200, .inl A_buffer))] sz)) 3 18 (va_A [(qA, .inr (0, [.ref qA_ring, .ref qA_buffer, .int A_firstPlace, .int A_forcedPlace, .int A_endPlace, .int A_wordsToFailure, .int A_opened])), (qA_ring, .inl (cA_ring, 65536, .inl A_ring)), (qA_buffer, .inl (cA_buffer, 200, .inl A_buffer))] sz) := by
  refine vx_ofW (cc := cX0_append) (maxL := 8) (ret := (some .int)) (by decide) rfl ?_
  intro p e s m args below meth c s₁ B hml hEx hv
  obtain ⟨hav, hsz, hP, hK, hD0, hXW0⟩ := hv
  have hx := B.exec
  have hb := B.bytes
  have hr := B.returns
  have hts := atoms_spec (ws := wsX0_append) B.pre
  have hbg : ∀ w ∈ bigW, w.before args s = true := fun w h => hts w (List.mem_cons_of_mem _ h)
  have hown : s.vm.findClass RX0 = some m.cls := findClass_of_methodNamed B.named
  have hlocks := B.notSynchronized
  subst hsz
  have hD := hD0.self (sz := s.heap.size)
  generalize hAe : va_A [(qA, .inr (0, [.ref qA_ring, .ref qA_buffer, .int A_firstPlace, .int A_forcedPlace, .int A_endPlace, .int A_wordsToFailure, .int A_opened])), (qA_ring, .inl (cA_ring, 65536, .inl A_ring)), (qA_buffer, .inl (cA_buffer, 200, .inl A_buffer))] s.heap.size = A at hD hXW0 ⊢
  have hA : ∀ q : Nat, s.heap.size ≤ q → A q := fun q h => by rw [← hAe]; exact Or.inr h
  have hS : va_S A s.heap s.heap [] := va_S.rf
  have hP : va_P (dC, dI) vwCl [(qA, .inr (0, [.ref qA_ring, .ref qA_buffer, .int A_firstPlace, .int A_forcedPlace, .int A_endPlace, .int A_wordsToFailure, .int A_opened])), (qA_ring, .inl (cA_ring, 65536, .inl A_ring)), (qA_buffer, .inl (cA_buffer, 200, .inl A_buffer))] s.heap := hP
  generalize hQQ : vx_MQ below (va_Qi post (at_A dC dI A qA qA_ring qA_buffer cA_ring cA_buffer) A) (vx_X (fun u => px u.1 u.2) (atx_A dC dI A qA qA_ring qA_buffer cA_ring cA_buffer) A) args s 3 18 A = QQ
  have hl := lv_entry ([.ref qA, .int x1, .int x2, .int x3, .int x4]) (n := 8) (Nat.le_of_ble_eq_true rfl)
  rw [show entryFrame m args 8 = entryFrame m ([.ref qA, .int x1, .int x2, .int x3, .int x4] : List Value).toArray 8 by rw [hav], lg_entry_eq]
  generalize (lg_sl ([.ref qA, .int x1, .int x2, .int x3, .int x4]) ++ List.replicate (8 - (lg_sl ([.ref qA, .int x1, .int x2, .int x3, .int x4])).length) Slot.unset).toArray = ls at hl ⊢
  have hl : lv_has ls 8 [(0, .ref qA), (1, .int x1), (2, .int x2), (3, .int x3), (4, .int x4)] := hl
  unfold wp_X0_append at hw
  refine lv_aload_n hx hb dX0_append_0 rfl (lv_at hl 0 rfl) ?_
  have hFc := va_free (wc := [(qA, .inr (0, [.ref qA_ring, .ref qA_buffer, .int A_firstPlace, .int A_forcedPlace, .int A_endPlace, .int A_wordsToFailure, .int A_opened])), (qA_ring, .inl (cA_ring, 65536, .inl A_ring)), (qA_buffer, .inl (cA_buffer, 200, .inl A_buffer))]) hD hS hA [0, 1, 2] rfl
  refine vx_callv (vx_runV (As := []) (rest := []) ⟨hx, hb, hml, hown, hbg⟩ (met_X0_requireOpen l hl9 dC dI qA qA_ring qA_buffer cA_ring cA_buffer s.heap.size A_ring A_buffer A_firstPlace A_forcedPlace A_endPlace A_wordsToFailure A_opened  _ _ hw) (cwV 0 hbg g_RX0_34 rfl rfl rfl (by decide +kernel) ⟨Nat.le_of_ble_eq_true rfl, Nat.le_of_ble_eq_true rfl⟩) ⟨pcX_A_b _ _ _ _ _ _ _ _ _ _ _ _ _ _ _ _, va_recv hK hP (ci := 0) (q0 := 0) rfl rfl, fun U hU hW => ⟨rfl, by rw [hU], by rw [hU]; exact hP, va_K.moved hW.alike hK, hD.weaken (fun _ _ _ _ => trivial), XW.go hXW0 hS hFc hU hW⟩⟩ rfl rfl hl.1 rfl (lv_room (Nat.le_of_ble_eq_true rfl)) dX0_append_1 ⟨Nat.le_of_ble_eq_true rfl, Nat.le_of_ble_eq_true rfl⟩) hS (fun q _ h => hFc q h) hFc (fun q _ h => hFc q h) (fun E9 ce9 q9 u9 t9 H_1 locs ht hvm hpx hBX hz1 hk1 hS hce hcv hcl => ?_) (fun u_1 t_1 H_1 locs ht hvm hw hB hz1 hk1 hS => ?_)
  · obtain ⟨E8, A_ring_x1, A_buffer_x1, A_firstPlace_x1, A_forcedPlace_x1, A_endPlace_x1, A_wordsToFailure_x1, A_opened_x1⟩ := u9
    obtain ⟨rfl, hP1, hK1, hD1⟩ := hBX
    rw [ht] at hP1
    have hP : va_P (dC, dI) vwCl [(qA, .inr (0, [.ref qA_ring, .ref qA_buffer, .int A_firstPlace_x1, .int A_forcedPlace_x1, .int A_endPlace_x1, .int A_wordsToFailure_x1, .int A_opened_x1])), (qA_ring, .inl (cA_ring, 65536, .inl A_ring_x1)), (qA_buffer, .inl (cA_buffer, 200, .inl A_buffer_x1))] H_1 := hP1
    have hD : va_D A [(qA, .inr (0, [.ref qA_ring, .ref qA_buffer, .int A_firstPlace_x1, .int A_forcedPlace_x1, .int A_endPlace_x1, .int A_wordsToFailure_x1, .int A_opened_x1])), (qA_ring, .inl (cA_ring, 65536, .inl A_ring_x1)), (qA_buffer, .inl (cA_buffer, 200, .inl A_buffer_x1))] := hD1.weaken (fun _ _ _ h => hFc _ h)
    subst hQQ
    exact vx_out (fun x hx => (hEx x hx).elim) hlocks hce hcv hcl (fun t ht ha => ⟨(E9, (A_ring_x1, A_buffer_x1, A_firstPlace_x1, A_forcedPlace_x1, A_endPlace_x1, A_wordsToFailure_x1, A_opened_x1)), hpx, ⟨rfl, by rw [ht]; exact hP, va_K.moved ha hK, hD⟩, hS.F ht⟩) hS.2.2 (Nat.le_of_ble_eq_true rfl) (Nat.le_of_ble_eq_true rfl)
  · obtain ⟨A_ring_1, A_buffer_1, A_firstPlace_1, A_forcedPlace_1, A_endPlace_1, A_wordsToFailure_1, A_opened_1⟩ := u_1
    obtain ⟨hP1, hK1, hD1⟩ := hB
    rw [ht] at hP1
    try dsimp only at hw
    have hP : va_P (dC, dI) vwCl [(qA, .inr (0, [.ref qA_ring, .ref qA_buffer, .int A_firstPlace_1, .int A_forcedPlace_1, .int A_endPlace_1, .int A_wordsToFailure_1, .int A_opened_1])), (qA_ring, .inl (cA_ring, 65536, .inl A_ring_1)), (qA_buffer, .inl (cA_buffer, 200, .inl A_buffer_1))] H_1 := hP1
    have hD : va_D A [(qA, .inr (0, [.ref qA_ring, .ref qA_buffer, .int A_firstPlace_1, .int A_forcedPlace_1, .int A_endPlace_1, .int A_wordsToFailure_1, .int A_opened_1])), (qA_ring, .inl (cA_ring, 65536, .inl A_ring_1)), (qA_buffer, .inl (cA_buffer, 200, .inl A_buffer_1))] := hD1.weaken (fun _ _ _ h => hFc _ h)
    refine W.widen (k := 1) (n := 6) (Nat.le_of_ble_eq_true rfl) (Nat.le_of_ble_eq_true rfl) ?_
    refine lv_aload_n hx hb dX0_append_4 rfl (lv_at hl 0 rfl) ?_
    refine lv_iload_n hx hb dX0_append_5 rfl (lv_at hl 2 rfl) ?_
    have hFc := va_free (wc := [(qA, .inr (0, [.ref qA_ring, .ref qA_buffer, .int A_firstPlace_1, .int A_forcedPlace_1, .int A_endPlace_1, .int A_wordsToFailure_1, .int A_opened_1])), (qA_ring, .inl (cA_ring, 65536, .inl A_ring_1)), (qA_buffer, .inl (cA_buffer, 200, .inl A_buffer_1))]) hD hS hA [0, 1, 2] rfl
    refine vx_callv (vx_runV (As := [.int x2]) (rest := []) ⟨hx, hb, hml, hown, hbg⟩ (met_X0_requireOwner l hl9 dC dI qA qA_ring qA_buffer cA_ring cA_buffer H_1.size A_ring_1 A_buffer_1 A_firstPlace_1 A_forcedPlace_1 A_endPlace_1 A_wordsToFailure_1 A_opened_1 x2 _ _ hw) (cwV 1 hbg g_RX0_48 rfl rfl rfl (by decide +kernel) ⟨Nat.le_of_ble_eq_true rfl, Nat.le_of_ble_eq_true rfl⟩) ⟨pcX_A_b _ _ _ _ _ _ _ _ _ _ _ _ _ _ _ _, va_recv hK hP (ci := 0) (q0 := 0) rfl rfl, fun U hU hW => ⟨rfl, by rw [hU], by rw [hU]; exact hP, va_K.moved hW.alike hK, hD.weaken (fun _ _ _ _ => trivial), XW.go hXW0 hS hFc hU hW⟩⟩ rfl rfl hl.1 rfl (lv_room (Nat.le_of_ble_eq_true rfl)) dX0_append_6 ⟨Nat.le_of_ble_eq_true rfl, Nat.le_of_ble_eq_true rfl⟩) hS (fun q _ h => hFc q h) hFc (fun q _ h => hFc q h) (fun E9 ce9 q9 u9 t9 H_2 locs ht hvm hpx hBX hz1 hk1 hS hce hcv hcl => ?_) (fun u_2 t_2 H_2 locs ht hvm hw hB hz1 hk1 hS => ?_)
    · obtain ⟨E8, A_ring_x2, A_buffer_x2, A_firstPlace_x2, A_forcedPlace_x2, A_endPlace_x2, A_wordsToFailure_x2, A_opened_x2⟩ := u9
      obtain ⟨rfl, hP1, hK1, hD1⟩ := hBX
      rw [ht] at hP1
      have hP : va_P (dC, dI) vwCl [(qA, .inr (0, [.ref qA_ring, .ref qA_buffer, .int A_firstPlace_x2, .int A_forcedPlace_x2, .int A_endPlace_x2, .int A_wordsToFailure_x2, .int A_opened_x2])), (qA_ring, .inl (cA_ring, 65536, .inl A_ring_x2)), (qA_buffer, .inl (cA_buffer, 200, .inl A_buffer_x2))] H_2 := hP1
      have hD : va_D A [(qA, .inr (0, [.ref qA_ring, .ref qA_buffer, .int A_firstPlace_x2, .int A_forcedPlace_x2, .int A_endPlace_x2, .int A_wordsToFailure_x2, .int A_opened_x2])), (qA_ring, .inl (cA_ring, 65536, .inl A_ring_x2)), (qA_buffer, .inl (cA_buffer, 200, .inl A_buffer_x2))] := hD1.weaken (fun _ _ _ h => hFc _ h)
      subst hQQ
      exact vx_out (fun x hx => (hEx x hx).elim) hlocks hce hcv hcl (fun t ht ha => ⟨(E9, (A_ring_x2, A_buffer_x2, A_firstPlace_x2, A_forcedPlace_x2, A_endPlace_x2, A_wordsToFailure_x2, A_opened_x2)), hpx, ⟨rfl, by rw [ht]; exact hP, va_K.moved ha hK, hD⟩, hS.F ht⟩) hS.2.2 (Nat.le_of_ble_eq_true rfl) (Nat.le_of_ble_eq_true rfl)
    · obtain ⟨A_ring_2, A_buffer_2, A_firstPlace_2, A_forcedPlace_2, A_endPlace_2, A_wordsToFailure_2, A_opened_2⟩ := u_2
      obtain ⟨hP1, hK1, hD1⟩ := hB
      rw [ht] at hP1
      try dsimp only at hw
      have hP : va_P (dC, dI) vwCl [(qA, .inr (0, [.ref qA_ring, .ref qA_buffer, .int A_firstPlace_2, .int A_forcedPlace_2, .int A_endPlace_2, .int A_wordsToFailure_2, .int A_opened_2])), (qA_ring, .inl (cA_ring, 65536, .inl A_ring_2)), (qA_buffer, .inl (cA_buffer, 200, .inl A_buffer_2))] H_2 := hP1
      have hD : va_D A [(qA, .inr (0, [.ref qA_ring, .ref qA_buffer, .int A_firstPlace_2, .int A_forcedPlace_2, .int A_endPlace_2, .int A_wordsToFailure_2, .int A_opened_2])), (qA_ring, .inl (cA_ring, 65536, .inl A_ring_2)), (qA_buffer, .inl (cA_buffer, 200, .inl A_buffer_2))] := hD1.weaken (fun _ _ _ h => hFc _ h)
      refine W.widen (k := 2) (n := 12) (Nat.le_of_ble_eq_true rfl) (Nat.le_of_ble_eq_true rfl) ?_
      refine lv_iload_n hx hb dX0_append_9 rfl (lv_at hl 1 rfl) ?_
      refine lv_if_lt (tgt := 19) hx hb dX0_append_10 (by decide) (fun c9 => ?_) (fun c9 => ?_)
      · have hw := hw.1 c9
        subst hQQ
        obtain ⟨sa, hsa⟩ := hXW0.2.2.1 (RX0, 54, "kinds are 0 .. 15") (by decide +kernel)
        exact vx_throwS (own := RX0) (cls := "java/lang/IllegalArgumentException") (names := ["java/lang/RuntimeException", "java/lang/Exception"]) hx hb hl9 hown (by decide +kernel) (by decide +kernel) (hbg _ kw_45) (hbg _ kw_46) hsa (vx_hat (L := vx_atS RX0 56 "java/lang/IllegalArgumentException" ["java/lang/RuntimeException", "java/lang/Exception"]) (B := [.castable "java/lang/IllegalArgumentException" "java/lang/IllegalArgumentException", .declares ⟨"java/lang/RuntimeException", "<init>", "(Ljava/lang/String;)V"⟩, .declares ⟨"java/lang/Exception", "<init>", "(Ljava/lang/String;)V"⟩, .declares ⟨"java/lang/Throwable", "<init>", "(Ljava/lang/String;)V"⟩]) (fun w hw => hbg w (xa_RX0_56 w hw)) (by decide +kernel) (vx_c (va_Nw.use rfl (hXW0.1 "java/lang/IllegalArgumentException" (by decide))) (vx_c (va_Nw.use rfl (hXW0.2.1 "java/lang/RuntimeException" (by decide))) (vx_c (va_Nw.use rfl (hXW0.2.1 "java/lang/Exception" (by decide))) (vx_c (va_Nw.use rfl (hXW0.2.1 "java/lang/Throwable" (by decide))) (vx_n)))))) (by decide +kernel) hXW0.2.2.2.2.1 hXW0.2.2.2.2.2 hS (hl.1.trans hml.symm) dX0_append_19 dX0_append_22 dX0_append_23 dX0_append_25 dX0_append_28 (fun x hx => (hEx x hx).elim) (Nat.le_of_ble_eq_true rfl) (Nat.le_of_ble_eq_true rfl) (Nat.le_of_ble_eq_true rfl) (Nat.le_of_ble_eq_true rfl) hlocks (fun t ha hsz hk => ⟨("java/lang/IllegalArgumentException", (A_ring_2, A_buffer_2, A_firstPlace_2, A_forcedPlace_2, A_endPlace_2, A_wordsToFailure_2, A_opened_2)), hw, ⟨rfl, hP.kept (fun k q hq => hk q.1 (hP k q hq).lt), va_K.moved ha hK, hD⟩, Nat.le_trans hS.1 hsz, fun q h1 h2 => (hk q (Nat.lt_of_lt_of_le h1 hS.1)).trans (hS.2.1 q h1 h2)⟩) hS.2.2 (Nat.le_of_ble_eq_true rfl) (Nat.le_of_ble_eq_true rfl)
      · have hw := hw.2 c9
        refine lv_iload_n hx hb dX0_append_13 rfl (lv_at hl 1 rfl) ?_
        refine lv_bipush (v := (16 : Int32)) hx hb dX0_append_14 (by decide) ?_
        refine lv_icmp_lt (tgt := 29) hx hb dX0_append_16 (by decide) (fun c9 => ?_) (fun c9 => ?_)
        · have hw := hw.1 c9
          refine lv_iload hx hb dX0_append_29 (lv_at hl 4 rfl) ?_
          refine lv_if_lt (tgt := 42) hx hb dX0_append_31 (by decide) (fun c9 => ?_) (fun c9 => ?_)
          · have hw := hw.1 c9
            subst hQQ
            obtain ⟨sa, hsa⟩ := hXW0.2.2.1 (RX0, 57, "a content has 0 .. 200 words") (by decide +kernel)
            exact vx_throwS (own := RX0) (cls := "java/lang/IllegalArgumentException") (names := ["java/lang/RuntimeException", "java/lang/Exception"]) hx hb hl9 hown (by decide +kernel) (by decide +kernel) (hbg _ kw_45) (hbg _ kw_46) hsa (vx_hat (L := vx_atS RX0 56 "java/lang/IllegalArgumentException" ["java/lang/RuntimeException", "java/lang/Exception"]) (B := [.castable "java/lang/IllegalArgumentException" "java/lang/IllegalArgumentException", .declares ⟨"java/lang/RuntimeException", "<init>", "(Ljava/lang/String;)V"⟩, .declares ⟨"java/lang/Exception", "<init>", "(Ljava/lang/String;)V"⟩, .declares ⟨"java/lang/Throwable", "<init>", "(Ljava/lang/String;)V"⟩]) (fun w hw => hbg w (xa_RX0_56 w hw)) (by decide +kernel) (vx_c (va_Nw.use rfl (hXW0.1 "java/lang/IllegalArgumentException" (by decide))) (vx_c (va_Nw.use rfl (hXW0.2.1 "java/lang/RuntimeException" (by decide))) (vx_c (va_Nw.use rfl (hXW0.2.1 "java/lang/Exception" (by decide))) (vx_c (va_Nw.use rfl (hXW0.2.1 "java/lang/Throwable" (by decide))) (vx_n)))))) (by decide +kernel) hXW0.2.2.2.2.1 hXW0.2.2.2.2.2 hS (hl.1.trans hml.symm) dX0_append_42 dX0_append_45 dX0_append_46 dX0_append_48 dX0_append_51 (fun x hx => (hEx x hx).elim) (Nat.le_of_ble_eq_true rfl) (Nat.le_of_ble_eq_true rfl) (Nat.le_of_ble_eq_true rfl) (Nat.le_of_ble_eq_true rfl) hlocks (fun t ha hsz hk => ⟨("java/lang/IllegalArgumentException", (A_ring_2, A_buffer_2, A_firstPlace_2, A_forcedPlace_2, A_endPlace_2, A_wordsToFailure_2, A_opened_2)), hw, ⟨rfl, hP.kept (fun k q hq => hk q.1 (hP k q hq).lt), va_K.moved ha hK, hD⟩, Nat.le_trans hS.1 hsz, fun q h1 h2 => (hk q (Nat.lt_of_lt_of_le h1 hS.1)).trans (hS.2.1 q h1 h2)⟩) hS.2.2 (Nat.le_of_ble_eq_true rfl) (Nat.le_of_ble_eq_true rfl)
          · have hw := hw.2 c9
            refine lv_iload hx hb dX0_append_34 (lv_at hl 4 rfl) ?_
            refine lv_sipush (v := (200 : Int32)) hx hb dX0_append_36 (by decide) ?_
            refine lv_icmp_le (tgt := 52) hx hb dX0_append_39 (by decide) (fun c9 => ?_) (fun c9 => ?_)
            · have hw := hw.1 c9
              refine lv_iload_n hx hb dX0_append_52 rfl (lv_at hl 3 rfl) ?_
              refine lv_iconst (v := (-1 : Int32)) hx hb dX0_append_53 (by decide) ?_
              refine lv_icmp_lt (tgt := 65) hx hb dX0_append_54 (by decide) (fun c9 => ?_) (fun c9 => ?_)
              · have hw := hw.1 c9
                subst hQQ
                obtain ⟨sa, hsa⟩ := hXW0.2.2.1 (RX0, 59, "a link is NONE or a place before the end") (by decide +kernel)
                exact vx_throwS (own := RX0) (cls := "java/lang/IllegalArgumentException") (names := ["java/lang/RuntimeException", "java/lang/Exception"]) hx hb hl9 hown (by decide +kernel) (by decide +kernel) (hbg _ kw_45) (hbg _ kw_46) hsa (vx_hat (L := vx_atS RX0 56 "java/lang/IllegalArgumentException" ["java/lang/RuntimeException", "java/lang/Exception"]) (B := [.castable "java/lang/IllegalArgumentException" "java/lang/IllegalArgumentException", .declares ⟨"java/lang/RuntimeException", "<init>", "(Ljava/lang/String;)V"⟩, .declares ⟨"java/lang/Exception", "<init>", "(Ljava/lang/String;)V"⟩, .declares ⟨"java/lang/Throwable", "<init>", "(Ljava/lang/String;)V"⟩]) (fun w hw => hbg w (xa_RX0_56 w hw)) (by decide +kernel) (vx_c (va_Nw.use rfl (hXW0.1 "java/lang/IllegalArgumentException" (by decide))) (vx_c (va_Nw.use rfl (hXW0.2.1 "java/lang/RuntimeException" (by decide))) (vx_c (va_Nw.use rfl (hXW0.2.1 "java/lang/Exception" (by decide))) (vx_c (va_Nw.use rfl (hXW0.2.1 "java/lang/Throwable" (by decide))) (vx_n)))))) (by decide +kernel) hXW0.2.2.2.2.1 hXW0.2.2.2.2.2 hS (hl.1.trans hml.symm) dX0_append_65 dX0_append_68 dX0_append_69 dX0_append_71 dX0_append_74 (fun x hx => (hEx x hx).elim) (Nat.le_of_ble_eq_true rfl) (Nat.le_of_ble_eq_true rfl) (Nat.le_of_ble_eq_true rfl) (Nat.le_of_ble_eq_true rfl) hlocks (fun t ha hsz hk => ⟨("java/lang/IllegalArgumentException", (A_ring_2, A_buffer_2, A_firstPlace_2, A_forcedPlace_2, A_endPlace_2, A_wordsToFailure_2, A_opened_2)), hw, ⟨rfl, hP.kept (fun k q hq => hk q.1 (hP k q hq).lt), va_K.moved ha hK, hD⟩, Nat.le_trans hS.1 hsz, fun q h1 h2 => (hk q (Nat.lt_of_lt_of_le h1 hS.1)).trans (hS.2.1 q h1 h2)⟩) hS.2.2 (Nat.le_of_ble_eq_true rfl) (Nat.le_of_ble_eq_true rfl)
              · have hw := hw.2 c9
                refine lv_iload_n hx hb dX0_append_57 rfl (lv_at hl 3 rfl) ?_
                refine lv_aload_n hx hb dX0_append_58 rfl (lv_at hl 0 rfl) ?_
                refine va_get (D := (dC, dI)) (ci := 0) (v := .int A_endPlace_2) (C := RX0) (T := TX0) (N := 7) hx hb hbg in_X0 hown hK hP 0 rfl rfl 4 (by decide) (hbg _ kw_12) (fun _ h9 => h9) rfl dX0_append_59 ?_
                refine lv_icmp_lt (tgt := 75) hx hb dX0_append_62 (by decide) (fun c9 => ?_) (fun c9 => ?_)
                · have hw := hw.1 c9
                  refine lv_iload hx hb dX0_append_75 (lv_at hl 4 rfl) ?_
                  refine lv_iconst (v := (5 : Int32)) hx hb dX0_append_77 (by decide) ?_
                  refine lv_iadd hx hb dX0_append_78 ?_
                  refine lv_istore (lv' := [(5, .int (x4 + (5 : Int32))), (0, .ref qA), (1, .int x1), (2, .int x2), (3, .int x3), (4, .int x4)]) hx hb dX0_append_79 hl (by decide) rfl (fun ls hl => ?_)
                  refine lv_iload hx hb dX0_append_81 (lv_at hl 0 rfl) ?_
                  refine lv_ldc (v := (65536 : Int32)) hx hb hown (hbg _ kw_55) dX0_append_83 ?_
                  refine lv_aload_n hx hb dX0_append_85 rfl (lv_at hl 1 rfl) ?_
                  refine va_get (D := (dC, dI)) (ci := 0) (v := .int A_endPlace_2) (C := RX0) (T := TX0) (N := 7) hx hb hbg in_X0 hown hK hP 0 rfl rfl 4 (by decide) (hbg _ kw_12) (fun _ h9 => h9) rfl dX0_append_86 ?_
                  refine lv_aload_n hx hb dX0_append_89 rfl (lv_at hl 1 rfl) ?_
                  refine va_get (D := (dC, dI)) (ci := 0) (v := .int A_firstPlace_2) (C := RX0) (T := TX0) (N := 7) hx hb hbg in_X0 hown hK hP 0 rfl rfl 2 (by decide) (hbg _ kw_2) (fun _ h9 => h9) rfl dX0_append_90 ?_
                  refine lv_isub hx hb dX0_append_93 ?_
                  refine lv_isub hx hb dX0_append_94 ?_
                  refine lv_icmp_le (tgt := 100) hx hb dX0_append_95 (by decide) (fun c9 => ?_) (fun c9 => ?_)
                  · have hw := hw.1 c9
                    refine lv_aload_n hx hb dX0_append_100 rfl (lv_at hl 1 rfl) ?_
                    refine va_get (D := (dC, dI)) (ci := 0) (v := .int A_endPlace_2) (C := RX0) (T := TX0) (N := 7) hx hb hbg in_X0 hown hK hP 0 rfl rfl 4 (by decide) (hbg _ kw_12) (fun _ h9 => h9) rfl dX0_append_101 ?_
                    refine lv_istore (lv' := [(6, .int A_endPlace_2), (5, .int (x4 + (5 : Int32))), (0, .ref qA), (1, .int x1), (2, .int x2), (3, .int x3), (4, .int x4)]) hx hb dX0_append_104 hl (by decide) rfl (fun ls hl => ?_)
                    refine lv_aload_n hx hb dX0_append_106 rfl (lv_at hl 2 rfl) ?_
                    refine lv_iload_n hx hb dX0_append_107 rfl (lv_at hl 4 rfl) ?_
                    refine vp_callSi (W.runV (As := [.int x2]) (rest := []) ⟨hx, hb, hml, hown, hbg⟩ (met_X0_lastRecordOf l dC dI qA qA_ring qA_buffer cA_ring cA_buffer A_ring_2 A_buffer_2 A_firstPlace_2 A_forcedPlace_2 A_endPlace_2 A_wordsToFailure_2 A_opened_2 x2 _ hw) (cwV 1 hbg g_RX0_61 rfl rfl rfl (by decide +kernel) ⟨Nat.le_of_ble_eq_true rfl, Nat.le_of_ble_eq_true rfl⟩) ⟨pcR_A_b _ _ _ _ _ _ _ _ _ _ _ _ _ _ _ , va_recv hK hP (ci := 0) (q0 := 0) rfl rfl, fun U hU hW => ⟨rfl, by rw [hU]; exact hP, va_K.moved hW.alike hK⟩⟩ rfl rfl hl.1 rfl (lv_room (Nat.le_of_ble_eq_true rfl)) dX0_append_108 ⟨Nat.le_of_ble_eq_true rfl, Nat.le_of_ble_eq_true rfl⟩) (fun r_3 hw => ?_)
                    try dsimp only at hw
                    refine lv_istore (lv' := [(7, .int r_3), (6, .int A_endPlace_2), (5, .int (x4 + (5 : Int32))), (0, .ref qA), (1, .int x1), (2, .int x2), (3, .int x3), (4, .int x4)]) hx hb dX0_append_111 hl (by decide) rfl (fun ls hl => ?_)
                    refine lv_aload_n hx hb dX0_append_113 rfl (lv_at hl 3 rfl) ?_
                    refine lv_iload hx hb dX0_append_114 (lv_at hl 2 rfl) ?_
                    have hFc := va_free (wc := [(qA, .inr (0, [.ref qA_ring, .ref qA_buffer, .int A_firstPlace_2, .int A_forcedPlace_2, .int A_endPlace_2, .int A_wordsToFailure_2, .int A_opened_2])), (qA_ring, .inl (cA_ring, 65536, .inl A_ring_2)), (qA_buffer, .inl (cA_buffer, 200, .inl A_buffer_2))]) hD hS hA [0, 1, 2] rfl
                    refine va_callv (va_runV (As := [.int (x4 + (5 : Int32))]) (rest := []) ⟨hx, hb, hml, hown, hbg⟩ (met_X0_addWord l dC dI qA qA_ring qA_buffer cA_ring cA_buffer H_2.size A_ring_2 A_buffer_2 A_firstPlace_2 A_forcedPlace_2 A_endPlace_2 A_wordsToFailure_2 A_opened_2 (x4 + (5 : Int32)) _ hw) (cwV 1 hbg g_RX0_65 rfl rfl rfl (by decide +kernel) ⟨Nat.le_of_ble_eq_true rfl, Nat.le_of_ble_eq_true rfl⟩) ⟨pcW_A_b _ _ _ _ _ _ _ _ _ _ _ _ _ _ _ _, va_recv hK hP (ci := 0) (q0 := 0) rfl rfl, fun U hU hW => ⟨rfl, by rw [hU], by rw [hU]; exact hP, va_K.moved hW.alike hK, hD.weaken (fun _ _ _ _ => trivial)⟩⟩ rfl rfl hl.1 rfl (lv_room (Nat.le_of_ble_eq_true rfl)) dX0_append_116 ⟨Nat.le_of_ble_eq_true rfl, Nat.le_of_ble_eq_true rfl⟩) hS (fun q _ h => hFc q h) hFc (fun u_4 t_4 H_4 locs ht hvm hw hB hz1 hk1 hS => ?_)
                    obtain ⟨A_ring_4, A_buffer_4, A_firstPlace_4, A_forcedPlace_4, A_endPlace_4, A_wordsToFailure_4, A_opened_4⟩ := u_4
                    obtain ⟨hP1, hK1, hD1⟩ := hB
                    rw [ht] at hP1
                    try dsimp only at hw
                    have hP : va_P (dC, dI) vwCl [(qA, .inr (0, [.ref qA_ring, .ref qA_buffer, .int A_firstPlace_4, .int A_forcedPlace_4, .int A_endPlace_4, .int A_wordsToFailure_4, .int A_opened_4])), (qA_ring, .inl (cA_ring, 65536, .inl A_ring_4)), (qA_buffer, .inl (cA_buffer, 200, .inl A_buffer_4))] H_4 := hP1
                    have hD : va_D A [(qA, .inr (0, [.ref qA_ring, .ref qA_buffer, .int A_firstPlace_4, .int A_forcedPlace_4, .int A_endPlace_4, .int A_wordsToFailure_4, .int A_opened_4])), (qA_ring, .inl (cA_ring, 65536, .inl A_ring_4)), (qA_buffer, .inl (cA_buffer, 200, .inl A_buffer_4))] := hD1.weaken (fun _ _ _ h => hFc _ h)
                    refine lv_aload_n hx hb dX0_append_119 rfl (lv_at hl 3 rfl) ?_
                    refine lv_iload_n hx hb dX0_append_120 rfl (lv_at hl 4 rfl) ?_
                    refine lv_bipush (v := (16 : Int32)) hx hb dX0_append_121 (by decide) ?_
                    refine lv_iload_n hx hb dX0_append_123 rfl (lv_at hl 5 rfl) ?_
                    refine lv_imul hx hb dX0_append_124 ?_
                    refine lv_iadd hx hb dX0_append_125 ?_
                    have hFc := va_free (wc := [(qA, .inr (0, [.ref qA_ring, .ref qA_buffer, .int A_firstPlace_4, .int A_forcedPlace_4, .int A_endPlace_4, .int A_wordsToFailure_4, .int A_opened_4])), (qA_ring, .inl (cA_ring, 65536, .inl A_ring_4)), (qA_buffer, .inl (cA_buffer, 200, .inl A_buffer_4))]) hD hS hA [0, 1, 2] rfl
                    refine va_callv (va_runV (As := [.int (x1 + ((16 : Int32) * x2))]) (rest := []) ⟨hx, hb, hml, hown, hbg⟩ (met_X0_addWord l dC dI qA qA_ring qA_buffer cA_ring cA_buffer H_4.size A_ring_4 A_buffer_4 A_firstPlace_4 A_forcedPlace_4 A_endPlace_4 A_wordsToFailure_4 A_opened_4 (x1 + ((16 : Int32) * x2)) _ hw) (cwV 1 hbg g_RX0_65 rfl rfl rfl (by decide +kernel) ⟨Nat.le_of_ble_eq_true rfl, Nat.le_of_ble_eq_true rfl⟩) ⟨pcW_A_b _ _ _ _ _ _ _ _ _ _ _ _ _ _ _ _, va_recv hK hP (ci := 0) (q0 := 0) rfl rfl, fun U hU hW => ⟨rfl, by rw [hU], by rw [hU]; exact hP, va_K.moved hW.alike hK, hD.weaken (fun _ _ _ _ => trivial)⟩⟩ rfl rfl hl.1 rfl (lv_room (Nat.le_of_ble_eq_true rfl)) dX0_append_126 ⟨Nat.le_of_ble_eq_true rfl, Nat.le_of_ble_eq_true rfl⟩) hS (fun q _ h => hFc q h) hFc (fun u_5 t_5 H_5 locs ht hvm hw hB hz1 hk1 hS => ?_)
                    obtain ⟨A_ring_5, A_buffer_5, A_firstPlace_5, A_forcedPlace_5, A_endPlace_5, A_wordsToFailure_5, A_opened_5⟩ := u_5
                    obtain ⟨hP1, hK1, hD1⟩ := hB
                    rw [ht] at hP1
                    try dsimp only at hw
                    have hP : va_P (dC, dI) vwCl [(qA, .inr (0, [.ref qA_ring, .ref qA_buffer, .int A_firstPlace_5, .int A_forcedPlace_5, .int A_endPlace_5, .int A_wordsToFailure_5, .int A_opened_5])), (qA_ring, .inl (cA_ring, 65536, .inl A_ring_5)), (qA_buffer, .inl (cA_buffer, 200, .inl A_buffer_5))] H_5 := hP1
                    have hD : va_D A [(qA, .inr (0, [.ref qA_ring, .ref qA_buffer, .int A_firstPlace_5, .int A_forcedPlace_5, .int A_endPlace_5, .int A_wordsToFailure_5, .int A_opened_5])), (qA_ring, .inl (cA_ring, 65536, .inl A_ring_5)), (qA_buffer, .inl (cA_buffer, 200, .inl A_buffer_5))] := hD1.weaken (fun _ _ _ h => hFc _ h)
                    refine lv_aload_n hx hb dX0_append_129 rfl (lv_at hl 3 rfl) ?_
                    refine lv_iload hx hb dX0_append_130 (lv_at hl 0 rfl) ?_
                    have hFc := va_free (wc := [(qA, .inr (0, [.ref qA_ring, .ref qA_buffer, .int A_firstPlace_5, .int A_forcedPlace_5, .int A_endPlace_5, .int A_wordsToFailure_5, .int A_opened_5])), (qA_ring, .inl (cA_ring, 65536, .inl A_ring_5)), (qA_buffer, .inl (cA_buffer, 200, .inl A_buffer_5))]) hD hS hA [0, 1, 2] rfl
                    refine va_callv (va_runV (As := [.int r_3]) (rest := []) ⟨hx, hb, hml, hown, hbg⟩ (met_X0_addWord l dC dI qA qA_ring qA_buffer cA_ring cA_buffer H_5.size A_ring_5 A_buffer_5 A_firstPlace_5 A_forcedPlace_5 A_endPlace_5 A_wordsToFailure_5 A_opened_5 r_3 _ hw) (cwV 1 hbg g_RX0_65 rfl rfl rfl (by decide +kernel) ⟨Nat.le_of_ble_eq_true rfl, Nat.le_of_ble_eq_true rfl⟩) ⟨pcW_A_b _ _ _ _ _ _ _ _ _ _ _ _ _ _ _ _, va_recv hK hP (ci := 0) (q0 := 0) rfl rfl, fun U hU hW => ⟨rfl, by rw [hU], by rw [hU]; exact hP, va_K.moved hW.alike hK, hD.weaken (fun _ _ _ _ => trivial)⟩⟩ rfl rfl hl.1 rfl (lv_room (Nat.le_of_ble_eq_true rfl)) dX0_append_132 ⟨Nat.le_of_ble_eq_true rfl, Nat.le_of_ble_eq_true rfl⟩) hS (fun q _ h => hFc q h) hFc (fun u_6 t_6 H_6 locs ht hvm hw hB hz1 hk1 hS => ?_)
                    obtain ⟨A_ring_6, A_buffer_6, A_firstPlace_6, A_forcedPlace_6, A_endPlace_6, A_wordsToFailure_6, A_opened_6⟩ := u_6
                    obtain ⟨hP1, hK1, hD1⟩ := hB
                    rw [ht] at hP1
                    try dsimp only at hw
                    have hP : va_P (dC, dI) vwCl [(qA, .inr (0, [.ref qA_ring, .ref qA_buffer, .int A_firstPlace_6, .int A_forcedPlace_6, .int A_endPlace_6, .int A_wordsToFailure_6, .int A_opened_6])), (qA_ring, .inl (cA_ring, 65536, .inl A_ring_6)), (qA_buffer, .inl (cA_buffer, 200, .inl A_buffer_6))] H_6 := hP1
                    have hD : va_D A [(qA, .inr (0, [.ref qA_ring, .ref qA_buffer, .int A_firstPlace_6, .int A_forcedPlace_6, .int A_endPlace_6, .int A_wordsToFailure_6, .int A_opened_6])), (qA_ring, .inl (cA_ring, 65536, .inl A_ring_6)), (qA_buffer, .inl (cA_buffer, 200, .inl A_buffer_6))] := hD1.weaken (fun _ _ _ h => hFc _ h)
                    refine lv_aload_n hx hb dX0_append_135 rfl (lv_at hl 3 rfl) ?_
                    refine lv_iload_n hx hb dX0_append_136 rfl (lv_at hl 6 rfl) ?_
                    have hFc := va_free (wc := [(qA, .inr (0, [.ref qA_ring, .ref qA_buffer, .int A_firstPlace_6, .int A_forcedPlace_6, .int A_endPlace_6, .int A_wordsToFailure_6, .int A_opened_6])), (qA_ring, .inl (cA_ring, 65536, .inl A_ring_6)), (qA_buffer, .inl (cA_buffer, 200, .inl A_buffer_6))]) hD hS hA [0, 1, 2] rfl
                    refine va_callv (va_runV (As := [.int x3]) (rest := []) ⟨hx, hb, hml, hown, hbg⟩ (met_X0_addWord l dC dI qA qA_ring qA_buffer cA_ring cA_buffer H_6.size A_ring_6 A_buffer_6 A_firstPlace_6 A_forcedPlace_6 A_endPlace_6 A_wordsToFailure_6 A_opened_6 x3 _ hw) (cwV 1 hbg g_RX0_65 rfl rfl rfl (by decide +kernel) ⟨Nat.le_of_ble_eq_true rfl, Nat.le_of_ble_eq_true rfl⟩) ⟨pcW_A_b _ _ _ _ _ _ _ _ _ _ _ _ _ _ _ _, va_recv hK hP (ci := 0) (q0 := 0) rfl rfl, fun U hU hW => ⟨rfl, by rw [hU], by rw [hU]; exact hP, va_K.moved hW.alike hK, hD.weaken (fun _ _ _ _ => trivial)⟩⟩ rfl rfl hl.1 rfl (lv_room (Nat.le_of_ble_eq_true rfl)) dX0_append_137 ⟨Nat.le_of_ble_eq_true rfl, Nat.le_of_ble_eq_true rfl⟩) hS (fun q _ h => hFc q h) hFc (fun u_7 t_7 H_7 locs ht hvm hw hB hz1 hk1 hS => ?_)
                    obtain ⟨A_ring_7, A_buffer_7, A_firstPlace_7, A_forcedPlace_7, A_endPlace_7, A_wordsToFailure_7, A_opened_7⟩ := u_7
                    obtain ⟨hP1, hK1, hD1⟩ := hB
                    rw [ht] at hP1
                    try dsimp only at hw
                    have hP : va_P (dC, dI) vwCl [(qA, .inr (0, [.ref qA_ring, .ref qA_buffer, .int A_firstPlace_7, .int A_forcedPlace_7, .int A_endPlace_7, .int A_wordsToFailure_7, .int A_opened_7])), (qA_ring, .inl (cA_ring, 65536, .inl A_ring_7)), (qA_buffer, .inl (cA_buffer, 200, .inl A_buffer_7))] H_7 := hP1
                    have hD : va_D A [(qA, .inr (0, [.ref qA_ring, .ref qA_buffer, .int A_firstPlace_7, .int A_forcedPlace_7, .int A_endPlace_7, .int A_wordsToFailure_7, .int A_opened_7])), (qA_ring, .inl (cA_ring, 65536, .inl A_ring_7)), (qA_buffer, .inl (cA_buffer, 200, .inl A_buffer_7))] := hD1.weaken (fun _ _ _ h => hFc _ h)
                    refine lv_aload_n hx hb dX0_append_140 rfl (lv_at hl 3 rfl) ?_
                    refine lv_iload hx hb dX0_append_141 (lv_at hl 7 rfl) ?_
                    have hFc := va_free (wc := [(qA, .inr (0, [.ref qA_ring, .ref qA_buffer, .int A_firstPlace_7, .int A_forcedPlace_7, .int A_endPlace_7, .int A_wordsToFailure_7, .int A_opened_7])), (qA_ring, .inl (cA_ring, 65536, .inl A_ring_7)), (qA_buffer, .inl (cA_buffer, 200, .inl A_buffer_7))]) hD hS hA [0, 1, 2] rfl
                    refine va_callv (va_runV (As := [.int x4]) (rest := []) ⟨hx, hb, hml, hown, hbg⟩ (met_X0_addContent l dC dI qA qA_ring qA_buffer cA_ring cA_buffer H_7.size A_ring_7 A_buffer_7 A_firstPlace_7 A_forcedPlace_7 A_endPlace_7 A_wordsToFailure_7 A_opened_7 x4 _ hw) (cwV 1 hbg g_RX0_68 rfl rfl rfl (by decide +kernel) ⟨Nat.le_of_ble_eq_true rfl, Nat.le_of_ble_eq_true rfl⟩) ⟨pcW_A_b _ _ _ _ _ _ _ _ _ _ _ _ _ _ _ _, va_recv hK hP (ci := 0) (q0 := 0) rfl rfl, fun U hU hW => ⟨rfl, by rw [hU], by rw [hU]; exact hP, va_K.moved hW.alike hK, hD.weaken (fun _ _ _ _ => trivial)⟩⟩ rfl rfl hl.1 rfl (lv_room (Nat.le_of_ble_eq_true rfl)) dX0_append_143 ⟨Nat.le_of_ble_eq_true rfl, Nat.le_of_ble_eq_true rfl⟩) hS (fun q _ h => hFc q h) hFc (fun u_8 t_8 H_8 locs ht hvm hw hB hz1 hk1 hS => ?_)
                    obtain ⟨A_ring_8, A_buffer_8, A_firstPlace_8, A_forcedPlace_8, A_endPlace_8, A_wordsToFailure_8, A_opened_8⟩ := u_8
                    obtain ⟨hP1, hK1, hD1⟩ := hB
                    rw [ht] at hP1
                    try dsimp only at hw
                    have hP : va_P (dC, dI) vwCl [(qA, .inr (0, [.ref qA_ring, .ref qA_buffer, .int A_firstPlace_8, .int A_forcedPlace_8, .int A_endPlace_8, .int A_wordsToFailure_8, .int A_opened_8])), (qA_ring, .inl (cA_ring, 65536, .inl A_ring_8)), (qA_buffer, .inl (cA_buffer, 200, .inl A_buffer_8))] H_8 := hP1
                    have hD : va_D A [(qA, .inr (0, [.ref qA_ring, .ref qA_buffer, .int A_firstPlace_8, .int A_forcedPlace_8, .int A_endPlace_8, .int A_wordsToFailure_8, .int A_opened_8])), (qA_ring, .inl (cA_ring, 65536, .inl A_ring_8)), (qA_buffer, .inl (cA_buffer, 200, .inl A_buffer_8))] := hD1.weaken (fun _ _ _ h => hFc _ h)
                    refine lv_aload_n hx hb dX0_append_146 rfl (lv_at hl 3 rfl) ?_
                    refine lv_iload hx hb dX0_append_147 (lv_at hl 2 rfl) ?_
                    have hFc := va_free (wc := [(qA, .inr (0, [.ref qA_ring, .ref qA_buffer, .int A_firstPlace_8, .int A_forcedPlace_8, .int A_endPlace_8, .int A_wordsToFailure_8, .int A_opened_8])), (qA_ring, .inl (cA_ring, 65536, .inl A_ring_8)), (qA_buffer, .inl (cA_buffer, 200, .inl A_buffer_8))]) hD hS hA [0, 1, 2] rfl
                    refine va_callv (va_runV (As := [.int (x4 + (5 : Int32))]) (rest := []) ⟨hx, hb, hml, hown, hbg⟩ (met_X0_addWord l dC dI qA qA_ring qA_buffer cA_ring cA_buffer H_8.size A_ring_8 A_buffer_8 A_firstPlace_8 A_forcedPlace_8 A_endPlace_8 A_wordsToFailure_8 A_opened_8 (x4 + (5 : Int32)) _ hw) (cwV 1 hbg g_RX0_65 rfl rfl rfl (by decide +kernel) ⟨Nat.le_of_ble_eq_true rfl, Nat.le_of_ble_eq_true rfl⟩) ⟨pcW_A_b _ _ _ _ _ _ _ _ _ _ _ _ _ _ _ _, va_recv hK hP (ci := 0) (q0 := 0) rfl rfl, fun U hU hW => ⟨rfl, by rw [hU], by rw [hU]; exact hP, va_K.moved hW.alike hK, hD.weaken (fun _ _ _ _ => trivial)⟩⟩ rfl rfl hl.1 rfl (lv_room (Nat.le_of_ble_eq_true rfl)) dX0_append_149 ⟨Nat.le_of_ble_eq_true rfl, Nat.le_of_ble_eq_true rfl⟩) hS (fun q _ h => hFc q h) hFc (fun u_9 t_9 H_9 locs ht hvm hw hB hz1 hk1 hS => ?_)
                    obtain ⟨A_ring_9, A_buffer_9, A_firstPlace_9, A_forcedPlace_9, A_endPlace_9, A_wordsToFailure_9, A_opened_9⟩ := u_9
                    obtain ⟨hP1, hK1, hD1⟩ := hB
                    rw [ht] at hP1
                    try dsimp only at hw
                    have hP : va_P (dC, dI) vwCl [(qA, .inr (0, [.ref qA_ring, .ref qA_buffer, .int A_firstPlace_9, .int A_forcedPlace_9, .int A_endPlace_9, .int A_wordsToFailure_9, .int A_opened_9])), (qA_ring, .inl (cA_ring, 65536, .inl A_ring_9)), (qA_buffer, .inl (cA_buffer, 200, .inl A_buffer_9))] H_9 := hP1
                    have hD : va_D A [(qA, .inr (0, [.ref qA_ring, .ref qA_buffer, .int A_firstPlace_9, .int A_forcedPlace_9, .int A_endPlace_9, .int A_wordsToFailure_9, .int A_opened_9])), (qA_ring, .inl (cA_ring, 65536, .inl A_ring_9)), (qA_buffer, .inl (cA_buffer, 200, .inl A_buffer_9))] := hD1.weaken (fun _ _ _ h => hFc _ h)
                    refine lv_iload hx hb dX0_append_152 (lv_at hl 1 rfl) ?_
                    subst hQQ
                    refine W.widen (k := 3) (n := 18) (Nat.le_of_ble_eq_true rfl) (Nat.le_of_ble_eq_true rfl) ?_
                    refine vx_ret ?_
                    exact W.iret (v := A_endPlace_2) hx hb hr (fun t ht hW => ⟨⟨A_endPlace_2, (A_ring_9, A_buffer_9, A_firstPlace_9, A_forcedPlace_9, A_endPlace_9, A_wordsToFailure_9, A_opened_9), rfl, hw, by rw [ht]; exact hP, va_K.moved hW.alike hK, hD⟩, hS.F ht⟩) hS.2.2 dX0_append_154
                  · have hw := hw.2 c9
                    refine lv_iconst (v := (-1 : Int32)) hx hb dX0_append_98 (by decide) ?_
                    subst hQQ
                    refine W.widen (k := 3) (n := 18) (Nat.le_of_ble_eq_true rfl) (Nat.le_of_ble_eq_true rfl) ?_
                    refine vx_ret ?_
                    exact W.iret (v := (-1 : Int32)) hx hb hr (fun t ht hW => ⟨⟨(-1 : Int32), (A_ring_2, A_buffer_2, A_firstPlace_2, A_forcedPlace_2, A_endPlace_2, A_wordsToFailure_2, A_opened_2), rfl, hw, by rw [ht]; exact hP, va_K.moved hW.alike hK, hD⟩, hS.F ht⟩) hS.2.2 dX0_append_99
                · have hw := hw.2 c9
                  subst hQQ
                  obtain ⟨sa, hsa⟩ := hXW0.2.2.1 (RX0, 59, "a link is NONE or a place before the end") (by decide +kernel)
                  exact vx_throwS (own := RX0) (cls := "java/lang/IllegalArgumentException") (names := ["java/lang/RuntimeException", "java/lang/Exception"]) hx hb hl9 hown (by decide +kernel) (by decide +kernel) (hbg _ kw_45) (hbg _ kw_46) hsa (vx_hat (L := vx_atS RX0 56 "java/lang/IllegalArgumentException" ["java/lang/RuntimeException", "java/lang/Exception"]) (B := [.castable "java/lang/IllegalArgumentException" "java/lang/IllegalArgumentException", .declares ⟨"java/lang/RuntimeException", "<init>", "(Ljava/lang/String;)V"⟩, .declares ⟨"java/lang/Exception", "<init>", "(Ljava/lang/String;)V"⟩, .declares ⟨"java/lang/Throwable", "<init>", "(Ljava/lang/String;)V"⟩]) (fun w hw => hbg w (xa_RX0_56 w hw)) (by decide +kernel) (vx_c (va_Nw.use rfl (hXW0.1 "java/lang/IllegalArgumentException" (by decide))) (vx_c (va_Nw.use rfl (hXW0.2.1 "java/lang/RuntimeException" (by decide))) (vx_c (va_Nw.use rfl (hXW0.2.1 "java/lang/Exception" (by decide))) (vx_c (va_Nw.use rfl (hXW0.2.1 "java/lang/Throwable" (by decide))) (vx_n)))))) (by decide +kernel) hXW0.2.2.2.2.1 hXW0.2.2.2.2.2 hS (hl.1.trans hml.symm) dX0_append_65 dX0_append_68 dX0_append_69 dX0_append_71 dX0_append_74 (fun x hx => (hEx x hx).elim) (Nat.le_of_ble_eq_true rfl) (Nat.le_of_ble_eq_true rfl) (Nat.le_of_ble_eq_true rfl) (Nat.le_of_ble_eq_true rfl) hlocks (fun t ha hsz hk => ⟨("java/lang/IllegalArgumentException", (A_ring_2, A_buffer_2, A_firstPlace_2, A_forcedPlace_2, A_endPlace_2, A_wordsToFailure_2, A_opened_2)), hw, ⟨rfl, hP.kept (fun k q hq => hk q.1 (hP k q hq).lt), va_K.moved ha hK, hD⟩, Nat.le_trans hS.1 hsz, fun q h1 h2 => (hk q (Nat.lt_of_lt_of_le h1 hS.1)).trans (hS.2.1 q h1 h2)⟩) hS.2.2 (Nat.le_of_ble_eq_true rfl) (Nat.le_of_ble_eq_true rfl)
            · have hw := hw.2 c9
              subst hQQ
              obtain ⟨sa, hsa⟩ := hXW0.2.2.1 (RX0, 57, "a content has 0 .. 200 words") (by decide +kernel)
              exact vx_throwS (own := RX0) (cls := "java/lang/IllegalArgumentException") (names := ["java/lang/RuntimeException", "java/lang/Exception"]) hx hb hl9 hown (by decide +kernel) (by decide +kernel) (hbg _ kw_45) (hbg _ kw_46) hsa (vx_hat (L := vx_atS RX0 56 "java/lang/IllegalArgumentException" ["java/lang/RuntimeException", "java/lang/Exception"]) (B := [.castable "java/lang/IllegalArgumentException" "java/lang/IllegalArgumentException", .declares ⟨"java/lang/RuntimeException", "<init>", "(Ljava/lang/String;)V"⟩, .declares ⟨"java/lang/Exception", "<init>", "(Ljava/lang/String;)V"⟩, .declares ⟨"java/lang/Throwable", "<init>", "(Ljava/lang/String;)V"⟩]) (fun w hw => hbg w (xa_RX0_56 w hw)) (by decide +kernel) (vx_c (va_Nw.use rfl (hXW0.1 "java/lang/IllegalArgumentException" (by decide))) (vx_c (va_Nw.use rfl (hXW0.2.1 "java/lang/RuntimeException" (by decide))) (vx_c (va_Nw.use rfl (hXW0.2.1 "java/lang/Exception" (by decide))) (vx_c (va_Nw.use rfl (hXW0.2.1 "java/lang/Throwable" (by decide))) (vx_n)))))) (by decide +kernel) hXW0.2.2.2.2.1 hXW0.2.2.2.2.2 hS (hl.1.trans hml.symm) dX0_append_42 dX0_append_45 dX0_append_46 dX0_append_48 dX0_append_51 (fun x hx => (hEx x hx).elim) (Nat.le_of_ble_eq_true rfl) (Nat.le_of_ble_eq_true rfl) (Nat.le_of_ble_eq_true rfl) (Nat.le_of_ble_eq_true rfl) hlocks (fun t ha hsz hk => ⟨("java/lang/IllegalArgumentException", (A_ring_2, A_buffer_2, A_firstPlace_2, A_forcedPlace_2, A_endPlace_2, A_wordsToFailure_2, A_opened_2)), hw, ⟨rfl, hP.kept (fun k q hq => hk q.1 (hP k q hq).lt), va_K.moved ha hK, hD⟩, Nat.le_trans hS.1 hsz, fun q h1 h2 => (hk q (Nat.lt_of_lt_of_le h1 hS.1)).trans (hS.2.1 q h1 h2)⟩) hS.2.2 (Nat.le_of_ble_eq_true rfl) (Nat.le_of_ble_eq_true rfl)
        · have hw := hw.2 c9
          subst hQQ
          obtain ⟨sa, hsa⟩ := hXW0.2.2.1 (RX0, 54, "kinds are 0 .. 15") (by decide +kernel)
          exact vx_throwS (own := RX0) (cls := "java/lang/IllegalArgumentException") (names := ["java/lang/RuntimeException", "java/lang/Exception"]) hx hb hl9 hown (by decide +kernel) (by decide +kernel) (hbg _ kw_45) (hbg _ kw_46) hsa (vx_hat (L := vx_atS RX0 56 "java/lang/IllegalArgumentException" ["java/lang/RuntimeException", "java/lang/Exception"]) (B := [.castable "java/lang/IllegalArgumentException" "java/lang/IllegalArgumentException", .declares ⟨"java/lang/RuntimeException", "<init>", "(Ljava/lang/String;)V"⟩, .declares ⟨"java/lang/Exception", "<init>", "(Ljava/lang/String;)V"⟩, .declares ⟨"java/lang/Throwable", "<init>", "(Ljava/lang/String;)V"⟩]) (fun w hw => hbg w (xa_RX0_56 w hw)) (by decide +kernel) (vx_c (va_Nw.use rfl (hXW0.1 "java/lang/IllegalArgumentException" (by decide))) (vx_c (va_Nw.use rfl (hXW0.2.1 "java/lang/RuntimeException" (by decide))) (vx_c (va_Nw.use rfl (hXW0.2.1 "java/lang/Exception" (by decide))) (vx_c (va_Nw.use rfl (hXW0.2.1 "java/lang/Throwable" (by decide))) (vx_n)))))) (by decide +kernel) hXW0.2.2.2.2.1 hXW0.2.2.2.2.2 hS (hl.1.trans hml.symm) dX0_append_19 dX0_append_22 dX0_append_23 dX0_append_25 dX0_append_28 (fun x hx => (hEx x hx).elim) (Nat.le_of_ble_eq_true rfl) (Nat.le_of_ble_eq_true rfl) (Nat.le_of_ble_eq_true rfl) (Nat.le_of_ble_eq_true rfl) hlocks (fun t ha hsz hk => ⟨("java/lang/IllegalArgumentException", (A_ring_2, A_buffer_2, A_firstPlace_2, A_forcedPlace_2, A_endPlace_2, A_wordsToFailure_2, A_opened_2)), hw, ⟨rfl, hP.kept (fun k q hq => hk q.1 (hP k q hq).lt), va_K.moved ha hK, hD⟩, Nat.le_trans hS.1 hsz, fun q h1 h2 => (hk q (Nat.lt_of_lt_of_le h1 hS.1)).trans (hS.2.1 q h1 h2)⟩) hS.2.2 (Nat.le_of_ble_eq_true rfl) (Nat.le_of_ble_eq_true rfl)
def wp_X0_back (post : Int32 → St_A → Prop) (px : String → St_A → Prop) (x1 : Int32) (x2 : Int32) (x3 : Int32) (A_ring : Nat → Int32) (A_buffer : Nat → Int32) (A_firstPlace : Int32) (A_forcedPlace : Int32) (A_endPlace : Int32) (A_wordsToFailure : Int32) (A_opened : Int32) : Prop :=
  wp_X0_requireOpen (fun u_1 => match u_1 with | (A_ring_1, A_buffer_1, A_firstPlace_1, A_forcedPlace_1, A_endPlace_1, A_wordsToFailure_1, A_opened_1) => wp_X0_requireOwner (fun u_2 => match u_2 with | (A_ring_2, A_buffer_2, A_firstPlace_2, A_forcedPlace_2, A_endPlace_2, A_wordsToFailure_2, A_opened_2) => (((0 : Int32) ≤ x3 → wp_X0_kthOnTheWay (fun r_3 => post r_3 (A_ring_2, A_buffer_2, A_firstPlace_2, A_forcedPlace_2, A_endPlace_2, A_wordsToFailure_2, A_opened_2)) x1 x2 x3 A_ring_2 A_buffer_2 A_firstPlace_2 A_forcedPlace_2 A_endPlace_2 A_wordsToFailure_2 A_opened_2) ∧ (¬ (0 : Int32) ≤ x3 → px "java/lang/IllegalArgumentException" (A_ring_2, A_buffer_2, A_firstPlace_2, A_forcedPlace_2, A_endPlace_2, A_wordsToFailure_2, A_opened_2)))) px x1 A_ring_1 A_buffer_1 A_firstPlace_1 A_forcedPlace_1 A_endPlace_1 A_wordsToFailure_1 A_opened_1) px A_ring A_buffer A_firstPlace A_forcedPlace A_endPlace A_wordsToFailure A_opened
set_option maxHeartbeats 4000000 in
set_option maxRecDepth 100000 in
theorem met_X0_back (l : Launch) (hl9 : l.stackTraces = false) (dC : Nat → ClassId) (dI : Nat → Nat → Nat) (qA qA_ring qA_buffer : Nat) (cA_ring cA_buffer : ClassId) (sz : Nat) (A_ring : Nat → Int32) (A_buffer : Nat → Int32) (A_firstPlace : Int32) (A_forcedPlace : Int32) (A_endPlace : Int32) (A_wordsToFailure : Int32) (A_opened : Int32) (x1 : Int32) (x2 : Int32) (x3 : Int32) (post : Int32 → St_A → Prop) (px : String → St_A → Prop) (hw : wp_X0_back post px x1 x2 x3 A_ring A_buffer A_firstPlace A_forcedPlace A_endPlace A_wordsToFailure A_opened) :
    vx_Met l yX0_back wsX0_back ({ frames := 7, cells := 3, slots := 18, locals := 117 } : Room) (pcX_A dC dI qA qA_ring qA_buffer cA_ring cA_buffer sz A_ring A_buffer A_firstPlace A_forcedPlace A_endPlace A_wordsToFailure A_opened [.ref qA, .int x1, .int x2, .int x3]) (va_Qi post (at_A dC dI (va_A [(qA, .inr (0, [.ref qA_ring, .ref qA_buffer, .int A_firstPlace, .int A_forcedPlace, .int A_endPlace, .int A_wordsToFailure, .int A_opened])), (qA_ring, .inl (cA_ring, 65536, .inl A_ring)), (qA_buffer, .inl (cA_buffer, 200, .inl A_buffer))] sz) qA qA_ring qA_buffer cA_ring cA_buffer) (va_A [(qA, .inr (0, [.ref qA_ring, .ref qA_buffer, .int A_firstPlace, .int A_forcedPlace, .int A_endPlace, .int A_wordsToFailure, .int A_opened])), (qA_ring, .inl (cA_ring, 65536, .inl A_ring)), (qA_buffer, .inl (cA_buffer, 200, .inl A_buffer))] sz)) (vx_X (fun u => px u.1 u.2) (atx_A dC dI (va_A [(qA, .inr (0, [.ref qA_ring, .ref qA_buffer, .int A_firstPlace, .int A_forcedPlace, .int A_endPlace, .int A_wordsToFailure, .int A_opened])), (qA_ring, .inl (cA_ring, 65536, .inl A_ring)), (qA_buffer, .inl (cA_buffer, 200, .inl A_buffer))] sz) qA qA_ring qA_buffer cA_ring cA_buffer) (va_A [(qA, .inr (0, [.ref qA_ring, .ref qA_buffer, .int A_firstPlace, .int A_forcedPlace, .int A_endPlace, .int A_wordsToFailure, .int A_opened])), (qA_ring, .inl (cA_ring, 65536, .inl A_ring)), (qA_buffer, .inl (cA_buffer, 200, .inl A_buffer))] sz)) 3 18 (va_A [(qA, .inr (0, [.ref qA_ring, .ref qA_buffer, .int A_firstPlace, .int A_forcedPlace, .int A_endPlace, .int A_wordsToFailure, .int A_opened])), (qA_ring, .inl (cA_ring, 65536, .inl A_ring)), (qA_buffer, .inl (cA_buffer, 200, .inl A_buffer))] sz) := by
  refine vx_ofW (cc := cX0_back) (maxL := 4) (ret := (some .int)) (by decide) rfl ?_
  intro p e s m args below meth c s₁ B hml hEx hv
  obtain ⟨hav, hsz, hP, hK, hD0, hXW0⟩ := hv
  have hx := B.exec
  have hb := B.bytes
  have hr := B.returns
  have hts := atoms_spec (ws := wsX0_back) B.pre
  have hbg : ∀ w ∈ bigW, w.before args s = true := fun w h => hts w (List.mem_cons_of_mem _ h)
  have hown : s.vm.findClass RX0 = some m.cls := findClass_of_methodNamed B.named
  have hlocks := B.notSynchronized
  subst hsz
  have hD := hD0.self (sz := s.heap.size)
  generalize hAe : va_A [(qA, .inr (0, [.ref qA_ring, .ref qA_buffer, .int A_firstPlace, .int A_forcedPlace, .int A_endPlace, .int A_wordsToFailure, .int A_opened])), (qA_ring, .inl (cA_ring, 65536, .inl A_ring)), (qA_buffer, .inl (cA_buffer, 200, .inl A_buffer))] s.heap.size = A at hD hXW0 ⊢
  have hA : ∀ q : Nat, s.heap.size ≤ q → A q := fun q h => by rw [← hAe]; exact Or.inr h
  have hS : va_S A s.heap s.heap [] := va_S.rf
  have hP : va_P (dC, dI) vwCl [(qA, .inr (0, [.ref qA_ring, .ref qA_buffer, .int A_firstPlace, .int A_forcedPlace, .int A_endPlace, .int A_wordsToFailure, .int A_opened])), (qA_ring, .inl (cA_ring, 65536, .inl A_ring)), (qA_buffer, .inl (cA_buffer, 200, .inl A_buffer))] s.heap := hP
  generalize hQQ : vx_MQ below (va_Qi post (at_A dC dI A qA qA_ring qA_buffer cA_ring cA_buffer) A) (vx_X (fun u => px u.1 u.2) (atx_A dC dI A qA qA_ring qA_buffer cA_ring cA_buffer) A) args s 3 18 A = QQ
  have hl := lv_entry ([.ref qA, .int x1, .int x2, .int x3]) (n := 4) (Nat.le_of_ble_eq_true rfl)
  rw [show entryFrame m args 4 = entryFrame m ([.ref qA, .int x1, .int x2, .int x3] : List Value).toArray 4 by rw [hav], lg_entry_eq]
  generalize (lg_sl ([.ref qA, .int x1, .int x2, .int x3]) ++ List.replicate (4 - (lg_sl ([.ref qA, .int x1, .int x2, .int x3])).length) Slot.unset).toArray = ls at hl ⊢
  have hl : lv_has ls 4 [(0, .ref qA), (1, .int x1), (2, .int x2), (3, .int x3)] := hl
  unfold wp_X0_back at hw
  refine lv_aload_n hx hb dX0_back_0 rfl (lv_at hl 0 rfl) ?_
  have hFc := va_free (wc := [(qA, .inr (0, [.ref qA_ring, .ref qA_buffer, .int A_firstPlace, .int A_forcedPlace, .int A_endPlace, .int A_wordsToFailure, .int A_opened])), (qA_ring, .inl (cA_ring, 65536, .inl A_ring)), (qA_buffer, .inl (cA_buffer, 200, .inl A_buffer))]) hD hS hA [0, 1, 2] rfl
  refine vx_callv (vx_runV (As := []) (rest := []) ⟨hx, hb, hml, hown, hbg⟩ (met_X0_requireOpen l hl9 dC dI qA qA_ring qA_buffer cA_ring cA_buffer s.heap.size A_ring A_buffer A_firstPlace A_forcedPlace A_endPlace A_wordsToFailure A_opened  _ _ hw) (cwV 0 hbg g_RX0_34 rfl rfl rfl (by decide +kernel) ⟨Nat.le_of_ble_eq_true rfl, Nat.le_of_ble_eq_true rfl⟩) ⟨pcX_A_b _ _ _ _ _ _ _ _ _ _ _ _ _ _ _ _, va_recv hK hP (ci := 0) (q0 := 0) rfl rfl, fun U hU hW => ⟨rfl, by rw [hU], by rw [hU]; exact hP, va_K.moved hW.alike hK, hD.weaken (fun _ _ _ _ => trivial), XW.go hXW0 hS hFc hU hW⟩⟩ rfl rfl hl.1 rfl (lv_room (Nat.le_of_ble_eq_true rfl)) dX0_back_1 ⟨Nat.le_of_ble_eq_true rfl, Nat.le_of_ble_eq_true rfl⟩) hS (fun q _ h => hFc q h) hFc (fun q _ h => hFc q h) (fun E9 ce9 q9 u9 t9 H_1 locs ht hvm hpx hBX hz1 hk1 hS hce hcv hcl => ?_) (fun u_1 t_1 H_1 locs ht hvm hw hB hz1 hk1 hS => ?_)
  · obtain ⟨E8, A_ring_x1, A_buffer_x1, A_firstPlace_x1, A_forcedPlace_x1, A_endPlace_x1, A_wordsToFailure_x1, A_opened_x1⟩ := u9
    obtain ⟨rfl, hP1, hK1, hD1⟩ := hBX
    rw [ht] at hP1
    have hP : va_P (dC, dI) vwCl [(qA, .inr (0, [.ref qA_ring, .ref qA_buffer, .int A_firstPlace_x1, .int A_forcedPlace_x1, .int A_endPlace_x1, .int A_wordsToFailure_x1, .int A_opened_x1])), (qA_ring, .inl (cA_ring, 65536, .inl A_ring_x1)), (qA_buffer, .inl (cA_buffer, 200, .inl A_buffer_x1))] H_1 := hP1
    have hD : va_D A [(qA, .inr (0, [.ref qA_ring, .ref qA_buffer, .int A_firstPlace_x1, .int A_forcedPlace_x1, .int A_endPlace_x1, .int A_wordsToFailure_x1, .int A_opened_x1])), (qA_ring, .inl (cA_ring, 65536, .inl A_ring_x1)), (qA_buffer, .inl (cA_buffer, 200, .inl A_buffer_x1))] := hD1.weaken (fun _ _ _ h => hFc _ h)
    subst hQQ
    exact vx_out (fun x hx => (hEx x hx).elim) hlocks hce hcv hcl (fun t ht ha => ⟨(E9, (A_ring_x1, A_buffer_x1, A_firstPlace_x1, A_forcedPlace_x1, A_endPlace_x1, A_wordsToFailure_x1, A_opened_x1)), hpx, ⟨rfl, by rw [ht]; exact hP, va_K.moved ha hK, hD⟩, hS.F ht⟩) hS.2.2 (Nat.le_of_ble_eq_true rfl) (Nat.le_of_ble_eq_true rfl)
  · obtain ⟨A_ring_1, A_buffer_1, A_firstPlace_1, A_forcedPlace_1, A_endPlace_1, A_wordsToFailure_1, A_opened_1⟩ := u_1
    obtain ⟨hP1, hK1, hD1⟩ := hB
    rw [ht] at hP1
    try dsimp only at hw
    have hP : va_P (dC, dI) vwCl [(qA, .inr (0, [.ref qA_ring, .ref qA_buffer, .int A_firstPlace_1, .int A_forcedPlace_1, .int A_endPlace_1, .int A_wordsToFailure_1, .int A_opened_1])), (qA_ring, .inl (cA_ring, 65536, .inl A_ring_1)), (qA_buffer, .inl (cA_buffer, 200, .inl A_buffer_1))] H_1 := hP1
    have hD : va_D A [(qA, .inr (0, [.ref qA_ring, .ref qA_buffer, .int A_firstPlace_1, .int A_forcedPlace_1, .int A_endPlace_1, .int A_wordsToFailure_1, .int A_opened_1])), (qA_ring, .inl (cA_ring, 65536, .inl A_ring_1)), (qA_buffer, .inl (cA_buffer, 200, .inl A_buffer_1))] := hD1.weaken (fun _ _ _ h => hFc _ h)
    refine W.widen (k := 1) (n := 6) (Nat.le_of_ble_eq_true rfl) (Nat.le_of_ble_eq_true rfl) ?_
    refine lv_aload_n hx hb dX0_back_4 rfl (lv_at hl 0 rfl) ?_
    refine lv_iload_n hx hb dX0_back_5 rfl (lv_at hl 1 rfl) ?_
    have hFc := va_free (wc := [(qA, .inr (0, [.ref qA_ring, .ref qA_buffer, .int A_firstPlace_1, .int A_forcedPlace_1, .int A_endPlace_1, .int A_wordsToFailure_1, .int A_opened_1])), (qA_ring, .inl (cA_ring, 65536, .inl A_ring_1)), (qA_buffer, .inl (cA_buffer, 200, .inl A_buffer_1))]) hD hS hA [0, 1, 2] rfl
    refine vx_callv (vx_runV (As := [.int x1]) (rest := []) ⟨hx, hb, hml, hown, hbg⟩ (met_X0_requireOwner l hl9 dC dI qA qA_ring qA_buffer cA_ring cA_buffer H_1.size A_ring_1 A_buffer_1 A_firstPlace_1 A_forcedPlace_1 A_endPlace_1 A_wordsToFailure_1 A_opened_1 x1 _ _ hw) (cwV 1 hbg g_RX0_48 rfl rfl rfl (by decide +kernel) ⟨Nat.le_of_ble_eq_true rfl, Nat.le_of_ble_eq_true rfl⟩) ⟨pcX_A_b _ _ _ _ _ _ _ _ _ _ _ _ _ _ _ _, va_recv hK hP (ci := 0) (q0 := 0) rfl rfl, fun U hU hW => ⟨rfl, by rw [hU], by rw [hU]; exact hP, va_K.moved hW.alike hK, hD.weaken (fun _ _ _ _ => trivial), XW.go hXW0 hS hFc hU hW⟩⟩ rfl rfl hl.1 rfl (lv_room (Nat.le_of_ble_eq_true rfl)) dX0_back_6 ⟨Nat.le_of_ble_eq_true rfl, Nat.le_of_ble_eq_true rfl⟩) hS (fun q _ h => hFc q h) hFc (fun q _ h => hFc q h) (fun E9 ce9 q9 u9 t9 H_2 locs ht hvm hpx hBX hz1 hk1 hS hce hcv hcl => ?_) (fun u_2 t_2 H_2 locs ht hvm hw hB hz1 hk1 hS => ?_)
    · obtain ⟨E8, A_ring_x2, A_buffer_x2, A_firstPlace_x2, A_forcedPlace_x2, A_endPlace_x2, A_wordsToFailure_x2, A_opened_x2⟩ := u9
      obtain ⟨rfl, hP1, hK1, hD1⟩ := hBX
      rw [ht] at hP1
      have hP : va_P (dC, dI) vwCl [(qA, .inr (0, [.ref qA_ring, .ref qA_buffer, .int A_firstPlace_x2, .int A_forcedPlace_x2, .int A_endPlace_x2, .int A_wordsToFailure_x2, .int A_opened_x2])), (qA_ring, .inl (cA_ring, 65536, .inl A_ring_x2)), (qA_buffer, .inl (cA_buffer, 200, .inl A_buffer_x2))] H_2 := hP1
      have hD : va_D A [(qA, .inr (0, [.ref qA_ring, .ref qA_buffer, .int A_firstPlace_x2, .int A_forcedPlace_x2, .int A_endPlace_x2, .int A_wordsToFailure_x2, .int A_opened_x2])), (qA_ring, .inl (cA_ring, 65536, .inl A_ring_x2)), (qA_buffer, .inl (cA_buffer, 200, .inl A_buffer_x2))] := hD1.weaken (fun _ _ _ h => hFc _ h)
      subst hQQ
      exact vx_out (fun x hx => (hEx x hx).elim) hlocks hce hcv hcl (fun t ht ha => ⟨(E9, (A_ring_x2, A_buffer_x2, A_firstPlace_x2, A_forcedPlace_x2, A_endPlace_x2, A_wordsToFailure_x2, A_opened_x2)), hpx, ⟨rfl, by rw [ht]; exact hP, va_K.moved ha hK, hD⟩, hS.F ht⟩) hS.2.2 (Nat.le_of_ble_eq_true rfl) (Nat.le_of_ble_eq_true rfl)
    · obtain ⟨A_ring_2, A_buffer_2, A_firstPlace_2, A_forcedPlace_2, A_endPlace_2, A_wordsToFailure_2, A_opened_2⟩ := u_2
      obtain ⟨hP1, hK1, hD1⟩ := hB
      rw [ht] at hP1
      try dsimp only at hw
      have hP : va_P (dC, dI) vwCl [(qA, .inr (0, [.ref qA_ring, .ref qA_buffer, .int A_firstPlace_2, .int A_forcedPlace_2, .int A_endPlace_2, .int A_wordsToFailure_2, .int A_opened_2])), (qA_ring, .inl (cA_ring, 65536, .inl A_ring_2)), (qA_buffer, .inl (cA_buffer, 200, .inl A_buffer_2))] H_2 := hP1
      have hD : va_D A [(qA, .inr (0, [.ref qA_ring, .ref qA_buffer, .int A_firstPlace_2, .int A_forcedPlace_2, .int A_endPlace_2, .int A_wordsToFailure_2, .int A_opened_2])), (qA_ring, .inl (cA_ring, 65536, .inl A_ring_2)), (qA_buffer, .inl (cA_buffer, 200, .inl A_buffer_2))] := hD1.weaken (fun _ _ _ h => hFc _ h)
      refine W.widen (k := 2) (n := 12) (Nat.le_of_ble_eq_true rfl) (Nat.le_of_ble_eq_true rfl) ?_
      refine lv_iload_n hx hb dX0_back_9 rfl (lv_at hl 3 rfl) ?_
      refine lv_if_ge (tgt := 23) hx hb dX0_back_10 (by decide) (fun c9 => ?_) (fun c9 => ?_)
      · have hw := hw.1 c9
        refine lv_aload_n hx hb dX0_back_23 rfl (lv_at hl 0 rfl) ?_
        refine lv_iload_n hx hb dX0_back_24 rfl (lv_at hl 1 rfl) ?_
        refine lv_iload_n hx hb dX0_back_25 rfl (lv_at hl 2 rfl) ?_
        refine lv_iload_n hx hb dX0_back_26 rfl (lv_at hl 3 rfl) ?_
        refine vp_callSi (W.runV (As := [.int x1, .int x2, .int x3]) (rest := []) ⟨hx, hb, hml, hown, hbg⟩ (met_X0_kthOnTheWay l dC dI qA qA_ring qA_buffer cA_ring cA_buffer A_ring_2 A_buffer_2 A_firstPlace_2 A_forcedPlace_2 A_endPlace_2 A_wordsToFailure_2 A_opened_2 x1 x2 x3 _ hw) (cwV 3 hbg g_RX0_109 rfl rfl rfl (by decide +kernel) ⟨Nat.le_of_ble_eq_true rfl, Nat.le_of_ble_eq_true rfl⟩) ⟨pcR_A_b _ _ _ _ _ _ _ _ _ _ _ _ _ _ _ , va_recv hK hP (ci := 0) (q0 := 0) rfl rfl, fun U hU hW => ⟨rfl, by rw [hU]; exact hP, va_K.moved hW.alike hK⟩⟩ rfl rfl hl.1 rfl (lv_room (Nat.le_of_ble_eq_true rfl)) dX0_back_27 ⟨Nat.le_of_ble_eq_true rfl, Nat.le_of_ble_eq_true rfl⟩) (fun r_3 hw => ?_)
        try dsimp only at hw
        subst hQQ
        refine W.widen (k := 3) (n := 18) (Nat.le_of_ble_eq_true rfl) (Nat.le_of_ble_eq_true rfl) ?_
        refine vx_ret ?_
        exact W.iret (v := r_3) hx hb hr (fun t ht hW => ⟨⟨r_3, (A_ring_2, A_buffer_2, A_firstPlace_2, A_forcedPlace_2, A_endPlace_2, A_wordsToFailure_2, A_opened_2), rfl, hw, by rw [ht]; exact hP, va_K.moved hW.alike hK, hD⟩, hS.F ht⟩) hS.2.2 dX0_back_30
      · have hw := hw.2 c9
        subst hQQ
        obtain ⟨sa, hsa⟩ := hXW0.2.2.1 (RX0, 107, "k is not below 0") (by decide +kernel)
        exact vx_throwS (own := RX0) (cls := "java/lang/IllegalArgumentException") (names := ["java/lang/RuntimeException", "java/lang/Exception"]) hx hb hl9 hown (by decide +kernel) (by decide +kernel) (hbg _ kw_45) (hbg _ kw_46) hsa (vx_hat (L := vx_atS RX0 56 "java/lang/IllegalArgumentException" ["java/lang/RuntimeException", "java/lang/Exception"]) (B := [.castable "java/lang/IllegalArgumentException" "java/lang/IllegalArgumentException", .declares ⟨"java/lang/RuntimeException", "<init>", "(Ljava/lang/String;)V"⟩, .declares ⟨"java/lang/Exception", "<init>", "(Ljava/lang/String;)V"⟩, .declares ⟨"java/lang/Throwable", "<init>", "(Ljava/lang/String;)V"⟩]) (fun w hw => hbg w (xa_RX0_56 w hw)) (by decide +kernel) (vx_c (va_Nw.use rfl (hXW0.1 "java/lang/IllegalArgumentException" (by decide))) (vx_c (va_Nw.use rfl (hXW0.2.1 "java/lang/RuntimeException" (by decide))) (vx_c (va_Nw.use rfl (hXW0.2.1 "java/lang/Exception" (by decide))) (vx_c (va_Nw.use rfl (hXW0.2.1 "java/lang/Throwable" (by decide))) (vx_n)))))) (by decide +kernel) hXW0.2.2.2.2.1 hXW0.2.2.2.2.2 hS (hl.1.trans hml.symm) dX0_back_13 dX0_back_16 dX0_back_17 dX0_back_19 dX0_back_22 (fun x hx => (hEx x hx).elim) (Nat.le_of_ble_eq_true rfl) (Nat.le_of_ble_eq_true rfl) (Nat.le_of_ble_eq_true rfl) (Nat.le_of_ble_eq_true rfl) hlocks (fun t ha hsz hk => ⟨("java/lang/IllegalArgumentException", (A_ring_2, A_buffer_2, A_firstPlace_2, A_forcedPlace_2, A_endPlace_2, A_wordsToFailure_2, A_opened_2)), hw, ⟨rfl, hP.kept (fun k q hq => hk q.1 (hP k q hq).lt), va_K.moved ha hK, hD⟩, Nat.le_trans hS.1 hsz, fun q h1 h2 => (hk q (Nat.lt_of_lt_of_le h1 hS.1)).trans (hS.2.1 q h1 h2)⟩) hS.2.2 (Nat.le_of_ble_eq_true rfl) (Nat.le_of_ble_eq_true rfl)
end
section
def wp_X1_thrown (post : Int32 → Prop) (B_thrown : Int32) (B_buffer : Nat → Int32) (B_words : Nat → Int32) (B_serials : Nat → Int32) (B_lengths : Nat → Int32) (B_kinds : Nat → Int32) (B_owners : Nat → Int32) (B_olders : Nat → Int32) (B_links : Nat → Int32) (B_voids : Nat → Int32) (B_base : Int32) (B_count : Int32) (B_first : Int32) (B_forced : Int32) (B_end : Int32) (B_closed : Int32) (B_left : Int32) (B_begun : Int32) (B_begunLength : Int32) : Prop :=
  post B_thrown
set_option maxHeartbeats 4000000 in
set_option maxRecDepth 100000 in
theorem met_X1_thrown (l : Launch) (dC : Nat → ClassId) (dI : Nat → Nat → Nat) (qB qB_buffer qB_words qB_serials qB_lengths qB_kinds qB_owners qB_olders qB_links qB_voids : Nat) (cB_buffer cB_words cB_serials cB_lengths cB_kinds cB_owners cB_olders cB_links cB_voids : ClassId) (B_thrown : Int32) (B_buffer : Nat → Int32) (B_words : Nat → Int32) (B_serials : Nat → Int32) (B_lengths : Nat → Int32) (B_kinds : Nat → Int32) (B_owners : Nat → Int32) (B_olders : Nat → Int32) (B_links : Nat → Int32) (B_voids : Nat → Int32) (B_base : Int32) (B_count : Int32) (B_first : Int32) (B_forced : Int32) (B_end : Int32) (B_closed : Int32) (B_left : Int32) (B_begun : Int32) (B_begunLength : Int32) (post : Int32 → Prop) (hw : wp_X1_thrown post B_thrown B_buffer B_words B_serials B_lengths B_kinds B_owners B_olders B_links B_voids B_base B_count B_first B_forced B_end B_closed B_left B_begun B_begunLength) :
    Met l yX1_thrown wsX1_thrown ({ frames := 0, cells := 0, slots := 0, locals := 0 } : Room) (pcR_B dC dI qB qB_buffer qB_words qB_serials qB_lengths qB_kinds qB_owners qB_olders qB_links qB_voids cB_buffer cB_words cB_serials cB_lengths cB_kinds cB_owners cB_olders cB_links cB_voids B_thrown B_buffer B_words B_serials B_lengths B_kinds B_owners B_olders B_links B_voids B_base B_count B_first B_forced B_end B_closed B_left B_begun B_begunLength [.ref qB]) (vp_Si post) 0 0 (fun _ => False) := by
  refine Met.ofW (cc := cX1_thrown) (maxL := 1) (ret := (some .int)) (by decide) rfl ?_
  intro p e s m args below meth c s₁ B hml hv
  obtain ⟨hav, hP, hK⟩ := hv
  have hx := B.exec
  have hb := B.bytes
  have hr := B.returns
  have hts := atoms_spec (ws := wsX1_thrown) B.pre
  have hbg : ∀ w ∈ bigW, w.before args s = true := fun w h => hts w (List.mem_cons_of_mem _ h)
  have hown : s.vm.findClass RX1 = some m.cls := findClass_of_methodNamed B.named
  have hlocks := B.notSynchronized
  have hP : va_P (dC, dI) vwCl [(qB, .inr (1, [.int B_thrown, .ref qB_buffer, .ref qB_words, .ref qB_serials, .ref qB_lengths, .ref qB_kinds, .ref qB_owners, .ref qB_olders, .ref qB_links, .ref qB_voids, .int B_base, .int B_count, .int B_first, .int B_forced, .int B_end, .int B_closed, .int B_left, .int B_begun, .int B_begunLength])), (qB_buffer, .inl (cB_buffer, 200, .inl B_buffer)), (qB_words, .inl (cB_words, 65536, .inl B_words)), (qB_serials, .inl (cB_serials, 4400, .inl B_serials)), (qB_lengths, .inl (cB_lengths, 4400, .inl B_lengths)), (qB_kinds, .inl (cB_kinds, 4400, .inl B_kinds)), (qB_owners, .inl (cB_owners, 4400, .inl B_owners)), (qB_olders, .inl (cB_olders, 4400, .inl B_olders)), (qB_links, .inl (cB_links, 4400, .inl B_links)), (qB_voids, .inl (cB_voids, 4400, .inl B_voids))] s.heap := hP
  generalize hQQ : MQ below (vp_Si post) args s 0 0 (fun _ => False) = QQ
  have hl := lv_entry ([.ref qB]) (n := 1) (Nat.le_of_ble_eq_true rfl)
  rw [show entryFrame m args 1 = entryFrame m ([.ref qB] : List Value).toArray 1 by rw [hav], lg_entry_eq]
  generalize (lg_sl ([.ref qB]) ++ List.replicate (1 - (lg_sl ([.ref qB])).length) Slot.unset).toArray = ls at hl ⊢
  have hl : lv_has ls 1 [(0, .ref qB)] := hl
  unfold wp_X1_thrown at hw
  refine lv_aload_n hx hb dX1_thrown_0 rfl (lv_at hl 0 rfl) ?_
  refine va_get (D := (dC, dI)) (ci := 1) (v := .int B_thrown) (C := RX1) (T := TX1) (N := 19) hx hb hbg in_X1 hown hK hP 0 rfl rfl 0 (by decide) (hbg _ kw_64) (fun _ h9 => h9) rfl dX1_thrown_1 ?_
  subst hQQ
  exact W.iret (v := B_thrown) hx hb hr (fun t ht _ => ⟨B_thrown, rfl, hw, ht⟩) (by simp) dX1_thrown_4
def wp_X1_in (post : Int32 → Prop) (x0 : Int32) (x1 : Int32) (x2 : Int32) : Prop :=
  ((x0 < x1 → post (0 : Int32)) ∧ (¬ x0 < x1 → ((x2 < x0 → post (0 : Int32)) ∧ (¬ x2 < x0 → post (1 : Int32)))))
set_option maxHeartbeats 4000000 in
set_option maxRecDepth 100000 in
theorem met_X1_in (l : Launch) (dC : Nat → ClassId) (dI : Nat → Nat → Nat) (x0 : Int32) (x1 : Int32) (x2 : Int32) (post : Int32 → Prop) (hw : wp_X1_in post x0 x1 x2) :
    Met l yX1_in wsX1_in ({ frames := 0, cells := 0, slots := 0, locals := 0 } : Room) (pcR_N dC dI   [.int x0, .int x1, .int x2]) (vp_Si post) 0 0 (fun _ => False) := by
  refine Met.ofW (cc := cX1_in) (maxL := 3) (ret := (some .boolean)) (by decide) rfl ?_
  intro p e s m args below meth c s₁ B hml hv
  obtain ⟨hav, hP, hK⟩ := hv
  have hx := B.exec
  have hb := B.bytes
  have hr := B.returns
  have hts := atoms_spec (ws := wsX1_in) B.pre
  have hbg : ∀ w ∈ bigW, w.before args s = true := fun w h => hts w (List.mem_cons_of_mem _ h)
  have hown : s.vm.findClass RX1 = some m.cls := findClass_of_methodNamed B.named
  have hlocks := B.notSynchronized
  have hP : va_P (dC, dI) vwCl [] s.heap := hP
  generalize hQQ : MQ below (vp_Si post) args s 0 0 (fun _ => False) = QQ
  have hl := lv_entry ([.int x0, .int x1, .int x2]) (n := 3) (Nat.le_of_ble_eq_true rfl)
  rw [show entryFrame m args 3 = entryFrame m ([.int x0, .int x1, .int x2] : List Value).toArray 3 by rw [hav], lg_entry_eq]
  generalize (lg_sl ([.int x0, .int x1, .int x2]) ++ List.replicate (3 - (lg_sl ([.int x0, .int x1, .int x2])).length) Slot.unset).toArray = ls at hl ⊢
  have hl : lv_has ls 3 [(0, .int x0), (1, .int x1), (2, .int x2)] := hl
  unfold wp_X1_in at hw
  refine lv_iload_n hx hb dX1_in_0 rfl (lv_at hl 0 rfl) ?_
  refine lv_iload_n hx hb dX1_in_1 rfl (lv_at hl 1 rfl) ?_
  refine lv_icmp_lt (tgt := 14) hx hb dX1_in_2 (by decide) (fun c9 => ?_) (fun c9 => ?_)
  · have hw := hw.1 c9
    refine lv_iconst (v := (0 : Int32)) hx hb dX1_in_14 (by decide) ?_
    subst hQQ
    exact W.zret (v := (0 : Int32)) hx hb hr rfl (fun t ht _ => ⟨(0 : Int32), rfl, hw, ht⟩) (by simp) dX1_in_15
  · have hw := hw.2 c9
    refine lv_iload_n hx hb dX1_in_5 rfl (lv_at hl 0 rfl) ?_
    refine lv_iload_n hx hb dX1_in_6 rfl (lv_at hl 2 rfl) ?_
    refine lv_icmp_gt (tgt := 14) hx hb dX1_in_7 (by decide) (fun c9 => ?_) (fun c9 => ?_)
    · have hw := hw.1 c9
      refine lv_iconst (v := (0 : Int32)) hx hb dX1_in_14 (by decide) ?_
      subst hQQ
      exact W.zret (v := (0 : Int32)) hx hb hr rfl (fun t ht _ => ⟨(0 : Int32), rfl, hw, ht⟩) (by simp) dX1_in_15
    · have hw := hw.2 c9
      refine lv_iconst (v := (1 : Int32)) hx hb dX1_in_10 (by decide) ?_
      refine lv_goto (tgt := 15) hx hb dX1_in_11 (by decide) ?_
      subst hQQ
      exact W.zret (v := (1 : Int32)) hx hb hr rfl (fun t ht _ => ⟨(1 : Int32), rfl, hw, ht⟩) (by simp) dX1_in_15
def wl_X1_rowOf_7 (post : Int32 → Prop) (B_thrown : Int32) (B_buffer : Nat → Int32) (B_words : Nat → Int32) (B_serials : Nat → Int32) (B_lengths : Nat → Int32) (B_kinds : Nat → Int32) (B_owners : Nat → Int32) (B_olders : Nat → Int32) (B_links : Nat → Int32) (B_voids : Nat → Int32) (B_base : Int32) (B_count : Int32) (B_first : Int32) (B_forced : Int32) (B_end : Int32) (B_closed : Int32) (B_left : Int32) (B_begun : Int32) (B_begunLength : Int32) (k7_1 : Int32) : Nat → Int32 → Int32 → Prop
  | 0, _, _ => False
  | n7 + 1, y7_2, y7_3 =>
    ((B_count ≤ y7_3 → post y7_2) ∧ (¬ B_count ≤ y7_3 → vp_in y7_3 4400 ∧ ((((B_serials y7_3.toNatClampNeg) = k7_1 → vp_in y7_3 4400 ∧ ((((B_voids y7_3.toNatClampNeg) = (0 : Int32) → wl_X1_rowOf_7 post B_thrown B_buffer B_words B_serials B_lengths B_kinds B_owners B_olders B_links B_voids B_base B_count B_first B_forced B_end B_closed B_left B_begun B_begunLength k7_1 n7 y7_3 (y7_3 + (1 : Int32))) ∧ (¬ (B_voids y7_3.toNatClampNeg) = (0 : Int32) → wl_X1_rowOf_7 post B_thrown B_buffer B_words B_serials B_lengths B_kinds B_owners B_olders B_links B_voids B_base B_count B_first B_forced B_end B_closed B_left B_begun B_begunLength k7_1 n7 y7_2 (y7_3 + (1 : Int32)))))) ∧ (¬ (B_serials y7_3.toNatClampNeg) = k7_1 → wl_X1_rowOf_7 post B_thrown B_buffer B_words B_serials B_lengths B_kinds B_owners B_olders B_links B_voids B_base B_count B_first B_forced B_end B_closed B_left B_begun B_begunLength k7_1 n7 y7_2 (y7_3 + (1 : Int32)))))))
def wp_X1_rowOf (post : Int32 → Prop) (x1 : Int32) (B_thrown : Int32) (B_buffer : Nat → Int32) (B_words : Nat → Int32) (B_serials : Nat → Int32) (B_lengths : Nat → Int32) (B_kinds : Nat → Int32) (B_owners : Nat → Int32) (B_olders : Nat → Int32) (B_links : Nat → Int32) (B_voids : Nat → Int32) (B_base : Int32) (B_count : Int32) (B_first : Int32) (B_forced : Int32) (B_end : Int32) (B_closed : Int32) (B_left : Int32) (B_begun : Int32) (B_begunLength : Int32) : Prop :=
  ∃ n, wl_X1_rowOf_7 post B_thrown B_buffer B_words B_serials B_lengths B_kinds B_owners B_olders B_links B_voids B_base B_count B_first B_forced B_end B_closed B_left B_begun B_begunLength x1 n (-1 : Int32) B_base
set_option maxHeartbeats 4000000 in
set_option maxRecDepth 100000 in
theorem met_X1_rowOf (l : Launch) (dC : Nat → ClassId) (dI : Nat → Nat → Nat) (qB qB_buffer qB_words qB_serials qB_lengths qB_kinds qB_owners qB_olders qB_links qB_voids : Nat) (cB_buffer cB_words cB_serials cB_lengths cB_kinds cB_owners cB_olders cB_links cB_voids : ClassId) (B_thrown : Int32) (B_buffer : Nat → Int32) (B_words : Nat → Int32) (B_serials : Nat → Int32) (B_lengths : Nat → Int32) (B_kinds : Nat → Int32) (B_owners : Nat → Int32) (B_olders : Nat → Int32) (B_links : Nat → Int32) (B_voids : Nat → Int32) (B_base : Int32) (B_count : Int32) (B_first : Int32) (B_forced : Int32) (B_end : Int32) (B_closed : Int32) (B_left : Int32) (B_begun : Int32) (B_begunLength : Int32) (x1 : Int32) (post : Int32 → Prop) (hw : wp_X1_rowOf post x1 B_thrown B_buffer B_words B_serials B_lengths B_kinds B_owners B_olders B_links B_voids B_base B_count B_first B_forced B_end B_closed B_left B_begun B_begunLength) :
    Met l yX1_rowOf wsX1_rowOf ({ frames := 0, cells := 0, slots := 0, locals := 0 } : Room) (pcR_B dC dI qB qB_buffer qB_words qB_serials qB_lengths qB_kinds qB_owners qB_olders qB_links qB_voids cB_buffer cB_words cB_serials cB_lengths cB_kinds cB_owners cB_olders cB_links cB_voids B_thrown B_buffer B_words B_serials B_lengths B_kinds B_owners B_olders B_links B_voids B_base B_count B_first B_forced B_end B_closed B_left B_begun B_begunLength [.ref qB, .int x1]) (vp_Si post) 0 0 (fun _ => False) := by
  refine Met.ofW (cc := cX1_rowOf) (maxL := 4) (ret := (some .int)) (by decide) rfl ?_
  intro p e s m args below meth c s₁ B hml hv
  obtain ⟨hav, hP, hK⟩ := hv
  have hx := B.exec
  have hb := B.bytes
  have hr := B.returns
  have hts := atoms_spec (ws := wsX1_rowOf) B.pre
  have hbg : ∀ w ∈ bigW, w.before args s = true := fun w h => hts w (List.mem_cons_of_mem _ h)
  have hown : s.vm.findClass RX1 = some m.cls := findClass_of_methodNamed B.named
  have hlocks := B.notSynchronized
  have hP : va_P (dC, dI) vwCl [(qB, .inr (1, [.int B_thrown, .ref qB_buffer, .ref qB_words, .ref qB_serials, .ref qB_lengths, .ref qB_kinds, .ref qB_owners, .ref qB_olders, .ref qB_links, .ref qB_voids, .int B_base, .int B_count, .int B_first, .int B_forced, .int B_end, .int B_closed, .int B_left, .int B_begun, .int B_begunLength])), (qB_buffer, .inl (cB_buffer, 200, .inl B_buffer)), (qB_words, .inl (cB_words, 65536, .inl B_words)), (qB_serials, .inl (cB_serials, 4400, .inl B_serials)), (qB_lengths, .inl (cB_lengths, 4400, .inl B_lengths)), (qB_kinds, .inl (cB_kinds, 4400, .inl B_kinds)), (qB_owners, .inl (cB_owners, 4400, .inl B_owners)), (qB_olders, .inl (cB_olders, 4400, .inl B_olders)), (qB_links, .inl (cB_links, 4400, .inl B_links)), (qB_voids, .inl (cB_voids, 4400, .inl B_voids))] s.heap := hP
  generalize hQQ : MQ below (vp_Si post) args s 0 0 (fun _ => False) = QQ
  have hl := lv_entry ([.ref qB, .int x1]) (n := 4) (Nat.le_of_ble_eq_true rfl)
  rw [show entryFrame m args 4 = entryFrame m ([.ref qB, .int x1] : List Value).toArray 4 by rw [hav], lg_entry_eq]
  generalize (lg_sl ([.ref qB, .int x1]) ++ List.replicate (4 - (lg_sl ([.ref qB, .int x1])).length) Slot.unset).toArray = ls at hl ⊢
  have hl : lv_has ls 4 [(0, .ref qB), (1, .int x1)] := hl
  unfold wp_X1_rowOf at hw
  have hL7 : ∀ (n7 : Nat) (k7_1 : Int32) (y7_2 : Int32) (y7_3 : Int32), wl_X1_rowOf_7 post B_thrown B_buffer B_words B_serials B_lengths B_kinds B_owners B_olders B_links B_voids B_base B_count B_first B_forced B_end B_closed B_left B_begun B_begunLength k7_1 n7 y7_2 y7_3 → ∀ ls : Array Slot, lv_has ls 4 [(0, .ref qB), (1, .int k7_1), (2, .int y7_2), (3, .int y7_3)] → W p l e (headSpec wsX1_rowOf ({ frames := 0, cells := 0, slots := 0, locals := 0 } : Room)).room s m args below meth c s.heap [] 0 0 QQ (F0 m 7 ls []) := by
    intro n7
    induction n7 with
    | zero => intro k7_1 y7_2 y7_3 hw; exact False.elim hw
    | succ n7 ih7 =>
      intro k7_1 y7_2 y7_3 hw ls hl
      rw [wl_X1_rowOf_7] at hw
      refine lv_iload_n hx hb dX1_rowOf_7 rfl (lv_at hl 3 rfl) ?_
      refine lv_aload_n hx hb dX1_rowOf_8 rfl (lv_at hl 0 rfl) ?_
      refine va_get (D := (dC, dI)) (ci := 1) (v := .int B_count) (C := RX1) (T := TX1) (N := 19) hx hb hbg in_X1 hown hK hP 0 rfl rfl 11 (by decide) (hbg _ kw_66) (fun _ h9 => h9) rfl dX1_rowOf_9 ?_
      refine lv_icmp_ge (tgt := 46) hx hb dX1_rowOf_12 (by decide) (fun c9 => ?_) (fun c9 => ?_)
      · have hw := hw.1 c9
        refine lv_iload_n hx hb dX1_rowOf_46 rfl (lv_at hl 2 rfl) ?_
        subst hQQ
        exact W.iret (v := y7_2) hx hb hr (fun t ht _ => ⟨y7_2, rfl, hw, ht⟩) (by simp) dX1_rowOf_47
      · have hw := hw.2 c9
        refine lv_aload_n hx hb dX1_rowOf_15 rfl (lv_at hl 0 rfl) ?_
        refine va_get (D := (dC, dI)) (ci := 1) (v := .ref qB_serials) (C := RX1) (T := TX1) (N := 19) hx hb hbg in_X1 hown hK hP 0 rfl rfl 3 (by decide) (hbg _ kw_67) (fun _ h9 => h9) rfl dX1_rowOf_16 ?_
        refine lv_iload_n hx hb dX1_rowOf_19 rfl (lv_at hl 3 rfl) ?_
        obtain ⟨h_1, hw⟩ := hw
        refine va_iald hx hb hK hP 3 2 rfl rfl h_1 dX1_rowOf_20 ?_
        refine lv_iload_n hx hb dX1_rowOf_21 rfl (lv_at hl 1 rfl) ?_
        refine lv_icmp_ne (tgt := 38) hx hb dX1_rowOf_22 (by decide) (fun c9 => ?_) (fun c9 => ?_)
        · have hw := hw.2 c9
          refine lv_iload_n hx hb dX1_rowOf_38 rfl (lv_at hl 2 rfl) ?_
          refine lv_istore_n (lv' := [(2, .int y7_2), (0, .ref qB), (1, .int k7_1), (3, .int y7_3)]) hx hb dX1_rowOf_39 rfl hl (by decide) rfl (fun ls hl => ?_)
          refine lv_iinc (v := y7_3 + (1 : Int32)) (lv' := [(3, .int (y7_3 + (1 : Int32))), (2, .int y7_2), (0, .ref qB), (1, .int k7_1)]) hx hb dX1_rowOf_40 hl (k := 3) rfl rfl (by decide) rfl (fun ls hl => ?_)
          refine lv_goto (tgt := 7) hx hb dX1_rowOf_43 (by decide) ?_
          exact ih7 k7_1 y7_2 (y7_3 + (1 : Int32)) hw ls (lv_sub hl [2, 3, 1, 0] rfl)
        · have hw := hw.1 c9
          refine lv_aload_n hx hb dX1_rowOf_25 rfl (lv_at hl 0 rfl) ?_
          refine va_get (D := (dC, dI)) (ci := 1) (v := .ref qB_voids) (C := RX1) (T := TX1) (N := 19) hx hb hbg in_X1 hown hK hP 0 rfl rfl 9 (by decide) (hbg _ kw_68) (fun _ h9 => h9) rfl dX1_rowOf_26 ?_
          refine lv_iload_n hx hb dX1_rowOf_29 rfl (lv_at hl 3 rfl) ?_
          obtain ⟨h_2, hw⟩ := hw
          refine va_zald hx hb hK hP 9 8 rfl rfl h_2 dX1_rowOf_30 ?_
          refine lv_if_ne (tgt := 38) hx hb dX1_rowOf_31 (by decide) (fun c9 => ?_) (fun c9 => ?_)
          · have hw := hw.2 c9
            refine lv_iload_n hx hb dX1_rowOf_38 rfl (lv_at hl 2 rfl) ?_
            refine lv_istore_n (lv' := [(2, .int y7_2), (0, .ref qB), (1, .int k7_1), (3, .int y7_3)]) hx hb dX1_rowOf_39 rfl hl (by decide) rfl (fun ls hl => ?_)
            refine lv_iinc (v := y7_3 + (1 : Int32)) (lv' := [(3, .int (y7_3 + (1 : Int32))), (2, .int y7_2), (0, .ref qB), (1, .int k7_1)]) hx hb dX1_rowOf_40 hl (k := 3) rfl rfl (by decide) rfl (fun ls hl => ?_)
            refine lv_goto (tgt := 7) hx hb dX1_rowOf_43 (by decide) ?_
            exact ih7 k7_1 y7_2 (y7_3 + (1 : Int32)) hw ls (lv_sub hl [2, 3, 1, 0] rfl)
          · have hw := hw.1 c9
            refine lv_iload_n hx hb dX1_rowOf_34 rfl (lv_at hl 3 rfl) ?_
            refine lv_goto (tgt := 39) hx hb dX1_rowOf_35 (by decide) ?_
            refine lv_istore_n (lv' := [(2, .int y7_3), (0, .ref qB), (1, .int k7_1), (3, .int y7_3)]) hx hb dX1_rowOf_39 rfl hl (by decide) rfl (fun ls hl => ?_)
            refine lv_iinc (v := y7_3 + (1 : Int32)) (lv' := [(3, .int (y7_3 + (1 : Int32))), (2, .int y7_3), (0, .ref qB), (1, .int k7_1)]) hx hb dX1_rowOf_40 hl (k := 3) rfl rfl (by decide) rfl (fun ls hl => ?_)
            refine lv_goto (tgt := 7) hx hb dX1_rowOf_43 (by decide) ?_
            exact ih7 k7_1 y7_3 (y7_3 + (1 : Int32)) hw ls (lv_sub hl [2, 3, 1, 0] rfl)
  refine lv_iconst (v := (-1 : Int32)) hx hb dX1_rowOf_0 (by decide) ?_
  refine lv_istore_n (lv' := [(2, .int (-1 : Int32)), (0, .ref qB), (1, .int x1)]) hx hb dX1_rowOf_1 rfl hl (by decide) rfl (fun ls hl => ?_)
  refine lv_aload_n hx hb dX1_rowOf_2 rfl (lv_at hl 1 rfl) ?_
  refine va_get (D := (dC, dI)) (ci := 1) (v := .int B_base) (C := RX1) (T := TX1) (N := 19) hx hb hbg in_X1 hown hK hP 0 rfl rfl 10 (by decide) (hbg _ kw_65) (fun _ h9 => h9) rfl dX1_rowOf_3 ?_
  refine lv_istore_n (lv' := [(3, .int B_base), (2, .int (-1 : Int32)), (0, .ref qB), (1, .int x1)]) hx hb dX1_rowOf_6 rfl hl (by decide) rfl (fun ls hl => ?_)
  obtain ⟨n9, hw⟩ := hw
  exact hL7 n9 x1 (-1 : Int32) B_base hw ls (lv_sub hl [2, 3, 1, 0] rfl)
def wl_X1_latestOf_7 (post : Int32 → Prop) (B_thrown : Int32) (B_buffer : Nat → Int32) (B_words : Nat → Int32) (B_serials : Nat → Int32) (B_lengths : Nat → Int32) (B_kinds : Nat → Int32) (B_owners : Nat → Int32) (B_olders : Nat → Int32) (B_links : Nat → Int32) (B_voids : Nat → Int32) (B_base : Int32) (B_count : Int32) (B_first : Int32) (B_forced : Int32) (B_end : Int32) (B_closed : Int32) (B_left : Int32) (B_begun : Int32) (B_begunLength : Int32) (k7_1 : Int32) : Nat → Int32 → Int32 → Prop
  | 0, _, _ => False
  | n7 + 1, y7_2, y7_3 =>
    ((B_count ≤ y7_3 → post y7_2) ∧ (¬ B_count ≤ y7_3 → vp_in y7_3 4400 ∧ ((((B_voids y7_3.toNatClampNeg) = (0 : Int32) → vp_in y7_3 4400 ∧ ((((B_owners y7_3.toNatClampNeg) = k7_1 → vp_in y7_3 4400 ∧ (wl_X1_latestOf_7 post B_thrown B_buffer B_words B_serials B_lengths B_kinds B_owners B_olders B_links B_voids B_base B_count B_first B_forced B_end B_closed B_left B_begun B_begunLength k7_1 n7 (B_serials y7_3.toNatClampNeg) (y7_3 + (1 : Int32)))) ∧ (¬ (B_owners y7_3.toNatClampNeg) = k7_1 → wl_X1_latestOf_7 post B_thrown B_buffer B_words B_serials B_lengths B_kinds B_owners B_olders B_links B_voids B_base B_count B_first B_forced B_end B_closed B_left B_begun B_begunLength k7_1 n7 y7_2 (y7_3 + (1 : Int32)))))) ∧ (¬ (B_voids y7_3.toNatClampNeg) = (0 : Int32) → wl_X1_latestOf_7 post B_thrown B_buffer B_words B_serials B_lengths B_kinds B_owners B_olders B_links B_voids B_base B_count B_first B_forced B_end B_closed B_left B_begun B_begunLength k7_1 n7 y7_2 (y7_3 + (1 : Int32)))))))
def wp_X1_latestOf (post : Int32 → Prop) (x1 : Int32) (B_thrown : Int32) (B_buffer : Nat → Int32) (B_words : Nat → Int32) (B_serials : Nat → Int32) (B_lengths : Nat → Int32) (B_kinds : Nat → Int32) (B_owners : Nat → Int32) (B_olders : Nat → Int32) (B_links : Nat → Int32) (B_voids : Nat → Int32) (B_base : Int32) (B_count : Int32) (B_first : Int32) (B_forced : Int32) (B_end : Int32) (B_closed : Int32) (B_left : Int32) (B_begun : Int32) (B_begunLength : Int32) : Prop :=
  ∃ n, wl_X1_latestOf_7 post B_thrown B_buffer B_words B_serials B_lengths B_kinds B_owners B_olders B_links B_voids B_base B_count B_first B_forced B_end B_closed B_left B_begun B_begunLength x1 n (-1 : Int32) B_base
set_option maxHeartbeats 4000000 in
set_option maxRecDepth 100000 in
theorem met_X1_latestOf (l : Launch) (dC : Nat → ClassId) (dI : Nat → Nat → Nat) (qB qB_buffer qB_words qB_serials qB_lengths qB_kinds qB_owners qB_olders qB_links qB_voids : Nat) (cB_buffer cB_words cB_serials cB_lengths cB_kinds cB_owners cB_olders cB_links cB_voids : ClassId) (B_thrown : Int32) (B_buffer : Nat → Int32) (B_words : Nat → Int32) (B_serials : Nat → Int32) (B_lengths : Nat → Int32) (B_kinds : Nat → Int32) (B_owners : Nat → Int32) (B_olders : Nat → Int32) (B_links : Nat → Int32) (B_voids : Nat → Int32) (B_base : Int32) (B_count : Int32) (B_first : Int32) (B_forced : Int32) (B_end : Int32) (B_closed : Int32) (B_left : Int32) (B_begun : Int32) (B_begunLength : Int32) (x1 : Int32) (post : Int32 → Prop) (hw : wp_X1_latestOf post x1 B_thrown B_buffer B_words B_serials B_lengths B_kinds B_owners B_olders B_links B_voids B_base B_count B_first B_forced B_end B_closed B_left B_begun B_begunLength) :
    Met l yX1_latestOf wsX1_latestOf ({ frames := 0, cells := 0, slots := 0, locals := 0 } : Room) (pcR_B dC dI qB qB_buffer qB_words qB_serials qB_lengths qB_kinds qB_owners qB_olders qB_links qB_voids cB_buffer cB_words cB_serials cB_lengths cB_kinds cB_owners cB_olders cB_links cB_voids B_thrown B_buffer B_words B_serials B_lengths B_kinds B_owners B_olders B_links B_voids B_base B_count B_first B_forced B_end B_closed B_left B_begun B_begunLength [.ref qB, .int x1]) (vp_Si post) 0 0 (fun _ => False) := by
  refine Met.ofW (cc := cX1_latestOf) (maxL := 4) (ret := (some .int)) (by decide) rfl ?_
  intro p e s m args below meth c s₁ B hml hv
  obtain ⟨hav, hP, hK⟩ := hv
  have hx := B.exec
  have hb := B.bytes
  have hr := B.returns
  have hts := atoms_spec (ws := wsX1_latestOf) B.pre
  have hbg : ∀ w ∈ bigW, w.before args s = true := fun w h => hts w (List.mem_cons_of_mem _ h)
  have hown : s.vm.findClass RX1 = some m.cls := findClass_of_methodNamed B.named
  have hlocks := B.notSynchronized
  have hP : va_P (dC, dI) vwCl [(qB, .inr (1, [.int B_thrown, .ref qB_buffer, .ref qB_words, .ref qB_serials, .ref qB_lengths, .ref qB_kinds, .ref qB_owners, .ref qB_olders, .ref qB_links, .ref qB_voids, .int B_base, .int B_count, .int B_first, .int B_forced, .int B_end, .int B_closed, .int B_left, .int B_begun, .int B_begunLength])), (qB_buffer, .inl (cB_buffer, 200, .inl B_buffer)), (qB_words, .inl (cB_words, 65536, .inl B_words)), (qB_serials, .inl (cB_serials, 4400, .inl B_serials)), (qB_lengths, .inl (cB_lengths, 4400, .inl B_lengths)), (qB_kinds, .inl (cB_kinds, 4400, .inl B_kinds)), (qB_owners, .inl (cB_owners, 4400, .inl B_owners)), (qB_olders, .inl (cB_olders, 4400, .inl B_olders)), (qB_links, .inl (cB_links, 4400, .inl B_links)), (qB_voids, .inl (cB_voids, 4400, .inl B_voids))] s.heap := hP
  generalize hQQ : MQ below (vp_Si post) args s 0 0 (fun _ => False) = QQ
  have hl := lv_entry ([.ref qB, .int x1]) (n := 4) (Nat.le_of_ble_eq_true rfl)
  rw [show entryFrame m args 4 = entryFrame m ([.ref qB, .int x1] : List Value).toArray 4 by rw [hav], lg_entry_eq]
  generalize (lg_sl ([.ref qB, .int x1]) ++ List.replicate (4 - (lg_sl ([.ref qB, .int x1])).length) Slot.unset).toArray = ls at hl ⊢
  have hl : lv_has ls 4 [(0, .ref qB), (1, .int x1)] := hl
  unfold wp_X1_latestOf at hw
  have hL7 : ∀ (n7 : Nat) (k7_1 : Int32) (y7_2 : Int32) (y7_3 : Int32), wl_X1_latestOf_7 post B_thrown B_buffer B_words B_serials B_lengths B_kinds B_owners B_olders B_links B_voids B_base B_count B_first B_forced B_end B_closed B_left B_begun B_begunLength k7_1 n7 y7_2 y7_3 → ∀ ls : Array Slot, lv_has ls 4 [(0, .ref qB), (1, .int k7_1), (2, .int y7_2), (3, .int y7_3)] → W p l e (headSpec wsX1_latestOf ({ frames := 0, cells := 0, slots := 0, locals := 0 } : Room)).room s m args below meth c s.heap [] 0 0 QQ (F0 m 7 ls []) := by
    intro n7
    induction n7 with
    | zero => intro k7_1 y7_2 y7_3 hw; exact False.elim hw
    | succ n7 ih7 =>
      intro k7_1 y7_2 y7_3 hw ls hl
      rw [wl_X1_latestOf_7] at hw
      refine lv_iload_n hx hb dX1_latestOf_7 rfl (lv_at hl 3 rfl) ?_
      refine lv_aload_n hx hb dX1_latestOf_8 rfl (lv_at hl 0 rfl) ?_
      refine va_get (D := (dC, dI)) (ci := 1) (v := .int B_count) (C := RX1) (T := TX1) (N := 19) hx hb hbg in_X1 hown hK hP 0 rfl rfl 11 (by decide) (hbg _ kw_66) (fun _ h9 => h9) rfl dX1_latestOf_9 ?_
      refine lv_icmp_ge (tgt := 51) hx hb dX1_latestOf_12 (by decide) (fun c9 => ?_) (fun c9 => ?_)
      · have hw := hw.1 c9
        refine lv_iload_n hx hb dX1_latestOf_51 rfl (lv_at hl 2 rfl) ?_
        subst hQQ
        exact W.iret (v := y7_2) hx hb hr (fun t ht _ => ⟨y7_2, rfl, hw, ht⟩) (by simp) dX1_latestOf_52
      · have hw := hw.2 c9
        refine lv_aload_n hx hb dX1_latestOf_15 rfl (lv_at hl 0 rfl) ?_
        refine va_get (D := (dC, dI)) (ci := 1) (v := .ref qB_voids) (C := RX1) (T := TX1) (N := 19) hx hb hbg in_X1 hown hK hP 0 rfl rfl 9 (by decide) (hbg _ kw_68) (fun _ h9 => h9) rfl dX1_latestOf_16 ?_
        refine lv_iload_n hx hb dX1_latestOf_19 rfl (lv_at hl 3 rfl) ?_
        obtain ⟨h_1, hw⟩ := hw
        refine va_zald hx hb hK hP 9 8 rfl rfl h_1 dX1_latestOf_20 ?_
        refine lv_if_ne (tgt := 43) hx hb dX1_latestOf_21 (by decide) (fun c9 => ?_) (fun c9 => ?_)
        · have hw := hw.2 c9
          refine lv_iload_n hx hb dX1_latestOf_43 rfl (lv_at hl 2 rfl) ?_
          refine lv_istore_n (lv' := [(2, .int y7_2), (0, .ref qB), (1, .int k7_1), (3, .int y7_3)]) hx hb dX1_latestOf_44 rfl hl (by decide) rfl (fun ls hl => ?_)
          refine lv_iinc (v := y7_3 + (1 : Int32)) (lv' := [(3, .int (y7_3 + (1 : Int32))), (2, .int y7_2), (0, .ref qB), (1, .int k7_1)]) hx hb dX1_latestOf_45 hl (k := 3) rfl rfl (by decide) rfl (fun ls hl => ?_)
          refine lv_goto (tgt := 7) hx hb dX1_latestOf_48 (by decide) ?_
          exact ih7 k7_1 y7_2 (y7_3 + (1 : Int32)) hw ls (lv_sub hl [2, 3, 1, 0] rfl)
        · have hw := hw.1 c9
          refine lv_aload_n hx hb dX1_latestOf_24 rfl (lv_at hl 0 rfl) ?_
          refine va_get (D := (dC, dI)) (ci := 1) (v := .ref qB_owners) (C := RX1) (T := TX1) (N := 19) hx hb hbg in_X1 hown hK hP 0 rfl rfl 6 (by decide) (hbg _ kw_69) (fun _ h9 => h9) rfl dX1_latestOf_25 ?_
          refine lv_iload_n hx hb dX1_latestOf_28 rfl (lv_at hl 3 rfl) ?_
          obtain ⟨h_2, hw⟩ := hw
          refine va_iald hx hb hK hP 6 5 rfl rfl h_2 dX1_latestOf_29 ?_
          refine lv_iload_n hx hb dX1_latestOf_30 rfl (lv_at hl 1 rfl) ?_
          refine lv_icmp_ne (tgt := 43) hx hb dX1_latestOf_31 (by decide) (fun c9 => ?_) (fun c9 => ?_)
          · have hw := hw.2 c9
            refine lv_iload_n hx hb dX1_latestOf_43 rfl (lv_at hl 2 rfl) ?_
            refine lv_istore_n (lv' := [(2, .int y7_2), (0, .ref qB), (1, .int k7_1), (3, .int y7_3)]) hx hb dX1_latestOf_44 rfl hl (by decide) rfl (fun ls hl => ?_)
            refine lv_iinc (v := y7_3 + (1 : Int32)) (lv' := [(3, .int (y7_3 + (1 : Int32))), (2, .int y7_2), (0, .ref qB), (1, .int k7_1)]) hx hb dX1_latestOf_45 hl (k := 3) rfl rfl (by decide) rfl (fun ls hl => ?_)
            refine lv_goto (tgt := 7) hx hb dX1_latestOf_48 (by decide) ?_
            exact ih7 k7_1 y7_2 (y7_3 + (1 : Int32)) hw ls (lv_sub hl [2, 3, 1, 0] rfl)
          · have hw := hw.1 c9
            refine lv_aload_n hx hb dX1_latestOf_34 rfl (lv_at hl 0 rfl) ?_
            refine va_get (D := (dC, dI)) (ci := 1) (v := .ref qB_serials) (C := RX1) (T := TX1) (N := 19) hx hb hbg in_X1 hown hK hP 0 rfl rfl 3 (by decide) (hbg _ kw_67) (fun _ h9 => h9) rfl dX1_latestOf_35 ?_
            refine lv_iload_n hx hb dX1_latestOf_38 rfl (lv_at hl 3 rfl) ?_
            obtain ⟨h_3, hw⟩ := hw
            refine va_iald hx hb hK hP 3 2 rfl rfl h_3 dX1_latestOf_39 ?_
            refine lv_goto (tgt := 44) hx hb dX1_latestOf_40 (by decide) ?_
            refine lv_istore_n (lv' := [(2, .int (B_serials y7_3.toNatClampNeg)), (0, .ref qB), (1, .int k7_1), (3, .int y7_3)]) hx hb dX1_latestOf_44 rfl hl (by decide) rfl (fun ls hl => ?_)
            refine lv_iinc (v := y7_3 + (1 : Int32)) (lv' := [(3, .int (y7_3 + (1 : Int32))), (2, .int (B_serials y7_3.toNatClampNeg)), (0, .ref qB), (1, .int k7_1)]) hx hb dX1_latestOf_45 hl (k := 3) rfl rfl (by decide) rfl (fun ls hl => ?_)
            refine lv_goto (tgt := 7) hx hb dX1_latestOf_48 (by decide) ?_
            exact ih7 k7_1 (B_serials y7_3.toNatClampNeg) (y7_3 + (1 : Int32)) hw ls (lv_sub hl [2, 3, 1, 0] rfl)
  refine lv_iconst (v := (-1 : Int32)) hx hb dX1_latestOf_0 (by decide) ?_
  refine lv_istore_n (lv' := [(2, .int (-1 : Int32)), (0, .ref qB), (1, .int x1)]) hx hb dX1_latestOf_1 rfl hl (by decide) rfl (fun ls hl => ?_)
  refine lv_aload_n hx hb dX1_latestOf_2 rfl (lv_at hl 1 rfl) ?_
  refine va_get (D := (dC, dI)) (ci := 1) (v := .int B_base) (C := RX1) (T := TX1) (N := 19) hx hb hbg in_X1 hown hK hP 0 rfl rfl 10 (by decide) (hbg _ kw_65) (fun _ h9 => h9) rfl dX1_latestOf_3 ?_
  refine lv_istore_n (lv' := [(3, .int B_base), (2, .int (-1 : Int32)), (0, .ref qB), (1, .int x1)]) hx hb dX1_latestOf_6 rfl hl (by decide) rfl (fun ls hl => ?_)
  obtain ⟨n9, hw⟩ := hw
  exact hL7 n9 x1 (-1 : Int32) B_base hw ls (lv_sub hl [2, 3, 1, 0] rfl)
end
section
def wc_X1_refused_26 (post : Int32 → St_B → Prop) (k26_1 : Int32) (k26_2 : Int32) (k26_3 : Int32) (z26_0 : Int32) (B_thrown_L26 : Int32) (B_buffer_L26 : Nat → Int32) (B_words_L26 : Nat → Int32) (B_serials_L26 : Nat → Int32) (B_lengths_L26 : Nat → Int32) (B_kinds_L26 : Nat → Int32) (B_owners_L26 : Nat → Int32) (B_olders_L26 : Nat → Int32) (B_links_L26 : Nat → Int32) (B_voids_L26 : Nat → Int32) (B_base_L26 : Int32) (B_count_L26 : Int32) (B_first_L26 : Int32) (B_forced_L26 : Int32) (B_end_L26 : Int32) (B_closed_L26 : Int32) (B_left_L26 : Int32) (B_begun_L26 : Int32) (B_begunLength_L26 : Int32) : Prop :=
    ((z26_0 ≤ (0 : Int32) → post (0 : Int32) (z26_0, B_buffer_L26, B_words_L26, B_serials_L26, B_lengths_L26, B_kinds_L26, B_owners_L26, B_olders_L26, B_links_L26, B_voids_L26, B_base_L26, B_count_L26, B_first_L26, B_forced_L26, B_end_L26, B_closed_L26, B_left_L26, B_begun_L26, B_begunLength_L26)) ∧ (¬ z26_0 ≤ (0 : Int32) → post (1 : Int32) (z26_0, B_buffer_L26, B_words_L26, B_serials_L26, B_lengths_L26, B_kinds_L26, B_owners_L26, B_olders_L26, B_links_L26, B_voids_L26, B_base_L26, B_count_L26, B_first_L26, B_forced_L26, B_end_L26, B_closed_L26, B_left_L26, B_begun_L26, B_begunLength_L26)))
def wp_X1_refused (post : Int32 → St_B → Prop) (x1 : Int32) (x2 : Int32) (x3 : Int32) (B_thrown : Int32) (B_buffer : Nat → Int32) (B_words : Nat → Int32) (B_serials : Nat → Int32) (B_lengths : Nat → Int32) (B_kinds : Nat → Int32) (B_owners : Nat → Int32) (B_olders : Nat → Int32) (B_links : Nat → Int32) (B_voids : Nat → Int32) (B_base : Int32) (B_count : Int32) (B_first : Int32) (B_forced : Int32) (B_end : Int32) (B_closed : Int32) (B_left : Int32) (B_begun : Int32) (B_begunLength : Int32) : Prop :=
  ((x1 = (0 : Int32) → ((x2 = (0 : Int32) → ((x3 = (0 : Int32) → wc_X1_refused_26 post x1 x2 x3 (0 : Int32) B_thrown B_buffer B_words B_serials B_lengths B_kinds B_owners B_olders B_links B_voids B_base B_count B_first B_forced B_end B_closed B_left B_begun B_begunLength) ∧ (¬ x3 = (0 : Int32) → wc_X1_refused_26 post x1 x2 x3 (3 : Int32) B_thrown B_buffer B_words B_serials B_lengths B_kinds B_owners B_olders B_links B_voids B_base B_count B_first B_forced B_end B_closed B_left B_begun B_begunLength))) ∧ (¬ x2 = (0 : Int32) → wc_X1_refused_26 post x1 x2 x3 (2 : Int32) B_thrown B_buffer B_words B_serials B_lengths B_kinds B_owners B_olders B_links B_voids B_base B_count B_first B_forced B_end B_closed B_left B_begun B_begunLength))) ∧ (¬ x1 = (0 : Int32) → wc_X1_refused_26 post x1 x2 x3 (1 : Int32) B_thrown B_buffer B_words B_serials B_lengths B_kinds B_owners B_olders B_links B_voids B_base B_count B_first B_forced B_end B_closed B_left B_begun B_begunLength))
set_option maxHeartbeats 4000000 in
set_option maxRecDepth 100000 in
theorem met_X1_refused (l : Launch) (dC : Nat → ClassId) (dI : Nat → Nat → Nat) (qB qB_buffer qB_words qB_serials qB_lengths qB_kinds qB_owners qB_olders qB_links qB_voids : Nat) (cB_buffer cB_words cB_serials cB_lengths cB_kinds cB_owners cB_olders cB_links cB_voids : ClassId) (sz : Nat) (B_thrown : Int32) (B_buffer : Nat → Int32) (B_words : Nat → Int32) (B_serials : Nat → Int32) (B_lengths : Nat → Int32) (B_kinds : Nat → Int32) (B_owners : Nat → Int32) (B_olders : Nat → Int32) (B_links : Nat → Int32) (B_voids : Nat → Int32) (B_base : Int32) (B_count : Int32) (B_first : Int32) (B_forced : Int32) (B_end : Int32) (B_closed : Int32) (B_left : Int32) (B_begun : Int32) (B_begunLength : Int32) (x1 : Int32) (x2 : Int32) (x3 : Int32) (post : Int32 → St_B → Prop) (hw : wp_X1_refused post x1 x2 x3 B_thrown B_buffer B_words B_serials B_lengths B_kinds B_owners B_olders B_links B_voids B_base B_count B_first B_forced B_end B_closed B_left B_begun B_begunLength) :
    Met l yX1_refused wsX1_refused ({ frames := 0, cells := 0, slots := 0, locals := 0 } : Room) (pcW_B dC dI qB qB_buffer qB_words qB_serials qB_lengths qB_kinds qB_owners qB_olders qB_links qB_voids cB_buffer cB_words cB_serials cB_lengths cB_kinds cB_owners cB_olders cB_links cB_voids sz B_thrown B_buffer B_words B_serials B_lengths B_kinds B_owners B_olders B_links B_voids B_base B_count B_first B_forced B_end B_closed B_left B_begun B_begunLength [.ref qB, .int x1, .int x2, .int x3]) (va_Qi post (at_B dC dI (va_A [(qB, .inr (1, [.int B_thrown, .ref qB_buffer, .ref qB_words, .ref qB_serials, .ref qB_lengths, .ref qB_kinds, .ref qB_owners, .ref qB_olders, .ref qB_links, .ref qB_voids, .int B_base, .int B_count, .int B_first, .int B_forced, .int B_end, .int B_closed, .int B_left, .int B_begun, .int B_begunLength])), (qB_buffer, .inl (cB_buffer, 200, .inl B_buffer)), (qB_words, .inl (cB_words, 65536, .inl B_words)), (qB_serials, .inl (cB_serials, 4400, .inl B_serials)), (qB_lengths, .inl (cB_lengths, 4400, .inl B_lengths)), (qB_kinds, .inl (cB_kinds, 4400, .inl B_kinds)), (qB_owners, .inl (cB_owners, 4400, .inl B_owners)), (qB_olders, .inl (cB_olders, 4400, .inl B_olders)), (qB_links, .inl (cB_links, 4400, .inl B_links)), (qB_voids, .inl (cB_voids, 4400, .inl B_voids))] sz) qB qB_buffer qB_words qB_serials qB_lengths qB_kinds qB_owners qB_olders qB_links qB_voids cB_buffer cB_words cB_serials cB_lengths cB_kinds cB_owners cB_olders cB_links cB_voids) (va_A [(qB, .inr (1, [.int B_thrown, .ref qB_buffer, .ref qB_words, .ref qB_serials, .ref qB_lengths, .ref qB_kinds, .ref qB_owners, .ref qB_olders, .ref qB_links, .ref qB_voids, .int B_base, .int B_count, .int B_first, .int B_forced, .int B_end, .int B_closed, .int B_left, .int B_begun, .int B_begunLength])), (qB_buffer, .inl (cB_buffer, 200, .inl B_buffer)), (qB_words, .inl (cB_words, 65536, .inl B_words)), (qB_serials, .inl (cB_serials, 4400, .inl B_serials)), (qB_lengths, .inl (cB_lengths, 4400, .inl B_lengths)), (qB_kinds, .inl (cB_kinds, 4400, .inl B_kinds)), (qB_owners, .inl (cB_owners, 4400, .inl B_owners)), (qB_olders, .inl (cB_olders, 4400, .inl B_olders)), (qB_links, .inl (cB_links, 4400, .inl B_links)), (qB_voids, .inl (cB_voids, 4400, .inl B_voids))] sz)) 0 0 (va_A [(qB, .inr (1, [.int B_thrown, .ref qB_buffer, .ref qB_words, .ref qB_serials, .ref qB_lengths, .ref qB_kinds, .ref qB_owners, .ref qB_olders, .ref qB_links, .ref qB_voids, .int B_base, .int B_count, .int B_first, .int B_forced, .int B_end, .int B_closed, .int B_left, .int B_begun, .int B_begunLength])), (qB_buffer, .inl (cB_buffer, 200, .inl B_buffer)), (qB_words, .inl (cB_words, 65536, .inl B_words)), (qB_serials, .inl (cB_serials, 4400, .inl B_serials)), (qB_lengths, .inl (cB_lengths, 4400, .inl B_lengths)), (qB_kinds, .inl (cB_kinds, 4400, .inl B_kinds)), (qB_owners, .inl (cB_owners, 4400, .inl B_owners)), (qB_olders, .inl (cB_olders, 4400, .inl B_olders)), (qB_links, .inl (cB_links, 4400, .inl B_links)), (qB_voids, .inl (cB_voids, 4400, .inl B_voids))] sz) := by
  refine Met.ofW (cc := cX1_refused) (maxL := 4) (ret := (some .boolean)) (by decide) rfl ?_
  intro p e s m args below meth c s₁ B hml hv
  obtain ⟨hav, hsz, hP, hK, hD0⟩ := hv
  have hx := B.exec
  have hb := B.bytes
  have hr := B.returns
  have hts := atoms_spec (ws := wsX1_refused) B.pre
  have hbg : ∀ w ∈ bigW, w.before args s = true := fun w h => hts w (List.mem_cons_of_mem _ h)
  have hown : s.vm.findClass RX1 = some m.cls := findClass_of_methodNamed B.named
  have hlocks := B.notSynchronized
  subst hsz
  have hD := hD0.self (sz := s.heap.size)
  generalize hAe : va_A [(qB, .inr (1, [.int B_thrown, .ref qB_buffer, .ref qB_words, .ref qB_serials, .ref qB_lengths, .ref qB_kinds, .ref qB_owners, .ref qB_olders, .ref qB_links, .ref qB_voids, .int B_base, .int B_count, .int B_first, .int B_forced, .int B_end, .int B_closed, .int B_left, .int B_begun, .int B_begunLength])), (qB_buffer, .inl (cB_buffer, 200, .inl B_buffer)), (qB_words, .inl (cB_words, 65536, .inl B_words)), (qB_serials, .inl (cB_serials, 4400, .inl B_serials)), (qB_lengths, .inl (cB_lengths, 4400, .inl B_lengths)), (qB_kinds, .inl (cB_kinds, 4400, .inl B_kinds)), (qB_owners, .inl (cB_owners, 4400, .inl B_owners)), (qB_olders, .inl (cB_olders, 4400, .inl B_olders)), (qB_links, .inl (cB_links, 4400, .inl B_links)), (qB_voids, .inl (cB_voids, 4400, .inl B_voids))] s.heap.size = A at hD ⊢
  have hA : ∀ q : Nat, s.heap.size ≤ q → A q := fun q h => by rw [← hAe]; exact Or.inr h
  have hS : va_S A s.heap s.heap [] := va_S.rf
  have hP : va_P (dC, dI) vwCl [(qB, .inr (1, [.int B_thrown, .ref qB_buffer, .ref qB_words, .ref qB_serials, .ref qB_lengths, .ref qB_kinds, .ref qB_owners, .ref qB_olders, .ref qB_links, .ref qB_voids, .int B_base, .int B_count, .int B_first, .int B_forced, .int B_end, .int B_closed, .int B_left, .int B_begun, .int B_begunLength])), (qB_buffer, .inl (cB_buffer, 200, .inl B_buffer)), (qB_words, .inl (cB_words, 65536, .inl B_words)), (qB_serials, .inl (cB_serials, 4400, .inl B_serials)), (qB_lengths, .inl (cB_lengths, 4400, .inl B_lengths)), (qB_kinds, .inl (cB_kinds, 4400, .inl B_kinds)), (qB_owners, .inl (cB_owners, 4400, .inl B_owners)), (qB_olders, .inl (cB_olders, 4400, .inl B_olders)), (qB_links, .inl (cB_links, 4400, .inl B_links)), (qB_voids, .inl (cB_voids, 4400, .inl B_voids))] s.heap := hP
  generalize hQQ : MQ below (va_Qi post (at_B dC dI A qB qB_buffer qB_words qB_serials qB_lengths qB_kinds qB_owners qB_olders qB_links qB_voids cB_buffer cB_words cB_serials cB_lengths cB_kinds cB_owners cB_olders cB_links cB_voids) A) args s 0 0 A = QQ
  have hl := lv_entry ([.ref qB, .int x1, .int x2, .int x3]) (n := 4) (Nat.le_of_ble_eq_true rfl)
  rw [show entryFrame m args 4 = entryFrame m ([.ref qB, .int x1, .int x2, .int x3] : List Value).toArray 4 by rw [hav], lg_entry_eq]
  generalize (lg_sl ([.ref qB, .int x1, .int x2, .int x3]) ++ List.replicate (4 - (lg_sl ([.ref qB, .int x1, .int x2, .int x3])).length) Slot.unset).toArray = ls at hl ⊢
  have hl : lv_has ls 4 [(0, .ref qB), (1, .int x1), (2, .int x2), (3, .int x3)] := hl
  unfold wp_X1_refused at hw
  have hC26 : ∀ (k26_1 : Int32) (k26_2 : Int32) (k26_3 : Int32) (z26_0 : Int32) (B_thrown_L26 : Int32) (B_buffer_L26 : Nat → Int32) (B_words_L26 : Nat → Int32) (B_serials_L26 : Nat → Int32) (B_lengths_L26 : Nat → Int32) (B_kinds_L26 : Nat → Int32) (B_owners_L26 : Nat → Int32) (B_olders_L26 : Nat → Int32) (B_links_L26 : Nat → Int32) (B_voids_L26 : Nat → Int32) (B_base_L26 : Int32) (B_count_L26 : Int32) (B_first_L26 : Int32) (B_forced_L26 : Int32) (B_end_L26 : Int32) (B_closed_L26 : Int32) (B_left_L26 : Int32) (B_begun_L26 : Int32) (B_begunLength_L26 : Int32), wc_X1_refused_26 post k26_1 k26_2 k26_3 z26_0 B_thrown_L26 B_buffer_L26 B_words_L26 B_serials_L26 B_lengths_L26 B_kinds_L26 B_owners_L26 B_olders_L26 B_links_L26 B_voids_L26 B_base_L26 B_count_L26 B_first_L26 B_forced_L26 B_end_L26 B_closed_L26 B_left_L26 B_begun_L26 B_begunLength_L26 → ∀ (H : Heap) (locs : List Loc), va_P (dC, dI) vwCl [(qB, .inr (1, [.int B_thrown_L26, .ref qB_buffer, .ref qB_words, .ref qB_serials, .ref qB_lengths, .ref qB_kinds, .ref qB_owners, .ref qB_olders, .ref qB_links, .ref qB_voids, .int B_base_L26, .int B_count_L26, .int B_first_L26, .int B_forced_L26, .int B_end_L26, .int B_closed_L26, .int B_left_L26, .int B_begun_L26, .int B_begunLength_L26])), (qB_buffer, .inl (cB_buffer, 200, .inl B_buffer_L26)), (qB_words, .inl (cB_words, 65536, .inl B_words_L26)), (qB_serials, .inl (cB_serials, 4400, .inl B_serials_L26)), (qB_lengths, .inl (cB_lengths, 4400, .inl B_lengths_L26)), (qB_kinds, .inl (cB_kinds, 4400, .inl B_kinds_L26)), (qB_owners, .inl (cB_owners, 4400, .inl B_owners_L26)), (qB_olders, .inl (cB_olders, 4400, .inl B_olders_L26)), (qB_links, .inl (cB_links, 4400, .inl B_links_L26)), (qB_voids, .inl (cB_voids, 4400, .inl B_voids_L26))] H → va_D A [(qB, .inr (1, [.int B_thrown_L26, .ref qB_buffer, .ref qB_words, .ref qB_serials, .ref qB_lengths, .ref qB_kinds, .ref qB_owners, .ref qB_olders, .ref qB_links, .ref qB_voids, .int B_base_L26, .int B_count_L26, .int B_first_L26, .int B_forced_L26, .int B_end_L26, .int B_closed_L26, .int B_left_L26, .int B_begun_L26, .int B_begunLength_L26])), (qB_buffer, .inl (cB_buffer, 200, .inl B_buffer_L26)), (qB_words, .inl (cB_words, 65536, .inl B_words_L26)), (qB_serials, .inl (cB_serials, 4400, .inl B_serials_L26)), (qB_lengths, .inl (cB_lengths, 4400, .inl B_lengths_L26)), (qB_kinds, .inl (cB_kinds, 4400, .inl B_kinds_L26)), (qB_owners, .inl (cB_owners, 4400, .inl B_owners_L26)), (qB_olders, .inl (cB_olders, 4400, .inl B_olders_L26)), (qB_links, .inl (cB_links, 4400, .inl B_links_L26)), (qB_voids, .inl (cB_voids, 4400, .inl B_voids_L26))] → va_S A s.heap H locs → ∀ ls : Array Slot, lv_has ls 4 [(0, .ref qB), (1, .int k26_1), (2, .int k26_2), (3, .int k26_3)] → W p l e (headSpec wsX1_refused ({ frames := 0, cells := 0, slots := 0, locals := 0 } : Room)).room s m args below meth c H locs 0 0 QQ (F0 m 26 ls [.int z26_0, .ref qB]) := by
    intro k26_1 k26_2 k26_3 z26_0 B_thrown_L26 B_buffer_L26 B_words_L26 B_serials_L26 B_lengths_L26 B_kinds_L26 B_owners_L26 B_olders_L26 B_links_L26 B_voids_L26 B_base_L26 B_count_L26 B_first_L26 B_forced_L26 B_end_L26 B_closed_L26 B_left_L26 B_begun_L26 B_begunLength_L26 hw H locs hP hD hS ls hl
    unfold wc_X1_refused_26 at hw
    refine va_put (D := (dC, dI)) (ci := 1) (v := .int z26_0) (ty := .int) (C := RX1) (T := TX1) (N := 19) hx hb hbg in_X1 tyX1 tyX1_ok nmX1 hown hK hP hD hS 0 rfl rfl 0 (by decide) (hbg _ kw_64) (fun _ h9 => h9) rfl (by decide +kernel) rfl rfl (Nat.le_of_ble_eq_true rfl) dX1_refused_26 (fun H_1 locs hP hD hS => ?_)
    have hP : va_P (dC, dI) vwCl [(qB, .inr (1, [.int z26_0, .ref qB_buffer, .ref qB_words, .ref qB_serials, .ref qB_lengths, .ref qB_kinds, .ref qB_owners, .ref qB_olders, .ref qB_links, .ref qB_voids, .int B_base_L26, .int B_count_L26, .int B_first_L26, .int B_forced_L26, .int B_end_L26, .int B_closed_L26, .int B_left_L26, .int B_begun_L26, .int B_begunLength_L26])), (qB_buffer, .inl (cB_buffer, 200, .inl B_buffer_L26)), (qB_words, .inl (cB_words, 65536, .inl B_words_L26)), (qB_serials, .inl (cB_serials, 4400, .inl B_serials_L26)), (qB_lengths, .inl (cB_lengths, 4400, .inl B_lengths_L26)), (qB_kinds, .inl (cB_kinds, 4400, .inl B_kinds_L26)), (qB_owners, .inl (cB_owners, 4400, .inl B_owners_L26)), (qB_olders, .inl (cB_olders, 4400, .inl B_olders_L26)), (qB_links, .inl (cB_links, 4400, .inl B_links_L26)), (qB_voids, .inl (cB_voids, 4400, .inl B_voids_L26))] H_1 := hP
    have hD : va_D A [(qB, .inr (1, [.int z26_0, .ref qB_buffer, .ref qB_words, .ref qB_serials, .ref qB_lengths, .ref qB_kinds, .ref qB_owners, .ref qB_olders, .ref qB_links, .ref qB_voids, .int B_base_L26, .int B_count_L26, .int B_first_L26, .int B_forced_L26, .int B_end_L26, .int B_closed_L26, .int B_left_L26, .int B_begun_L26, .int B_begunLength_L26])), (qB_buffer, .inl (cB_buffer, 200, .inl B_buffer_L26)), (qB_words, .inl (cB_words, 65536, .inl B_words_L26)), (qB_serials, .inl (cB_serials, 4400, .inl B_serials_L26)), (qB_lengths, .inl (cB_lengths, 4400, .inl B_lengths_L26)), (qB_kinds, .inl (cB_kinds, 4400, .inl B_kinds_L26)), (qB_owners, .inl (cB_owners, 4400, .inl B_owners_L26)), (qB_olders, .inl (cB_olders, 4400, .inl B_olders_L26)), (qB_links, .inl (cB_links, 4400, .inl B_links_L26)), (qB_voids, .inl (cB_voids, 4400, .inl B_voids_L26))] := hD
    refine lv_aload_n hx hb dX1_refused_29 rfl (lv_at hl 0 rfl) ?_
    refine va_get (D := (dC, dI)) (ci := 1) (v := .int z26_0) (C := RX1) (T := TX1) (N := 19) hx hb hbg in_X1 hown hK hP 0 rfl rfl 0 (by decide) (hbg _ kw_64) (fun _ h9 => h9) rfl dX1_refused_30 ?_
    refine lv_if_le (tgt := 40) hx hb dX1_refused_33 (by decide) (fun c9 => ?_) (fun c9 => ?_)
    · have hw := hw.1 c9
      refine lv_iconst (v := (0 : Int32)) hx hb dX1_refused_40 (by decide) ?_
      subst hQQ
      exact W.zret (v := (0 : Int32)) hx hb hr rfl (fun t ht hW => ⟨⟨(0 : Int32), (z26_0, B_buffer_L26, B_words_L26, B_serials_L26, B_lengths_L26, B_kinds_L26, B_owners_L26, B_olders_L26, B_links_L26, B_voids_L26, B_base_L26, B_count_L26, B_first_L26, B_forced_L26, B_end_L26, B_closed_L26, B_left_L26, B_begun_L26, B_begunLength_L26), rfl, hw, by rw [ht]; exact hP, va_K.moved hW.alike hK, hD⟩, hS.F ht⟩) hS.2.2 dX1_refused_41
    · have hw := hw.2 c9
      refine lv_iconst (v := (1 : Int32)) hx hb dX1_refused_36 (by decide) ?_
      refine lv_goto (tgt := 41) hx hb dX1_refused_37 (by decide) ?_
      subst hQQ
      exact W.zret (v := (1 : Int32)) hx hb hr rfl (fun t ht hW => ⟨⟨(1 : Int32), (z26_0, B_buffer_L26, B_words_L26, B_serials_L26, B_lengths_L26, B_kinds_L26, B_owners_L26, B_olders_L26, B_links_L26, B_voids_L26, B_base_L26, B_count_L26, B_first_L26, B_forced_L26, B_end_L26, B_closed_L26, B_left_L26, B_begun_L26, B_begunLength_L26), rfl, hw, by rw [ht]; exact hP, va_K.moved hW.alike hK, hD⟩, hS.F ht⟩) hS.2.2 dX1_refused_41
  refine lv_aload_n hx hb dX1_refused_0 rfl (lv_at hl 0 rfl) ?_
  refine lv_iload_n hx hb dX1_refused_1 rfl (lv_at hl 1 rfl) ?_
  refine lv_if_eq (tgt := 9) hx hb dX1_refused_2 (by decide) (fun c9 => ?_) (fun c9 => ?_)
  · have hw := hw.1 c9
    refine lv_iload_n hx hb dX1_refused_9 rfl (lv_at hl 2 rfl) ?_
    refine lv_if_eq (tgt := 17) hx hb dX1_refused_10 (by decide) (fun c9 => ?_) (fun c9 => ?_)
    · have hw := hw.1 c9
      refine lv_iload_n hx hb dX1_refused_17 rfl (lv_at hl 3 rfl) ?_
      refine lv_if_eq (tgt := 25) hx hb dX1_refused_18 (by decide) (fun c9 => ?_) (fun c9 => ?_)
      · have hw := hw.1 c9
        refine lv_iconst (v := (0 : Int32)) hx hb dX1_refused_25 (by decide) ?_
        exact hC26 x1 x2 x3 (0 : Int32) B_thrown B_buffer B_words B_serials B_lengths B_kinds B_owners B_olders B_links B_voids B_base B_count B_first B_forced B_end B_closed B_left B_begun B_begunLength hw _ _ hP hD hS ls (lv_sub hl [0, 1, 2, 3] rfl)
      · have hw := hw.2 c9
        refine lv_iconst (v := (3 : Int32)) hx hb dX1_refused_21 (by decide) ?_
        refine lv_goto (tgt := 26) hx hb dX1_refused_22 (by decide) ?_
        exact hC26 x1 x2 x3 (3 : Int32) B_thrown B_buffer B_words B_serials B_lengths B_kinds B_owners B_olders B_links B_voids B_base B_count B_first B_forced B_end B_closed B_left B_begun B_begunLength hw _ _ hP hD hS ls (lv_sub hl [0, 1, 2, 3] rfl)
    · have hw := hw.2 c9
      refine lv_iconst (v := (2 : Int32)) hx hb dX1_refused_13 (by decide) ?_
      refine lv_goto (tgt := 26) hx hb dX1_refused_14 (by decide) ?_
      exact hC26 x1 x2 x3 (2 : Int32) B_thrown B_buffer B_words B_serials B_lengths B_kinds B_owners B_olders B_links B_voids B_base B_count B_first B_forced B_end B_closed B_left B_begun B_begunLength hw _ _ hP hD hS ls (lv_sub hl [0, 1, 2, 3] rfl)
  · have hw := hw.2 c9
    refine lv_iconst (v := (1 : Int32)) hx hb dX1_refused_5 (by decide) ?_
    refine lv_goto (tgt := 26) hx hb dX1_refused_6 (by decide) ?_
    exact hC26 x1 x2 x3 (1 : Int32) B_thrown B_buffer B_words B_serials B_lengths B_kinds B_owners B_olders B_links B_voids B_base B_count B_first B_forced B_end B_closed B_left B_begun B_begunLength hw _ _ hP hD hS ls (lv_sub hl [0, 1, 2, 3] rfl)
def wp_X1_addRow (post : St_B → Prop) (x1 : Int32) (x2 : Int32) (x3 : Int32) (B_thrown : Int32) (B_buffer : Nat → Int32) (B_words : Nat → Int32) (B_serials : Nat → Int32) (B_lengths : Nat → Int32) (B_kinds : Nat → Int32) (B_owners : Nat → Int32) (B_olders : Nat → Int32) (B_links : Nat → Int32) (B_voids : Nat → Int32) (B_base : Int32) (B_count : Int32) (B_first : Int32) (B_forced : Int32) (B_end : Int32) (B_closed : Int32) (B_left : Int32) (B_begun : Int32) (B_begunLength : Int32) : Prop :=
  vp_in B_count 4400 ∧ (vp_in B_count 4400 ∧ (vp_in B_count 4400 ∧ (post (B_thrown, B_buffer, B_words, upd B_serials B_count.toNatClampNeg x1, upd B_lengths B_count.toNatClampNeg x2, B_kinds, B_owners, B_olders, B_links, upd B_voids B_count.toNatClampNeg (vp_nar .boolean x3), B_base, B_count + (1 : Int32), B_first, B_forced, B_end, B_closed, B_left, B_begun, B_begunLength))))
set_option maxHeartbeats 4000000 in
set_option maxRecDepth 100000 in
theorem met_X1_addRow (l : Launch) (dC : Nat → ClassId) (dI : Nat → Nat → Nat) (qB qB_buffer qB_words qB_serials qB_lengths qB_kinds qB_owners qB_olders qB_links qB_voids : Nat) (cB_buffer cB_words cB_serials cB_lengths cB_kinds cB_owners cB_olders cB_links cB_voids : ClassId) (sz : Nat) (B_thrown : Int32) (B_buffer : Nat → Int32) (B_words : Nat → Int32) (B_serials : Nat → Int32) (B_lengths : Nat → Int32) (B_kinds : Nat → Int32) (B_owners : Nat → Int32) (B_olders : Nat → Int32) (B_links : Nat → Int32) (B_voids : Nat → Int32) (B_base : Int32) (B_count : Int32) (B_first : Int32) (B_forced : Int32) (B_end : Int32) (B_closed : Int32) (B_left : Int32) (B_begun : Int32) (B_begunLength : Int32) (x1 : Int32) (x2 : Int32) (x3 : Int32) (post : St_B → Prop) (hw : wp_X1_addRow post x1 x2 x3 B_thrown B_buffer B_words B_serials B_lengths B_kinds B_owners B_olders B_links B_voids B_base B_count B_first B_forced B_end B_closed B_left B_begun B_begunLength) :
    Met l yX1_addRow wsX1_addRow ({ frames := 0, cells := 0, slots := 0, locals := 0 } : Room) (pcW_B dC dI qB qB_buffer qB_words qB_serials qB_lengths qB_kinds qB_owners qB_olders qB_links qB_voids cB_buffer cB_words cB_serials cB_lengths cB_kinds cB_owners cB_olders cB_links cB_voids sz B_thrown B_buffer B_words B_serials B_lengths B_kinds B_owners B_olders B_links B_voids B_base B_count B_first B_forced B_end B_closed B_left B_begun B_begunLength [.ref qB, .int x1, .int x2, .int x3]) (va_Qv post (at_B dC dI (va_A [(qB, .inr (1, [.int B_thrown, .ref qB_buffer, .ref qB_words, .ref qB_serials, .ref qB_lengths, .ref qB_kinds, .ref qB_owners, .ref qB_olders, .ref qB_links, .ref qB_voids, .int B_base, .int B_count, .int B_first, .int B_forced, .int B_end, .int B_closed, .int B_left, .int B_begun, .int B_begunLength])), (qB_buffer, .inl (cB_buffer, 200, .inl B_buffer)), (qB_words, .inl (cB_words, 65536, .inl B_words)), (qB_serials, .inl (cB_serials, 4400, .inl B_serials)), (qB_lengths, .inl (cB_lengths, 4400, .inl B_lengths)), (qB_kinds, .inl (cB_kinds, 4400, .inl B_kinds)), (qB_owners, .inl (cB_owners, 4400, .inl B_owners)), (qB_olders, .inl (cB_olders, 4400, .inl B_olders)), (qB_links, .inl (cB_links, 4400, .inl B_links)), (qB_voids, .inl (cB_voids, 4400, .inl B_voids))] sz) qB qB_buffer qB_words qB_serials qB_lengths qB_kinds qB_owners qB_olders qB_links qB_voids cB_buffer cB_words cB_serials cB_lengths cB_kinds cB_owners cB_olders cB_links cB_voids) (va_A [(qB, .inr (1, [.int B_thrown, .ref qB_buffer, .ref qB_words, .ref qB_serials, .ref qB_lengths, .ref qB_kinds, .ref qB_owners, .ref qB_olders, .ref qB_links, .ref qB_voids, .int B_base, .int B_count, .int B_first, .int B_forced, .int B_end, .int B_closed, .int B_left, .int B_begun, .int B_begunLength])), (qB_buffer, .inl (cB_buffer, 200, .inl B_buffer)), (qB_words, .inl (cB_words, 65536, .inl B_words)), (qB_serials, .inl (cB_serials, 4400, .inl B_serials)), (qB_lengths, .inl (cB_lengths, 4400, .inl B_lengths)), (qB_kinds, .inl (cB_kinds, 4400, .inl B_kinds)), (qB_owners, .inl (cB_owners, 4400, .inl B_owners)), (qB_olders, .inl (cB_olders, 4400, .inl B_olders)), (qB_links, .inl (cB_links, 4400, .inl B_links)), (qB_voids, .inl (cB_voids, 4400, .inl B_voids))] sz)) 0 0 (va_A [(qB, .inr (1, [.int B_thrown, .ref qB_buffer, .ref qB_words, .ref qB_serials, .ref qB_lengths, .ref qB_kinds, .ref qB_owners, .ref qB_olders, .ref qB_links, .ref qB_voids, .int B_base, .int B_count, .int B_first, .int B_forced, .int B_end, .int B_closed, .int B_left, .int B_begun, .int B_begunLength])), (qB_buffer, .inl (cB_buffer, 200, .inl B_buffer)), (qB_words, .inl (cB_words, 65536, .inl B_words)), (qB_serials, .inl (cB_serials, 4400, .inl B_serials)), (qB_lengths, .inl (cB_lengths, 4400, .inl B_lengths)), (qB_kinds, .inl (cB_kinds, 4400, .inl B_kinds)), (qB_owners, .inl (cB_owners, 4400, .inl B_owners)), (qB_olders, .inl (cB_olders, 4400, .inl B_olders)), (qB_links, .inl (cB_links, 4400, .inl B_links)), (qB_voids, .inl (cB_voids, 4400, .inl B_voids))] sz) := by
  refine Met.ofW (cc := cX1_addRow) (maxL := 4) (ret := none) (by decide) rfl ?_
  intro p e s m args below meth c s₁ B hml hv
  obtain ⟨hav, hsz, hP, hK, hD0⟩ := hv
  have hx := B.exec
  have hb := B.bytes
  have hr := B.returns
  have hts := atoms_spec (ws := wsX1_addRow) B.pre
  have hbg : ∀ w ∈ bigW, w.before args s = true := fun w h => hts w (List.mem_cons_of_mem _ h)
  have hown : s.vm.findClass RX1 = some m.cls := findClass_of_methodNamed B.named
  have hlocks := B.notSynchronized
  subst hsz
  have hD := hD0.self (sz := s.heap.size)
  generalize hAe : va_A [(qB, .inr (1, [.int B_thrown, .ref qB_buffer, .ref qB_words, .ref qB_serials, .ref qB_lengths, .ref qB_kinds, .ref qB_owners, .ref qB_olders, .ref qB_links, .ref qB_voids, .int B_base, .int B_count, .int B_first, .int B_forced, .int B_end, .int B_closed, .int B_left, .int B_begun, .int B_begunLength])), (qB_buffer, .inl (cB_buffer, 200, .inl B_buffer)), (qB_words, .inl (cB_words, 65536, .inl B_words)), (qB_serials, .inl (cB_serials, 4400, .inl B_serials)), (qB_lengths, .inl (cB_lengths, 4400, .inl B_lengths)), (qB_kinds, .inl (cB_kinds, 4400, .inl B_kinds)), (qB_owners, .inl (cB_owners, 4400, .inl B_owners)), (qB_olders, .inl (cB_olders, 4400, .inl B_olders)), (qB_links, .inl (cB_links, 4400, .inl B_links)), (qB_voids, .inl (cB_voids, 4400, .inl B_voids))] s.heap.size = A at hD ⊢
  have hA : ∀ q : Nat, s.heap.size ≤ q → A q := fun q h => by rw [← hAe]; exact Or.inr h
  have hS : va_S A s.heap s.heap [] := va_S.rf
  have hP : va_P (dC, dI) vwCl [(qB, .inr (1, [.int B_thrown, .ref qB_buffer, .ref qB_words, .ref qB_serials, .ref qB_lengths, .ref qB_kinds, .ref qB_owners, .ref qB_olders, .ref qB_links, .ref qB_voids, .int B_base, .int B_count, .int B_first, .int B_forced, .int B_end, .int B_closed, .int B_left, .int B_begun, .int B_begunLength])), (qB_buffer, .inl (cB_buffer, 200, .inl B_buffer)), (qB_words, .inl (cB_words, 65536, .inl B_words)), (qB_serials, .inl (cB_serials, 4400, .inl B_serials)), (qB_lengths, .inl (cB_lengths, 4400, .inl B_lengths)), (qB_kinds, .inl (cB_kinds, 4400, .inl B_kinds)), (qB_owners, .inl (cB_owners, 4400, .inl B_owners)), (qB_olders, .inl (cB_olders, 4400, .inl B_olders)), (qB_links, .inl (cB_links, 4400, .inl B_links)), (qB_voids, .inl (cB_voids, 4400, .inl B_voids))] s.heap := hP
  generalize hQQ : MQ below (va_Qv post (at_B dC dI A qB qB_buffer qB_words qB_serials qB_lengths qB_kinds qB_owners qB_olders qB_links qB_voids cB_buffer cB_words cB_serials cB_lengths cB_kinds cB_owners cB_olders cB_links cB_voids) A) args s 0 0 A = QQ
  have hl := lv_entry ([.ref qB, .int x1, .int x2, .int x3]) (n := 4) (Nat.le_of_ble_eq_true rfl)
  rw [show entryFrame m args 4 = entryFrame m ([.ref qB, .int x1, .int x2, .int x3] : List Value).toArray 4 by rw [hav], lg_entry_eq]
  generalize (lg_sl ([.ref qB, .int x1, .int x2, .int x3]) ++ List.replicate (4 - (lg_sl ([.ref qB, .int x1, .int x2, .int x3])).length) Slot.unset).toArray = ls at hl ⊢
  have hl : lv_has ls 4 [(0, .ref qB), (1, .int x1), (2, .int x2), (3, .int x3)] := hl
  unfold wp_X1_addRow at hw
  refine lv_aload_n hx hb dX1_addRow_0 rfl (lv_at hl 0 rfl) ?_
  refine va_get (D := (dC, dI)) (ci := 1) (v := .ref qB_serials) (C := RX1) (T := TX1) (N := 19) hx hb hbg in_X1 hown hK hP 0 rfl rfl 3 (by decide) (hbg _ kw_67) (fun _ h9 => h9) rfl dX1_addRow_1 ?_
  refine lv_aload_n hx hb dX1_addRow_4 rfl (lv_at hl 0 rfl) ?_
  refine va_get (D := (dC, dI)) (ci := 1) (v := .int B_count) (C := RX1) (T := TX1) (N := 19) hx hb hbg in_X1 hown hK hP 0 rfl rfl 11 (by decide) (hbg _ kw_66) (fun _ h9 => h9) rfl dX1_addRow_5 ?_
  refine lv_iload_n hx hb dX1_addRow_8 rfl (lv_at hl 1 rfl) ?_
  obtain ⟨h_1, hw⟩ := hw
  refine va_iast hx hb hK hP hD hS 3 2 rfl rfl h_1 dX1_addRow_9 (fun H_2 locs hP hD hS => ?_)
  have hP : va_P (dC, dI) vwCl [(qB, .inr (1, [.int B_thrown, .ref qB_buffer, .ref qB_words, .ref qB_serials, .ref qB_lengths, .ref qB_kinds, .ref qB_owners, .ref qB_olders, .ref qB_links, .ref qB_voids, .int B_base, .int B_count, .int B_first, .int B_forced, .int B_end, .int B_closed, .int B_left, .int B_begun, .int B_begunLength])), (qB_buffer, .inl (cB_buffer, 200, .inl B_buffer)), (qB_words, .inl (cB_words, 65536, .inl B_words)), (qB_serials, .inl (cB_serials, 4400, .inl (upd B_serials B_count.toNatClampNeg x1))), (qB_lengths, .inl (cB_lengths, 4400, .inl B_lengths)), (qB_kinds, .inl (cB_kinds, 4400, .inl B_kinds)), (qB_owners, .inl (cB_owners, 4400, .inl B_owners)), (qB_olders, .inl (cB_olders, 4400, .inl B_olders)), (qB_links, .inl (cB_links, 4400, .inl B_links)), (qB_voids, .inl (cB_voids, 4400, .inl B_voids))] H_2 := hP
  have hD : va_D A [(qB, .inr (1, [.int B_thrown, .ref qB_buffer, .ref qB_words, .ref qB_serials, .ref qB_lengths, .ref qB_kinds, .ref qB_owners, .ref qB_olders, .ref qB_links, .ref qB_voids, .int B_base, .int B_count, .int B_first, .int B_forced, .int B_end, .int B_closed, .int B_left, .int B_begun, .int B_begunLength])), (qB_buffer, .inl (cB_buffer, 200, .inl B_buffer)), (qB_words, .inl (cB_words, 65536, .inl B_words)), (qB_serials, .inl (cB_serials, 4400, .inl (upd B_serials B_count.toNatClampNeg x1))), (qB_lengths, .inl (cB_lengths, 4400, .inl B_lengths)), (qB_kinds, .inl (cB_kinds, 4400, .inl B_kinds)), (qB_owners, .inl (cB_owners, 4400, .inl B_owners)), (qB_olders, .inl (cB_olders, 4400, .inl B_olders)), (qB_links, .inl (cB_links, 4400, .inl B_links)), (qB_voids, .inl (cB_voids, 4400, .inl B_voids))] := hD
  refine lv_aload_n hx hb dX1_addRow_10 rfl (lv_at hl 0 rfl) ?_
  refine va_get (D := (dC, dI)) (ci := 1) (v := .ref qB_lengths) (C := RX1) (T := TX1) (N := 19) hx hb hbg in_X1 hown hK hP 0 rfl rfl 4 (by decide) (hbg _ kw_70) (fun _ h9 => h9) rfl dX1_addRow_11 ?_
  refine lv_aload_n hx hb dX1_addRow_14 rfl (lv_at hl 0 rfl) ?_
  refine va_get (D := (dC, dI)) (ci := 1) (v := .int B_count) (C := RX1) (T := TX1) (N := 19) hx hb hbg in_X1 hown hK hP 0 rfl rfl 11 (by decide) (hbg _ kw_66) (fun _ h9 => h9) rfl dX1_addRow_15 ?_
  refine lv_iload_n hx hb dX1_addRow_18 rfl (lv_at hl 2 rfl) ?_
  obtain ⟨h_3, hw⟩ := hw
  refine va_iast hx hb hK hP hD hS 4 3 rfl rfl h_3 dX1_addRow_19 (fun H_4 locs hP hD hS => ?_)
  have hP : va_P (dC, dI) vwCl [(qB, .inr (1, [.int B_thrown, .ref qB_buffer, .ref qB_words, .ref qB_serials, .ref qB_lengths, .ref qB_kinds, .ref qB_owners, .ref qB_olders, .ref qB_links, .ref qB_voids, .int B_base, .int B_count, .int B_first, .int B_forced, .int B_end, .int B_closed, .int B_left, .int B_begun, .int B_begunLength])), (qB_buffer, .inl (cB_buffer, 200, .inl B_buffer)), (qB_words, .inl (cB_words, 65536, .inl B_words)), (qB_serials, .inl (cB_serials, 4400, .inl (upd B_serials B_count.toNatClampNeg x1))), (qB_lengths, .inl (cB_lengths, 4400, .inl (upd B_lengths B_count.toNatClampNeg x2))), (qB_kinds, .inl (cB_kinds, 4400, .inl B_kinds)), (qB_owners, .inl (cB_owners, 4400, .inl B_owners)), (qB_olders, .inl (cB_olders, 4400, .inl B_olders)), (qB_links, .inl (cB_links, 4400, .inl B_links)), (qB_voids, .inl (cB_voids, 4400, .inl B_voids))] H_4 := hP
  have hD : va_D A [(qB, .inr (1, [.int B_thrown, .ref qB_buffer, .ref qB_words, .ref qB_serials, .ref qB_lengths, .ref qB_kinds, .ref qB_owners, .ref qB_olders, .ref qB_links, .ref qB_voids, .int B_base, .int B_count, .int B_first, .int B_forced, .int B_end, .int B_closed, .int B_left, .int B_begun, .int B_begunLength])), (qB_buffer, .inl (cB_buffer, 200, .inl B_buffer)), (qB_words, .inl (cB_words, 65536, .inl B_words)), (qB_serials, .inl (cB_serials, 4400, .inl (upd B_serials B_count.toNatClampNeg x1))), (qB_lengths, .inl (cB_lengths, 4400, .inl (upd B_lengths B_count.toNatClampNeg x2))), (qB_kinds, .inl (cB_kinds, 4400, .inl B_kinds)), (qB_owners, .inl (cB_owners, 4400, .inl B_owners)), (qB_olders, .inl (cB_olders, 4400, .inl B_olders)), (qB_links, .inl (cB_links, 4400, .inl B_links)), (qB_voids, .inl (cB_voids, 4400, .inl B_voids))] := hD
  refine lv_aload_n hx hb dX1_addRow_20 rfl (lv_at hl 0 rfl) ?_
  refine va_get (D := (dC, dI)) (ci := 1) (v := .ref qB_voids) (C := RX1) (T := TX1) (N := 19) hx hb hbg in_X1 hown hK hP 0 rfl rfl 9 (by decide) (hbg _ kw_68) (fun _ h9 => h9) rfl dX1_addRow_21 ?_
  refine lv_aload_n hx hb dX1_addRow_24 rfl (lv_at hl 0 rfl) ?_
  refine va_get (D := (dC, dI)) (ci := 1) (v := .int B_count) (C := RX1) (T := TX1) (N := 19) hx hb hbg in_X1 hown hK hP 0 rfl rfl 11 (by decide) (hbg _ kw_66) (fun _ h9 => h9) rfl dX1_addRow_25 ?_
  refine lv_iload_n hx hb dX1_addRow_28 rfl (lv_at hl 3 rfl) ?_
  obtain ⟨h_5, hw⟩ := hw
  refine va_zast hx hb hK hP hD hS 9 8 rfl rfl h_5 dX1_addRow_29 (fun H_6 locs hP hD hS => ?_)
  have hP : va_P (dC, dI) vwCl [(qB, .inr (1, [.int B_thrown, .ref qB_buffer, .ref qB_words, .ref qB_serials, .ref qB_lengths, .ref qB_kinds, .ref qB_owners, .ref qB_olders, .ref qB_links, .ref qB_voids, .int B_base, .int B_count, .int B_first, .int B_forced, .int B_end, .int B_closed, .int B_left, .int B_begun, .int B_begunLength])), (qB_buffer, .inl (cB_buffer, 200, .inl B_buffer)), (qB_words, .inl (cB_words, 65536, .inl B_words)), (qB_serials, .inl (cB_serials, 4400, .inl (upd B_serials B_count.toNatClampNeg x1))), (qB_lengths, .inl (cB_lengths, 4400, .inl (upd B_lengths B_count.toNatClampNeg x2))), (qB_kinds, .inl (cB_kinds, 4400, .inl B_kinds)), (qB_owners, .inl (cB_owners, 4400, .inl B_owners)), (qB_olders, .inl (cB_olders, 4400, .inl B_olders)), (qB_links, .inl (cB_links, 4400, .inl B_links)), (qB_voids, .inl (cB_voids, 4400, .inl (upd B_voids B_count.toNatClampNeg (vp_nar .boolean x3))))] H_6 := hP
  have hD : va_D A [(qB, .inr (1, [.int B_thrown, .ref qB_buffer, .ref qB_words, .ref qB_serials, .ref qB_lengths, .ref qB_kinds, .ref qB_owners, .ref qB_olders, .ref qB_links, .ref qB_voids, .int B_base, .int B_count, .int B_first, .int B_forced, .int B_end, .int B_closed, .int B_left, .int B_begun, .int B_begunLength])), (qB_buffer, .inl (cB_buffer, 200, .inl B_buffer)), (qB_words, .inl (cB_words, 65536, .inl B_words)), (qB_serials, .inl (cB_serials, 4400, .inl (upd B_serials B_count.toNatClampNeg x1))), (qB_lengths, .inl (cB_lengths, 4400, .inl (upd B_lengths B_count.toNatClampNeg x2))), (qB_kinds, .inl (cB_kinds, 4400, .inl B_kinds)), (qB_owners, .inl (cB_owners, 4400, .inl B_owners)), (qB_olders, .inl (cB_olders, 4400, .inl B_olders)), (qB_links, .inl (cB_links, 4400, .inl B_links)), (qB_voids, .inl (cB_voids, 4400, .inl (upd B_voids B_count.toNatClampNeg (vp_nar .boolean x3))))] := hD
  refine lv_aload_n hx hb dX1_addRow_30 rfl (lv_at hl 0 rfl) ?_
  refine lv_dup hx hb dX1_addRow_31 rfl ?_
  refine va_get (D := (dC, dI)) (ci := 1) (v := .int B_count) (C := RX1) (T := TX1) (N := 19) hx hb hbg in_X1 hown hK hP 0 rfl rfl 11 (by decide) (hbg _ kw_66) (fun _ h9 => h9) rfl dX1_addRow_32 ?_
  refine lv_iconst (v := (1 : Int32)) hx hb dX1_addRow_35 (by decide) ?_
  refine lv_iadd hx hb dX1_addRow_36 ?_
  refine va_put (D := (dC, dI)) (ci := 1) (v := .int (B_count + (1 : Int32))) (ty := .int) (C := RX1) (T := TX1) (N := 19) hx hb hbg in_X1 tyX1 tyX1_ok nmX1 hown hK hP hD hS 0 rfl rfl 11 (by decide) (hbg _ kw_66) (fun _ h9 => h9) rfl (by decide +kernel) rfl rfl (Nat.le_of_ble_eq_true rfl) dX1_addRow_37 (fun H_7 locs hP hD hS => ?_)
  have hP : va_P (dC, dI) vwCl [(qB, .inr (1, [.int B_thrown, .ref qB_buffer, .ref qB_words, .ref qB_serials, .ref qB_lengths, .ref qB_kinds, .ref qB_owners, .ref qB_olders, .ref qB_links, .ref qB_voids, .int B_base, .int (B_count + (1 : Int32)), .int B_first, .int B_forced, .int B_end, .int B_closed, .int B_left, .int B_begun, .int B_begunLength])), (qB_buffer, .inl (cB_buffer, 200, .inl B_buffer)), (qB_words, .inl (cB_words, 65536, .inl B_words)), (qB_serials, .inl (cB_serials, 4400, .inl (upd B_serials B_count.toNatClampNeg x1))), (qB_lengths, .inl (cB_lengths, 4400, .inl (upd B_lengths B_count.toNatClampNeg x2))), (qB_kinds, .inl (cB_kinds, 4400, .inl B_kinds)), (qB_owners, .inl (cB_owners, 4400, .inl B_owners)), (qB_olders, .inl (cB_olders, 4400, .inl B_olders)), (qB_links, .inl (cB_links, 4400, .inl B_links)), (qB_voids, .inl (cB_voids, 4400, .inl (upd B_voids B_count.toNatClampNeg (vp_nar .boolean x3))))] H_7 := hP
  have hD : va_D A [(qB, .inr (1, [.int B_thrown, .ref qB_buffer, .ref qB_words, .ref qB_serials, .ref qB_lengths, .ref qB_kinds, .ref qB_owners, .ref qB_olders, .ref qB_links, .ref qB_voids, .int B_base, .int (B_count + (1 : Int32)), .int B_first, .int B_forced, .int B_end, .int B_closed, .int B_left, .int B_begun, .int B_begunLength])), (qB_buffer, .inl (cB_buffer, 200, .inl B_buffer)), (qB_words, .inl (cB_words, 65536, .inl B_words)), (qB_serials, .inl (cB_serials, 4400, .inl (upd B_serials B_count.toNatClampNeg x1))), (qB_lengths, .inl (cB_lengths, 4400, .inl (upd B_lengths B_count.toNatClampNeg x2))), (qB_kinds, .inl (cB_kinds, 4400, .inl B_kinds)), (qB_owners, .inl (cB_owners, 4400, .inl B_owners)), (qB_olders, .inl (cB_olders, 4400, .inl B_olders)), (qB_links, .inl (cB_links, 4400, .inl B_links)), (qB_voids, .inl (cB_voids, 4400, .inl (upd B_voids B_count.toNatClampNeg (vp_nar .boolean x3))))] := hD
  subst hQQ
  exact W.vret hx hb hr (fun t ht hW => ⟨⟨(B_thrown, B_buffer, B_words, upd B_serials B_count.toNatClampNeg x1, upd B_lengths B_count.toNatClampNeg x2, B_kinds, B_owners, B_olders, B_links, upd B_voids B_count.toNatClampNeg (vp_nar .boolean x3), B_base, B_count + (1 : Int32), B_first, B_forced, B_end, B_closed, B_left, B_begun, B_begunLength), rfl, hw, by rw [ht]; exact hP, va_K.moved hW.alike hK, hD⟩, hS.F ht⟩) hS.2.2 dX1_addRow_40
def wl_X1_append_144 (post : Int32 → St_B → Prop) (k144_1 : Int32) (k144_2 : Int32) (k144_3 : Int32) (k144_4 : Int32) (k144_5 : Int32) : Nat → Int32 → Int32 → (Nat → Int32) → (Nat → Int32) → (Nat → Int32) → (Nat → Int32) → (Nat → Int32) → (Nat → Int32) → (Nat → Int32) → (Nat → Int32) → (Nat → Int32) → Int32 → Int32 → Int32 → Int32 → Int32 → Int32 → Int32 → Int32 → Int32 → Prop
  | 0, _, _, _, _, _, _, _, _, _, _, _, _, _, _, _, _, _, _, _, _ => False
  | n144 + 1, y144_6, B_thrown_L144, B_buffer_L144, B_words_L144, B_serials_L144, B_lengths_L144, B_kinds_L144, B_owners_L144, B_olders_L144, B_links_L144, B_voids_L144, B_base_L144, B_count_L144, B_first_L144, B_forced_L144, B_end_L144, B_closed_L144, B_left_L144, B_begun_L144, B_begunLength_L144 =>
    ((k144_4 ≤ y144_6 → wp_X1_addRow (fun u_1 => match u_1 with | (B_thrown_1, B_buffer_1, B_words_1, B_serials_1, B_lengths_1, B_kinds_1, B_owners_1, B_olders_1, B_links_1, B_voids_1, B_base_1, B_count_1, B_first_1, B_forced_1, B_end_1, B_closed_1, B_left_1, B_begun_1, B_begunLength_1) => post ((((B_end_1 + k144_4) + (5 : Int32)) - k144_4) - (5 : Int32)) (B_thrown_1, B_buffer_1, B_words_1, B_serials_1, B_lengths_1, B_kinds_1, B_owners_1, B_olders_1, B_links_1, B_voids_1, B_base_1, B_count_1, B_first_1, B_forced_1, (B_end_1 + k144_4) + (5 : Int32), B_closed_1, B_left_1, B_begun_1, B_begunLength_1)) B_end_L144 (k144_4 + (5 : Int32)) (0 : Int32) B_thrown_L144 B_buffer_L144 B_words_L144 B_serials_L144 B_lengths_L144 B_kinds_L144 B_owners_L144 B_olders_L144 B_links_L144 B_voids_L144 B_base_L144 B_count_L144 B_first_L144 B_forced_L144 B_end_L144 B_closed_L144 B_left_L144 B_begun_L144 B_begunLength_L144) ∧ (¬ k144_4 ≤ y144_6 → vp_in y144_6 200 ∧ (vp_in (((B_end_L144 + (4 : Int32)) + y144_6) - ((B_end_L144 + (4 : Int32)) + y144_6) / (65536 : Int32) * (65536 : Int32)) 65536 ∧ (wl_X1_append_144 post k144_1 k144_2 k144_3 k144_4 k144_5 n144 (y144_6 + (1 : Int32)) B_thrown_L144 B_buffer_L144 (upd B_words_L144 (((B_end_L144 + (4 : Int32)) + y144_6) - ((B_end_L144 + (4 : Int32)) + y144_6) / (65536 : Int32) * (65536 : Int32)).toNatClampNeg (B_buffer_L144 y144_6.toNatClampNeg)) B_serials_L144 B_lengths_L144 B_kinds_L144 B_owners_L144 B_olders_L144 B_links_L144 B_voids_L144 B_base_L144 B_count_L144 B_first_L144 B_forced_L144 B_end_L144 B_closed_L144 B_left_L144 B_begun_L144 B_begunLength_L144))))
def wc_X1_append_67 (post : Int32 → St_B → Prop) (k67_1 : Int32) (k67_2 : Int32) (k67_3 : Int32) (k67_4 : Int32) (k67_5 : Int32) (z67_0 : Int32) (z67_1 : Int32) (B_thrown_L67 : Int32) (B_buffer_L67 : Nat → Int32) (B_words_L67 : Nat → Int32) (B_serials_L67 : Nat → Int32) (B_lengths_L67 : Nat → Int32) (B_kinds_L67 : Nat → Int32) (B_owners_L67 : Nat → Int32) (B_olders_L67 : Nat → Int32) (B_links_L67 : Nat → Int32) (B_voids_L67 : Nat → Int32) (B_base_L67 : Int32) (B_count_L67 : Int32) (B_first_L67 : Int32) (B_forced_L67 : Int32) (B_end_L67 : Int32) (B_closed_L67 : Int32) (B_left_L67 : Int32) (B_begun_L67 : Int32) (B_begunLength_L67 : Int32) : Prop :=
    wp_X1_refused (fun r_6 u_6 => match u_6 with | (B_thrown_6, B_buffer_6, B_words_6, B_serials_6, B_lengths_6, B_kinds_6, B_owners_6, B_olders_6, B_links_6, B_voids_6, B_base_6, B_count_6, B_first_6, B_forced_6, B_end_6, B_closed_6, B_left_6, B_begun_6, B_begunLength_6) => ((r_6 = (0 : Int32) → (((((B_end_6 - B_first_6) + k67_4) + (5 : Int32)) ≤ (65536 : Int32) → vp_in B_count_6 4400 ∧ (vp_in B_count_6 4400 ∧ (wp_X1_latestOf (fun r_11 => vp_in B_count_6 4400 ∧ (vp_in B_count_6 4400 ∧ (∃ n, wl_X1_append_144 post k67_1 k67_2 k67_3 k67_4 k67_5 n (0 : Int32) B_thrown_6 B_buffer_6 B_words_6 B_serials_6 B_lengths_6 (upd B_kinds_6 B_count_6.toNatClampNeg k67_1) (upd B_owners_6 B_count_6.toNatClampNeg k67_2) (upd B_olders_6 B_count_6.toNatClampNeg r_11) (upd B_links_6 B_count_6.toNatClampNeg k67_3) B_voids_6 B_base_6 B_count_6 B_first_6 B_forced_6 B_end_6 B_closed_6 B_left_6 B_begun_6 B_begunLength_6))) k67_2 B_thrown_6 B_buffer_6 B_words_6 B_serials_6 B_lengths_6 (upd B_kinds_6 B_count_6.toNatClampNeg k67_1) (upd B_owners_6 B_count_6.toNatClampNeg k67_2) B_olders_6 B_links_6 B_voids_6 B_base_6 B_count_6 B_first_6 B_forced_6 B_end_6 B_closed_6 B_left_6 B_begun_6 B_begunLength_6))) ∧ (¬ (((B_end_6 - B_first_6) + k67_4) + (5 : Int32)) ≤ (65536 : Int32) → post (-1 : Int32) (B_thrown_6, B_buffer_6, B_words_6, B_serials_6, B_lengths_6, B_kinds_6, B_owners_6, B_olders_6, B_links_6, B_voids_6, B_base_6, B_count_6, B_first_6, B_forced_6, B_end_6, B_closed_6, B_left_6, B_begun_6, B_begunLength_6)))) ∧ (¬ r_6 = (0 : Int32) → post (0 : Int32) (B_thrown_6, B_buffer_6, B_words_6, B_serials_6, B_lengths_6, B_kinds_6, B_owners_6, B_olders_6, B_links_6, B_voids_6, B_base_6, B_count_6, B_first_6, B_forced_6, B_end_6, B_closed_6, B_left_6, B_begun_6, B_begunLength_6)))) z67_1 z67_0 (0 : Int32) B_thrown_L67 B_buffer_L67 B_words_L67 B_serials_L67 B_lengths_L67 B_kinds_L67 B_owners_L67 B_olders_L67 B_links_L67 B_voids_L67 B_base_L67 B_count_L67 B_first_L67 B_forced_L67 B_end_L67 B_closed_L67 B_left_L67 B_begun_L67 B_begunLength_L67
def wc_X1_append_50 (post : Int32 → St_B → Prop) (k50_1 : Int32) (k50_2 : Int32) (k50_3 : Int32) (k50_4 : Int32) (z50_0 : Int32) (B_thrown_L50 : Int32) (B_buffer_L50 : Nat → Int32) (B_words_L50 : Nat → Int32) (B_serials_L50 : Nat → Int32) (B_lengths_L50 : Nat → Int32) (B_kinds_L50 : Nat → Int32) (B_owners_L50 : Nat → Int32) (B_olders_L50 : Nat → Int32) (B_links_L50 : Nat → Int32) (B_voids_L50 : Nat → Int32) (B_base_L50 : Int32) (B_count_L50 : Int32) (B_first_L50 : Int32) (B_forced_L50 : Int32) (B_end_L50 : Int32) (B_closed_L50 : Int32) (B_left_L50 : Int32) (B_begun_L50 : Int32) (B_begunLength_L50 : Int32) : Prop :=
    ((z50_0 = (0 : Int32) → wc_X1_append_67 post k50_1 k50_2 k50_3 k50_4 z50_0 (1 : Int32) B_closed_L50 B_thrown_L50 B_buffer_L50 B_words_L50 B_serials_L50 B_lengths_L50 B_kinds_L50 B_owners_L50 B_olders_L50 B_links_L50 B_voids_L50 B_base_L50 B_count_L50 B_first_L50 B_forced_L50 B_end_L50 B_closed_L50 B_left_L50 B_begun_L50 B_begunLength_L50) ∧ (¬ z50_0 = (0 : Int32) → wc_X1_append_67 post k50_1 k50_2 k50_3 k50_4 z50_0 (0 : Int32) B_closed_L50 B_thrown_L50 B_buffer_L50 B_words_L50 B_serials_L50 B_lengths_L50 B_kinds_L50 B_owners_L50 B_olders_L50 B_links_L50 B_voids_L50 B_base_L50 B_count_L50 B_first_L50 B_forced_L50 B_end_L50 B_closed_L50 B_left_L50 B_begun_L50 B_begunLength_L50))
def wc_X1_append_49 (post : Int32 → St_B → Prop) (k49_1 : Int32) (k49_2 : Int32) (k49_3 : Int32) (k49_4 : Int32) (B_thrown_L49 : Int32) (B_buffer_L49 : Nat → Int32) (B_words_L49 : Nat → Int32) (B_serials_L49 : Nat → Int32) (B_lengths_L49 : Nat → Int32) (B_kinds_L49 : Nat → Int32) (B_owners_L49 : Nat → Int32) (B_olders_L49 : Nat → Int32) (B_links_L49 : Nat → Int32) (B_voids_L49 : Nat → Int32) (B_base_L49 : Int32) (B_count_L49 : Int32) (B_first_L49 : Int32) (B_forced_L49 : Int32) (B_end_L49 : Int32) (B_closed_L49 : Int32) (B_left_L49 : Int32) (B_begun_L49 : Int32) (B_begunLength_L49 : Int32) : Prop :=
    wc_X1_append_50 post k49_1 k49_2 k49_3 k49_4 (0 : Int32) B_thrown_L49 B_buffer_L49 B_words_L49 B_serials_L49 B_lengths_L49 B_kinds_L49 B_owners_L49 B_olders_L49 B_links_L49 B_voids_L49 B_base_L49 B_count_L49 B_first_L49 B_forced_L49 B_end_L49 B_closed_L49 B_left_L49 B_begun_L49 B_begunLength_L49
def wp_X1_append (post : Int32 → St_B → Prop) (x1 : Int32) (x2 : Int32) (x3 : Int32) (x4 : Int32) (B_thrown : Int32) (B_buffer : Nat → Int32) (B_words : Nat → Int32) (B_serials : Nat → Int32) (B_lengths : Nat → Int32) (B_kinds : Nat → Int32) (B_owners : Nat → Int32) (B_olders : Nat → Int32) (B_links : Nat → Int32) (B_voids : Nat → Int32) (B_base : Int32) (B_count : Int32) (B_first : Int32) (B_forced : Int32) (B_end : Int32) (B_closed : Int32) (B_left : Int32) (B_begun : Int32) (B_begunLength : Int32) : Prop :=
  wp_X1_in (fun r_16 => ((r_16 = (0 : Int32) → wc_X1_append_49 post x1 x2 x3 x4 B_thrown B_buffer B_words B_serials B_lengths B_kinds B_owners B_olders B_links B_voids B_base B_count B_first B_forced B_end B_closed B_left B_begun B_begunLength) ∧ (¬ r_16 = (0 : Int32) → wp_X1_in (fun r_17 => ((r_17 = (0 : Int32) → wc_X1_append_49 post x1 x2 x3 x4 B_thrown B_buffer B_words B_serials B_lengths B_kinds B_owners B_olders B_links B_voids B_base B_count B_first B_forced B_end B_closed B_left B_begun B_begunLength) ∧ (¬ r_17 = (0 : Int32) → wp_X1_in (fun r_18 => ((r_18 = (0 : Int32) → wc_X1_append_49 post x1 x2 x3 x4 B_thrown B_buffer B_words B_serials B_lengths B_kinds B_owners B_olders B_links B_voids B_base B_count B_first B_forced B_end B_closed B_left B_begun B_begunLength) ∧ (¬ r_18 = (0 : Int32) → ((x3 < (-1 : Int32) → wc_X1_append_49 post x1 x2 x3 x4 B_thrown B_buffer B_words B_serials B_lengths B_kinds B_owners B_olders B_links B_voids B_base B_count B_first B_forced B_end B_closed B_left B_begun B_begunLength) ∧ (¬ x3 < (-1 : Int32) → ((B_end ≤ x3 → wc_X1_append_49 post x1 x2 x3 x4 B_thrown B_buffer B_words B_serials B_lengths B_kinds B_owners B_olders B_links B_voids B_base B_count B_first B_forced B_end B_closed B_left B_begun B_begunLength) ∧ (¬ B_end ≤ x3 → wc_X1_append_50 post x1 x2 x3 x4 (1 : Int32) B_thrown B_buffer B_words B_serials B_lengths B_kinds B_owners B_olders B_links B_voids B_base B_count B_first B_forced B_end B_closed B_left B_begun B_begunLength))))))) x4 (0 : Int32) (200 : Int32)))) x2 (0 : Int32) (7 : Int32)))) x1 (0 : Int32) (15 : Int32)
set_option maxHeartbeats 4000000 in
set_option maxRecDepth 100000 in
theorem met_X1_append (l : Launch) (dC : Nat → ClassId) (dI : Nat → Nat → Nat) (qB qB_buffer qB_words qB_serials qB_lengths qB_kinds qB_owners qB_olders qB_links qB_voids : Nat) (cB_buffer cB_words cB_serials cB_lengths cB_kinds cB_owners cB_olders cB_links cB_voids : ClassId) (sz : Nat) (B_thrown : Int32) (B_buffer : Nat → Int32) (B_words : Nat → Int32) (B_serials : Nat → Int32) (B_lengths : Nat → Int32) (B_kinds : Nat → Int32) (B_owners : Nat → Int32) (B_olders : Nat → Int32) (B_links : Nat → Int32) (B_voids : Nat → Int32) (B_base : Int32) (B_count : Int32) (B_first : Int32) (B_forced : Int32) (B_end : Int32) (B_closed : Int32) (B_left : Int32) (B_begun : Int32) (B_begunLength : Int32) (x1 : Int32) (x2 : Int32) (x3 : Int32) (x4 : Int32) (post : Int32 → St_B → Prop) (hw : wp_X1_append post x1 x2 x3 x4 B_thrown B_buffer B_words B_serials B_lengths B_kinds B_owners B_olders B_links B_voids B_base B_count B_first B_forced B_end B_closed B_left B_begun B_begunLength) :
    Met l yX1_append wsX1_append ({ frames := 1, cells := 0, slots := 0, locals := 23 } : Room) (pcW_B dC dI qB qB_buffer qB_words qB_serials qB_lengths qB_kinds qB_owners qB_olders qB_links qB_voids cB_buffer cB_words cB_serials cB_lengths cB_kinds cB_owners cB_olders cB_links cB_voids sz B_thrown B_buffer B_words B_serials B_lengths B_kinds B_owners B_olders B_links B_voids B_base B_count B_first B_forced B_end B_closed B_left B_begun B_begunLength [.ref qB, .int x1, .int x2, .int x3, .int x4]) (va_Qi post (at_B dC dI (va_A [(qB, .inr (1, [.int B_thrown, .ref qB_buffer, .ref qB_words, .ref qB_serials, .ref qB_lengths, .ref qB_kinds, .ref qB_owners, .ref qB_olders, .ref qB_links, .ref qB_voids, .int B_base, .int B_count, .int B_first, .int B_forced, .int B_end, .int B_closed, .int B_left, .int B_begun, .int B_begunLength])), (qB_buffer, .inl (cB_buffer, 200, .inl B_buffer)), (qB_words, .inl (cB_words, 65536, .inl B_words)), (qB_serials, .inl (cB_serials, 4400, .inl B_serials)), (qB_lengths, .inl (cB_lengths, 4400, .inl B_lengths)), (qB_kinds, .inl (cB_kinds, 4400, .inl B_kinds)), (qB_owners, .inl (cB_owners, 4400, .inl B_owners)), (qB_olders, .inl (cB_olders, 4400, .inl B_olders)), (qB_links, .inl (cB_links, 4400, .inl B_links)), (qB_voids, .inl (cB_voids, 4400, .inl B_voids))] sz) qB qB_buffer qB_words qB_serials qB_lengths qB_kinds qB_owners qB_olders qB_links qB_voids cB_buffer cB_words cB_serials cB_lengths cB_kinds cB_owners cB_olders cB_links cB_voids) (va_A [(qB, .inr (1, [.int B_thrown, .ref qB_buffer, .ref qB_words, .ref qB_serials, .ref qB_lengths, .ref qB_kinds, .ref qB_owners, .ref qB_olders, .ref qB_links, .ref qB_voids, .int B_base, .int B_count, .int B_first, .int B_forced, .int B_end, .int B_closed, .int B_left, .int B_begun, .int B_begunLength])), (qB_buffer, .inl (cB_buffer, 200, .inl B_buffer)), (qB_words, .inl (cB_words, 65536, .inl B_words)), (qB_serials, .inl (cB_serials, 4400, .inl B_serials)), (qB_lengths, .inl (cB_lengths, 4400, .inl B_lengths)), (qB_kinds, .inl (cB_kinds, 4400, .inl B_kinds)), (qB_owners, .inl (cB_owners, 4400, .inl B_owners)), (qB_olders, .inl (cB_olders, 4400, .inl B_olders)), (qB_links, .inl (cB_links, 4400, .inl B_links)), (qB_voids, .inl (cB_voids, 4400, .inl B_voids))] sz)) 0 0 (va_A [(qB, .inr (1, [.int B_thrown, .ref qB_buffer, .ref qB_words, .ref qB_serials, .ref qB_lengths, .ref qB_kinds, .ref qB_owners, .ref qB_olders, .ref qB_links, .ref qB_voids, .int B_base, .int B_count, .int B_first, .int B_forced, .int B_end, .int B_closed, .int B_left, .int B_begun, .int B_begunLength])), (qB_buffer, .inl (cB_buffer, 200, .inl B_buffer)), (qB_words, .inl (cB_words, 65536, .inl B_words)), (qB_serials, .inl (cB_serials, 4400, .inl B_serials)), (qB_lengths, .inl (cB_lengths, 4400, .inl B_lengths)), (qB_kinds, .inl (cB_kinds, 4400, .inl B_kinds)), (qB_owners, .inl (cB_owners, 4400, .inl B_owners)), (qB_olders, .inl (cB_olders, 4400, .inl B_olders)), (qB_links, .inl (cB_links, 4400, .inl B_links)), (qB_voids, .inl (cB_voids, 4400, .inl B_voids))] sz) := by
  refine Met.ofW (cc := cX1_append) (maxL := 7) (ret := (some .int)) (by decide) rfl ?_
  intro p e s m args below meth c s₁ B hml hv
  obtain ⟨hav, hsz, hP, hK, hD0⟩ := hv
  have hx := B.exec
  have hb := B.bytes
  have hr := B.returns
  have hts := atoms_spec (ws := wsX1_append) B.pre
  have hbg : ∀ w ∈ bigW, w.before args s = true := fun w h => hts w (List.mem_cons_of_mem _ h)
  have hown : s.vm.findClass RX1 = some m.cls := findClass_of_methodNamed B.named
  have hlocks := B.notSynchronized
  subst hsz
  have hD := hD0.self (sz := s.heap.size)
  generalize hAe : va_A [(qB, .inr (1, [.int B_thrown, .ref qB_buffer, .ref qB_words, .ref qB_serials, .ref qB_lengths, .ref qB_kinds, .ref qB_owners, .ref qB_olders, .ref qB_links, .ref qB_voids, .int B_base, .int B_count, .int B_first, .int B_forced, .int B_end, .int B_closed, .int B_left, .int B_begun, .int B_begunLength])), (qB_buffer, .inl (cB_buffer, 200, .inl B_buffer)), (qB_words, .inl (cB_words, 65536, .inl B_words)), (qB_serials, .inl (cB_serials, 4400, .inl B_serials)), (qB_lengths, .inl (cB_lengths, 4400, .inl B_lengths)), (qB_kinds, .inl (cB_kinds, 4400, .inl B_kinds)), (qB_owners, .inl (cB_owners, 4400, .inl B_owners)), (qB_olders, .inl (cB_olders, 4400, .inl B_olders)), (qB_links, .inl (cB_links, 4400, .inl B_links)), (qB_voids, .inl (cB_voids, 4400, .inl B_voids))] s.heap.size = A at hD ⊢
  have hA : ∀ q : Nat, s.heap.size ≤ q → A q := fun q h => by rw [← hAe]; exact Or.inr h
  have hS : va_S A s.heap s.heap [] := va_S.rf
  have hP : va_P (dC, dI) vwCl [(qB, .inr (1, [.int B_thrown, .ref qB_buffer, .ref qB_words, .ref qB_serials, .ref qB_lengths, .ref qB_kinds, .ref qB_owners, .ref qB_olders, .ref qB_links, .ref qB_voids, .int B_base, .int B_count, .int B_first, .int B_forced, .int B_end, .int B_closed, .int B_left, .int B_begun, .int B_begunLength])), (qB_buffer, .inl (cB_buffer, 200, .inl B_buffer)), (qB_words, .inl (cB_words, 65536, .inl B_words)), (qB_serials, .inl (cB_serials, 4400, .inl B_serials)), (qB_lengths, .inl (cB_lengths, 4400, .inl B_lengths)), (qB_kinds, .inl (cB_kinds, 4400, .inl B_kinds)), (qB_owners, .inl (cB_owners, 4400, .inl B_owners)), (qB_olders, .inl (cB_olders, 4400, .inl B_olders)), (qB_links, .inl (cB_links, 4400, .inl B_links)), (qB_voids, .inl (cB_voids, 4400, .inl B_voids))] s.heap := hP
  generalize hQQ : MQ below (va_Qi post (at_B dC dI A qB qB_buffer qB_words qB_serials qB_lengths qB_kinds qB_owners qB_olders qB_links qB_voids cB_buffer cB_words cB_serials cB_lengths cB_kinds cB_owners cB_olders cB_links cB_voids) A) args s 0 0 A = QQ
  have hl := lv_entry ([.ref qB, .int x1, .int x2, .int x3, .int x4]) (n := 7) (Nat.le_of_ble_eq_true rfl)
  rw [show entryFrame m args 7 = entryFrame m ([.ref qB, .int x1, .int x2, .int x3, .int x4] : List Value).toArray 7 by rw [hav], lg_entry_eq]
  generalize (lg_sl ([.ref qB, .int x1, .int x2, .int x3, .int x4]) ++ List.replicate (7 - (lg_sl ([.ref qB, .int x1, .int x2, .int x3, .int x4])).length) Slot.unset).toArray = ls at hl ⊢
  have hl : lv_has ls 7 [(0, .ref qB), (1, .int x1), (2, .int x2), (3, .int x3), (4, .int x4)] := hl
  unfold wp_X1_append at hw
  have hL144 : ∀ (n144 : Nat) (k144_1 : Int32) (k144_2 : Int32) (k144_3 : Int32) (k144_4 : Int32) (k144_5 : Int32) (y144_6 : Int32) (B_thrown_L144 : Int32) (B_buffer_L144 : Nat → Int32) (B_words_L144 : Nat → Int32) (B_serials_L144 : Nat → Int32) (B_lengths_L144 : Nat → Int32) (B_kinds_L144 : Nat → Int32) (B_owners_L144 : Nat → Int32) (B_olders_L144 : Nat → Int32) (B_links_L144 : Nat → Int32) (B_voids_L144 : Nat → Int32) (B_base_L144 : Int32) (B_count_L144 : Int32) (B_first_L144 : Int32) (B_forced_L144 : Int32) (B_end_L144 : Int32) (B_closed_L144 : Int32) (B_left_L144 : Int32) (B_begun_L144 : Int32) (B_begunLength_L144 : Int32), wl_X1_append_144 post k144_1 k144_2 k144_3 k144_4 k144_5 n144 y144_6 B_thrown_L144 B_buffer_L144 B_words_L144 B_serials_L144 B_lengths_L144 B_kinds_L144 B_owners_L144 B_olders_L144 B_links_L144 B_voids_L144 B_base_L144 B_count_L144 B_first_L144 B_forced_L144 B_end_L144 B_closed_L144 B_left_L144 B_begun_L144 B_begunLength_L144 → ∀ (H : Heap) (locs : List Loc), va_P (dC, dI) vwCl [(qB, .inr (1, [.int B_thrown_L144, .ref qB_buffer, .ref qB_words, .ref qB_serials, .ref qB_lengths, .ref qB_kinds, .ref qB_owners, .ref qB_olders, .ref qB_links, .ref qB_voids, .int B_base_L144, .int B_count_L144, .int B_first_L144, .int B_forced_L144, .int B_end_L144, .int B_closed_L144, .int B_left_L144, .int B_begun_L144, .int B_begunLength_L144])), (qB_buffer, .inl (cB_buffer, 200, .inl B_buffer_L144)), (qB_words, .inl (cB_words, 65536, .inl B_words_L144)), (qB_serials, .inl (cB_serials, 4400, .inl B_serials_L144)), (qB_lengths, .inl (cB_lengths, 4400, .inl B_lengths_L144)), (qB_kinds, .inl (cB_kinds, 4400, .inl B_kinds_L144)), (qB_owners, .inl (cB_owners, 4400, .inl B_owners_L144)), (qB_olders, .inl (cB_olders, 4400, .inl B_olders_L144)), (qB_links, .inl (cB_links, 4400, .inl B_links_L144)), (qB_voids, .inl (cB_voids, 4400, .inl B_voids_L144))] H → va_D A [(qB, .inr (1, [.int B_thrown_L144, .ref qB_buffer, .ref qB_words, .ref qB_serials, .ref qB_lengths, .ref qB_kinds, .ref qB_owners, .ref qB_olders, .ref qB_links, .ref qB_voids, .int B_base_L144, .int B_count_L144, .int B_first_L144, .int B_forced_L144, .int B_end_L144, .int B_closed_L144, .int B_left_L144, .int B_begun_L144, .int B_begunLength_L144])), (qB_buffer, .inl (cB_buffer, 200, .inl B_buffer_L144)), (qB_words, .inl (cB_words, 65536, .inl B_words_L144)), (qB_serials, .inl (cB_serials, 4400, .inl B_serials_L144)), (qB_lengths, .inl (cB_lengths, 4400, .inl B_lengths_L144)), (qB_kinds, .inl (cB_kinds, 4400, .inl B_kinds_L144)), (qB_owners, .inl (cB_owners, 4400, .inl B_owners_L144)), (qB_olders, .inl (cB_olders, 4400, .inl B_olders_L144)), (qB_links, .inl (cB_links, 4400, .inl B_links_L144)), (qB_voids, .inl (cB_voids, 4400, .inl B_voids_L144))] → va_S A s.heap H locs → ∀ ls : Array Slot, lv_has ls 7 [(0, .ref qB), (1, .int k144_1), (2, .int k144_2), (3, .int k144_3), (4, .int k144_4), (5, .int k144_5), (6, .int y144_6)] → W p l e (headSpec wsX1_append ({ frames := 1, cells := 0, slots := 0, locals := 23 } : Room)).room s m args below meth c H locs 0 0 QQ (F0 m 144 ls []) := by
    intro n144
    induction n144 with
    | zero => intro k144_1 k144_2 k144_3 k144_4 k144_5 y144_6 B_thrown_L144 B_buffer_L144 B_words_L144 B_serials_L144 B_lengths_L144 B_kinds_L144 B_owners_L144 B_olders_L144 B_links_L144 B_voids_L144 B_base_L144 B_count_L144 B_first_L144 B_forced_L144 B_end_L144 B_closed_L144 B_left_L144 B_begun_L144 B_begunLength_L144 hw; exact False.elim hw
    | succ n144 ih144 =>
      intro k144_1 k144_2 k144_3 k144_4 k144_5 y144_6 B_thrown_L144 B_buffer_L144 B_words_L144 B_serials_L144 B_lengths_L144 B_kinds_L144 B_owners_L144 B_olders_L144 B_links_L144 B_voids_L144 B_base_L144 B_count_L144 B_first_L144 B_forced_L144 B_end_L144 B_closed_L144 B_left_L144 B_begun_L144 B_begunLength_L144 hw H locs hP hD hS ls hl
      rw [wl_X1_append_144] at hw
      refine lv_iload hx hb dX1_append_144 (lv_at hl 6 rfl) ?_
      refine lv_iload hx hb dX1_append_146 (lv_at hl 4 rfl) ?_
      refine lv_icmp_ge (tgt := 181) hx hb dX1_append_148 (by decide) (fun c9 => ?_) (fun c9 => ?_)
      · have hw := hw.1 c9
        refine lv_aload_n hx hb dX1_append_181 rfl (lv_at hl 0 rfl) ?_
        refine lv_aload_n hx hb dX1_append_182 rfl (lv_at hl 0 rfl) ?_
        refine va_get (D := (dC, dI)) (ci := 1) (v := .int B_end_L144) (C := RX1) (T := TX1) (N := 19) hx hb hbg in_X1 hown hK hP 0 rfl rfl 14 (by decide) (hbg _ kw_75) (fun _ h9 => h9) rfl dX1_append_183 ?_
        refine lv_iload hx hb dX1_append_186 (lv_at hl 4 rfl) ?_
        refine lv_iconst (v := (5 : Int32)) hx hb dX1_append_188 (by decide) ?_
        refine lv_iadd hx hb dX1_append_189 ?_
        refine lv_iconst (v := (0 : Int32)) hx hb dX1_append_190 (by decide) ?_
        have hFc := va_free (wc := [(qB, .inr (1, [.int B_thrown_L144, .ref qB_buffer, .ref qB_words, .ref qB_serials, .ref qB_lengths, .ref qB_kinds, .ref qB_owners, .ref qB_olders, .ref qB_links, .ref qB_voids, .int B_base_L144, .int B_count_L144, .int B_first_L144, .int B_forced_L144, .int B_end_L144, .int B_closed_L144, .int B_left_L144, .int B_begun_L144, .int B_begunLength_L144])), (qB_buffer, .inl (cB_buffer, 200, .inl B_buffer_L144)), (qB_words, .inl (cB_words, 65536, .inl B_words_L144)), (qB_serials, .inl (cB_serials, 4400, .inl B_serials_L144)), (qB_lengths, .inl (cB_lengths, 4400, .inl B_lengths_L144)), (qB_kinds, .inl (cB_kinds, 4400, .inl B_kinds_L144)), (qB_owners, .inl (cB_owners, 4400, .inl B_owners_L144)), (qB_olders, .inl (cB_olders, 4400, .inl B_olders_L144)), (qB_links, .inl (cB_links, 4400, .inl B_links_L144)), (qB_voids, .inl (cB_voids, 4400, .inl B_voids_L144))]) hD hS hA [0, 1, 2, 3, 4, 5, 6, 7, 8, 9] rfl
        refine va_callv (va_runV (As := [.int B_end_L144, .int (k144_4 + (5 : Int32)), .int (0 : Int32)]) (rest := []) ⟨hx, hb, hml, hown, hbg⟩ (met_X1_addRow l dC dI qB qB_buffer qB_words qB_serials qB_lengths qB_kinds qB_owners qB_olders qB_links qB_voids cB_buffer cB_words cB_serials cB_lengths cB_kinds cB_owners cB_olders cB_links cB_voids H.size B_thrown_L144 B_buffer_L144 B_words_L144 B_serials_L144 B_lengths_L144 B_kinds_L144 B_owners_L144 B_olders_L144 B_links_L144 B_voids_L144 B_base_L144 B_count_L144 B_first_L144 B_forced_L144 B_end_L144 B_closed_L144 B_left_L144 B_begun_L144 B_begunLength_L144 B_end_L144 (k144_4 + (5 : Int32)) (0 : Int32) _ hw) (cwV 3 hbg g_RX1_79 rfl rfl rfl (by decide +kernel) ⟨Nat.le_of_ble_eq_true rfl, Nat.le_of_ble_eq_true rfl⟩) ⟨pcW_B_b _ _ _ _ _ _ _ _ _ _ _ _ _ _ _ _ _ _ _ _ _ _ _ _ _ _ _ _ _ _ _ _ _ _ _ _ _ _ _ _ _ _, va_recv hK hP (ci := 1) (q0 := 0) rfl rfl, fun U hU hW => ⟨rfl, by rw [hU], by rw [hU]; exact hP, va_K.moved hW.alike hK, hD.weaken (fun _ _ _ _ => trivial)⟩⟩ rfl rfl hl.1 rfl (lv_room (Nat.le_of_ble_eq_true rfl)) dX1_append_191 ⟨Nat.le_of_ble_eq_true rfl, Nat.le_of_ble_eq_true rfl⟩) hS (fun q _ h => hFc q h) hFc (fun u_1 t_1 H_1 locs ht hvm hw hB hz1 hk1 hS => ?_)
        obtain ⟨B_thrown_1, B_buffer_1, B_words_1, B_serials_1, B_lengths_1, B_kinds_1, B_owners_1, B_olders_1, B_links_1, B_voids_1, B_base_1, B_count_1, B_first_1, B_forced_1, B_end_1, B_closed_1, B_left_1, B_begun_1, B_begunLength_1⟩ := u_1
        obtain ⟨hP1, hK1, hD1⟩ := hB
        rw [ht] at hP1
        try dsimp only at hw
        have hP : va_P (dC, dI) vwCl [(qB, .inr (1, [.int B_thrown_1, .ref qB_buffer, .ref qB_words, .ref qB_serials, .ref qB_lengths, .ref qB_kinds, .ref qB_owners, .ref qB_olders, .ref qB_links, .ref qB_voids, .int B_base_1, .int B_count_1, .int B_first_1, .int B_forced_1, .int B_end_1, .int B_closed_1, .int B_left_1, .int B_begun_1, .int B_begunLength_1])), (qB_buffer, .inl (cB_buffer, 200, .inl B_buffer_1)), (qB_words, .inl (cB_words, 65536, .inl B_words_1)), (qB_serials, .inl (cB_serials, 4400, .inl B_serials_1)), (qB_lengths, .inl (cB_lengths, 4400, .inl B_lengths_1)), (qB_kinds, .inl (cB_kinds, 4400, .inl B_kinds_1)), (qB_owners, .inl (cB_owners, 4400, .inl B_owners_1)), (qB_olders, .inl (cB_olders, 4400, .inl B_olders_1)), (qB_links, .inl (cB_links, 4400, .inl B_links_1)), (qB_voids, .inl (cB_voids, 4400, .inl B_voids_1))] H_1 := hP1
        have hD : va_D A [(qB, .inr (1, [.int B_thrown_1, .ref qB_buffer, .ref qB_words, .ref qB_serials, .ref qB_lengths, .ref qB_kinds, .ref qB_owners, .ref qB_olders, .ref qB_links, .ref qB_voids, .int B_base_1, .int B_count_1, .int B_first_1, .int B_forced_1, .int B_end_1, .int B_closed_1, .int B_left_1, .int B_begun_1, .int B_begunLength_1])), (qB_buffer, .inl (cB_buffer, 200, .inl B_buffer_1)), (qB_words, .inl (cB_words, 65536, .inl B_words_1)), (qB_serials, .inl (cB_serials, 4400, .inl B_serials_1)), (qB_lengths, .inl (cB_lengths, 4400, .inl B_lengths_1)), (qB_kinds, .inl (cB_kinds, 4400, .inl B_kinds_1)), (qB_owners, .inl (cB_owners, 4400, .inl B_owners_1)), (qB_olders, .inl (cB_olders, 4400, .inl B_olders_1)), (qB_links, .inl (cB_links, 4400, .inl B_links_1)), (qB_voids, .inl (cB_voids, 4400, .inl B_voids_1))] := hD1.weaken (fun _ _ _ h => hFc _ h)
        refine lv_aload_n hx hb dX1_append_194 rfl (lv_at hl 0 rfl) ?_
        refine lv_aload_n hx hb dX1_append_195 rfl (lv_at hl 0 rfl) ?_
        refine va_get (D := (dC, dI)) (ci := 1) (v := .int B_end_1) (C := RX1) (T := TX1) (N := 19) hx hb hbg in_X1 hown hK hP 0 rfl rfl 14 (by decide) (hbg _ kw_75) (fun _ h9 => h9) rfl dX1_append_196 ?_
        refine lv_iload hx hb dX1_append_199 (lv_at hl 4 rfl) ?_
        refine lv_iadd hx hb dX1_append_201 ?_
        refine lv_iconst (v := (5 : Int32)) hx hb dX1_append_202 (by decide) ?_
        refine lv_iadd hx hb dX1_append_203 ?_
        refine va_put (D := (dC, dI)) (ci := 1) (v := .int ((B_end_1 + k144_4) + (5 : Int32))) (ty := .int) (C := RX1) (T := TX1) (N := 19) hx hb hbg in_X1 tyX1 tyX1_ok nmX1 hown hK hP hD hS 0 rfl rfl 14 (by decide) (hbg _ kw_75) (fun _ h9 => h9) rfl (by decide +kernel) rfl rfl (Nat.le_of_ble_eq_true rfl) dX1_append_204 (fun H_2 locs hP hD hS => ?_)
        have hP : va_P (dC, dI) vwCl [(qB, .inr (1, [.int B_thrown_1, .ref qB_buffer, .ref qB_words, .ref qB_serials, .ref qB_lengths, .ref qB_kinds, .ref qB_owners, .ref qB_olders, .ref qB_links, .ref qB_voids, .int B_base_1, .int B_count_1, .int B_first_1, .int B_forced_1, .int ((B_end_1 + k144_4) + (5 : Int32)), .int B_closed_1, .int B_left_1, .int B_begun_1, .int B_begunLength_1])), (qB_buffer, .inl (cB_buffer, 200, .inl B_buffer_1)), (qB_words, .inl (cB_words, 65536, .inl B_words_1)), (qB_serials, .inl (cB_serials, 4400, .inl B_serials_1)), (qB_lengths, .inl (cB_lengths, 4400, .inl B_lengths_1)), (qB_kinds, .inl (cB_kinds, 4400, .inl B_kinds_1)), (qB_owners, .inl (cB_owners, 4400, .inl B_owners_1)), (qB_olders, .inl (cB_olders, 4400, .inl B_olders_1)), (qB_links, .inl (cB_links, 4400, .inl B_links_1)), (qB_voids, .inl (cB_voids, 4400, .inl B_voids_1))] H_2 := hP
        have hD : va_D A [(qB, .inr (1, [.int B_thrown_1, .ref qB_buffer, .ref qB_words, .ref qB_serials, .ref qB_lengths, .ref qB_kinds, .ref qB_owners, .ref qB_olders, .ref qB_links, .ref qB_voids, .int B_base_1, .int B_count_1, .int B_first_1, .int B_forced_1, .int ((B_end_1 + k144_4) + (5 : Int32)), .int B_closed_1, .int B_left_1, .int B_begun_1, .int B_begunLength_1])), (qB_buffer, .inl (cB_buffer, 200, .inl B_buffer_1)), (qB_words, .inl (cB_words, 65536, .inl B_words_1)), (qB_serials, .inl (cB_serials, 4400, .inl B_serials_1)), (qB_lengths, .inl (cB_lengths, 4400, .inl B_lengths_1)), (qB_kinds, .inl (cB_kinds, 4400, .inl B_kinds_1)), (qB_owners, .inl (cB_owners, 4400, .inl B_owners_1)), (qB_olders, .inl (cB_olders, 4400, .inl B_olders_1)), (qB_links, .inl (cB_links, 4400, .inl B_links_1)), (qB_voids, .inl (cB_voids, 4400, .inl B_voids_1))] := hD
        refine lv_aload_n hx hb dX1_append_207 rfl (lv_at hl 0 rfl) ?_
        refine va_get (D := (dC, dI)) (ci := 1) (v := .int ((B_end_1 + k144_4) + (5 : Int32))) (C := RX1) (T := TX1) (N := 19) hx hb hbg in_X1 hown hK hP 0 rfl rfl 14 (by decide) (hbg _ kw_75) (fun _ h9 => h9) rfl dX1_append_208 ?_
        refine lv_iload hx hb dX1_append_211 (lv_at hl 4 rfl) ?_
        refine lv_isub hx hb dX1_append_213 ?_
        refine lv_iconst (v := (5 : Int32)) hx hb dX1_append_214 (by decide) ?_
        refine lv_isub hx hb dX1_append_215 ?_
        subst hQQ
        exact W.iret (v := (((B_end_1 + k144_4) + (5 : Int32)) - k144_4) - (5 : Int32)) hx hb hr (fun t ht hW => ⟨⟨(((B_end_1 + k144_4) + (5 : Int32)) - k144_4) - (5 : Int32), (B_thrown_1, B_buffer_1, B_words_1, B_serials_1, B_lengths_1, B_kinds_1, B_owners_1, B_olders_1, B_links_1, B_voids_1, B_base_1, B_count_1, B_first_1, B_forced_1, (B_end_1 + k144_4) + (5 : Int32), B_closed_1, B_left_1, B_begun_1, B_begunLength_1), rfl, hw, by rw [ht]; exact hP, va_K.moved hW.alike hK, hD⟩, hS.F ht⟩) hS.2.2 dX1_append_216
      · have hw := hw.2 c9
        refine lv_aload_n hx hb dX1_append_151 rfl (lv_at hl 0 rfl) ?_
        refine va_get (D := (dC, dI)) (ci := 1) (v := .ref qB_words) (C := RX1) (T := TX1) (N := 19) hx hb hbg in_X1 hown hK hP 0 rfl rfl 2 (by decide) (hbg _ kw_94) (fun _ h9 => h9) rfl dX1_append_152 ?_
        refine lv_aload_n hx hb dX1_append_155 rfl (lv_at hl 0 rfl) ?_
        refine va_get (D := (dC, dI)) (ci := 1) (v := .int B_end_L144) (C := RX1) (T := TX1) (N := 19) hx hb hbg in_X1 hown hK hP 0 rfl rfl 14 (by decide) (hbg _ kw_75) (fun _ h9 => h9) rfl dX1_append_156 ?_
        refine lv_iconst (v := (4 : Int32)) hx hb dX1_append_159 (by decide) ?_
        refine lv_iadd hx hb dX1_append_160 ?_
        refine lv_iload hx hb dX1_append_161 (lv_at hl 6 rfl) ?_
        refine lv_iadd hx hb dX1_append_163 ?_
        refine lv_ldc (v := (65536 : Int32)) hx hb hown (hbg _ kw_82) dX1_append_164 ?_
        refine lv_irem hx hb dX1_append_166 (by decide) ?_
        refine lv_aload_n hx hb dX1_append_167 rfl (lv_at hl 0 rfl) ?_
        refine va_get (D := (dC, dI)) (ci := 1) (v := .ref qB_buffer) (C := RX1) (T := TX1) (N := 19) hx hb hbg in_X1 hown hK hP 0 rfl rfl 1 (by decide) (hbg _ kw_95) (fun _ h9 => h9) rfl dX1_append_168 ?_
        refine lv_iload hx hb dX1_append_171 (lv_at hl 6 rfl) ?_
        obtain ⟨h_3, hw⟩ := hw
        refine va_iald hx hb hK hP 1 0 rfl rfl h_3 dX1_append_173 ?_
        obtain ⟨h_4, hw⟩ := hw
        refine va_iast hx hb hK hP hD hS 2 1 rfl rfl h_4 dX1_append_174 (fun H_5 locs hP hD hS => ?_)
        have hP : va_P (dC, dI) vwCl [(qB, .inr (1, [.int B_thrown_L144, .ref qB_buffer, .ref qB_words, .ref qB_serials, .ref qB_lengths, .ref qB_kinds, .ref qB_owners, .ref qB_olders, .ref qB_links, .ref qB_voids, .int B_base_L144, .int B_count_L144, .int B_first_L144, .int B_forced_L144, .int B_end_L144, .int B_closed_L144, .int B_left_L144, .int B_begun_L144, .int B_begunLength_L144])), (qB_buffer, .inl (cB_buffer, 200, .inl B_buffer_L144)), (qB_words, .inl (cB_words, 65536, .inl (upd B_words_L144 (((B_end_L144 + (4 : Int32)) + y144_6) - ((B_end_L144 + (4 : Int32)) + y144_6) / (65536 : Int32) * (65536 : Int32)).toNatClampNeg (B_buffer_L144 y144_6.toNatClampNeg)))), (qB_serials, .inl (cB_serials, 4400, .inl B_serials_L144)), (qB_lengths, .inl (cB_lengths, 4400, .inl B_lengths_L144)), (qB_kinds, .inl (cB_kinds, 4400, .inl B_kinds_L144)), (qB_owners, .inl (cB_owners, 4400, .inl B_owners_L144)), (qB_olders, .inl (cB_olders, 4400, .inl B_olders_L144)), (qB_links, .inl (cB_links, 4400, .inl B_links_L144)), (qB_voids, .inl (cB_voids, 4400, .inl B_voids_L144))] H_5 := hP
        have hD : va_D A [(qB, .inr (1, [.int B_thrown_L144, .ref qB_buffer, .ref qB_words, .ref qB_serials, .ref qB_lengths, .ref qB_kinds, .ref qB_owners, .ref qB_olders, .ref qB_links, .ref qB_voids, .int B_base_L144, .int B_count_L144, .int B_first_L144, .int B_forced_L144, .int B_end_L144, .int B_closed_L144, .int B_left_L144, .int B_begun_L144, .int B_begunLength_L144])), (qB_buffer, .inl (cB_buffer, 200, .inl B_buffer_L144)), (qB_words, .inl (cB_words, 65536, .inl (upd B_words_L144 (((B_end_L144 + (4 : Int32)) + y144_6) - ((B_end_L144 + (4 : Int32)) + y144_6) / (65536 : Int32) * (65536 : Int32)).toNatClampNeg (B_buffer_L144 y144_6.toNatClampNeg)))), (qB_serials, .inl (cB_serials, 4400, .inl B_serials_L144)), (qB_lengths, .inl (cB_lengths, 4400, .inl B_lengths_L144)), (qB_kinds, .inl (cB_kinds, 4400, .inl B_kinds_L144)), (qB_owners, .inl (cB_owners, 4400, .inl B_owners_L144)), (qB_olders, .inl (cB_olders, 4400, .inl B_olders_L144)), (qB_links, .inl (cB_links, 4400, .inl B_links_L144)), (qB_voids, .inl (cB_voids, 4400, .inl B_voids_L144))] := hD
        refine lv_iinc (v := y144_6 + (1 : Int32)) (lv' := [(6, .int (y144_6 + (1 : Int32))), (0, .ref qB), (1, .int k144_1), (2, .int k144_2), (3, .int k144_3), (4, .int k144_4), (5, .int k144_5)]) hx hb dX1_append_175 hl (k := 6) rfl rfl (by decide) rfl (fun ls hl => ?_)
        refine lv_goto (tgt := 144) hx hb dX1_append_178 (by decide) ?_
        exact ih144 k144_1 k144_2 k144_3 k144_4 k144_5 (y144_6 + (1 : Int32)) B_thrown_L144 B_buffer_L144 (upd B_words_L144 (((B_end_L144 + (4 : Int32)) + y144_6) - ((B_end_L144 + (4 : Int32)) + y144_6) / (65536 : Int32) * (65536 : Int32)).toNatClampNeg (B_buffer_L144 y144_6.toNatClampNeg)) B_serials_L144 B_lengths_L144 B_kinds_L144 B_owners_L144 B_olders_L144 B_links_L144 B_voids_L144 B_base_L144 B_count_L144 B_first_L144 B_forced_L144 B_end_L144 B_closed_L144 B_left_L144 B_begun_L144 B_begunLength_L144 hw _ _ hP hD hS ls (lv_sub hl [1, 2, 3, 4, 5, 6, 0] rfl)
  have hC67 : ∀ (k67_1 : Int32) (k67_2 : Int32) (k67_3 : Int32) (k67_4 : Int32) (k67_5 : Int32) (z67_0 : Int32) (z67_1 : Int32) (B_thrown_L67 : Int32) (B_buffer_L67 : Nat → Int32) (B_words_L67 : Nat → Int32) (B_serials_L67 : Nat → Int32) (B_lengths_L67 : Nat → Int32) (B_kinds_L67 : Nat → Int32) (B_owners_L67 : Nat → Int32) (B_olders_L67 : Nat → Int32) (B_links_L67 : Nat → Int32) (B_voids_L67 : Nat → Int32) (B_base_L67 : Int32) (B_count_L67 : Int32) (B_first_L67 : Int32) (B_forced_L67 : Int32) (B_end_L67 : Int32) (B_closed_L67 : Int32) (B_left_L67 : Int32) (B_begun_L67 : Int32) (B_begunLength_L67 : Int32), wc_X1_append_67 post k67_1 k67_2 k67_3 k67_4 k67_5 z67_0 z67_1 B_thrown_L67 B_buffer_L67 B_words_L67 B_serials_L67 B_lengths_L67 B_kinds_L67 B_owners_L67 B_olders_L67 B_links_L67 B_voids_L67 B_base_L67 B_count_L67 B_first_L67 B_forced_L67 B_end_L67 B_closed_L67 B_left_L67 B_begun_L67 B_begunLength_L67 → ∀ (H : Heap) (locs : List Loc), va_P (dC, dI) vwCl [(qB, .inr (1, [.int B_thrown_L67, .ref qB_buffer, .ref qB_words, .ref qB_serials, .ref qB_lengths, .ref qB_kinds, .ref qB_owners, .ref qB_olders, .ref qB_links, .ref qB_voids, .int B_base_L67, .int B_count_L67, .int B_first_L67, .int B_forced_L67, .int B_end_L67, .int B_closed_L67, .int B_left_L67, .int B_begun_L67, .int B_begunLength_L67])), (qB_buffer, .inl (cB_buffer, 200, .inl B_buffer_L67)), (qB_words, .inl (cB_words, 65536, .inl B_words_L67)), (qB_serials, .inl (cB_serials, 4400, .inl B_serials_L67)), (qB_lengths, .inl (cB_lengths, 4400, .inl B_lengths_L67)), (qB_kinds, .inl (cB_kinds, 4400, .inl B_kinds_L67)), (qB_owners, .inl (cB_owners, 4400, .inl B_owners_L67)), (qB_olders, .inl (cB_olders, 4400, .inl B_olders_L67)), (qB_links, .inl (cB_links, 4400, .inl B_links_L67)), (qB_voids, .inl (cB_voids, 4400, .inl B_voids_L67))] H → va_D A [(qB, .inr (1, [.int B_thrown_L67, .ref qB_buffer, .ref qB_words, .ref qB_serials, .ref qB_lengths, .ref qB_kinds, .ref qB_owners, .ref qB_olders, .ref qB_links, .ref qB_voids, .int B_base_L67, .int B_count_L67, .int B_first_L67, .int B_forced_L67, .int B_end_L67, .int B_closed_L67, .int B_left_L67, .int B_begun_L67, .int B_begunLength_L67])), (qB_buffer, .inl (cB_buffer, 200, .inl B_buffer_L67)), (qB_words, .inl (cB_words, 65536, .inl B_words_L67)), (qB_serials, .inl (cB_serials, 4400, .inl B_serials_L67)), (qB_lengths, .inl (cB_lengths, 4400, .inl B_lengths_L67)), (qB_kinds, .inl (cB_kinds, 4400, .inl B_kinds_L67)), (qB_owners, .inl (cB_owners, 4400, .inl B_owners_L67)), (qB_olders, .inl (cB_olders, 4400, .inl B_olders_L67)), (qB_links, .inl (cB_links, 4400, .inl B_links_L67)), (qB_voids, .inl (cB_voids, 4400, .inl B_voids_L67))] → va_S A s.heap H locs → ∀ ls : Array Slot, lv_has ls 7 [(0, .ref qB), (1, .int k67_1), (2, .int k67_2), (3, .int k67_3), (4, .int k67_4), (5, .int k67_5)] → W p l e (headSpec wsX1_append ({ frames := 1, cells := 0, slots := 0, locals := 23 } : Room)).room s m args below meth c H locs 0 0 QQ (F0 m 67 ls [.int z67_0, .int z67_1, .ref qB]) := by
    intro k67_1 k67_2 k67_3 k67_4 k67_5 z67_0 z67_1 B_thrown_L67 B_buffer_L67 B_words_L67 B_serials_L67 B_lengths_L67 B_kinds_L67 B_owners_L67 B_olders_L67 B_links_L67 B_voids_L67 B_base_L67 B_count_L67 B_first_L67 B_forced_L67 B_end_L67 B_closed_L67 B_left_L67 B_begun_L67 B_begunLength_L67 hw H locs hP hD hS ls hl
    unfold wc_X1_append_67 at hw
    refine lv_iconst (v := (0 : Int32)) hx hb dX1_append_67 (by decide) ?_
    have hFc := va_free (wc := [(qB, .inr (1, [.int B_thrown_L67, .ref qB_buffer, .ref qB_words, .ref qB_serials, .ref qB_lengths, .ref qB_kinds, .ref qB_owners, .ref qB_olders, .ref qB_links, .ref qB_voids, .int B_base_L67, .int B_count_L67, .int B_first_L67, .int B_forced_L67, .int B_end_L67, .int B_closed_L67, .int B_left_L67, .int B_begun_L67, .int B_begunLength_L67])), (qB_buffer, .inl (cB_buffer, 200, .inl B_buffer_L67)), (qB_words, .inl (cB_words, 65536, .inl B_words_L67)), (qB_serials, .inl (cB_serials, 4400, .inl B_serials_L67)), (qB_lengths, .inl (cB_lengths, 4400, .inl B_lengths_L67)), (qB_kinds, .inl (cB_kinds, 4400, .inl B_kinds_L67)), (qB_owners, .inl (cB_owners, 4400, .inl B_owners_L67)), (qB_olders, .inl (cB_olders, 4400, .inl B_olders_L67)), (qB_links, .inl (cB_links, 4400, .inl B_links_L67)), (qB_voids, .inl (cB_voids, 4400, .inl B_voids_L67))]) hD hS hA [0, 1, 2, 3, 4, 5, 6, 7, 8, 9] rfl
    refine va_calli (va_runV (As := [.int z67_1, .int z67_0, .int (0 : Int32)]) (rest := []) ⟨hx, hb, hml, hown, hbg⟩ (met_X1_refused l dC dI qB qB_buffer qB_words qB_serials qB_lengths qB_kinds qB_owners qB_olders qB_links qB_voids cB_buffer cB_words cB_serials cB_lengths cB_kinds cB_owners cB_olders cB_links cB_voids H.size B_thrown_L67 B_buffer_L67 B_words_L67 B_serials_L67 B_lengths_L67 B_kinds_L67 B_owners_L67 B_olders_L67 B_links_L67 B_voids_L67 B_base_L67 B_count_L67 B_first_L67 B_forced_L67 B_end_L67 B_closed_L67 B_left_L67 B_begun_L67 B_begunLength_L67 z67_1 z67_0 (0 : Int32) _ hw) (cwV 3 hbg g_RX1_75 rfl rfl rfl (by decide +kernel) ⟨Nat.le_of_ble_eq_true rfl, Nat.le_of_ble_eq_true rfl⟩) ⟨pcW_B_b _ _ _ _ _ _ _ _ _ _ _ _ _ _ _ _ _ _ _ _ _ _ _ _ _ _ _ _ _ _ _ _ _ _ _ _ _ _ _ _ _ _, va_recv hK hP (ci := 1) (q0 := 0) rfl rfl, fun U hU hW => ⟨rfl, by rw [hU], by rw [hU]; exact hP, va_K.moved hW.alike hK, hD.weaken (fun _ _ _ _ => trivial)⟩⟩ rfl rfl hl.1 rfl (lv_room (Nat.le_of_ble_eq_true rfl)) dX1_append_68 ⟨Nat.le_of_ble_eq_true rfl, Nat.le_of_ble_eq_true rfl⟩) hS (fun q _ h => hFc q h) hFc (fun r_6 u_6 t_6 H_6 locs ht hvm hw hB hz1 hk1 hS => ?_)
    obtain ⟨B_thrown_6, B_buffer_6, B_words_6, B_serials_6, B_lengths_6, B_kinds_6, B_owners_6, B_olders_6, B_links_6, B_voids_6, B_base_6, B_count_6, B_first_6, B_forced_6, B_end_6, B_closed_6, B_left_6, B_begun_6, B_begunLength_6⟩ := u_6
    obtain ⟨hP1, hK1, hD1⟩ := hB
    rw [ht] at hP1
    try dsimp only at hw
    have hP : va_P (dC, dI) vwCl [(qB, .inr (1, [.int B_thrown_6, .ref qB_buffer, .ref qB_words, .ref qB_serials, .ref qB_lengths, .ref qB_kinds, .ref qB_owners, .ref qB_olders, .ref qB_links, .ref qB_voids, .int B_base_6, .int B_count_6, .int B_first_6, .int B_forced_6, .int B_end_6, .int B_closed_6, .int B_left_6, .int B_begun_6, .int B_begunLength_6])), (qB_buffer, .inl (cB_buffer, 200, .inl B_buffer_6)), (qB_words, .inl (cB_words, 65536, .inl B_words_6)), (qB_serials, .inl (cB_serials, 4400, .inl B_serials_6)), (qB_lengths, .inl (cB_lengths, 4400, .inl B_lengths_6)), (qB_kinds, .inl (cB_kinds, 4400, .inl B_kinds_6)), (qB_owners, .inl (cB_owners, 4400, .inl B_owners_6)), (qB_olders, .inl (cB_olders, 4400, .inl B_olders_6)), (qB_links, .inl (cB_links, 4400, .inl B_links_6)), (qB_voids, .inl (cB_voids, 4400, .inl B_voids_6))] H_6 := hP1
    have hD : va_D A [(qB, .inr (1, [.int B_thrown_6, .ref qB_buffer, .ref qB_words, .ref qB_serials, .ref qB_lengths, .ref qB_kinds, .ref qB_owners, .ref qB_olders, .ref qB_links, .ref qB_voids, .int B_base_6, .int B_count_6, .int B_first_6, .int B_forced_6, .int B_end_6, .int B_closed_6, .int B_left_6, .int B_begun_6, .int B_begunLength_6])), (qB_buffer, .inl (cB_buffer, 200, .inl B_buffer_6)), (qB_words, .inl (cB_words, 65536, .inl B_words_6)), (qB_serials, .inl (cB_serials, 4400, .inl B_serials_6)), (qB_lengths, .inl (cB_lengths, 4400, .inl B_lengths_6)), (qB_kinds, .inl (cB_kinds, 4400, .inl B_kinds_6)), (qB_owners, .inl (cB_owners, 4400, .inl B_owners_6)), (qB_olders, .inl (cB_olders, 4400, .inl B_olders_6)), (qB_links, .inl (cB_links, 4400, .inl B_links_6)), (qB_voids, .inl (cB_voids, 4400, .inl B_voids_6))] := hD1.weaken (fun _ _ _ h => hFc _ h)
    refine lv_if_eq (tgt := 76) hx hb dX1_append_71 (by decide) (fun c9 => ?_) (fun c9 => ?_)
    · have hw := hw.1 c9
      refine lv_aload_n hx hb dX1_append_76 rfl (lv_at hl 0 rfl) ?_
      refine va_get (D := (dC, dI)) (ci := 1) (v := .int B_end_6) (C := RX1) (T := TX1) (N := 19) hx hb hbg in_X1 hown hK hP 0 rfl rfl 14 (by decide) (hbg _ kw_75) (fun _ h9 => h9) rfl dX1_append_77 ?_
      refine lv_aload_n hx hb dX1_append_80 rfl (lv_at hl 0 rfl) ?_
      refine va_get (D := (dC, dI)) (ci := 1) (v := .int B_first_6) (C := RX1) (T := TX1) (N := 19) hx hb hbg in_X1 hown hK hP 0 rfl rfl 12 (by decide) (hbg _ kw_81) (fun _ h9 => h9) rfl dX1_append_81 ?_
      refine lv_isub hx hb dX1_append_84 ?_
      refine lv_iload hx hb dX1_append_85 (lv_at hl 4 rfl) ?_
      refine lv_iadd hx hb dX1_append_87 ?_
      refine lv_iconst (v := (5 : Int32)) hx hb dX1_append_88 (by decide) ?_
      refine lv_iadd hx hb dX1_append_89 ?_
      refine lv_ldc (v := (65536 : Int32)) hx hb hown (hbg _ kw_82) dX1_append_90 ?_
      refine lv_icmp_le (tgt := 97) hx hb dX1_append_92 (by decide) (fun c9 => ?_) (fun c9 => ?_)
      · have hw := hw.1 c9
        refine lv_aload_n hx hb dX1_append_97 rfl (lv_at hl 0 rfl) ?_
        refine va_get (D := (dC, dI)) (ci := 1) (v := .ref qB_kinds) (C := RX1) (T := TX1) (N := 19) hx hb hbg in_X1 hown hK hP 0 rfl rfl 5 (by decide) (hbg _ kw_83) (fun _ h9 => h9) rfl dX1_append_98 ?_
        refine lv_aload_n hx hb dX1_append_101 rfl (lv_at hl 0 rfl) ?_
        refine va_get (D := (dC, dI)) (ci := 1) (v := .int B_count_6) (C := RX1) (T := TX1) (N := 19) hx hb hbg in_X1 hown hK hP 0 rfl rfl 11 (by decide) (hbg _ kw_66) (fun _ h9 => h9) rfl dX1_append_102 ?_
        refine lv_iload_n hx hb dX1_append_105 rfl (lv_at hl 1 rfl) ?_
        obtain ⟨h_7, hw⟩ := hw
        refine va_iast hx hb hK hP hD hS 5 4 rfl rfl h_7 dX1_append_106 (fun H_8 locs hP hD hS => ?_)
        have hP : va_P (dC, dI) vwCl [(qB, .inr (1, [.int B_thrown_6, .ref qB_buffer, .ref qB_words, .ref qB_serials, .ref qB_lengths, .ref qB_kinds, .ref qB_owners, .ref qB_olders, .ref qB_links, .ref qB_voids, .int B_base_6, .int B_count_6, .int B_first_6, .int B_forced_6, .int B_end_6, .int B_closed_6, .int B_left_6, .int B_begun_6, .int B_begunLength_6])), (qB_buffer, .inl (cB_buffer, 200, .inl B_buffer_6)), (qB_words, .inl (cB_words, 65536, .inl B_words_6)), (qB_serials, .inl (cB_serials, 4400, .inl B_serials_6)), (qB_lengths, .inl (cB_lengths, 4400, .inl B_lengths_6)), (qB_kinds, .inl (cB_kinds, 4400, .inl (upd B_kinds_6 B_count_6.toNatClampNeg k67_1))), (qB_owners, .inl (cB_owners, 4400, .inl B_owners_6)), (qB_olders, .inl (cB_olders, 4400, .inl B_olders_6)), (qB_links, .inl (cB_links, 4400, .inl B_links_6)), (qB_voids, .inl (cB_voids, 4400, .inl B_voids_6))] H_8 := hP
        have hD : va_D A [(qB, .inr (1, [.int B_thrown_6, .ref qB_buffer, .ref qB_words, .ref qB_serials, .ref qB_lengths, .ref qB_kinds, .ref qB_owners, .ref qB_olders, .ref qB_links, .ref qB_voids, .int B_base_6, .int B_count_6, .int B_first_6, .int B_forced_6, .int B_end_6, .int B_closed_6, .int B_left_6, .int B_begun_6, .int B_begunLength_6])), (qB_buffer, .inl (cB_buffer, 200, .inl B_buffer_6)), (qB_words, .inl (cB_words, 65536, .inl B_words_6)), (qB_serials, .inl (cB_serials, 4400, .inl B_serials_6)), (qB_lengths, .inl (cB_lengths, 4400, .inl B_lengths_6)), (qB_kinds, .inl (cB_kinds, 4400, .inl (upd B_kinds_6 B_count_6.toNatClampNeg k67_1))), (qB_owners, .inl (cB_owners, 4400, .inl B_owners_6)), (qB_olders, .inl (cB_olders, 4400, .inl B_olders_6)), (qB_links, .inl (cB_links, 4400, .inl B_links_6)), (qB_voids, .inl (cB_voids, 4400, .inl B_voids_6))] := hD
        refine lv_aload_n hx hb dX1_append_107 rfl (lv_at hl 0 rfl) ?_
        refine va_get (D := (dC, dI)) (ci := 1) (v := .ref qB_owners) (C := RX1) (T := TX1) (N := 19) hx hb hbg in_X1 hown hK hP 0 rfl rfl 6 (by decide) (hbg _ kw_69) (fun _ h9 => h9) rfl dX1_append_108 ?_
        refine lv_aload_n hx hb dX1_append_111 rfl (lv_at hl 0 rfl) ?_
        refine va_get (D := (dC, dI)) (ci := 1) (v := .int B_count_6) (C := RX1) (T := TX1) (N := 19) hx hb hbg in_X1 hown hK hP 0 rfl rfl 11 (by decide) (hbg _ kw_66) (fun _ h9 => h9) rfl dX1_append_112 ?_
        refine lv_iload_n hx hb dX1_append_115 rfl (lv_at hl 2 rfl) ?_
        obtain ⟨h_9, hw⟩ := hw
        refine va_iast hx hb hK hP hD hS 6 5 rfl rfl h_9 dX1_append_116 (fun H_10 locs hP hD hS => ?_)
        have hP : va_P (dC, dI) vwCl [(qB, .inr (1, [.int B_thrown_6, .ref qB_buffer, .ref qB_words, .ref qB_serials, .ref qB_lengths, .ref qB_kinds, .ref qB_owners, .ref qB_olders, .ref qB_links, .ref qB_voids, .int B_base_6, .int B_count_6, .int B_first_6, .int B_forced_6, .int B_end_6, .int B_closed_6, .int B_left_6, .int B_begun_6, .int B_begunLength_6])), (qB_buffer, .inl (cB_buffer, 200, .inl B_buffer_6)), (qB_words, .inl (cB_words, 65536, .inl B_words_6)), (qB_serials, .inl (cB_serials, 4400, .inl B_serials_6)), (qB_lengths, .inl (cB_lengths, 4400, .inl B_lengths_6)), (qB_kinds, .inl (cB_kinds, 4400, .inl (upd B_kinds_6 B_count_6.toNatClampNeg k67_1))), (qB_owners, .inl (cB_owners, 4400, .inl (upd B_owners_6 B_count_6.toNatClampNeg k67_2))), (qB_olders, .inl (cB_olders, 4400, .inl B_olders_6)), (qB_links, .inl (cB_links, 4400, .inl B_links_6)), (qB_voids, .inl (cB_voids, 4400, .inl B_voids_6))] H_10 := hP
        have hD : va_D A [(qB, .inr (1, [.int B_thrown_6, .ref qB_buffer, .ref qB_words, .ref qB_serials, .ref qB_lengths, .ref qB_kinds, .ref qB_owners, .ref qB_olders, .ref qB_links, .ref qB_voids, .int B_base_6, .int B_count_6, .int B_first_6, .int B_forced_6, .int B_end_6, .int B_closed_6, .int B_left_6, .int B_begun_6, .int B_begunLength_6])), (qB_buffer, .inl (cB_buffer, 200, .inl B_buffer_6)), (qB_words, .inl (cB_words, 65536, .inl B_words_6)), (qB_serials, .inl (cB_serials, 4400, .inl B_serials_6)), (qB_lengths, .inl (cB_lengths, 4400, .inl B_lengths_6)), (qB_kinds, .inl (cB_kinds, 4400, .inl (upd B_kinds_6 B_count_6.toNatClampNeg k67_1))), (qB_owners, .inl (cB_owners, 4400, .inl (upd B_owners_6 B_count_6.toNatClampNeg k67_2))), (qB_olders, .inl (cB_olders, 4400, .inl B_olders_6)), (qB_links, .inl (cB_links, 4400, .inl B_links_6)), (qB_voids, .inl (cB_voids, 4400, .inl B_voids_6))] := hD
        refine lv_aload_n hx hb dX1_append_117 rfl (lv_at hl 0 rfl) ?_
        refine va_get (D := (dC, dI)) (ci := 1) (v := .ref qB_olders) (C := RX1) (T := TX1) (N := 19) hx hb hbg in_X1 hown hK hP 0 rfl rfl 7 (by decide) (hbg _ kw_84) (fun _ h9 => h9) rfl dX1_append_118 ?_
        refine lv_aload_n hx hb dX1_append_121 rfl (lv_at hl 0 rfl) ?_
        refine va_get (D := (dC, dI)) (ci := 1) (v := .int B_count_6) (C := RX1) (T := TX1) (N := 19) hx hb hbg in_X1 hown hK hP 0 rfl rfl 11 (by decide) (hbg _ kw_66) (fun _ h9 => h9) rfl dX1_append_122 ?_
        refine lv_aload_n hx hb dX1_append_125 rfl (lv_at hl 0 rfl) ?_
        refine lv_iload_n hx hb dX1_append_126 rfl (lv_at hl 2 rfl) ?_
        refine vp_callSi (W.runV (As := [.int k67_2]) (rest := [.int B_count_6, .ref qB_olders]) ⟨hx, hb, hml, hown, hbg⟩ (met_X1_latestOf l dC dI qB qB_buffer qB_words qB_serials qB_lengths qB_kinds qB_owners qB_olders qB_links qB_voids cB_buffer cB_words cB_serials cB_lengths cB_kinds cB_owners cB_olders cB_links cB_voids B_thrown_6 B_buffer_6 B_words_6 B_serials_6 B_lengths_6 (upd B_kinds_6 B_count_6.toNatClampNeg k67_1) (upd B_owners_6 B_count_6.toNatClampNeg k67_2) B_olders_6 B_links_6 B_voids_6 B_base_6 B_count_6 B_first_6 B_forced_6 B_end_6 B_closed_6 B_left_6 B_begun_6 B_begunLength_6 k67_2 _ hw) (cwV 1 hbg g_RX1_90 rfl rfl rfl (by decide +kernel) ⟨Nat.le_of_ble_eq_true rfl, Nat.le_of_ble_eq_true rfl⟩) ⟨pcR_B_b _ _ _ _ _ _ _ _ _ _ _ _ _ _ _ _ _ _ _ _ _ _ _ _ _ _ _ _ _ _ _ _ _ _ _ _ _ _ _ _ _ , va_recv hK hP (ci := 1) (q0 := 0) rfl rfl, fun U hU hW => ⟨rfl, by rw [hU]; exact hP, va_K.moved hW.alike hK⟩⟩ rfl rfl hl.1 rfl (lv_room (Nat.le_of_ble_eq_true rfl)) dX1_append_127 ⟨Nat.le_of_ble_eq_true rfl, Nat.le_of_ble_eq_true rfl⟩) (fun r_11 hw => ?_)
        try dsimp only at hw
        obtain ⟨h_12, hw⟩ := hw
        refine va_iast hx hb hK hP hD hS 7 6 rfl rfl h_12 dX1_append_130 (fun H_13 locs hP hD hS => ?_)
        have hP : va_P (dC, dI) vwCl [(qB, .inr (1, [.int B_thrown_6, .ref qB_buffer, .ref qB_words, .ref qB_serials, .ref qB_lengths, .ref qB_kinds, .ref qB_owners, .ref qB_olders, .ref qB_links, .ref qB_voids, .int B_base_6, .int B_count_6, .int B_first_6, .int B_forced_6, .int B_end_6, .int B_closed_6, .int B_left_6, .int B_begun_6, .int B_begunLength_6])), (qB_buffer, .inl (cB_buffer, 200, .inl B_buffer_6)), (qB_words, .inl (cB_words, 65536, .inl B_words_6)), (qB_serials, .inl (cB_serials, 4400, .inl B_serials_6)), (qB_lengths, .inl (cB_lengths, 4400, .inl B_lengths_6)), (qB_kinds, .inl (cB_kinds, 4400, .inl (upd B_kinds_6 B_count_6.toNatClampNeg k67_1))), (qB_owners, .inl (cB_owners, 4400, .inl (upd B_owners_6 B_count_6.toNatClampNeg k67_2))), (qB_olders, .inl (cB_olders, 4400, .inl (upd B_olders_6 B_count_6.toNatClampNeg r_11))), (qB_links, .inl (cB_links, 4400, .inl B_links_6)), (qB_voids, .inl (cB_voids, 4400, .inl B_voids_6))] H_13 := hP
        have hD : va_D A [(qB, .inr (1, [.int B_thrown_6, .ref qB_buffer, .ref qB_words, .ref qB_serials, .ref qB_lengths, .ref qB_kinds, .ref qB_owners, .ref qB_olders, .ref qB_links, .ref qB_voids, .int B_base_6, .int B_count_6, .int B_first_6, .int B_forced_6, .int B_end_6, .int B_closed_6, .int B_left_6, .int B_begun_6, .int B_begunLength_6])), (qB_buffer, .inl (cB_buffer, 200, .inl B_buffer_6)), (qB_words, .inl (cB_words, 65536, .inl B_words_6)), (qB_serials, .inl (cB_serials, 4400, .inl B_serials_6)), (qB_lengths, .inl (cB_lengths, 4400, .inl B_lengths_6)), (qB_kinds, .inl (cB_kinds, 4400, .inl (upd B_kinds_6 B_count_6.toNatClampNeg k67_1))), (qB_owners, .inl (cB_owners, 4400, .inl (upd B_owners_6 B_count_6.toNatClampNeg k67_2))), (qB_olders, .inl (cB_olders, 4400, .inl (upd B_olders_6 B_count_6.toNatClampNeg r_11))), (qB_links, .inl (cB_links, 4400, .inl B_links_6)), (qB_voids, .inl (cB_voids, 4400, .inl B_voids_6))] := hD
        refine lv_aload_n hx hb dX1_append_131 rfl (lv_at hl 0 rfl) ?_
        refine va_get (D := (dC, dI)) (ci := 1) (v := .ref qB_links) (C := RX1) (T := TX1) (N := 19) hx hb hbg in_X1 hown hK hP 0 rfl rfl 8 (by decide) (hbg _ kw_89) (fun _ h9 => h9) rfl dX1_append_132 ?_
        refine lv_aload_n hx hb dX1_append_135 rfl (lv_at hl 0 rfl) ?_
        refine va_get (D := (dC, dI)) (ci := 1) (v := .int B_count_6) (C := RX1) (T := TX1) (N := 19) hx hb hbg in_X1 hown hK hP 0 rfl rfl 11 (by decide) (hbg _ kw_66) (fun _ h9 => h9) rfl dX1_append_136 ?_
        refine lv_iload_n hx hb dX1_append_139 rfl (lv_at hl 3 rfl) ?_
        obtain ⟨h_14, hw⟩ := hw
        refine va_iast hx hb hK hP hD hS 8 7 rfl rfl h_14 dX1_append_140 (fun H_15 locs hP hD hS => ?_)
        have hP : va_P (dC, dI) vwCl [(qB, .inr (1, [.int B_thrown_6, .ref qB_buffer, .ref qB_words, .ref qB_serials, .ref qB_lengths, .ref qB_kinds, .ref qB_owners, .ref qB_olders, .ref qB_links, .ref qB_voids, .int B_base_6, .int B_count_6, .int B_first_6, .int B_forced_6, .int B_end_6, .int B_closed_6, .int B_left_6, .int B_begun_6, .int B_begunLength_6])), (qB_buffer, .inl (cB_buffer, 200, .inl B_buffer_6)), (qB_words, .inl (cB_words, 65536, .inl B_words_6)), (qB_serials, .inl (cB_serials, 4400, .inl B_serials_6)), (qB_lengths, .inl (cB_lengths, 4400, .inl B_lengths_6)), (qB_kinds, .inl (cB_kinds, 4400, .inl (upd B_kinds_6 B_count_6.toNatClampNeg k67_1))), (qB_owners, .inl (cB_owners, 4400, .inl (upd B_owners_6 B_count_6.toNatClampNeg k67_2))), (qB_olders, .inl (cB_olders, 4400, .inl (upd B_olders_6 B_count_6.toNatClampNeg r_11))), (qB_links, .inl (cB_links, 4400, .inl (upd B_links_6 B_count_6.toNatClampNeg k67_3))), (qB_voids, .inl (cB_voids, 4400, .inl B_voids_6))] H_15 := hP
        have hD : va_D A [(qB, .inr (1, [.int B_thrown_6, .ref qB_buffer, .ref qB_words, .ref qB_serials, .ref qB_lengths, .ref qB_kinds, .ref qB_owners, .ref qB_olders, .ref qB_links, .ref qB_voids, .int B_base_6, .int B_count_6, .int B_first_6, .int B_forced_6, .int B_end_6, .int B_closed_6, .int B_left_6, .int B_begun_6, .int B_begunLength_6])), (qB_buffer, .inl (cB_buffer, 200, .inl B_buffer_6)), (qB_words, .inl (cB_words, 65536, .inl B_words_6)), (qB_serials, .inl (cB_serials, 4400, .inl B_serials_6)), (qB_lengths, .inl (cB_lengths, 4400, .inl B_lengths_6)), (qB_kinds, .inl (cB_kinds, 4400, .inl (upd B_kinds_6 B_count_6.toNatClampNeg k67_1))), (qB_owners, .inl (cB_owners, 4400, .inl (upd B_owners_6 B_count_6.toNatClampNeg k67_2))), (qB_olders, .inl (cB_olders, 4400, .inl (upd B_olders_6 B_count_6.toNatClampNeg r_11))), (qB_links, .inl (cB_links, 4400, .inl (upd B_links_6 B_count_6.toNatClampNeg k67_3))), (qB_voids, .inl (cB_voids, 4400, .inl B_voids_6))] := hD
        refine lv_iconst (v := (0 : Int32)) hx hb dX1_append_141 (by decide) ?_
        refine lv_istore (lv' := [(6, .int (0 : Int32)), (0, .ref qB), (1, .int k67_1), (2, .int k67_2), (3, .int k67_3), (4, .int k67_4), (5, .int k67_5)]) hx hb dX1_append_142 hl (by decide) rfl (fun ls hl => ?_)
        obtain ⟨n9, hw⟩ := hw
        exact hL144 n9 k67_1 k67_2 k67_3 k67_4 k67_5 (0 : Int32) B_thrown_6 B_buffer_6 B_words_6 B_serials_6 B_lengths_6 (upd B_kinds_6 B_count_6.toNatClampNeg k67_1) (upd B_owners_6 B_count_6.toNatClampNeg k67_2) (upd B_olders_6 B_count_6.toNatClampNeg r_11) (upd B_links_6 B_count_6.toNatClampNeg k67_3) B_voids_6 B_base_6 B_count_6 B_first_6 B_forced_6 B_end_6 B_closed_6 B_left_6 B_begun_6 B_begunLength_6 hw _ _ hP hD hS ls (lv_sub hl [1, 2, 3, 4, 5, 6, 0] rfl)
      · have hw := hw.2 c9
        refine lv_iconst (v := (-1 : Int32)) hx hb dX1_append_95 (by decide) ?_
        subst hQQ
        exact W.iret (v := (-1 : Int32)) hx hb hr (fun t ht hW => ⟨⟨(-1 : Int32), (B_thrown_6, B_buffer_6, B_words_6, B_serials_6, B_lengths_6, B_kinds_6, B_owners_6, B_olders_6, B_links_6, B_voids_6, B_base_6, B_count_6, B_first_6, B_forced_6, B_end_6, B_closed_6, B_left_6, B_begun_6, B_begunLength_6), rfl, hw, by rw [ht]; exact hP, va_K.moved hW.alike hK, hD⟩, hS.F ht⟩) hS.2.2 dX1_append_96
    · have hw := hw.2 c9
      refine lv_iconst (v := (0 : Int32)) hx hb dX1_append_74 (by decide) ?_
      subst hQQ
      exact W.iret (v := (0 : Int32)) hx hb hr (fun t ht hW => ⟨⟨(0 : Int32), (B_thrown_6, B_buffer_6, B_words_6, B_serials_6, B_lengths_6, B_kinds_6, B_owners_6, B_olders_6, B_links_6, B_voids_6, B_base_6, B_count_6, B_first_6, B_forced_6, B_end_6, B_closed_6, B_left_6, B_begun_6, B_begunLength_6), rfl, hw, by rw [ht]; exact hP, va_K.moved hW.alike hK, hD⟩, hS.F ht⟩) hS.2.2 dX1_append_75
  have hC50 : ∀ (k50_1 : Int32) (k50_2 : Int32) (k50_3 : Int32) (k50_4 : Int32) (z50_0 : Int32) (B_thrown_L50 : Int32) (B_buffer_L50 : Nat → Int32) (B_words_L50 : Nat → Int32) (B_serials_L50 : Nat → Int32) (B_lengths_L50 : Nat → Int32) (B_kinds_L50 : Nat → Int32) (B_owners_L50 : Nat → Int32) (B_olders_L50 : Nat → Int32) (B_links_L50 : Nat → Int32) (B_voids_L50 : Nat → Int32) (B_base_L50 : Int32) (B_count_L50 : Int32) (B_first_L50 : Int32) (B_forced_L50 : Int32) (B_end_L50 : Int32) (B_closed_L50 : Int32) (B_left_L50 : Int32) (B_begun_L50 : Int32) (B_begunLength_L50 : Int32), wc_X1_append_50 post k50_1 k50_2 k50_3 k50_4 z50_0 B_thrown_L50 B_buffer_L50 B_words_L50 B_serials_L50 B_lengths_L50 B_kinds_L50 B_owners_L50 B_olders_L50 B_links_L50 B_voids_L50 B_base_L50 B_count_L50 B_first_L50 B_forced_L50 B_end_L50 B_closed_L50 B_left_L50 B_begun_L50 B_begunLength_L50 → ∀ (H : Heap) (locs : List Loc), va_P (dC, dI) vwCl [(qB, .inr (1, [.int B_thrown_L50, .ref qB_buffer, .ref qB_words, .ref qB_serials, .ref qB_lengths, .ref qB_kinds, .ref qB_owners, .ref qB_olders, .ref qB_links, .ref qB_voids, .int B_base_L50, .int B_count_L50, .int B_first_L50, .int B_forced_L50, .int B_end_L50, .int B_closed_L50, .int B_left_L50, .int B_begun_L50, .int B_begunLength_L50])), (qB_buffer, .inl (cB_buffer, 200, .inl B_buffer_L50)), (qB_words, .inl (cB_words, 65536, .inl B_words_L50)), (qB_serials, .inl (cB_serials, 4400, .inl B_serials_L50)), (qB_lengths, .inl (cB_lengths, 4400, .inl B_lengths_L50)), (qB_kinds, .inl (cB_kinds, 4400, .inl B_kinds_L50)), (qB_owners, .inl (cB_owners, 4400, .inl B_owners_L50)), (qB_olders, .inl (cB_olders, 4400, .inl B_olders_L50)), (qB_links, .inl (cB_links, 4400, .inl B_links_L50)), (qB_voids, .inl (cB_voids, 4400, .inl B_voids_L50))] H → va_D A [(qB, .inr (1, [.int B_thrown_L50, .ref qB_buffer, .ref qB_words, .ref qB_serials, .ref qB_lengths, .ref qB_kinds, .ref qB_owners, .ref qB_olders, .ref qB_links, .ref qB_voids, .int B_base_L50, .int B_count_L50, .int B_first_L50, .int B_forced_L50, .int B_end_L50, .int B_closed_L50, .int B_left_L50, .int B_begun_L50, .int B_begunLength_L50])), (qB_buffer, .inl (cB_buffer, 200, .inl B_buffer_L50)), (qB_words, .inl (cB_words, 65536, .inl B_words_L50)), (qB_serials, .inl (cB_serials, 4400, .inl B_serials_L50)), (qB_lengths, .inl (cB_lengths, 4400, .inl B_lengths_L50)), (qB_kinds, .inl (cB_kinds, 4400, .inl B_kinds_L50)), (qB_owners, .inl (cB_owners, 4400, .inl B_owners_L50)), (qB_olders, .inl (cB_olders, 4400, .inl B_olders_L50)), (qB_links, .inl (cB_links, 4400, .inl B_links_L50)), (qB_voids, .inl (cB_voids, 4400, .inl B_voids_L50))] → va_S A s.heap H locs → ∀ ls : Array Slot, lv_has ls 7 [(0, .ref qB), (1, .int k50_1), (2, .int k50_2), (3, .int k50_3), (4, .int k50_4)] → W p l e (headSpec wsX1_append ({ frames := 1, cells := 0, slots := 0, locals := 23 } : Room)).room s m args below meth c H locs 0 0 QQ (F0 m 50 ls [.int z50_0]) := by
    intro k50_1 k50_2 k50_3 k50_4 z50_0 B_thrown_L50 B_buffer_L50 B_words_L50 B_serials_L50 B_lengths_L50 B_kinds_L50 B_owners_L50 B_olders_L50 B_links_L50 B_voids_L50 B_base_L50 B_count_L50 B_first_L50 B_forced_L50 B_end_L50 B_closed_L50 B_left_L50 B_begun_L50 B_begunLength_L50 hw H locs hP hD hS ls hl
    unfold wc_X1_append_50 at hw
    refine lv_istore (lv' := [(5, .int z50_0), (0, .ref qB), (1, .int k50_1), (2, .int k50_2), (3, .int k50_3), (4, .int k50_4)]) hx hb dX1_append_50 hl (by decide) rfl (fun ls hl => ?_)
    refine lv_aload_n hx hb dX1_append_52 rfl (lv_at hl 1 rfl) ?_
    refine lv_aload_n hx hb dX1_append_53 rfl (lv_at hl 1 rfl) ?_
    refine va_get (D := (dC, dI)) (ci := 1) (v := .int B_closed_L50) (C := RX1) (T := TX1) (N := 19) hx hb hbg in_X1 hown hK hP 0 rfl rfl 15 (by decide) (hbg _ kw_76) (fun _ h9 => h9) rfl dX1_append_54 ?_
    refine lv_iload hx hb dX1_append_57 (lv_at hl 0 rfl) ?_
    refine lv_if_ne (tgt := 66) hx hb dX1_append_59 (by decide) (fun c9 => ?_) (fun c9 => ?_)
    · have hw := hw.2 c9
      refine lv_iconst (v := (0 : Int32)) hx hb dX1_append_66 (by decide) ?_
      exact hC67 k50_1 k50_2 k50_3 k50_4 z50_0 (0 : Int32) B_closed_L50 B_thrown_L50 B_buffer_L50 B_words_L50 B_serials_L50 B_lengths_L50 B_kinds_L50 B_owners_L50 B_olders_L50 B_links_L50 B_voids_L50 B_base_L50 B_count_L50 B_first_L50 B_forced_L50 B_end_L50 B_closed_L50 B_left_L50 B_begun_L50 B_begunLength_L50 hw _ _ hP hD hS ls (lv_sub hl [1, 2, 3, 4, 5, 0] rfl)
    · have hw := hw.1 c9
      refine lv_iconst (v := (1 : Int32)) hx hb dX1_append_62 (by decide) ?_
      refine lv_goto (tgt := 67) hx hb dX1_append_63 (by decide) ?_
      exact hC67 k50_1 k50_2 k50_3 k50_4 z50_0 (1 : Int32) B_closed_L50 B_thrown_L50 B_buffer_L50 B_words_L50 B_serials_L50 B_lengths_L50 B_kinds_L50 B_owners_L50 B_olders_L50 B_links_L50 B_voids_L50 B_base_L50 B_count_L50 B_first_L50 B_forced_L50 B_end_L50 B_closed_L50 B_left_L50 B_begun_L50 B_begunLength_L50 hw _ _ hP hD hS ls (lv_sub hl [1, 2, 3, 4, 5, 0] rfl)
  have hC49 : ∀ (k49_1 : Int32) (k49_2 : Int32) (k49_3 : Int32) (k49_4 : Int32) (B_thrown_L49 : Int32) (B_buffer_L49 : Nat → Int32) (B_words_L49 : Nat → Int32) (B_serials_L49 : Nat → Int32) (B_lengths_L49 : Nat → Int32) (B_kinds_L49 : Nat → Int32) (B_owners_L49 : Nat → Int32) (B_olders_L49 : Nat → Int32) (B_links_L49 : Nat → Int32) (B_voids_L49 : Nat → Int32) (B_base_L49 : Int32) (B_count_L49 : Int32) (B_first_L49 : Int32) (B_forced_L49 : Int32) (B_end_L49 : Int32) (B_closed_L49 : Int32) (B_left_L49 : Int32) (B_begun_L49 : Int32) (B_begunLength_L49 : Int32), wc_X1_append_49 post k49_1 k49_2 k49_3 k49_4 B_thrown_L49 B_buffer_L49 B_words_L49 B_serials_L49 B_lengths_L49 B_kinds_L49 B_owners_L49 B_olders_L49 B_links_L49 B_voids_L49 B_base_L49 B_count_L49 B_first_L49 B_forced_L49 B_end_L49 B_closed_L49 B_left_L49 B_begun_L49 B_begunLength_L49 → ∀ (H : Heap) (locs : List Loc), va_P (dC, dI) vwCl [(qB, .inr (1, [.int B_thrown_L49, .ref qB_buffer, .ref qB_words, .ref qB_serials, .ref qB_lengths, .ref qB_kinds, .ref qB_owners, .ref qB_olders, .ref qB_links, .ref qB_voids, .int B_base_L49, .int B_count_L49, .int B_first_L49, .int B_forced_L49, .int B_end_L49, .int B_closed_L49, .int B_left_L49, .int B_begun_L49, .int B_begunLength_L49])), (qB_buffer, .inl (cB_buffer, 200, .inl B_buffer_L49)), (qB_words, .inl (cB_words, 65536, .inl B_words_L49)), (qB_serials, .inl (cB_serials, 4400, .inl B_serials_L49)), (qB_lengths, .inl (cB_lengths, 4400, .inl B_lengths_L49)), (qB_kinds, .inl (cB_kinds, 4400, .inl B_kinds_L49)), (qB_owners, .inl (cB_owners, 4400, .inl B_owners_L49)), (qB_olders, .inl (cB_olders, 4400, .inl B_olders_L49)), (qB_links, .inl (cB_links, 4400, .inl B_links_L49)), (qB_voids, .inl (cB_voids, 4400, .inl B_voids_L49))] H → va_D A [(qB, .inr (1, [.int B_thrown_L49, .ref qB_buffer, .ref qB_words, .ref qB_serials, .ref qB_lengths, .ref qB_kinds, .ref qB_owners, .ref qB_olders, .ref qB_links, .ref qB_voids, .int B_base_L49, .int B_count_L49, .int B_first_L49, .int B_forced_L49, .int B_end_L49, .int B_closed_L49, .int B_left_L49, .int B_begun_L49, .int B_begunLength_L49])), (qB_buffer, .inl (cB_buffer, 200, .inl B_buffer_L49)), (qB_words, .inl (cB_words, 65536, .inl B_words_L49)), (qB_serials, .inl (cB_serials, 4400, .inl B_serials_L49)), (qB_lengths, .inl (cB_lengths, 4400, .inl B_lengths_L49)), (qB_kinds, .inl (cB_kinds, 4400, .inl B_kinds_L49)), (qB_owners, .inl (cB_owners, 4400, .inl B_owners_L49)), (qB_olders, .inl (cB_olders, 4400, .inl B_olders_L49)), (qB_links, .inl (cB_links, 4400, .inl B_links_L49)), (qB_voids, .inl (cB_voids, 4400, .inl B_voids_L49))] → va_S A s.heap H locs → ∀ ls : Array Slot, lv_has ls 7 [(0, .ref qB), (1, .int k49_1), (2, .int k49_2), (3, .int k49_3), (4, .int k49_4)] → W p l e (headSpec wsX1_append ({ frames := 1, cells := 0, slots := 0, locals := 23 } : Room)).room s m args below meth c H locs 0 0 QQ (F0 m 49 ls []) := by
    intro k49_1 k49_2 k49_3 k49_4 B_thrown_L49 B_buffer_L49 B_words_L49 B_serials_L49 B_lengths_L49 B_kinds_L49 B_owners_L49 B_olders_L49 B_links_L49 B_voids_L49 B_base_L49 B_count_L49 B_first_L49 B_forced_L49 B_end_L49 B_closed_L49 B_left_L49 B_begun_L49 B_begunLength_L49 hw H locs hP hD hS ls hl
    unfold wc_X1_append_49 at hw
    refine lv_iconst (v := (0 : Int32)) hx hb dX1_append_49 (by decide) ?_
    exact hC50 k49_1 k49_2 k49_3 k49_4 (0 : Int32) B_thrown_L49 B_buffer_L49 B_words_L49 B_serials_L49 B_lengths_L49 B_kinds_L49 B_owners_L49 B_olders_L49 B_links_L49 B_voids_L49 B_base_L49 B_count_L49 B_first_L49 B_forced_L49 B_end_L49 B_closed_L49 B_left_L49 B_begun_L49 B_begunLength_L49 hw _ _ hP hD hS ls (lv_sub hl [0, 1, 2, 3, 4] rfl)
  refine lv_iload_n hx hb dX1_append_0 rfl (lv_at hl 1 rfl) ?_
  refine lv_iconst (v := (0 : Int32)) hx hb dX1_append_1 (by decide) ?_
  refine lv_bipush (v := (15 : Int32)) hx hb dX1_append_2 (by decide) ?_
  have hPc := hP.sub (ws' := []) [] rfl
  have hKc := hK.sub (tys' := []) [] rfl
  refine vp_callSi (W.runS (As := [.int x1, .int (0 : Int32), .int (15 : Int32)]) (rest := []) ⟨hx, hb, hml, hown, hbg⟩ (met_X1_in l dC dI   x1 (0 : Int32) (15 : Int32) _ hw) (va_cwS 3 hbg g_RX1_83 rfl rfl rfl (by decide +kernel) ⟨Nat.le_of_ble_eq_true rfl, Nat.le_of_ble_eq_true rfl⟩) ⟨pcR_N_b _ _ _ , fun U hU hW => ⟨rfl, by rw [hU]; exact hPc, va_K.moved hW.alike hKc⟩⟩ rfl rfl hl.1 rfl (lv_room (Nat.le_of_ble_eq_true rfl)) dX1_append_4 ⟨Nat.le_of_ble_eq_true rfl, Nat.le_of_ble_eq_true rfl⟩) (fun r_16 hw => ?_)
  try dsimp only at hw
  refine lv_if_eq (tgt := 49) hx hb dX1_append_7 (by decide) (fun c9 => ?_) (fun c9 => ?_)
  · have hw := hw.1 c9
    exact hC49 x1 x2 x3 x4 B_thrown B_buffer B_words B_serials B_lengths B_kinds B_owners B_olders B_links B_voids B_base B_count B_first B_forced B_end B_closed B_left B_begun B_begunLength hw _ _ hP hD hS ls (lv_sub hl [0, 1, 2, 3, 4] rfl)
  · have hw := hw.2 c9
    refine lv_iload_n hx hb dX1_append_10 rfl (lv_at hl 2 rfl) ?_
    refine lv_iconst (v := (0 : Int32)) hx hb dX1_append_11 (by decide) ?_
    refine lv_bipush (v := (7 : Int32)) hx hb dX1_append_12 (by decide) ?_
    have hPc := hP.sub (ws' := []) [] rfl
    have hKc := hK.sub (tys' := []) [] rfl
    refine vp_callSi (W.runS (As := [.int x2, .int (0 : Int32), .int (7 : Int32)]) (rest := []) ⟨hx, hb, hml, hown, hbg⟩ (met_X1_in l dC dI   x2 (0 : Int32) (7 : Int32) _ hw) (va_cwS 3 hbg g_RX1_83 rfl rfl rfl (by decide +kernel) ⟨Nat.le_of_ble_eq_true rfl, Nat.le_of_ble_eq_true rfl⟩) ⟨pcR_N_b _ _ _ , fun U hU hW => ⟨rfl, by rw [hU]; exact hPc, va_K.moved hW.alike hKc⟩⟩ rfl rfl hl.1 rfl (lv_room (Nat.le_of_ble_eq_true rfl)) dX1_append_14 ⟨Nat.le_of_ble_eq_true rfl, Nat.le_of_ble_eq_true rfl⟩) (fun r_17 hw => ?_)
    try dsimp only at hw
    refine lv_if_eq (tgt := 49) hx hb dX1_append_17 (by decide) (fun c9 => ?_) (fun c9 => ?_)
    · have hw := hw.1 c9
      exact hC49 x1 x2 x3 x4 B_thrown B_buffer B_words B_serials B_lengths B_kinds B_owners B_olders B_links B_voids B_base B_count B_first B_forced B_end B_closed B_left B_begun B_begunLength hw _ _ hP hD hS ls (lv_sub hl [0, 1, 2, 3, 4] rfl)
    · have hw := hw.2 c9
      refine lv_iload hx hb dX1_append_20 (lv_at hl 4 rfl) ?_
      refine lv_iconst (v := (0 : Int32)) hx hb dX1_append_22 (by decide) ?_
      refine lv_sipush (v := (200 : Int32)) hx hb dX1_append_23 (by decide) ?_
      have hPc := hP.sub (ws' := []) [] rfl
      have hKc := hK.sub (tys' := []) [] rfl
      refine vp_callSi (W.runS (As := [.int x4, .int (0 : Int32), .int (200 : Int32)]) (rest := []) ⟨hx, hb, hml, hown, hbg⟩ (met_X1_in l dC dI   x4 (0 : Int32) (200 : Int32) _ hw) (va_cwS 3 hbg g_RX1_83 rfl rfl rfl (by decide +kernel) ⟨Nat.le_of_ble_eq_true rfl, Nat.le_of_ble_eq_true rfl⟩) ⟨pcR_N_b _ _ _ , fun U hU hW => ⟨rfl, by rw [hU]; exact hPc, va_K.moved hW.alike hKc⟩⟩ rfl rfl hl.1 rfl (lv_room (Nat.le_of_ble_eq_true rfl)) dX1_append_26 ⟨Nat.le_of_ble_eq_true rfl, Nat.le_of_ble_eq_true rfl⟩) (fun r_18 hw => ?_)
      try dsimp only at hw
      refine lv_if_eq (tgt := 49) hx hb dX1_append_29 (by decide) (fun c9 => ?_) (fun c9 => ?_)
      · have hw := hw.1 c9
        exact hC49 x1 x2 x3 x4 B_thrown B_buffer B_words B_serials B_lengths B_kinds B_owners B_olders B_links B_voids B_base B_count B_first B_forced B_end B_closed B_left B_begun B_begunLength hw _ _ hP hD hS ls (lv_sub hl [0, 1, 2, 3, 4] rfl)
      · have hw := hw.2 c9
        refine lv_iload_n hx hb dX1_append_32 rfl (lv_at hl 3 rfl) ?_
        refine lv_iconst (v := (-1 : Int32)) hx hb dX1_append_33 (by decide) ?_
        refine lv_icmp_lt (tgt := 49) hx hb dX1_append_34 (by decide) (fun c9 => ?_) (fun c9 => ?_)
        · have hw := hw.1 c9
          exact hC49 x1 x2 x3 x4 B_thrown B_buffer B_words B_serials B_lengths B_kinds B_owners B_olders B_links B_voids B_base B_count B_first B_forced B_end B_closed B_left B_begun B_begunLength hw _ _ hP hD hS ls (lv_sub hl [0, 1, 2, 3, 4] rfl)
        · have hw := hw.2 c9
          refine lv_iload_n hx hb dX1_append_37 rfl (lv_at hl 3 rfl) ?_
          refine lv_aload_n hx hb dX1_append_38 rfl (lv_at hl 0 rfl) ?_
          refine va_get (D := (dC, dI)) (ci := 1) (v := .int B_end) (C := RX1) (T := TX1) (N := 19) hx hb hbg in_X1 hown hK hP 0 rfl rfl 14 (by decide) (hbg _ kw_75) (fun _ h9 => h9) rfl dX1_append_39 ?_
          refine lv_icmp_ge (tgt := 49) hx hb dX1_append_42 (by decide) (fun c9 => ?_) (fun c9 => ?_)
          · have hw := hw.1 c9
            exact hC49 x1 x2 x3 x4 B_thrown B_buffer B_words B_serials B_lengths B_kinds B_owners B_olders B_links B_voids B_base B_count B_first B_forced B_end B_closed B_left B_begun B_begunLength hw _ _ hP hD hS ls (lv_sub hl [0, 1, 2, 3, 4] rfl)
          · have hw := hw.2 c9
            refine lv_iconst (v := (1 : Int32)) hx hb dX1_append_45 (by decide) ?_
            refine lv_goto (tgt := 50) hx hb dX1_append_46 (by decide) ?_
            exact hC50 x1 x2 x3 x4 (1 : Int32) B_thrown B_buffer B_words B_serials B_lengths B_kinds B_owners B_olders B_links B_voids B_base B_count B_first B_forced B_end B_closed B_left B_begun B_begunLength hw _ _ hP hD hS ls (lv_sub hl [0, 1, 2, 3, 4] rfl)
def wl_X1_back_43 (post : Int32 → St_B → Prop) (k43_1 : Int32) (k43_2 : Int32) (k43_3 : Int32) : Nat → Int32 → Int32 → Int32 → (Nat → Int32) → (Nat → Int32) → (Nat → Int32) → (Nat → Int32) → (Nat → Int32) → (Nat → Int32) → (Nat → Int32) → (Nat → Int32) → (Nat → Int32) → Int32 → Int32 → Int32 → Int32 → Int32 → Int32 → Int32 → Int32 → Int32 → Prop
  | 0, _, _, _, _, _, _, _, _, _, _, _, _, _, _, _, _, _, _, _, _, _ => False
  | n43 + 1, y43_4, y43_5, B_thrown_L43, B_buffer_L43, B_words_L43, B_serials_L43, B_lengths_L43, B_kinds_L43, B_owners_L43, B_olders_L43, B_links_L43, B_voids_L43, B_base_L43, B_count_L43, B_first_L43, B_forced_L43, B_end_L43, B_closed_L43, B_left_L43, B_begun_L43, B_begunLength_L43 =>
    ((y43_4 < (0 : Int32) → post (-1 : Int32) (B_thrown_L43, B_buffer_L43, B_words_L43, B_serials_L43, B_lengths_L43, B_kinds_L43, B_owners_L43, B_olders_L43, B_links_L43, B_voids_L43, B_base_L43, B_count_L43, B_first_L43, B_forced_L43, B_end_L43, B_closed_L43, B_left_L43, B_begun_L43, B_begunLength_L43)) ∧ (¬ y43_4 < (0 : Int32) → wp_X1_rowOf (fun r_1 => ((r_1 < (0 : Int32) → post (-1 : Int32) (B_thrown_L43, B_buffer_L43, B_words_L43, B_serials_L43, B_lengths_L43, B_kinds_L43, B_owners_L43, B_olders_L43, B_links_L43, B_voids_L43, B_base_L43, B_count_L43, B_first_L43, B_forced_L43, B_end_L43, B_closed_L43, B_left_L43, B_begun_L43, B_begunLength_L43)) ∧ (¬ r_1 < (0 : Int32) → wp_X1_rowOf (fun r_2 => vp_in r_2 4400 ∧ (((((k43_2 >>> ((B_kinds_L43 r_2.toNatClampNeg) &&& 31)) &&& (1 : Int32)) = (1 : Int32) → ((y43_5 = (0 : Int32) → post y43_4 (B_thrown_L43, B_buffer_L43, B_words_L43, B_serials_L43, B_lengths_L43, B_kinds_L43, B_owners_L43, B_olders_L43, B_links_L43, B_voids_L43, B_base_L43, B_count_L43, B_first_L43, B_forced_L43, B_end_L43, B_closed_L43, B_left_L43, B_begun_L43, B_begunLength_L43)) ∧ (¬ y43_5 = (0 : Int32) → vp_in r_2 4400 ∧ ((((B_links_L43 r_2.toNatClampNeg) < (0 : Int32) → vp_in r_2 4400 ∧ (wl_X1_back_43 post k43_1 k43_2 k43_3 n43 (B_olders_L43 r_2.toNatClampNeg) (y43_5 + (-1 : Int32)) B_thrown_L43 B_buffer_L43 B_words_L43 B_serials_L43 B_lengths_L43 B_kinds_L43 B_owners_L43 B_olders_L43 B_links_L43 B_voids_L43 B_base_L43 B_count_L43 B_first_L43 B_forced_L43 B_end_L43 B_closed_L43 B_left_L43 B_begun_L43 B_begunLength_L43)) ∧ (¬ (B_links_L43 r_2.toNatClampNeg) < (0 : Int32) → vp_in r_2 4400 ∧ (wl_X1_back_43 post k43_1 k43_2 k43_3 n43 (B_links_L43 r_2.toNatClampNeg) (y43_5 + (-1 : Int32)) B_thrown_L43 B_buffer_L43 B_words_L43 B_serials_L43 B_lengths_L43 B_kinds_L43 B_owners_L43 B_olders_L43 B_links_L43 B_voids_L43 B_base_L43 B_count_L43 B_first_L43 B_forced_L43 B_end_L43 B_closed_L43 B_left_L43 B_begun_L43 B_begunLength_L43))))))) ∧ (¬ ((k43_2 >>> ((B_kinds_L43 r_2.toNatClampNeg) &&& 31)) &&& (1 : Int32)) = (1 : Int32) → vp_in r_2 4400 ∧ ((((B_links_L43 r_2.toNatClampNeg) < (0 : Int32) → vp_in r_2 4400 ∧ (wl_X1_back_43 post k43_1 k43_2 k43_3 n43 (B_olders_L43 r_2.toNatClampNeg) y43_5 B_thrown_L43 B_buffer_L43 B_words_L43 B_serials_L43 B_lengths_L43 B_kinds_L43 B_owners_L43 B_olders_L43 B_links_L43 B_voids_L43 B_base_L43 B_count_L43 B_first_L43 B_forced_L43 B_end_L43 B_closed_L43 B_left_L43 B_begun_L43 B_begunLength_L43)) ∧ (¬ (B_links_L43 r_2.toNatClampNeg) < (0 : Int32) → vp_in r_2 4400 ∧ (wl_X1_back_43 post k43_1 k43_2 k43_3 n43 (B_links_L43 r_2.toNatClampNeg) y43_5 B_thrown_L43 B_buffer_L43 B_words_L43 B_serials_L43 B_lengths_L43 B_kinds_L43 B_owners_L43 B_olders_L43 B_links_L43 B_voids_L43 B_base_L43 B_count_L43 B_first_L43 B_forced_L43 B_end_L43 B_closed_L43 B_left_L43 B_begun_L43 B_begunLength_L43)))))))) y43_4 B_thrown_L43 B_buffer_L43 B_words_L43 B_serials_L43 B_lengths_L43 B_kinds_L43 B_owners_L43 B_olders_L43 B_links_L43 B_voids_L43 B_base_L43 B_count_L43 B_first_L43 B_forced_L43 B_end_L43 B_closed_L43 B_left_L43 B_begun_L43 B_begunLength_L43))) y43_4 B_thrown_L43 B_buffer_L43 B_words_L43 B_serials_L43 B_lengths_L43 B_kinds_L43 B_owners_L43 B_olders_L43 B_links_L43 B_voids_L43 B_base_L43 B_count_L43 B_first_L43 B_forced_L43 B_end_L43 B_closed_L43 B_left_L43 B_begun_L43 B_begunLength_L43))
def wc_X1_back_24 (post : Int32 → St_B → Prop) (k24_1 : Int32) (k24_2 : Int32) (k24_3 : Int32) (z24_0 : Int32) (z24_1 : Int32) (B_thrown_L24 : Int32) (B_buffer_L24 : Nat → Int32) (B_words_L24 : Nat → Int32) (B_serials_L24 : Nat → Int32) (B_lengths_L24 : Nat → Int32) (B_kinds_L24 : Nat → Int32) (B_owners_L24 : Nat → Int32) (B_olders_L24 : Nat → Int32) (B_links_L24 : Nat → Int32) (B_voids_L24 : Nat → Int32) (B_base_L24 : Int32) (B_count_L24 : Int32) (B_first_L24 : Int32) (B_forced_L24 : Int32) (B_end_L24 : Int32) (B_closed_L24 : Int32) (B_left_L24 : Int32) (B_begun_L24 : Int32) (B_begunLength_L24 : Int32) : Prop :=
    wp_X1_refused (fun r_10 u_10 => match u_10 with | (B_thrown_10, B_buffer_10, B_words_10, B_serials_10, B_lengths_10, B_kinds_10, B_owners_10, B_olders_10, B_links_10, B_voids_10, B_base_10, B_count_10, B_first_10, B_forced_10, B_end_10, B_closed_10, B_left_10, B_begun_10, B_begunLength_10) => ((r_10 = (0 : Int32) → wp_X1_latestOf (fun r_11 => ∃ n, wl_X1_back_43 post k24_1 k24_2 k24_3 n r_11 k24_3 B_thrown_10 B_buffer_10 B_words_10 B_serials_10 B_lengths_10 B_kinds_10 B_owners_10 B_olders_10 B_links_10 B_voids_10 B_base_10 B_count_10 B_first_10 B_forced_10 B_end_10 B_closed_10 B_left_10 B_begun_10 B_begunLength_10) k24_1 B_thrown_10 B_buffer_10 B_words_10 B_serials_10 B_lengths_10 B_kinds_10 B_owners_10 B_olders_10 B_links_10 B_voids_10 B_base_10 B_count_10 B_first_10 B_forced_10 B_end_10 B_closed_10 B_left_10 B_begun_10 B_begunLength_10) ∧ (¬ r_10 = (0 : Int32) → post (0 : Int32) (B_thrown_10, B_buffer_10, B_words_10, B_serials_10, B_lengths_10, B_kinds_10, B_owners_10, B_olders_10, B_links_10, B_voids_10, B_base_10, B_count_10, B_first_10, B_forced_10, B_end_10, B_closed_10, B_left_10, B_begun_10, B_begunLength_10)))) z24_1 z24_0 (0 : Int32) B_thrown_L24 B_buffer_L24 B_words_L24 B_serials_L24 B_lengths_L24 B_kinds_L24 B_owners_L24 B_olders_L24 B_links_L24 B_voids_L24 B_base_L24 B_count_L24 B_first_L24 B_forced_L24 B_end_L24 B_closed_L24 B_left_L24 B_begun_L24 B_begunLength_L24
def wc_X1_back_19 (post : Int32 → St_B → Prop) (k19_1 : Int32) (k19_2 : Int32) (k19_3 : Int32) (z19_0 : Int32) (B_thrown_L19 : Int32) (B_buffer_L19 : Nat → Int32) (B_words_L19 : Nat → Int32) (B_serials_L19 : Nat → Int32) (B_lengths_L19 : Nat → Int32) (B_kinds_L19 : Nat → Int32) (B_owners_L19 : Nat → Int32) (B_olders_L19 : Nat → Int32) (B_links_L19 : Nat → Int32) (B_voids_L19 : Nat → Int32) (B_base_L19 : Int32) (B_count_L19 : Int32) (B_first_L19 : Int32) (B_forced_L19 : Int32) (B_end_L19 : Int32) (B_closed_L19 : Int32) (B_left_L19 : Int32) (B_begun_L19 : Int32) (B_begunLength_L19 : Int32) : Prop :=
    wc_X1_back_24 post k19_1 k19_2 k19_3 (1 : Int32) z19_0 B_thrown_L19 B_buffer_L19 B_words_L19 B_serials_L19 B_lengths_L19 B_kinds_L19 B_owners_L19 B_olders_L19 B_links_L19 B_voids_L19 B_base_L19 B_count_L19 B_first_L19 B_forced_L19 B_end_L19 B_closed_L19 B_left_L19 B_begun_L19 B_begunLength_L19
def wp_X1_back (post : Int32 → St_B → Prop) (x1 : Int32) (x2 : Int32) (x3 : Int32) (B_thrown : Int32) (B_buffer : Nat → Int32) (B_words : Nat → Int32) (B_serials : Nat → Int32) (B_lengths : Nat → Int32) (B_kinds : Nat → Int32) (B_owners : Nat → Int32) (B_olders : Nat → Int32) (B_links : Nat → Int32) (B_voids : Nat → Int32) (B_base : Int32) (B_count : Int32) (B_first : Int32) (B_forced : Int32) (B_end : Int32) (B_closed : Int32) (B_left : Int32) (B_begun : Int32) (B_begunLength : Int32) : Prop :=
  wp_X1_in (fun r_12 => ((r_12 = (0 : Int32) → wc_X1_back_19 post x1 x2 x3 B_closed B_thrown B_buffer B_words B_serials B_lengths B_kinds B_owners B_olders B_links B_voids B_base B_count B_first B_forced B_end B_closed B_left B_begun B_begunLength) ∧ (¬ r_12 = (0 : Int32) → (((0 : Int32) ≤ x3 → wc_X1_back_24 post x1 x2 x3 (0 : Int32) B_closed B_thrown B_buffer B_words B_serials B_lengths B_kinds B_owners B_olders B_links B_voids B_base B_count B_first B_forced B_end B_closed B_left B_begun B_begunLength) ∧ (¬ (0 : Int32) ≤ x3 → wc_X1_back_19 post x1 x2 x3 B_closed B_thrown B_buffer B_words B_serials B_lengths B_kinds B_owners B_olders B_links B_voids B_base B_count B_first B_forced B_end B_closed B_left B_begun B_begunLength))))) x1 (0 : Int32) (7 : Int32)
set_option maxHeartbeats 4000000 in
set_option maxRecDepth 100000 in
theorem met_X1_back (l : Launch) (dC : Nat → ClassId) (dI : Nat → Nat → Nat) (qB qB_buffer qB_words qB_serials qB_lengths qB_kinds qB_owners qB_olders qB_links qB_voids : Nat) (cB_buffer cB_words cB_serials cB_lengths cB_kinds cB_owners cB_olders cB_links cB_voids : ClassId) (sz : Nat) (B_thrown : Int32) (B_buffer : Nat → Int32) (B_words : Nat → Int32) (B_serials : Nat → Int32) (B_lengths : Nat → Int32) (B_kinds : Nat → Int32) (B_owners : Nat → Int32) (B_olders : Nat → Int32) (B_links : Nat → Int32) (B_voids : Nat → Int32) (B_base : Int32) (B_count : Int32) (B_first : Int32) (B_forced : Int32) (B_end : Int32) (B_closed : Int32) (B_left : Int32) (B_begun : Int32) (B_begunLength : Int32) (x1 : Int32) (x2 : Int32) (x3 : Int32) (post : Int32 → St_B → Prop) (hw : wp_X1_back post x1 x2 x3 B_thrown B_buffer B_words B_serials B_lengths B_kinds B_owners B_olders B_links B_voids B_base B_count B_first B_forced B_end B_closed B_left B_begun B_begunLength) :
    Met l yX1_back wsX1_back ({ frames := 1, cells := 0, slots := 0, locals := 23 } : Room) (pcW_B dC dI qB qB_buffer qB_words qB_serials qB_lengths qB_kinds qB_owners qB_olders qB_links qB_voids cB_buffer cB_words cB_serials cB_lengths cB_kinds cB_owners cB_olders cB_links cB_voids sz B_thrown B_buffer B_words B_serials B_lengths B_kinds B_owners B_olders B_links B_voids B_base B_count B_first B_forced B_end B_closed B_left B_begun B_begunLength [.ref qB, .int x1, .int x2, .int x3]) (va_Qi post (at_B dC dI (va_A [(qB, .inr (1, [.int B_thrown, .ref qB_buffer, .ref qB_words, .ref qB_serials, .ref qB_lengths, .ref qB_kinds, .ref qB_owners, .ref qB_olders, .ref qB_links, .ref qB_voids, .int B_base, .int B_count, .int B_first, .int B_forced, .int B_end, .int B_closed, .int B_left, .int B_begun, .int B_begunLength])), (qB_buffer, .inl (cB_buffer, 200, .inl B_buffer)), (qB_words, .inl (cB_words, 65536, .inl B_words)), (qB_serials, .inl (cB_serials, 4400, .inl B_serials)), (qB_lengths, .inl (cB_lengths, 4400, .inl B_lengths)), (qB_kinds, .inl (cB_kinds, 4400, .inl B_kinds)), (qB_owners, .inl (cB_owners, 4400, .inl B_owners)), (qB_olders, .inl (cB_olders, 4400, .inl B_olders)), (qB_links, .inl (cB_links, 4400, .inl B_links)), (qB_voids, .inl (cB_voids, 4400, .inl B_voids))] sz) qB qB_buffer qB_words qB_serials qB_lengths qB_kinds qB_owners qB_olders qB_links qB_voids cB_buffer cB_words cB_serials cB_lengths cB_kinds cB_owners cB_olders cB_links cB_voids) (va_A [(qB, .inr (1, [.int B_thrown, .ref qB_buffer, .ref qB_words, .ref qB_serials, .ref qB_lengths, .ref qB_kinds, .ref qB_owners, .ref qB_olders, .ref qB_links, .ref qB_voids, .int B_base, .int B_count, .int B_first, .int B_forced, .int B_end, .int B_closed, .int B_left, .int B_begun, .int B_begunLength])), (qB_buffer, .inl (cB_buffer, 200, .inl B_buffer)), (qB_words, .inl (cB_words, 65536, .inl B_words)), (qB_serials, .inl (cB_serials, 4400, .inl B_serials)), (qB_lengths, .inl (cB_lengths, 4400, .inl B_lengths)), (qB_kinds, .inl (cB_kinds, 4400, .inl B_kinds)), (qB_owners, .inl (cB_owners, 4400, .inl B_owners)), (qB_olders, .inl (cB_olders, 4400, .inl B_olders)), (qB_links, .inl (cB_links, 4400, .inl B_links)), (qB_voids, .inl (cB_voids, 4400, .inl B_voids))] sz)) 0 0 (va_A [(qB, .inr (1, [.int B_thrown, .ref qB_buffer, .ref qB_words, .ref qB_serials, .ref qB_lengths, .ref qB_kinds, .ref qB_owners, .ref qB_olders, .ref qB_links, .ref qB_voids, .int B_base, .int B_count, .int B_first, .int B_forced, .int B_end, .int B_closed, .int B_left, .int B_begun, .int B_begunLength])), (qB_buffer, .inl (cB_buffer, 200, .inl B_buffer)), (qB_words, .inl (cB_words, 65536, .inl B_words)), (qB_serials, .inl (cB_serials, 4400, .inl B_serials)), (qB_lengths, .inl (cB_lengths, 4400, .inl B_lengths)), (qB_kinds, .inl (cB_kinds, 4400, .inl B_kinds)), (qB_owners, .inl (cB_owners, 4400, .inl B_owners)), (qB_olders, .inl (cB_olders, 4400, .inl B_olders)), (qB_links, .inl (cB_links, 4400, .inl B_links)), (qB_voids, .inl (cB_voids, 4400, .inl B_voids))] sz) := by
  refine Met.ofW (cc := cX1_back) (maxL := 7) (ret := (some .int)) (by decide) rfl ?_
  intro p e s m args below meth c s₁ B hml hv
  obtain ⟨hav, hsz, hP, hK, hD0⟩ := hv
  have hx := B.exec
  have hb := B.bytes
  have hr := B.returns
  have hts := atoms_spec (ws := wsX1_back) B.pre
  have hbg : ∀ w ∈ bigW, w.before args s = true := fun w h => hts w (List.mem_cons_of_mem _ h)
  have hown : s.vm.findClass RX1 = some m.cls := findClass_of_methodNamed B.named
  have hlocks := B.notSynchronized
  subst hsz
  have hD := hD0.self (sz := s.heap.size)
  generalize hAe : va_A [(qB, .inr (1, [.int B_thrown, .ref qB_buffer, .ref qB_words, .ref qB_serials, .ref qB_lengths, .ref qB_kinds, .ref qB_owners, .ref qB_olders, .ref qB_links, .ref qB_voids, .int B_base, .int B_count, .int B_first, .int B_forced, .int B_end, .int B_closed, .int B_left, .int B_begun, .int B_begunLength])), (qB_buffer, .inl (cB_buffer, 200, .inl B_buffer)), (qB_words, .inl (cB_words, 65536, .inl B_words)), (qB_serials, .inl (cB_serials, 4400, .inl B_serials)), (qB_lengths, .inl (cB_lengths, 4400, .inl B_lengths)), (qB_kinds, .inl (cB_kinds, 4400, .inl B_kinds)), (qB_owners, .inl (cB_owners, 4400, .inl B_owners)), (qB_olders, .inl (cB_olders, 4400, .inl B_olders)), (qB_links, .inl (cB_links, 4400, .inl B_links)), (qB_voids, .inl (cB_voids, 4400, .inl B_voids))] s.heap.size = A at hD ⊢
  have hA : ∀ q : Nat, s.heap.size ≤ q → A q := fun q h => by rw [← hAe]; exact Or.inr h
  have hS : va_S A s.heap s.heap [] := va_S.rf
  have hP : va_P (dC, dI) vwCl [(qB, .inr (1, [.int B_thrown, .ref qB_buffer, .ref qB_words, .ref qB_serials, .ref qB_lengths, .ref qB_kinds, .ref qB_owners, .ref qB_olders, .ref qB_links, .ref qB_voids, .int B_base, .int B_count, .int B_first, .int B_forced, .int B_end, .int B_closed, .int B_left, .int B_begun, .int B_begunLength])), (qB_buffer, .inl (cB_buffer, 200, .inl B_buffer)), (qB_words, .inl (cB_words, 65536, .inl B_words)), (qB_serials, .inl (cB_serials, 4400, .inl B_serials)), (qB_lengths, .inl (cB_lengths, 4400, .inl B_lengths)), (qB_kinds, .inl (cB_kinds, 4400, .inl B_kinds)), (qB_owners, .inl (cB_owners, 4400, .inl B_owners)), (qB_olders, .inl (cB_olders, 4400, .inl B_olders)), (qB_links, .inl (cB_links, 4400, .inl B_links)), (qB_voids, .inl (cB_voids, 4400, .inl B_voids))] s.heap := hP
  generalize hQQ : MQ below (va_Qi post (at_B dC dI A qB qB_buffer qB_words qB_serials qB_lengths qB_kinds qB_owners qB_olders qB_links qB_voids cB_buffer cB_words cB_serials cB_lengths cB_kinds cB_owners cB_olders cB_links cB_voids) A) args s 0 0 A = QQ
  have hl := lv_entry ([.ref qB, .int x1, .int x2, .int x3]) (n := 7) (Nat.le_of_ble_eq_true rfl)
  rw [show entryFrame m args 7 = entryFrame m ([.ref qB, .int x1, .int x2, .int x3] : List Value).toArray 7 by rw [hav], lg_entry_eq]
  generalize (lg_sl ([.ref qB, .int x1, .int x2, .int x3]) ++ List.replicate (7 - (lg_sl ([.ref qB, .int x1, .int x2, .int x3])).length) Slot.unset).toArray = ls at hl ⊢
  have hl : lv_has ls 7 [(0, .ref qB), (1, .int x1), (2, .int x2), (3, .int x3)] := hl
  unfold wp_X1_back at hw
  have hL43 : ∀ (n43 : Nat) (k43_1 : Int32) (k43_2 : Int32) (k43_3 : Int32) (y43_4 : Int32) (y43_5 : Int32) (B_thrown_L43 : Int32) (B_buffer_L43 : Nat → Int32) (B_words_L43 : Nat → Int32) (B_serials_L43 : Nat → Int32) (B_lengths_L43 : Nat → Int32) (B_kinds_L43 : Nat → Int32) (B_owners_L43 : Nat → Int32) (B_olders_L43 : Nat → Int32) (B_links_L43 : Nat → Int32) (B_voids_L43 : Nat → Int32) (B_base_L43 : Int32) (B_count_L43 : Int32) (B_first_L43 : Int32) (B_forced_L43 : Int32) (B_end_L43 : Int32) (B_closed_L43 : Int32) (B_left_L43 : Int32) (B_begun_L43 : Int32) (B_begunLength_L43 : Int32), wl_X1_back_43 post k43_1 k43_2 k43_3 n43 y43_4 y43_5 B_thrown_L43 B_buffer_L43 B_words_L43 B_serials_L43 B_lengths_L43 B_kinds_L43 B_owners_L43 B_olders_L43 B_links_L43 B_voids_L43 B_base_L43 B_count_L43 B_first_L43 B_forced_L43 B_end_L43 B_closed_L43 B_left_L43 B_begun_L43 B_begunLength_L43 → ∀ (H : Heap) (locs : List Loc), va_P (dC, dI) vwCl [(qB, .inr (1, [.int B_thrown_L43, .ref qB_buffer, .ref qB_words, .ref qB_serials, .ref qB_lengths, .ref qB_kinds, .ref qB_owners, .ref qB_olders, .ref qB_links, .ref qB_voids, .int B_base_L43, .int B_count_L43, .int B_first_L43, .int B_forced_L43, .int B_end_L43, .int B_closed_L43, .int B_left_L43, .int B_begun_L43, .int B_begunLength_L43])), (qB_buffer, .inl (cB_buffer, 200, .inl B_buffer_L43)), (qB_words, .inl (cB_words, 65536, .inl B_words_L43)), (qB_serials, .inl (cB_serials, 4400, .inl B_serials_L43)), (qB_lengths, .inl (cB_lengths, 4400, .inl B_lengths_L43)), (qB_kinds, .inl (cB_kinds, 4400, .inl B_kinds_L43)), (qB_owners, .inl (cB_owners, 4400, .inl B_owners_L43)), (qB_olders, .inl (cB_olders, 4400, .inl B_olders_L43)), (qB_links, .inl (cB_links, 4400, .inl B_links_L43)), (qB_voids, .inl (cB_voids, 4400, .inl B_voids_L43))] H → va_D A [(qB, .inr (1, [.int B_thrown_L43, .ref qB_buffer, .ref qB_words, .ref qB_serials, .ref qB_lengths, .ref qB_kinds, .ref qB_owners, .ref qB_olders, .ref qB_links, .ref qB_voids, .int B_base_L43, .int B_count_L43, .int B_first_L43, .int B_forced_L43, .int B_end_L43, .int B_closed_L43, .int B_left_L43, .int B_begun_L43, .int B_begunLength_L43])), (qB_buffer, .inl (cB_buffer, 200, .inl B_buffer_L43)), (qB_words, .inl (cB_words, 65536, .inl B_words_L43)), (qB_serials, .inl (cB_serials, 4400, .inl B_serials_L43)), (qB_lengths, .inl (cB_lengths, 4400, .inl B_lengths_L43)), (qB_kinds, .inl (cB_kinds, 4400, .inl B_kinds_L43)), (qB_owners, .inl (cB_owners, 4400, .inl B_owners_L43)), (qB_olders, .inl (cB_olders, 4400, .inl B_olders_L43)), (qB_links, .inl (cB_links, 4400, .inl B_links_L43)), (qB_voids, .inl (cB_voids, 4400, .inl B_voids_L43))] → va_S A s.heap H locs → ∀ ls : Array Slot, lv_has ls 7 [(0, .ref qB), (1, .int k43_1), (2, .int k43_2), (3, .int k43_3), (4, .int y43_4), (5, .int y43_5)] → W p l e (headSpec wsX1_back ({ frames := 1, cells := 0, slots := 0, locals := 23 } : Room)).room s m args below meth c H locs 0 0 QQ (F0 m 43 ls []) := by
    intro n43
    induction n43 with
    | zero => intro k43_1 k43_2 k43_3 y43_4 y43_5 B_thrown_L43 B_buffer_L43 B_words_L43 B_serials_L43 B_lengths_L43 B_kinds_L43 B_owners_L43 B_olders_L43 B_links_L43 B_voids_L43 B_base_L43 B_count_L43 B_first_L43 B_forced_L43 B_end_L43 B_closed_L43 B_left_L43 B_begun_L43 B_begunLength_L43 hw; exact False.elim hw
    | succ n43 ih43 =>
      intro k43_1 k43_2 k43_3 y43_4 y43_5 B_thrown_L43 B_buffer_L43 B_words_L43 B_serials_L43 B_lengths_L43 B_kinds_L43 B_owners_L43 B_olders_L43 B_links_L43 B_voids_L43 B_base_L43 B_count_L43 B_first_L43 B_forced_L43 B_end_L43 B_closed_L43 B_left_L43 B_begun_L43 B_begunLength_L43 hw H locs hP hD hS ls hl
      rw [wl_X1_back_43] at hw
      refine lv_iload hx hb dX1_back_43 (lv_at hl 4 rfl) ?_
      refine lv_if_lt (tgt := 123) hx hb dX1_back_45 (by decide) (fun c9 => ?_) (fun c9 => ?_)
      · have hw := hw.1 c9
        refine lv_iconst (v := (-1 : Int32)) hx hb dX1_back_123 (by decide) ?_
        subst hQQ
        exact W.iret (v := (-1 : Int32)) hx hb hr (fun t ht hW => ⟨⟨(-1 : Int32), (B_thrown_L43, B_buffer_L43, B_words_L43, B_serials_L43, B_lengths_L43, B_kinds_L43, B_owners_L43, B_olders_L43, B_links_L43, B_voids_L43, B_base_L43, B_count_L43, B_first_L43, B_forced_L43, B_end_L43, B_closed_L43, B_left_L43, B_begun_L43, B_begunLength_L43), rfl, hw, by rw [ht]; exact hP, va_K.moved hW.alike hK, hD⟩, hS.F ht⟩) hS.2.2 dX1_back_124
      · have hw := hw.2 c9
        refine lv_aload_n hx hb dX1_back_48 rfl (lv_at hl 0 rfl) ?_
        refine lv_iload hx hb dX1_back_49 (lv_at hl 4 rfl) ?_
        refine vp_callSi (W.runV (As := [.int y43_4]) (rest := []) ⟨hx, hb, hml, hown, hbg⟩ (met_X1_rowOf l dC dI qB qB_buffer qB_words qB_serials qB_lengths qB_kinds qB_owners qB_olders qB_links qB_voids cB_buffer cB_words cB_serials cB_lengths cB_kinds cB_owners cB_olders cB_links cB_voids B_thrown_L43 B_buffer_L43 B_words_L43 B_serials_L43 B_lengths_L43 B_kinds_L43 B_owners_L43 B_olders_L43 B_links_L43 B_voids_L43 B_base_L43 B_count_L43 B_first_L43 B_forced_L43 B_end_L43 B_closed_L43 B_left_L43 B_begun_L43 B_begunLength_L43 y43_4 _ hw) (cwV 1 hbg g_RX1_97 rfl rfl rfl (by decide +kernel) ⟨Nat.le_of_ble_eq_true rfl, Nat.le_of_ble_eq_true rfl⟩) ⟨pcR_B_b _ _ _ _ _ _ _ _ _ _ _ _ _ _ _ _ _ _ _ _ _ _ _ _ _ _ _ _ _ _ _ _ _ _ _ _ _ _ _ _ _ , va_recv hK hP (ci := 1) (q0 := 0) rfl rfl, fun U hU hW => ⟨rfl, by rw [hU]; exact hP, va_K.moved hW.alike hK⟩⟩ rfl rfl hl.1 rfl (lv_room (Nat.le_of_ble_eq_true rfl)) dX1_back_51 ⟨Nat.le_of_ble_eq_true rfl, Nat.le_of_ble_eq_true rfl⟩) (fun r_1 hw => ?_)
        try dsimp only at hw
        refine lv_if_lt (tgt := 123) hx hb dX1_back_54 (by decide) (fun c9 => ?_) (fun c9 => ?_)
        · have hw := hw.1 c9
          refine lv_iconst (v := (-1 : Int32)) hx hb dX1_back_123 (by decide) ?_
          subst hQQ
          exact W.iret (v := (-1 : Int32)) hx hb hr (fun t ht hW => ⟨⟨(-1 : Int32), (B_thrown_L43, B_buffer_L43, B_words_L43, B_serials_L43, B_lengths_L43, B_kinds_L43, B_owners_L43, B_olders_L43, B_links_L43, B_voids_L43, B_base_L43, B_count_L43, B_first_L43, B_forced_L43, B_end_L43, B_closed_L43, B_left_L43, B_begun_L43, B_begunLength_L43), rfl, hw, by rw [ht]; exact hP, va_K.moved hW.alike hK, hD⟩, hS.F ht⟩) hS.2.2 dX1_back_124
        · have hw := hw.2 c9
          refine lv_aload_n hx hb dX1_back_57 rfl (lv_at hl 0 rfl) ?_
          refine lv_iload hx hb dX1_back_58 (lv_at hl 4 rfl) ?_
          refine vp_callSi (W.runV (As := [.int y43_4]) (rest := []) ⟨hx, hb, hml, hown, hbg⟩ (met_X1_rowOf l dC dI qB qB_buffer qB_words qB_serials qB_lengths qB_kinds qB_owners qB_olders qB_links qB_voids cB_buffer cB_words cB_serials cB_lengths cB_kinds cB_owners cB_olders cB_links cB_voids B_thrown_L43 B_buffer_L43 B_words_L43 B_serials_L43 B_lengths_L43 B_kinds_L43 B_owners_L43 B_olders_L43 B_links_L43 B_voids_L43 B_base_L43 B_count_L43 B_first_L43 B_forced_L43 B_end_L43 B_closed_L43 B_left_L43 B_begun_L43 B_begunLength_L43 y43_4 _ hw) (cwV 1 hbg g_RX1_97 rfl rfl rfl (by decide +kernel) ⟨Nat.le_of_ble_eq_true rfl, Nat.le_of_ble_eq_true rfl⟩) ⟨pcR_B_b _ _ _ _ _ _ _ _ _ _ _ _ _ _ _ _ _ _ _ _ _ _ _ _ _ _ _ _ _ _ _ _ _ _ _ _ _ _ _ _ _ , va_recv hK hP (ci := 1) (q0 := 0) rfl rfl, fun U hU hW => ⟨rfl, by rw [hU]; exact hP, va_K.moved hW.alike hK⟩⟩ rfl rfl hl.1 rfl (lv_room (Nat.le_of_ble_eq_true rfl)) dX1_back_60 ⟨Nat.le_of_ble_eq_true rfl, Nat.le_of_ble_eq_true rfl⟩) (fun r_2 hw => ?_)
          try dsimp only at hw
          refine lv_istore (lv' := [(6, .int r_2), (0, .ref qB), (1, .int k43_1), (2, .int k43_2), (3, .int k43_3), (4, .int y43_4), (5, .int y43_5)]) hx hb dX1_back_63 hl (by decide) rfl (fun ls hl => ?_)
          refine lv_iload_n hx hb dX1_back_65 rfl (lv_at hl 3 rfl) ?_
          refine lv_aload_n hx hb dX1_back_66 rfl (lv_at hl 1 rfl) ?_
          refine va_get (D := (dC, dI)) (ci := 1) (v := .ref qB_kinds) (C := RX1) (T := TX1) (N := 19) hx hb hbg in_X1 hown hK hP 0 rfl rfl 5 (by decide) (hbg _ kw_83) (fun _ h9 => h9) rfl dX1_back_67 ?_
          refine lv_iload hx hb dX1_back_70 (lv_at hl 0 rfl) ?_
          obtain ⟨h_3, hw⟩ := hw
          refine va_iald hx hb hK hP 5 4 rfl rfl h_3 dX1_back_72 ?_
          refine lv_ishr hx hb dX1_back_73 ?_
          refine lv_iconst (v := (1 : Int32)) hx hb dX1_back_74 (by decide) ?_
          refine lv_iand hx hb dX1_back_75 ?_
          refine lv_iconst (v := (1 : Int32)) hx hb dX1_back_76 (by decide) ?_
          refine lv_icmp_ne (tgt := 91) hx hb dX1_back_77 (by decide) (fun c9 => ?_) (fun c9 => ?_)
          · have hw := hw.2 c9
            refine lv_aload_n hx hb dX1_back_91 rfl (lv_at hl 1 rfl) ?_
            refine va_get (D := (dC, dI)) (ci := 1) (v := .ref qB_links) (C := RX1) (T := TX1) (N := 19) hx hb hbg in_X1 hown hK hP 0 rfl rfl 8 (by decide) (hbg _ kw_89) (fun _ h9 => h9) rfl dX1_back_92 ?_
            refine lv_iload hx hb dX1_back_95 (lv_at hl 0 rfl) ?_
            obtain ⟨h_4, hw⟩ := hw
            refine va_iald hx hb hK hP 8 7 rfl rfl h_4 dX1_back_97 ?_
            refine lv_if_lt (tgt := 111) hx hb dX1_back_98 (by decide) (fun c9 => ?_) (fun c9 => ?_)
            · have hw := hw.1 c9
              refine lv_aload_n hx hb dX1_back_111 rfl (lv_at hl 1 rfl) ?_
              refine va_get (D := (dC, dI)) (ci := 1) (v := .ref qB_olders) (C := RX1) (T := TX1) (N := 19) hx hb hbg in_X1 hown hK hP 0 rfl rfl 7 (by decide) (hbg _ kw_84) (fun _ h9 => h9) rfl dX1_back_112 ?_
              refine lv_iload hx hb dX1_back_115 (lv_at hl 0 rfl) ?_
              obtain ⟨h_5, hw⟩ := hw
              refine va_iald hx hb hK hP 7 6 rfl rfl h_5 dX1_back_117 ?_
              refine lv_istore (lv' := [(4, .int (B_olders_L43 r_2.toNatClampNeg)), (6, .int r_2), (0, .ref qB), (1, .int k43_1), (2, .int k43_2), (3, .int k43_3), (5, .int y43_5)]) hx hb dX1_back_118 hl (by decide) rfl (fun ls hl => ?_)
              refine lv_goto (tgt := 43) hx hb dX1_back_120 (by decide) ?_
              exact ih43 k43_1 k43_2 k43_3 (B_olders_L43 r_2.toNatClampNeg) y43_5 B_thrown_L43 B_buffer_L43 B_words_L43 B_serials_L43 B_lengths_L43 B_kinds_L43 B_owners_L43 B_olders_L43 B_links_L43 B_voids_L43 B_base_L43 B_count_L43 B_first_L43 B_forced_L43 B_end_L43 B_closed_L43 B_left_L43 B_begun_L43 B_begunLength_L43 hw _ _ hP hD hS ls (lv_sub hl [2, 3, 4, 5, 0, 6] rfl)
            · have hw := hw.2 c9
              refine lv_aload_n hx hb dX1_back_101 rfl (lv_at hl 1 rfl) ?_
              refine va_get (D := (dC, dI)) (ci := 1) (v := .ref qB_links) (C := RX1) (T := TX1) (N := 19) hx hb hbg in_X1 hown hK hP 0 rfl rfl 8 (by decide) (hbg _ kw_89) (fun _ h9 => h9) rfl dX1_back_102 ?_
              refine lv_iload hx hb dX1_back_105 (lv_at hl 0 rfl) ?_
              obtain ⟨h_6, hw⟩ := hw
              refine va_iald hx hb hK hP 8 7 rfl rfl h_6 dX1_back_107 ?_
              refine lv_goto (tgt := 118) hx hb dX1_back_108 (by decide) ?_
              refine lv_istore (lv' := [(4, .int (B_links_L43 r_2.toNatClampNeg)), (6, .int r_2), (0, .ref qB), (1, .int k43_1), (2, .int k43_2), (3, .int k43_3), (5, .int y43_5)]) hx hb dX1_back_118 hl (by decide) rfl (fun ls hl => ?_)
              refine lv_goto (tgt := 43) hx hb dX1_back_120 (by decide) ?_
              exact ih43 k43_1 k43_2 k43_3 (B_links_L43 r_2.toNatClampNeg) y43_5 B_thrown_L43 B_buffer_L43 B_words_L43 B_serials_L43 B_lengths_L43 B_kinds_L43 B_owners_L43 B_olders_L43 B_links_L43 B_voids_L43 B_base_L43 B_count_L43 B_first_L43 B_forced_L43 B_end_L43 B_closed_L43 B_left_L43 B_begun_L43 B_begunLength_L43 hw _ _ hP hD hS ls (lv_sub hl [2, 3, 4, 5, 0, 6] rfl)
          · have hw := hw.1 c9
            refine lv_iload hx hb dX1_back_80 (lv_at hl 6 rfl) ?_
            refine lv_if_ne (tgt := 88) hx hb dX1_back_82 (by decide) (fun c9 => ?_) (fun c9 => ?_)
            · have hw := hw.2 c9
              refine lv_iinc (v := y43_5 + (-1 : Int32)) (lv' := [(5, .int (y43_5 + (-1 : Int32))), (6, .int r_2), (0, .ref qB), (1, .int k43_1), (2, .int k43_2), (3, .int k43_3), (4, .int y43_4)]) hx hb dX1_back_88 hl (k := 6) rfl rfl (by decide) rfl (fun ls hl => ?_)
              refine lv_aload_n hx hb dX1_back_91 rfl (lv_at hl 2 rfl) ?_
              refine va_get (D := (dC, dI)) (ci := 1) (v := .ref qB_links) (C := RX1) (T := TX1) (N := 19) hx hb hbg in_X1 hown hK hP 0 rfl rfl 8 (by decide) (hbg _ kw_89) (fun _ h9 => h9) rfl dX1_back_92 ?_
              refine lv_iload hx hb dX1_back_95 (lv_at hl 1 rfl) ?_
              obtain ⟨h_7, hw⟩ := hw
              refine va_iald hx hb hK hP 8 7 rfl rfl h_7 dX1_back_97 ?_
              refine lv_if_lt (tgt := 111) hx hb dX1_back_98 (by decide) (fun c9 => ?_) (fun c9 => ?_)
              · have hw := hw.1 c9
                refine lv_aload_n hx hb dX1_back_111 rfl (lv_at hl 2 rfl) ?_
                refine va_get (D := (dC, dI)) (ci := 1) (v := .ref qB_olders) (C := RX1) (T := TX1) (N := 19) hx hb hbg in_X1 hown hK hP 0 rfl rfl 7 (by decide) (hbg _ kw_84) (fun _ h9 => h9) rfl dX1_back_112 ?_
                refine lv_iload hx hb dX1_back_115 (lv_at hl 1 rfl) ?_
                obtain ⟨h_8, hw⟩ := hw
                refine va_iald hx hb hK hP 7 6 rfl rfl h_8 dX1_back_117 ?_
                refine lv_istore (lv' := [(4, .int (B_olders_L43 r_2.toNatClampNeg)), (5, .int (y43_5 + (-1 : Int32))), (6, .int r_2), (0, .ref qB), (1, .int k43_1), (2, .int k43_2), (3, .int k43_3)]) hx hb dX1_back_118 hl (by decide) rfl (fun ls hl => ?_)
                refine lv_goto (tgt := 43) hx hb dX1_back_120 (by decide) ?_
                exact ih43 k43_1 k43_2 k43_3 (B_olders_L43 r_2.toNatClampNeg) (y43_5 + (-1 : Int32)) B_thrown_L43 B_buffer_L43 B_words_L43 B_serials_L43 B_lengths_L43 B_kinds_L43 B_owners_L43 B_olders_L43 B_links_L43 B_voids_L43 B_base_L43 B_count_L43 B_first_L43 B_forced_L43 B_end_L43 B_closed_L43 B_left_L43 B_begun_L43 B_begunLength_L43 hw _ _ hP hD hS ls (lv_sub hl [3, 4, 5, 6, 0, 1] rfl)
              · have hw := hw.2 c9
                refine lv_aload_n hx hb dX1_back_101 rfl (lv_at hl 2 rfl) ?_
                refine va_get (D := (dC, dI)) (ci := 1) (v := .ref qB_links) (C := RX1) (T := TX1) (N := 19) hx hb hbg in_X1 hown hK hP 0 rfl rfl 8 (by decide) (hbg _ kw_89) (fun _ h9 => h9) rfl dX1_back_102 ?_
                refine lv_iload hx hb dX1_back_105 (lv_at hl 1 rfl) ?_
                obtain ⟨h_9, hw⟩ := hw
                refine va_iald hx hb hK hP 8 7 rfl rfl h_9 dX1_back_107 ?_
                refine lv_goto (tgt := 118) hx hb dX1_back_108 (by decide) ?_
                refine lv_istore (lv' := [(4, .int (B_links_L43 r_2.toNatClampNeg)), (5, .int (y43_5 + (-1 : Int32))), (6, .int r_2), (0, .ref qB), (1, .int k43_1), (2, .int k43_2), (3, .int k43_3)]) hx hb dX1_back_118 hl (by decide) rfl (fun ls hl => ?_)
                refine lv_goto (tgt := 43) hx hb dX1_back_120 (by decide) ?_
                exact ih43 k43_1 k43_2 k43_3 (B_links_L43 r_2.toNatClampNeg) (y43_5 + (-1 : Int32)) B_thrown_L43 B_buffer_L43 B_words_L43 B_serials_L43 B_lengths_L43 B_kinds_L43 B_owners_L43 B_olders_L43 B_links_L43 B_voids_L43 B_base_L43 B_count_L43 B_first_L43 B_forced_L43 B_end_L43 B_closed_L43 B_left_L43 B_begun_L43 B_begunLength_L43 hw _ _ hP hD hS ls (lv_sub hl [3, 4, 5, 6, 0, 1] rfl)
            · have hw := hw.1 c9
              refine lv_iload hx hb dX1_back_85 (lv_at hl 5 rfl) ?_
              subst hQQ
              exact W.iret (v := y43_4) hx hb hr (fun t ht hW => ⟨⟨y43_4, (B_thrown_L43, B_buffer_L43, B_words_L43, B_serials_L43, B_lengths_L43, B_kinds_L43, B_owners_L43, B_olders_L43, B_links_L43, B_voids_L43, B_base_L43, B_count_L43, B_first_L43, B_forced_L43, B_end_L43, B_closed_L43, B_left_L43, B_begun_L43, B_begunLength_L43), rfl, hw, by rw [ht]; exact hP, va_K.moved hW.alike hK, hD⟩, hS.F ht⟩) hS.2.2 dX1_back_87
  have hC24 : ∀ (k24_1 : Int32) (k24_2 : Int32) (k24_3 : Int32) (z24_0 : Int32) (z24_1 : Int32) (B_thrown_L24 : Int32) (B_buffer_L24 : Nat → Int32) (B_words_L24 : Nat → Int32) (B_serials_L24 : Nat → Int32) (B_lengths_L24 : Nat → Int32) (B_kinds_L24 : Nat → Int32) (B_owners_L24 : Nat → Int32) (B_olders_L24 : Nat → Int32) (B_links_L24 : Nat → Int32) (B_voids_L24 : Nat → Int32) (B_base_L24 : Int32) (B_count_L24 : Int32) (B_first_L24 : Int32) (B_forced_L24 : Int32) (B_end_L24 : Int32) (B_closed_L24 : Int32) (B_left_L24 : Int32) (B_begun_L24 : Int32) (B_begunLength_L24 : Int32), wc_X1_back_24 post k24_1 k24_2 k24_3 z24_0 z24_1 B_thrown_L24 B_buffer_L24 B_words_L24 B_serials_L24 B_lengths_L24 B_kinds_L24 B_owners_L24 B_olders_L24 B_links_L24 B_voids_L24 B_base_L24 B_count_L24 B_first_L24 B_forced_L24 B_end_L24 B_closed_L24 B_left_L24 B_begun_L24 B_begunLength_L24 → ∀ (H : Heap) (locs : List Loc), va_P (dC, dI) vwCl [(qB, .inr (1, [.int B_thrown_L24, .ref qB_buffer, .ref qB_words, .ref qB_serials, .ref qB_lengths, .ref qB_kinds, .ref qB_owners, .ref qB_olders, .ref qB_links, .ref qB_voids, .int B_base_L24, .int B_count_L24, .int B_first_L24, .int B_forced_L24, .int B_end_L24, .int B_closed_L24, .int B_left_L24, .int B_begun_L24, .int B_begunLength_L24])), (qB_buffer, .inl (cB_buffer, 200, .inl B_buffer_L24)), (qB_words, .inl (cB_words, 65536, .inl B_words_L24)), (qB_serials, .inl (cB_serials, 4400, .inl B_serials_L24)), (qB_lengths, .inl (cB_lengths, 4400, .inl B_lengths_L24)), (qB_kinds, .inl (cB_kinds, 4400, .inl B_kinds_L24)), (qB_owners, .inl (cB_owners, 4400, .inl B_owners_L24)), (qB_olders, .inl (cB_olders, 4400, .inl B_olders_L24)), (qB_links, .inl (cB_links, 4400, .inl B_links_L24)), (qB_voids, .inl (cB_voids, 4400, .inl B_voids_L24))] H → va_D A [(qB, .inr (1, [.int B_thrown_L24, .ref qB_buffer, .ref qB_words, .ref qB_serials, .ref qB_lengths, .ref qB_kinds, .ref qB_owners, .ref qB_olders, .ref qB_links, .ref qB_voids, .int B_base_L24, .int B_count_L24, .int B_first_L24, .int B_forced_L24, .int B_end_L24, .int B_closed_L24, .int B_left_L24, .int B_begun_L24, .int B_begunLength_L24])), (qB_buffer, .inl (cB_buffer, 200, .inl B_buffer_L24)), (qB_words, .inl (cB_words, 65536, .inl B_words_L24)), (qB_serials, .inl (cB_serials, 4400, .inl B_serials_L24)), (qB_lengths, .inl (cB_lengths, 4400, .inl B_lengths_L24)), (qB_kinds, .inl (cB_kinds, 4400, .inl B_kinds_L24)), (qB_owners, .inl (cB_owners, 4400, .inl B_owners_L24)), (qB_olders, .inl (cB_olders, 4400, .inl B_olders_L24)), (qB_links, .inl (cB_links, 4400, .inl B_links_L24)), (qB_voids, .inl (cB_voids, 4400, .inl B_voids_L24))] → va_S A s.heap H locs → ∀ ls : Array Slot, lv_has ls 7 [(0, .ref qB), (1, .int k24_1), (2, .int k24_2), (3, .int k24_3)] → W p l e (headSpec wsX1_back ({ frames := 1, cells := 0, slots := 0, locals := 23 } : Room)).room s m args below meth c H locs 0 0 QQ (F0 m 24 ls [.int z24_0, .int z24_1, .ref qB]) := by
    intro k24_1 k24_2 k24_3 z24_0 z24_1 B_thrown_L24 B_buffer_L24 B_words_L24 B_serials_L24 B_lengths_L24 B_kinds_L24 B_owners_L24 B_olders_L24 B_links_L24 B_voids_L24 B_base_L24 B_count_L24 B_first_L24 B_forced_L24 B_end_L24 B_closed_L24 B_left_L24 B_begun_L24 B_begunLength_L24 hw H locs hP hD hS ls hl
    unfold wc_X1_back_24 at hw
    refine lv_iconst (v := (0 : Int32)) hx hb dX1_back_24 (by decide) ?_
    have hFc := va_free (wc := [(qB, .inr (1, [.int B_thrown_L24, .ref qB_buffer, .ref qB_words, .ref qB_serials, .ref qB_lengths, .ref qB_kinds, .ref qB_owners, .ref qB_olders, .ref qB_links, .ref qB_voids, .int B_base_L24, .int B_count_L24, .int B_first_L24, .int B_forced_L24, .int B_end_L24, .int B_closed_L24, .int B_left_L24, .int B_begun_L24, .int B_begunLength_L24])), (qB_buffer, .inl (cB_buffer, 200, .inl B_buffer_L24)), (qB_words, .inl (cB_words, 65536, .inl B_words_L24)), (qB_serials, .inl (cB_serials, 4400, .inl B_serials_L24)), (qB_lengths, .inl (cB_lengths, 4400, .inl B_lengths_L24)), (qB_kinds, .inl (cB_kinds, 4400, .inl B_kinds_L24)), (qB_owners, .inl (cB_owners, 4400, .inl B_owners_L24)), (qB_olders, .inl (cB_olders, 4400, .inl B_olders_L24)), (qB_links, .inl (cB_links, 4400, .inl B_links_L24)), (qB_voids, .inl (cB_voids, 4400, .inl B_voids_L24))]) hD hS hA [0, 1, 2, 3, 4, 5, 6, 7, 8, 9] rfl
    refine va_calli (va_runV (As := [.int z24_1, .int z24_0, .int (0 : Int32)]) (rest := []) ⟨hx, hb, hml, hown, hbg⟩ (met_X1_refused l dC dI qB qB_buffer qB_words qB_serials qB_lengths qB_kinds qB_owners qB_olders qB_links qB_voids cB_buffer cB_words cB_serials cB_lengths cB_kinds cB_owners cB_olders cB_links cB_voids H.size B_thrown_L24 B_buffer_L24 B_words_L24 B_serials_L24 B_lengths_L24 B_kinds_L24 B_owners_L24 B_olders_L24 B_links_L24 B_voids_L24 B_base_L24 B_count_L24 B_first_L24 B_forced_L24 B_end_L24 B_closed_L24 B_left_L24 B_begun_L24 B_begunLength_L24 z24_1 z24_0 (0 : Int32) _ hw) (cwV 3 hbg g_RX1_75 rfl rfl rfl (by decide +kernel) ⟨Nat.le_of_ble_eq_true rfl, Nat.le_of_ble_eq_true rfl⟩) ⟨pcW_B_b _ _ _ _ _ _ _ _ _ _ _ _ _ _ _ _ _ _ _ _ _ _ _ _ _ _ _ _ _ _ _ _ _ _ _ _ _ _ _ _ _ _, va_recv hK hP (ci := 1) (q0 := 0) rfl rfl, fun U hU hW => ⟨rfl, by rw [hU], by rw [hU]; exact hP, va_K.moved hW.alike hK, hD.weaken (fun _ _ _ _ => trivial)⟩⟩ rfl rfl hl.1 rfl (lv_room (Nat.le_of_ble_eq_true rfl)) dX1_back_25 ⟨Nat.le_of_ble_eq_true rfl, Nat.le_of_ble_eq_true rfl⟩) hS (fun q _ h => hFc q h) hFc (fun r_10 u_10 t_10 H_10 locs ht hvm hw hB hz1 hk1 hS => ?_)
    obtain ⟨B_thrown_10, B_buffer_10, B_words_10, B_serials_10, B_lengths_10, B_kinds_10, B_owners_10, B_olders_10, B_links_10, B_voids_10, B_base_10, B_count_10, B_first_10, B_forced_10, B_end_10, B_closed_10, B_left_10, B_begun_10, B_begunLength_10⟩ := u_10
    obtain ⟨hP1, hK1, hD1⟩ := hB
    rw [ht] at hP1
    try dsimp only at hw
    have hP : va_P (dC, dI) vwCl [(qB, .inr (1, [.int B_thrown_10, .ref qB_buffer, .ref qB_words, .ref qB_serials, .ref qB_lengths, .ref qB_kinds, .ref qB_owners, .ref qB_olders, .ref qB_links, .ref qB_voids, .int B_base_10, .int B_count_10, .int B_first_10, .int B_forced_10, .int B_end_10, .int B_closed_10, .int B_left_10, .int B_begun_10, .int B_begunLength_10])), (qB_buffer, .inl (cB_buffer, 200, .inl B_buffer_10)), (qB_words, .inl (cB_words, 65536, .inl B_words_10)), (qB_serials, .inl (cB_serials, 4400, .inl B_serials_10)), (qB_lengths, .inl (cB_lengths, 4400, .inl B_lengths_10)), (qB_kinds, .inl (cB_kinds, 4400, .inl B_kinds_10)), (qB_owners, .inl (cB_owners, 4400, .inl B_owners_10)), (qB_olders, .inl (cB_olders, 4400, .inl B_olders_10)), (qB_links, .inl (cB_links, 4400, .inl B_links_10)), (qB_voids, .inl (cB_voids, 4400, .inl B_voids_10))] H_10 := hP1
    have hD : va_D A [(qB, .inr (1, [.int B_thrown_10, .ref qB_buffer, .ref qB_words, .ref qB_serials, .ref qB_lengths, .ref qB_kinds, .ref qB_owners, .ref qB_olders, .ref qB_links, .ref qB_voids, .int B_base_10, .int B_count_10, .int B_first_10, .int B_forced_10, .int B_end_10, .int B_closed_10, .int B_left_10, .int B_begun_10, .int B_begunLength_10])), (qB_buffer, .inl (cB_buffer, 200, .inl B_buffer_10)), (qB_words, .inl (cB_words, 65536, .inl B_words_10)), (qB_serials, .inl (cB_serials, 4400, .inl B_serials_10)), (qB_lengths, .inl (cB_lengths, 4400, .inl B_lengths_10)), (qB_kinds, .inl (cB_kinds, 4400, .inl B_kinds_10)), (qB_owners, .inl (cB_owners, 4400, .inl B_owners_10)), (qB_olders, .inl (cB_olders, 4400, .inl B_olders_10)), (qB_links, .inl (cB_links, 4400, .inl B_links_10)), (qB_voids, .inl (cB_voids, 4400, .inl B_voids_10))] := hD1.weaken (fun _ _ _ h => hFc _ h)
    refine lv_if_eq (tgt := 33) hx hb dX1_back_28 (by decide) (fun c9 => ?_) (fun c9 => ?_)
    · have hw := hw.1 c9
      refine lv_aload_n hx hb dX1_back_33 rfl (lv_at hl 0 rfl) ?_
      refine lv_iload_n hx hb dX1_back_34 rfl (lv_at hl 1 rfl) ?_
      refine vp_callSi (W.runV (As := [.int k24_1]) (rest := []) ⟨hx, hb, hml, hown, hbg⟩ (met_X1_latestOf l dC dI qB qB_buffer qB_words qB_serials qB_lengths qB_kinds qB_owners qB_olders qB_links qB_voids cB_buffer cB_words cB_serials cB_lengths cB_kinds cB_owners cB_olders cB_links cB_voids B_thrown_10 B_buffer_10 B_words_10 B_serials_10 B_lengths_10 B_kinds_10 B_owners_10 B_olders_10 B_links_10 B_voids_10 B_base_10 B_count_10 B_first_10 B_forced_10 B_end_10 B_closed_10 B_left_10 B_begun_10 B_begunLength_10 k24_1 _ hw) (cwV 1 hbg g_RX1_90 rfl rfl rfl (by decide +kernel) ⟨Nat.le_of_ble_eq_true rfl, Nat.le_of_ble_eq_true rfl⟩) ⟨pcR_B_b _ _ _ _ _ _ _ _ _ _ _ _ _ _ _ _ _ _ _ _ _ _ _ _ _ _ _ _ _ _ _ _ _ _ _ _ _ _ _ _ _ , va_recv hK hP (ci := 1) (q0 := 0) rfl rfl, fun U hU hW => ⟨rfl, by rw [hU]; exact hP, va_K.moved hW.alike hK⟩⟩ rfl rfl hl.1 rfl (lv_room (Nat.le_of_ble_eq_true rfl)) dX1_back_35 ⟨Nat.le_of_ble_eq_true rfl, Nat.le_of_ble_eq_true rfl⟩) (fun r_11 hw => ?_)
      try dsimp only at hw
      refine lv_istore (lv' := [(4, .int r_11), (0, .ref qB), (1, .int k24_1), (2, .int k24_2), (3, .int k24_3)]) hx hb dX1_back_38 hl (by decide) rfl (fun ls hl => ?_)
      refine lv_iload_n hx hb dX1_back_40 rfl (lv_at hl 4 rfl) ?_
      refine lv_istore (lv' := [(5, .int k24_3), (4, .int r_11), (0, .ref qB), (1, .int k24_1), (2, .int k24_2), (3, .int k24_3)]) hx hb dX1_back_41 hl (by decide) rfl (fun ls hl => ?_)
      obtain ⟨n9, hw⟩ := hw
      exact hL43 n9 k24_1 k24_2 k24_3 r_11 k24_3 B_thrown_10 B_buffer_10 B_words_10 B_serials_10 B_lengths_10 B_kinds_10 B_owners_10 B_olders_10 B_links_10 B_voids_10 B_base_10 B_count_10 B_first_10 B_forced_10 B_end_10 B_closed_10 B_left_10 B_begun_10 B_begunLength_10 hw _ _ hP hD hS ls (lv_sub hl [2, 3, 4, 5, 1, 0] rfl)
    · have hw := hw.2 c9
      refine lv_iconst (v := (0 : Int32)) hx hb dX1_back_31 (by decide) ?_
      subst hQQ
      exact W.iret (v := (0 : Int32)) hx hb hr (fun t ht hW => ⟨⟨(0 : Int32), (B_thrown_10, B_buffer_10, B_words_10, B_serials_10, B_lengths_10, B_kinds_10, B_owners_10, B_olders_10, B_links_10, B_voids_10, B_base_10, B_count_10, B_first_10, B_forced_10, B_end_10, B_closed_10, B_left_10, B_begun_10, B_begunLength_10), rfl, hw, by rw [ht]; exact hP, va_K.moved hW.alike hK, hD⟩, hS.F ht⟩) hS.2.2 dX1_back_32
  have hC19 : ∀ (k19_1 : Int32) (k19_2 : Int32) (k19_3 : Int32) (z19_0 : Int32) (B_thrown_L19 : Int32) (B_buffer_L19 : Nat → Int32) (B_words_L19 : Nat → Int32) (B_serials_L19 : Nat → Int32) (B_lengths_L19 : Nat → Int32) (B_kinds_L19 : Nat → Int32) (B_owners_L19 : Nat → Int32) (B_olders_L19 : Nat → Int32) (B_links_L19 : Nat → Int32) (B_voids_L19 : Nat → Int32) (B_base_L19 : Int32) (B_count_L19 : Int32) (B_first_L19 : Int32) (B_forced_L19 : Int32) (B_end_L19 : Int32) (B_closed_L19 : Int32) (B_left_L19 : Int32) (B_begun_L19 : Int32) (B_begunLength_L19 : Int32), wc_X1_back_19 post k19_1 k19_2 k19_3 z19_0 B_thrown_L19 B_buffer_L19 B_words_L19 B_serials_L19 B_lengths_L19 B_kinds_L19 B_owners_L19 B_olders_L19 B_links_L19 B_voids_L19 B_base_L19 B_count_L19 B_first_L19 B_forced_L19 B_end_L19 B_closed_L19 B_left_L19 B_begun_L19 B_begunLength_L19 → ∀ (H : Heap) (locs : List Loc), va_P (dC, dI) vwCl [(qB, .inr (1, [.int B_thrown_L19, .ref qB_buffer, .ref qB_words, .ref qB_serials, .ref qB_lengths, .ref qB_kinds, .ref qB_owners, .ref qB_olders, .ref qB_links, .ref qB_voids, .int B_base_L19, .int B_count_L19, .int B_first_L19, .int B_forced_L19, .int B_end_L19, .int B_closed_L19, .int B_left_L19, .int B_begun_L19, .int B_begunLength_L19])), (qB_buffer, .inl (cB_buffer, 200, .inl B_buffer_L19)), (qB_words, .inl (cB_words, 65536, .inl B_words_L19)), (qB_serials, .inl (cB_serials, 4400, .inl B_serials_L19)), (qB_lengths, .inl (cB_lengths, 4400, .inl B_lengths_L19)), (qB_kinds, .inl (cB_kinds, 4400, .inl B_kinds_L19)), (qB_owners, .inl (cB_owners, 4400, .inl B_owners_L19)), (qB_olders, .inl (cB_olders, 4400, .inl B_olders_L19)), (qB_links, .inl (cB_links, 4400, .inl B_links_L19)), (qB_voids, .inl (cB_voids, 4400, .inl B_voids_L19))] H → va_D A [(qB, .inr (1, [.int B_thrown_L19, .ref qB_buffer, .ref qB_words, .ref qB_serials, .ref qB_lengths, .ref qB_kinds, .ref qB_owners, .ref qB_olders, .ref qB_links, .ref qB_voids, .int B_base_L19, .int B_count_L19, .int B_first_L19, .int B_forced_L19, .int B_end_L19, .int B_closed_L19, .int B_left_L19, .int B_begun_L19, .int B_begunLength_L19])), (qB_buffer, .inl (cB_buffer, 200, .inl B_buffer_L19)), (qB_words, .inl (cB_words, 65536, .inl B_words_L19)), (qB_serials, .inl (cB_serials, 4400, .inl B_serials_L19)), (qB_lengths, .inl (cB_lengths, 4400, .inl B_lengths_L19)), (qB_kinds, .inl (cB_kinds, 4400, .inl B_kinds_L19)), (qB_owners, .inl (cB_owners, 4400, .inl B_owners_L19)), (qB_olders, .inl (cB_olders, 4400, .inl B_olders_L19)), (qB_links, .inl (cB_links, 4400, .inl B_links_L19)), (qB_voids, .inl (cB_voids, 4400, .inl B_voids_L19))] → va_S A s.heap H locs → ∀ ls : Array Slot, lv_has ls 7 [(0, .ref qB), (1, .int k19_1), (2, .int k19_2), (3, .int k19_3)] → W p l e (headSpec wsX1_back ({ frames := 1, cells := 0, slots := 0, locals := 23 } : Room)).room s m args below meth c H locs 0 0 QQ (F0 m 19 ls [.int z19_0, .ref qB]) := by
    intro k19_1 k19_2 k19_3 z19_0 B_thrown_L19 B_buffer_L19 B_words_L19 B_serials_L19 B_lengths_L19 B_kinds_L19 B_owners_L19 B_olders_L19 B_links_L19 B_voids_L19 B_base_L19 B_count_L19 B_first_L19 B_forced_L19 B_end_L19 B_closed_L19 B_left_L19 B_begun_L19 B_begunLength_L19 hw H locs hP hD hS ls hl
    unfold wc_X1_back_19 at hw
    refine lv_iconst (v := (1 : Int32)) hx hb dX1_back_19 (by decide) ?_
    refine lv_goto (tgt := 24) hx hb dX1_back_20 (by decide) ?_
    exact hC24 k19_1 k19_2 k19_3 (1 : Int32) z19_0 B_thrown_L19 B_buffer_L19 B_words_L19 B_serials_L19 B_lengths_L19 B_kinds_L19 B_owners_L19 B_olders_L19 B_links_L19 B_voids_L19 B_base_L19 B_count_L19 B_first_L19 B_forced_L19 B_end_L19 B_closed_L19 B_left_L19 B_begun_L19 B_begunLength_L19 hw _ _ hP hD hS ls (lv_sub hl [0, 1, 2, 3] rfl)
  refine lv_aload_n hx hb dX1_back_0 rfl (lv_at hl 0 rfl) ?_
  refine lv_aload_n hx hb dX1_back_1 rfl (lv_at hl 0 rfl) ?_
  refine va_get (D := (dC, dI)) (ci := 1) (v := .int B_closed) (C := RX1) (T := TX1) (N := 19) hx hb hbg in_X1 hown hK hP 0 rfl rfl 15 (by decide) (hbg _ kw_76) (fun _ h9 => h9) rfl dX1_back_2 ?_
  refine lv_iload_n hx hb dX1_back_5 rfl (lv_at hl 1 rfl) ?_
  refine lv_iconst (v := (0 : Int32)) hx hb dX1_back_6 (by decide) ?_
  refine lv_bipush (v := (7 : Int32)) hx hb dX1_back_7 (by decide) ?_
  have hPc := hP.sub (ws' := []) [] rfl
  have hKc := hK.sub (tys' := []) [] rfl
  refine vp_callSi (W.runS (As := [.int x1, .int (0 : Int32), .int (7 : Int32)]) (rest := [.int B_closed, .ref qB]) ⟨hx, hb, hml, hown, hbg⟩ (met_X1_in l dC dI   x1 (0 : Int32) (7 : Int32) _ hw) (va_cwS 3 hbg g_RX1_83 rfl rfl rfl (by decide +kernel) ⟨Nat.le_of_ble_eq_true rfl, Nat.le_of_ble_eq_true rfl⟩) ⟨pcR_N_b _ _ _ , fun U hU hW => ⟨rfl, by rw [hU]; exact hPc, va_K.moved hW.alike hKc⟩⟩ rfl rfl hl.1 rfl (lv_room (Nat.le_of_ble_eq_true rfl)) dX1_back_9 ⟨Nat.le_of_ble_eq_true rfl, Nat.le_of_ble_eq_true rfl⟩) (fun r_12 hw => ?_)
  try dsimp only at hw
  refine lv_if_eq (tgt := 19) hx hb dX1_back_12 (by decide) (fun c9 => ?_) (fun c9 => ?_)
  · have hw := hw.1 c9
    exact hC19 x1 x2 x3 B_closed B_thrown B_buffer B_words B_serials B_lengths B_kinds B_owners B_olders B_links B_voids B_base B_count B_first B_forced B_end B_closed B_left B_begun B_begunLength hw _ _ hP hD hS ls (lv_sub hl [0, 1, 2, 3] rfl)
  · have hw := hw.2 c9
    refine lv_iload_n hx hb dX1_back_15 rfl (lv_at hl 3 rfl) ?_
    refine lv_if_ge (tgt := 23) hx hb dX1_back_16 (by decide) (fun c9 => ?_) (fun c9 => ?_)
    · have hw := hw.1 c9
      refine lv_iconst (v := (0 : Int32)) hx hb dX1_back_23 (by decide) ?_
      exact hC24 x1 x2 x3 (0 : Int32) B_closed B_thrown B_buffer B_words B_serials B_lengths B_kinds B_owners B_olders B_links B_voids B_base B_count B_first B_forced B_end B_closed B_left B_begun B_begunLength hw _ _ hP hD hS ls (lv_sub hl [0, 1, 2, 3] rfl)
    · have hw := hw.2 c9
      exact hC19 x1 x2 x3 B_closed B_thrown B_buffer B_words B_serials B_lengths B_kinds B_owners B_olders B_links B_voids B_base B_count B_first B_forced B_end B_closed B_left B_begun B_begunLength hw _ _ hP hD hS ls (lv_sub hl [0, 1, 2, 3] rfl)
end
section
theorem dL_append_0 : decode cL_append 0 = .ok (.aload 5, 2) := by decide +kernel
theorem dL_append_2 : decode cL_append 2 = .ok (.iconst 0, 1) := by decide +kernel
theorem dL_append_3 : decode cL_append 3 = .ok (.aload_n 0, 1) := by decide +kernel
theorem dL_append_4 : decode cL_append 4 = .ok (.iload_n 1, 1) := by decide +kernel
theorem dL_append_5 : decode cL_append 5 = .ok (.iload_n 2, 1) := by decide +kernel
theorem dL_append_6 : decode cL_append 6 = .ok (.iload_n 3, 1) := by decide +kernel
theorem dL_append_7 : decode cL_append 7 = .ok (.iload 4, 2) := by decide +kernel
theorem dL_append_9 : decode cL_append 9 = .ok (.invokevirtual 20, 3) := by decide +kernel
theorem dL_append_12 : decode cL_append 12 = .ok (.i2l, 1) := by decide +kernel
theorem dL_append_13 : decode cL_append 13 = .ok (.lastore, 1) := by decide +kernel
theorem dL_append_14 : decode cL_append 14 = .ok (.goto 11, 3) := by decide +kernel
theorem dL_append_17 : decode cL_append 17 = .ok (.astore 6, 2) := by decide +kernel
theorem dL_append_19 : decode cL_append 19 = .ok (.iconst 1, 1) := by decide +kernel
theorem dL_append_20 : decode cL_append 20 = .ok (.ireturn, 1) := by decide +kernel
theorem dL_append_21 : decode cL_append 21 = .ok (.astore 6, 2) := by decide +kernel
theorem dL_append_23 : decode cL_append 23 = .ok (.iconst 2, 1) := by decide +kernel
theorem dL_append_24 : decode cL_append 24 = .ok (.ireturn, 1) := by decide +kernel
theorem dL_append_25 : decode cL_append 25 = .ok (.iconst 0, 1) := by decide +kernel
theorem dL_append_26 : decode cL_append 26 = .ok (.ireturn, 1) := by decide +kernel
theorem dL_back_0 : decode cL_back 0 = .ok (.aload 4, 2) := by decide +kernel
theorem dL_back_2 : decode cL_back 2 = .ok (.iconst 0, 1) := by decide +kernel
theorem dL_back_3 : decode cL_back 3 = .ok (.aload_n 0, 1) := by decide +kernel
theorem dL_back_4 : decode cL_back 4 = .ok (.iload_n 1, 1) := by decide +kernel
theorem dL_back_5 : decode cL_back 5 = .ok (.iload_n 2, 1) := by decide +kernel
theorem dL_back_6 : decode cL_back 6 = .ok (.iload_n 3, 1) := by decide +kernel
theorem dL_back_7 : decode cL_back 7 = .ok (.invokevirtual 64, 3) := by decide +kernel
theorem dL_back_10 : decode cL_back 10 = .ok (.i2l, 1) := by decide +kernel
theorem dL_back_11 : decode cL_back 11 = .ok (.lastore, 1) := by decide +kernel
theorem dL_back_12 : decode cL_back 12 = .ok (.goto 11, 3) := by decide +kernel
theorem dL_back_15 : decode cL_back 15 = .ok (.astore 5, 2) := by decide +kernel
theorem dL_back_17 : decode cL_back 17 = .ok (.iconst 1, 1) := by decide +kernel
theorem dL_back_18 : decode cL_back 18 = .ok (.ireturn, 1) := by decide +kernel
theorem dL_back_19 : decode cL_back 19 = .ok (.astore 5, 2) := by decide +kernel
theorem dL_back_21 : decode cL_back 21 = .ok (.iconst 2, 1) := by decide +kernel
theorem dL_back_22 : decode cL_back 22 = .ok (.ireturn, 1) := by decide +kernel
theorem dL_back_23 : decode cL_back 23 = .ok (.iconst 0, 1) := by decide +kernel
theorem dL_back_24 : decode cL_back 24 = .ok (.ireturn, 1) := by decide +kernel
theorem dL_law_0 : decode cL_law 0 = .ok (.new 8, 3) := by decide +kernel
theorem dL_law_3 : decode cL_law 3 = .ok (.dup, 1) := by decide +kernel
theorem dL_law_4 : decode cL_law 4 = .ok (.invokespecial 81, 3) := by decide +kernel
theorem dL_law_7 : decode cL_law 7 = .ok (.astore_n 1, 1) := by decide +kernel
theorem dL_law_8 : decode cL_law 8 = .ok (.new 82, 3) := by decide +kernel
theorem dL_law_11 : decode cL_law 11 = .ok (.dup, 1) := by decide +kernel
theorem dL_law_12 : decode cL_law 12 = .ok (.invokespecial 84, 3) := by decide +kernel
theorem dL_law_15 : decode cL_law 15 = .ok (.astore_n 2, 1) := by decide +kernel
theorem dL_law_16 : decode cL_law 16 = .ok (.iconst 1, 1) := by decide +kernel
theorem dL_law_17 : decode cL_law 17 = .ok (.newarray .long, 2) := by decide +kernel
theorem dL_law_19 : decode cL_law 19 = .ok (.astore_n 3, 1) := by decide +kernel
theorem dL_law_20 : decode cL_law 20 = .ok (.iconst 0, 1) := by decide +kernel
theorem dL_law_21 : decode cL_law 21 = .ok (.istore 4, 2) := by decide +kernel
theorem dL_law_23 : decode cL_law 23 = .ok (.iload 4, 2) := by decide +kernel
theorem dL_law_25 : decode cL_law 25 = .ok (.aload_n 0, 1) := by decide +kernel
theorem dL_law_26 : decode cL_law 26 = .ok (.arraylength, 1) := by decide +kernel
theorem dL_law_27 : decode cL_law 27 = .ok (.iconst 5, 1) := by decide +kernel
theorem dL_law_28 : decode cL_law 28 = .ok (.isub, 1) := by decide +kernel
theorem dL_law_29 : decode cL_law 29 = .ok (.if_icmp .gt 726, 3) := by decide +kernel
theorem dL_law_32 : decode cL_law 32 = .ok (.aload_n 0, 1) := by decide +kernel
theorem dL_law_33 : decode cL_law 33 = .ok (.iload 4, 2) := by decide +kernel
theorem dL_law_35 : decode cL_law 35 = .ok (.iaload, 1) := by decide +kernel
theorem dL_law_36 : decode cL_law 36 = .ok (.bipush 31, 2) := by decide +kernel
theorem dL_law_38 : decode cL_law 38 = .ok (.iand, 1) := by decide +kernel
theorem dL_law_39 : decode cL_law 39 = .ok (.tableswitch 710 0 20 #[97, 134, 171, 235, 263, 279, 307, 323, 339, 355, 383, 411, 439, 479, 519, 599, 615, 643, 668, 681, 697], 97) := by decide +kernel
theorem dL_law_210 : decode cL_law 210 = .ok (.aload_n 1, 1) := by decide +kernel
theorem dL_law_211 : decode cL_law 211 = .ok (.aload_n 0, 1) := by decide +kernel
theorem dL_law_212 : decode cL_law 212 = .ok (.iload 4, 2) := by decide +kernel
theorem dL_law_214 : decode cL_law 214 = .ok (.iconst 1, 1) := by decide +kernel
theorem dL_law_215 : decode cL_law 215 = .ok (.iadd, 1) := by decide +kernel
theorem dL_law_216 : decode cL_law 216 = .ok (.iaload, 1) := by decide +kernel
theorem dL_law_217 : decode cL_law 217 = .ok (.aload_n 0, 1) := by decide +kernel
theorem dL_law_218 : decode cL_law 218 = .ok (.iload 4, 2) := by decide +kernel
theorem dL_law_220 : decode cL_law 220 = .ok (.iconst 2, 1) := by decide +kernel
theorem dL_law_221 : decode cL_law 221 = .ok (.iadd, 1) := by decide +kernel
theorem dL_law_222 : decode cL_law 222 = .ok (.iaload, 1) := by decide +kernel
theorem dL_law_223 : decode cL_law 223 = .ok (.aload_n 0, 1) := by decide +kernel
theorem dL_law_224 : decode cL_law 224 = .ok (.iload 4, 2) := by decide +kernel
theorem dL_law_226 : decode cL_law 226 = .ok (.iconst 3, 1) := by decide +kernel
theorem dL_law_227 : decode cL_law 227 = .ok (.iadd, 1) := by decide +kernel
theorem dL_law_228 : decode cL_law 228 = .ok (.iaload, 1) := by decide +kernel
theorem dL_law_229 : decode cL_law 229 = .ok (.aload_n 0, 1) := by decide +kernel
theorem dL_law_230 : decode cL_law 230 = .ok (.iload 4, 2) := by decide +kernel
theorem dL_law_232 : decode cL_law 232 = .ok (.iconst 4, 1) := by decide +kernel
theorem dL_law_233 : decode cL_law 233 = .ok (.iadd, 1) := by decide +kernel
theorem dL_law_234 : decode cL_law 234 = .ok (.iaload, 1) := by decide +kernel
theorem dL_law_235 : decode cL_law 235 = .ok (.aload_n 3, 1) := by decide +kernel
theorem dL_law_236 : decode cL_law 236 = .ok (.invokestatic 94, 3) := by decide +kernel
theorem dL_law_239 : decode cL_law 239 = .ok (.istore 5, 2) := by decide +kernel
theorem dL_law_241 : decode cL_law 241 = .ok (.aload_n 2, 1) := by decide +kernel
theorem dL_law_242 : decode cL_law 242 = .ok (.aload_n 0, 1) := by decide +kernel
theorem dL_law_243 : decode cL_law 243 = .ok (.iload 4, 2) := by decide +kernel
theorem dL_law_245 : decode cL_law 245 = .ok (.iconst 1, 1) := by decide +kernel
theorem dL_law_246 : decode cL_law 246 = .ok (.iadd, 1) := by decide +kernel
theorem dL_law_247 : decode cL_law 247 = .ok (.iaload, 1) := by decide +kernel
theorem dL_law_248 : decode cL_law 248 = .ok (.aload_n 0, 1) := by decide +kernel
theorem dL_law_249 : decode cL_law 249 = .ok (.iload 4, 2) := by decide +kernel
theorem dL_law_251 : decode cL_law 251 = .ok (.iconst 2, 1) := by decide +kernel
theorem dL_law_252 : decode cL_law 252 = .ok (.iadd, 1) := by decide +kernel
theorem dL_law_253 : decode cL_law 253 = .ok (.iaload, 1) := by decide +kernel
theorem dL_law_254 : decode cL_law 254 = .ok (.aload_n 0, 1) := by decide +kernel
theorem dL_law_255 : decode cL_law 255 = .ok (.iload 4, 2) := by decide +kernel
theorem dL_law_257 : decode cL_law 257 = .ok (.iconst 3, 1) := by decide +kernel
theorem dL_law_258 : decode cL_law 258 = .ok (.iadd, 1) := by decide +kernel
theorem dL_law_259 : decode cL_law 259 = .ok (.iaload, 1) := by decide +kernel
theorem dL_law_260 : decode cL_law 260 = .ok (.aload_n 0, 1) := by decide +kernel
theorem dL_law_261 : decode cL_law 261 = .ok (.iload 4, 2) := by decide +kernel
theorem dL_law_263 : decode cL_law 263 = .ok (.iconst 4, 1) := by decide +kernel
theorem dL_law_264 : decode cL_law 264 = .ok (.iadd, 1) := by decide +kernel
theorem dL_law_265 : decode cL_law 265 = .ok (.iaload, 1) := by decide +kernel
theorem dL_law_266 : decode cL_law 266 = .ok (.invokevirtual 97, 3) := by decide +kernel
theorem dL_law_269 : decode cL_law 269 = .ok (.istore 6, 2) := by decide +kernel
theorem dL_law_271 : decode cL_law 271 = .ok (.goto 478, 3) := by decide +kernel
theorem dL_law_558 : decode cL_law 558 = .ok (.aload_n 1, 1) := by decide +kernel
theorem dL_law_559 : decode cL_law 559 = .ok (.aload_n 0, 1) := by decide +kernel
theorem dL_law_560 : decode cL_law 560 = .ok (.iload 4, 2) := by decide +kernel
theorem dL_law_562 : decode cL_law 562 = .ok (.iconst 1, 1) := by decide +kernel
theorem dL_law_563 : decode cL_law 563 = .ok (.iadd, 1) := by decide +kernel
theorem dL_law_564 : decode cL_law 564 = .ok (.iaload, 1) := by decide +kernel
theorem dL_law_565 : decode cL_law 565 = .ok (.aload_n 0, 1) := by decide +kernel
theorem dL_law_566 : decode cL_law 566 = .ok (.iload 4, 2) := by decide +kernel
theorem dL_law_568 : decode cL_law 568 = .ok (.iconst 2, 1) := by decide +kernel
theorem dL_law_569 : decode cL_law 569 = .ok (.iadd, 1) := by decide +kernel
theorem dL_law_570 : decode cL_law 570 = .ok (.iaload, 1) := by decide +kernel
theorem dL_law_571 : decode cL_law 571 = .ok (.aload_n 0, 1) := by decide +kernel
theorem dL_law_572 : decode cL_law 572 = .ok (.iload 4, 2) := by decide +kernel
theorem dL_law_574 : decode cL_law 574 = .ok (.iconst 3, 1) := by decide +kernel
theorem dL_law_575 : decode cL_law 575 = .ok (.iadd, 1) := by decide +kernel
theorem dL_law_576 : decode cL_law 576 = .ok (.iaload, 1) := by decide +kernel
theorem dL_law_577 : decode cL_law 577 = .ok (.aload_n 3, 1) := by decide +kernel
theorem dL_law_578 : decode cL_law 578 = .ok (.invokestatic 134, 3) := by decide +kernel
theorem dL_law_581 : decode cL_law 581 = .ok (.istore 5, 2) := by decide +kernel
theorem dL_law_583 : decode cL_law 583 = .ok (.aload_n 2, 1) := by decide +kernel
theorem dL_law_584 : decode cL_law 584 = .ok (.aload_n 0, 1) := by decide +kernel
theorem dL_law_585 : decode cL_law 585 = .ok (.iload 4, 2) := by decide +kernel
theorem dL_law_587 : decode cL_law 587 = .ok (.iconst 1, 1) := by decide +kernel
theorem dL_law_588 : decode cL_law 588 = .ok (.iadd, 1) := by decide +kernel
theorem dL_law_589 : decode cL_law 589 = .ok (.iaload, 1) := by decide +kernel
theorem dL_law_590 : decode cL_law 590 = .ok (.aload_n 0, 1) := by decide +kernel
theorem dL_law_591 : decode cL_law 591 = .ok (.iload 4, 2) := by decide +kernel
theorem dL_law_593 : decode cL_law 593 = .ok (.iconst 2, 1) := by decide +kernel
theorem dL_law_594 : decode cL_law 594 = .ok (.iadd, 1) := by decide +kernel
theorem dL_law_595 : decode cL_law 595 = .ok (.iaload, 1) := by decide +kernel
theorem dL_law_596 : decode cL_law 596 = .ok (.aload_n 0, 1) := by decide +kernel
theorem dL_law_597 : decode cL_law 597 = .ok (.iload 4, 2) := by decide +kernel
theorem dL_law_599 : decode cL_law 599 = .ok (.iconst 3, 1) := by decide +kernel
theorem dL_law_600 : decode cL_law 600 = .ok (.iadd, 1) := by decide +kernel
theorem dL_law_601 : decode cL_law 601 = .ok (.iaload, 1) := by decide +kernel
theorem dL_law_602 : decode cL_law 602 = .ok (.invokevirtual 137, 3) := by decide +kernel
theorem dL_law_605 : decode cL_law 605 = .ok (.istore 6, 2) := by decide +kernel
theorem dL_law_607 : decode cL_law 607 = .ok (.aload_n 2, 1) := by decide +kernel
theorem dL_law_608 : decode cL_law 608 = .ok (.invokevirtual 138, 3) := by decide +kernel
theorem dL_law_611 : decode cL_law 611 = .ok (.iload 5, 2) := by decide +kernel
theorem dL_law_613 : decode cL_law 613 = .ok (.if_icmp .eq 5, 3) := by decide +kernel
theorem dL_law_616 : decode cL_law 616 = .ok (.iconst 0, 1) := by decide +kernel
theorem dL_law_617 : decode cL_law 617 = .ok (.ireturn, 1) := by decide +kernel
theorem dL_law_618 : decode cL_law 618 = .ok (.iload 5, 2) := by decide +kernel
theorem dL_law_620 : decode cL_law 620 = .ok (.ifCond .ne 15, 3) := by decide +kernel
theorem dL_law_623 : decode cL_law 623 = .ok (.aload_n 3, 1) := by decide +kernel
theorem dL_law_624 : decode cL_law 624 = .ok (.iconst 0, 1) := by decide +kernel
theorem dL_law_625 : decode cL_law 625 = .ok (.laload, 1) := by decide +kernel
theorem dL_law_626 : decode cL_law 626 = .ok (.iload 6, 2) := by decide +kernel
theorem dL_law_628 : decode cL_law 628 = .ok (.i2l, 1) := by decide +kernel
theorem dL_law_629 : decode cL_law 629 = .ok (.lcmp, 1) := by decide +kernel
theorem dL_law_630 : decode cL_law 630 = .ok (.ifCond .eq 5, 3) := by decide +kernel
theorem dL_law_633 : decode cL_law 633 = .ok (.iconst 0, 1) := by decide +kernel
theorem dL_law_634 : decode cL_law 634 = .ok (.ireturn, 1) := by decide +kernel
theorem dL_law_635 : decode cL_law 635 = .ok (.goto 114, 3) := by decide +kernel
theorem dL_law_749 : decode cL_law 749 = .ok (.iinc 4 5, 3) := by decide +kernel
theorem dL_law_752 : decode cL_law 752 = .ok (.goto (-729), 3) := by decide +kernel
end
section
def wp_L_append (post : Int32 → St_AO → Prop) (x1 : Int32) (x2 : Int32) (x3 : Int32) (x4 : Int32) (A_ring : Nat → Int32) (A_buffer : Nat → Int32) (A_firstPlace : Int32) (A_forcedPlace : Int32) (A_endPlace : Int32) (A_wordsToFailure : Int32) (A_opened : Int32) (O_v : Nat → Int64) : Prop :=
  wp_X0_append (fun r_1 u_1 => match u_1 with | (A_ring_1, A_buffer_1, A_firstPlace_1, A_forcedPlace_1, A_endPlace_1, A_wordsToFailure_1, A_opened_1) => vp_in (0 : Int32) 1 ∧ (post (0 : Int32) (A_ring_1, A_buffer_1, A_firstPlace_1, A_forcedPlace_1, A_endPlace_1, A_wordsToFailure_1, A_opened_1, vp_updL O_v (0 : Int32).toNatClampNeg r_1.toInt64))) (fun E9 u9 => match u9 with | (A_ring_x1, A_buffer_x1, A_firstPlace_x1, A_forcedPlace_x1, A_endPlace_x1, A_wordsToFailure_x1, A_opened_x1) => (E9 = "java/lang/IllegalStateException" ∧ post (1 : Int32) (A_ring_x1, A_buffer_x1, A_firstPlace_x1, A_forcedPlace_x1, A_endPlace_x1, A_wordsToFailure_x1, A_opened_x1, O_v)) ∨ (E9 = "java/lang/IllegalArgumentException" ∧ post (2 : Int32) (A_ring_x1, A_buffer_x1, A_firstPlace_x1, A_forcedPlace_x1, A_endPlace_x1, A_wordsToFailure_x1, A_opened_x1, O_v))) x1 x2 x3 x4 A_ring A_buffer A_firstPlace A_forcedPlace A_endPlace A_wordsToFailure A_opened
set_option maxHeartbeats 4000000 in
set_option maxRecDepth 100000 in
theorem met_L_append (l : Launch) (hl9 : l.stackTraces = false) (dC : Nat → ClassId) (dI : Nat → Nat → Nat) (qA qA_ring qA_buffer qO : Nat) (cA_ring cA_buffer cO : ClassId) (sz : Nat) (A_ring : Nat → Int32) (A_buffer : Nat → Int32) (A_firstPlace : Int32) (A_forcedPlace : Int32) (A_endPlace : Int32) (A_wordsToFailure : Int32) (A_opened : Int32) (O_v : Nat → Int64) (x1 : Int32) (x2 : Int32) (x3 : Int32) (x4 : Int32) (post : Int32 → St_AO → Prop) (hw : wp_L_append post x1 x2 x3 x4 A_ring A_buffer A_firstPlace A_forcedPlace A_endPlace A_wordsToFailure A_opened O_v) :
    Met l yL_append wsL_append ({ frames := 8, cells := 3, slots := 18, locals := 144 } : Room) (pcX_AO dC dI qA qA_ring qA_buffer qO cA_ring cA_buffer cO sz A_ring A_buffer A_firstPlace A_forcedPlace A_endPlace A_wordsToFailure A_opened O_v [.ref qA, .int x1, .int x2, .int x3, .int x4, .ref qO]) (va_Qi post (at_AO dC dI (va_A [(qA, .inr (0, [.ref qA_ring, .ref qA_buffer, .int A_firstPlace, .int A_forcedPlace, .int A_endPlace, .int A_wordsToFailure, .int A_opened])), (qA_ring, .inl (cA_ring, 65536, .inl A_ring)), (qA_buffer, .inl (cA_buffer, 200, .inl A_buffer)), (qO, .inl (cO, 1, .inr (.inl O_v)))] sz) qA qA_ring qA_buffer qO cA_ring cA_buffer cO) (va_A [(qA, .inr (0, [.ref qA_ring, .ref qA_buffer, .int A_firstPlace, .int A_forcedPlace, .int A_endPlace, .int A_wordsToFailure, .int A_opened])), (qA_ring, .inl (cA_ring, 65536, .inl A_ring)), (qA_buffer, .inl (cA_buffer, 200, .inl A_buffer)), (qO, .inl (cO, 1, .inr (.inl O_v)))] sz)) 3 18 (va_A [(qA, .inr (0, [.ref qA_ring, .ref qA_buffer, .int A_firstPlace, .int A_forcedPlace, .int A_endPlace, .int A_wordsToFailure, .int A_opened])), (qA_ring, .inl (cA_ring, 65536, .inl A_ring)), (qA_buffer, .inl (cA_buffer, 200, .inl A_buffer)), (qO, .inl (cO, 1, .inr (.inl O_v)))] sz) := by
  refine va_MetW (cc := cL_append) (maxL := 7) (ret := (some .int)) (by decide) rfl ?_
  intro p e s m args below meth c s₁ B hml hv
  obtain ⟨hav, hsz, hP, hK, hD0, hXW0⟩ := hv
  have hx := B.exec
  have hb := B.bytes
  have hr := B.returns
  have hts := atoms_spec (ws := wsL_append) B.pre
  have hbg : ∀ w ∈ bigW, w.before args s = true := fun w h => hts w (List.mem_cons_of_mem _ h)
  have hown : s.vm.findClass RL = some m.cls := findClass_of_methodNamed B.named
  have hlocks := B.notSynchronized
  have hTab : c.exceptionTable.toList = tableOf [(0, 14, 17, 13), (0, 14, 21, 24)] := vx_table (x := yL_append) B (hts _ List.mem_cons_self)
  subst hsz
  have hD := hD0.self (sz := s.heap.size)
  generalize hAe : va_A [(qA, .inr (0, [.ref qA_ring, .ref qA_buffer, .int A_firstPlace, .int A_forcedPlace, .int A_endPlace, .int A_wordsToFailure, .int A_opened])), (qA_ring, .inl (cA_ring, 65536, .inl A_ring)), (qA_buffer, .inl (cA_buffer, 200, .inl A_buffer)), (qO, .inl (cO, 1, .inr (.inl O_v)))] s.heap.size = A at hD hXW0 ⊢
  have hA : ∀ q : Nat, s.heap.size ≤ q → A q := fun q h => by rw [← hAe]; exact Or.inr h
  have hS : va_S A s.heap s.heap [] := va_S.rf
  have hP : va_P (dC, dI) vwCl [(qA, .inr (0, [.ref qA_ring, .ref qA_buffer, .int A_firstPlace, .int A_forcedPlace, .int A_endPlace, .int A_wordsToFailure, .int A_opened])), (qA_ring, .inl (cA_ring, 65536, .inl A_ring)), (qA_buffer, .inl (cA_buffer, 200, .inl A_buffer)), (qO, .inl (cO, 1, .inr (.inl O_v)))] s.heap := hP
  generalize hQQ : MQ below (va_Qi post (at_AO dC dI A qA qA_ring qA_buffer qO cA_ring cA_buffer cO) A) args s 3 18 A = QQ
  have hl := lv_entry ([.ref qA, .int x1, .int x2, .int x3, .int x4, .ref qO]) (n := 7) (Nat.le_of_ble_eq_true rfl)
  rw [show entryFrame m args 7 = entryFrame m ([.ref qA, .int x1, .int x2, .int x3, .int x4, .ref qO] : List Value).toArray 7 by rw [hav], lg_entry_eq]
  generalize (lg_sl ([.ref qA, .int x1, .int x2, .int x3, .int x4, .ref qO]) ++ List.replicate (7 - (lg_sl ([.ref qA, .int x1, .int x2, .int x3, .int x4, .ref qO])).length) Slot.unset).toArray = ls at hl ⊢
  have hl : lv_has ls 7 [(0, .ref qA), (1, .int x1), (2, .int x2), (3, .int x3), (4, .int x4), (5, .ref qO)] := hl
  unfold wp_L_append at hw
  refine lv_aload hx hb dL_append_0 (lv_at hl 5 rfl) ?_
  refine lv_iconst (v := (0 : Int32)) hx hb dL_append_2 (by decide) ?_
  refine lv_aload_n hx hb dL_append_3 rfl (lv_at hl 0 rfl) ?_
  refine lv_iload_n hx hb dL_append_4 rfl (lv_at hl 1 rfl) ?_
  refine lv_iload_n hx hb dL_append_5 rfl (lv_at hl 2 rfl) ?_
  refine lv_iload_n hx hb dL_append_6 rfl (lv_at hl 3 rfl) ?_
  refine lv_iload hx hb dL_append_7 (lv_at hl 4 rfl) ?_
  have hPc := hP.sub (ws' := [(qA, .inr (0, [.ref qA_ring, .ref qA_buffer, .int A_firstPlace, .int A_forcedPlace, .int A_endPlace, .int A_wordsToFailure, .int A_opened])), (qA_ring, .inl (cA_ring, 65536, .inl A_ring)), (qA_buffer, .inl (cA_buffer, 200, .inl A_buffer))]) [0, 1, 2] rfl
  have hKc := hK.sub (tys' := [(cA_ring, .int), (cA_buffer, .int)]) [0, 1] rfl
  have hDc := hD.sub (ws' := [(qA, .inr (0, [.ref qA_ring, .ref qA_buffer, .int A_firstPlace, .int A_forcedPlace, .int A_endPlace, .int A_wordsToFailure, .int A_opened])), (qA_ring, .inl (cA_ring, 65536, .inl A_ring)), (qA_buffer, .inl (cA_buffer, 200, .inl A_buffer))]) [0, 1, 2] (by decide) rfl
  have hFc := va_free (wc := [(qA, .inr (0, [.ref qA_ring, .ref qA_buffer, .int A_firstPlace, .int A_forcedPlace, .int A_endPlace, .int A_wordsToFailure, .int A_opened])), (qA_ring, .inl (cA_ring, 65536, .inl A_ring)), (qA_buffer, .inl (cA_buffer, 200, .inl A_buffer))]) hD hS hA [0, 1, 2] rfl
  refine vx_calli (vx_runV (As := [.int x1, .int x2, .int x3, .int x4]) (rest := [.int (0 : Int32), .ref qO]) ⟨hx, hb, hml, hown, hbg⟩ (met_X0_append l hl9 dC dI qA qA_ring qA_buffer cA_ring cA_buffer s.heap.size A_ring A_buffer A_firstPlace A_forcedPlace A_endPlace A_wordsToFailure A_opened x1 x2 x3 x4 _ _ hw) (cwV 4 hbg g_RL_20 rfl rfl rfl (by decide +kernel) ⟨Nat.le_of_ble_eq_true rfl, Nat.le_of_ble_eq_true rfl⟩) ⟨pcX_A_b _ _ _ _ _ _ _ _ _ _ _ _ _ _ _ _, va_recv hK hPc (ci := 0) (q0 := 0) rfl rfl, fun U hU hW => ⟨rfl, by rw [hU], by rw [hU]; exact hPc, va_K.moved hW.alike hKc, hDc.weaken (fun _ _ _ _ => trivial), XW.go hXW0 hS hFc hU hW⟩⟩ rfl rfl hl.1 rfl (lv_room (Nat.le_of_ble_eq_true rfl)) dL_append_9 ⟨Nat.le_of_ble_eq_true rfl, Nat.le_of_ble_eq_true rfl⟩) hS (fun q _ h => hFc q h) hFc (fun q _ h => hFc q h) (fun E9 ce9 q9 u9 t9 H_1 locs ht hvm hpx hBX hz1 hk1 hS hce hcv hcl => ?_) (fun r_1 u_1 t_1 H_1 locs ht hvm hw hB hz1 hk1 hS => ?_)
  · obtain ⟨E8, A_ring_x1, A_buffer_x1, A_firstPlace_x1, A_forcedPlace_x1, A_endPlace_x1, A_wordsToFailure_x1, A_opened_x1⟩ := u9
    obtain ⟨rfl, hP1, hK1, hD1⟩ := hBX
    rw [ht] at hP1
    obtain ⟨hP, hD⟩ := va_join (wr := [(qO, .inl (cO, 1, .inr (.inl O_v)))]) (w1 := [(qA, .inr (0, [.ref qA_ring, .ref qA_buffer, .int A_firstPlace_x1, .int A_forcedPlace_x1, .int A_endPlace_x1, .int A_wordsToFailure_x1, .int A_opened_x1])), (qA_ring, .inl (cA_ring, 65536, .inl A_ring_x1)), (qA_buffer, .inl (cA_buffer, 200, .inl A_buffer_x1))]) hP hD [0, 1, 2] [3] rfl rfl (by decide) (by decide) hk1 hFc hP1 hD1
    have hP : va_P (dC, dI) vwCl [(qA, .inr (0, [.ref qA_ring, .ref qA_buffer, .int A_firstPlace_x1, .int A_forcedPlace_x1, .int A_endPlace_x1, .int A_wordsToFailure_x1, .int A_opened_x1])), (qA_ring, .inl (cA_ring, 65536, .inl A_ring_x1)), (qA_buffer, .inl (cA_buffer, 200, .inl A_buffer_x1)), (qO, .inl (cO, 1, .inr (.inl O_v)))] H_1 := hP.sub [1, 2, 3, 0] rfl
    have hD : va_D A [(qA, .inr (0, [.ref qA_ring, .ref qA_buffer, .int A_firstPlace_x1, .int A_forcedPlace_x1, .int A_endPlace_x1, .int A_wordsToFailure_x1, .int A_opened_x1])), (qA_ring, .inl (cA_ring, 65536, .inl A_ring_x1)), (qA_buffer, .inl (cA_buffer, 200, .inl A_buffer_x1)), (qO, .inl (cO, 1, .inr (.inl O_v)))] := hD.sub [1, 2, 3, 0] (by decide) rfl
    try dsimp only at hpx
    rcases hpx with ⟨rfl, hw⟩ | ⟨rfl, hw⟩
    · refine vx_widen (k := 3) (n := 18) (Nat.le_of_ble_eq_true rfl) (Nat.le_of_ble_eq_true rfl) ?_
      refine vx_catch (own := RL) (name := "java/lang/IllegalStateException") (E := "java/lang/IllegalStateException") hown [] ⟨0, 14, 17, 13⟩ [⟨0, 14, 21, 24⟩] (by rw [hTab]; rfl) (fun z hz => nomatch hz) (by decide) (by decide) (hbg _ kw_114) (va_Nw.use rfl (hXW0.1 "java/lang/IllegalStateException" (by decide))) hce hcv hcl ?_
      refine lv_astore (lv' := [(6, .ref q9), (0, .ref qA), (1, .int x1), (2, .int x2), (3, .int x3), (4, .int x4), (5, .ref qO)]) hx hb dL_append_17 hl (by decide) rfl (fun ls hl => ?_)
      refine lv_iconst (v := (1 : Int32)) hx hb dL_append_19 (by decide) ?_
      subst hQQ
      refine W.widen (k := 3) (n := 18) (Nat.le_of_ble_eq_true rfl) (Nat.le_of_ble_eq_true rfl) ?_
      exact W.iret (v := (1 : Int32)) hx hb hr (fun t ht hW => ⟨⟨(1 : Int32), (A_ring_x1, A_buffer_x1, A_firstPlace_x1, A_forcedPlace_x1, A_endPlace_x1, A_wordsToFailure_x1, A_opened_x1, O_v), rfl, hw, by rw [ht]; exact hP, va_K.moved hW.alike hK, hD⟩, hS.F ht⟩) hS.2.2 dL_append_20
    · refine vx_widen (k := 3) (n := 18) (Nat.le_of_ble_eq_true rfl) (Nat.le_of_ble_eq_true rfl) ?_
      refine vx_catch (own := RL) (name := "java/lang/IllegalArgumentException") (E := "java/lang/IllegalArgumentException") hown [⟨0, 14, 17, 13⟩] ⟨0, 14, 21, 24⟩ [] (by rw [hTab]; rfl) (by
        intro z hz
        rcases List.mem_cons.mp hz with rfl | hz
        · exact Or.inr ⟨by decide, "java/lang/IllegalStateException", hbg _ kw_114, hXW0.2.2.2.1 ("java/lang/IllegalArgumentException", "java/lang/IllegalStateException") (by decide)⟩
        cases hz) (by decide) (by decide) (hbg _ kw_115) (va_Nw.use rfl (hXW0.1 "java/lang/IllegalArgumentException" (by decide))) hce hcv hcl ?_
      refine lv_astore (lv' := [(6, .ref q9), (0, .ref qA), (1, .int x1), (2, .int x2), (3, .int x3), (4, .int x4), (5, .ref qO)]) hx hb dL_append_21 hl (by decide) rfl (fun ls hl => ?_)
      refine lv_iconst (v := (2 : Int32)) hx hb dL_append_23 (by decide) ?_
      subst hQQ
      refine W.widen (k := 3) (n := 18) (Nat.le_of_ble_eq_true rfl) (Nat.le_of_ble_eq_true rfl) ?_
      exact W.iret (v := (2 : Int32)) hx hb hr (fun t ht hW => ⟨⟨(2 : Int32), (A_ring_x1, A_buffer_x1, A_firstPlace_x1, A_forcedPlace_x1, A_endPlace_x1, A_wordsToFailure_x1, A_opened_x1, O_v), rfl, hw, by rw [ht]; exact hP, va_K.moved hW.alike hK, hD⟩, hS.F ht⟩) hS.2.2 dL_append_24
  · obtain ⟨A_ring_1, A_buffer_1, A_firstPlace_1, A_forcedPlace_1, A_endPlace_1, A_wordsToFailure_1, A_opened_1⟩ := u_1
    obtain ⟨hP1, hK1, hD1⟩ := hB
    rw [ht] at hP1
    try dsimp only at hw
    obtain ⟨hP, hD⟩ := va_join (wr := [(qO, .inl (cO, 1, .inr (.inl O_v)))]) (w1 := [(qA, .inr (0, [.ref qA_ring, .ref qA_buffer, .int A_firstPlace_1, .int A_forcedPlace_1, .int A_endPlace_1, .int A_wordsToFailure_1, .int A_opened_1])), (qA_ring, .inl (cA_ring, 65536, .inl A_ring_1)), (qA_buffer, .inl (cA_buffer, 200, .inl A_buffer_1))]) hP hD [0, 1, 2] [3] rfl rfl (by decide) (by decide) hk1 hFc hP1 hD1
    have hP : va_P (dC, dI) vwCl [(qA, .inr (0, [.ref qA_ring, .ref qA_buffer, .int A_firstPlace_1, .int A_forcedPlace_1, .int A_endPlace_1, .int A_wordsToFailure_1, .int A_opened_1])), (qA_ring, .inl (cA_ring, 65536, .inl A_ring_1)), (qA_buffer, .inl (cA_buffer, 200, .inl A_buffer_1)), (qO, .inl (cO, 1, .inr (.inl O_v)))] H_1 := hP.sub [1, 2, 3, 0] rfl
    have hD : va_D A [(qA, .inr (0, [.ref qA_ring, .ref qA_buffer, .int A_firstPlace_1, .int A_forcedPlace_1, .int A_endPlace_1, .int A_wordsToFailure_1, .int A_opened_1])), (qA_ring, .inl (cA_ring, 65536, .inl A_ring_1)), (qA_buffer, .inl (cA_buffer, 200, .inl A_buffer_1)), (qO, .inl (cO, 1, .inr (.inl O_v)))] := hD.sub [1, 2, 3, 0] (by decide) rfl
    refine W.widen (k := 3) (n := 18) (Nat.le_of_ble_eq_true rfl) (Nat.le_of_ble_eq_true rfl) ?_
    refine lv_i2l (v := r_1.toInt64) hx hb dL_append_12 rfl ?_
    obtain ⟨h_2, hw⟩ := hw
    refine va_last hx hb hK hP hD hS 3 2 rfl rfl h_2 dL_append_13 (fun H_3 locs hP hD hS => ?_)
    have hP : va_P (dC, dI) vwCl [(qA, .inr (0, [.ref qA_ring, .ref qA_buffer, .int A_firstPlace_1, .int A_forcedPlace_1, .int A_endPlace_1, .int A_wordsToFailure_1, .int A_opened_1])), (qA_ring, .inl (cA_ring, 65536, .inl A_ring_1)), (qA_buffer, .inl (cA_buffer, 200, .inl A_buffer_1)), (qO, .inl (cO, 1, .inr (.inl (vp_updL O_v (0 : Int32).toNatClampNeg r_1.toInt64))))] H_3 := hP
    have hD : va_D A [(qA, .inr (0, [.ref qA_ring, .ref qA_buffer, .int A_firstPlace_1, .int A_forcedPlace_1, .int A_endPlace_1, .int A_wordsToFailure_1, .int A_opened_1])), (qA_ring, .inl (cA_ring, 65536, .inl A_ring_1)), (qA_buffer, .inl (cA_buffer, 200, .inl A_buffer_1)), (qO, .inl (cO, 1, .inr (.inl (vp_updL O_v (0 : Int32).toNatClampNeg r_1.toInt64))))] := hD
    refine lv_goto (tgt := 25) hx hb dL_append_14 (by decide) ?_
    refine lv_iconst (v := (0 : Int32)) hx hb dL_append_25 (by decide) ?_
    subst hQQ
    refine W.widen (k := 3) (n := 18) (Nat.le_of_ble_eq_true rfl) (Nat.le_of_ble_eq_true rfl) ?_
    exact W.iret (v := (0 : Int32)) hx hb hr (fun t ht hW => ⟨⟨(0 : Int32), (A_ring_1, A_buffer_1, A_firstPlace_1, A_forcedPlace_1, A_endPlace_1, A_wordsToFailure_1, A_opened_1, vp_updL O_v (0 : Int32).toNatClampNeg r_1.toInt64), rfl, hw, by rw [ht]; exact hP, va_K.moved hW.alike hK, hD⟩, hS.F ht⟩) hS.2.2 dL_append_26
def wp_L_back (post : Int32 → St_AO → Prop) (x1 : Int32) (x2 : Int32) (x3 : Int32) (A_ring : Nat → Int32) (A_buffer : Nat → Int32) (A_firstPlace : Int32) (A_forcedPlace : Int32) (A_endPlace : Int32) (A_wordsToFailure : Int32) (A_opened : Int32) (O_v : Nat → Int64) : Prop :=
  wp_X0_back (fun r_1 u_1 => match u_1 with | (A_ring_1, A_buffer_1, A_firstPlace_1, A_forcedPlace_1, A_endPlace_1, A_wordsToFailure_1, A_opened_1) => vp_in (0 : Int32) 1 ∧ (post (0 : Int32) (A_ring_1, A_buffer_1, A_firstPlace_1, A_forcedPlace_1, A_endPlace_1, A_wordsToFailure_1, A_opened_1, vp_updL O_v (0 : Int32).toNatClampNeg r_1.toInt64))) (fun E9 u9 => match u9 with | (A_ring_x1, A_buffer_x1, A_firstPlace_x1, A_forcedPlace_x1, A_endPlace_x1, A_wordsToFailure_x1, A_opened_x1) => (E9 = "java/lang/IllegalStateException" ∧ post (1 : Int32) (A_ring_x1, A_buffer_x1, A_firstPlace_x1, A_forcedPlace_x1, A_endPlace_x1, A_wordsToFailure_x1, A_opened_x1, O_v)) ∨ (E9 = "java/lang/IllegalArgumentException" ∧ post (2 : Int32) (A_ring_x1, A_buffer_x1, A_firstPlace_x1, A_forcedPlace_x1, A_endPlace_x1, A_wordsToFailure_x1, A_opened_x1, O_v))) x1 x2 x3 A_ring A_buffer A_firstPlace A_forcedPlace A_endPlace A_wordsToFailure A_opened
set_option maxHeartbeats 4000000 in
set_option maxRecDepth 100000 in
theorem met_L_back (l : Launch) (hl9 : l.stackTraces = false) (dC : Nat → ClassId) (dI : Nat → Nat → Nat) (qA qA_ring qA_buffer qO : Nat) (cA_ring cA_buffer cO : ClassId) (sz : Nat) (A_ring : Nat → Int32) (A_buffer : Nat → Int32) (A_firstPlace : Int32) (A_forcedPlace : Int32) (A_endPlace : Int32) (A_wordsToFailure : Int32) (A_opened : Int32) (O_v : Nat → Int64) (x1 : Int32) (x2 : Int32) (x3 : Int32) (post : Int32 → St_AO → Prop) (hw : wp_L_back post x1 x2 x3 A_ring A_buffer A_firstPlace A_forcedPlace A_endPlace A_wordsToFailure A_opened O_v) :
    Met l yL_back wsL_back ({ frames := 8, cells := 3, slots := 18, locals := 140 } : Room) (pcX_AO dC dI qA qA_ring qA_buffer qO cA_ring cA_buffer cO sz A_ring A_buffer A_firstPlace A_forcedPlace A_endPlace A_wordsToFailure A_opened O_v [.ref qA, .int x1, .int x2, .int x3, .ref qO]) (va_Qi post (at_AO dC dI (va_A [(qA, .inr (0, [.ref qA_ring, .ref qA_buffer, .int A_firstPlace, .int A_forcedPlace, .int A_endPlace, .int A_wordsToFailure, .int A_opened])), (qA_ring, .inl (cA_ring, 65536, .inl A_ring)), (qA_buffer, .inl (cA_buffer, 200, .inl A_buffer)), (qO, .inl (cO, 1, .inr (.inl O_v)))] sz) qA qA_ring qA_buffer qO cA_ring cA_buffer cO) (va_A [(qA, .inr (0, [.ref qA_ring, .ref qA_buffer, .int A_firstPlace, .int A_forcedPlace, .int A_endPlace, .int A_wordsToFailure, .int A_opened])), (qA_ring, .inl (cA_ring, 65536, .inl A_ring)), (qA_buffer, .inl (cA_buffer, 200, .inl A_buffer)), (qO, .inl (cO, 1, .inr (.inl O_v)))] sz)) 3 18 (va_A [(qA, .inr (0, [.ref qA_ring, .ref qA_buffer, .int A_firstPlace, .int A_forcedPlace, .int A_endPlace, .int A_wordsToFailure, .int A_opened])), (qA_ring, .inl (cA_ring, 65536, .inl A_ring)), (qA_buffer, .inl (cA_buffer, 200, .inl A_buffer)), (qO, .inl (cO, 1, .inr (.inl O_v)))] sz) := by
  refine va_MetW (cc := cL_back) (maxL := 6) (ret := (some .int)) (by decide) rfl ?_
  intro p e s m args below meth c s₁ B hml hv
  obtain ⟨hav, hsz, hP, hK, hD0, hXW0⟩ := hv
  have hx := B.exec
  have hb := B.bytes
  have hr := B.returns
  have hts := atoms_spec (ws := wsL_back) B.pre
  have hbg : ∀ w ∈ bigW, w.before args s = true := fun w h => hts w (List.mem_cons_of_mem _ h)
  have hown : s.vm.findClass RL = some m.cls := findClass_of_methodNamed B.named
  have hlocks := B.notSynchronized
  have hTab : c.exceptionTable.toList = tableOf [(0, 12, 15, 13), (0, 12, 19, 24)] := vx_table (x := yL_back) B (hts _ List.mem_cons_self)
  subst hsz
  have hD := hD0.self (sz := s.heap.size)
  generalize hAe : va_A [(qA, .inr (0, [.ref qA_ring, .ref qA_buffer, .int A_firstPlace, .int A_forcedPlace, .int A_endPlace, .int A_wordsToFailure, .int A_opened])), (qA_ring, .inl (cA_ring, 65536, .inl A_ring)), (qA_buffer, .inl (cA_buffer, 200, .inl A_buffer)), (qO, .inl (cO, 1, .inr (.inl O_v)))] s.heap.size = A at hD hXW0 ⊢
  have hA : ∀ q : Nat, s.heap.size ≤ q → A q := fun q h => by rw [← hAe]; exact Or.inr h
  have hS : va_S A s.heap s.heap [] := va_S.rf
  have hP : va_P (dC, dI) vwCl [(qA, .inr (0, [.ref qA_ring, .ref qA_buffer, .int A_firstPlace, .int A_forcedPlace, .int A_endPlace, .int A_wordsToFailure, .int A_opened])), (qA_ring, .inl (cA_ring, 65536, .inl A_ring)), (qA_buffer, .inl (cA_buffer, 200, .inl A_buffer)), (qO, .inl (cO, 1, .inr (.inl O_v)))] s.heap := hP
  generalize hQQ : MQ below (va_Qi post (at_AO dC dI A qA qA_ring qA_buffer qO cA_ring cA_buffer cO) A) args s 3 18 A = QQ
  have hl := lv_entry ([.ref qA, .int x1, .int x2, .int x3, .ref qO]) (n := 6) (Nat.le_of_ble_eq_true rfl)
  rw [show entryFrame m args 6 = entryFrame m ([.ref qA, .int x1, .int x2, .int x3, .ref qO] : List Value).toArray 6 by rw [hav], lg_entry_eq]
  generalize (lg_sl ([.ref qA, .int x1, .int x2, .int x3, .ref qO]) ++ List.replicate (6 - (lg_sl ([.ref qA, .int x1, .int x2, .int x3, .ref qO])).length) Slot.unset).toArray = ls at hl ⊢
  have hl : lv_has ls 6 [(0, .ref qA), (1, .int x1), (2, .int x2), (3, .int x3), (4, .ref qO)] := hl
  unfold wp_L_back at hw
  refine lv_aload hx hb dL_back_0 (lv_at hl 4 rfl) ?_
  refine lv_iconst (v := (0 : Int32)) hx hb dL_back_2 (by decide) ?_
  refine lv_aload_n hx hb dL_back_3 rfl (lv_at hl 0 rfl) ?_
  refine lv_iload_n hx hb dL_back_4 rfl (lv_at hl 1 rfl) ?_
  refine lv_iload_n hx hb dL_back_5 rfl (lv_at hl 2 rfl) ?_
  refine lv_iload_n hx hb dL_back_6 rfl (lv_at hl 3 rfl) ?_
  have hPc := hP.sub (ws' := [(qA, .inr (0, [.ref qA_ring, .ref qA_buffer, .int A_firstPlace, .int A_forcedPlace, .int A_endPlace, .int A_wordsToFailure, .int A_opened])), (qA_ring, .inl (cA_ring, 65536, .inl A_ring)), (qA_buffer, .inl (cA_buffer, 200, .inl A_buffer))]) [0, 1, 2] rfl
  have hKc := hK.sub (tys' := [(cA_ring, .int), (cA_buffer, .int)]) [0, 1] rfl
  have hDc := hD.sub (ws' := [(qA, .inr (0, [.ref qA_ring, .ref qA_buffer, .int A_firstPlace, .int A_forcedPlace, .int A_endPlace, .int A_wordsToFailure, .int A_opened])), (qA_ring, .inl (cA_ring, 65536, .inl A_ring)), (qA_buffer, .inl (cA_buffer, 200, .inl A_buffer))]) [0, 1, 2] (by decide) rfl
  have hFc := va_free (wc := [(qA, .inr (0, [.ref qA_ring, .ref qA_buffer, .int A_firstPlace, .int A_forcedPlace, .int A_endPlace, .int A_wordsToFailure, .int A_opened])), (qA_ring, .inl (cA_ring, 65536, .inl A_ring)), (qA_buffer, .inl (cA_buffer, 200, .inl A_buffer))]) hD hS hA [0, 1, 2] rfl
  refine vx_calli (vx_runV (As := [.int x1, .int x2, .int x3]) (rest := [.int (0 : Int32), .ref qO]) ⟨hx, hb, hml, hown, hbg⟩ (met_X0_back l hl9 dC dI qA qA_ring qA_buffer cA_ring cA_buffer s.heap.size A_ring A_buffer A_firstPlace A_forcedPlace A_endPlace A_wordsToFailure A_opened x1 x2 x3 _ _ hw) (cwV 3 hbg g_RL_64 rfl rfl rfl (by decide +kernel) ⟨Nat.le_of_ble_eq_true rfl, Nat.le_of_ble_eq_true rfl⟩) ⟨pcX_A_b _ _ _ _ _ _ _ _ _ _ _ _ _ _ _ _, va_recv hK hPc (ci := 0) (q0 := 0) rfl rfl, fun U hU hW => ⟨rfl, by rw [hU], by rw [hU]; exact hPc, va_K.moved hW.alike hKc, hDc.weaken (fun _ _ _ _ => trivial), XW.go hXW0 hS hFc hU hW⟩⟩ rfl rfl hl.1 rfl (lv_room (Nat.le_of_ble_eq_true rfl)) dL_back_7 ⟨Nat.le_of_ble_eq_true rfl, Nat.le_of_ble_eq_true rfl⟩) hS (fun q _ h => hFc q h) hFc (fun q _ h => hFc q h) (fun E9 ce9 q9 u9 t9 H_1 locs ht hvm hpx hBX hz1 hk1 hS hce hcv hcl => ?_) (fun r_1 u_1 t_1 H_1 locs ht hvm hw hB hz1 hk1 hS => ?_)
  · obtain ⟨E8, A_ring_x1, A_buffer_x1, A_firstPlace_x1, A_forcedPlace_x1, A_endPlace_x1, A_wordsToFailure_x1, A_opened_x1⟩ := u9
    obtain ⟨rfl, hP1, hK1, hD1⟩ := hBX
    rw [ht] at hP1
    obtain ⟨hP, hD⟩ := va_join (wr := [(qO, .inl (cO, 1, .inr (.inl O_v)))]) (w1 := [(qA, .inr (0, [.ref qA_ring, .ref qA_buffer, .int A_firstPlace_x1, .int A_forcedPlace_x1, .int A_endPlace_x1, .int A_wordsToFailure_x1, .int A_opened_x1])), (qA_ring, .inl (cA_ring, 65536, .inl A_ring_x1)), (qA_buffer, .inl (cA_buffer, 200, .inl A_buffer_x1))]) hP hD [0, 1, 2] [3] rfl rfl (by decide) (by decide) hk1 hFc hP1 hD1
    have hP : va_P (dC, dI) vwCl [(qA, .inr (0, [.ref qA_ring, .ref qA_buffer, .int A_firstPlace_x1, .int A_forcedPlace_x1, .int A_endPlace_x1, .int A_wordsToFailure_x1, .int A_opened_x1])), (qA_ring, .inl (cA_ring, 65536, .inl A_ring_x1)), (qA_buffer, .inl (cA_buffer, 200, .inl A_buffer_x1)), (qO, .inl (cO, 1, .inr (.inl O_v)))] H_1 := hP.sub [1, 2, 3, 0] rfl
    have hD : va_D A [(qA, .inr (0, [.ref qA_ring, .ref qA_buffer, .int A_firstPlace_x1, .int A_forcedPlace_x1, .int A_endPlace_x1, .int A_wordsToFailure_x1, .int A_opened_x1])), (qA_ring, .inl (cA_ring, 65536, .inl A_ring_x1)), (qA_buffer, .inl (cA_buffer, 200, .inl A_buffer_x1)), (qO, .inl (cO, 1, .inr (.inl O_v)))] := hD.sub [1, 2, 3, 0] (by decide) rfl
    try dsimp only at hpx
    rcases hpx with ⟨rfl, hw⟩ | ⟨rfl, hw⟩
    · refine vx_widen (k := 3) (n := 18) (Nat.le_of_ble_eq_true rfl) (Nat.le_of_ble_eq_true rfl) ?_
      refine vx_catch (own := RL) (name := "java/lang/IllegalStateException") (E := "java/lang/IllegalStateException") hown [] ⟨0, 12, 15, 13⟩ [⟨0, 12, 19, 24⟩] (by rw [hTab]; rfl) (fun z hz => nomatch hz) (by decide) (by decide) (hbg _ kw_114) (va_Nw.use rfl (hXW0.1 "java/lang/IllegalStateException" (by decide))) hce hcv hcl ?_
      refine lv_astore (lv' := [(5, .ref q9), (0, .ref qA), (1, .int x1), (2, .int x2), (3, .int x3), (4, .ref qO)]) hx hb dL_back_15 hl (by decide) rfl (fun ls hl => ?_)
      refine lv_iconst (v := (1 : Int32)) hx hb dL_back_17 (by decide) ?_
      subst hQQ
      refine W.widen (k := 3) (n := 18) (Nat.le_of_ble_eq_true rfl) (Nat.le_of_ble_eq_true rfl) ?_
      exact W.iret (v := (1 : Int32)) hx hb hr (fun t ht hW => ⟨⟨(1 : Int32), (A_ring_x1, A_buffer_x1, A_firstPlace_x1, A_forcedPlace_x1, A_endPlace_x1, A_wordsToFailure_x1, A_opened_x1, O_v), rfl, hw, by rw [ht]; exact hP, va_K.moved hW.alike hK, hD⟩, hS.F ht⟩) hS.2.2 dL_back_18
    · refine vx_widen (k := 3) (n := 18) (Nat.le_of_ble_eq_true rfl) (Nat.le_of_ble_eq_true rfl) ?_
      refine vx_catch (own := RL) (name := "java/lang/IllegalArgumentException") (E := "java/lang/IllegalArgumentException") hown [⟨0, 12, 15, 13⟩] ⟨0, 12, 19, 24⟩ [] (by rw [hTab]; rfl) (by
        intro z hz
        rcases List.mem_cons.mp hz with rfl | hz
        · exact Or.inr ⟨by decide, "java/lang/IllegalStateException", hbg _ kw_114, hXW0.2.2.2.1 ("java/lang/IllegalArgumentException", "java/lang/IllegalStateException") (by decide)⟩
        cases hz) (by decide) (by decide) (hbg _ kw_115) (va_Nw.use rfl (hXW0.1 "java/lang/IllegalArgumentException" (by decide))) hce hcv hcl ?_
      refine lv_astore (lv' := [(5, .ref q9), (0, .ref qA), (1, .int x1), (2, .int x2), (3, .int x3), (4, .ref qO)]) hx hb dL_back_19 hl (by decide) rfl (fun ls hl => ?_)
      refine lv_iconst (v := (2 : Int32)) hx hb dL_back_21 (by decide) ?_
      subst hQQ
      refine W.widen (k := 3) (n := 18) (Nat.le_of_ble_eq_true rfl) (Nat.le_of_ble_eq_true rfl) ?_
      exact W.iret (v := (2 : Int32)) hx hb hr (fun t ht hW => ⟨⟨(2 : Int32), (A_ring_x1, A_buffer_x1, A_firstPlace_x1, A_forcedPlace_x1, A_endPlace_x1, A_wordsToFailure_x1, A_opened_x1, O_v), rfl, hw, by rw [ht]; exact hP, va_K.moved hW.alike hK, hD⟩, hS.F ht⟩) hS.2.2 dL_back_22
  · obtain ⟨A_ring_1, A_buffer_1, A_firstPlace_1, A_forcedPlace_1, A_endPlace_1, A_wordsToFailure_1, A_opened_1⟩ := u_1
    obtain ⟨hP1, hK1, hD1⟩ := hB
    rw [ht] at hP1
    try dsimp only at hw
    obtain ⟨hP, hD⟩ := va_join (wr := [(qO, .inl (cO, 1, .inr (.inl O_v)))]) (w1 := [(qA, .inr (0, [.ref qA_ring, .ref qA_buffer, .int A_firstPlace_1, .int A_forcedPlace_1, .int A_endPlace_1, .int A_wordsToFailure_1, .int A_opened_1])), (qA_ring, .inl (cA_ring, 65536, .inl A_ring_1)), (qA_buffer, .inl (cA_buffer, 200, .inl A_buffer_1))]) hP hD [0, 1, 2] [3] rfl rfl (by decide) (by decide) hk1 hFc hP1 hD1
    have hP : va_P (dC, dI) vwCl [(qA, .inr (0, [.ref qA_ring, .ref qA_buffer, .int A_firstPlace_1, .int A_forcedPlace_1, .int A_endPlace_1, .int A_wordsToFailure_1, .int A_opened_1])), (qA_ring, .inl (cA_ring, 65536, .inl A_ring_1)), (qA_buffer, .inl (cA_buffer, 200, .inl A_buffer_1)), (qO, .inl (cO, 1, .inr (.inl O_v)))] H_1 := hP.sub [1, 2, 3, 0] rfl
    have hD : va_D A [(qA, .inr (0, [.ref qA_ring, .ref qA_buffer, .int A_firstPlace_1, .int A_forcedPlace_1, .int A_endPlace_1, .int A_wordsToFailure_1, .int A_opened_1])), (qA_ring, .inl (cA_ring, 65536, .inl A_ring_1)), (qA_buffer, .inl (cA_buffer, 200, .inl A_buffer_1)), (qO, .inl (cO, 1, .inr (.inl O_v)))] := hD.sub [1, 2, 3, 0] (by decide) rfl
    refine W.widen (k := 3) (n := 18) (Nat.le_of_ble_eq_true rfl) (Nat.le_of_ble_eq_true rfl) ?_
    refine lv_i2l (v := r_1.toInt64) hx hb dL_back_10 rfl ?_
    obtain ⟨h_2, hw⟩ := hw
    refine va_last hx hb hK hP hD hS 3 2 rfl rfl h_2 dL_back_11 (fun H_3 locs hP hD hS => ?_)
    have hP : va_P (dC, dI) vwCl [(qA, .inr (0, [.ref qA_ring, .ref qA_buffer, .int A_firstPlace_1, .int A_forcedPlace_1, .int A_endPlace_1, .int A_wordsToFailure_1, .int A_opened_1])), (qA_ring, .inl (cA_ring, 65536, .inl A_ring_1)), (qA_buffer, .inl (cA_buffer, 200, .inl A_buffer_1)), (qO, .inl (cO, 1, .inr (.inl (vp_updL O_v (0 : Int32).toNatClampNeg r_1.toInt64))))] H_3 := hP
    have hD : va_D A [(qA, .inr (0, [.ref qA_ring, .ref qA_buffer, .int A_firstPlace_1, .int A_forcedPlace_1, .int A_endPlace_1, .int A_wordsToFailure_1, .int A_opened_1])), (qA_ring, .inl (cA_ring, 65536, .inl A_ring_1)), (qA_buffer, .inl (cA_buffer, 200, .inl A_buffer_1)), (qO, .inl (cO, 1, .inr (.inl (vp_updL O_v (0 : Int32).toNatClampNeg r_1.toInt64))))] := hD
    refine lv_goto (tgt := 23) hx hb dL_back_12 (by decide) ?_
    refine lv_iconst (v := (0 : Int32)) hx hb dL_back_23 (by decide) ?_
    subst hQQ
    refine W.widen (k := 3) (n := 18) (Nat.le_of_ble_eq_true rfl) (Nat.le_of_ble_eq_true rfl) ?_
    exact W.iret (v := (0 : Int32)) hx hb hr (fun t ht hW => ⟨⟨(0 : Int32), (A_ring_1, A_buffer_1, A_firstPlace_1, A_forcedPlace_1, A_endPlace_1, A_wordsToFailure_1, A_opened_1, vp_updL O_v (0 : Int32).toNatClampNeg r_1.toInt64), rfl, hw, by rw [ht]; exact hP, va_K.moved hW.alike hK, hD⟩, hS.F ht⟩) hS.2.2 dL_back_24
end
section
/-! THE CLAIM OUT OF ONE WALK OF THE LAW'S BODY. Your part is whole_start (and what it stands on); all else here is the same for every law, but numbers. -/
def R_law : String := "LogBookLaw"
def lw_P (b : Addr) (xs : List Int32) (args : Array Value) (s : State) : Prop := args = #[.ref b] ∧ s.IntsAt b xs ∧ xs.length ≤ 2560 ∧ (Jvm.Cond.and given_1 narrow_1).before args s = true
def lw_Q (_ : Array Value) (s : State) (o : Outcome) (t : State) : Prop := o = .returned (some (.int 0)) ∧ Framed s o t [] 601024 7293034
def lw_Z (below : List Frame) (a : Array Value) (s : State) : State → Prop := fun t => ∃ o, t.status = .running ∧ Ended t below o ∧ lw_Q a s o t
/-- the law's own end, with 0 on the stack, nothing written that was there before, its room as the claim has it -/
theorem lw_ret {p : Program} {l : Launch} {e : Env} {s : State} {m : MethodId} {below : List Frame} {meth : Method} {c : Code} {b : Nat} (hx : p.tables.exec = Jvm.exec) (hb : c.code = code) (hr : meth.sig.returnType = ret) (hlocks : meth.locks = false) {pc : Nat} {H : Heap} {ls : Array Slot} (hdg : decode code pc = .ok (.ireturn, 1)) : W p l e room_1 s m #[Value.ref b] below meth c H [] 601024 7293034 (lw_Z below #[Value.ref b] s) (F0 m pc ls [.int 0]) := by
  intro T hT X
  obtain ⟨fs, hret, hrun, hended, hW, hframe⟩ := X.leave (v := some (.int 0)) (hlocks := hlocks) (fun h => by rw [hr] at h; cases h)
  have hmeth' : T.vm.method? m = some meth := X.method'
  refine ⟨T.setFrames fs, ?_, .returned (some (.int 0)), hrun, hended, rfl, ⟨_, rfl⟩, hW, hframe⟩
  jvm_step X.here [X.here.top, hx, hb, hdg, hmeth', hr, ret, narrow_b0]
  (try refine ⟨rfl, ?_⟩); (try refine ⟨rfl, ?_⟩)
  first | (intro acts; rw [hret _ acts rfl rfl rfl]) | rw [hret _ _ rfl rfl rfl]
  exact Steps.refl _
/-- what holds at the law's entry: the machine, the code, the tables' words (any of lw_tbl by 'hts w (by decide +kernel)'), the script of L ints xs at the cell b, what the Statement gives of the start (any of its parts by flat_of_before) -/
def lw_At (p : Program) (s : State) (m : MethodId) (meth : Method) (c : Code) (b L : Nat) (xs : Nat → Int32) : Prop :=
  p.tables.exec = Jvm.exec ∧ c.code = code ∧ meth.sig.returnType = ret ∧ c.maxLocals = 7 ∧ s.vm.findClass R_law = some m.cls ∧ (∀ w ∈ lw_tbl, w.before #[Value.ref b] s = true) ∧ va_X b L xs s s.heap ∧ b < s.heap.size ∧ meth.locks = false ∧ (Jvm.Cond.and given_1 narrow_1).before #[Value.ref b] s = true
end
section
theorem gIn {cd : Cond} (h5 : cd ∈ bigW) : GoodIn bigW (cd :: bigW) := fun w hw => by
  rcases List.mem_cons.mp hw with rfl | hw
  · exact ⟨h5, good_of_word (List.mem_filter.mp h5).2⟩
  · exact ⟨hw, good_of_word (List.mem_filter.mp hw).2⟩
theorem kw_120 : Cond.methodLink RL 94 yL_append ∈ bigW := big_in (List.mem_of_getElem? (i := 196) (by decide +kernel)) rfl
theorem kw_121 : Cond.static yL_append ∈ bigW := big_in (List.mem_of_getElem? (i := 197) (by decide +kernel)) rfl
theorem kw_122 : Cond.initialized RL ∈ bigW := big_in (List.mem_of_getElem? (i := 32) (by decide +kernel)) rfl
theorem kw_123 : Cond.codeWith yL_append cL_append 7 (some .int) [(0, 14, 17, 13), (0, 14, 21, 24)] ∈ bigW := big_in (List.mem_of_getElem? (i := 198) (by decide +kernel)) rfl
theorem kw_124 : Cond.methodLink RL 97 yX1_append ∈ bigW := big_in (List.mem_of_getElem? (i := 558) (by decide +kernel)) rfl
theorem kw_125 : Cond.instanceMethod yX1_append ∈ bigW := big_in (List.mem_of_getElem? (i := 559) (by decide +kernel)) rfl
theorem kw_126 : Cond.selects RX1 yX1_append yX1_append ∈ bigW := big_in (List.mem_of_getElem? (i := 560) (by decide +kernel)) rfl
theorem kw_127 : Cond.code yX1_append cX1_append 7 (some .int) ∈ bigW := big_in (List.mem_of_getElem? (i := 561) (by decide +kernel)) rfl
theorem kw_128 : Cond.methodLink RL 134 yL_back ∈ bigW := big_in (List.mem_of_getElem? (i := 390) (by decide +kernel)) rfl
theorem kw_129 : Cond.static yL_back ∈ bigW := big_in (List.mem_of_getElem? (i := 391) (by decide +kernel)) rfl
theorem kw_130 : Cond.codeWith yL_back cL_back 6 (some .int) [(0, 12, 15, 13), (0, 12, 19, 24)] ∈ bigW := big_in (List.mem_of_getElem? (i := 392) (by decide +kernel)) rfl
theorem kw_131 : Cond.methodLink RL 137 yX1_back ∈ bigW := big_in (List.mem_of_getElem? (i := 626) (by decide +kernel)) rfl
theorem kw_132 : Cond.instanceMethod yX1_back ∈ bigW := big_in (List.mem_of_getElem? (i := 627) (by decide +kernel)) rfl
theorem kw_133 : Cond.selects RX1 yX1_back yX1_back ∈ bigW := big_in (List.mem_of_getElem? (i := 628) (by decide +kernel)) rfl
theorem kw_134 : Cond.code yX1_back cX1_back 7 (some .int) ∈ bigW := big_in (List.mem_of_getElem? (i := 629) (by decide +kernel)) rfl
theorem kw_135 : Cond.methodLink RL 138 yX1_thrown ∈ bigW := big_in (List.mem_of_getElem? (i := 511) (by decide +kernel)) rfl
theorem kw_136 : Cond.instanceMethod yX1_thrown ∈ bigW := big_in (List.mem_of_getElem? (i := 512) (by decide +kernel)) rfl
theorem kw_137 : Cond.selects RX1 yX1_thrown yX1_thrown ∈ bigW := big_in (List.mem_of_getElem? (i := 513) (by decide +kernel)) rfl
theorem kw_138 : Cond.code yX1_thrown cX1_thrown 1 (some .int) ∈ bigW := big_in (List.mem_of_getElem? (i := 514) (by decide +kernel)) rfl
theorem kw_139 : Cond.instantiable RX0 7 ∈ bigW := big_in (List.mem_of_getElem? (i := 44) (by decide +kernel)) rfl
theorem kw_140 : Cond.instantiable RX1 19 ∈ bigW := big_in (List.mem_of_getElem? (i := 446) (by decide +kernel)) rfl
theorem kw_141 : Cond.classLink RL 8 RX0 ∈ bigW := big_in (List.mem_of_getElem? (i := 43) (by decide +kernel)) rfl
theorem kw_142 : Cond.code yX0_init cX0_init 1 none ∈ bigW := big_in (List.mem_of_getElem? (i := 47) (by decide +kernel)) rfl
theorem kw_143 : Cond.methodLink RL 81 yX0_init ∈ bigW := big_in (List.mem_of_getElem? (i := 45) (by decide +kernel)) rfl
theorem kw_144 : Cond.instanceMethod yX0_init ∈ bigW := big_in (List.mem_of_getElem? (i := 46) (by decide +kernel)) rfl
theorem kw_145 : Cond.classLink RL 82 RX1 ∈ bigW := big_in (List.mem_of_getElem? (i := 445) (by decide +kernel)) rfl
theorem kw_146 : Cond.code yX1_init cX1_init 1 none ∈ bigW := big_in (List.mem_of_getElem? (i := 449) (by decide +kernel)) rfl
theorem kw_147 : Cond.methodLink RL 84 yX1_init ∈ bigW := big_in (List.mem_of_getElem? (i := 447) (by decide +kernel)) rfl
theorem kw_148 : Cond.instanceMethod yX1_init ∈ bigW := big_in (List.mem_of_getElem? (i := 448) (by decide +kernel)) rfl
theorem kw_149 : Cond.arrayClass .long ∈ bigW := big_in (List.mem_of_getElem? (i := 638) (by decide +kernel)) rfl
theorem g_RL_94 : GoodIn bigW (va_wsS RL 94 yL_append wsL_append) := gS kw_120 kw_121 kw_122 kw_123
theorem g_RL_97 : GoodIn bigW (wsV RL 97 RX1 yX1_append wsX1_append) := gV kw_124 kw_125 kw_126 kw_73 kw_127
theorem g_RL_134 : GoodIn bigW (va_wsS RL 134 yL_back wsL_back) := gS kw_128 kw_129 kw_122 kw_130
theorem g_RL_137 : GoodIn bigW (wsV RL 137 RX1 yX1_back wsX1_back) := gV kw_131 kw_132 kw_133 kw_73 kw_134
theorem g_RL_138 : GoodIn bigW (wsV RL 138 RX1 yX1_thrown wsX1_thrown) := gV kw_135 kw_136 kw_137 kw_73 kw_138
theorem gI_X0_init : GoodIn bigW wsX0_init := gIn kw_142
theorem gI_X1_init : GoodIn bigW wsX1_init := gIn kw_146
end
section
def wk_2 (J : St_ABO → Prop) (L : Nat) (xs : Nat → Int32) (y4 : Int32) (A_ring : Nat → Int32) (A_buffer : Nat → Int32) (A_firstPlace : Int32) (A_forcedPlace : Int32) (A_endPlace : Int32) (A_wordsToFailure : Int32) (A_opened : Int32) (B_thrown : Int32) (B_buffer : Nat → Int32) (B_words : Nat → Int32) (B_serials : Nat → Int32) (B_lengths : Nat → Int32) (B_kinds : Nat → Int32) (B_owners : Nat → Int32) (B_olders : Nat → Int32) (B_links : Nat → Int32) (B_voids : Nat → Int32) (B_base : Int32) (B_count : Int32) (B_first : Int32) (B_forced : Int32) (B_end : Int32) (B_closed : Int32) (B_left : Int32) (B_begun : Int32) (B_begunLength : Int32) (O_v : Nat → Int64) : Prop :=
  vp_in (y4 + (1 : Int32)) L ∧ (vp_in (y4 + (2 : Int32)) L ∧ (vp_in (y4 + (3 : Int32)) L ∧ (vp_in (y4 + (4 : Int32)) L ∧ (wp_L_append (fun r_5 u_5 => match u_5 with | (A_ring_5, A_buffer_5, A_firstPlace_5, A_forcedPlace_5, A_endPlace_5, A_wordsToFailure_5, A_opened_5, O_v_5) => vp_in (y4 + (1 : Int32)) L ∧ (vp_in (y4 + (2 : Int32)) L ∧ (vp_in (y4 + (3 : Int32)) L ∧ (vp_in (y4 + (4 : Int32)) L ∧ (wp_X1_append (fun r_10 u_10 => match u_10 with | (B_thrown_10, B_buffer_10, B_words_10, B_serials_10, B_lengths_10, B_kinds_10, B_owners_10, B_olders_10, B_links_10, B_voids_10, B_base_10, B_count_10, B_first_10, B_forced_10, B_end_10, B_closed_10, B_left_10, B_begun_10, B_begunLength_10) => J (A_ring_5, A_buffer_5, A_firstPlace_5, A_forcedPlace_5, A_endPlace_5, A_wordsToFailure_5, A_opened_5, B_thrown_10, B_buffer_10, B_words_10, B_serials_10, B_lengths_10, B_kinds_10, B_owners_10, B_olders_10, B_links_10, B_voids_10, B_base_10, B_count_10, B_first_10, B_forced_10, B_end_10, B_closed_10, B_left_10, B_begun_10, B_begunLength_10, O_v_5)) (xs (y4 + (1 : Int32)).toNatClampNeg) (xs (y4 + (2 : Int32)).toNatClampNeg) (xs (y4 + (3 : Int32)).toNatClampNeg) (xs (y4 + (4 : Int32)).toNatClampNeg) B_thrown B_buffer B_words B_serials B_lengths B_kinds B_owners B_olders B_links B_voids B_base B_count B_first B_forced B_end B_closed B_left B_begun B_begunLength))))) (xs (y4 + (1 : Int32)).toNatClampNeg) (xs (y4 + (2 : Int32)).toNatClampNeg) (xs (y4 + (3 : Int32)).toNatClampNeg) (xs (y4 + (4 : Int32)).toNatClampNeg) A_ring A_buffer A_firstPlace A_forcedPlace A_endPlace A_wordsToFailure A_opened O_v))))
set_option maxHeartbeats 8000000 in
set_option maxRecDepth 100000 in
theorem lc_2 {p : Program} {l : Launch} {e : Env} {s : State} {m : MethodId} {below : List Frame} {meth : Method} {c : Code} (hl9 : l.stackTraces = false) {b L : Nat} {xs : Nat → Int32} (C0 : lw_At p s m meth c b L xs) {A : Nat → Prop} (hAe : ∀ q : Nat, A q → s.heap.size ≤ q) (hA : ∀ q : Nat, s.heap.size ≤ q → A q) (hbA : ¬ A b) (hXW0 : XW A s) {dC : Nat → ClassId} {dI : Nat → Nat → Nat} {qA qA_ring qA_buffer qB qB_buffer qB_words qB_serials qB_lengths qB_kinds qB_owners qB_olders qB_links qB_voids qO : Nat} {cA_ring cA_buffer cB_buffer cB_words cB_serials cB_lengths cB_kinds cB_owners cB_olders cB_links cB_voids cO : ClassId} (hK : va_K (dC, dI) vwCl [(cA_ring, .int), (cA_buffer, .int), (cB_buffer, .int), (cB_words, .int), (cB_serials, .int), (cB_lengths, .int), (cB_kinds, .int), (cB_owners, .int), (cB_olders, .int), (cB_links, .int), (cB_voids, .boolean), (cO, .long)] s) {kc ks : Nat} (hkc : kc + 3 ≤ 601024) (hks : ks + 18 ≤ 7293034) (y4 : Int32) (J : St_ABO → Prop)
    (hJ : ∀ (A_ring : Nat → Int32) (A_buffer : Nat → Int32) (A_firstPlace : Int32) (A_forcedPlace : Int32) (A_endPlace : Int32) (A_wordsToFailure : Int32) (A_opened : Int32) (B_thrown : Int32) (B_buffer : Nat → Int32) (B_words : Nat → Int32) (B_serials : Nat → Int32) (B_lengths : Nat → Int32) (B_kinds : Nat → Int32) (B_owners : Nat → Int32) (B_olders : Nat → Int32) (B_links : Nat → Int32) (B_voids : Nat → Int32) (B_base : Int32) (B_count : Int32) (B_first : Int32) (B_forced : Int32) (B_end : Int32) (B_closed : Int32) (B_left : Int32) (B_begun : Int32) (B_begunLength : Int32) (O_v : Nat → Int64) (H : Heap) (locs : List Loc), J (A_ring, A_buffer, A_firstPlace, A_forcedPlace, A_endPlace, A_wordsToFailure, A_opened, B_thrown, B_buffer, B_words, B_serials, B_lengths, B_kinds, B_owners, B_olders, B_links, B_voids, B_base, B_count, B_first, B_forced, B_end, B_closed, B_left, B_begun, B_begunLength, O_v) → va_P (dC, dI) vwCl [(qA, .inr (0, [.ref qA_ring, .ref qA_buffer, .int A_firstPlace, .int A_forcedPlace, .int A_endPlace, .int A_wordsToFailure, .int A_opened])), (qA_ring, .inl (cA_ring, 65536, .inl A_ring)), (qA_buffer, .inl (cA_buffer, 200, .inl A_buffer)), (qB, .inr (1, [.int B_thrown, .ref qB_buffer, .ref qB_words, .ref qB_serials, .ref qB_lengths, .ref qB_kinds, .ref qB_owners, .ref qB_olders, .ref qB_links, .ref qB_voids, .int B_base, .int B_count, .int B_first, .int B_forced, .int B_end, .int B_closed, .int B_left, .int B_begun, .int B_begunLength])), (qB_buffer, .inl (cB_buffer, 200, .inl B_buffer)), (qB_words, .inl (cB_words, 65536, .inl B_words)), (qB_serials, .inl (cB_serials, 4400, .inl B_serials)), (qB_lengths, .inl (cB_lengths, 4400, .inl B_lengths)), (qB_kinds, .inl (cB_kinds, 4400, .inl B_kinds)), (qB_owners, .inl (cB_owners, 4400, .inl B_owners)), (qB_olders, .inl (cB_olders, 4400, .inl B_olders)), (qB_links, .inl (cB_links, 4400, .inl B_links)), (qB_voids, .inl (cB_voids, 4400, .inl B_voids)), (qO, .inl (cO, 1, .inr (.inl O_v)))] H → va_D A [(qA, .inr (0, [.ref qA_ring, .ref qA_buffer, .int A_firstPlace, .int A_forcedPlace, .int A_endPlace, .int A_wordsToFailure, .int A_opened])), (qA_ring, .inl (cA_ring, 65536, .inl A_ring)), (qA_buffer, .inl (cA_buffer, 200, .inl A_buffer)), (qB, .inr (1, [.int B_thrown, .ref qB_buffer, .ref qB_words, .ref qB_serials, .ref qB_lengths, .ref qB_kinds, .ref qB_owners, .ref qB_olders, .ref qB_links, .ref qB_voids, .int B_base, .int B_count, .int B_first, .int B_forced, .int B_end, .int B_closed, .int B_left, .int B_begun, .int B_begunLength])), (qB_buffer, .inl (cB_buffer, 200, .inl B_buffer)), (qB_words, .inl (cB_words, 65536, .inl B_words)), (qB_serials, .inl (cB_serials, 4400, .inl B_serials)), (qB_lengths, .inl (cB_lengths, 4400, .inl B_lengths)), (qB_kinds, .inl (cB_kinds, 4400, .inl B_kinds)), (qB_owners, .inl (cB_owners, 4400, .inl B_owners)), (qB_olders, .inl (cB_olders, 4400, .inl B_olders)), (qB_links, .inl (cB_links, 4400, .inl B_links)), (qB_voids, .inl (cB_voids, 4400, .inl B_voids)), (qO, .inl (cO, 1, .inr (.inl O_v)))] → va_S A s.heap H locs → ∀ ls : Array Slot, lv_has ls 7 [(0, .ref b), (1, .ref qA), (2, .ref qB), (3, .ref qO), (4, .int y4)] → W p l e room_1 s m #[Value.ref b] below meth c H locs (kc + 3) (ks + 18) (lw_Z below #[Value.ref b] s) (F0 m 749 ls []))
    (A_ring : Nat → Int32) (A_buffer : Nat → Int32) (A_firstPlace : Int32) (A_forcedPlace : Int32) (A_endPlace : Int32) (A_wordsToFailure : Int32) (A_opened : Int32) (B_thrown : Int32) (B_buffer : Nat → Int32) (B_words : Nat → Int32) (B_serials : Nat → Int32) (B_lengths : Nat → Int32) (B_kinds : Nat → Int32) (B_owners : Nat → Int32) (B_olders : Nat → Int32) (B_links : Nat → Int32) (B_voids : Nat → Int32) (B_base : Int32) (B_count : Int32) (B_first : Int32) (B_forced : Int32) (B_end : Int32) (B_closed : Int32) (B_left : Int32) (B_begun : Int32) (B_begunLength : Int32) (O_v : Nat → Int64) (H : Heap) (locs : List Loc) (hw : wk_2 J L xs y4 A_ring A_buffer A_firstPlace A_forcedPlace A_endPlace A_wordsToFailure A_opened B_thrown B_buffer B_words B_serials B_lengths B_kinds B_owners B_olders B_links B_voids B_base B_count B_first B_forced B_end B_closed B_left B_begun B_begunLength O_v) (hP : va_P (dC, dI) vwCl [(qA, .inr (0, [.ref qA_ring, .ref qA_buffer, .int A_firstPlace, .int A_forcedPlace, .int A_endPlace, .int A_wordsToFailure, .int A_opened])), (qA_ring, .inl (cA_ring, 65536, .inl A_ring)), (qA_buffer, .inl (cA_buffer, 200, .inl A_buffer)), (qB, .inr (1, [.int B_thrown, .ref qB_buffer, .ref qB_words, .ref qB_serials, .ref qB_lengths, .ref qB_kinds, .ref qB_owners, .ref qB_olders, .ref qB_links, .ref qB_voids, .int B_base, .int B_count, .int B_first, .int B_forced, .int B_end, .int B_closed, .int B_left, .int B_begun, .int B_begunLength])), (qB_buffer, .inl (cB_buffer, 200, .inl B_buffer)), (qB_words, .inl (cB_words, 65536, .inl B_words)), (qB_serials, .inl (cB_serials, 4400, .inl B_serials)), (qB_lengths, .inl (cB_lengths, 4400, .inl B_lengths)), (qB_kinds, .inl (cB_kinds, 4400, .inl B_kinds)), (qB_owners, .inl (cB_owners, 4400, .inl B_owners)), (qB_olders, .inl (cB_olders, 4400, .inl B_olders)), (qB_links, .inl (cB_links, 4400, .inl B_links)), (qB_voids, .inl (cB_voids, 4400, .inl B_voids)), (qO, .inl (cO, 1, .inr (.inl O_v)))] H) (hD : va_D A [(qA, .inr (0, [.ref qA_ring, .ref qA_buffer, .int A_firstPlace, .int A_forcedPlace, .int A_endPlace, .int A_wordsToFailure, .int A_opened])), (qA_ring, .inl (cA_ring, 65536, .inl A_ring)), (qA_buffer, .inl (cA_buffer, 200, .inl A_buffer)), (qB, .inr (1, [.int B_thrown, .ref qB_buffer, .ref qB_words, .ref qB_serials, .ref qB_lengths, .ref qB_kinds, .ref qB_owners, .ref qB_olders, .ref qB_links, .ref qB_voids, .int B_base, .int B_count, .int B_first, .int B_forced, .int B_end, .int B_closed, .int B_left, .int B_begun, .int B_begunLength])), (qB_buffer, .inl (cB_buffer, 200, .inl B_buffer)), (qB_words, .inl (cB_words, 65536, .inl B_words)), (qB_serials, .inl (cB_serials, 4400, .inl B_serials)), (qB_lengths, .inl (cB_lengths, 4400, .inl B_lengths)), (qB_kinds, .inl (cB_kinds, 4400, .inl B_kinds)), (qB_owners, .inl (cB_owners, 4400, .inl B_owners)), (qB_olders, .inl (cB_olders, 4400, .inl B_olders)), (qB_links, .inl (cB_links, 4400, .inl B_links)), (qB_voids, .inl (cB_voids, 4400, .inl B_voids)), (qO, .inl (cO, 1, .inr (.inl O_v)))]) (hS : va_S A s.heap H locs) (ls : Array Slot) (hl : lv_has ls 7 [(0, .ref b), (1, .ref qA), (2, .ref qB), (3, .ref qO), (4, .int y4)]) :
    W p l e room_1 s m #[Value.ref b] below meth c H locs kc ks (lw_Z below #[Value.ref b] s) (F0 m 210 ls []) := by
  obtain ⟨hx, hb, hr, hml, hown, hts, hX, hbl, hlocks, hgv⟩ := C0
  have hown : s.vm.findClass RL = some m.cls := hown
  have hbg : ∀ w ∈ bigW, w.before #[Value.ref b] s = true := fun w h => hts w (List.mem_filter.mp h).1
  unfold wk_2 at hw
  refine lv_aload_n hx hb dL_law_210 rfl (lv_at hl 1 rfl) ?_
  refine lv_aload_n hx hb dL_law_211 rfl (lv_at hl 0 rfl) ?_
  refine lv_iload hx hb dL_law_212 (lv_at hl 4 rfl) ?_
  refine lv_iconst (v := (1 : Int32)) hx hb dL_law_214 (by decide) ?_
  refine lv_iadd hx hb dL_law_215 ?_
  obtain ⟨h_1, hw⟩ := hw
  refine va_sld hx hb hX hbl hbA hS h_1 dL_law_216 ?_
  refine lv_aload_n hx hb dL_law_217 rfl (lv_at hl 0 rfl) ?_
  refine lv_iload hx hb dL_law_218 (lv_at hl 4 rfl) ?_
  refine lv_iconst (v := (2 : Int32)) hx hb dL_law_220 (by decide) ?_
  refine lv_iadd hx hb dL_law_221 ?_
  obtain ⟨h_2, hw⟩ := hw
  refine va_sld hx hb hX hbl hbA hS h_2 dL_law_222 ?_
  refine lv_aload_n hx hb dL_law_223 rfl (lv_at hl 0 rfl) ?_
  refine lv_iload hx hb dL_law_224 (lv_at hl 4 rfl) ?_
  refine lv_iconst (v := (3 : Int32)) hx hb dL_law_226 (by decide) ?_
  refine lv_iadd hx hb dL_law_227 ?_
  obtain ⟨h_3, hw⟩ := hw
  refine va_sld hx hb hX hbl hbA hS h_3 dL_law_228 ?_
  refine lv_aload_n hx hb dL_law_229 rfl (lv_at hl 0 rfl) ?_
  refine lv_iload hx hb dL_law_230 (lv_at hl 4 rfl) ?_
  refine lv_iconst (v := (4 : Int32)) hx hb dL_law_232 (by decide) ?_
  refine lv_iadd hx hb dL_law_233 ?_
  obtain ⟨h_4, hw⟩ := hw
  refine va_sld hx hb hX hbl hbA hS h_4 dL_law_234 ?_
  refine lv_aload_n hx hb dL_law_235 rfl (lv_at hl 3 rfl) ?_
  have hPc := hP.sub (ws' := [(qA, .inr (0, [.ref qA_ring, .ref qA_buffer, .int A_firstPlace, .int A_forcedPlace, .int A_endPlace, .int A_wordsToFailure, .int A_opened])), (qA_ring, .inl (cA_ring, 65536, .inl A_ring)), (qA_buffer, .inl (cA_buffer, 200, .inl A_buffer)), (qO, .inl (cO, 1, .inr (.inl O_v)))]) [0, 1, 2, 13] rfl
  have hKc := hK.sub (tys' := [(cA_ring, .int), (cA_buffer, .int), (cO, .long)]) [0, 1, 11] rfl
  have hDc := hD.sub (ws' := [(qA, .inr (0, [.ref qA_ring, .ref qA_buffer, .int A_firstPlace, .int A_forcedPlace, .int A_endPlace, .int A_wordsToFailure, .int A_opened])), (qA_ring, .inl (cA_ring, 65536, .inl A_ring)), (qA_buffer, .inl (cA_buffer, 200, .inl A_buffer)), (qO, .inl (cO, 1, .inr (.inl O_v)))]) [0, 1, 2, 13] (by decide) rfl
  have hFc := va_free (wc := [(qA, .inr (0, [.ref qA_ring, .ref qA_buffer, .int A_firstPlace, .int A_forcedPlace, .int A_endPlace, .int A_wordsToFailure, .int A_opened])), (qA_ring, .inl (cA_ring, 65536, .inl A_ring)), (qA_buffer, .inl (cA_buffer, 200, .inl A_buffer)), (qO, .inl (cO, 1, .inr (.inl O_v)))]) hD hS hA [0, 1, 2, 13] rfl
  refine va_calli (vx_runSW (As := [.ref qA, .int (xs (y4 + (1 : Int32)).toNatClampNeg), .int (xs (y4 + (2 : Int32)).toNatClampNeg), .int (xs (y4 + (3 : Int32)).toNatClampNeg), .int (xs (y4 + (4 : Int32)).toNatClampNeg), .ref qO]) (rest := []) ⟨hx, hb, hml, hown, hbg⟩ (met_L_append l hl9 dC dI qA qA_ring qA_buffer qO cA_ring cA_buffer cO H.size A_ring A_buffer A_firstPlace A_forcedPlace A_endPlace A_wordsToFailure A_opened O_v (xs (y4 + (1 : Int32)).toNatClampNeg) (xs (y4 + (2 : Int32)).toNatClampNeg) (xs (y4 + (3 : Int32)).toNatClampNeg) (xs (y4 + (4 : Int32)).toNatClampNeg) _ hw) (vx_cwSW 6 hbg g_RL_94 rfl rfl rfl (by decide +kernel) ⟨Nat.le_of_ble_eq_true rfl, Nat.le_of_ble_eq_true rfl⟩) ⟨pcX_AO_b _ _ _ _ _ _ _ _ _ _ _ _ _ _ _ _ _ _ _, fun U hU hW => ⟨rfl, by rw [hU], by rw [hU]; exact hPc, va_K.moved hW.alike hKc, hDc.weaken (fun _ _ _ _ => trivial), XW.go hXW0 hS hFc hU hW⟩⟩ rfl rfl hl.1 rfl (lv_room (Nat.le_of_ble_eq_true rfl)) dL_law_236 ⟨by show kc + 3 ≤ 601024; omega, by show ks + 18 ≤ 7293034; omega⟩) hS (fun q _ h => hFc q h) hFc (fun r_5 u_5 t_5 H_5 locs ht hvm hw hB hz1 hk1 hS => ?_)
  obtain ⟨A_ring_5, A_buffer_5, A_firstPlace_5, A_forcedPlace_5, A_endPlace_5, A_wordsToFailure_5, A_opened_5, O_v_5⟩ := u_5
  obtain ⟨hP1, hK1, hD1⟩ := hB
  rw [ht] at hP1
  try dsimp only at hw
  obtain ⟨hP, hD⟩ := va_join (wr := [(qB, .inr (1, [.int B_thrown, .ref qB_buffer, .ref qB_words, .ref qB_serials, .ref qB_lengths, .ref qB_kinds, .ref qB_owners, .ref qB_olders, .ref qB_links, .ref qB_voids, .int B_base, .int B_count, .int B_first, .int B_forced, .int B_end, .int B_closed, .int B_left, .int B_begun, .int B_begunLength])), (qB_buffer, .inl (cB_buffer, 200, .inl B_buffer)), (qB_words, .inl (cB_words, 65536, .inl B_words)), (qB_serials, .inl (cB_serials, 4400, .inl B_serials)), (qB_lengths, .inl (cB_lengths, 4400, .inl B_lengths)), (qB_kinds, .inl (cB_kinds, 4400, .inl B_kinds)), (qB_owners, .inl (cB_owners, 4400, .inl B_owners)), (qB_olders, .inl (cB_olders, 4400, .inl B_olders)), (qB_links, .inl (cB_links, 4400, .inl B_links)), (qB_voids, .inl (cB_voids, 4400, .inl B_voids))]) (w1 := [(qA, .inr (0, [.ref qA_ring, .ref qA_buffer, .int A_firstPlace_5, .int A_forcedPlace_5, .int A_endPlace_5, .int A_wordsToFailure_5, .int A_opened_5])), (qA_ring, .inl (cA_ring, 65536, .inl A_ring_5)), (qA_buffer, .inl (cA_buffer, 200, .inl A_buffer_5)), (qO, .inl (cO, 1, .inr (.inl O_v_5)))]) hP hD [0, 1, 2, 13] [3, 4, 5, 6, 7, 8, 9, 10, 11, 12] rfl rfl (by decide) (by decide) hk1 hFc hP1 hD1
  have hP : va_P (dC, dI) vwCl [(qA, .inr (0, [.ref qA_ring, .ref qA_buffer, .int A_firstPlace_5, .int A_forcedPlace_5, .int A_endPlace_5, .int A_wordsToFailure_5, .int A_opened_5])), (qA_ring, .inl (cA_ring, 65536, .inl A_ring_5)), (qA_buffer, .inl (cA_buffer, 200, .inl A_buffer_5)), (qB, .inr (1, [.int B_thrown, .ref qB_buffer, .ref qB_words, .ref qB_serials, .ref qB_lengths, .ref qB_kinds, .ref qB_owners, .ref qB_olders, .ref qB_links, .ref qB_voids, .int B_base, .int B_count, .int B_first, .int B_forced, .int B_end, .int B_closed, .int B_left, .int B_begun, .int B_begunLength])), (qB_buffer, .inl (cB_buffer, 200, .inl B_buffer)), (qB_words, .inl (cB_words, 65536, .inl B_words)), (qB_serials, .inl (cB_serials, 4400, .inl B_serials)), (qB_lengths, .inl (cB_lengths, 4400, .inl B_lengths)), (qB_kinds, .inl (cB_kinds, 4400, .inl B_kinds)), (qB_owners, .inl (cB_owners, 4400, .inl B_owners)), (qB_olders, .inl (cB_olders, 4400, .inl B_olders)), (qB_links, .inl (cB_links, 4400, .inl B_links)), (qB_voids, .inl (cB_voids, 4400, .inl B_voids)), (qO, .inl (cO, 1, .inr (.inl O_v_5)))] H_5 := hP.sub [10, 11, 12, 0, 1, 2, 3, 4, 5, 6, 7, 8, 9, 13] rfl
  have hD : va_D A [(qA, .inr (0, [.ref qA_ring, .ref qA_buffer, .int A_firstPlace_5, .int A_forcedPlace_5, .int A_endPlace_5, .int A_wordsToFailure_5, .int A_opened_5])), (qA_ring, .inl (cA_ring, 65536, .inl A_ring_5)), (qA_buffer, .inl (cA_buffer, 200, .inl A_buffer_5)), (qB, .inr (1, [.int B_thrown, .ref qB_buffer, .ref qB_words, .ref qB_serials, .ref qB_lengths, .ref qB_kinds, .ref qB_owners, .ref qB_olders, .ref qB_links, .ref qB_voids, .int B_base, .int B_count, .int B_first, .int B_forced, .int B_end, .int B_closed, .int B_left, .int B_begun, .int B_begunLength])), (qB_buffer, .inl (cB_buffer, 200, .inl B_buffer)), (qB_words, .inl (cB_words, 65536, .inl B_words)), (qB_serials, .inl (cB_serials, 4400, .inl B_serials)), (qB_lengths, .inl (cB_lengths, 4400, .inl B_lengths)), (qB_kinds, .inl (cB_kinds, 4400, .inl B_kinds)), (qB_owners, .inl (cB_owners, 4400, .inl B_owners)), (qB_olders, .inl (cB_olders, 4400, .inl B_olders)), (qB_links, .inl (cB_links, 4400, .inl B_links)), (qB_voids, .inl (cB_voids, 4400, .inl B_voids)), (qO, .inl (cO, 1, .inr (.inl O_v_5)))] := hD.sub [10, 11, 12, 0, 1, 2, 3, 4, 5, 6, 7, 8, 9, 13] (by decide) rfl
  refine W.widen (k := kc + 3) (n := ks + 18) (by omega) (by omega) ?_
  refine lv_istore (lv' := [(5, .int r_5), (0, .ref b), (1, .ref qA), (2, .ref qB), (3, .ref qO), (4, .int y4)]) hx hb dL_law_239 hl (by decide) rfl (fun ls hl => ?_)
  refine lv_aload_n hx hb dL_law_241 rfl (lv_at hl 3 rfl) ?_
  refine lv_aload_n hx hb dL_law_242 rfl (lv_at hl 1 rfl) ?_
  refine lv_iload hx hb dL_law_243 (lv_at hl 5 rfl) ?_
  refine lv_iconst (v := (1 : Int32)) hx hb dL_law_245 (by decide) ?_
  refine lv_iadd hx hb dL_law_246 ?_
  obtain ⟨h_6, hw⟩ := hw
  refine va_sld hx hb hX hbl hbA hS h_6 dL_law_247 ?_
  refine lv_aload_n hx hb dL_law_248 rfl (lv_at hl 1 rfl) ?_
  refine lv_iload hx hb dL_law_249 (lv_at hl 5 rfl) ?_
  refine lv_iconst (v := (2 : Int32)) hx hb dL_law_251 (by decide) ?_
  refine lv_iadd hx hb dL_law_252 ?_
  obtain ⟨h_7, hw⟩ := hw
  refine va_sld hx hb hX hbl hbA hS h_7 dL_law_253 ?_
  refine lv_aload_n hx hb dL_law_254 rfl (lv_at hl 1 rfl) ?_
  refine lv_iload hx hb dL_law_255 (lv_at hl 5 rfl) ?_
  refine lv_iconst (v := (3 : Int32)) hx hb dL_law_257 (by decide) ?_
  refine lv_iadd hx hb dL_law_258 ?_
  obtain ⟨h_8, hw⟩ := hw
  refine va_sld hx hb hX hbl hbA hS h_8 dL_law_259 ?_
  refine lv_aload_n hx hb dL_law_260 rfl (lv_at hl 1 rfl) ?_
  refine lv_iload hx hb dL_law_261 (lv_at hl 5 rfl) ?_
  refine lv_iconst (v := (4 : Int32)) hx hb dL_law_263 (by decide) ?_
  refine lv_iadd hx hb dL_law_264 ?_
  obtain ⟨h_9, hw⟩ := hw
  refine va_sld hx hb hX hbl hbA hS h_9 dL_law_265 ?_
  have hPc := hP.sub (ws' := [(qB, .inr (1, [.int B_thrown, .ref qB_buffer, .ref qB_words, .ref qB_serials, .ref qB_lengths, .ref qB_kinds, .ref qB_owners, .ref qB_olders, .ref qB_links, .ref qB_voids, .int B_base, .int B_count, .int B_first, .int B_forced, .int B_end, .int B_closed, .int B_left, .int B_begun, .int B_begunLength])), (qB_buffer, .inl (cB_buffer, 200, .inl B_buffer)), (qB_words, .inl (cB_words, 65536, .inl B_words)), (qB_serials, .inl (cB_serials, 4400, .inl B_serials)), (qB_lengths, .inl (cB_lengths, 4400, .inl B_lengths)), (qB_kinds, .inl (cB_kinds, 4400, .inl B_kinds)), (qB_owners, .inl (cB_owners, 4400, .inl B_owners)), (qB_olders, .inl (cB_olders, 4400, .inl B_olders)), (qB_links, .inl (cB_links, 4400, .inl B_links)), (qB_voids, .inl (cB_voids, 4400, .inl B_voids))]) [3, 4, 5, 6, 7, 8, 9, 10, 11, 12] rfl
  have hKc := hK.sub (tys' := [(cB_buffer, .int), (cB_words, .int), (cB_serials, .int), (cB_lengths, .int), (cB_kinds, .int), (cB_owners, .int), (cB_olders, .int), (cB_links, .int), (cB_voids, .boolean)]) [2, 3, 4, 5, 6, 7, 8, 9, 10] rfl
  have hDc := hD.sub (ws' := [(qB, .inr (1, [.int B_thrown, .ref qB_buffer, .ref qB_words, .ref qB_serials, .ref qB_lengths, .ref qB_kinds, .ref qB_owners, .ref qB_olders, .ref qB_links, .ref qB_voids, .int B_base, .int B_count, .int B_first, .int B_forced, .int B_end, .int B_closed, .int B_left, .int B_begun, .int B_begunLength])), (qB_buffer, .inl (cB_buffer, 200, .inl B_buffer)), (qB_words, .inl (cB_words, 65536, .inl B_words)), (qB_serials, .inl (cB_serials, 4400, .inl B_serials)), (qB_lengths, .inl (cB_lengths, 4400, .inl B_lengths)), (qB_kinds, .inl (cB_kinds, 4400, .inl B_kinds)), (qB_owners, .inl (cB_owners, 4400, .inl B_owners)), (qB_olders, .inl (cB_olders, 4400, .inl B_olders)), (qB_links, .inl (cB_links, 4400, .inl B_links)), (qB_voids, .inl (cB_voids, 4400, .inl B_voids))]) [3, 4, 5, 6, 7, 8, 9, 10, 11, 12] (by decide) rfl
  have hFc := va_free (wc := [(qB, .inr (1, [.int B_thrown, .ref qB_buffer, .ref qB_words, .ref qB_serials, .ref qB_lengths, .ref qB_kinds, .ref qB_owners, .ref qB_olders, .ref qB_links, .ref qB_voids, .int B_base, .int B_count, .int B_first, .int B_forced, .int B_end, .int B_closed, .int B_left, .int B_begun, .int B_begunLength])), (qB_buffer, .inl (cB_buffer, 200, .inl B_buffer)), (qB_words, .inl (cB_words, 65536, .inl B_words)), (qB_serials, .inl (cB_serials, 4400, .inl B_serials)), (qB_lengths, .inl (cB_lengths, 4400, .inl B_lengths)), (qB_kinds, .inl (cB_kinds, 4400, .inl B_kinds)), (qB_owners, .inl (cB_owners, 4400, .inl B_owners)), (qB_olders, .inl (cB_olders, 4400, .inl B_olders)), (qB_links, .inl (cB_links, 4400, .inl B_links)), (qB_voids, .inl (cB_voids, 4400, .inl B_voids))]) hD hS hA [3, 4, 5, 6, 7, 8, 9, 10, 11, 12] rfl
  refine va_calli (va_runV (As := [.int (xs (y4 + (1 : Int32)).toNatClampNeg), .int (xs (y4 + (2 : Int32)).toNatClampNeg), .int (xs (y4 + (3 : Int32)).toNatClampNeg), .int (xs (y4 + (4 : Int32)).toNatClampNeg)]) (rest := []) ⟨hx, hb, hml, hown, hbg⟩ (met_X1_append l dC dI qB qB_buffer qB_words qB_serials qB_lengths qB_kinds qB_owners qB_olders qB_links qB_voids cB_buffer cB_words cB_serials cB_lengths cB_kinds cB_owners cB_olders cB_links cB_voids H_5.size B_thrown B_buffer B_words B_serials B_lengths B_kinds B_owners B_olders B_links B_voids B_base B_count B_first B_forced B_end B_closed B_left B_begun B_begunLength (xs (y4 + (1 : Int32)).toNatClampNeg) (xs (y4 + (2 : Int32)).toNatClampNeg) (xs (y4 + (3 : Int32)).toNatClampNeg) (xs (y4 + (4 : Int32)).toNatClampNeg) _ hw) (cwV 4 hbg g_RL_97 rfl rfl rfl (by decide +kernel) ⟨Nat.le_of_ble_eq_true rfl, Nat.le_of_ble_eq_true rfl⟩) ⟨pcW_B_b _ _ _ _ _ _ _ _ _ _ _ _ _ _ _ _ _ _ _ _ _ _ _ _ _ _ _ _ _ _ _ _ _ _ _ _ _ _ _ _ _ _, va_recv hK hPc (ci := 1) (q0 := 0) rfl rfl, fun U hU hW => ⟨rfl, by rw [hU], by rw [hU]; exact hPc, va_K.moved hW.alike hKc, hDc.weaken (fun _ _ _ _ => trivial)⟩⟩ rfl rfl hl.1 rfl (lv_room (Nat.le_of_ble_eq_true rfl)) dL_law_266 ⟨by show kc + 3 + 0 ≤ 601024; omega, by show ks + 18 + 0 ≤ 7293034; omega⟩) hS (fun q _ h => hFc q h) hFc (fun r_10 u_10 t_10 H_10 locs ht hvm hw hB hz1 hk1 hS => ?_)
  obtain ⟨B_thrown_10, B_buffer_10, B_words_10, B_serials_10, B_lengths_10, B_kinds_10, B_owners_10, B_olders_10, B_links_10, B_voids_10, B_base_10, B_count_10, B_first_10, B_forced_10, B_end_10, B_closed_10, B_left_10, B_begun_10, B_begunLength_10⟩ := u_10
  obtain ⟨hP1, hK1, hD1⟩ := hB
  rw [ht] at hP1
  try dsimp only at hw
  obtain ⟨hP, hD⟩ := va_join (wr := [(qA, .inr (0, [.ref qA_ring, .ref qA_buffer, .int A_firstPlace_5, .int A_forcedPlace_5, .int A_endPlace_5, .int A_wordsToFailure_5, .int A_opened_5])), (qA_ring, .inl (cA_ring, 65536, .inl A_ring_5)), (qA_buffer, .inl (cA_buffer, 200, .inl A_buffer_5)), (qO, .inl (cO, 1, .inr (.inl O_v_5)))]) (w1 := [(qB, .inr (1, [.int B_thrown_10, .ref qB_buffer, .ref qB_words, .ref qB_serials, .ref qB_lengths, .ref qB_kinds, .ref qB_owners, .ref qB_olders, .ref qB_links, .ref qB_voids, .int B_base_10, .int B_count_10, .int B_first_10, .int B_forced_10, .int B_end_10, .int B_closed_10, .int B_left_10, .int B_begun_10, .int B_begunLength_10])), (qB_buffer, .inl (cB_buffer, 200, .inl B_buffer_10)), (qB_words, .inl (cB_words, 65536, .inl B_words_10)), (qB_serials, .inl (cB_serials, 4400, .inl B_serials_10)), (qB_lengths, .inl (cB_lengths, 4400, .inl B_lengths_10)), (qB_kinds, .inl (cB_kinds, 4400, .inl B_kinds_10)), (qB_owners, .inl (cB_owners, 4400, .inl B_owners_10)), (qB_olders, .inl (cB_olders, 4400, .inl B_olders_10)), (qB_links, .inl (cB_links, 4400, .inl B_links_10)), (qB_voids, .inl (cB_voids, 4400, .inl B_voids_10))]) hP hD [3, 4, 5, 6, 7, 8, 9, 10, 11, 12] [0, 1, 2, 13] rfl rfl (by decide) (by decide) hk1 hFc hP1 hD1
  have hP : va_P (dC, dI) vwCl [(qA, .inr (0, [.ref qA_ring, .ref qA_buffer, .int A_firstPlace_5, .int A_forcedPlace_5, .int A_endPlace_5, .int A_wordsToFailure_5, .int A_opened_5])), (qA_ring, .inl (cA_ring, 65536, .inl A_ring_5)), (qA_buffer, .inl (cA_buffer, 200, .inl A_buffer_5)), (qB, .inr (1, [.int B_thrown_10, .ref qB_buffer, .ref qB_words, .ref qB_serials, .ref qB_lengths, .ref qB_kinds, .ref qB_owners, .ref qB_olders, .ref qB_links, .ref qB_voids, .int B_base_10, .int B_count_10, .int B_first_10, .int B_forced_10, .int B_end_10, .int B_closed_10, .int B_left_10, .int B_begun_10, .int B_begunLength_10])), (qB_buffer, .inl (cB_buffer, 200, .inl B_buffer_10)), (qB_words, .inl (cB_words, 65536, .inl B_words_10)), (qB_serials, .inl (cB_serials, 4400, .inl B_serials_10)), (qB_lengths, .inl (cB_lengths, 4400, .inl B_lengths_10)), (qB_kinds, .inl (cB_kinds, 4400, .inl B_kinds_10)), (qB_owners, .inl (cB_owners, 4400, .inl B_owners_10)), (qB_olders, .inl (cB_olders, 4400, .inl B_olders_10)), (qB_links, .inl (cB_links, 4400, .inl B_links_10)), (qB_voids, .inl (cB_voids, 4400, .inl B_voids_10)), (qO, .inl (cO, 1, .inr (.inl O_v_5)))] H_10 := hP.sub [0, 1, 2, 4, 5, 6, 7, 8, 9, 10, 11, 12, 13, 3] rfl
  have hD : va_D A [(qA, .inr (0, [.ref qA_ring, .ref qA_buffer, .int A_firstPlace_5, .int A_forcedPlace_5, .int A_endPlace_5, .int A_wordsToFailure_5, .int A_opened_5])), (qA_ring, .inl (cA_ring, 65536, .inl A_ring_5)), (qA_buffer, .inl (cA_buffer, 200, .inl A_buffer_5)), (qB, .inr (1, [.int B_thrown_10, .ref qB_buffer, .ref qB_words, .ref qB_serials, .ref qB_lengths, .ref qB_kinds, .ref qB_owners, .ref qB_olders, .ref qB_links, .ref qB_voids, .int B_base_10, .int B_count_10, .int B_first_10, .int B_forced_10, .int B_end_10, .int B_closed_10, .int B_left_10, .int B_begun_10, .int B_begunLength_10])), (qB_buffer, .inl (cB_buffer, 200, .inl B_buffer_10)), (qB_words, .inl (cB_words, 65536, .inl B_words_10)), (qB_serials, .inl (cB_serials, 4400, .inl B_serials_10)), (qB_lengths, .inl (cB_lengths, 4400, .inl B_lengths_10)), (qB_kinds, .inl (cB_kinds, 4400, .inl B_kinds_10)), (qB_owners, .inl (cB_owners, 4400, .inl B_owners_10)), (qB_olders, .inl (cB_olders, 4400, .inl B_olders_10)), (qB_links, .inl (cB_links, 4400, .inl B_links_10)), (qB_voids, .inl (cB_voids, 4400, .inl B_voids_10)), (qO, .inl (cO, 1, .inr (.inl O_v_5)))] := hD.sub [0, 1, 2, 4, 5, 6, 7, 8, 9, 10, 11, 12, 13, 3] (by decide) rfl
  refine lv_istore (lv' := [(6, .int r_10), (5, .int r_5), (0, .ref b), (1, .ref qA), (2, .ref qB), (3, .ref qO), (4, .int y4)]) hx hb dL_law_269 hl (by decide) rfl (fun ls hl => ?_)
  refine lv_goto (tgt := 749) hx hb dL_law_271 (by decide) ?_
  refine W.widen (k := kc + 3) (n := ks + 18) (by omega) (by omega) ?_
  exact hJ A_ring_5 A_buffer_5 A_firstPlace_5 A_forcedPlace_5 A_endPlace_5 A_wordsToFailure_5 A_opened_5 B_thrown_10 B_buffer_10 B_words_10 B_serials_10 B_lengths_10 B_kinds_10 B_owners_10 B_olders_10 B_links_10 B_voids_10 B_base_10 B_count_10 B_first_10 B_forced_10 B_end_10 B_closed_10 B_left_10 B_begun_10 B_begunLength_10 O_v_5 _ _ hw hP hD hS ls (lv_sub hl [2, 3, 4, 5, 6] rfl)
end
section
def wk_14 (J : St_ABO → Prop) (L : Nat) (xs : Nat → Int32) (y4 : Int32) (A_ring : Nat → Int32) (A_buffer : Nat → Int32) (A_firstPlace : Int32) (A_forcedPlace : Int32) (A_endPlace : Int32) (A_wordsToFailure : Int32) (A_opened : Int32) (B_thrown : Int32) (B_buffer : Nat → Int32) (B_words : Nat → Int32) (B_serials : Nat → Int32) (B_lengths : Nat → Int32) (B_kinds : Nat → Int32) (B_owners : Nat → Int32) (B_olders : Nat → Int32) (B_links : Nat → Int32) (B_voids : Nat → Int32) (B_base : Int32) (B_count : Int32) (B_first : Int32) (B_forced : Int32) (B_end : Int32) (B_closed : Int32) (B_left : Int32) (B_begun : Int32) (B_begunLength : Int32) (O_v : Nat → Int64) : Prop :=
  vp_in (y4 + (1 : Int32)) L ∧ (vp_in (y4 + (2 : Int32)) L ∧ (vp_in (y4 + (3 : Int32)) L ∧ (wp_L_back (fun r_4 u_4 => match u_4 with | (A_ring_4, A_buffer_4, A_firstPlace_4, A_forcedPlace_4, A_endPlace_4, A_wordsToFailure_4, A_opened_4, O_v_4) => vp_in (y4 + (1 : Int32)) L ∧ (vp_in (y4 + (2 : Int32)) L ∧ (vp_in (y4 + (3 : Int32)) L ∧ (wp_X1_back (fun r_8 u_8 => match u_8 with | (B_thrown_8, B_buffer_8, B_words_8, B_serials_8, B_lengths_8, B_kinds_8, B_owners_8, B_olders_8, B_links_8, B_voids_8, B_base_8, B_count_8, B_first_8, B_forced_8, B_end_8, B_closed_8, B_left_8, B_begun_8, B_begunLength_8) => wp_X1_thrown (fun r_9 => ((r_9 = r_4 → ((r_4 = (0 : Int32) → vp_in (0 : Int32) 1 ∧ ((((lg_cmp (O_v_4 (0 : Int32).toNatClampNeg) r_8.toInt64) = (0 : Int32) → J (A_ring_4, A_buffer_4, A_firstPlace_4, A_forcedPlace_4, A_endPlace_4, A_wordsToFailure_4, A_opened_4, B_thrown_8, B_buffer_8, B_words_8, B_serials_8, B_lengths_8, B_kinds_8, B_owners_8, B_olders_8, B_links_8, B_voids_8, B_base_8, B_count_8, B_first_8, B_forced_8, B_end_8, B_closed_8, B_left_8, B_begun_8, B_begunLength_8, O_v_4)) ∧ (¬ (lg_cmp (O_v_4 (0 : Int32).toNatClampNeg) r_8.toInt64) = (0 : Int32) → True)))) ∧ (¬ r_4 = (0 : Int32) → J (A_ring_4, A_buffer_4, A_firstPlace_4, A_forcedPlace_4, A_endPlace_4, A_wordsToFailure_4, A_opened_4, B_thrown_8, B_buffer_8, B_words_8, B_serials_8, B_lengths_8, B_kinds_8, B_owners_8, B_olders_8, B_links_8, B_voids_8, B_base_8, B_count_8, B_first_8, B_forced_8, B_end_8, B_closed_8, B_left_8, B_begun_8, B_begunLength_8, O_v_4)))) ∧ (¬ r_9 = r_4 → True))) B_thrown_8 B_buffer_8 B_words_8 B_serials_8 B_lengths_8 B_kinds_8 B_owners_8 B_olders_8 B_links_8 B_voids_8 B_base_8 B_count_8 B_first_8 B_forced_8 B_end_8 B_closed_8 B_left_8 B_begun_8 B_begunLength_8) (xs (y4 + (1 : Int32)).toNatClampNeg) (xs (y4 + (2 : Int32)).toNatClampNeg) (xs (y4 + (3 : Int32)).toNatClampNeg) B_thrown B_buffer B_words B_serials B_lengths B_kinds B_owners B_olders B_links B_voids B_base B_count B_first B_forced B_end B_closed B_left B_begun B_begunLength)))) (xs (y4 + (1 : Int32)).toNatClampNeg) (xs (y4 + (2 : Int32)).toNatClampNeg) (xs (y4 + (3 : Int32)).toNatClampNeg) A_ring A_buffer A_firstPlace A_forcedPlace A_endPlace A_wordsToFailure A_opened O_v)))
set_option maxHeartbeats 8000000 in
set_option maxRecDepth 100000 in
theorem lc_14 {p : Program} {l : Launch} {e : Env} {s : State} {m : MethodId} {below : List Frame} {meth : Method} {c : Code} (hl9 : l.stackTraces = false) {b L : Nat} {xs : Nat → Int32} (C0 : lw_At p s m meth c b L xs) {A : Nat → Prop} (hAe : ∀ q : Nat, A q → s.heap.size ≤ q) (hA : ∀ q : Nat, s.heap.size ≤ q → A q) (hbA : ¬ A b) (hXW0 : XW A s) {dC : Nat → ClassId} {dI : Nat → Nat → Nat} {qA qA_ring qA_buffer qB qB_buffer qB_words qB_serials qB_lengths qB_kinds qB_owners qB_olders qB_links qB_voids qO : Nat} {cA_ring cA_buffer cB_buffer cB_words cB_serials cB_lengths cB_kinds cB_owners cB_olders cB_links cB_voids cO : ClassId} (hK : va_K (dC, dI) vwCl [(cA_ring, .int), (cA_buffer, .int), (cB_buffer, .int), (cB_words, .int), (cB_serials, .int), (cB_lengths, .int), (cB_kinds, .int), (cB_owners, .int), (cB_olders, .int), (cB_links, .int), (cB_voids, .boolean), (cO, .long)] s) {kc ks : Nat} (hkc : kc + 3 ≤ 601024) (hks : ks + 18 ≤ 7293034) (y4 : Int32) (J : St_ABO → Prop)
    (hJ : ∀ (A_ring : Nat → Int32) (A_buffer : Nat → Int32) (A_firstPlace : Int32) (A_forcedPlace : Int32) (A_endPlace : Int32) (A_wordsToFailure : Int32) (A_opened : Int32) (B_thrown : Int32) (B_buffer : Nat → Int32) (B_words : Nat → Int32) (B_serials : Nat → Int32) (B_lengths : Nat → Int32) (B_kinds : Nat → Int32) (B_owners : Nat → Int32) (B_olders : Nat → Int32) (B_links : Nat → Int32) (B_voids : Nat → Int32) (B_base : Int32) (B_count : Int32) (B_first : Int32) (B_forced : Int32) (B_end : Int32) (B_closed : Int32) (B_left : Int32) (B_begun : Int32) (B_begunLength : Int32) (O_v : Nat → Int64) (H : Heap) (locs : List Loc), J (A_ring, A_buffer, A_firstPlace, A_forcedPlace, A_endPlace, A_wordsToFailure, A_opened, B_thrown, B_buffer, B_words, B_serials, B_lengths, B_kinds, B_owners, B_olders, B_links, B_voids, B_base, B_count, B_first, B_forced, B_end, B_closed, B_left, B_begun, B_begunLength, O_v) → va_P (dC, dI) vwCl [(qA, .inr (0, [.ref qA_ring, .ref qA_buffer, .int A_firstPlace, .int A_forcedPlace, .int A_endPlace, .int A_wordsToFailure, .int A_opened])), (qA_ring, .inl (cA_ring, 65536, .inl A_ring)), (qA_buffer, .inl (cA_buffer, 200, .inl A_buffer)), (qB, .inr (1, [.int B_thrown, .ref qB_buffer, .ref qB_words, .ref qB_serials, .ref qB_lengths, .ref qB_kinds, .ref qB_owners, .ref qB_olders, .ref qB_links, .ref qB_voids, .int B_base, .int B_count, .int B_first, .int B_forced, .int B_end, .int B_closed, .int B_left, .int B_begun, .int B_begunLength])), (qB_buffer, .inl (cB_buffer, 200, .inl B_buffer)), (qB_words, .inl (cB_words, 65536, .inl B_words)), (qB_serials, .inl (cB_serials, 4400, .inl B_serials)), (qB_lengths, .inl (cB_lengths, 4400, .inl B_lengths)), (qB_kinds, .inl (cB_kinds, 4400, .inl B_kinds)), (qB_owners, .inl (cB_owners, 4400, .inl B_owners)), (qB_olders, .inl (cB_olders, 4400, .inl B_olders)), (qB_links, .inl (cB_links, 4400, .inl B_links)), (qB_voids, .inl (cB_voids, 4400, .inl B_voids)), (qO, .inl (cO, 1, .inr (.inl O_v)))] H → va_D A [(qA, .inr (0, [.ref qA_ring, .ref qA_buffer, .int A_firstPlace, .int A_forcedPlace, .int A_endPlace, .int A_wordsToFailure, .int A_opened])), (qA_ring, .inl (cA_ring, 65536, .inl A_ring)), (qA_buffer, .inl (cA_buffer, 200, .inl A_buffer)), (qB, .inr (1, [.int B_thrown, .ref qB_buffer, .ref qB_words, .ref qB_serials, .ref qB_lengths, .ref qB_kinds, .ref qB_owners, .ref qB_olders, .ref qB_links, .ref qB_voids, .int B_base, .int B_count, .int B_first, .int B_forced, .int B_end, .int B_closed, .int B_left, .int B_begun, .int B_begunLength])), (qB_buffer, .inl (cB_buffer, 200, .inl B_buffer)), (qB_words, .inl (cB_words, 65536, .inl B_words)), (qB_serials, .inl (cB_serials, 4400, .inl B_serials)), (qB_lengths, .inl (cB_lengths, 4400, .inl B_lengths)), (qB_kinds, .inl (cB_kinds, 4400, .inl B_kinds)), (qB_owners, .inl (cB_owners, 4400, .inl B_owners)), (qB_olders, .inl (cB_olders, 4400, .inl B_olders)), (qB_links, .inl (cB_links, 4400, .inl B_links)), (qB_voids, .inl (cB_voids, 4400, .inl B_voids)), (qO, .inl (cO, 1, .inr (.inl O_v)))] → va_S A s.heap H locs → ∀ ls : Array Slot, lv_has ls 7 [(0, .ref b), (1, .ref qA), (2, .ref qB), (3, .ref qO), (4, .int y4)] → W p l e room_1 s m #[Value.ref b] below meth c H locs (kc + 3) (ks + 18) (lw_Z below #[Value.ref b] s) (F0 m 749 ls []))
    (A_ring : Nat → Int32) (A_buffer : Nat → Int32) (A_firstPlace : Int32) (A_forcedPlace : Int32) (A_endPlace : Int32) (A_wordsToFailure : Int32) (A_opened : Int32) (B_thrown : Int32) (B_buffer : Nat → Int32) (B_words : Nat → Int32) (B_serials : Nat → Int32) (B_lengths : Nat → Int32) (B_kinds : Nat → Int32) (B_owners : Nat → Int32) (B_olders : Nat → Int32) (B_links : Nat → Int32) (B_voids : Nat → Int32) (B_base : Int32) (B_count : Int32) (B_first : Int32) (B_forced : Int32) (B_end : Int32) (B_closed : Int32) (B_left : Int32) (B_begun : Int32) (B_begunLength : Int32) (O_v : Nat → Int64) (H : Heap) (locs : List Loc) (hw : wk_14 J L xs y4 A_ring A_buffer A_firstPlace A_forcedPlace A_endPlace A_wordsToFailure A_opened B_thrown B_buffer B_words B_serials B_lengths B_kinds B_owners B_olders B_links B_voids B_base B_count B_first B_forced B_end B_closed B_left B_begun B_begunLength O_v) (hP : va_P (dC, dI) vwCl [(qA, .inr (0, [.ref qA_ring, .ref qA_buffer, .int A_firstPlace, .int A_forcedPlace, .int A_endPlace, .int A_wordsToFailure, .int A_opened])), (qA_ring, .inl (cA_ring, 65536, .inl A_ring)), (qA_buffer, .inl (cA_buffer, 200, .inl A_buffer)), (qB, .inr (1, [.int B_thrown, .ref qB_buffer, .ref qB_words, .ref qB_serials, .ref qB_lengths, .ref qB_kinds, .ref qB_owners, .ref qB_olders, .ref qB_links, .ref qB_voids, .int B_base, .int B_count, .int B_first, .int B_forced, .int B_end, .int B_closed, .int B_left, .int B_begun, .int B_begunLength])), (qB_buffer, .inl (cB_buffer, 200, .inl B_buffer)), (qB_words, .inl (cB_words, 65536, .inl B_words)), (qB_serials, .inl (cB_serials, 4400, .inl B_serials)), (qB_lengths, .inl (cB_lengths, 4400, .inl B_lengths)), (qB_kinds, .inl (cB_kinds, 4400, .inl B_kinds)), (qB_owners, .inl (cB_owners, 4400, .inl B_owners)), (qB_olders, .inl (cB_olders, 4400, .inl B_olders)), (qB_links, .inl (cB_links, 4400, .inl B_links)), (qB_voids, .inl (cB_voids, 4400, .inl B_voids)), (qO, .inl (cO, 1, .inr (.inl O_v)))] H) (hD : va_D A [(qA, .inr (0, [.ref qA_ring, .ref qA_buffer, .int A_firstPlace, .int A_forcedPlace, .int A_endPlace, .int A_wordsToFailure, .int A_opened])), (qA_ring, .inl (cA_ring, 65536, .inl A_ring)), (qA_buffer, .inl (cA_buffer, 200, .inl A_buffer)), (qB, .inr (1, [.int B_thrown, .ref qB_buffer, .ref qB_words, .ref qB_serials, .ref qB_lengths, .ref qB_kinds, .ref qB_owners, .ref qB_olders, .ref qB_links, .ref qB_voids, .int B_base, .int B_count, .int B_first, .int B_forced, .int B_end, .int B_closed, .int B_left, .int B_begun, .int B_begunLength])), (qB_buffer, .inl (cB_buffer, 200, .inl B_buffer)), (qB_words, .inl (cB_words, 65536, .inl B_words)), (qB_serials, .inl (cB_serials, 4400, .inl B_serials)), (qB_lengths, .inl (cB_lengths, 4400, .inl B_lengths)), (qB_kinds, .inl (cB_kinds, 4400, .inl B_kinds)), (qB_owners, .inl (cB_owners, 4400, .inl B_owners)), (qB_olders, .inl (cB_olders, 4400, .inl B_olders)), (qB_links, .inl (cB_links, 4400, .inl B_links)), (qB_voids, .inl (cB_voids, 4400, .inl B_voids)), (qO, .inl (cO, 1, .inr (.inl O_v)))]) (hS : va_S A s.heap H locs) (ls : Array Slot) (hl : lv_has ls 7 [(0, .ref b), (1, .ref qA), (2, .ref qB), (3, .ref qO), (4, .int y4)]) :
    W p l e room_1 s m #[Value.ref b] below meth c H locs kc ks (lw_Z below #[Value.ref b] s) (F0 m 558 ls []) := by
  obtain ⟨hx, hb, hr, hml, hown, hts, hX, hbl, hlocks, hgv⟩ := C0
  have hown : s.vm.findClass RL = some m.cls := hown
  have hbg : ∀ w ∈ bigW, w.before #[Value.ref b] s = true := fun w h => hts w (List.mem_filter.mp h).1
  unfold wk_14 at hw
  refine lv_aload_n hx hb dL_law_558 rfl (lv_at hl 1 rfl) ?_
  refine lv_aload_n hx hb dL_law_559 rfl (lv_at hl 0 rfl) ?_
  refine lv_iload hx hb dL_law_560 (lv_at hl 4 rfl) ?_
  refine lv_iconst (v := (1 : Int32)) hx hb dL_law_562 (by decide) ?_
  refine lv_iadd hx hb dL_law_563 ?_
  obtain ⟨h_1, hw⟩ := hw
  refine va_sld hx hb hX hbl hbA hS h_1 dL_law_564 ?_
  refine lv_aload_n hx hb dL_law_565 rfl (lv_at hl 0 rfl) ?_
  refine lv_iload hx hb dL_law_566 (lv_at hl 4 rfl) ?_
  refine lv_iconst (v := (2 : Int32)) hx hb dL_law_568 (by decide) ?_
  refine lv_iadd hx hb dL_law_569 ?_
  obtain ⟨h_2, hw⟩ := hw
  refine va_sld hx hb hX hbl hbA hS h_2 dL_law_570 ?_
  refine lv_aload_n hx hb dL_law_571 rfl (lv_at hl 0 rfl) ?_
  refine lv_iload hx hb dL_law_572 (lv_at hl 4 rfl) ?_
  refine lv_iconst (v := (3 : Int32)) hx hb dL_law_574 (by decide) ?_
  refine lv_iadd hx hb dL_law_575 ?_
  obtain ⟨h_3, hw⟩ := hw
  refine va_sld hx hb hX hbl hbA hS h_3 dL_law_576 ?_
  refine lv_aload_n hx hb dL_law_577 rfl (lv_at hl 3 rfl) ?_
  have hPc := hP.sub (ws' := [(qA, .inr (0, [.ref qA_ring, .ref qA_buffer, .int A_firstPlace, .int A_forcedPlace, .int A_endPlace, .int A_wordsToFailure, .int A_opened])), (qA_ring, .inl (cA_ring, 65536, .inl A_ring)), (qA_buffer, .inl (cA_buffer, 200, .inl A_buffer)), (qO, .inl (cO, 1, .inr (.inl O_v)))]) [0, 1, 2, 13] rfl
  have hKc := hK.sub (tys' := [(cA_ring, .int), (cA_buffer, .int), (cO, .long)]) [0, 1, 11] rfl
  have hDc := hD.sub (ws' := [(qA, .inr (0, [.ref qA_ring, .ref qA_buffer, .int A_firstPlace, .int A_forcedPlace, .int A_endPlace, .int A_wordsToFailure, .int A_opened])), (qA_ring, .inl (cA_ring, 65536, .inl A_ring)), (qA_buffer, .inl (cA_buffer, 200, .inl A_buffer)), (qO, .inl (cO, 1, .inr (.inl O_v)))]) [0, 1, 2, 13] (by decide) rfl
  have hFc := va_free (wc := [(qA, .inr (0, [.ref qA_ring, .ref qA_buffer, .int A_firstPlace, .int A_forcedPlace, .int A_endPlace, .int A_wordsToFailure, .int A_opened])), (qA_ring, .inl (cA_ring, 65536, .inl A_ring)), (qA_buffer, .inl (cA_buffer, 200, .inl A_buffer)), (qO, .inl (cO, 1, .inr (.inl O_v)))]) hD hS hA [0, 1, 2, 13] rfl
  refine va_calli (vx_runSW (As := [.ref qA, .int (xs (y4 + (1 : Int32)).toNatClampNeg), .int (xs (y4 + (2 : Int32)).toNatClampNeg), .int (xs (y4 + (3 : Int32)).toNatClampNeg), .ref qO]) (rest := []) ⟨hx, hb, hml, hown, hbg⟩ (met_L_back l hl9 dC dI qA qA_ring qA_buffer qO cA_ring cA_buffer cO H.size A_ring A_buffer A_firstPlace A_forcedPlace A_endPlace A_wordsToFailure A_opened O_v (xs (y4 + (1 : Int32)).toNatClampNeg) (xs (y4 + (2 : Int32)).toNatClampNeg) (xs (y4 + (3 : Int32)).toNatClampNeg) _ hw) (vx_cwSW 5 hbg g_RL_134 rfl rfl rfl (by decide +kernel) ⟨Nat.le_of_ble_eq_true rfl, Nat.le_of_ble_eq_true rfl⟩) ⟨pcX_AO_b _ _ _ _ _ _ _ _ _ _ _ _ _ _ _ _ _ _ _, fun U hU hW => ⟨rfl, by rw [hU], by rw [hU]; exact hPc, va_K.moved hW.alike hKc, hDc.weaken (fun _ _ _ _ => trivial), XW.go hXW0 hS hFc hU hW⟩⟩ rfl rfl hl.1 rfl (lv_room (Nat.le_of_ble_eq_true rfl)) dL_law_578 ⟨by show kc + 3 ≤ 601024; omega, by show ks + 18 ≤ 7293034; omega⟩) hS (fun q _ h => hFc q h) hFc (fun r_4 u_4 t_4 H_4 locs ht hvm hw hB hz1 hk1 hS => ?_)
  obtain ⟨A_ring_4, A_buffer_4, A_firstPlace_4, A_forcedPlace_4, A_endPlace_4, A_wordsToFailure_4, A_opened_4, O_v_4⟩ := u_4
  obtain ⟨hP1, hK1, hD1⟩ := hB
  rw [ht] at hP1
  try dsimp only at hw
  obtain ⟨hP, hD⟩ := va_join (wr := [(qB, .inr (1, [.int B_thrown, .ref qB_buffer, .ref qB_words, .ref qB_serials, .ref qB_lengths, .ref qB_kinds, .ref qB_owners, .ref qB_olders, .ref qB_links, .ref qB_voids, .int B_base, .int B_count, .int B_first, .int B_forced, .int B_end, .int B_closed, .int B_left, .int B_begun, .int B_begunLength])), (qB_buffer, .inl (cB_buffer, 200, .inl B_buffer)), (qB_words, .inl (cB_words, 65536, .inl B_words)), (qB_serials, .inl (cB_serials, 4400, .inl B_serials)), (qB_lengths, .inl (cB_lengths, 4400, .inl B_lengths)), (qB_kinds, .inl (cB_kinds, 4400, .inl B_kinds)), (qB_owners, .inl (cB_owners, 4400, .inl B_owners)), (qB_olders, .inl (cB_olders, 4400, .inl B_olders)), (qB_links, .inl (cB_links, 4400, .inl B_links)), (qB_voids, .inl (cB_voids, 4400, .inl B_voids))]) (w1 := [(qA, .inr (0, [.ref qA_ring, .ref qA_buffer, .int A_firstPlace_4, .int A_forcedPlace_4, .int A_endPlace_4, .int A_wordsToFailure_4, .int A_opened_4])), (qA_ring, .inl (cA_ring, 65536, .inl A_ring_4)), (qA_buffer, .inl (cA_buffer, 200, .inl A_buffer_4)), (qO, .inl (cO, 1, .inr (.inl O_v_4)))]) hP hD [0, 1, 2, 13] [3, 4, 5, 6, 7, 8, 9, 10, 11, 12] rfl rfl (by decide) (by decide) hk1 hFc hP1 hD1
  have hP : va_P (dC, dI) vwCl [(qA, .inr (0, [.ref qA_ring, .ref qA_buffer, .int A_firstPlace_4, .int A_forcedPlace_4, .int A_endPlace_4, .int A_wordsToFailure_4, .int A_opened_4])), (qA_ring, .inl (cA_ring, 65536, .inl A_ring_4)), (qA_buffer, .inl (cA_buffer, 200, .inl A_buffer_4)), (qB, .inr (1, [.int B_thrown, .ref qB_buffer, .ref qB_words, .ref qB_serials, .ref qB_lengths, .ref qB_kinds, .ref qB_owners, .ref qB_olders, .ref qB_links, .ref qB_voids, .int B_base, .int B_count, .int B_first, .int B_forced, .int B_end, .int B_closed, .int B_left, .int B_begun, .int B_begunLength])), (qB_buffer, .inl (cB_buffer, 200, .inl B_buffer)), (qB_words, .inl (cB_words, 65536, .inl B_words)), (qB_serials, .inl (cB_serials, 4400, .inl B_serials)), (qB_lengths, .inl (cB_lengths, 4400, .inl B_lengths)), (qB_kinds, .inl (cB_kinds, 4400, .inl B_kinds)), (qB_owners, .inl (cB_owners, 4400, .inl B_owners)), (qB_olders, .inl (cB_olders, 4400, .inl B_olders)), (qB_links, .inl (cB_links, 4400, .inl B_links)), (qB_voids, .inl (cB_voids, 4400, .inl B_voids)), (qO, .inl (cO, 1, .inr (.inl O_v_4)))] H_4 := hP.sub [10, 11, 12, 0, 1, 2, 3, 4, 5, 6, 7, 8, 9, 13] rfl
  have hD : va_D A [(qA, .inr (0, [.ref qA_ring, .ref qA_buffer, .int A_firstPlace_4, .int A_forcedPlace_4, .int A_endPlace_4, .int A_wordsToFailure_4, .int A_opened_4])), (qA_ring, .inl (cA_ring, 65536, .inl A_ring_4)), (qA_buffer, .inl (cA_buffer, 200, .inl A_buffer_4)), (qB, .inr (1, [.int B_thrown, .ref qB_buffer, .ref qB_words, .ref qB_serials, .ref qB_lengths, .ref qB_kinds, .ref qB_owners, .ref qB_olders, .ref qB_links, .ref qB_voids, .int B_base, .int B_count, .int B_first, .int B_forced, .int B_end, .int B_closed, .int B_left, .int B_begun, .int B_begunLength])), (qB_buffer, .inl (cB_buffer, 200, .inl B_buffer)), (qB_words, .inl (cB_words, 65536, .inl B_words)), (qB_serials, .inl (cB_serials, 4400, .inl B_serials)), (qB_lengths, .inl (cB_lengths, 4400, .inl B_lengths)), (qB_kinds, .inl (cB_kinds, 4400, .inl B_kinds)), (qB_owners, .inl (cB_owners, 4400, .inl B_owners)), (qB_olders, .inl (cB_olders, 4400, .inl B_olders)), (qB_links, .inl (cB_links, 4400, .inl B_links)), (qB_voids, .inl (cB_voids, 4400, .inl B_voids)), (qO, .inl (cO, 1, .inr (.inl O_v_4)))] := hD.sub [10, 11, 12, 0, 1, 2, 3, 4, 5, 6, 7, 8, 9, 13] (by decide) rfl
  refine W.widen (k := kc + 3) (n := ks + 18) (by omega) (by omega) ?_
  refine lv_istore (lv' := [(5, .int r_4), (0, .ref b), (1, .ref qA), (2, .ref qB), (3, .ref qO), (4, .int y4)]) hx hb dL_law_581 hl (by decide) rfl (fun ls hl => ?_)
  refine lv_aload_n hx hb dL_law_583 rfl (lv_at hl 3 rfl) ?_
  refine lv_aload_n hx hb dL_law_584 rfl (lv_at hl 1 rfl) ?_
  refine lv_iload hx hb dL_law_585 (lv_at hl 5 rfl) ?_
  refine lv_iconst (v := (1 : Int32)) hx hb dL_law_587 (by decide) ?_
  refine lv_iadd hx hb dL_law_588 ?_
  obtain ⟨h_5, hw⟩ := hw
  refine va_sld hx hb hX hbl hbA hS h_5 dL_law_589 ?_
  refine lv_aload_n hx hb dL_law_590 rfl (lv_at hl 1 rfl) ?_
  refine lv_iload hx hb dL_law_591 (lv_at hl 5 rfl) ?_
  refine lv_iconst (v := (2 : Int32)) hx hb dL_law_593 (by decide) ?_
  refine lv_iadd hx hb dL_law_594 ?_
  obtain ⟨h_6, hw⟩ := hw
  refine va_sld hx hb hX hbl hbA hS h_6 dL_law_595 ?_
  refine lv_aload_n hx hb dL_law_596 rfl (lv_at hl 1 rfl) ?_
  refine lv_iload hx hb dL_law_597 (lv_at hl 5 rfl) ?_
  refine lv_iconst (v := (3 : Int32)) hx hb dL_law_599 (by decide) ?_
  refine lv_iadd hx hb dL_law_600 ?_
  obtain ⟨h_7, hw⟩ := hw
  refine va_sld hx hb hX hbl hbA hS h_7 dL_law_601 ?_
  have hPc := hP.sub (ws' := [(qB, .inr (1, [.int B_thrown, .ref qB_buffer, .ref qB_words, .ref qB_serials, .ref qB_lengths, .ref qB_kinds, .ref qB_owners, .ref qB_olders, .ref qB_links, .ref qB_voids, .int B_base, .int B_count, .int B_first, .int B_forced, .int B_end, .int B_closed, .int B_left, .int B_begun, .int B_begunLength])), (qB_buffer, .inl (cB_buffer, 200, .inl B_buffer)), (qB_words, .inl (cB_words, 65536, .inl B_words)), (qB_serials, .inl (cB_serials, 4400, .inl B_serials)), (qB_lengths, .inl (cB_lengths, 4400, .inl B_lengths)), (qB_kinds, .inl (cB_kinds, 4400, .inl B_kinds)), (qB_owners, .inl (cB_owners, 4400, .inl B_owners)), (qB_olders, .inl (cB_olders, 4400, .inl B_olders)), (qB_links, .inl (cB_links, 4400, .inl B_links)), (qB_voids, .inl (cB_voids, 4400, .inl B_voids))]) [3, 4, 5, 6, 7, 8, 9, 10, 11, 12] rfl
  have hKc := hK.sub (tys' := [(cB_buffer, .int), (cB_words, .int), (cB_serials, .int), (cB_lengths, .int), (cB_kinds, .int), (cB_owners, .int), (cB_olders, .int), (cB_links, .int), (cB_voids, .boolean)]) [2, 3, 4, 5, 6, 7, 8, 9, 10] rfl
  have hDc := hD.sub (ws' := [(qB, .inr (1, [.int B_thrown, .ref qB_buffer, .ref qB_words, .ref qB_serials, .ref qB_lengths, .ref qB_kinds, .ref qB_owners, .ref qB_olders, .ref qB_links, .ref qB_voids, .int B_base, .int B_count, .int B_first, .int B_forced, .int B_end, .int B_closed, .int B_left, .int B_begun, .int B_begunLength])), (qB_buffer, .inl (cB_buffer, 200, .inl B_buffer)), (qB_words, .inl (cB_words, 65536, .inl B_words)), (qB_serials, .inl (cB_serials, 4400, .inl B_serials)), (qB_lengths, .inl (cB_lengths, 4400, .inl B_lengths)), (qB_kinds, .inl (cB_kinds, 4400, .inl B_kinds)), (qB_owners, .inl (cB_owners, 4400, .inl B_owners)), (qB_olders, .inl (cB_olders, 4400, .inl B_olders)), (qB_links, .inl (cB_links, 4400, .inl B_links)), (qB_voids, .inl (cB_voids, 4400, .inl B_voids))]) [3, 4, 5, 6, 7, 8, 9, 10, 11, 12] (by decide) rfl
  have hFc := va_free (wc := [(qB, .inr (1, [.int B_thrown, .ref qB_buffer, .ref qB_words, .ref qB_serials, .ref qB_lengths, .ref qB_kinds, .ref qB_owners, .ref qB_olders, .ref qB_links, .ref qB_voids, .int B_base, .int B_count, .int B_first, .int B_forced, .int B_end, .int B_closed, .int B_left, .int B_begun, .int B_begunLength])), (qB_buffer, .inl (cB_buffer, 200, .inl B_buffer)), (qB_words, .inl (cB_words, 65536, .inl B_words)), (qB_serials, .inl (cB_serials, 4400, .inl B_serials)), (qB_lengths, .inl (cB_lengths, 4400, .inl B_lengths)), (qB_kinds, .inl (cB_kinds, 4400, .inl B_kinds)), (qB_owners, .inl (cB_owners, 4400, .inl B_owners)), (qB_olders, .inl (cB_olders, 4400, .inl B_olders)), (qB_links, .inl (cB_links, 4400, .inl B_links)), (qB_voids, .inl (cB_voids, 4400, .inl B_voids))]) hD hS hA [3, 4, 5, 6, 7, 8, 9, 10, 11, 12] rfl
  refine va_calli (va_runV (As := [.int (xs (y4 + (1 : Int32)).toNatClampNeg), .int (xs (y4 + (2 : Int32)).toNatClampNeg), .int (xs (y4 + (3 : Int32)).toNatClampNeg)]) (rest := []) ⟨hx, hb, hml, hown, hbg⟩ (met_X1_back l dC dI qB qB_buffer qB_words qB_serials qB_lengths qB_kinds qB_owners qB_olders qB_links qB_voids cB_buffer cB_words cB_serials cB_lengths cB_kinds cB_owners cB_olders cB_links cB_voids H_4.size B_thrown B_buffer B_words B_serials B_lengths B_kinds B_owners B_olders B_links B_voids B_base B_count B_first B_forced B_end B_closed B_left B_begun B_begunLength (xs (y4 + (1 : Int32)).toNatClampNeg) (xs (y4 + (2 : Int32)).toNatClampNeg) (xs (y4 + (3 : Int32)).toNatClampNeg) _ hw) (cwV 3 hbg g_RL_137 rfl rfl rfl (by decide +kernel) ⟨Nat.le_of_ble_eq_true rfl, Nat.le_of_ble_eq_true rfl⟩) ⟨pcW_B_b _ _ _ _ _ _ _ _ _ _ _ _ _ _ _ _ _ _ _ _ _ _ _ _ _ _ _ _ _ _ _ _ _ _ _ _ _ _ _ _ _ _, va_recv hK hPc (ci := 1) (q0 := 0) rfl rfl, fun U hU hW => ⟨rfl, by rw [hU], by rw [hU]; exact hPc, va_K.moved hW.alike hKc, hDc.weaken (fun _ _ _ _ => trivial)⟩⟩ rfl rfl hl.1 rfl (lv_room (Nat.le_of_ble_eq_true rfl)) dL_law_602 ⟨by show kc + 3 + 0 ≤ 601024; omega, by show ks + 18 + 0 ≤ 7293034; omega⟩) hS (fun q _ h => hFc q h) hFc (fun r_8 u_8 t_8 H_8 locs ht hvm hw hB hz1 hk1 hS => ?_)
  obtain ⟨B_thrown_8, B_buffer_8, B_words_8, B_serials_8, B_lengths_8, B_kinds_8, B_owners_8, B_olders_8, B_links_8, B_voids_8, B_base_8, B_count_8, B_first_8, B_forced_8, B_end_8, B_closed_8, B_left_8, B_begun_8, B_begunLength_8⟩ := u_8
  obtain ⟨hP1, hK1, hD1⟩ := hB
  rw [ht] at hP1
  try dsimp only at hw
  obtain ⟨hP, hD⟩ := va_join (wr := [(qA, .inr (0, [.ref qA_ring, .ref qA_buffer, .int A_firstPlace_4, .int A_forcedPlace_4, .int A_endPlace_4, .int A_wordsToFailure_4, .int A_opened_4])), (qA_ring, .inl (cA_ring, 65536, .inl A_ring_4)), (qA_buffer, .inl (cA_buffer, 200, .inl A_buffer_4)), (qO, .inl (cO, 1, .inr (.inl O_v_4)))]) (w1 := [(qB, .inr (1, [.int B_thrown_8, .ref qB_buffer, .ref qB_words, .ref qB_serials, .ref qB_lengths, .ref qB_kinds, .ref qB_owners, .ref qB_olders, .ref qB_links, .ref qB_voids, .int B_base_8, .int B_count_8, .int B_first_8, .int B_forced_8, .int B_end_8, .int B_closed_8, .int B_left_8, .int B_begun_8, .int B_begunLength_8])), (qB_buffer, .inl (cB_buffer, 200, .inl B_buffer_8)), (qB_words, .inl (cB_words, 65536, .inl B_words_8)), (qB_serials, .inl (cB_serials, 4400, .inl B_serials_8)), (qB_lengths, .inl (cB_lengths, 4400, .inl B_lengths_8)), (qB_kinds, .inl (cB_kinds, 4400, .inl B_kinds_8)), (qB_owners, .inl (cB_owners, 4400, .inl B_owners_8)), (qB_olders, .inl (cB_olders, 4400, .inl B_olders_8)), (qB_links, .inl (cB_links, 4400, .inl B_links_8)), (qB_voids, .inl (cB_voids, 4400, .inl B_voids_8))]) hP hD [3, 4, 5, 6, 7, 8, 9, 10, 11, 12] [0, 1, 2, 13] rfl rfl (by decide) (by decide) hk1 hFc hP1 hD1
  have hP : va_P (dC, dI) vwCl [(qA, .inr (0, [.ref qA_ring, .ref qA_buffer, .int A_firstPlace_4, .int A_forcedPlace_4, .int A_endPlace_4, .int A_wordsToFailure_4, .int A_opened_4])), (qA_ring, .inl (cA_ring, 65536, .inl A_ring_4)), (qA_buffer, .inl (cA_buffer, 200, .inl A_buffer_4)), (qB, .inr (1, [.int B_thrown_8, .ref qB_buffer, .ref qB_words, .ref qB_serials, .ref qB_lengths, .ref qB_kinds, .ref qB_owners, .ref qB_olders, .ref qB_links, .ref qB_voids, .int B_base_8, .int B_count_8, .int B_first_8, .int B_forced_8, .int B_end_8, .int B_closed_8, .int B_left_8, .int B_begun_8, .int B_begunLength_8])), (qB_buffer, .inl (cB_buffer, 200, .inl B_buffer_8)), (qB_words, .inl (cB_words, 65536, .inl B_words_8)), (qB_serials, .inl (cB_serials, 4400, .inl B_serials_8)), (qB_lengths, .inl (cB_lengths, 4400, .inl B_lengths_8)), (qB_kinds, .inl (cB_kinds, 4400, .inl B_kinds_8)), (qB_owners, .inl (cB_owners, 4400, .inl B_owners_8)), (qB_olders, .inl (cB_olders, 4400, .inl B_olders_8)), (qB_links, .inl (cB_links, 4400, .inl B_links_8)), (qB_voids, .inl (cB_voids, 4400, .inl B_voids_8)), (qO, .inl (cO, 1, .inr (.inl O_v_4)))] H_8 := hP.sub [0, 1, 2, 4, 5, 6, 7, 8, 9, 10, 11, 12, 13, 3] rfl
  have hD : va_D A [(qA, .inr (0, [.ref qA_ring, .ref qA_buffer, .int A_firstPlace_4, .int A_forcedPlace_4, .int A_endPlace_4, .int A_wordsToFailure_4, .int A_opened_4])), (qA_ring, .inl (cA_ring, 65536, .inl A_ring_4)), (qA_buffer, .inl (cA_buffer, 200, .inl A_buffer_4)), (qB, .inr (1, [.int B_thrown_8, .ref qB_buffer, .ref qB_words, .ref qB_serials, .ref qB_lengths, .ref qB_kinds, .ref qB_owners, .ref qB_olders, .ref qB_links, .ref qB_voids, .int B_base_8, .int B_count_8, .int B_first_8, .int B_forced_8, .int B_end_8, .int B_closed_8, .int B_left_8, .int B_begun_8, .int B_begunLength_8])), (qB_buffer, .inl (cB_buffer, 200, .inl B_buffer_8)), (qB_words, .inl (cB_words, 65536, .inl B_words_8)), (qB_serials, .inl (cB_serials, 4400, .inl B_serials_8)), (qB_lengths, .inl (cB_lengths, 4400, .inl B_lengths_8)), (qB_kinds, .inl (cB_kinds, 4400, .inl B_kinds_8)), (qB_owners, .inl (cB_owners, 4400, .inl B_owners_8)), (qB_olders, .inl (cB_olders, 4400, .inl B_olders_8)), (qB_links, .inl (cB_links, 4400, .inl B_links_8)), (qB_voids, .inl (cB_voids, 4400, .inl B_voids_8)), (qO, .inl (cO, 1, .inr (.inl O_v_4)))] := hD.sub [0, 1, 2, 4, 5, 6, 7, 8, 9, 10, 11, 12, 13, 3] (by decide) rfl
  refine lv_istore (lv' := [(6, .int r_8), (5, .int r_4), (0, .ref b), (1, .ref qA), (2, .ref qB), (3, .ref qO), (4, .int y4)]) hx hb dL_law_605 hl (by decide) rfl (fun ls hl => ?_)
  refine lv_aload_n hx hb dL_law_607 rfl (lv_at hl 4 rfl) ?_
  have hPc := hP.sub (ws' := [(qB, .inr (1, [.int B_thrown_8, .ref qB_buffer, .ref qB_words, .ref qB_serials, .ref qB_lengths, .ref qB_kinds, .ref qB_owners, .ref qB_olders, .ref qB_links, .ref qB_voids, .int B_base_8, .int B_count_8, .int B_first_8, .int B_forced_8, .int B_end_8, .int B_closed_8, .int B_left_8, .int B_begun_8, .int B_begunLength_8])), (qB_buffer, .inl (cB_buffer, 200, .inl B_buffer_8)), (qB_words, .inl (cB_words, 65536, .inl B_words_8)), (qB_serials, .inl (cB_serials, 4400, .inl B_serials_8)), (qB_lengths, .inl (cB_lengths, 4400, .inl B_lengths_8)), (qB_kinds, .inl (cB_kinds, 4400, .inl B_kinds_8)), (qB_owners, .inl (cB_owners, 4400, .inl B_owners_8)), (qB_olders, .inl (cB_olders, 4400, .inl B_olders_8)), (qB_links, .inl (cB_links, 4400, .inl B_links_8)), (qB_voids, .inl (cB_voids, 4400, .inl B_voids_8))]) [3, 4, 5, 6, 7, 8, 9, 10, 11, 12] rfl
  have hKc := hK.sub (tys' := [(cB_buffer, .int), (cB_words, .int), (cB_serials, .int), (cB_lengths, .int), (cB_kinds, .int), (cB_owners, .int), (cB_olders, .int), (cB_links, .int), (cB_voids, .boolean)]) [2, 3, 4, 5, 6, 7, 8, 9, 10] rfl
  refine vp_callSi (W.runV (As := []) (rest := []) ⟨hx, hb, hml, hown, hbg⟩ (met_X1_thrown l dC dI qB qB_buffer qB_words qB_serials qB_lengths qB_kinds qB_owners qB_olders qB_links qB_voids cB_buffer cB_words cB_serials cB_lengths cB_kinds cB_owners cB_olders cB_links cB_voids B_thrown_8 B_buffer_8 B_words_8 B_serials_8 B_lengths_8 B_kinds_8 B_owners_8 B_olders_8 B_links_8 B_voids_8 B_base_8 B_count_8 B_first_8 B_forced_8 B_end_8 B_closed_8 B_left_8 B_begun_8 B_begunLength_8  _ hw) (cwV 0 hbg g_RL_138 rfl rfl rfl (by decide +kernel) ⟨Nat.le_of_ble_eq_true rfl, Nat.le_of_ble_eq_true rfl⟩) ⟨pcR_B_b _ _ _ _ _ _ _ _ _ _ _ _ _ _ _ _ _ _ _ _ _ _ _ _ _ _ _ _ _ _ _ _ _ _ _ _ _ _ _ _ _ , va_recv hK hPc (ci := 1) (q0 := 0) rfl rfl, fun U hU hW => ⟨rfl, by rw [hU]; exact hPc, va_K.moved hW.alike hKc⟩⟩ rfl rfl hl.1 rfl (lv_room (Nat.le_of_ble_eq_true rfl)) dL_law_608 ⟨by show kc + 3 + 0 ≤ 601024; omega, by show ks + 18 + 0 ≤ 7293034; omega⟩) (fun r_9 hw => ?_)
  try dsimp only at hw
  refine lv_iload hx hb dL_law_611 (lv_at hl 1 rfl) ?_
  refine lv_icmp_eq (tgt := 618) hx hb dL_law_613 (by decide) (fun c9 => ?_) (fun c9 => ?_)
  · have hw := hw.1 c9
    refine lv_iload hx hb dL_law_618 (lv_at hl 1 rfl) ?_
    refine lv_if_ne (tgt := 635) hx hb dL_law_620 (by decide) (fun c9 => ?_) (fun c9 => ?_)
    · have hw := hw.2 c9
      refine lv_goto (tgt := 749) hx hb dL_law_635 (by decide) ?_
      refine W.widen (k := kc + 3) (n := ks + 18) (by omega) (by omega) ?_
      exact hJ A_ring_4 A_buffer_4 A_firstPlace_4 A_forcedPlace_4 A_endPlace_4 A_wordsToFailure_4 A_opened_4 B_thrown_8 B_buffer_8 B_words_8 B_serials_8 B_lengths_8 B_kinds_8 B_owners_8 B_olders_8 B_links_8 B_voids_8 B_base_8 B_count_8 B_first_8 B_forced_8 B_end_8 B_closed_8 B_left_8 B_begun_8 B_begunLength_8 O_v_4 _ _ hw hP hD hS ls (lv_sub hl [2, 3, 4, 5, 6] rfl)
    · have hw := hw.1 c9
      refine lv_aload_n hx hb dL_law_623 rfl (lv_at hl 5 rfl) ?_
      refine lv_iconst (v := (0 : Int32)) hx hb dL_law_624 (by decide) ?_
      obtain ⟨h_10, hw⟩ := hw
      refine va_lald hx hb hK hP 13 11 rfl rfl h_10 dL_law_625 ?_
      refine lv_iload hx hb dL_law_626 (lv_at hl 0 rfl) ?_
      refine lv_i2l (v := r_8.toInt64) hx hb dL_law_628 rfl ?_
      refine W.lcmp hx hb dL_law_629 ?_
      refine lv_if_eq (tgt := 635) hx hb dL_law_630 (by decide) (fun c9 => ?_) (fun c9 => ?_)
      · have hw := hw.1 c9
        refine lv_goto (tgt := 749) hx hb dL_law_635 (by decide) ?_
        refine W.widen (k := kc + 3) (n := ks + 18) (by omega) (by omega) ?_
        exact hJ A_ring_4 A_buffer_4 A_firstPlace_4 A_forcedPlace_4 A_endPlace_4 A_wordsToFailure_4 A_opened_4 B_thrown_8 B_buffer_8 B_words_8 B_serials_8 B_lengths_8 B_kinds_8 B_owners_8 B_olders_8 B_links_8 B_voids_8 B_base_8 B_count_8 B_first_8 B_forced_8 B_end_8 B_closed_8 B_left_8 B_begun_8 B_begunLength_8 O_v_4 _ _ hw hP hD hS ls (lv_sub hl [2, 3, 4, 5, 6] rfl)
      · have hw := hw.2 c9
        refine lv_iconst (v := (0 : Int32)) hx hb dL_law_633 (by decide) ?_
        refine va_forget (fun q hq => hAe _ (hS.2.2 q hq)) ?_
        refine W.widen (k := 601024) (n := 7293034) (by omega) (by omega) ?_
        exact lw_ret hx hb hr hlocks dL_law_634
  · have hw := hw.2 c9
    refine lv_iconst (v := (0 : Int32)) hx hb dL_law_616 (by decide) ?_
    refine va_forget (fun q hq => hAe _ (hS.2.2 q hq)) ?_
    refine W.widen (k := 601024) (n := 7293034) (by omega) (by omega) ?_
    exact lw_ret hx hb hr hlocks dL_law_617
end
section
def wk_all (J : St_ABO → Prop) (L : Nat) (xs : Nat → Int32) (y4 : Int32) (A_ring : Nat → Int32) (A_buffer : Nat → Int32) (A_firstPlace : Int32) (A_forcedPlace : Int32) (A_endPlace : Int32) (A_wordsToFailure : Int32) (A_opened : Int32) (B_thrown : Int32) (B_buffer : Nat → Int32) (B_words : Nat → Int32) (B_serials : Nat → Int32) (B_lengths : Nat → Int32) (B_kinds : Nat → Int32) (B_owners : Nat → Int32) (B_olders : Nat → Int32) (B_links : Nat → Int32) (B_voids : Nat → Int32) (B_base : Int32) (B_count : Int32) (B_first : Int32) (B_forced : Int32) (B_end : Int32) (B_closed : Int32) (B_left : Int32) (B_begun : Int32) (B_begunLength : Int32) (O_v : Nat → Int64) : Prop :=
  (((xs y4.toNatClampNeg &&& (31 : Int32)) = (2 : Int32) → wk_2 J L xs y4 A_ring A_buffer A_firstPlace A_forcedPlace A_endPlace A_wordsToFailure A_opened B_thrown B_buffer B_words B_serials B_lengths B_kinds B_owners B_olders B_links B_voids B_base B_count B_first B_forced B_end B_closed B_left B_begun B_begunLength O_v) ∧ (¬ (xs y4.toNatClampNeg &&& (31 : Int32)) = (2 : Int32) → (((xs y4.toNatClampNeg &&& (31 : Int32)) = (14 : Int32) → wk_14 J L xs y4 A_ring A_buffer A_firstPlace A_forcedPlace A_endPlace A_wordsToFailure A_opened B_thrown B_buffer B_words B_serials B_lengths B_kinds B_owners B_olders B_links B_voids B_base B_count B_first B_forced B_end B_closed B_left B_begun B_begunLength O_v) ∧ (¬ (xs y4.toNatClampNeg &&& (31 : Int32)) = (14 : Int32) → False))))
theorem ll_go {L k : Nat} (hL : L ≤ 2560) (hk : 5 * k ≤ L + 4) (h : ¬ Int32.ofNat L - (5 : Int32) < nI (5 * k)) : 5 * k + 5 ≤ L := by
  have h1 : (nI L - nI 5).toInt = (L : Int) - (5 : Nat) := pk_sub_toInt (by omega) (by omega)
  have h2 : (nI (5 * k)).toInt = ((5 * k : Nat) : Int) := nI_toInt (by omega)
  apply Decidable.byContradiction
  intro hc
  apply h
  apply Int32.lt_iff_toInt_lt.mpr
  show (nI L - nI 5).toInt < (nI (5 * k)).toInt
  rw [h1, h2]
  omega
theorem ll_no {L k : Nat} (hL : L ≤ 2560) (h : 5 * k + 5 ≤ L) : ¬ Int32.ofNat L - (5 : Int32) < nI (5 * k) := by
  intro hc
  have h1 : (nI L - nI 5).toInt = (L : Int) - (5 : Nat) := pk_sub_toInt (by omega) (by omega)
  have h2 : (nI (5 * k)).toInt = ((5 * k : Nat) : Int) := nI_toInt (by omega)
  have h3 : (nI L - nI 5).toInt < (nI (5 * k)).toInt := Int32.lt_iff_toInt_lt.mp hc
  rw [h1, h2] at h3
  omega
set_option maxHeartbeats 8000000 in
set_option maxRecDepth 100000 in
theorem law_loop {p : Program} {l : Launch} {e : Env} {s : State} {m : MethodId} {below : List Frame} {meth : Method} {c : Code} (hl9 : l.stackTraces = false) {b L : Nat} {xs : Nat → Int32} (hL : L ≤ 2560) (C0 : lw_At p s m meth c b L xs) {A : Nat → Prop} (hAe : ∀ q : Nat, A q → s.heap.size ≤ q) (hA : ∀ q : Nat, s.heap.size ≤ q → A q) (hbA : ¬ A b) (hXW0 : XW A s) {dC : Nat → ClassId} {dI : Nat → Nat → Nat} {qA qA_ring qA_buffer qB qB_buffer qB_words qB_serials qB_lengths qB_kinds qB_owners qB_olders qB_links qB_voids qO : Nat} {cA_ring cA_buffer cB_buffer cB_words cB_serials cB_lengths cB_kinds cB_owners cB_olders cB_links cB_voids cO : ClassId} (hK : va_K (dC, dI) vwCl [(cA_ring, .int), (cA_buffer, .int), (cB_buffer, .int), (cB_words, .int), (cB_serials, .int), (cB_lengths, .int), (cB_kinds, .int), (cB_owners, .int), (cB_olders, .int), (cB_links, .int), (cB_voids, .boolean), (cO, .long)] s) (Rel : Nat → St_ABO → Prop)
    (hstep : ∀ (k : Nat) (A_ring : Nat → Int32) (A_buffer : Nat → Int32) (A_firstPlace : Int32) (A_forcedPlace : Int32) (A_endPlace : Int32) (A_wordsToFailure : Int32) (A_opened : Int32) (B_thrown : Int32) (B_buffer : Nat → Int32) (B_words : Nat → Int32) (B_serials : Nat → Int32) (B_lengths : Nat → Int32) (B_kinds : Nat → Int32) (B_owners : Nat → Int32) (B_olders : Nat → Int32) (B_links : Nat → Int32) (B_voids : Nat → Int32) (B_base : Int32) (B_count : Int32) (B_first : Int32) (B_forced : Int32) (B_end : Int32) (B_closed : Int32) (B_left : Int32) (B_begun : Int32) (B_begunLength : Int32) (O_v : Nat → Int64), Rel k (A_ring, A_buffer, A_firstPlace, A_forcedPlace, A_endPlace, A_wordsToFailure, A_opened, B_thrown, B_buffer, B_words, B_serials, B_lengths, B_kinds, B_owners, B_olders, B_links, B_voids, B_base, B_count, B_first, B_forced, B_end, B_closed, B_left, B_begun, B_begunLength, O_v) → 5 * k + 5 ≤ L → wk_all (fun st => Rel (k + 1) st) L xs (nI (5 * k)) A_ring A_buffer A_firstPlace A_forcedPlace A_endPlace A_wordsToFailure A_opened B_thrown B_buffer B_words B_serials B_lengths B_kinds B_owners B_olders B_links B_voids B_base B_count B_first B_forced B_end B_closed B_left B_begun B_begunLength O_v) (hfull : ∀ (k : Nat) (st : St_ABO), Rel k st → 5 * k + 5 ≤ L) :
    ∀ (n k : Nat) (A_ring : Nat → Int32) (A_buffer : Nat → Int32) (A_firstPlace : Int32) (A_forcedPlace : Int32) (A_endPlace : Int32) (A_wordsToFailure : Int32) (A_opened : Int32) (B_thrown : Int32) (B_buffer : Nat → Int32) (B_words : Nat → Int32) (B_serials : Nat → Int32) (B_lengths : Nat → Int32) (B_kinds : Nat → Int32) (B_owners : Nat → Int32) (B_olders : Nat → Int32) (B_links : Nat → Int32) (B_voids : Nat → Int32) (B_base : Int32) (B_count : Int32) (B_first : Int32) (B_forced : Int32) (B_end : Int32) (B_closed : Int32) (B_left : Int32) (B_begun : Int32) (B_begunLength : Int32) (O_v : Nat → Int64) (H : Heap) (locs : List Loc) (kc ks : Nat), L < 5 * k + 5 * n + 5 → 5 * k ≤ L + 4 → kc ≤ 14 + 3 * k → ks ≤ 162299 + 18 * k → Rel k (A_ring, A_buffer, A_firstPlace, A_forcedPlace, A_endPlace, A_wordsToFailure, A_opened, B_thrown, B_buffer, B_words, B_serials, B_lengths, B_kinds, B_owners, B_olders, B_links, B_voids, B_base, B_count, B_first, B_forced, B_end, B_closed, B_left, B_begun, B_begunLength, O_v) → va_P (dC, dI) vwCl [(qA, .inr (0, [.ref qA_ring, .ref qA_buffer, .int A_firstPlace, .int A_forcedPlace, .int A_endPlace, .int A_wordsToFailure, .int A_opened])), (qA_ring, .inl (cA_ring, 65536, .inl A_ring)), (qA_buffer, .inl (cA_buffer, 200, .inl A_buffer)), (qB, .inr (1, [.int B_thrown, .ref qB_buffer, .ref qB_words, .ref qB_serials, .ref qB_lengths, .ref qB_kinds, .ref qB_owners, .ref qB_olders, .ref qB_links, .ref qB_voids, .int B_base, .int B_count, .int B_first, .int B_forced, .int B_end, .int B_closed, .int B_left, .int B_begun, .int B_begunLength])), (qB_buffer, .inl (cB_buffer, 200, .inl B_buffer)), (qB_words, .inl (cB_words, 65536, .inl B_words)), (qB_serials, .inl (cB_serials, 4400, .inl B_serials)), (qB_lengths, .inl (cB_lengths, 4400, .inl B_lengths)), (qB_kinds, .inl (cB_kinds, 4400, .inl B_kinds)), (qB_owners, .inl (cB_owners, 4400, .inl B_owners)), (qB_olders, .inl (cB_olders, 4400, .inl B_olders)), (qB_links, .inl (cB_links, 4400, .inl B_links)), (qB_voids, .inl (cB_voids, 4400, .inl B_voids)), (qO, .inl (cO, 1, .inr (.inl O_v)))] H → va_D A [(qA, .inr (0, [.ref qA_ring, .ref qA_buffer, .int A_firstPlace, .int A_forcedPlace, .int A_endPlace, .int A_wordsToFailure, .int A_opened])), (qA_ring, .inl (cA_ring, 65536, .inl A_ring)), (qA_buffer, .inl (cA_buffer, 200, .inl A_buffer)), (qB, .inr (1, [.int B_thrown, .ref qB_buffer, .ref qB_words, .ref qB_serials, .ref qB_lengths, .ref qB_kinds, .ref qB_owners, .ref qB_olders, .ref qB_links, .ref qB_voids, .int B_base, .int B_count, .int B_first, .int B_forced, .int B_end, .int B_closed, .int B_left, .int B_begun, .int B_begunLength])), (qB_buffer, .inl (cB_buffer, 200, .inl B_buffer)), (qB_words, .inl (cB_words, 65536, .inl B_words)), (qB_serials, .inl (cB_serials, 4400, .inl B_serials)), (qB_lengths, .inl (cB_lengths, 4400, .inl B_lengths)), (qB_kinds, .inl (cB_kinds, 4400, .inl B_kinds)), (qB_owners, .inl (cB_owners, 4400, .inl B_owners)), (qB_olders, .inl (cB_olders, 4400, .inl B_olders)), (qB_links, .inl (cB_links, 4400, .inl B_links)), (qB_voids, .inl (cB_voids, 4400, .inl B_voids)), (qO, .inl (cO, 1, .inr (.inl O_v)))] → va_S A s.heap H locs → ∀ ls : Array Slot, lv_has ls 7 [(0, .ref b), (1, .ref qA), (2, .ref qB), (3, .ref qO), (4, .int (nI (5 * k)))] → W p l e room_1 s m #[Value.ref b] below meth c H locs kc ks (lw_Z below #[Value.ref b] s) (F0 m 23 ls []) := by
  obtain ⟨hx, hb, hr, hml, hown, hts, hX, hbl, hlocks, hgv⟩ := id C0
  intro n
  induction n with
  | zero =>
    intro k A_ring A_buffer A_firstPlace A_forcedPlace A_endPlace A_wordsToFailure A_opened B_thrown B_buffer B_words B_serials B_lengths B_kinds B_owners B_olders B_links B_voids B_base B_count B_first B_forced B_end B_closed B_left B_begun B_begunLength O_v H locs kc ks hn hk5 hkc hks hrel hP hD hS ls hl
    refine lv_iload hx hb dL_law_23 (lv_at hl 4 rfl) ?_
    refine lv_aload_n hx hb dL_law_25 rfl (lv_at hl 0 rfl) ?_
    refine va_slen hx hb hX hbl hbA hS dL_law_26 ?_
    refine lv_iconst (v := (5 : Int32)) hx hb dL_law_27 (by decide) ?_
    refine lv_isub hx hb dL_law_28 ?_
    refine lv_icmp_gt (tgt := 755) hx hb dL_law_29 (by decide) (fun c9 => ?_) (fun c9 => ?_)
    · exact absurd c9 (ll_no hL (hfull k _ hrel))
    · have h5 := ll_go hL hk5 c9
      omega
  | succ n ih =>
    intro k A_ring A_buffer A_firstPlace A_forcedPlace A_endPlace A_wordsToFailure A_opened B_thrown B_buffer B_words B_serials B_lengths B_kinds B_owners B_olders B_links B_voids B_base B_count B_first B_forced B_end B_closed B_left B_begun B_begunLength O_v H locs kc ks hn hk5 hkc hks hrel hP hD hS ls hl
    refine lv_iload hx hb dL_law_23 (lv_at hl 4 rfl) ?_
    refine lv_aload_n hx hb dL_law_25 rfl (lv_at hl 0 rfl) ?_
    refine va_slen hx hb hX hbl hbA hS dL_law_26 ?_
    refine lv_iconst (v := (5 : Int32)) hx hb dL_law_27 (by decide) ?_
    refine lv_isub hx hb dL_law_28 ?_
    refine lv_icmp_gt (tgt := 755) hx hb dL_law_29 (by decide) (fun c9 => ?_) (fun c9 => ?_)
    · exact absurd c9 (ll_no hL (hfull k _ hrel))
    · have h5 := ll_go hL hk5 c9
      have hJ : ∀ (A_ring : Nat → Int32) (A_buffer : Nat → Int32) (A_firstPlace : Int32) (A_forcedPlace : Int32) (A_endPlace : Int32) (A_wordsToFailure : Int32) (A_opened : Int32) (B_thrown : Int32) (B_buffer : Nat → Int32) (B_words : Nat → Int32) (B_serials : Nat → Int32) (B_lengths : Nat → Int32) (B_kinds : Nat → Int32) (B_owners : Nat → Int32) (B_olders : Nat → Int32) (B_links : Nat → Int32) (B_voids : Nat → Int32) (B_base : Int32) (B_count : Int32) (B_first : Int32) (B_forced : Int32) (B_end : Int32) (B_closed : Int32) (B_left : Int32) (B_begun : Int32) (B_begunLength : Int32) (O_v : Nat → Int64) (H : Heap) (locs : List Loc), Rel (k + 1) (A_ring, A_buffer, A_firstPlace, A_forcedPlace, A_endPlace, A_wordsToFailure, A_opened, B_thrown, B_buffer, B_words, B_serials, B_lengths, B_kinds, B_owners, B_olders, B_links, B_voids, B_base, B_count, B_first, B_forced, B_end, B_closed, B_left, B_begun, B_begunLength, O_v) → va_P (dC, dI) vwCl [(qA, .inr (0, [.ref qA_ring, .ref qA_buffer, .int A_firstPlace, .int A_forcedPlace, .int A_endPlace, .int A_wordsToFailure, .int A_opened])), (qA_ring, .inl (cA_ring, 65536, .inl A_ring)), (qA_buffer, .inl (cA_buffer, 200, .inl A_buffer)), (qB, .inr (1, [.int B_thrown, .ref qB_buffer, .ref qB_words, .ref qB_serials, .ref qB_lengths, .ref qB_kinds, .ref qB_owners, .ref qB_olders, .ref qB_links, .ref qB_voids, .int B_base, .int B_count, .int B_first, .int B_forced, .int B_end, .int B_closed, .int B_left, .int B_begun, .int B_begunLength])), (qB_buffer, .inl (cB_buffer, 200, .inl B_buffer)), (qB_words, .inl (cB_words, 65536, .inl B_words)), (qB_serials, .inl (cB_serials, 4400, .inl B_serials)), (qB_lengths, .inl (cB_lengths, 4400, .inl B_lengths)), (qB_kinds, .inl (cB_kinds, 4400, .inl B_kinds)), (qB_owners, .inl (cB_owners, 4400, .inl B_owners)), (qB_olders, .inl (cB_olders, 4400, .inl B_olders)), (qB_links, .inl (cB_links, 4400, .inl B_links)), (qB_voids, .inl (cB_voids, 4400, .inl B_voids)), (qO, .inl (cO, 1, .inr (.inl O_v)))] H → va_D A [(qA, .inr (0, [.ref qA_ring, .ref qA_buffer, .int A_firstPlace, .int A_forcedPlace, .int A_endPlace, .int A_wordsToFailure, .int A_opened])), (qA_ring, .inl (cA_ring, 65536, .inl A_ring)), (qA_buffer, .inl (cA_buffer, 200, .inl A_buffer)), (qB, .inr (1, [.int B_thrown, .ref qB_buffer, .ref qB_words, .ref qB_serials, .ref qB_lengths, .ref qB_kinds, .ref qB_owners, .ref qB_olders, .ref qB_links, .ref qB_voids, .int B_base, .int B_count, .int B_first, .int B_forced, .int B_end, .int B_closed, .int B_left, .int B_begun, .int B_begunLength])), (qB_buffer, .inl (cB_buffer, 200, .inl B_buffer)), (qB_words, .inl (cB_words, 65536, .inl B_words)), (qB_serials, .inl (cB_serials, 4400, .inl B_serials)), (qB_lengths, .inl (cB_lengths, 4400, .inl B_lengths)), (qB_kinds, .inl (cB_kinds, 4400, .inl B_kinds)), (qB_owners, .inl (cB_owners, 4400, .inl B_owners)), (qB_olders, .inl (cB_olders, 4400, .inl B_olders)), (qB_links, .inl (cB_links, 4400, .inl B_links)), (qB_voids, .inl (cB_voids, 4400, .inl B_voids)), (qO, .inl (cO, 1, .inr (.inl O_v)))] → va_S A s.heap H locs → ∀ ls : Array Slot, lv_has ls 7 [(0, .ref b), (1, .ref qA), (2, .ref qB), (3, .ref qO), (4, .int (nI (5 * k)))] → W p l e room_1 s m #[Value.ref b] below meth c H locs (kc + 3) (ks + 18) (lw_Z below #[Value.ref b] s) (F0 m 749 ls []) := by
        intro A_ring A_buffer A_firstPlace A_forcedPlace A_endPlace A_wordsToFailure A_opened B_thrown B_buffer B_words B_serials B_lengths B_kinds B_owners B_olders B_links B_voids B_base B_count B_first B_forced B_end B_closed B_left B_begun B_begunLength O_v H locs hrel hP hD hS ls hl
        refine lv_iinc (v := nI (5 * (k + 1))) (lv' := [(4, .int (nI (5 * (k + 1)))), (0, .ref b), (1, .ref qA), (2, .ref qB), (3, .ref qO)]) hx hb dL_law_749 hl (k := 4) rfl (by rw [show Int32.ofInt 5 = nI 5 from rfl, nI_add, show 5 * k + 5 = 5 * (k + 1) by omega]) (by decide) rfl (fun ls hl => ?_)
        refine lv_goto (tgt := 23) hx hb dL_law_752 (by decide) ?_
        exact ih (k + 1) A_ring A_buffer A_firstPlace A_forcedPlace A_endPlace A_wordsToFailure A_opened B_thrown B_buffer B_words B_serials B_lengths B_kinds B_owners B_olders B_links B_voids B_base B_count B_first B_forced B_end B_closed B_left B_begun B_begunLength O_v _ _ _ _ (by omega) (by omega) (by omega) (by omega) hrel hP hD hS ls (lv_sub hl [1, 2, 3, 4, 0] rfl)
      have hin : vp_in (nI (5 * k)) L := vp_in_nI (by omega) (by omega)
      refine lv_aload_n hx hb dL_law_32 rfl (lv_at hl 0 rfl) ?_
      refine lv_iload hx hb dL_law_33 (lv_at hl 4 rfl) ?_
      refine va_sld hx hb hX hbl hbA hS hin dL_law_35 ?_
      refine lv_bipush (v := (31 : Int32)) hx hb dL_law_36 (by decide) ?_
      refine lv_iand hx hb dL_law_38 ?_
      have hw := hstep k A_ring A_buffer A_firstPlace A_forcedPlace A_endPlace A_wordsToFailure A_opened B_thrown B_buffer B_words B_serials B_lengths B_kinds B_owners B_olders B_links B_voids B_base B_count B_first B_forced B_end B_closed B_left B_begun B_begunLength O_v hrel h5
      unfold wk_all at hw
      generalize hxv : xs (nI (5 * k)).toNatClampNeg &&& (31 : Int32) = xv at hw ⊢
      rcases Classical.em (xv = (2 : Int32)) with c9_0 | c9_0
      · refine lv_tableIn (tgt := 210) (off := 171) hx hb dL_law_39 (by rw [c9_0]; decide) (by rw [c9_0]; decide) (by rw [c9_0]; rfl) (by decide) ?_
        exact lc_2 hl9 C0 hAe hA hbA hXW0 hK (by omega) (by omega) (nI (5 * k)) _ hJ A_ring A_buffer A_firstPlace A_forcedPlace A_endPlace A_wordsToFailure A_opened B_thrown B_buffer B_words B_serials B_lengths B_kinds B_owners B_olders B_links B_voids B_base B_count B_first B_forced B_end B_closed B_left B_begun B_begunLength O_v H locs (hw.1 c9_0) hP hD hS ls hl
      have hw := hw.2 c9_0
      rcases Classical.em (xv = (14 : Int32)) with c9_1 | c9_1
      · refine lv_tableIn (tgt := 558) (off := 519) hx hb dL_law_39 (by rw [c9_1]; decide) (by rw [c9_1]; decide) (by rw [c9_1]; rfl) (by decide) ?_
        exact lc_14 hl9 C0 hAe hA hbA hXW0 hK (by omega) (by omega) (nI (5 * k)) _ hJ A_ring A_buffer A_firstPlace A_forcedPlace A_endPlace A_wordsToFailure A_opened B_thrown B_buffer B_words B_serials B_lengths B_kinds B_owners B_olders B_links B_voids B_base B_count B_first B_forced B_end B_closed B_left B_begun B_begunLength O_v H locs (hw.1 c9_1) hP hD hS ls hl
      have hw := hw.2 c9_1
      exact False.elim hw
end
section
set_option maxHeartbeats 4000000 in
set_option maxRecDepth 100000 in
theorem xw_start {b : Nat} {s : State} {A : Nat → Prop} (hts : ∀ w ∈ lw_tbl, w.before #[Value.ref b] s = true) (hgv : (Jvm.Cond.and given_1 narrow_1).before #[Value.ref b] s = true) (hA : ∀ a : Nat, a < s.heap.size → ¬ A a) : XW A s := by
  have hs := flat_of_before _ hgv
  refine ⟨?_, ?_, ?_, ?_, ?_, ?_⟩
  · intro E hE
    simp only [xw_ex, List.mem_cons, List.not_mem_nil, or_false] at hE
    rcases hE with rfl | rfl | rfl | rfl
    · exact va_Nw.of rfl (hts (.castable "java/lang/IllegalStateException" "java/lang/IllegalStateException") (List.mem_of_getElem? (i := 106) (by decide +kernel)))
    · exact va_Nw.of rfl (hts (.castable "java/lang/IllegalArgumentException" "java/lang/IllegalArgumentException") (List.mem_of_getElem? (i := 210) (by decide +kernel)))
    · exact va_Nw.of rfl (hts (.castable "java/lang/IndexOutOfBoundsException" "java/lang/IndexOutOfBoundsException") (List.mem_of_getElem? (i := 175) (by decide +kernel)))
    · exact va_Nw.of rfl (hts (.castable "java/util/NoSuchElementException" "java/util/NoSuchElementException") (List.mem_of_getElem? (i := 281) (by decide +kernel)))
  · intro Y hY
    simp only [xw_su, List.mem_cons, List.not_mem_nil, or_false] at hY
    rcases hY with rfl | rfl | rfl
    · exact va_Nw.of rfl (hts (.declares ⟨"java/lang/RuntimeException", "<init>", "(Ljava/lang/String;)V"⟩) (List.mem_of_getElem? (i := 108) (by decide +kernel)))
    · exact va_Nw.of rfl (hts (.declares ⟨"java/lang/Exception", "<init>", "(Ljava/lang/String;)V"⟩) (List.mem_of_getElem? (i := 110) (by decide +kernel)))
    · exact va_Nw.of rfl (hts (.declares ⟨"java/lang/Throwable", "<init>", "(Ljava/lang/String;)V"⟩) (List.mem_of_getElem? (i := 112) (by decide +kernel)))
  · intro q hq
    simp only [xw_st, List.mem_cons, List.not_mem_nil, or_false] at hq
    rcases hq with rfl | rfl | rfl | rfl | rfl | rfl | rfl | rfl | rfl | rfl | rfl | rfl | rfl | rfl
    · obtain ⟨a, _, _, _, ha, _⟩ := Cond.exactly_spec (hs (.exactly (.string "LogBook" 39) "java/lang/String") (by decide +kernel))
      exact ⟨a, vk_R.of (hts (.stringRef "LogBook" 39 "the buffer has words 0 .. 199") (List.mem_of_getElem? (i := 182) (by decide +kernel))) ha⟩
    · obtain ⟨a, _, _, _, ha, _⟩ := Cond.exactly_spec (hs (.exactly (.string "LogBook" 54) "java/lang/String") (by decide +kernel))
      exact ⟨a, vk_R.of (hts (.stringRef "LogBook" 54 "kinds are 0 .. 15") (List.mem_of_getElem? (i := 224) (by decide +kernel))) ha⟩
    · obtain ⟨a, _, _, _, ha, _⟩ := Cond.exactly_spec (hs (.exactly (.string "LogBook" 57) "java/lang/String") (by decide +kernel))
      exact ⟨a, vk_R.of (hts (.stringRef "LogBook" 57 "a content has 0 .. 200 words") (List.mem_of_getElem? (i := 225) (by decide +kernel))) ha⟩
    · obtain ⟨a, _, _, _, ha, _⟩ := Cond.exactly_spec (hs (.exactly (.string "LogBook" 59) "java/lang/String") (by decide +kernel))
      exact ⟨a, vk_R.of (hts (.stringRef "LogBook" 59 "a link is NONE or a place before the end") (List.mem_of_getElem? (i := 226) (by decide +kernel))) ha⟩
    · obtain ⟨a, _, _, _, ha, _⟩ := Cond.exactly_spec (hs (.exactly (.string "LogBook" 82) "java/lang/String") (by decide +kernel))
      exact ⟨a, vk_R.of (hts (.stringRef "LogBook" 82 "the record is not wholly forced") (List.mem_of_getElem? (i := 319) (by decide +kernel))) ha⟩
    · obtain ⟨a, _, _, _, ha, _⟩ := Cond.exactly_spec (hs (.exactly (.string "LogBook" 103) "java/lang/String") (by decide +kernel))
      exact ⟨a, vk_R.of (hts (.stringRef "LogBook" 103 "what is 0 .. 4") (List.mem_of_getElem? (i := 381) (by decide +kernel))) ha⟩
    · obtain ⟨a, _, _, _, ha, _⟩ := Cond.exactly_spec (hs (.exactly (.string "LogBook" 105) "java/lang/String") (by decide +kernel))
      exact ⟨a, vk_R.of (hts (.stringRef "LogBook" 105 "the record has no such word") (List.mem_of_getElem? (i := 389) (by decide +kernel))) ha⟩
    · obtain ⟨a, _, _, _, ha, _⟩ := Cond.exactly_spec (hs (.exactly (.string "LogBook" 107) "java/lang/String") (by decide +kernel))
      exact ⟨a, vk_R.of (hts (.stringRef "LogBook" 107 "k is not below 0") (List.mem_of_getElem? (i := 397) (by decide +kernel))) ha⟩
    · obtain ⟨a, _, _, _, ha, _⟩ := Cond.exactly_spec (hs (.exactly (.string "LogBook" 113) "java/lang/String") (by decide +kernel))
      exact ⟨a, vk_R.of (hts (.stringRef "LogBook" 113 "which is 0 .. 2") (List.mem_of_getElem? (i := 424) (by decide +kernel))) ha⟩
    · obtain ⟨a, _, _, _, ha, _⟩ := Cond.exactly_spec (hs (.exactly (.string "LogBook" 115) "java/lang/String") (by decide +kernel))
      exact ⟨a, vk_R.of (hts (.stringRef "LogBook" 115 "n is NONE or a number of words") (List.mem_of_getElem? (i := 432) (by decide +kernel))) ha⟩
    · obtain ⟨a, _, _, _, ha, _⟩ := Cond.exactly_spec (hs (.exactly (.string "LogBook" 120) "java/lang/String") (by decide +kernel))
      exact ⟨a, vk_R.of (hts (.stringRef "LogBook" 120 "the book is open") (List.mem_of_getElem? (i := 440) (by decide +kernel))) ha⟩
    · obtain ⟨a, _, _, _, ha, _⟩ := Cond.exactly_spec (hs (.exactly (.string "LogBook" 125) "java/lang/String") (by decide +kernel))
      exact ⟨a, vk_R.of (hts (.stringRef "LogBook" 125 "the book is closed") (List.mem_of_getElem? (i := 146) (by decide +kernel))) ha⟩
    · obtain ⟨a, _, _, _, ha, _⟩ := Cond.exactly_spec (hs (.exactly (.string "LogBook" 127) "java/lang/String") (by decide +kernel))
      exact ⟨a, vk_R.of (hts (.stringRef "LogBook" 127 "owners are 0 .. 7") (List.mem_of_getElem? (i := 217) (by decide +kernel))) ha⟩
    · obtain ⟨a, _, _, _, ha, _⟩ := Cond.exactly_spec (hs (.exactly (.string "LogBook" 135) "java/lang/String") (by decide +kernel))
      exact ⟨a, vk_R.of (hts (.stringRef "LogBook" 135 "no record has this serial") (List.mem_of_getElem? (i := 288) (by decide +kernel))) ha⟩
  · intro q hq
    simp only [xw_nc, List.mem_cons, List.not_mem_nil, or_false] at hq
    rcases hq with rfl | rfl | rfl | rfl
    · exact va_Nc.of (hs (.not (.castable "java/lang/IndexOutOfBoundsException" "java/lang/IllegalStateException")) (by decide +kernel))
    · exact va_Nc.of (hs (.not (.castable "java/lang/IllegalArgumentException" "java/lang/IllegalStateException")) (by decide +kernel))
    · exact va_Nc.of (hs (.not (.castable "java/util/NoSuchElementException" "java/lang/IllegalStateException")) (by decide +kernel))
    · exact va_Nc.of (hs (.not (.castable "java/lang/IndexOutOfBoundsException" "java/util/NoSuchElementException")) (by decide +kernel))
  · exact vx_Zqof (hts (.laysStatic "java/lang/Throwable" "UNASSIGNED_STACK" "[Ljava/lang/StackTraceElement;") (List.mem_of_getElem? (i := 131) (by decide +kernel))) (hts (.initialized "java/lang/Throwable") (List.mem_of_getElem? (i := 35) (by decide +kernel))) (hs (.isRef (.static "java/lang/Throwable" "UNASSIGNED_STACK" "[Ljava/lang/StackTraceElement;")) (by decide +kernel)) hA
  · exact vx_Zqof (hts (.laysStatic "java/lang/Throwable" "SUPPRESSED_SENTINEL" "Ljava/util/List;") (List.mem_of_getElem? (i := 133) (by decide +kernel))) (hts (.initialized "java/lang/Throwable") (List.mem_of_getElem? (i := 35) (by decide +kernel))) (hs (.isRef (.static "java/lang/Throwable" "SUPPRESSED_SENTINEL" "Ljava/util/List;")) (by decide +kernel)) hA
set_option maxHeartbeats 8000000 in
set_option maxRecDepth 100000 in
/-- THE LAW, from its entry -/
theorem whole_start9 {p : Program} {e : Env} {s : State} {m : MethodId} {below : List Frame} {meth : Method} {c : Code} (l : Launch) (hl9 : l.stackTraces = false) {b L : Nat} {xs : Nat → Int32} (hL : L ≤ 2560) (Rel : Nat → St_ABO → Prop)
    (hrel0 : Rel 0 ((fun _ => 0), (fun _ => 0), (0 : Int32), (0 : Int32), (0 : Int32), (-1 : Int32), (1 : Int32), (0 : Int32), (fun _ => 0), (fun _ => 0), (fun _ => 0), (fun _ => 0), (fun _ => 0), (fun _ => 0), (fun _ => 0), (fun _ => 0), (fun _ => 0), (0 : Int32), (0 : Int32), (0 : Int32), (0 : Int32), (0 : Int32), (0 : Int32), (-1 : Int32), (-1 : Int32), (0 : Int32), (fun _ => 0))) (hstep : ∀ (k : Nat) (A_ring : Nat → Int32) (A_buffer : Nat → Int32) (A_firstPlace : Int32) (A_forcedPlace : Int32) (A_endPlace : Int32) (A_wordsToFailure : Int32) (A_opened : Int32) (B_thrown : Int32) (B_buffer : Nat → Int32) (B_words : Nat → Int32) (B_serials : Nat → Int32) (B_lengths : Nat → Int32) (B_kinds : Nat → Int32) (B_owners : Nat → Int32) (B_olders : Nat → Int32) (B_links : Nat → Int32) (B_voids : Nat → Int32) (B_base : Int32) (B_count : Int32) (B_first : Int32) (B_forced : Int32) (B_end : Int32) (B_closed : Int32) (B_left : Int32) (B_begun : Int32) (B_begunLength : Int32) (O_v : Nat → Int64), Rel k (A_ring, A_buffer, A_firstPlace, A_forcedPlace, A_endPlace, A_wordsToFailure, A_opened, B_thrown, B_buffer, B_words, B_serials, B_lengths, B_kinds, B_owners, B_olders, B_links, B_voids, B_base, B_count, B_first, B_forced, B_end, B_closed, B_left, B_begun, B_begunLength, O_v) → 5 * k + 5 ≤ L → wk_all (fun st => Rel (k + 1) st) L xs (nI (5 * k)) A_ring A_buffer A_firstPlace A_forcedPlace A_endPlace A_wordsToFailure A_opened B_thrown B_buffer B_words B_serials B_lengths B_kinds B_owners B_olders B_links B_voids B_base B_count B_first B_forced B_end B_closed B_left B_begun B_begunLength O_v) (hfull : ∀ (k : Nat) (st : St_ABO), Rel k st → 5 * k + 5 ≤ L)
    (C0 : lw_At p s m meth c b L xs) : W p l e room_1 s m #[Value.ref b] below meth c s.heap [] 0 0 (lw_Z below #[Value.ref b] s) (entryFrame m ([Value.ref b] : List Value).toArray 7) := by
  obtain ⟨hx, hb, hr, hml, hown, hts, hX, hbl, hlocks, hgv⟩ := id C0
  have hown : s.vm.findClass RL = some m.cls := hown
  have hbg : ∀ w ∈ bigW, w.before #[Value.ref b] s = true := fun w h => hts w (List.mem_filter.mp h).1
  obtain ⟨A, hAd⟩ : ∃ A : Nat → Prop, A = fun q : Nat => s.heap.size ≤ q := ⟨_, rfl⟩
  have hA : ∀ q : Nat, s.heap.size ≤ q → A q := fun _ h => by rw [hAd]; exact h
  have hAe : ∀ q : Nat, A q → s.heap.size ≤ q := fun _ h => by rw [hAd] at h; exact h
  have hbA : ¬ A b := fun h => absurd (hAe b h) (Nat.not_le.mpr hbl)
  have hXW0 : XW A s := xw_start hts hgv (fun a ha h => absurd (hAe a h) (Nat.not_le.mpr ha))
  obtain ⟨c0, iS0, hKn0⟩ := u_known (C := RX0) (T := TX0) (N := 7) (n := 7) hbg in_X0 (hbg _ kw_139)
  obtain ⟨c1, iS1, hKn1⟩ := u_known (C := RX1) (T := TX1) (N := 19) (n := 19) hbg in_X1 (hbg _ kw_140)
  obtain ⟨dC, dI, hKc⟩ : ∃ (dC : Nat → ClassId) (dI : Nat → Nat → Nat), ∀ (k : Nat) (q : vw_C), vwCl[k]? = some q → u_Kn s q.1 q.2.1 q.2.2 (dC k) (dI k) := by
    refine ⟨fun k => if k = 0 then c0 else c1, fun k => if k = 0 then iS0 else iS1, ?_⟩
    intro k q hq
    match k, hq with
    | 0, hq => cases hq; exact hKn0
    | 1, hq => cases hq; exact hKn1
    | k + 2, hq => simp [vwCl] at hq
  have hS : va_S A s.heap s.heap [] := va_S.rf
  have hK : va_K (dC, dI) vwCl [] s := ⟨hKc, fun k q h => by simp at h⟩
  have hP : va_P (dC, dI) vwCl [] s.heap := fun k q h => by simp at h
  have hD : va_D A [] := ⟨fun i j p q h => by simp at h, fun k q h => by simp at h⟩
  have hl := lv_entry ([.ref b]) (n := 7) (Nat.le_of_ble_eq_true rfl)
  rw [lg_entry_eq]
  generalize (lg_sl ([.ref b]) ++ List.replicate (7 - (lg_sl ([.ref b])).length) Slot.unset).toArray = ls at hl ⊢
  have hl : lv_has ls 7 [(0, .ref b)] := hl
  refine va_new (ci := 0) (fs := [.null, .null, .int 0, .int 0, .int 0, .int 0, .int 0]) (C := RX0) (T := TX0) (N := 7) hx hb hbg in_X0 tyX0 tyX0_ok hown (hbg _ kw_141) (hbg _ kw_139) (hbg _ kw_6) hK hP hD hS hA rfl (fun j hj => by rcases (show j = 0 ∨ j = 1 ∨ j = 2 ∨ j = 3 ∨ j = 4 ∨ j = 5 ∨ j = 6 by omega) with rfl | rfl | rfl | rfl | rfl | rfl | rfl <;> rfl) (Nat.le_of_ble_eq_true rfl) (Nat.le_of_ble_eq_true rfl) dL_law_0 (fun qA H hP hD hS => ?_)
  have hP : va_P (dC, dI) vwCl [(qA, .inr (0, [.null, .null, .int 0, .int 0, .int 0, .int 0, .int 0]))] H := hP
  have hD : va_D A [(qA, .inr (0, [.null, .null, .int 0, .int 0, .int 0, .int 0, .int 0]))] := hD
  refine W.widen (k := 1) (n := 7) (by omega) (by omega) ?_
  refine lv_dup hx hb dL_law_3 rfl ?_
  have hPc := hP.sub (ws' := [(qA, .inr (0, [.null, .null, .int 0, .int 0, .int 0, .int 0, .int 0]))]) [0] rfl
  have hDc := hD.sub (ws' := [(qA, .inr (0, [.null, .null, .int 0, .int 0, .int 0, .int 0, .int 0]))]) [0] (by decide) rfl
  have hKc2 := hK.sub (tys' := []) [] rfl
  have hFc := va_free (wc := [(qA, .inr (0, [.null, .null, .int 0, .int 0, .int 0, .int 0, .int 0]))]) hD hS hA [0] rfl
  refine va_callv (va_runI (As := []) (rest := [.ref qA]) ⟨hx, hb, hml, hown, hbg⟩ (met_X0_init l dC dI qA H.size) (cwI 0 hbg gI_X0_init rfl rfl rfl (hbg _ kw_6) (hbg _ kw_143) (hbg _ kw_144) rfl (by decide +kernel) ⟨Nat.le_of_ble_eq_true rfl, Nat.le_of_ble_eq_true rfl⟩) ⟨fun a U g mk q => by obtain ⟨q0, q1, qP, qK, qD⟩ := q; exact ⟨q0, q1, qP, va_K.moved (u := U) (U := U.calling g mk a) (Vm.Alike.refl U.vm) qK, qD⟩, fun U hU hW => ⟨rfl, by rw [hU], by rw [hU]; exact hPc, va_K.moved hW.alike hKc2, hDc.weaken (fun _ _ _ _ => trivial)⟩⟩ rfl rfl hl.1 rfl (lv_room (Nat.le_of_ble_eq_true rfl)) dL_law_4 ⟨Nat.le_of_ble_eq_true rfl, Nat.le_of_ble_eq_true rfl⟩) hS (fun q _ h => hFc q h) hFc (fun u t H1 locs ht hvm hw hB hz1 hk1 hS => ?_)
  obtain ⟨qA_ring, qA_buffer, cA_ring, cA_buffer, hP1, hK1, hD1⟩ := hB
  rw [ht] at hP1
  have hK1 := va_K.moved hvm.symm hK1
  obtain ⟨hP, hD⟩ := va_join (wr := []) (w1 := [(qA, .inr (0, [.ref qA_ring, .ref qA_buffer, .int (0 : Int32), .int (0 : Int32), .int (0 : Int32), .int (-1 : Int32), .int (1 : Int32)])), (qA_ring, .inl (cA_ring, 65536, .inl (fun _ => 0))), (qA_buffer, .inl (cA_buffer, 200, .inl (fun _ => 0)))]) hP hD [0] [] rfl rfl (by decide) (by decide) hk1 hFc hP1 hD1
  have hK := hK.app hK1
  generalize H1 = H at hP hS ⊢
  have hP : va_P (dC, dI) vwCl [(qA, .inr (0, [.ref qA_ring, .ref qA_buffer, .int (0 : Int32), .int (0 : Int32), .int (0 : Int32), .int (-1 : Int32), .int (1 : Int32)])), (qA_ring, .inl (cA_ring, 65536, .inl (fun _ => 0))), (qA_buffer, .inl (cA_buffer, 200, .inl (fun _ => 0)))] H := hP
  have hD : va_D A [(qA, .inr (0, [.ref qA_ring, .ref qA_buffer, .int (0 : Int32), .int (0 : Int32), .int (0 : Int32), .int (-1 : Int32), .int (1 : Int32)])), (qA_ring, .inl (cA_ring, 65536, .inl (fun _ => 0))), (qA_buffer, .inl (cA_buffer, 200, .inl (fun _ => 0)))] := hD
  have hK : va_K (dC, dI) vwCl [(cA_ring, .int), (cA_buffer, .int)] s := hK
  refine W.widen (k := 3) (n := 65743) (by omega) (by omega) ?_
  refine lv_astore_n (lv' := [(1, .ref qA), (0, .ref b)]) hx hb dL_law_7 rfl hl (by decide) rfl (fun ls hl => ?_)
  refine va_new (ci := 1) (fs := [.int 0, .null, .null, .null, .null, .null, .null, .null, .null, .null, .int 0, .int 0, .int 0, .int 0, .int 0, .int 0, .int 0, .int 0, .int 0]) (C := RX1) (T := TX1) (N := 19) hx hb hbg in_X1 tyX1 tyX1_ok hown (hbg _ kw_145) (hbg _ kw_140) (hbg _ kw_73) hK hP hD hS hA rfl (fun j hj => by rcases (show j = 0 ∨ j = 1 ∨ j = 2 ∨ j = 3 ∨ j = 4 ∨ j = 5 ∨ j = 6 ∨ j = 7 ∨ j = 8 ∨ j = 9 ∨ j = 10 ∨ j = 11 ∨ j = 12 ∨ j = 13 ∨ j = 14 ∨ j = 15 ∨ j = 16 ∨ j = 17 ∨ j = 18 by omega) with rfl | rfl | rfl | rfl | rfl | rfl | rfl | rfl | rfl | rfl | rfl | rfl | rfl | rfl | rfl | rfl | rfl | rfl | rfl <;> rfl) (Nat.le_of_ble_eq_true rfl) (Nat.le_of_ble_eq_true rfl) dL_law_8 (fun qB H hP hD hS => ?_)
  have hP : va_P (dC, dI) vwCl [(qA, .inr (0, [.ref qA_ring, .ref qA_buffer, .int (0 : Int32), .int (0 : Int32), .int (0 : Int32), .int (-1 : Int32), .int (1 : Int32)])), (qA_ring, .inl (cA_ring, 65536, .inl (fun _ => 0))), (qA_buffer, .inl (cA_buffer, 200, .inl (fun _ => 0))), (qB, .inr (1, [.int 0, .null, .null, .null, .null, .null, .null, .null, .null, .null, .int 0, .int 0, .int 0, .int 0, .int 0, .int 0, .int 0, .int 0, .int 0]))] H := hP
  have hD : va_D A [(qA, .inr (0, [.ref qA_ring, .ref qA_buffer, .int (0 : Int32), .int (0 : Int32), .int (0 : Int32), .int (-1 : Int32), .int (1 : Int32)])), (qA_ring, .inl (cA_ring, 65536, .inl (fun _ => 0))), (qA_buffer, .inl (cA_buffer, 200, .inl (fun _ => 0))), (qB, .inr (1, [.int 0, .null, .null, .null, .null, .null, .null, .null, .null, .null, .int 0, .int 0, .int 0, .int 0, .int 0, .int 0, .int 0, .int 0, .int 0]))] := hD
  refine W.widen (k := 4) (n := 65762) (by omega) (by omega) ?_
  refine lv_dup hx hb dL_law_11 rfl ?_
  have hPc := hP.sub (ws' := [(qB, .inr (1, [.int 0, .null, .null, .null, .null, .null, .null, .null, .null, .null, .int 0, .int 0, .int 0, .int 0, .int 0, .int 0, .int 0, .int 0, .int 0]))]) [3] rfl
  have hDc := hD.sub (ws' := [(qB, .inr (1, [.int 0, .null, .null, .null, .null, .null, .null, .null, .null, .null, .int 0, .int 0, .int 0, .int 0, .int 0, .int 0, .int 0, .int 0, .int 0]))]) [3] (by decide) rfl
  have hKc2 := hK.sub (tys' := []) [] rfl
  have hFc := va_free (wc := [(qB, .inr (1, [.int 0, .null, .null, .null, .null, .null, .null, .null, .null, .null, .int 0, .int 0, .int 0, .int 0, .int 0, .int 0, .int 0, .int 0, .int 0]))]) hD hS hA [3] rfl
  refine va_callv (va_runI (As := []) (rest := [.ref qB]) ⟨hx, hb, hml, hown, hbg⟩ (met_X1_init l dC dI qB H.size) (cwI 0 hbg gI_X1_init rfl rfl rfl (hbg _ kw_73) (hbg _ kw_147) (hbg _ kw_148) rfl (by decide +kernel) ⟨Nat.le_of_ble_eq_true rfl, Nat.le_of_ble_eq_true rfl⟩) ⟨fun a U g mk q => by obtain ⟨q0, q1, qP, qK, qD⟩ := q; exact ⟨q0, q1, qP, va_K.moved (u := U) (U := U.calling g mk a) (Vm.Alike.refl U.vm) qK, qD⟩, fun U hU hW => ⟨rfl, by rw [hU], by rw [hU]; exact hPc, va_K.moved hW.alike hKc2, hDc.weaken (fun _ _ _ _ => trivial)⟩⟩ rfl rfl hl.1 rfl (lv_room (Nat.le_of_ble_eq_true rfl)) dL_law_12 ⟨Nat.le_of_ble_eq_true rfl, Nat.le_of_ble_eq_true rfl⟩) hS (fun q _ h => hFc q h) hFc (fun u t H1 locs ht hvm hw hB hz1 hk1 hS => ?_)
  obtain ⟨qB_buffer, qB_words, qB_serials, qB_lengths, qB_kinds, qB_owners, qB_olders, qB_links, qB_voids, cB_buffer, cB_words, cB_serials, cB_lengths, cB_kinds, cB_owners, cB_olders, cB_links, cB_voids, hP1, hK1, hD1⟩ := hB
  rw [ht] at hP1
  have hK1 := va_K.moved hvm.symm hK1
  obtain ⟨hP, hD⟩ := va_join (wr := [(qA, .inr (0, [.ref qA_ring, .ref qA_buffer, .int (0 : Int32), .int (0 : Int32), .int (0 : Int32), .int (-1 : Int32), .int (1 : Int32)])), (qA_ring, .inl (cA_ring, 65536, .inl (fun _ => 0))), (qA_buffer, .inl (cA_buffer, 200, .inl (fun _ => 0)))]) (w1 := [(qB, .inr (1, [.int (0 : Int32), .ref qB_buffer, .ref qB_words, .ref qB_serials, .ref qB_lengths, .ref qB_kinds, .ref qB_owners, .ref qB_olders, .ref qB_links, .ref qB_voids, .int (0 : Int32), .int (0 : Int32), .int (0 : Int32), .int (0 : Int32), .int (0 : Int32), .int (0 : Int32), .int (-1 : Int32), .int (-1 : Int32), .int (0 : Int32)])), (qB_buffer, .inl (cB_buffer, 200, .inl (fun _ => 0))), (qB_words, .inl (cB_words, 65536, .inl (fun _ => 0))), (qB_serials, .inl (cB_serials, 4400, .inl (fun _ => 0))), (qB_lengths, .inl (cB_lengths, 4400, .inl (fun _ => 0))), (qB_kinds, .inl (cB_kinds, 4400, .inl (fun _ => 0))), (qB_owners, .inl (cB_owners, 4400, .inl (fun _ => 0))), (qB_olders, .inl (cB_olders, 4400, .inl (fun _ => 0))), (qB_links, .inl (cB_links, 4400, .inl (fun _ => 0))), (qB_voids, .inl (cB_voids, 4400, .inl (fun _ => 0)))]) hP hD [3] [0, 1, 2] rfl rfl (by decide) (by decide) hk1 hFc hP1 hD1
  have hK := hK.app hK1
  generalize H1 = H at hP hS ⊢
  have hP : va_P (dC, dI) vwCl [(qA, .inr (0, [.ref qA_ring, .ref qA_buffer, .int (0 : Int32), .int (0 : Int32), .int (0 : Int32), .int (-1 : Int32), .int (1 : Int32)])), (qA_ring, .inl (cA_ring, 65536, .inl (fun _ => 0))), (qA_buffer, .inl (cA_buffer, 200, .inl (fun _ => 0))), (qB, .inr (1, [.int (0 : Int32), .ref qB_buffer, .ref qB_words, .ref qB_serials, .ref qB_lengths, .ref qB_kinds, .ref qB_owners, .ref qB_olders, .ref qB_links, .ref qB_voids, .int (0 : Int32), .int (0 : Int32), .int (0 : Int32), .int (0 : Int32), .int (0 : Int32), .int (0 : Int32), .int (-1 : Int32), .int (-1 : Int32), .int (0 : Int32)])), (qB_buffer, .inl (cB_buffer, 200, .inl (fun _ => 0))), (qB_words, .inl (cB_words, 65536, .inl (fun _ => 0))), (qB_serials, .inl (cB_serials, 4400, .inl (fun _ => 0))), (qB_lengths, .inl (cB_lengths, 4400, .inl (fun _ => 0))), (qB_kinds, .inl (cB_kinds, 4400, .inl (fun _ => 0))), (qB_owners, .inl (cB_owners, 4400, .inl (fun _ => 0))), (qB_olders, .inl (cB_olders, 4400, .inl (fun _ => 0))), (qB_links, .inl (cB_links, 4400, .inl (fun _ => 0))), (qB_voids, .inl (cB_voids, 4400, .inl (fun _ => 0)))] H := hP
  have hD : va_D A [(qA, .inr (0, [.ref qA_ring, .ref qA_buffer, .int (0 : Int32), .int (0 : Int32), .int (0 : Int32), .int (-1 : Int32), .int (1 : Int32)])), (qA_ring, .inl (cA_ring, 65536, .inl (fun _ => 0))), (qA_buffer, .inl (cA_buffer, 200, .inl (fun _ => 0))), (qB, .inr (1, [.int (0 : Int32), .ref qB_buffer, .ref qB_words, .ref qB_serials, .ref qB_lengths, .ref qB_kinds, .ref qB_owners, .ref qB_olders, .ref qB_links, .ref qB_voids, .int (0 : Int32), .int (0 : Int32), .int (0 : Int32), .int (0 : Int32), .int (0 : Int32), .int (0 : Int32), .int (-1 : Int32), .int (-1 : Int32), .int (0 : Int32)])), (qB_buffer, .inl (cB_buffer, 200, .inl (fun _ => 0))), (qB_words, .inl (cB_words, 65536, .inl (fun _ => 0))), (qB_serials, .inl (cB_serials, 4400, .inl (fun _ => 0))), (qB_lengths, .inl (cB_lengths, 4400, .inl (fun _ => 0))), (qB_kinds, .inl (cB_kinds, 4400, .inl (fun _ => 0))), (qB_owners, .inl (cB_owners, 4400, .inl (fun _ => 0))), (qB_olders, .inl (cB_olders, 4400, .inl (fun _ => 0))), (qB_links, .inl (cB_links, 4400, .inl (fun _ => 0))), (qB_voids, .inl (cB_voids, 4400, .inl (fun _ => 0)))] := hD
  have hK : va_K (dC, dI) vwCl [(cA_ring, .int), (cA_buffer, .int), (cB_buffer, .int), (cB_words, .int), (cB_serials, .int), (cB_lengths, .int), (cB_kinds, .int), (cB_owners, .int), (cB_olders, .int), (cB_links, .int), (cB_voids, .boolean)] s := hK
  refine W.widen (k := 13) (n := 162298) (by omega) (by omega) ?_
  refine lv_astore_n (lv' := [(2, .ref qB), (1, .ref qA), (0, .ref b)]) hx hb dL_law_15 rfl hl (by decide) rfl (fun ls hl => ?_)
  refine lv_iconst (v := (1 : Int32)) hx hb dL_law_16 (by decide) ?_
  refine va_newa (atype := .long) hx hb (hbg _ kw_149) (ty := .long) rfl hK hP hD hS hA (N' := 1) (a0 := (1, .inr (.inl (fun _ => 0)))) (fun _ => rfl) (by decide) (by decide) (by decide) (Nat.le_of_ble_eq_true rfl) (Nat.le_of_ble_eq_true rfl) dL_law_17 (fun qO cO H hK hP hD hS => ?_)
  have hP : va_P (dC, dI) vwCl [(qA, .inr (0, [.ref qA_ring, .ref qA_buffer, .int (0 : Int32), .int (0 : Int32), .int (0 : Int32), .int (-1 : Int32), .int (1 : Int32)])), (qA_ring, .inl (cA_ring, 65536, .inl (fun _ => 0))), (qA_buffer, .inl (cA_buffer, 200, .inl (fun _ => 0))), (qB, .inr (1, [.int (0 : Int32), .ref qB_buffer, .ref qB_words, .ref qB_serials, .ref qB_lengths, .ref qB_kinds, .ref qB_owners, .ref qB_olders, .ref qB_links, .ref qB_voids, .int (0 : Int32), .int (0 : Int32), .int (0 : Int32), .int (0 : Int32), .int (0 : Int32), .int (0 : Int32), .int (-1 : Int32), .int (-1 : Int32), .int (0 : Int32)])), (qB_buffer, .inl (cB_buffer, 200, .inl (fun _ => 0))), (qB_words, .inl (cB_words, 65536, .inl (fun _ => 0))), (qB_serials, .inl (cB_serials, 4400, .inl (fun _ => 0))), (qB_lengths, .inl (cB_lengths, 4400, .inl (fun _ => 0))), (qB_kinds, .inl (cB_kinds, 4400, .inl (fun _ => 0))), (qB_owners, .inl (cB_owners, 4400, .inl (fun _ => 0))), (qB_olders, .inl (cB_olders, 4400, .inl (fun _ => 0))), (qB_links, .inl (cB_links, 4400, .inl (fun _ => 0))), (qB_voids, .inl (cB_voids, 4400, .inl (fun _ => 0))), (qO, .inl (cO, 1, .inr (.inl (fun _ => 0))))] H := hP
  have hD : va_D A [(qA, .inr (0, [.ref qA_ring, .ref qA_buffer, .int (0 : Int32), .int (0 : Int32), .int (0 : Int32), .int (-1 : Int32), .int (1 : Int32)])), (qA_ring, .inl (cA_ring, 65536, .inl (fun _ => 0))), (qA_buffer, .inl (cA_buffer, 200, .inl (fun _ => 0))), (qB, .inr (1, [.int (0 : Int32), .ref qB_buffer, .ref qB_words, .ref qB_serials, .ref qB_lengths, .ref qB_kinds, .ref qB_owners, .ref qB_olders, .ref qB_links, .ref qB_voids, .int (0 : Int32), .int (0 : Int32), .int (0 : Int32), .int (0 : Int32), .int (0 : Int32), .int (0 : Int32), .int (-1 : Int32), .int (-1 : Int32), .int (0 : Int32)])), (qB_buffer, .inl (cB_buffer, 200, .inl (fun _ => 0))), (qB_words, .inl (cB_words, 65536, .inl (fun _ => 0))), (qB_serials, .inl (cB_serials, 4400, .inl (fun _ => 0))), (qB_lengths, .inl (cB_lengths, 4400, .inl (fun _ => 0))), (qB_kinds, .inl (cB_kinds, 4400, .inl (fun _ => 0))), (qB_owners, .inl (cB_owners, 4400, .inl (fun _ => 0))), (qB_olders, .inl (cB_olders, 4400, .inl (fun _ => 0))), (qB_links, .inl (cB_links, 4400, .inl (fun _ => 0))), (qB_voids, .inl (cB_voids, 4400, .inl (fun _ => 0))), (qO, .inl (cO, 1, .inr (.inl (fun _ => 0))))] := hD
  have hK : va_K (dC, dI) vwCl [(cA_ring, .int), (cA_buffer, .int), (cB_buffer, .int), (cB_words, .int), (cB_serials, .int), (cB_lengths, .int), (cB_kinds, .int), (cB_owners, .int), (cB_olders, .int), (cB_links, .int), (cB_voids, .boolean), (cO, .long)] s := hK
  refine W.widen (k := 14) (n := 162299) (by omega) (by omega) ?_
  refine lv_astore_n (lv' := [(3, .ref qO), (2, .ref qB), (1, .ref qA), (0, .ref b)]) hx hb dL_law_19 rfl hl (by decide) rfl (fun ls hl => ?_)
  refine lv_iconst (v := (0 : Int32)) hx hb dL_law_20 (by decide) ?_
  refine lv_istore (lv' := [(4, .int (0 : Int32)), (3, .ref qO), (2, .ref qB), (1, .ref qA), (0, .ref b)]) hx hb dL_law_21 hl (by decide) rfl (fun ls hl => ?_)
  exact law_loop hl9 hL C0 hAe hA hbA hXW0 hK Rel hstep hfull (L + 1) 0 (fun _ => 0) (fun _ => 0) (0 : Int32) (0 : Int32) (0 : Int32) (-1 : Int32) (1 : Int32) (0 : Int32) (fun _ => 0) (fun _ => 0) (fun _ => 0) (fun _ => 0) (fun _ => 0) (fun _ => 0) (fun _ => 0) (fun _ => 0) (fun _ => 0) (0 : Int32) (0 : Int32) (0 : Int32) (0 : Int32) (0 : Int32) (0 : Int32) (-1 : Int32) (-1 : Int32) (0 : Int32) (fun _ => 0) _ _ _ _ (by omega) (by omega) (by omega) (by omega) hrel0 hP hD hS ls (lv_sub hl [4, 3, 2, 1, 0] rfl)
end
section
def rf_l : List Int32 := [2, 0, 1, (-1), 0, 2, 0, 0, 0, 0, 14, 0, 1, 1, 0]
def rf_x : Nat → Int32 := fun j => rf_l.getD j 0
def rf_2 : St_ABO → Prop := fun st => match st with | (A_ring, A_buffer, A_firstPlace, A_forcedPlace, A_endPlace, A_wordsToFailure, A_opened, B_thrown, B_buffer, B_words, B_serials, B_lengths, B_kinds, B_owners, B_olders, B_links, B_voids, B_base, B_count, B_first, B_forced, B_end, B_closed, B_left, B_begun, B_begunLength, O_v) => wk_all (fun _ => False) 15 rf_x (nI 10) A_ring A_buffer A_firstPlace A_forcedPlace A_endPlace A_wordsToFailure A_opened B_thrown B_buffer B_words B_serials B_lengths B_kinds B_owners B_olders B_links B_voids B_base B_count B_first B_forced B_end B_closed B_left B_begun B_begunLength O_v
def rf_1 : St_ABO → Prop := fun st => match st with | (A_ring, A_buffer, A_firstPlace, A_forcedPlace, A_endPlace, A_wordsToFailure, A_opened, B_thrown, B_buffer, B_words, B_serials, B_lengths, B_kinds, B_owners, B_olders, B_links, B_voids, B_base, B_count, B_first, B_forced, B_end, B_closed, B_left, B_begun, B_begunLength, O_v) => wk_all rf_2 15 rf_x (nI 5) A_ring A_buffer A_firstPlace A_forcedPlace A_endPlace A_wordsToFailure A_opened B_thrown B_buffer B_words B_serials B_lengths B_kinds B_owners B_olders B_links B_voids B_base B_count B_first B_forced B_end B_closed B_left B_begun B_begunLength O_v
def rf_0 : St_ABO → Prop := fun st => match st with | (A_ring, A_buffer, A_firstPlace, A_forcedPlace, A_endPlace, A_wordsToFailure, A_opened, B_thrown, B_buffer, B_words, B_serials, B_lengths, B_kinds, B_owners, B_olders, B_links, B_voids, B_base, B_count, B_first, B_forced, B_end, B_closed, B_left, B_begun, B_begunLength, O_v) => wk_all rf_1 15 rf_x (nI 0) A_ring A_buffer A_firstPlace A_forcedPlace A_endPlace A_wordsToFailure A_opened B_thrown B_buffer B_words B_serials B_lengths B_kinds B_owners B_olders B_links B_voids B_base B_count B_first B_forced B_end B_closed B_left B_begun B_begunLength O_v
def rf_R : Nat → St_ABO → Prop
  | 0, st => rf_0 st
  | 1, st => rf_1 st
  | 2, st => rf_2 st
  | _ + 3, _ => False
theorem rf_full : ∀ (k : Nat) (st : St_ABO), rf_R k st → 5 * k + 5 ≤ 15 := by
  intro k st h
  match k, h with
  | 0, _ => omega
  | 1, _ => omega
  | 2, _ => omega
  | _ + 3, h => exact h.elim
theorem rf_step : ∀ (k : Nat) (A_ring : Nat → Int32) (A_buffer : Nat → Int32) (A_firstPlace : Int32) (A_forcedPlace : Int32) (A_endPlace : Int32) (A_wordsToFailure : Int32) (A_opened : Int32) (B_thrown : Int32) (B_buffer : Nat → Int32) (B_words : Nat → Int32) (B_serials : Nat → Int32) (B_lengths : Nat → Int32) (B_kinds : Nat → Int32) (B_owners : Nat → Int32) (B_olders : Nat → Int32) (B_links : Nat → Int32) (B_voids : Nat → Int32) (B_base : Int32) (B_count : Int32) (B_first : Int32) (B_forced : Int32) (B_end : Int32) (B_closed : Int32) (B_left : Int32) (B_begun : Int32) (B_begunLength : Int32) (O_v : Nat → Int64), rf_R k (A_ring, A_buffer, A_firstPlace, A_forcedPlace, A_endPlace, A_wordsToFailure, A_opened, B_thrown, B_buffer, B_words, B_serials, B_lengths, B_kinds, B_owners, B_olders, B_links, B_voids, B_base, B_count, B_first, B_forced, B_end, B_closed, B_left, B_begun, B_begunLength, O_v) → 5 * k + 5 ≤ 15 → wk_all (fun st => rf_R (k + 1) st) 15 rf_x (nI (5 * k)) A_ring A_buffer A_firstPlace A_forcedPlace A_endPlace A_wordsToFailure A_opened B_thrown B_buffer B_words B_serials B_lengths B_kinds B_owners B_olders B_links B_voids B_base B_count B_first B_forced B_end B_closed B_left B_begun B_begunLength O_v := by
  intro k A_ring A_buffer A_firstPlace A_forcedPlace A_endPlace A_wordsToFailure A_opened B_thrown B_buffer B_words B_serials B_lengths B_kinds B_owners B_olders B_links B_voids B_base B_count B_first B_forced B_end B_closed B_left B_begun B_begunLength O_v h _
  match k, h with
  | 0, h => exact h
  | 1, h => exact h
  | 2, h => exact h
  | _ + 3, h => exact h.elim
end
section
theorem rf_all {P : Int32 → Prop} {e : Int32} (h : P e) : ∀ v, v = e → P v := fun _ hv => hv ▸ h
theorem rf_no {c A : Prop} (h : ¬ c) : c → A := fun k => absurd k h
set_option maxHeartbeats 8000000 in
set_option maxRecDepth 100000 in
theorem rf_run : rf_R 0 ((fun _ => 0), (fun _ => 0), (0 : Int32), (0 : Int32), (0 : Int32), (-1 : Int32), (1 : Int32), (0 : Int32), (fun _ => 0), (fun _ => 0), (fun _ => 0), (fun _ => 0), (fun _ => 0), (fun _ => 0), (fun _ => 0), (fun _ => 0), (fun _ => 0), (0 : Int32), (0 : Int32), (0 : Int32), (0 : Int32), (0 : Int32), (0 : Int32), (-1 : Int32), (-1 : Int32), (0 : Int32), (fun _ => 0)) := by
  repeat' first
    | exact True.intro
    | refine rf_all ?_
    | exact rf_no (by decide +kernel)
    | refine fun _ => ?_
    | refine And.intro ?_ ?_
    | refine Exists.intro 8 ?_
    | exact Eq.refl _
    | decide +kernel
end
section
def rf_s : State := start1.aboutOf #[.int 2, .int 0, .int 1, .int (-1), .int 0, .int 2, .int 0, .int 0, .int 0, .int 0, .int 14, .int 0, .int 1, .int 1, .int 0]
theorem rf_tabs : ((Cond.code x code maxLocals ret :: tables_1).all fun c => c.onTables || c.before start1.args0 rf_s) = true := by decide +kernel
theorem rf_words : ∀ c ∈ (Cond.code x code maxLocals ret :: tables_1), c.before start1.args0 rf_s = true := by
  intro c hc
  rcases Bool.or_eq_true_iff.mp (List.all_eq_true.mp rf_tabs c hc) with ht | ht
  case inr => exact ht
  have e := Cond.onTables_vm (A := start1.args0) (A' := start1.args0) (U := rf_s) (U' := start1.about) start1.about.vm c ht
  exact e.trans (start1.words c hc)
set_option maxRecDepth 16384 in
theorem rf_at : AtStart classFile x code maxLocals ret World_1 tables_1 room_1 Calls_1 rest_1 Pre_1 launch0 start1.p0 start1.e0 rf_s ⟨0, 0⟩ start1.args0 Lib.HandBits.below0 :=
  ⟨lists_1, trivial, launch0.admits_env _ _ _, launch0.least_env, fairChoices_fair.cas, fairChoices_fair.clock, rfl, by decide +kernel, by decide +kernel,
    (Spec.applies_iff rfl).mpr ⟨rfl, rfl, rfl, by decide +kernel, by decide +kernel, by decide +kernel, launch0.hasRoom_least _ room_1 (by decide +kernel) (by decide +kernel) (by decide +kernel) (by decide +kernel) (by decide +kernel) (by decide +kernel), atoms_intro rf_words⟩,
    trivial, (show rest_1_c.before start1.args0 rf_s = true by decide +kernel), (show (Cond.and given_1 narrow_1).before start1.args0 rf_s = true by decide +kernel)⟩
theorem rf_ints : rf_s.IntsAt 0 rf_l := ⟨{ cls := 14, slots := (rf_l.map Value.int).toArray, vm := .none }, rfl, by decide +kernel, ⟨(fun k h => nomatch h), start1.cArr "[I" 13 .int, rfl, 13, rfl⟩, by decide⟩
end
section
theorem whole_start {p : Program} {e : Env} {s : State} {m : MethodId} {below : List Frame} {meth : Method} {c : Code} (l : Launch) (hl9 : l.stackTraces = false) {b : Nat} (C0 : lw_At p s m meth c b rf_l.length (fun j => rf_l.getD j 0)) : W p l e room_1 s m #[Value.ref b] below meth c s.heap [] 0 0 (lw_Z below #[Value.ref b] s) (entryFrame m ([Value.ref b] : List Value).toArray 7) :=
  whole_start9 (L := 15) (xs := rf_x) l hl9 (by decide) rf_R rf_run rf_step rf_full C0
set_option maxHeartbeats 4000000 in
theorem lw_walk (l : Launch) (hl9 : l.stackTraces = false) (b : Addr) : MetFree l x (headSpec (Jvm.Cond.code x code maxLocals ret :: tables_1) room_1) (lw_P b rf_l) (fun _ _ _ _ _ => True) lw_Q := by
  refine MetFree.of_bodyS (code := code) (maxLocals := maxLocals) (ret := ret) (by decide) ?_ ?_
  · intro args s m h hn
    obtain ⟨meth, c, h1, h2, h3, h4, h5, h6, -, -⟩ := Cond.code_spec hn (atoms_spec (ws := Jvm.Cond.code x code maxLocals ret :: tables_1) h _ List.mem_cons_self)
    exact ⟨meth, c, h1, h2, h3, h4, h5, h6⟩
  · intro p e s m args below meth c s₁ B hml0 hP _
    obtain ⟨rfl, hx, hbd, hgv⟩ := hP
    obtain ⟨scr, harrAt, hlist, hof, hsmall⟩ := hx
    obtain ⟨hcb, hkn, -, -⟩ := State.arrayAt?_spec harrAt
    have hown : s.vm.findClass R_law = some m.cls := findClass_of_methodNamed B.named
    have hts0 : ∀ c ∈ (Jvm.Cond.code x code maxLocals ret :: tables_1), c.before #[Value.ref b] s = true := atoms_spec (ws := Jvm.Cond.code x code maxLocals ret :: tables_1) B.pre
    have hts : ∀ w ∈ lw_tbl, w.before #[Value.ref b] s = true := k2_hts_sels lw_privs (fun w hw => hts0 w (List.mem_cons_of_mem _ hw)) lw_privs_ok
    have hml : c.maxLocals = 7 := B.maxLocals_eq (hts0 _ List.mem_cons_self)
    have X₀ : Stand p l e room_1 s m #[Value.ref b] below meth c s₁ [] 0 0 := Stand.of_body B
    have hh0 : s₁.heap = s.heap := by rw [B.state]; rfl
    have hsz : scr.slots.size = rf_l.length := by rw [← Array.length_toList, hlist, List.length_map]
    have hval : ∀ j : Nat, j < rf_l.length → scr.slots[j]? = some (.int (rf_l.getD j 0)) := fun j hj => by
      rw [← Array.getElem?_toList, hlist]
      simp [hj]
    have hbl : b < s.heap.size := (Array.getElem?_eq_some_iff.mp hcb).1
    have hX : va_X b rf_l.length (fun j => rf_l.getD j 0) s s.heap := ⟨scr, hcb, hof, hkn, hsz, hval⟩
    have K : W p l e room_1 s m #[Value.ref b] below meth c s₁.heap [] 0 0 (lw_Z below #[Value.ref b] s) (entryFrame m ([Value.ref b] : List Value).toArray 7) := by
      rw [hh0]
      exact whole_start l hl9 ⟨B.exec, B.bytes, B.returns, hml, hown, hts, hX, hbl, B.notSynchronized, hgv⟩
    obtain ⟨t, a1, o, b1, b2, b3⟩ := K s₁ rfl X₀
    exact ⟨t, o, a1, b1, b2, b3⟩
/-- the statement's own refutation: at the script rf_l the law returns, and answers 0 -/
theorem rf_refuted : RefutedClaimed_1_2 := by
  obtain ⟨hL, hW, had, hle, hcas, hclk, hfr, hfit, hheap, happ, hcalls, hrest, hpre⟩ := rf_at
  have hP : lw_P 0 rf_l start1.args0 rf_s := ⟨rfl, rf_ints, by decide, hpre⟩
  obtain ⟨k, o, h1, h2, h3, hQ⟩ := lw_walk launch0 (by decide +kernel) 0 start1.p0 start1.e0 had hcas hclk rf_s ⟨0, 0⟩ start1.args0 Lib.HandBits.below0 hfr ((Spec.applies_iff_loose hfr).mp happ).1 hP trivial
  obtain ⟨rfl, hF⟩ := hQ
  refine ⟨launch0, start1.p0, start1.e0, rf_s, ⟨0, 0⟩, start1.args0, Lib.HandBits.below0, rfl, rf_at, k, _, h1, h2, h3, ?_⟩
  intro hp
  have h0 := Cond.after_iff.mp hp.1
  rw [show limb_1_2 = Cond.eq .result (.int 1) from rfl, Cond.eq_ints (x := 0) (y := 1) rfl rfl] at h0
  simp at h0
theorem rf_not : ¬ Claimed_1_2 := fun hA => by
  obtain ⟨l, p, e, s, m, args, below, hfl, ⟨hL, hW, had, _, hcas, hclk, hfr, hfit, hheap, happ, hcalls, hrest, hpre⟩, n, o, hin, _, hend, hnot⟩ := rf_refuted
  obtain ⟨k, q, hin9, _, hend9, hpost⟩ := hA l hfl hL hW p e had hcas hclk s m args below hfr hfit hheap happ ⟨hcalls, hrest, hpre⟩
  obtain ⟨rfl, rfl⟩ := the_end_unique (f := fun j => stepsAlone p.tables e j s) hin hend hin9 hend9
  exact hnot hpost
theorem rf_none : ¬ (Claimed_1_1 ∧ Claimed_1_2) := fun h => rf_not h.2
end
