section
-- ===== PART A: goes FIRST, ahead of the names: the tables' words, and 'selects' of the private methods out of them =====
/-- a private method of a class that the tables say can be made, by its rows of tables_1 -/
def lw_okq (q : MethodName × Nat) : Prop := (q.1.cls ≠ "java/lang/invoke/MethodHandle" ∧ q.1.cls ≠ "java/lang/invoke/VarHandle") ∧ Cond.instantiable q.1.cls q.2 ∈ tables_1 ∧ Cond.privateMethod q.1 ∈ tables_1 ∧ Cond.instanceMethod q.1 ∈ tables_1
theorem lw_p0 : lw_okq (⟨"LogBook", "losePower", "()V"⟩, 7) := ⟨⟨by decide +kernel, by decide +kernel⟩, List.mem_of_getElem? (i := 12) (by decide +kernel), List.mem_of_getElem? (i := 48) (by decide +kernel), List.mem_of_getElem? (i := 49) (by decide +kernel)⟩
theorem lw_p1 : lw_okq (⟨"LogBook", "fillBuffer", "(II)V"⟩, 7) := ⟨⟨by decide +kernel, by decide +kernel⟩, List.mem_of_getElem? (i := 12) (by decide +kernel), List.mem_of_getElem? (i := 52) (by decide +kernel), List.mem_of_getElem? (i := 53) (by decide +kernel)⟩
theorem lw_p2 : lw_okq (⟨"LogBook", "requireOpen", "()V"⟩, 7) := ⟨⟨by decide +kernel, by decide +kernel⟩, List.mem_of_getElem? (i := 12) (by decide +kernel), List.mem_of_getElem? (i := 69) (by decide +kernel), List.mem_of_getElem? (i := 70) (by decide +kernel)⟩
theorem lw_p3 : lw_okq (⟨"java/lang/Throwable", "fillInStackTrace", "(I)Ljava/lang/Throwable;"⟩, 6) := ⟨⟨by decide +kernel, by decide +kernel⟩, List.mem_of_getElem? (i := 112) (by decide +kernel), List.mem_of_getElem? (i := 110) (by decide +kernel), List.mem_of_getElem? (i := 111) (by decide +kernel)⟩
theorem lw_p4 : lw_okq (⟨"LogBook", "requireOwner", "(I)V"⟩, 7) := ⟨⟨by decide +kernel, by decide +kernel⟩, List.mem_of_getElem? (i := 12) (by decide +kernel), List.mem_of_getElem? (i := 173) (by decide +kernel), List.mem_of_getElem? (i := 174) (by decide +kernel)⟩
theorem lw_p5 : lw_okq (⟨"LogBook", "lastRecordOf", "(I)I"⟩, 7) := ⟨⟨by decide +kernel, by decide +kernel⟩, List.mem_of_getElem? (i := 12) (by decide +kernel), List.mem_of_getElem? (i := 196) (by decide +kernel), List.mem_of_getElem? (i := 197) (by decide +kernel)⟩
theorem lw_p6 : lw_okq (⟨"LogBook", "lastRecordBefore", "(I)I"⟩, 7) := ⟨⟨by decide +kernel, by decide +kernel⟩, List.mem_of_getElem? (i := 12) (by decide +kernel), List.mem_of_getElem? (i := 200) (by decide +kernel), List.mem_of_getElem? (i := 201) (by decide +kernel)⟩
theorem lw_p7 : lw_okq (⟨"LogBook", "wordAt", "(I)I"⟩, 7) := ⟨⟨by decide +kernel, by decide +kernel⟩, List.mem_of_getElem? (i := 12) (by decide +kernel), List.mem_of_getElem? (i := 204) (by decide +kernel), List.mem_of_getElem? (i := 205) (by decide +kernel)⟩
theorem lw_p8 : lw_okq (⟨"LogBook", "ownerAt", "(I)I"⟩, 7) := ⟨⟨by decide +kernel, by decide +kernel⟩, List.mem_of_getElem? (i := 12) (by decide +kernel), List.mem_of_getElem? (i := 212) (by decide +kernel), List.mem_of_getElem? (i := 213) (by decide +kernel)⟩
theorem lw_p9 : lw_okq (⟨"LogBook", "addWord", "(I)V"⟩, 7) := ⟨⟨by decide +kernel, by decide +kernel⟩, List.mem_of_getElem? (i := 12) (by decide +kernel), List.mem_of_getElem? (i := 216) (by decide +kernel), List.mem_of_getElem? (i := 217) (by decide +kernel)⟩
theorem lw_p10 : lw_okq (⟨"LogBook", "addContent", "(I)V"⟩, 7) := ⟨⟨by decide +kernel, by decide +kernel⟩, List.mem_of_getElem? (i := 12) (by decide +kernel), List.mem_of_getElem? (i := 220) (by decide +kernel), List.mem_of_getElem? (i := 221) (by decide +kernel)⟩
theorem lw_p11 : lw_okq (⟨"LogBook", "requireRecord", "(I)V"⟩, 7) := ⟨⟨by decide +kernel, by decide +kernel⟩, List.mem_of_getElem? (i := 12) (by decide +kernel), List.mem_of_getElem? (i := 232) (by decide +kernel), List.mem_of_getElem? (i := 233) (by decide +kernel)⟩
theorem lw_p12 : lw_okq (⟨"LogBook", "isRecord", "(I)Z"⟩, 7) := ⟨⟨by decide +kernel, by decide +kernel⟩, List.mem_of_getElem? (i := 12) (by decide +kernel), List.mem_of_getElem? (i := 236) (by decide +kernel), List.mem_of_getElem? (i := 237) (by decide +kernel)⟩
theorem lw_p13 : lw_okq (⟨"LogBook", "behind", "(I)I"⟩, 7) := ⟨⟨by decide +kernel, by decide +kernel⟩, List.mem_of_getElem? (i := 12) (by decide +kernel), List.mem_of_getElem? (i := 240) (by decide +kernel), List.mem_of_getElem? (i := 241) (by decide +kernel)⟩
theorem lw_p14 : lw_okq (⟨"LogBook", "isVoid", "(I)Z"⟩, 7) := ⟨⟨by decide +kernel, by decide +kernel⟩, List.mem_of_getElem? (i := 12) (by decide +kernel), List.mem_of_getElem? (i := 244) (by decide +kernel), List.mem_of_getElem? (i := 245) (by decide +kernel)⟩
theorem lw_p15 : lw_okq (⟨"LogBook", "writeUpTo", "(I)I"⟩, 7) := ⟨⟨by decide +kernel, by decide +kernel⟩, List.mem_of_getElem? (i := 12) (by decide +kernel), List.mem_of_getElem? (i := 264) (by decide +kernel), List.mem_of_getElem? (i := 265) (by decide +kernel)⟩
def lw_privs_1 : List (MethodName × Nat) := [(⟨"LogBook", "losePower", "()V"⟩, 7), (⟨"LogBook", "fillBuffer", "(II)V"⟩, 7), (⟨"LogBook", "requireOpen", "()V"⟩, 7), (⟨"java/lang/Throwable", "fillInStackTrace", "(I)Ljava/lang/Throwable;"⟩, 6), (⟨"LogBook", "requireOwner", "(I)V"⟩, 7), (⟨"LogBook", "lastRecordOf", "(I)I"⟩, 7), (⟨"LogBook", "lastRecordBefore", "(I)I"⟩, 7), (⟨"LogBook", "wordAt", "(I)I"⟩, 7), (⟨"LogBook", "ownerAt", "(I)I"⟩, 7), (⟨"LogBook", "addWord", "(I)V"⟩, 7), (⟨"LogBook", "addContent", "(I)V"⟩, 7), (⟨"LogBook", "requireRecord", "(I)V"⟩, 7), (⟨"LogBook", "isRecord", "(I)Z"⟩, 7), (⟨"LogBook", "behind", "(I)I"⟩, 7), (⟨"LogBook", "isVoid", "(I)Z"⟩, 7), (⟨"LogBook", "writeUpTo", "(I)I"⟩, 7)]
theorem lw_r1 : ∀ q ∈ lw_privs_1, lw_okq q := List.forall_mem_cons.mpr ⟨lw_p0, List.forall_mem_cons.mpr ⟨lw_p1, List.forall_mem_cons.mpr ⟨lw_p2, List.forall_mem_cons.mpr ⟨lw_p3, List.forall_mem_cons.mpr ⟨lw_p4, List.forall_mem_cons.mpr ⟨lw_p5, List.forall_mem_cons.mpr ⟨lw_p6, List.forall_mem_cons.mpr ⟨lw_p7, List.forall_mem_cons.mpr ⟨lw_p8, List.forall_mem_cons.mpr ⟨lw_p9, List.forall_mem_cons.mpr ⟨lw_p10, List.forall_mem_cons.mpr ⟨lw_p11, List.forall_mem_cons.mpr ⟨lw_p12, List.forall_mem_cons.mpr ⟨lw_p13, List.forall_mem_cons.mpr ⟨lw_p14, List.forall_mem_cons.mpr ⟨lw_p15, fun _ h => absurd h List.not_mem_nil⟩⟩⟩⟩⟩⟩⟩⟩⟩⟩⟩⟩⟩⟩⟩⟩
theorem lw_p16 : lw_okq (⟨"LogBook", "firstRecordFrom", "(I)I"⟩, 7) := ⟨⟨by decide +kernel, by decide +kernel⟩, List.mem_of_getElem? (i := 12) (by decide +kernel), List.mem_of_getElem? (i := 296) (by decide +kernel), List.mem_of_getElem? (i := 297) (by decide +kernel)⟩
theorem lw_p17 : lw_okq (⟨"LogBook", "kindAt", "(I)I"⟩, 7) := ⟨⟨by decide +kernel, by decide +kernel⟩, List.mem_of_getElem? (i := 12) (by decide +kernel), List.mem_of_getElem? (i := 342) (by decide +kernel), List.mem_of_getElem? (i := 343) (by decide +kernel)⟩
theorem lw_p18 : lw_okq (⟨"LogBook", "contentWords", "(I)I"⟩, 7) := ⟨⟨by decide +kernel, by decide +kernel⟩, List.mem_of_getElem? (i := 12) (by decide +kernel), List.mem_of_getElem? (i := 346) (by decide +kernel), List.mem_of_getElem? (i := 347) (by decide +kernel)⟩
theorem lw_p19 : lw_okq (⟨"LogBook", "kthOnTheWay", "(III)I"⟩, 7) := ⟨⟨by decide +kernel, by decide +kernel⟩, List.mem_of_getElem? (i := 12) (by decide +kernel), List.mem_of_getElem? (i := 367) (by decide +kernel), List.mem_of_getElem? (i := 368) (by decide +kernel)⟩
theorem lw_p20 : lw_okq (⟨"LogBook", "isAskedFor", "(III)Z"⟩, 7) := ⟨⟨by decide +kernel, by decide +kernel⟩, List.mem_of_getElem? (i := 12) (by decide +kernel), List.mem_of_getElem? (i := 371) (by decide +kernel), List.mem_of_getElem? (i := 372) (by decide +kernel)⟩
theorem lw_p21 : lw_okq (⟨"LogBook", "stopBehind", "(I)I"⟩, 7) := ⟨⟨by decide +kernel, by decide +kernel⟩, List.mem_of_getElem? (i := 12) (by decide +kernel), List.mem_of_getElem? (i := 375) (by decide +kernel), List.mem_of_getElem? (i := 376) (by decide +kernel)⟩
theorem lw_p22 : lw_okq (⟨"LogBook", "addVoidRest", "()V"⟩, 7) := ⟨⟨by decide +kernel, by decide +kernel⟩, List.mem_of_getElem? (i := 12) (by decide +kernel), List.mem_of_getElem? (i := 410) (by decide +kernel), List.mem_of_getElem? (i := 411) (by decide +kernel)⟩
theorem lw_p23 : lw_okq (⟨"LogBookModel", "refused", "(ZZZ)Z"⟩, 19) := ⟨⟨by decide +kernel, by decide +kernel⟩, List.mem_of_getElem? (i := 414) (by decide +kernel), List.mem_of_getElem? (i := 488) (by decide +kernel), List.mem_of_getElem? (i := 489) (by decide +kernel)⟩
theorem lw_p24 : lw_okq (⟨"LogBookModel", "fail", "()V"⟩, 19) := ⟨⟨by decide +kernel, by decide +kernel⟩, List.mem_of_getElem? (i := 414) (by decide +kernel), List.mem_of_getElem? (i := 496) (by decide +kernel), List.mem_of_getElem? (i := 497) (by decide +kernel)⟩
theorem lw_p25 : lw_okq (⟨"LogBookModel", "endOf", "(I)I"⟩, 19) := ⟨⟨by decide +kernel, by decide +kernel⟩, List.mem_of_getElem? (i := 414) (by decide +kernel), List.mem_of_getElem? (i := 500) (by decide +kernel), List.mem_of_getElem? (i := 501) (by decide +kernel)⟩
theorem lw_p26 : lw_okq (⟨"LogBookModel", "addRow", "(IIZ)V"⟩, 19) := ⟨⟨by decide +kernel, by decide +kernel⟩, List.mem_of_getElem? (i := 414) (by decide +kernel), List.mem_of_getElem? (i := 512) (by decide +kernel), List.mem_of_getElem? (i := 513) (by decide +kernel)⟩
theorem lw_p27 : lw_okq (⟨"LogBookModel", "latestOf", "(I)I"⟩, 19) := ⟨⟨by decide +kernel, by decide +kernel⟩, List.mem_of_getElem? (i := 414) (by decide +kernel), List.mem_of_getElem? (i := 531) (by decide +kernel), List.mem_of_getElem? (i := 532) (by decide +kernel)⟩
theorem lw_p28 : lw_okq (⟨"LogBookModel", "rowOf", "(I)I"⟩, 19) := ⟨⟨by decide +kernel, by decide +kernel⟩, List.mem_of_getElem? (i := 414) (by decide +kernel), List.mem_of_getElem? (i := 539) (by decide +kernel), List.mem_of_getElem? (i := 540) (by decide +kernel)⟩
theorem lw_p29 : lw_okq (⟨"LogBookModel", "forceTo", "(I)I"⟩, 19) := ⟨⟨by decide +kernel, by decide +kernel⟩, List.mem_of_getElem? (i := 414) (by decide +kernel), List.mem_of_getElem? (i := 543) (by decide +kernel), List.mem_of_getElem? (i := 544) (by decide +kernel)⟩
theorem lw_p30 : lw_okq (⟨"LogBookModel", "canWrite", "()Z"⟩, 19) := ⟨⟨by decide +kernel, by decide +kernel⟩, List.mem_of_getElem? (i := 414) (by decide +kernel), List.mem_of_getElem? (i := 547) (by decide +kernel), List.mem_of_getElem? (i := 548) (by decide +kernel)⟩
theorem lw_p31 : lw_okq (⟨"LogBookModel", "seek", "(III)I"⟩, 19) := ⟨⟨by decide +kernel, by decide +kernel⟩, List.mem_of_getElem? (i := 414) (by decide +kernel), List.mem_of_getElem? (i := 563) (by decide +kernel), List.mem_of_getElem? (i := 564) (by decide +kernel)⟩
def lw_privs_2 : List (MethodName × Nat) := [(⟨"LogBook", "firstRecordFrom", "(I)I"⟩, 7), (⟨"LogBook", "kindAt", "(I)I"⟩, 7), (⟨"LogBook", "contentWords", "(I)I"⟩, 7), (⟨"LogBook", "kthOnTheWay", "(III)I"⟩, 7), (⟨"LogBook", "isAskedFor", "(III)Z"⟩, 7), (⟨"LogBook", "stopBehind", "(I)I"⟩, 7), (⟨"LogBook", "addVoidRest", "()V"⟩, 7), (⟨"LogBookModel", "refused", "(ZZZ)Z"⟩, 19), (⟨"LogBookModel", "fail", "()V"⟩, 19), (⟨"LogBookModel", "endOf", "(I)I"⟩, 19), (⟨"LogBookModel", "addRow", "(IIZ)V"⟩, 19), (⟨"LogBookModel", "latestOf", "(I)I"⟩, 19), (⟨"LogBookModel", "rowOf", "(I)I"⟩, 19), (⟨"LogBookModel", "forceTo", "(I)I"⟩, 19), (⟨"LogBookModel", "canWrite", "()Z"⟩, 19), (⟨"LogBookModel", "seek", "(III)I"⟩, 19)]
theorem lw_r2 : ∀ q ∈ lw_privs_2, lw_okq q := List.forall_mem_cons.mpr ⟨lw_p16, List.forall_mem_cons.mpr ⟨lw_p17, List.forall_mem_cons.mpr ⟨lw_p18, List.forall_mem_cons.mpr ⟨lw_p19, List.forall_mem_cons.mpr ⟨lw_p20, List.forall_mem_cons.mpr ⟨lw_p21, List.forall_mem_cons.mpr ⟨lw_p22, List.forall_mem_cons.mpr ⟨lw_p23, List.forall_mem_cons.mpr ⟨lw_p24, List.forall_mem_cons.mpr ⟨lw_p25, List.forall_mem_cons.mpr ⟨lw_p26, List.forall_mem_cons.mpr ⟨lw_p27, List.forall_mem_cons.mpr ⟨lw_p28, List.forall_mem_cons.mpr ⟨lw_p29, List.forall_mem_cons.mpr ⟨lw_p30, List.forall_mem_cons.mpr ⟨lw_p31, fun _ h => absurd h List.not_mem_nil⟩⟩⟩⟩⟩⟩⟩⟩⟩⟩⟩⟩⟩⟩⟩⟩
def lw_privs : List (MethodName × Nat) := lw_privs_1 ++ (lw_privs_2)
def lw_tbl : List Cond := k2_sels lw_privs ++ tables_1
theorem lw_privs_ok : ∀ q ∈ lw_privs, lw_okq q := by
  show ∀ q ∈ lw_privs_1 ++ (lw_privs_2), lw_okq q
  exact List.forall_mem_append.mpr ⟨lw_r1, lw_r2⟩
/-! ===== BEGIN words of one list among another's, by their places ===== -/
theorem goodIn_r {big : List Cond} (ws : List Cond) (ps : List Nat) (hp : ws = ps.filterMap (fun i => big[i]?)) (h : ws.all goodWord = true) : GoodIn big ws := by
  intro w hw
  have h1 := List.all_eq_true.mp h w hw
  rw [hp] at hw
  obtain ⟨i, -, hi⟩ := List.mem_filterMap.mp hw
  have hm : w ∈ big := by first | exact List.mem_of_getElem? hi | exact List.getElem?_mem hi
  exact ⟨hm, good_of_word h1⟩
theorem goodIn_app {big a b : List Cond} (ha : GoodIn big a) (hb : GoodIn big b) : GoodIn big (a ++ b) := fun w h => (List.mem_append.mp h).elim (ha w) (hb w)
theorem goodIn_ca {big a b : List Cond} {c : Cond} (ha : GoodIn big (c :: a)) (hb : GoodIn big b) : GoodIn big (c :: (a ++ b)) := fun w h => (List.mem_cons.mp h).elim (fun e => ha w (List.mem_cons.mpr (Or.inl e))) (fun h => (List.mem_append.mp h).elim (fun h => ha w (List.mem_cons.mpr (Or.inr h))) (hb w))
theorem goodIn_sub {big ws : List Cond} (hm : ∀ w ∈ ws, w ∈ big) (h : ws.all goodWord = true) : GoodIn big ws := fun w hw => ⟨hm w hw, good_of_word (List.all_eq_true.mp h w hw)⟩
/-! ===== END ===== -/

/-! ===== BEGIN exceptions that leave a method, and their catching by the caller (launches without stack traces) ===== -/
section VXA
/-! The laws vx_back, vx_callV, vx_callS, vx_callSW, vx_throw0, vx_throwS follow proofs of the library, with one case more: JvmDerived/Free/Laws.lean (Back.of_free), Shelf42/LK1.lean (callV, callS), Shelf/KitTraced.lean (throwNew0V, throwNewS). -/
/-- where a method has thrown q: the class by its name, the cell, what was written, the world -/
def vx_T (XC : String → State → State → Prop) (st : State) (q : Addr) (t : State) (mc ms : Nat) (free : Addr → Prop) : Prop :=
  ∃ (E : String) (ce : Cell) (L : List Loc), XC E st t ∧ t.heap[q]? = some ce ∧ ce.vm = .none ∧ st.vm.findClass E = some ce.cls ∧ st.WarmedH t.vm ∧ st.sameButNew ({ t with vm := st.vm } : State) L mc ms ∧ ∀ z ∈ L, free z.base
def vx_Q (Qc : Array Value → State → Outcome → State → Prop) (XC : String → State → State → Prop) (mc ms : Nat) (free : Addr → Prop) : Array Value → State → Outcome → State → Prop := fun a st o t =>
  (Qc a st o t ∧ ∃ L, FrameEnd st o t L mc ms ∧ ∀ q ∈ L, free q.base) ∨ ∃ q, o = .threw q ∧ vx_T XC st q t mc ms free
/-- a callee that returns or throws -/
def vx_Met (l : Launch) (y : MethodName) (ws : List Cond) (rm : Room) (Pc : Array Value → State → Prop) (Qc : Array Value → State → Outcome → State → Prop) (XC : String → State → State → Prop) (mc ms : Nat) (free : Addr → Prop) : Prop :=
  MetFree l y (headSpec ws rm) Pc (fun _ _ _ _ _ => True) (vx_Q Qc XC mc ms free)
def vx_Post (XC : String → State → State → Prop) (mc ms : Nat) (free : Addr → Prop) : Pt → Array Value → Addr → Pt → Prop := fun A a q B =>
  ∃ (g : JFrame) (mk : MethodId) (t : State) (L : List Loc) (E : String) (ce : Cell), B.U.heap = t.heap ∧ B.U.vm = t.vm ∧ XC E (A.U.calling g mk a) t ∧ t.heap[q]? = some ce ∧ ce.vm = .none ∧ A.U.vm.findClass E = some ce.cls ∧ B.locs = A.locs ++ L ∧ (∀ z ∈ L, free z.base) ∧ B.cells = A.cells + mc ∧ B.slots = A.slots + ms
def vx_Back (l : Launch) (R : Room) (p : Program) (e : Env) (below : List Frame) (s : State) (sargs : Array Value) (y : MethodName) (len W9 : Nat)
    (Pre : Pt → Array Value → Prop) (Post : Pt → Array Value → Option Value → Pt → Prop) (PostX : Pt → Array Value → Addr → Pt → Prop) : Prop :=
  ∀ (m : MethodId) (meth : Method) (c : Code) (A : Pt) (g : JFrame) (ig : Instr) (mk : MethodId) (a : Array Value),
    Stand p l e R s m sargs below meth c A.U A.locs A.cells A.slots → g.method = m → g.locals.size = c.maxLocals → decode c.code g.pc = .ok (ig, len) →
    2 * g.monitorRoom + (g.stack.map fun v => v.category).sum ≤ W9 → A.U.methodNamed? y = some mk → Pre A a →
    (∃ (v : Option Value) (B : Pt), Stand p l e R s m sargs below meth c B.U B.locs B.cells B.slots ∧ Post A a v B ∧
      Steps p.tables e below (doInvoke e (A.U.setTop g) [] mk a).1 (B.U.setTop { g with pc := g.pc + len, stack := v.toList ++ g.stack })) ∨
    (∃ (q : Addr) (B : Pt), Stand p l e R s m sargs below meth c B.U B.locs B.cells B.slots ∧ PostX A a q B ∧
      Steps p.tables e below (doInvoke e (A.U.setTop g) [] mk a).1 ((B.U.setTop g).pushFrame (.throwing q)))
section Payer
variable {l : Launch} {R : Room} {p : Program} {e : Env} {below : List Frame} {s : State} {sargs : Array Value} {y : MethodName} {len W9 : Nat}
theorem vx_back {ws : List Cond} {rm : Room} {Pc : Array Value → State → Prop} {Qc : Array Value → State → Outcome → State → Prop} {XC : String → State → State → Prop} {mc ms : Nat} {free : Addr → Prop} {bytes : ByteArray} {maxL : Nat} {ret : Option FieldType}
    (hM : vx_Met l y ws rm Pc Qc XC mc ms free) (hblind : FrameBlind Pc) (hrc : rm.cells = mc) (hrs : rm.slots = ms)
    (hframes : rm.frames + 1 ≤ R.frames) (hlocals : W9 + (maxL + 11) + rm.locals ≤ R.locals)
    (hws : ∀ w ∈ ws, ∀ a' U, s.WarmedH U.vm → w.before a' U = true) (hcode : Cond.code y bytes maxL ret ∈ ws) (hinit : ∀ a' U, s.WarmedH U.vm → (Cond.initialized y.cls).before a' U = true) :
    vx_Back l R p e below s sargs y len W9 (PreOf R mc ms Pc) (PostOf Qc mc ms free) (vx_Post XC mc ms free) := by
  intro m meth c A g ig mk a X hg hsize hdg hW hn hp
  have h1 : (headSpec ws rm).pre.before a A.U = true := atoms_intro fun w hw => hws w hw _ _ X.warmed
  have h2 : (Cond.code y bytes maxL ret).before a A.U = true := hws _ hcode _ _ X.warmed
  have h3 : (Cond.initialized y.cls).before a A.U = true := hinit _ _ X.warmed
  have h4 : A.cells + (headSpec ws rm).room.cells ≤ R.cells := by rw [show (headSpec ws rm).room.cells = mc from hrc]; exact hp.1
  have h5 : A.slots + (headSpec ws rm).room.slots ≤ R.slots := by rw [show (headSpec ws rm).room.slots = ms from hrs]; exact hp.2.1
  have hPc : Pc a (A.U.calling g mk a) := hblind _ _ _ _ hp.2.2
  obtain ⟨U, Ls, c0, s0⟩ := A
  dsimp only [Pt.U, Pt.locs, Pt.cells, Pt.slots] at h1 h2 h3 h4 h5 X hn hPc ⊢
  obtain ⟨methY, cY, hmY, hcY, -, hlY, -, -, -, -⟩ := Cond.code_spec hn h2
  obtain ⟨kY, hkY, -⟩ := className_of_methodNamed hn
  have hinitY : kY.init = .initialized := Cond.initialized_spec (findClass_of_methodNamed hn) hkY h3
  have h : At U g.method c below := by rw [hg]; exact X.here
  have hlocals9 : W9 + (maxL + 11) + (headSpec ws rm).room.locals ≤ R.locals := hlocals
  have happ : (headSpec ws rm).appliesLoose y e.platform (U.calling g mk a) = true :=
    Spec.appliesLoose_calling (g := g) h hdg hn hkY hinitY
      (X.room_calling (g := g) (R' := (headSpec ws rm).room) hsize hmY hcY hframes (by rw [hlY]; omega) h4 h5) h1
  obtain ⟨mid, hmid⟩ := h.above
  have hfr : (U.setTop g).frames = (.java g :: mid) ++ below := by rw [State.frames_setTop' g h.top, hmid]; rfl
  obtain ⟨o, s₂, hsteps, -, hend, hq⟩ := Steps.callFree hM p X.admits X.cas X.clock (acts := []) hfr happ hPc trivial
  have hq' : vx_Q Qc XC mc ms free a (U.calling g mk a) o s₂ := hq
  rw [State.frames_setTop' g h.top] at hend
  obtain ⟨g₀, hg0⟩ := Option.isSome_iff_exists.mp h.top
  obtain ⟨r, hr⟩ := State.topJava?_eq_some.mp hg0
  have hr' : (({ U with heap := s₂.heap, slotsUsed := s₂.slotsUsed } : State).setVm s₂.vm).frames = .java g₀ :: r := hr
  rcases hq' with ⟨hqc, L, hfe, hL⟩ | ⟨q, rfl, E, ce, L, hx, hce, hcv, hcl, hW₂, hsm, hL⟩
  · obtain ⟨⟨v, rfl⟩, hW₂, e2, q2, q3, q4, q5, q6⟩ := id hfe
    have e3 : s₂ = ({ (U.calling g mk a).setFrames s₂.frames with heap := s₂.heap, slotsUsed := s₂.slotsUsed } : State).setVm s₂.vm := by
      have : s₂ = ({ s₂ with vm := (U.calling g mk a).vm } : State).setVm s₂.vm := rfl
      rw [e2] at this
      exact this
    obtain ⟨c₂, i₂, len₂, hc₂, hd₂, hf₂⟩ := hend
    have hW' : U.WarmedH s₂.vm := hW₂
    have hcc : c₂ = c := by
      have h1 : s₂.code? g.method = U.code? g.method := by
        rw [State.code?_eq, State.code?_eq, hW'.alike.method?]
      exact Option.some.inj (hc₂.symm.trans (h1.trans h.code))
    subst hcc
    have hlen : len₂ = len := by rw [hdg] at hd₂; cases hd₂; rfl
    subst hlen
    have hs₂ : s₂ = (({ U with heap := s₂.heap, slotsUsed := s₂.slotsUsed } : State).setVm s₂.vm).setTop { g with pc := g.pc + len₂, stack := v.toList ++ g.stack } := by
      refine e3.trans ?_
      rw [hf₂, State.calling_eq h.top, State.setFrames_setFrames, State.setTop_of_frames _ hr', hr]
      rfl
    have hsame : U.sameButNew ({ U with heap := s₂.heap, slotsUsed := s₂.slotsUsed } : State) L mc ms := by
      refine ⟨?_, q2, q3, q4, q5, q6⟩
      obtain ⟨t, ht, -⟩ := State.frames_cons hr
      show ({ U with heap := s₂.heap, slotsUsed := s₂.slotsUsed } : State) = { U.setFrames U.frames with heap := s₂.heap, slotsUsed := s₂.slotsUsed }
      rw [State.setFrames_self ht]
    subst hg
    refine Or.inl ⟨v, ⟨(({ U with heap := s₂.heap, slotsUsed := s₂.slotsUsed } : State).setVm s₂.vm), Ls ++ L, c0 + mc, s0 + ms⟩,
      ⟨X.admits, X.cas, X.clock, X.frames, X.room, X.hears, X.method, X.code, (X.here.setHeapUsed s₂.heap s₂.slotsUsed).setVm hW'.alike, X.tail, State.WarmedH.trans X.warmed hW', X.limits, X.bytes, X.same.trans (hsame.setVm s.vm)⟩,
      ⟨g, mk, s₂, L, rfl, rfl, hqc, rfl, hL, rfl, rfl⟩, ?_⟩
    show Steps p.tables e below _ ((({ U with heap := s₂.heap, slotsUsed := s₂.slotsUsed } : State).setVm s₂.vm).setTop { g with pc := g.pc + len₂, stack := v.toList ++ g.stack })
    rw [← hs₂]
    exact hsteps
  · obtain ⟨e2, q2, q3, q4, q5, q6⟩ := id hsm
    have e3 : s₂ = ({ (U.calling g mk a).setFrames s₂.frames with heap := s₂.heap, slotsUsed := s₂.slotsUsed } : State).setVm s₂.vm := by
      have : s₂ = ({ s₂ with vm := (U.calling g mk a).vm } : State).setVm s₂.vm := rfl
      rw [e2] at this
      exact this
    have hf₂ : s₂.frames = .throwing q :: .java g :: U.frames.tail := hend
    have hW' : U.WarmedH s₂.vm := hW₂
    have hs₂ : s₂ = ((({ U with heap := s₂.heap, slotsUsed := s₂.slotsUsed } : State).setVm s₂.vm).setTop g).pushFrame (.throwing q) := by
      refine e3.trans ?_
      rw [hf₂, State.calling_eq h.top, State.setFrames_setFrames, State.pushFrame, State.frames_setTop _ hr', State.setTop_of_frames _ hr', State.setFrames_setFrames, hr]
      rfl
    have hsame : U.sameButNew ({ U with heap := s₂.heap, slotsUsed := s₂.slotsUsed } : State) L mc ms := by
      refine ⟨?_, q2, q3, q4, q5, q6⟩
      obtain ⟨t, ht, -⟩ := State.frames_cons hr
      show ({ U with heap := s₂.heap, slotsUsed := s₂.slotsUsed } : State) = { U.setFrames U.frames with heap := s₂.heap, slotsUsed := s₂.slotsUsed }
      rw [State.setFrames_self ht]
    subst hg
    refine Or.inr ⟨q, ⟨(({ U with heap := s₂.heap, slotsUsed := s₂.slotsUsed } : State).setVm s₂.vm), Ls ++ L, c0 + mc, s0 + ms⟩,
      ⟨X.admits, X.cas, X.clock, X.frames, X.room, X.hears, X.method, X.code, (X.here.setHeapUsed s₂.heap s₂.slotsUsed).setVm hW'.alike, X.tail, State.WarmedH.trans X.warmed hW', X.limits, X.bytes, X.same.trans (hsame.setVm s.vm)⟩,
      ⟨g, mk, s₂, L, E, ce, rfl, rfl, hx, hce, hcv, hcl, rfl, hL, rfl, rfl⟩, ?_⟩
    show Steps p.tables e below _ (((({ U with heap := s₂.heap, slotsUsed := s₂.slotsUsed } : State).setVm s₂.vm).setTop g).pushFrame (.throwing q))
    rw [← hs₂]
    exact hsteps
end Payer
section Calls
variable {p : Program} {l : Launch} {e : Env} {R : Room} {s : State} {m : MethodId} {args : Array Value} {below : List Frame} {meth : Method} {c : Code} {T : State} {locs : List Loc} {cells slots : Nat}
theorem vx_callV (X : Stand p l e R s m args below meth c T locs cells slots) (hexec : p.tables.exec = Jvm.exec) {own C : String} {index : Nat} {y : MethodName} {bytes : ByteArray} {maxL : Nat} {ret : Option FieldType}
    (hown : s.vm.findClass own = some m.cls) (hlink : (Cond.methodLink own index y).before args s = true) (hinst : (Cond.instanceMethod y).before args s = true) (hsel : (Cond.selects C y y).before args s = true)
    (hcode : (Cond.code y bytes maxL ret).before args s = true) (hy : y.cls ≠ "java/lang/invoke/MethodHandle" ∧ y.cls ≠ "java/lang/invoke/VarHandle")
    {W9 : Nat} {Pre : Pt → Array Value → Prop} {Post : Pt → Array Value → Option Value → Pt → Prop} {PostX : Pt → Array Value → Addr → Pt → Prop} (hK : vx_Back l R p e below s args y 3 W9 Pre Post PostX)
    {b : Addr} {cellB : Cell} (hcell : T.heap[b]? = some cellB) (hobj : cellB.vm.isStatics = false) (hcls : s.vm.findClass C = some cellB.cls)
    {g : JFrame} (hg : g.method = m) (hsize : g.locals.size = c.maxLocals) {argsL rest : List Value} (hlen : ∀ sig, parseMethodDescriptor y.desc = some sig → argsL.length = sig.parameters.length)
    (hstack : g.stack = argsL.reverse ++ .ref b :: rest) (hW : 2 * g.monitorRoom + (rest.map fun v => v.category).sum ≤ W9) (hdg : decode c.code g.pc = .ok (.invokevirtual index, 3))
    (hpre : ∀ vm₁, s.WarmedH vm₁ → Pre ⟨T.setVm vm₁, locs, cells, slots⟩ (Value.ref b :: argsL).toArray) :
    (∃ (v : Option Value) (vm₁ : Vm) (B : Pt), s.WarmedH vm₁ ∧ Stand p l e R s m args below meth c B.U B.locs B.cells B.slots ∧ Post ⟨T.setVm vm₁, locs, cells, slots⟩ (Value.ref b :: argsL).toArray v B ∧
      ∀ target, Steps p.tables e below (B.U.setTop { g with pc := g.pc + 3, stack := v.toList ++ rest }) target → Steps p.tables e below (T.setTop g) target) ∨
    (∃ (q : Addr) (vm₁ : Vm) (B : Pt), s.WarmedH vm₁ ∧ Stand p l e R s m args below meth c B.U B.locs B.cells B.slots ∧ PostX ⟨T.setVm vm₁, locs, cells, slots⟩ (Value.ref b :: argsL).toArray q B ∧
      Steps p.tables e below (T.setTop g) ((B.U.setTop { g with stack := rest }).pushFrame (.throwing q))) := by
  obtain ⟨mk, methM, hnamed, hmethM, hstM, habM⟩ := Cond.instanceMethod_spec hinst
  obtain ⟨methM', cM, hmethM', -, -, -, -, -, -, hsigM⟩ := Cond.code_spec hnamed hcode
  cases hmethM.symm.trans hmethM'
  obtain ⟨c2, r2, m2, q1, q2, q3, q4, kP, hkP, hkPi⟩ := Cond.selects_spec hsel
  cases hcls.symm.trans q1
  cases (State.methodFound?_of_named hnamed hy).symm.trans q2
  cases hnamed.symm.trans q3
  have hselP : selectMethod e.platform s.vm cellB.cls mk = .method mk := by rw [Launch.admits_selectMethod X.admits]; exact q4
  obtain ⟨vm₁, X₁, hstep₁⟩ := X.invokevirtual hexec hown hlink hnamed hmethM hstM hkP hkPi hy (a := b) (cell := cellB) hcell
    (fun z h => by rw [h] at hobj; cases hobj) hselP hmethM habM hkP hkPi (g := g) hg (argsL := argsL) (rest := rest) (hlen _ hsigM) hstack hdg
  rcases hK m meth c ⟨T.setVm vm₁, locs, cells, slots⟩ { g with stack := rest } (.invokevirtual index) mk (Value.ref b :: argsL).toArray X₁ hg hsize hdg hW (X₁.named hnamed) (hpre vm₁ X₁.warmed) with ⟨v, B, X', hpost, hsteps⟩ | ⟨q, B, X', hpost, hsteps⟩
  · exact Or.inl ⟨v, vm₁, B, X₁.warmed, X', hpost, fun target h => hstep₁ _ fun acts => by rw [doInvoke_state]; exact hsteps.trans h⟩
  · exact Or.inr ⟨q, vm₁, B, X₁.warmed, X', hpost, hstep₁ _ fun acts => by rw [doInvoke_state]; exact hsteps⟩
theorem vx_callS (X : Stand p l e R s m args below meth c T locs cells slots) (hexec : p.tables.exec = Jvm.exec) {own : String} {index : Nat} {y : MethodName} {bytes : ByteArray} {maxL : Nat} {ret : Option FieldType}
    (hown : s.vm.findClass own = some m.cls) (hlink : (Cond.methodLink own index y).before args s = true) (hstat : (Cond.static y).before args s = true) (hinit : (Cond.initialized y.cls).before args s = true)
    (hcode : (Cond.code y bytes maxL ret).before args s = true) (hy : y.cls ≠ "java/lang/invoke/MethodHandle" ∧ y.cls ≠ "java/lang/invoke/VarHandle")
    {W9 : Nat} {Pre : Pt → Array Value → Prop} {Post : Pt → Array Value → Option Value → Pt → Prop} {PostX : Pt → Array Value → Addr → Pt → Prop} (hK : vx_Back l R p e below s args y 3 W9 Pre Post PostX)
    {g : JFrame} (hg : g.method = m) (hsize : g.locals.size = c.maxLocals) {argsL rest : List Value} (hlen : ∀ sig, parseMethodDescriptor y.desc = some sig → argsL.length = sig.parameters.length)
    (hstack : g.stack = argsL.reverse ++ rest) (hW : 2 * g.monitorRoom + (rest.map fun v => v.category).sum ≤ W9) (hdg : decode c.code g.pc = .ok (.invokestatic index, 3))
    (hpre : ∀ vm₁, s.WarmedH vm₁ → Pre ⟨T.setVm vm₁, locs, cells, slots⟩ argsL.toArray) :
    (∃ (v : Option Value) (vm₁ : Vm) (B : Pt), s.WarmedH vm₁ ∧ Stand p l e R s m args below meth c B.U B.locs B.cells B.slots ∧ Post ⟨T.setVm vm₁, locs, cells, slots⟩ argsL.toArray v B ∧
      ∀ target, Steps p.tables e below (B.U.setTop { g with pc := g.pc + 3, stack := v.toList ++ rest }) target → Steps p.tables e below (T.setTop g) target) ∨
    (∃ (q : Addr) (vm₁ : Vm) (B : Pt), s.WarmedH vm₁ ∧ Stand p l e R s m args below meth c B.U B.locs B.cells B.slots ∧ PostX ⟨T.setVm vm₁, locs, cells, slots⟩ argsL.toArray q B ∧
      Steps p.tables e below (T.setTop g) ((B.U.setTop { g with stack := rest }).pushFrame (.throwing q))) := by
  obtain ⟨mk, hnamed⟩ := Cond.code_named hcode
  obtain ⟨methM, cM, hmethM, -, -, -, -, -, -, hsigM⟩ := Cond.code_spec hnamed hcode
  have hstatic : methM.isStatic = true := Cond.static_spec hnamed hmethM hstat
  obtain ⟨kP, hkP, -⟩ := className_of_methodNamed hnamed
  have hinitP : kP.init = .initialized := Cond.initialized_spec (findClass_of_methodNamed hnamed) hkP hinit
  obtain ⟨vm₁, X₁, hstep₁⟩ := X.invokestatic hexec hown hlink hnamed hmethM hstatic hkP hinitP hy (g := g) hg (argsL := argsL) (rest := rest) (hlen _ hsigM) hstack hdg
  rcases hK m meth c ⟨T.setVm vm₁, locs, cells, slots⟩ { g with stack := rest } (.invokestatic index) mk argsL.toArray X₁ hg hsize hdg hW (X₁.named hnamed) (hpre vm₁ X₁.warmed) with ⟨v, B, X', hpost, hsteps⟩ | ⟨q, B, X', hpost, hsteps⟩
  · exact Or.inl ⟨v, vm₁, B, X₁.warmed, X', hpost, fun target h => hstep₁ _ fun acts => by rw [doInvoke_state]; exact hsteps.trans h⟩
  · exact Or.inr ⟨q, vm₁, B, X₁.warmed, X', hpost, hstep₁ _ fun acts => by rw [doInvoke_state]; exact hsteps⟩
end Calls
theorem vx_cls {s : State} {T : State} {vm₁ : Vm} {E : String} {k : ClassId} (hW : s.WarmedH vm₁) (h : (T.setVm vm₁).vm.findClass E = some k) : s.vm.findClass E = some k := by
  have h1 : vm₁.findClass E = some k := h
  rw [hW.alike.findClass] at h1
  exact h1
/-- the method's frame g, with q thrown over it -/
def vx_W (p : Program) (l : Launch) (e : Env) (R : Room) (s : State) (m : MethodId) (args : Array Value) (below : List Frame) (meth : Method) (c : Code) (H : Heap) (locs : List Loc) (cells slots : Nat) (Q : State → Prop) (g : JFrame) (q : Addr) : Prop :=
  ∀ T : State, T.heap = H → Stand p l e R s m args below meth c T locs cells slots → ∃ t, Steps p.tables e below ((T.setTop g).pushFrame (.throwing q)) t ∧ Q t
def vx_Run (p : Program) (l : Launch) (e : Env) (R : Room) (s : State) (m : MethodId) (args : Array Value) (below : List Frame) (meth : Method) (c : Code) (H : Heap) (locs : List Loc) (cells slots mc ms : Nat) (g : JFrame) (rest : List Value) (Qa : State → Outcome → State → Prop) (XC : String → State → State → Prop) (free : Addr → Prop) : Prop :=
  ∀ T : State, T.heap = H → Stand p l e R s m args below meth c T locs cells slots →
    (∃ (v : Option Value) (st₀ t T' : State) (L : List Loc), st₀.heap = H ∧ Stand p l e R s m args below meth c T' (locs ++ L) (cells + mc) (slots + ms) ∧ (∀ q ∈ L, free q.base) ∧ T'.heap = t.heap ∧ T'.vm = t.vm ∧ Qa st₀ (.returned v) t ∧
      Goes p e below T g T' { g with pc := g.pc + 3, stack := v.toList ++ rest }) ∨
    (∃ (q : Addr) (st₀ t T' : State) (L : List Loc) (E : String) (ce : Cell), st₀.heap = H ∧ Stand p l e R s m args below meth c T' (locs ++ L) (cells + mc) (slots + ms) ∧ (∀ z ∈ L, free z.base) ∧ T'.heap = t.heap ∧ T'.vm = t.vm ∧ XC E st₀ t ∧ t.heap[q]? = some ce ∧ ce.vm = .none ∧ s.vm.findClass E = some ce.cls ∧
      Steps p.tables e below (T.setTop g) ((T'.setTop { g with stack := rest }).pushFrame (.throwing q)))
def vx_X {S : Type} (px : S → Prop) (B : String → S → State → Prop) (A : Nat → Prop) : String → State → State → Prop := fun E st t => ∃ u : S, px u ∧ B E u t ∧ va_F A st t
section Runs
variable {p : Program} {l : Launch} {e : Env} {R : Room} {s : State} {m : MethodId} {args : Array Value} {below : List Frame} {meth : Method} {c : Code} {H : Heap} {locs : List Loc} {cells slots : Nat}
variable {y : MethodName} {bytes cc : ByteArray} {maxL nL mc ms n index : Nat} {ret : Option FieldType} {ws : List Cond} {rm : Room} {Pc : Array Value → State → Prop} {Qc : Array Value → State → Outcome → State → Prop} {XC : String → State → State → Prop} {free : Addr → Prop} {Ts : List Cond} {own C : String} {b : Addr} {As rest : List Value} {g : JFrame}
theorem vx_callBack (cb : CallB R s args own index y bytes maxL ret ws rm mc ms n) (hM : vx_Met l y ws rm Pc Qc XC mc ms free) (hbl : FrameBlind Pc) : vx_Back l R p e below s args y 3 8 (PreOf R mc ms Pc) (PostOf Qc mc ms free) (vx_Post XC mc ms free) := by
  obtain ⟨hrc, hrs, hfr, hlo, hws, hcw, -, hini, -⟩ := cb
  exact vx_back (bytes := bytes) (maxL := maxL) (ret := ret) hM hbl hrc hrs hfr hlo hws hcw (fun a' U hW => word_at hW (Or.inl (by first | rfl | simp [Cond.onTables, Cond.keeps, Cond.steady])) hini)
theorem vx_runV (S : CallFix p m c cc nL s args Ts own) (hM : vx_Met l y ws rm Pc Qc XC mc ms free) (cw : CallW R s args own C index y bytes maxL ret ws rm mc ms n) (hp : PreV s H C b Pc As)
    (hg : g.method = m) (hn : As.length = n) (hsize : g.locals.size = nL) (hstack : g.stack = As.reverse ++ .ref b :: rest) (hW : 2 * g.monitorRoom + (rest.map fun v => v.category).sum ≤ 8) (hdg : decode cc g.pc = .ok (.invokevirtual index, 3)) (hf : cells + mc ≤ R.cells ∧ slots + ms ≤ R.slots) :
    vx_Run p l e R s m args below meth c H locs cells slots mc ms g rest (Qc (Value.ref b :: As).toArray) XC free := by
  have hK : vx_Back l R p e below s args y 3 8 (PreOf R mc ms Pc) (PostOf Qc mc ms free) (vx_Post XC mc ms free) := vx_callBack cw.1 hM hp.1
  obtain ⟨⟨-, -, -, -, -, -, hcode, -, hy, hlen, hl⟩, hin, hse⟩ := cw
  obtain ⟨hx, hb, hml, ho, -⟩ := S
  obtain ⟨-, ⟨cellB, hcB, hoB, hclB⟩, hPc⟩ := hp
  intro T hT X
  rcases vx_callV X hx (C := C) (bytes := bytes) (maxL := maxL) (ret := ret) ho hl hin hse hcode hy hK (by rw [hT]; exact hcB) hoB hclB hg (hsize.trans hml.symm) (argsL := As) (rest := rest) (fun sig h => hn.trans (hlen sig h)) hstack hW (by rw [hb]; exact hdg)
    (fun vm₁ hW₁ => ⟨hf.1, hf.2, hPc (T.setVm vm₁) hT hW₁⟩) with ⟨v, vm₁, ⟨U', l2, c2, s2⟩, hW₁, X', ⟨g', mk, t, L, e1, e2, hq, h1, hL, h2, h3⟩, st⟩ | ⟨q, vm₁, ⟨U', l2, c2, s2⟩, hW₁, X', ⟨g', mk, t, L, E, ce, e1, e2, hq, hce, hcv, hcl, h1, hL, h2, h3⟩, st⟩
  · dsimp only [Pt.U, Pt.locs, Pt.cells, Pt.slots] at X' e1 e2 h1 h2 h3 st
    subst h1; subst h2; subst h3
    exact Or.inl ⟨v, (T.setVm vm₁).calling g' mk (Value.ref b :: As).toArray, t, U', L, hT, X', hL, e1, e2, hq, st⟩
  · dsimp only [Pt.U, Pt.locs, Pt.cells, Pt.slots] at X' e1 e2 h1 h2 h3 st hcl
    subst h1; subst h2; subst h3
    exact Or.inr ⟨q, (T.setVm vm₁).calling g' mk (Value.ref b :: As).toArray, t, U', L, E, ce, hT, X', hL, e1, e2, hq, hce, hcv, vx_cls hW₁ hcl, st⟩
theorem vx_runS (S : CallFix p m c cc nL s args Ts own) (hM : vx_Met l y ws rm Pc Qc XC mc ms free) (cw : CallB R s args own index y bytes maxL ret ws rm mc ms n ∧ (Cond.static y).before args s = true) (hp : PreS s H Pc As)
    (hg : g.method = m) (hn : As.length = n) (hsize : g.locals.size = nL) (hstack : g.stack = As.reverse ++ rest) (hW : 2 * g.monitorRoom + (rest.map fun v => v.category).sum ≤ 8) (hdg : decode cc g.pc = .ok (.invokestatic index, 3)) (hf : cells + mc ≤ R.cells ∧ slots + ms ≤ R.slots) :
    vx_Run p l e R s m args below meth c H locs cells slots mc ms g rest (Qc As.toArray) XC free := by
  have hK : vx_Back l R p e below s args y 3 8 (PreOf R mc ms Pc) (PostOf Qc mc ms free) (vx_Post XC mc ms free) := vx_callBack cw.1 hM hp.1
  obtain ⟨⟨-, -, -, -, -, -, hcode, hini, hy, hlen, hl⟩, hstt⟩ := cw
  obtain ⟨hx, hb, hml, ho, -⟩ := S
  intro T hT X
  rcases vx_callS X hx (bytes := bytes) (maxL := maxL) (ret := ret) ho hl hstt hini hcode hy hK hg (hsize.trans hml.symm) (argsL := As) (rest := rest) (fun sig h => hn.trans (hlen sig h)) hstack hW (by rw [hb]; exact hdg)
    (fun vm₁ hW₁ => ⟨hf.1, hf.2, hp.2 (T.setVm vm₁) hT hW₁⟩) with ⟨v, vm₁, ⟨U', l2, c2, s2⟩, hW₁, X', ⟨g', mk, t, L, e1, e2, hq, h1, hL, h2, h3⟩, st⟩ | ⟨q, vm₁, ⟨U', l2, c2, s2⟩, hW₁, X', ⟨g', mk, t, L, E, ce, e1, e2, hq, hce, hcv, hcl, h1, hL, h2, h3⟩, st⟩
  · dsimp only [Pt.U, Pt.locs, Pt.cells, Pt.slots] at X' e1 e2 h1 h2 h3 st
    subst h1; subst h2; subst h3
    exact Or.inl ⟨v, (T.setVm vm₁).calling g' mk As.toArray, t, U', L, hT, X', hL, e1, e2, hq, st⟩
  · dsimp only [Pt.U, Pt.locs, Pt.cells, Pt.slots] at X' e1 e2 h1 h2 h3 st hcl
    subst h1; subst h2; subst h3
    exact Or.inr ⟨q, (T.setVm vm₁).calling g' mk As.toArray, t, U', L, E, ce, hT, X', hL, e1, e2, hq, hce, hcv, vx_cls hW₁ hcl, st⟩
end Runs
section Rows
variable {p : Program} {l : Launch} {e : Env} {R : Room} {s : State} {m : MethodId} {args : Array Value} {below : List Frame} {meth : Method} {c : Code} {H : Heap} {locs : List Loc} {cells slots : Nat} {Q : State → Prop}
variable {mc ms : Nat} {free : Addr → Prop} {A0 A1 : Nat → Prop} {H0 : Heap} {a : Array Value} {pc : Nat} {ls : Array Slot} {st0 rest : List Value}
theorem vx_keep {st₀ t T' : State} {L : List Loc} (h0 : st₀.heap = H) (e1 : T'.heap = t.heap) (hS : va_S A0 H0 H locs) (hA : ∀ q, q < H.size → A1 q → A0 q) (hf : ∀ q, free q → A0 q) (hL : ∀ q ∈ L, free q.base) (hF : va_F A1 st₀ t) :
    H.size ≤ T'.heap.size ∧ (∀ q : Nat, q < H.size → ¬ A1 q → T'.heap[q]? = H[q]?) ∧ va_S A0 H0 T'.heap (locs ++ L) := by
  obtain ⟨hz, hk⟩ := hF
  rw [h0] at hz hk
  exact ⟨by rw [e1]; exact hz, fun q h1 h2 => by rw [e1]; exact hk q h1 h2,
    ⟨Nat.le_trans hS.1 (by rw [e1]; exact hz), fun q h1 h2 => by rw [e1, hk q (Nat.lt_of_lt_of_le h1 hS.1) (fun z => h2 (hA q (Nat.lt_of_lt_of_le h1 hS.1) z))]; exact hS.2.1 q h1 h2, fun q hq => by
      rcases List.mem_append.mp hq with h | h
      · exact hS.2.2 q h
      · exact hf _ (hL q h)⟩⟩
theorem vx_calli {S SX : Type} {post : Int32 → S → Prop} {px : SX → Prop} {B : S → State → Prop} {BX : String → SX → State → Prop} {AX : Nat → Prop} (hr : vx_Run p l e R s m args below meth c H locs cells slots mc ms (F0 m pc ls st0) rest (va_Qi post B A1 a) (vx_X px BX AX) free) (hS : va_S A0 H0 H locs) (hA : ∀ q, q < H.size → A1 q → A0 q) (hf : ∀ q, free q → A0 q) (hAX : ∀ q, q < H.size → AX q → A0 q)
    (kx : ∀ (E : String) (ce : Cell) (q9 : Addr) (u : SX) (t : State) (H1 : Heap) (locs1 : List Loc), t.heap = H1 → s.vm.Alike t.vm → px u → BX E u t → H.size ≤ H1.size → (∀ q : Nat, q < H.size → ¬ AX q → H1[q]? = H[q]?) → va_S A0 H0 H1 locs1 → H1[q9]? = some ce → ce.vm = .none → s.vm.findClass E = some ce.cls → vx_W p l e R s m args below meth c H1 locs1 (cells + mc) (slots + ms) Q (F0 m pc ls rest) q9)
    (kk : ∀ (r : Int32) (u : S) (t : State) (H1 : Heap) (locs1 : List Loc), t.heap = H1 → s.vm.Alike t.vm → post r u → B u t → H.size ≤ H1.size → (∀ q : Nat, q < H.size → ¬ A1 q → H1[q]? = H[q]?) → va_S A0 H0 H1 locs1 → W p l e R s m args below meth c H1 locs1 (cells + mc) (slots + ms) Q (F0 m (pc + 3) ls (.int r :: rest))) : W p l e R s m args below meth c H locs cells slots Q (F0 m pc ls st0) := by
  intro T hT X
  rcases hr T hT X with ⟨v, st₀, t, T', L, h0, X', hL, e1, e2, ⟨⟨r, u, hv, hp, hb⟩, hF⟩, st⟩ | ⟨q, st₀, t, T', L, E, ce, h0, X', hL, e1, e2, ⟨u, hp, hb, hF⟩, hce, hcv, hcl, st⟩
  · cases hv
    obtain ⟨k1, k2, k3⟩ := vx_keep h0 e1 hS hA hf hL hF
    obtain ⟨t2, a1, b1⟩ := kk r u t T'.heap (locs ++ L) e1.symm (by rw [← e2]; exact X'.warmed.alike) hp hb k1 k2 k3 T' rfl X'
    exact ⟨t2, st t2 a1, b1⟩
  · obtain ⟨k1, k2, k3⟩ := vx_keep h0 e1 hS hAX hf hL hF
    obtain ⟨t2, a1, b1⟩ := kx E ce q u t T'.heap (locs ++ L) e1.symm (by rw [← e2]; exact X'.warmed.alike) hp hb k1 k2 k3 (by rw [e1]; exact hce) hcv hcl T' rfl X'
    exact ⟨t2, st.trans a1, b1⟩
theorem vx_calll {S SX : Type} {post : Int64 → S → Prop} {px : SX → Prop} {B : S → State → Prop} {BX : String → SX → State → Prop} {AX : Nat → Prop} (hr : vx_Run p l e R s m args below meth c H locs cells slots mc ms (F0 m pc ls st0) rest (va_Ql post B A1 a) (vx_X px BX AX) free) (hS : va_S A0 H0 H locs) (hA : ∀ q, q < H.size → A1 q → A0 q) (hf : ∀ q, free q → A0 q) (hAX : ∀ q, q < H.size → AX q → A0 q)
    (kx : ∀ (E : String) (ce : Cell) (q9 : Addr) (u : SX) (t : State) (H1 : Heap) (locs1 : List Loc), t.heap = H1 → s.vm.Alike t.vm → px u → BX E u t → H.size ≤ H1.size → (∀ q : Nat, q < H.size → ¬ AX q → H1[q]? = H[q]?) → va_S A0 H0 H1 locs1 → H1[q9]? = some ce → ce.vm = .none → s.vm.findClass E = some ce.cls → vx_W p l e R s m args below meth c H1 locs1 (cells + mc) (slots + ms) Q (F0 m pc ls rest) q9)
    (kk : ∀ (r : Int64) (u : S) (t : State) (H1 : Heap) (locs1 : List Loc), t.heap = H1 → s.vm.Alike t.vm → post r u → B u t → H.size ≤ H1.size → (∀ q : Nat, q < H.size → ¬ A1 q → H1[q]? = H[q]?) → va_S A0 H0 H1 locs1 → W p l e R s m args below meth c H1 locs1 (cells + mc) (slots + ms) Q (F0 m (pc + 3) ls (.long r :: rest))) : W p l e R s m args below meth c H locs cells slots Q (F0 m pc ls st0) := by
  intro T hT X
  rcases hr T hT X with ⟨v, st₀, t, T', L, h0, X', hL, e1, e2, ⟨⟨r, u, hv, hp, hb⟩, hF⟩, st⟩ | ⟨q, st₀, t, T', L, E, ce, h0, X', hL, e1, e2, ⟨u, hp, hb, hF⟩, hce, hcv, hcl, st⟩
  · cases hv
    obtain ⟨k1, k2, k3⟩ := vx_keep h0 e1 hS hA hf hL hF
    obtain ⟨t2, a1, b1⟩ := kk r u t T'.heap (locs ++ L) e1.symm (by rw [← e2]; exact X'.warmed.alike) hp hb k1 k2 k3 T' rfl X'
    exact ⟨t2, st t2 a1, b1⟩
  · obtain ⟨k1, k2, k3⟩ := vx_keep h0 e1 hS hAX hf hL hF
    obtain ⟨t2, a1, b1⟩ := kx E ce q u t T'.heap (locs ++ L) e1.symm (by rw [← e2]; exact X'.warmed.alike) hp hb k1 k2 k3 (by rw [e1]; exact hce) hcv hcl T' rfl X'
    exact ⟨t2, st.trans a1, b1⟩
theorem vx_callf {S SX : Type} {post : UInt32 → S → Prop} {px : SX → Prop} {B : S → State → Prop} {BX : String → SX → State → Prop} {AX : Nat → Prop} (hr : vx_Run p l e R s m args below meth c H locs cells slots mc ms (F0 m pc ls st0) rest (va_Qf post B A1 a) (vx_X px BX AX) free) (hS : va_S A0 H0 H locs) (hA : ∀ q, q < H.size → A1 q → A0 q) (hf : ∀ q, free q → A0 q) (hAX : ∀ q, q < H.size → AX q → A0 q)
    (kx : ∀ (E : String) (ce : Cell) (q9 : Addr) (u : SX) (t : State) (H1 : Heap) (locs1 : List Loc), t.heap = H1 → s.vm.Alike t.vm → px u → BX E u t → H.size ≤ H1.size → (∀ q : Nat, q < H.size → ¬ AX q → H1[q]? = H[q]?) → va_S A0 H0 H1 locs1 → H1[q9]? = some ce → ce.vm = .none → s.vm.findClass E = some ce.cls → vx_W p l e R s m args below meth c H1 locs1 (cells + mc) (slots + ms) Q (F0 m pc ls rest) q9)
    (kk : ∀ (r : UInt32) (u : S) (t : State) (H1 : Heap) (locs1 : List Loc), t.heap = H1 → s.vm.Alike t.vm → post r u → B u t → H.size ≤ H1.size → (∀ q : Nat, q < H.size → ¬ A1 q → H1[q]? = H[q]?) → va_S A0 H0 H1 locs1 → W p l e R s m args below meth c H1 locs1 (cells + mc) (slots + ms) Q (F0 m (pc + 3) ls (.float r :: rest))) : W p l e R s m args below meth c H locs cells slots Q (F0 m pc ls st0) := by
  intro T hT X
  rcases hr T hT X with ⟨v, st₀, t, T', L, h0, X', hL, e1, e2, ⟨⟨r, u, hv, hp, hb⟩, hF⟩, st⟩ | ⟨q, st₀, t, T', L, E, ce, h0, X', hL, e1, e2, ⟨u, hp, hb, hF⟩, hce, hcv, hcl, st⟩
  · cases hv
    obtain ⟨k1, k2, k3⟩ := vx_keep h0 e1 hS hA hf hL hF
    obtain ⟨t2, a1, b1⟩ := kk r u t T'.heap (locs ++ L) e1.symm (by rw [← e2]; exact X'.warmed.alike) hp hb k1 k2 k3 T' rfl X'
    exact ⟨t2, st t2 a1, b1⟩
  · obtain ⟨k1, k2, k3⟩ := vx_keep h0 e1 hS hAX hf hL hF
    obtain ⟨t2, a1, b1⟩ := kx E ce q u t T'.heap (locs ++ L) e1.symm (by rw [← e2]; exact X'.warmed.alike) hp hb k1 k2 k3 (by rw [e1]; exact hce) hcv hcl T' rfl X'
    exact ⟨t2, st.trans a1, b1⟩
theorem vx_calld {S SX : Type} {post : UInt64 → S → Prop} {px : SX → Prop} {B : S → State → Prop} {BX : String → SX → State → Prop} {AX : Nat → Prop} (hr : vx_Run p l e R s m args below meth c H locs cells slots mc ms (F0 m pc ls st0) rest (va_Qd post B A1 a) (vx_X px BX AX) free) (hS : va_S A0 H0 H locs) (hA : ∀ q, q < H.size → A1 q → A0 q) (hf : ∀ q, free q → A0 q) (hAX : ∀ q, q < H.size → AX q → A0 q)
    (kx : ∀ (E : String) (ce : Cell) (q9 : Addr) (u : SX) (t : State) (H1 : Heap) (locs1 : List Loc), t.heap = H1 → s.vm.Alike t.vm → px u → BX E u t → H.size ≤ H1.size → (∀ q : Nat, q < H.size → ¬ AX q → H1[q]? = H[q]?) → va_S A0 H0 H1 locs1 → H1[q9]? = some ce → ce.vm = .none → s.vm.findClass E = some ce.cls → vx_W p l e R s m args below meth c H1 locs1 (cells + mc) (slots + ms) Q (F0 m pc ls rest) q9)
    (kk : ∀ (r : UInt64) (u : S) (t : State) (H1 : Heap) (locs1 : List Loc), t.heap = H1 → s.vm.Alike t.vm → post r u → B u t → H.size ≤ H1.size → (∀ q : Nat, q < H.size → ¬ A1 q → H1[q]? = H[q]?) → va_S A0 H0 H1 locs1 → W p l e R s m args below meth c H1 locs1 (cells + mc) (slots + ms) Q (F0 m (pc + 3) ls (.double r :: rest))) : W p l e R s m args below meth c H locs cells slots Q (F0 m pc ls st0) := by
  intro T hT X
  rcases hr T hT X with ⟨v, st₀, t, T', L, h0, X', hL, e1, e2, ⟨⟨r, u, hv, hp, hb⟩, hF⟩, st⟩ | ⟨q, st₀, t, T', L, E, ce, h0, X', hL, e1, e2, ⟨u, hp, hb, hF⟩, hce, hcv, hcl, st⟩
  · cases hv
    obtain ⟨k1, k2, k3⟩ := vx_keep h0 e1 hS hA hf hL hF
    obtain ⟨t2, a1, b1⟩ := kk r u t T'.heap (locs ++ L) e1.symm (by rw [← e2]; exact X'.warmed.alike) hp hb k1 k2 k3 T' rfl X'
    exact ⟨t2, st t2 a1, b1⟩
  · obtain ⟨k1, k2, k3⟩ := vx_keep h0 e1 hS hAX hf hL hF
    obtain ⟨t2, a1, b1⟩ := kx E ce q u t T'.heap (locs ++ L) e1.symm (by rw [← e2]; exact X'.warmed.alike) hp hb k1 k2 k3 (by rw [e1]; exact hce) hcv hcl T' rfl X'
    exact ⟨t2, st.trans a1, b1⟩
theorem vx_callv {S SX : Type} {post : S → Prop} {px : SX → Prop} {B : S → State → Prop} {BX : String → SX → State → Prop} {AX : Nat → Prop} (hr : vx_Run p l e R s m args below meth c H locs cells slots mc ms (F0 m pc ls st0) rest (va_Qv post B A1 a) (vx_X px BX AX) free) (hS : va_S A0 H0 H locs) (hA : ∀ q, q < H.size → A1 q → A0 q) (hf : ∀ q, free q → A0 q) (hAX : ∀ q, q < H.size → AX q → A0 q)
    (kx : ∀ (E : String) (ce : Cell) (q9 : Addr) (u : SX) (t : State) (H1 : Heap) (locs1 : List Loc), t.heap = H1 → s.vm.Alike t.vm → px u → BX E u t → H.size ≤ H1.size → (∀ q : Nat, q < H.size → ¬ AX q → H1[q]? = H[q]?) → va_S A0 H0 H1 locs1 → H1[q9]? = some ce → ce.vm = .none → s.vm.findClass E = some ce.cls → vx_W p l e R s m args below meth c H1 locs1 (cells + mc) (slots + ms) Q (F0 m pc ls rest) q9)
    (kk : ∀ (u : S) (t : State) (H1 : Heap) (locs1 : List Loc), t.heap = H1 → s.vm.Alike t.vm → post u → B u t → H.size ≤ H1.size → (∀ q : Nat, q < H.size → ¬ A1 q → H1[q]? = H[q]?) → va_S A0 H0 H1 locs1 → W p l e R s m args below meth c H1 locs1 (cells + mc) (slots + ms) Q (F0 m (pc + 3) ls (rest))) : W p l e R s m args below meth c H locs cells slots Q (F0 m pc ls st0) := by
  intro T hT X
  rcases hr T hT X with ⟨v, st₀, t, T', L, h0, X', hL, e1, e2, ⟨⟨u, hv, hp, hb⟩, hF⟩, st⟩ | ⟨q, st₀, t, T', L, E, ce, h0, X', hL, e1, e2, ⟨u, hp, hb, hF⟩, hce, hcv, hcl, st⟩
  · cases hv
    obtain ⟨k1, k2, k3⟩ := vx_keep h0 e1 hS hA hf hL hF
    obtain ⟨t2, a1, b1⟩ := kk u t T'.heap (locs ++ L) e1.symm (by rw [← e2]; exact X'.warmed.alike) hp hb k1 k2 k3 T' rfl X'
    exact ⟨t2, st t2 a1, b1⟩
  · obtain ⟨k1, k2, k3⟩ := vx_keep h0 e1 hS hAX hf hL hF
    obtain ⟨t2, a1, b1⟩ := kx E ce q u t T'.heap (locs ++ L) e1.symm (by rw [← e2]; exact X'.warmed.alike) hp hb k1 k2 k3 (by rw [e1]; exact hce) hcv hcl T' rfl X'
    exact ⟨t2, st.trans a1, b1⟩
/-- caught by the row x of this method's table; the rows ahead don't take it -/
theorem vx_catch {own name : String} {E : String} {ce : Cell} {q : Addr} (hown : s.vm.findClass own = some m.cls) (pre : List ExceptionTableEntry) (x : ExceptionTableEntry) (suf : List ExceptionTableEntry) (hsplit : c.exceptionTable.toList = pre ++ x :: suf)
    (hpass : ∀ z ∈ pre, covers z pc = false ∨ (z.catchType ≠ 0 ∧ ∃ nm : String, (Cond.classLink own z.catchType nm).before args s = true ∧ va_Nc E nm s)) (hx : covers x pc = true) (h0 : x.catchType ≠ 0)
    (hlink : (Cond.classLink own x.catchType name).before args s = true) (hcast : (Cond.castable E name).before args s = true) (hcell : H[q]? = some ce) (hv : ce.vm = .none) (hcl : s.vm.findClass E = some ce.cls)
    (kk : W p l e R s m args below meth c H locs cells slots Q (F0 m x.handlerPc ls [.ref q])) : vx_W p l e R s m args below meth c H locs cells slots Q (F0 m pc ls rest) q := by
  intro T hT X
  have hpl : e.platform.magicAccessors = ({} : Platform).magicAccessors := by rw [X.admits.platform]
  obtain ⟨c3, c4, hc3, hc4, hasg⟩ := Cond.castable_spec hcast
  cases Option.some.inj (hc3.symm.trans hcl)
  obtain ⟨c5, hc5, hcl5⟩ := Cond.classLink_spec hown hlink e.platform hpl
  cases Option.some.inj (hc4.symm.trans hc5)
  obtain ⟨vm', X', st⟩ := X.thenCaughtThrough q (g := F0 m pc ls rest) rfl (Steps.refl _) (by rw [hT]; exact hcell) (by rw [hv]; rfl) (by obtain ⟨k9, h9, -⟩ := Vm.findClass_spec hcl; exact ⟨k9, h9⟩) pre x suf hsplit
    (fun z hz => by
      rcases hpass z hz with h | ⟨hz0, nm, hl1, hn1⟩
      · exact Or.inl h
      · obtain ⟨c6, hc6, hcl6⟩ := Cond.classLink_spec hown hl1 e.platform hpl
        obtain ⟨a8, b8, h1, h2, h3⟩ := hn1
        cases Option.some.inj (h1.symm.trans hcl)
        cases Option.some.inj (h2.symm.trans hc6)
        exact Or.inr ⟨hz0, _, hcl6, h3⟩) hx (Or.inr ⟨h0, c4, hcl5, hasg⟩)
  obtain ⟨t, a1, b1⟩ := kk (T.setVm vm') hT X'
  exact ⟨t, st.trans a1, b1⟩
end Rows
section Ends
variable {p : Program} {l : Launch} {e : Env} {R : Room} {s : State} {m : MethodId} {args : Array Value} {below : List Frame} {meth : Method} {c : Code} {H : Heap} {locs : List Loc} {cells slots : Nat} {Q : State → Prop}
variable {mc ms : Nat} {free : Addr → Prop} {A0 A1 : Nat → Prop} {H0 : Heap} {a : Array Value} {ls : Array Slot} {st0 rest : List Value}
variable {Qc : Array Value → State → Outcome → State → Prop} {XC : String → State → State → Prop}
/-- what a body that may throw owes at its end -/
def vx_MQ (below : List Frame) (Qc : Array Value → State → Outcome → State → Prop) (XC : String → State → State → Prop) (a : Array Value) (s : State) (mc ms : Nat) (free : Addr → Prop) : State → Prop := fun t =>
  ∃ o, t.status = .running ∧ Ended t below o ∧ vx_Q Qc XC mc ms free a s o t
theorem vx_ret {g : JFrame} {mc ms : Nat} (k : W p l e R s m args below meth c H locs cells slots (MQ below Qc args s mc ms free) g) : W p l e R s m args below meth c H locs cells slots (vx_MQ below Qc XC args s mc ms free) g := by
  intro T hT X
  obtain ⟨t, a1, o, b1, b2, b3, b4⟩ := k T hT X
  exact ⟨t, a1, o, b1, b2, Or.inl ⟨b3, b4⟩⟩
/-- not caught here: it goes on to the caller -/
theorem vx_widen {g : JFrame} {q : Addr} {k n : Nat} (h1 : cells ≤ k) (h2 : slots ≤ n) (kk : vx_W p l e R s m args below meth c H locs k n Q g q) : vx_W p l e R s m args below meth c H locs cells slots Q g q := fun T hT X => kk T hT (stand_widen X h1 h2)
theorem vx_out {pc : Nat} {E : String} {ce : Cell} {q : Addr} {mc ms : Nat} (hout : ∀ x ∈ c.exceptionTable.toList, covers x pc = false) (hlocks : meth.locks = false) (hcell : H[q]? = some ce) (hv : ce.vm = .none) (hcl : s.vm.findClass E = some ce.cls)
    (hx : ∀ t : State, t.heap = H → s.vm.Alike t.vm → XC E s t) (hf : ∀ z ∈ locs, free z.base) (hc : cells ≤ mc) (hs : slots ≤ ms) :
    vx_W p l e R s m args below meth c H locs cells slots (vx_MQ below Qc XC args s mc ms free) (F0 m pc ls rest) q := by
  intro T hT X
  obtain ⟨st1, hrun, hend, hW, hsm⟩ := X.leaveThrown q (g := F0 m pc ls rest) rfl rfl rfl hout hlocks
  have hcell9 : (T.setFrames (.throwing q :: below)).heap[q]? = some ce := by
    show T.heap[q]? = some ce
    rw [hT]; exact hcell
  exact ⟨_, st1, .threw q, hrun, hend, Or.inr ⟨q, rfl, E, ce, locs, hx _ hT hW.alike, hcell9, hv, hcl, hW, hsm.mono hc hs, hf⟩⟩
theorem vx_frame {U : State} {k n : Nat} (h : s.sameButNew ({ U with vm := s.vm } : State) locs k n) : s.heap.size ≤ U.heap.size ∧ ∀ q : Nat, q < s.heap.size → (∀ z ∈ locs, z.base ≠ q) → U.heap[q]? = s.heap[q]? := by
  obtain ⟨-, h2, -, -, -, h6⟩ := h
  refine ⟨h2, fun q hq hz => ?_⟩
  obtain ⟨c9, e1, e2, e3, e4⟩ := h6 q _ (Array.getElem?_eq_getElem hq)
  have hs : c9.slots = (s.heap[q]).slots := Array.ext_getElem? fun i => e4 i fun hm => hz _ hm rfl
  have h9 : c9 = s.heap[q] := by
    rw [hs] at e2
    exact e2
  have e5 : U.heap[q]? = some c9 := e1
  rw [e5, h9, Array.getElem?_eq_getElem hq]
/-- the words of a throw but the four that speak of the heap -/
def vx_no (w : Cond) : Bool := decide (w ≠ .isRef (.static Bundle.tN "UNASSIGNED_STACK" Bundle.steD)) && decide (w ≠ .isRef (.static Bundle.tN "SUPPRESSED_SENTINEL" Bundle.listD)) && decide (w ≠ .laysStatic Bundle.tN "UNASSIGNED_STACK" Bundle.steD) && decide (w ≠ .laysStatic Bundle.tN "SUPPRESSED_SENTINEL" Bundle.listD)
def vx_at0 (own : String) (ic : Nat) (X : String) (names : List String) : List Cond := (Bundle.ownAtoms0 own ic X names).filter vx_no
def vx_atS (own : String) (ic : Nat) (X : String) (names : List String) : List Cond := (Bundle.ownAtoms own ic X names).filter vx_no
/-- a word that the tables alone decide, or a good one -/
def vx_ot (w : Cond) : Bool := w.onTables || goodWord w
theorem vx_ot_at {args a' : Array Value} {s U : State} {w : Cond} (hW : s.WarmedH U.vm) (hvm : s.vm = U.vm) (hg : vx_ot w = true) (h : w.before args s = true) : w.before a' U = true := by
  simp only [vx_ot, Bool.or_eq_true] at hg
  rcases hg with hg | hg
  · exact va_tabs hg hvm h
  · exact word_at hW (good_of_word hg) h
/-- a list's words: the good ones out of the method's own list, the others by premises of their own -/
theorem vx_hat {args : Array Value} {s : State} {L B : List Cond} (h1 : ∀ w ∈ L.filter goodWord, w.before args s = true) (h2 : ∀ w ∈ L.filter (fun w => !goodWord w), w ∈ B) (h3 : ∀ w ∈ B, w.before args s = true) : ∀ w ∈ L, w.before args s = true := by
  intro w hw
  by_cases g : goodWord w = true
  · exact h1 w (List.mem_filter.mpr ⟨hw, g⟩)
  · refine h3 w (h2 w (List.mem_filter.mpr ⟨hw, ?_⟩))
    show (!goodWord w) = true
    cases hgw : goodWord w
    · rfl
    · exact absurd hgw g
theorem vx_c {args : Array Value} {s : State} {w : Cond} {B : List Cond} (h : w.before args s = true) (t : ∀ w ∈ B, w.before args s = true) : ∀ w' ∈ w :: B, w'.before args s = true := fun w' h' => (List.mem_cons.mp h').elim (fun e => by rw [e]; exact h) (t w')
theorem vx_n {args : Array Value} {s : State} : ∀ w ∈ ([] : List Cond), w.before args s = true := fun _ h => nomatch h
theorem vx_own {args : Array Value} {s : State} {L : List Cond} (h1 : ∀ w ∈ L.filter vx_no, w.before args s = true)
    (hU : (Cond.isRef (.static Bundle.tN "UNASSIGNED_STACK" Bundle.steD)).before args s = true) (hN : (Cond.isRef (.static Bundle.tN "SUPPRESSED_SENTINEL" Bundle.listD)).before args s = true)
    (lU : (Cond.laysStatic Bundle.tN "UNASSIGNED_STACK" Bundle.steD).before args s = true) (lN : (Cond.laysStatic Bundle.tN "SUPPRESSED_SENTINEL" Bundle.listD).before args s = true) : ∀ w ∈ L, w.before args s = true := by
  intro w hw
  by_cases e1 : w = .isRef (.static Bundle.tN "UNASSIGNED_STACK" Bundle.steD)
  · rw [e1]; exact hU
  · by_cases e2 : w = .isRef (.static Bundle.tN "SUPPRESSED_SENTINEL" Bundle.listD)
    · rw [e2]; exact hN
    · by_cases e3 : w = .laysStatic Bundle.tN "UNASSIGNED_STACK" Bundle.steD
      · rw [e3]; exact lU
      · by_cases e4 : w = .laysStatic Bundle.tN "SUPPRESSED_SENTINEL" Bundle.listD
        · rw [e4]; exact lN
        · exact h1 w (List.mem_filter.mpr ⟨hw, by unfold vx_no; rw [decide_eq_true e1, decide_eq_true e2, decide_eq_true e3, decide_eq_true e4]; rfl⟩)
/-- where a static field lies, its class's statics cell in H -/
def vx_L (C n d : String) (A : Nat → Prop) (U : State) (H : Heap) : Prop := ∃ (c : ClassId) (k : Class) (i : Nat) (f : Field) (a : Nat) (cell : Cell), U.vm.findClass C = some c ∧ U.fieldFound? C n d = some (c, k, i, f) ∧ f.isStatic = true ∧ k.statics = some a ∧ H[a]? = some cell ∧ cell.vm.isStatics = true ∧ cell.cls = c ∧ f.slot < cell.slots.size ∧ k.staticTypes[f.slot]? = some f.type ∧ ¬ A a
theorem vx_L.moved {C n d : String} {A : Nat → Prop} {u U : State} {H : Heap} (hvm : u.vm.Alike U.vm) (h : vx_L C n d A u H) : vx_L C n d A U H := by
  obtain ⟨c, k, i, f, a, cell, h1, h2, h3, h4, h5, h6, h7, h8, h9, h10⟩ := h
  obtain ⟨k', hi', he⟩ := State.fieldFound?_setVm hvm h2
  exact ⟨c, k', i, f, a, cell, by rw [hvm.findClass]; exact h1, hi', h3, by rw [he]; exact h4, h5, h6, h7, h8, by rw [he]; exact h9, h10⟩
theorem vx_L.kept {C n d : String} {A : Nat → Prop} {U : State} {H H1 : Heap} (h : vx_L C n d A U H) (hq : ∀ a : Nat, a < H.size → ¬ A a → H1[a]? = H[a]?) : vx_L C n d A U H1 := by
  obtain ⟨c, k, i, f, a, cell, h1, h2, h3, h4, h5, h6, h7, h8, h9, h10⟩ := h
  exact ⟨c, k, i, f, a, cell, h1, h2, h3, h4, by rw [hq a (Array.getElem?_eq_some_iff.mp h5).1 h10]; exact h5, h6, h7, h8, h9, h10⟩
theorem vx_L.narrow {C n d : String} {A B : Nat → Prop} {U : State} {H : Heap} (h : vx_L C n d A U H) (hAB : ∀ q, B q → A q) : vx_L C n d B U H := by
  obtain ⟨c, k, i, f, a, cell, h1, h2, h3, h4, h5, h6, h7, h8, h9, h10⟩ := h
  exact ⟨c, k, i, f, a, cell, h1, h2, h3, h4, h5, h6, h7, h8, h9, fun z => h10 (hAB _ z)⟩
theorem vx_L.word {C n d : String} {A : Nat → Prop} {s : State} {args : Array Value} (h : vx_L C n d A s s.heap) : (Cond.laysStatic C n d).before args s = true := by
  obtain ⟨c, k, i, f, a, cell, h1, h2, h3, h4, h5, h6, h7, h8, h9, -⟩ := h
  show (Cond.laysStatic C n d).holds args s none s [] = true
  exact Cond.laysStatic_of h1 h2 h3 h4 h5 h6 h7 h8 h9
/-- .. and what it holds: null or some reference -/
def vx_Zq (C n d : String) (A : Nat → Prop) (U : State) (H : Heap) : Prop := va_Zq C n d A U H ∧ vx_L C n d A U H
theorem vx_Zq.moved {C n d : String} {A : Nat → Prop} {u U : State} {H : Heap} (hvm : u.vm.Alike U.vm) (h : vx_Zq C n d A u H) : vx_Zq C n d A U H := ⟨va_Zq.moved hvm h.1, vx_L.moved hvm h.2⟩
theorem vx_Zq.kept {C n d : String} {A : Nat → Prop} {U : State} {H H1 : Heap} (h : vx_Zq C n d A U H) (hq : ∀ a : Nat, a < H.size → ¬ A a → H1[a]? = H[a]?) : vx_Zq C n d A U H1 := ⟨va_Zq.kept h.1 hq, vx_L.kept h.2 hq⟩
theorem vx_Zq.narrow {C n d : String} {A B : Nat → Prop} {U : State} {H : Heap} (h : vx_Zq C n d A U H) (hAB : ∀ q, B q → A q) : vx_Zq C n d B U H := ⟨va_Zq.narrow h.1 hAB, vx_L.narrow h.2 hAB⟩
theorem vx_Zqof {args : Array Value} {s : State} {C n d : String} {A : Nat → Prop} (hl : (Cond.laysStatic C n d).before args s = true) (hini : (Cond.initialized C).before args s = true) (h : (Cond.isRef (.static C n d)).before args s = true) (hA : ∀ a : Nat, a < s.heap.size → ¬ A a) : vx_Zq C n d A s s.heap := by
  refine ⟨va_Zqof hl hini h hA, ?_⟩
  obtain ⟨c, k, i, f, a, cell, h1, h2, h3, h4, h5, h6, h7, h8, h9⟩ := Cond.laysStatic_spec hl
  exact ⟨c, k, i, f, a, cell, h1, h2, h3, h4, h5, h6, h7, h8, h9, hA a (Array.getElem?_eq_some_iff.mp h5).1⟩
theorem vx_isRef {C n d : String} {v : Value} {A : Nat → Prop} {s : State} {args : Array Value} (h : va_Z C n d v A s s.heap) (hv : v.isRef = true) : (Cond.isRef (.static C n d)).before args s = true := by
  obtain ⟨cf, kf, fi, f, a, cell, h1, h2, h3, h4, h5, h6, h7, -⟩ := h
  have he : (Term.static C n d).eval args s none [] s = some v := by
    simp [Term.eval, State.fieldNamed?, h1, h2, h4, h5, h6, h7]
  simp only [Cond.before, Cond.holds, Cond.value, he]
  cases v <;> simp_all [Value.isRef]
theorem vx_isRefq {C n d : String} {A : Nat → Prop} {s : State} {args : Array Value} (h : va_Zq C n d A s s.heap) : (Cond.isRef (.static C n d)).before args s = true := by
  rcases h with h | ⟨t, h⟩
  · exact vx_isRef h rfl
  · exact vx_isRef h rfl
/-- the same frame, seen from here: as if the method were called anew in this heap -/
theorem vx_rebase {T : State} (X : Stand p l e R s m args below meth c T locs cells slots) {R' : Room} (hf : R'.frames ≤ R.frames) (hl : R'.locals ≤ R.locals) (hc : cells + R'.cells ≤ R.cells) (hs : slots + R'.slots ≤ R.slots) :
    Stand p l e R' ((T.setVm s.vm).setFrames (.invoking m args :: below)) m args below meth c T [] 0 0 := by
  have htop : (T.setVm s.vm).topJava?.isSome := X.here.top
  have hF : ((T.setVm s.vm).setFrames (.invoking m args :: below)).frames = .invoking m args :: below := State.frames_setFrames _ (State.cur_lt_of_top htop)
  obtain ⟨g₀, hg0⟩ := Option.isSome_iff_exists.mp htop
  obtain ⟨r, hr⟩ := State.topJava?_eq_some.mp hg0
  have hl9 : e.platform.stackLimits (T.setVm s.vm).me = e.platform.stackLimits s.me := X.limits
  have hb9 : (T.setVm s.vm).me.stackBytes = s.me.stackBytes := X.bytes
  refine ⟨X.admits, X.cas, X.clock, hF, ?_, X.hears, X.method, X.code, X.here, X.tail, X.warmed, ?_, ?_, ?_⟩
  · have h := X.room
    have hU : ((T.setVm s.vm).setFrames (.invoking m args :: below)).localsInUse = s.localsInUse := by
      rw [State.localsInUse_invoking hF (meth := meth) (c := c) X.method X.code, State.localsInUse_invoking X.frames X.method X.code]
    simp only [State.hasRoom, Bool.and_eq_true, decide_eq_true_eq] at h ⊢
    obtain ⟨⟨⟨⟨h1, h2, h3, h4, h5, h6⟩, h7⟩, h8⟩, h9⟩ := h
    rw [X.frames, List.length_cons] at h2 h3
    have q1 := X.heapSize
    have q2 := X.used
    simp only [hF, hU, List.length_cons, State.stackLimits_setFrames, State.stackBytes_setFrames, hl9, hb9]
    refine ⟨⟨⟨⟨by omega, by omega, by omega, by omega, by omega, h6⟩, ?_⟩, ?_⟩, X.book⟩
    · show T.heap.size + R'.cells ≤ e.platform.maxCells
      omega
    · show T.slotsUsed + R'.slots ≤ e.platform.maxSlots
      omega
  · rw [State.stackLimits_setFrames]; rfl
  · rw [State.stackBytes_setFrames]; rfl
  · refine ⟨?_, Nat.le_refl _, Nat.le_refl _, ?_, ?_, fun a c9 h9 => ⟨c9, h9, rfl, rfl, fun _ _ => rfl⟩⟩
    · obtain ⟨t, ht, -⟩ := State.frames_cons hr
      show T.setVm s.vm = { ((T.setVm s.vm).setFrames (.invoking m args :: below)).setFrames (T.setVm s.vm).frames with heap := T.heap, slotsUsed := T.slotsUsed }
      rw [State.setFrames_setFrames, State.setFrames_self ht]
      rfl
    · show T.slotsUsed = T.slotsUsed + ((T.heap.toList.drop T.heap.size).map (·.slots.size)).sum
      rw [List.drop_eq_nil_of_le (Nat.le_of_eq Array.length_toList)]
      rfl
    · show ((T.heap.toList.drop T.heap.size).map (·.slots.size)).sum ≤ 0
      rw [List.drop_eq_nil_of_le (Nat.le_of_eq Array.length_toList)]
      exact Nat.le_refl _
/-- 'throw new E()': new; dup; invokespecial; athrow -/
theorem vx_throw0 {cc : ByteArray} {pc : Nat} (hexec : p.tables.exec = Jvm.exec) (hb : c.code = cc) (hl : l.stackTraces = false) {own cls : String} {names : List String} {ik ic mc ms : Nat} {A : Nat → Prop}
    (hown : s.vm.findClass own = some m.cls) (hcls : Bundle.fit cls = true) (hnames : ∀ n ∈ names, Bundle.fit n = true)
    (hk : (Cond.classLink own ik cls).before args s = true) (hini : (Cond.initialized cls).before args s = true) (hat : ∀ w ∈ vx_at0 own ic cls names, w.before args s = true)
    (hgood : ∀ w ∈ Cond.classLink own ik cls :: Cond.initialized cls :: vx_at0 own ic cls names, vx_ot w = true)
    (hU : vx_Zq Bundle.tN "UNASSIGNED_STACK" Bundle.steD A s s.heap) (hN : vx_Zq Bundle.tN "SUPPRESSED_SENTINEL" Bundle.listD A s s.heap) (hS : va_S A s.heap H locs) (hsize : ls.size = c.maxLocals)
    (d0 : decode cc pc = .ok (.new ik, 3)) (d3 : decode cc (pc + 3) = .ok (.dup, 1)) (d4 : decode cc (pc + 4) = .ok (.invokespecial ic, 3)) (d7 : decode cc (pc + 7) = .ok (.athrow, 1))
    (hout : ∀ x ∈ c.exceptionTable.toList, covers x (pc + 7) = false)
    (hRframes : names.length + 3 < R.frames) (hRlocals : (rest.map fun v => v.category).sum + (13 * (names.length + 1) + 42) ≤ R.locals) (hRcells : cells + 1 ≤ R.cells) (hRslots : slots + 6 ≤ R.slots) (hlocks : meth.locks = false)
    (hx : ∀ t : State, s.vm.Alike t.vm → H.size ≤ t.heap.size → (∀ q : Nat, q < H.size → t.heap[q]? = H[q]?) → XC cls s t)
    (hf : ∀ z ∈ locs, free z.base) (hc : cells + 1 ≤ mc) (hs : slots + 6 ≤ ms) :
    W p l e R s m args below meth c H locs cells slots (vx_MQ below Qc XC args s mc ms free) (F0 m pc ls rest) := by
  intro T hT X
  have htr : e.platform.stackTraces = false := (show e.platform.stackTraces = l.stackTraces by rw [X.admits.platform]).trans hl
  have Y := vx_rebase X (R' := { frames := R.frames, locals := R.locals, cells := 1, slots := 6 }) (Nat.le_refl _) (Nat.le_refl _) hRcells hRslots
  obtain ⟨s', hA⟩ : ∃ z, z = (T.setVm s.vm).setFrames (.invoking m args :: below) := ⟨_, rfl⟩
  rw [← hA] at Y
  have hvm : s'.vm = s.vm := by rw [hA]; rfl
  have hhp : s'.heap = H := by rw [hA]; exact hT
  have hW0 : s.WarmedH s'.vm := by rw [hvm]; exact State.WarmedH.refl s
  have hat' : ∀ w ∈ vx_at0 own ic cls names, w.before args s' = true := fun w hw => vx_ot_at hW0 hvm.symm (hgood w (List.mem_cons_of_mem _ (List.mem_cons_of_mem _ hw))) (hat w hw)
  have hk' : (Cond.classLink own ik cls).before args s' = true := vx_ot_at hW0 hvm.symm (hgood _ List.mem_cons_self) hk
  have hini' : (Cond.initialized cls).before args s' = true := vx_ot_at hW0 hvm.symm (hgood _ (List.mem_cons_of_mem _ List.mem_cons_self)) hini
  have hU' : vx_Zq Bundle.tN "UNASSIGNED_STACK" Bundle.steD A s' s'.heap := by rw [hhp]; exact vx_Zq.moved hW0.alike (hU.kept hS.2.1)
  have hN' : vx_Zq Bundle.tN "SUPPRESSED_SENTINEL" Bundle.listD A s' s'.heap := by rw [hhp]; exact vx_Zq.moved hW0.alike (hN.kept hS.2.1)
  have h : ∀ w ∈ Bundle.ownAtoms0 own ic cls names, w.before args s' = true := vx_own hat' (vx_isRefq hU'.1) (vx_isRefq hN'.1) hU'.2.word hN'.2.word
  have hown' : s'.vm.findClass own = some m.cls := by rw [hvm]; exact hown
  have hins : (Cond.instantiable cls 6).before args s' = true := h _ (by simp [Bundle.ownAtoms0])
  obtain ⟨vm₁, cX, kX, hfX, hkX, -, -, X₁, st1⟩ := Y.newCold hexec (own := own) (C := cls) (index := ik) (n := 6) hown' hk' hins hini'
    (g := F0 m pc ls rest) rfl (by rw [hb]; exact d0) (Nat.le_refl _) (Nat.le_refl _)
  generalize hT1 : (T.setVm vm₁).pushCell { cls := cX, slots := kX.instanceTypes.map defaultValue, vm := .none } = T1 at X₁ st1
  have hcat : (Value.ref T.heap.size).category = 1 := rfl
  have hcellA : T1.heap[T.heap.size]? = some (freshCell cX kX) := by rw [← hT1]; exact State.heap_pushCell_size _ _
  have d3' : decode c.code (pc + 3) = .ok (.dup, 1) := by rw [hb]; exact d3
  obtain ⟨U, hsteps, hrun, hend, hW, hsame, ce, hce, hO⟩ := X₁.ctorThrow0 hexec htr (own := own) (cls := cls) (names := names) (ic := ic) hown' hcls hnames h (fun x hx => nomatch hx) hfX hkX hcellA (by rw [hhp, hT]; exact Nat.le_refl _)
    (g := { method := m, pc := pc + 4, locals := ls, stack := .ref T.heap.size :: .ref T.heap.size :: rest, locked := none }) rfl hsize rfl rfl (rest := rest) rfl
    (by rw [hb]; exact d4) (by rw [hb]; exact d7) hout hRframes (by simp only [List.map_cons, List.sum_cons, hcat]; omega) hlocks
  obtain ⟨f1, f2⟩ := vx_frame hsame
  rw [hhp] at f1 f2
  have hWs : s.WarmedH U.vm := State.WarmedH.trans hW0 hW
  have hcl : s.vm.findClass cls = some ce.cls := by
    have h9 := hO.cls
    rw [hvm] at h9
    exact h9
  have hall : s.sameButNew ({ U with vm := s.vm } : State) locs mc ms := by
    subst hA
    obtain ⟨e1, e2⟩ := hsame
    rw [State.setFrames_setFrames] at e1
    have h2 : (T.setVm s.vm).sameButNew ({ U with vm := s.vm } : State) [] (0 + 1) (0 + 6) := ⟨e1, e2⟩
    have h3 := X.same.trans h2
    rw [List.append_nil] at h3
    exact h3.mono hc hs
  refine ⟨U, ?_, .threw T.heap.size, hrun, hend, Or.inr ⟨T.heap.size, rfl, cls, ce, locs, hx U hWs.alike f1 (fun q hq => f2 q hq (fun z hz => nomatch hz)), hce, hO.vm, hcl, hWs, hall, hf⟩⟩
  refine st1 _ ?_
  show Steps p.tables e below (T1.setTop { method := m, pc := pc + 3, locals := ls, stack := .ref T.heap.size :: rest, locked := none }) _
  jvm_step X₁.here [X₁.here.top, hexec, d3', Value.category]
  exact hsteps
/-- 'throw new E("text")': new; dup; ldc; invokespecial; athrow -/
theorem vx_throwS {cc : ByteArray} {pc : Nat} (hexec : p.tables.exec = Jvm.exec) (hb : c.code = cc) (hl : l.stackTraces = false) {own cls text : String} {names : List String} {ik is ic mc ms sa : Nat} {A : Nat → Prop}
    (hown : s.vm.findClass own = some m.cls) (hcls : Bundle.fit cls = true) (hnames : ∀ n ∈ names, Bundle.fit n = true)
    (hk : (Cond.classLink own ik cls).before args s = true) (hini : (Cond.initialized cls).before args s = true) (hstr : vk_R own is text sa s) (hat : ∀ w ∈ vx_atS own ic cls names, w.before args s = true)
    (hgood : ∀ w ∈ Cond.classLink own ik cls :: Cond.initialized cls :: vx_atS own ic cls names, vx_ot w = true)
    (hU : vx_Zq Bundle.tN "UNASSIGNED_STACK" Bundle.steD A s s.heap) (hN : vx_Zq Bundle.tN "SUPPRESSED_SENTINEL" Bundle.listD A s s.heap) (hS : va_S A s.heap H locs) (hsize : ls.size = c.maxLocals)
    (d0 : decode cc pc = .ok (.new ik, 3)) (d3 : decode cc (pc + 3) = .ok (.dup, 1)) (d4 : decode cc (pc + 4) = .ok (.ldc is, 2)) (d6 : decode cc (pc + 6) = .ok (.invokespecial ic, 3)) (d9 : decode cc (pc + 9) = .ok (.athrow, 1))
    (hout : ∀ x ∈ c.exceptionTable.toList, covers x (pc + 9) = false)
    (hRframes : names.length + 3 < R.frames) (hRlocals : (rest.map fun v => v.category).sum + (13 * (names.length + 1) + 43) ≤ R.locals) (hRcells : cells + 1 ≤ R.cells) (hRslots : slots + 6 ≤ R.slots) (hlocks : meth.locks = false)
    (hx : ∀ t : State, s.vm.Alike t.vm → H.size ≤ t.heap.size → (∀ q : Nat, q < H.size → t.heap[q]? = H[q]?) → XC cls s t)
    (hf : ∀ z ∈ locs, free z.base) (hc : cells + 1 ≤ mc) (hs : slots + 6 ≤ ms) :
    W p l e R s m args below meth c H locs cells slots (vx_MQ below Qc XC args s mc ms free) (F0 m pc ls rest) := by
  intro T hT X
  have htr : e.platform.stackTraces = false := (show e.platform.stackTraces = l.stackTraces by rw [X.admits.platform]).trans hl
  have Y := vx_rebase X (R' := { frames := R.frames, locals := R.locals, cells := 1, slots := 6 }) (Nat.le_refl _) (Nat.le_refl _) hRcells hRslots
  obtain ⟨s', hA⟩ : ∃ z, z = (T.setVm s.vm).setFrames (.invoking m args :: below) := ⟨_, rfl⟩
  rw [← hA] at Y
  have hvm : s'.vm = s.vm := by rw [hA]; rfl
  have hhp : s'.heap = H := by rw [hA]; exact hT
  have hW0 : s.WarmedH s'.vm := by rw [hvm]; exact State.WarmedH.refl s
  have hat' : ∀ w ∈ vx_atS own ic cls names, w.before args s' = true := fun w hw => vx_ot_at hW0 hvm.symm (hgood w (List.mem_cons_of_mem _ (List.mem_cons_of_mem _ hw))) (hat w hw)
  have hk' : (Cond.classLink own ik cls).before args s' = true := vx_ot_at hW0 hvm.symm (hgood _ List.mem_cons_self) hk
  have hini' : (Cond.initialized cls).before args s' = true := vx_ot_at hW0 hvm.symm (hgood _ (List.mem_cons_of_mem _ List.mem_cons_self)) hini
  have hU' : vx_Zq Bundle.tN "UNASSIGNED_STACK" Bundle.steD A s' s'.heap := by rw [hhp]; exact vx_Zq.moved hW0.alike (hU.kept hS.2.1)
  have hN' : vx_Zq Bundle.tN "SUPPRESSED_SENTINEL" Bundle.listD A s' s'.heap := by rw [hhp]; exact vx_Zq.moved hW0.alike (hN.kept hS.2.1)
  have h : ∀ w ∈ Bundle.ownAtoms own ic cls names, w.before args s' = true := vx_own hat' (vx_isRefq hU'.1) (vx_isRefq hN'.1) hU'.2.word hN'.2.word
  have hown' : s'.vm.findClass own = some m.cls := by rw [hvm]; exact hown
  have hins : (Cond.instantiable cls 6).before args s' = true := h _ (by simp [Bundle.ownAtoms])
  obtain ⟨vm₁, cX, kX, hfX, hkX, -, -, X₁, st1⟩ := Y.newCold hexec (own := own) (C := cls) (index := ik) (n := 6) hown' hk' hins hini'
    (g := F0 m pc ls rest) rfl (by rw [hb]; exact d0) (Nat.le_refl _) (Nat.le_refl _)
  generalize hT1 : (T.setVm vm₁).pushCell { cls := cX, slots := kX.instanceTypes.map defaultValue, vm := .none } = T1 at X₁ st1
  have hcat : (Value.ref T.heap.size).category = 1 := rfl
  have hcellA : T1.heap[T.heap.size]? = some (freshCell cX kX) := by rw [← hT1]; exact State.heap_pushCell_size _ _
  have d3' : decode c.code (pc + 3) = .ok (.dup, 1) := by rw [hb]; exact d3
  have d4' : decode c.code (pc + 4) = .ok (.ldc is, 2) := by rw [hb]; exact d4
  have hstr' : vk_R own is text sa s' := vk_R.warm hW0 hstr
  obtain ⟨U, hsteps, hrun, hend, hW, hsame, ce, hce, hO⟩ := X₁.ctorThrowS hexec htr (own := own) (cls := cls) (names := names) (ic := ic) hown' hcls hnames h (fun x hx => nomatch hx) hfX hkX hcellA (by rw [hhp, hT]; exact Nat.le_refl _) (msg := .ref sa) rfl
    (g := { method := m, pc := pc + 6, locals := ls, stack := .ref sa :: .ref T.heap.size :: .ref T.heap.size :: rest, locked := none }) rfl hsize rfl rfl (rest := rest) rfl
    (by rw [hb]; exact d6) (by rw [hb]; exact d9) hout hRframes (by simp only [List.map_cons, List.sum_cons, hcat]; omega) hlocks
  obtain ⟨f1, f2⟩ := vx_frame hsame
  rw [hhp] at f1 f2
  have hWs : s.WarmedH U.vm := State.WarmedH.trans hW0 hW
  have hcl : s.vm.findClass cls = some ce.cls := by
    have h9 := hO.cls
    rw [hvm] at h9
    exact h9
  have hall : s.sameButNew ({ U with vm := s.vm } : State) locs mc ms := by
    subst hA
    obtain ⟨e1, e2⟩ := hsame
    rw [State.setFrames_setFrames] at e1
    have h2 : (T.setVm s.vm).sameButNew ({ U with vm := s.vm } : State) [] (0 + 1) (0 + 6) := ⟨e1, e2⟩
    have h3 := X.same.trans h2
    rw [List.append_nil] at h3
    exact h3.mono hc hs
  refine ⟨U, ?_, .threw T.heap.size, hrun, hend, Or.inr ⟨T.heap.size, rfl, cls, ce, locs, hx U hWs.alike f1 (fun q hq => f2 q hq (fun z hz => nomatch hz)), hce, hO.vm, hcl, hWs, hall, hf⟩⟩
  refine st1 _ ?_
  show Steps p.tables e below (T1.setTop { method := m, pc := pc + 3, locals := ls, stack := .ref T.heap.size :: rest, locked := none }) _
  jvm_step X₁.here [X₁.here.top, hexec, d3', Value.category]
  exact X₁.ldcString hexec (own := own) (text := text) (index := is) (a := sa) hown' hstr'.1 hstr'.2
    (g := { method := m, pc := pc + 4, locals := ls, stack := .ref T.heap.size :: .ref T.heap.size :: rest, locked := none }) rfl d4' _ hsteps
/-- 'throw new E("text")', the text by a wide index -/
theorem vx_throwSW {cc : ByteArray} {pc : Nat} (hexec : p.tables.exec = Jvm.exec) (hb : c.code = cc) (hl : l.stackTraces = false) {own cls text : String} {names : List String} {ik is ic mc ms sa : Nat} {A : Nat → Prop}
    (hown : s.vm.findClass own = some m.cls) (hcls : Bundle.fit cls = true) (hnames : ∀ n ∈ names, Bundle.fit n = true)
    (hk : (Cond.classLink own ik cls).before args s = true) (hini : (Cond.initialized cls).before args s = true) (hstr : vk_R own is text sa s) (hat : ∀ w ∈ vx_atS own ic cls names, w.before args s = true)
    (hgood : ∀ w ∈ Cond.classLink own ik cls :: Cond.initialized cls :: vx_atS own ic cls names, vx_ot w = true)
    (hU : vx_Zq Bundle.tN "UNASSIGNED_STACK" Bundle.steD A s s.heap) (hN : vx_Zq Bundle.tN "SUPPRESSED_SENTINEL" Bundle.listD A s s.heap) (hS : va_S A s.heap H locs) (hsize : ls.size = c.maxLocals)
    (d0 : decode cc pc = .ok (.new ik, 3)) (d3 : decode cc (pc + 3) = .ok (.dup, 1)) (d4 : decode cc (pc + 4) = .ok (.ldc_w is, 3)) (d7 : decode cc (pc + 7) = .ok (.invokespecial ic, 3)) (d10 : decode cc (pc + 10) = .ok (.athrow, 1))
    (hout : ∀ x ∈ c.exceptionTable.toList, covers x (pc + 10) = false)
    (hRframes : names.length + 3 < R.frames) (hRlocals : (rest.map fun v => v.category).sum + (13 * (names.length + 1) + 43) ≤ R.locals) (hRcells : cells + 1 ≤ R.cells) (hRslots : slots + 6 ≤ R.slots) (hlocks : meth.locks = false)
    (hx : ∀ t : State, s.vm.Alike t.vm → H.size ≤ t.heap.size → (∀ q : Nat, q < H.size → t.heap[q]? = H[q]?) → XC cls s t)
    (hf : ∀ z ∈ locs, free z.base) (hc : cells + 1 ≤ mc) (hs : slots + 6 ≤ ms) :
    W p l e R s m args below meth c H locs cells slots (vx_MQ below Qc XC args s mc ms free) (F0 m pc ls rest) := by
  intro T hT X
  have htr : e.platform.stackTraces = false := (show e.platform.stackTraces = l.stackTraces by rw [X.admits.platform]).trans hl
  have Y := vx_rebase X (R' := { frames := R.frames, locals := R.locals, cells := 1, slots := 6 }) (Nat.le_refl _) (Nat.le_refl _) hRcells hRslots
  obtain ⟨s', hA⟩ : ∃ z, z = (T.setVm s.vm).setFrames (.invoking m args :: below) := ⟨_, rfl⟩
  rw [← hA] at Y
  have hvm : s'.vm = s.vm := by rw [hA]; rfl
  have hhp : s'.heap = H := by rw [hA]; exact hT
  have hW0 : s.WarmedH s'.vm := by rw [hvm]; exact State.WarmedH.refl s
  have hat' : ∀ w ∈ vx_atS own ic cls names, w.before args s' = true := fun w hw => vx_ot_at hW0 hvm.symm (hgood w (List.mem_cons_of_mem _ (List.mem_cons_of_mem _ hw))) (hat w hw)
  have hk' : (Cond.classLink own ik cls).before args s' = true := vx_ot_at hW0 hvm.symm (hgood _ List.mem_cons_self) hk
  have hini' : (Cond.initialized cls).before args s' = true := vx_ot_at hW0 hvm.symm (hgood _ (List.mem_cons_of_mem _ List.mem_cons_self)) hini
  have hU' : vx_Zq Bundle.tN "UNASSIGNED_STACK" Bundle.steD A s' s'.heap := by rw [hhp]; exact vx_Zq.moved hW0.alike (hU.kept hS.2.1)
  have hN' : vx_Zq Bundle.tN "SUPPRESSED_SENTINEL" Bundle.listD A s' s'.heap := by rw [hhp]; exact vx_Zq.moved hW0.alike (hN.kept hS.2.1)
  have h : ∀ w ∈ Bundle.ownAtoms own ic cls names, w.before args s' = true := vx_own hat' (vx_isRefq hU'.1) (vx_isRefq hN'.1) hU'.2.word hN'.2.word
  have hown' : s'.vm.findClass own = some m.cls := by rw [hvm]; exact hown
  have hins : (Cond.instantiable cls 6).before args s' = true := h _ (by simp [Bundle.ownAtoms])
  obtain ⟨vm₁, cX, kX, hfX, hkX, -, -, X₁, st1⟩ := Y.newCold hexec (own := own) (C := cls) (index := ik) (n := 6) hown' hk' hins hini'
    (g := F0 m pc ls rest) rfl (by rw [hb]; exact d0) (Nat.le_refl _) (Nat.le_refl _)
  generalize hT1 : (T.setVm vm₁).pushCell { cls := cX, slots := kX.instanceTypes.map defaultValue, vm := .none } = T1 at X₁ st1
  have hcat : (Value.ref T.heap.size).category = 1 := rfl
  have hcellA : T1.heap[T.heap.size]? = some (freshCell cX kX) := by rw [← hT1]; exact State.heap_pushCell_size _ _
  have d3' : decode c.code (pc + 3) = .ok (.dup, 1) := by rw [hb]; exact d3
  have d4' : decode c.code (pc + 4) = .ok (.ldc_w is, 3) := by rw [hb]; exact d4
  have hstr' : vk_R own is text sa s' := vk_R.warm hW0 hstr
  obtain ⟨U, hsteps, hrun, hend, hW, hsame, ce, hce, hO⟩ := X₁.ctorThrowS hexec htr (own := own) (cls := cls) (names := names) (ic := ic) hown' hcls hnames h (fun x hx => nomatch hx) hfX hkX hcellA (by rw [hhp, hT]; exact Nat.le_refl _) (msg := .ref sa) rfl
    (g := { method := m, pc := pc + 7, locals := ls, stack := .ref sa :: .ref T.heap.size :: .ref T.heap.size :: rest, locked := none }) rfl hsize rfl rfl (rest := rest) rfl
    (by rw [hb]; exact d7) (by rw [hb]; exact d10) hout hRframes (by simp only [List.map_cons, List.sum_cons, hcat]; omega) hlocks
  obtain ⟨f1, f2⟩ := vx_frame hsame
  rw [hhp] at f1 f2
  have hWs : s.WarmedH U.vm := State.WarmedH.trans hW0 hW
  have hcl : s.vm.findClass cls = some ce.cls := by
    have h9 := hO.cls
    rw [hvm] at h9
    exact h9
  have hall : s.sameButNew ({ U with vm := s.vm } : State) locs mc ms := by
    subst hA
    obtain ⟨e1, e2⟩ := hsame
    rw [State.setFrames_setFrames] at e1
    have h2 : (T.setVm s.vm).sameButNew ({ U with vm := s.vm } : State) [] (0 + 1) (0 + 6) := ⟨e1, e2⟩
    have h3 := X.same.trans h2
    rw [List.append_nil] at h3
    exact h3.mono hc hs
  refine ⟨U, ?_, .threw T.heap.size, hrun, hend, Or.inr ⟨T.heap.size, rfl, cls, ce, locs, hx U hWs.alike f1 (fun q hq => f2 q hq (fun z hz => nomatch hz)), hce, hO.vm, hcl, hWs, hall, hf⟩⟩
  refine st1 _ ?_
  show Steps p.tables e below (T1.setTop { method := m, pc := pc + 3, locals := ls, stack := .ref T.heap.size :: rest, locked := none }) _
  jvm_step X₁.here [X₁.here.top, hexec, d3', Value.category]
  exact X₁.ldcStringW hexec (own := own) (text := text) (index := is) (a := sa) hown' hstr'.1 hstr'.2
    (g := { method := m, pc := pc + 4, locals := ls, stack := .ref T.heap.size :: .ref T.heap.size :: rest, locked := none }) rfl d4' _ hsteps
end Ends
section Bodies
variable {l : Launch}
theorem vx_ofW {y : MethodName} {ws ws' : List Cond} {rm : Room} {Pc : Array Value → State → Prop} {Qc : Array Value → State → Outcome → State → Prop} {XC : String → State → State → Prop} {mc ms : Nat} {free : Addr → Prop} {cc : ByteArray} {maxL : Nat} {ret : Option FieldType}
    (hy : plainName y.cls = true) (hw : ws = Cond.code y cc maxL ret :: ws')
    (body : ∀ p e s m args below meth c s₁, BodyLoose p l y (headSpec ws rm) cc maxL ret e s m args below meth c s₁ → c.maxLocals = maxL → (∀ x ∈ c.exceptionTable.toList, False) → Pc args s →
      W p l e (headSpec ws rm).room s m args below meth c s.heap [] 0 0 (vx_MQ below Qc XC args s mc ms free) (entryFrame m args maxL)) : vx_Met l y ws rm Pc Qc XC mc ms free := by
  refine MetFree.of_bodyS (code := cc) (maxLocals := maxL) (ret := ret) hy ?_ ?_
  · intro args s m h hn
    obtain ⟨meth, c, h1, h2, h3, h4, h5, h6, -, -⟩ := Cond.code_spec hn (atoms_spec (ws := ws) h _ (by rw [hw]; exact List.mem_cons_self))
    exact ⟨meth, c, h1, h2, h3, h4, h5, h6⟩
  · intro p e s m args below meth c s₁ B hml hP _
    have hh0 : s₁.heap = s.heap := by rw [B.state]; rfl
    have ht : ∀ x ∈ c.exceptionTable.toList, False := by
      obtain ⟨meth9, c9, h1, h2, -, -, -, -, h7, -⟩ := Cond.code_spec B.named (atoms_spec (ws := ws) B.pre _ (by rw [hw]; exact List.mem_cons_self))
      cases Option.some.inj (h1.symm.trans B.method)
      cases Option.some.inj (h2.symm.trans (Stand.of_body B).code)
      intro x hx
      rw [Array.isEmpty_iff.mp h7] at hx
      cases hx
    obtain ⟨t, a1, o, b1, b2, b3⟩ := body p e s m args below meth c s₁ B hml ht hP s₁ hh0 (Stand.of_body B)
    exact ⟨t, o, a1, b1, b2, b3⟩
/-- the table of a body with handlers -/
theorem vx_table {p : Program} {x y : MethodName} {S : Spec} {cc bytes : ByteArray} {maxL maxL' : Nat} {ret ret' : Option FieldType} {e : Env} {s s₁ : State} {m : MethodId} {args : Array Value} {below : List Frame} {meth : Method} {c : Code} {hh : List (Nat × Nat × Nat × Nat)}
    (B : BodyLoose p l y S cc maxL ret e s m args below meth c s₁) (h : (Cond.codeWith y bytes maxL' ret' hh).before args s = true) : c.exceptionTable.toList = tableOf hh := by
  obtain ⟨m9, meth9, c9, hn9, h1, h2, -, -, h6, -⟩ := Cond.codeWith_spec h
  cases Option.some.inj (hn9.symm.trans B.named)
  cases Option.some.inj (h1.symm.trans B.method)
  cases Option.some.inj (h2.symm.trans (Stand.of_body B).code)
  rw [← h6, table_eq]
end Bodies
end VXA
/-! ===== END ===== -/
/-! ===== BEGIN a static call of a method with an exception table ===== -/
section VXS
variable {p : Program} {l : Launch} {e : Env} {R : Room} {s : State} {m : MethodId} {args : Array Value} {below : List Frame} {meth : Method} {c : Code} {T : State} {H : Heap} {locs : List Loc} {cells slots : Nat}
abbrev vx_CSW (R : Room) (s : State) (args : Array Value) (own : String) (index : Nat) (y : MethodName) (bytes : ByteArray) (maxL : Nat) (ret : Option FieldType) (hh : List (Nat × Nat × Nat × Nat)) (ws : List Cond) (rm : Room) (mc ms n : Nat) : Prop :=
  (rm.cells = mc ∧ rm.slots = ms ∧ rm.frames + 1 ≤ R.frames ∧ 8 + (maxL + 11) + rm.locals ≤ R.locals ∧ (∀ w ∈ ws, ∀ (a' : Array Value) (U : State), s.WarmedH U.vm → w.before a' U = true) ∧ Cond.codeWith y bytes maxL ret hh ∈ ws) ∧
  (Cond.codeWith y bytes maxL ret hh).before args s = true ∧ (Cond.initialized y.cls).before args s = true ∧ (y.cls ≠ "java/lang/invoke/MethodHandle" ∧ y.cls ≠ "java/lang/invoke/VarHandle") ∧
  (∀ sig, parseMethodDescriptor y.desc = some sig → n = sig.parameters.length) ∧ (Cond.methodLink own index y).before args s = true ∧ (Cond.static y).before args s = true
theorem vx_cwSW {own : String} {index maxL mc ms : Nat} {y : MethodName} {bytes : ByteArray} {ret : Option FieldType} {hh : List (Nat × Nat × Nat × Nat)} {Ts ws ws' : List Cond} {rm : Room} (n : Nat) (ht : ∀ w ∈ Ts, w.before args s = true) (hT : GoodIn Ts (va_wsS own index y ws)) (hw : ws = Cond.codeWith y bytes maxL ret hh :: ws') (hrc : rm.cells = mc) (hrs : rm.slots = ms)
    (hd : y.cls ≠ "java/lang/invoke/MethodHandle" ∧ y.cls ≠ "java/lang/invoke/VarHandle" ∧ (parseMethodDescriptor y.desc).map (fun d => d.parameters.length) = some n) (hR : rm.frames + 1 ≤ R.frames ∧ 8 + (maxL + 11) + rm.locals ≤ R.locals) :
    vx_CSW R s args own index y bytes maxL ret hh ws rm mc ms n := by
  have ok : ∀ w ∈ va_wsS own index y ws, w.before args s = true := fun w h => ht w (hT w h).1
  have hG : GoodIn Ts ws := fun w h => hT w (by unfold va_wsS; exact List.mem_append_right _ h)
  have hc : Cond.codeWith y bytes maxL ret hh ∈ ws := by rw [hw]; exact List.mem_cons_self
  refine ⟨⟨hrc, hrs, hR.1, hR.2, pay_in ht hG, hc⟩, ht _ (hG _ hc).1, ok _ (by simp [va_wsS]), ⟨hd.1, hd.2.1⟩, fun sig h => ?_, ok _ (by simp [va_wsS]), ok _ (by simp [va_wsS])⟩
  have h2 := hd.2.2
  rw [h] at h2
  exact (Option.some.inj h2).symm
theorem vx_callSW (X : Stand p l e R s m args below meth c T locs cells slots) (hexec : p.tables.exec = Jvm.exec) {own : String} {index : Nat} {y : MethodName} {bytes : ByteArray} {maxL : Nat} {ret : Option FieldType} {hh : List (Nat × Nat × Nat × Nat)}
    (hown : s.vm.findClass own = some m.cls) (hlink : (Cond.methodLink own index y).before args s = true) (hstat : (Cond.static y).before args s = true) (hinit : (Cond.initialized y.cls).before args s = true)
    (hcode : (Cond.codeWith y bytes maxL ret hh).before args s = true) (hy : y.cls ≠ "java/lang/invoke/MethodHandle" ∧ y.cls ≠ "java/lang/invoke/VarHandle")
    {W9 : Nat} {Pre : Pt → Array Value → Prop} {Post : Pt → Array Value → Option Value → Pt → Prop} (hK : Back l R p e below s args y 3 W9 Pre Post)
    {g : JFrame} (hg : g.method = m) (hsize : g.locals.size = c.maxLocals) {argsL rest : List Value} (hlen : ∀ sig, parseMethodDescriptor y.desc = some sig → argsL.length = sig.parameters.length)
    (hstack : g.stack = argsL.reverse ++ rest) (hW : 2 * g.monitorRoom + (rest.map fun v => v.category).sum ≤ W9) (hdg : decode c.code g.pc = .ok (.invokestatic index, 3))
    (hpre : ∀ vm₁, s.WarmedH vm₁ → Pre ⟨T.setVm vm₁, locs, cells, slots⟩ argsL.toArray) :
    ∃ (v : Option Value) (vm₁ : Vm) (B : Pt), s.WarmedH vm₁ ∧ Stand p l e R s m args below meth c B.U B.locs B.cells B.slots ∧ Post ⟨T.setVm vm₁, locs, cells, slots⟩ argsL.toArray v B ∧
      ∀ target, Steps p.tables e below (B.U.setTop { g with pc := g.pc + 3, stack := v.toList ++ rest }) target → Steps p.tables e below (T.setTop g) target := by
  obtain ⟨mk, methM, cM, hnamed, hmethM, -, -, -, -, -, -, hsigM⟩ := Cond.codeWith_spec hcode
  have hstatic : methM.isStatic = true := Cond.static_spec hnamed hmethM hstat
  obtain ⟨kP, hkP, -⟩ := className_of_methodNamed hnamed
  have hinitP : kP.init = .initialized := Cond.initialized_spec (findClass_of_methodNamed hnamed) hkP hinit
  obtain ⟨vm₁, X₁, hstep₁⟩ := X.invokestatic hexec hown hlink hnamed hmethM hstatic hkP hinitP hy (g := g) hg (argsL := argsL) (rest := rest) (hlen _ hsigM) hstack hdg
  obtain ⟨v, B, X', hpost, hsteps⟩ := hK m meth c ⟨T.setVm vm₁, locs, cells, slots⟩ { g with stack := rest } (.invokestatic index) mk argsL.toArray X₁ hg hsize hdg hW (X₁.named hnamed) (hpre vm₁ X₁.warmed)
  exact ⟨v, vm₁, B, X₁.warmed, X', hpost, fun target h => hstep₁ _ fun acts => by rw [doInvoke_state]; exact hsteps.trans h⟩
theorem vx_runSW {y : MethodName} {bytes cc : ByteArray} {maxL nL mc ms n index : Nat} {ret : Option FieldType} {hh : List (Nat × Nat × Nat × Nat)} {ws : List Cond} {rm : Room} {Pc : Array Value → State → Prop} {Qc : Array Value → State → Outcome → State → Prop} {free : Addr → Prop} {Ts : List Cond} {own : String} {As rest : List Value} {g : JFrame}
    (S : CallFix p m c cc nL s args Ts own) (hM : Met l y ws rm Pc Qc mc ms free) (cw : vx_CSW R s args own index y bytes maxL ret hh ws rm mc ms n) (hp : PreS s H Pc As)
    (hg : g.method = m) (hn : As.length = n) (hsize : g.locals.size = nL) (hstack : g.stack = As.reverse ++ rest) (hW : 2 * g.monitorRoom + (rest.map fun v => v.category).sum ≤ 8) (hdg : decode cc g.pc = .ok (.invokestatic index, 3)) (hf : cells + mc ≤ R.cells ∧ slots + ms ≤ R.slots) :
    va_Run p l e R s m args below meth c H locs cells slots mc ms g rest (Qc As.toArray) (free) := by
  obtain ⟨⟨hrc, hrs, hfr, hlo, hws, hcw⟩, hcode, hini, hy, hlen, hl, hstt⟩ := cw
  have hK : Back l R p e below s args y 3 8 (PreOf R mc ms Pc) (PostOf Qc mc ms free) := va_backW (hh := hh) (bytes := bytes) (maxL := maxL) (ret := ret) hM hp.1 hrc hrs hfr hlo hws hcw (fun a' U hW => word_at hW (Or.inl (by first | rfl | simp [Cond.onTables, Cond.keeps, Cond.steady])) hini)
  obtain ⟨hx, hb, hml, ho, -⟩ := S
  intro T hT X
  obtain ⟨v, vm₁, ⟨U', l2, c2, s2⟩, hW₁, X', ⟨g', mk, t, L, e1, e2, hq, h1, hL, h2, h3⟩, st⟩ := vx_callSW X hx (hh := hh) (bytes := bytes) (maxL := maxL) (ret := ret) ho hl hstt hini hcode hy hK hg (hsize.trans hml.symm) (argsL := As) (rest := rest) (fun sig h => hn.trans (hlen sig h)) hstack hW (by rw [hb]; exact hdg)
    (fun vm₁ hW₁ => ⟨hf.1, hf.2, hp.2 (T.setVm vm₁) hT hW₁⟩)
  dsimp only [Pt.U, Pt.locs, Pt.cells, Pt.slots] at X' e1 e2 h1 h2 h3 st
  subst h1; subst h2; subst h3
  exact ⟨v, (T.setVm vm₁).calling g' mk As.toArray, t, U', L, hT, X', hL, e1, e2, hq, st⟩
/-- not caught here, past rows that name other classes: it goes on to the caller -/
theorem vx_outP {p : Program} {l : Launch} {e : Env} {R : Room} {s : State} {m : MethodId} {args : Array Value} {below : List Frame} {meth : Method} {c : Code} {H : Heap} {locs : List Loc} {cells slots : Nat} {free : Addr → Prop} {ls : Array Slot} {rest : List Value} {Qc : Array Value → State → Outcome → State → Prop} {XC : String → State → State → Prop}
    {pc : Nat} {own E : String} {ce : Cell} {q : Addr} {mc ms : Nat} (hown : s.vm.findClass own = some m.cls) (hlocks : meth.locks = false)
    (hpass : ∀ z ∈ c.exceptionTable.toList, covers z pc = false ∨ (z.catchType ≠ 0 ∧ ∃ nm : String, (Cond.classLink own z.catchType nm).before args s = true ∧ va_Nc E nm s)) (hcell : H[q]? = some ce) (hv : ce.vm = .none) (hcl : s.vm.findClass E = some ce.cls)
    (hx : ∀ t : State, t.heap = H → s.vm.Alike t.vm → XC E s t) (hf : ∀ z ∈ locs, free z.base) (hc : cells ≤ mc) (hs : slots ≤ ms) :
    vx_W p l e R s m args below meth c H locs cells slots (vx_MQ below Qc XC args s mc ms free) (F0 m pc ls rest) q := by
  intro T hT X
  have hpl : e.platform.magicAccessors = ({} : Platform).magicAccessors := by rw [X.admits.platform]
  obtain ⟨vm', hW', X', st⟩ := X.outThrough hlocks q (g := F0 m pc ls rest) rfl rfl rfl (cell := ce) (by rw [hT]; exact hcell) (by rw [hv]; rfl)
    (by obtain ⟨k9, h9, -⟩ := Vm.findClass_spec hcl; exact ⟨k9, h9⟩) (fun z hz => by
      rcases hpass z hz with h | ⟨hz0, nm, hl1, hn1⟩
      · exact Or.inl h
      · obtain ⟨c6, hc6, hcl6⟩ := Cond.classLink_spec hown hl1 e.platform hpl
        obtain ⟨a8, b8, h1, h2, h3⟩ := hn1
        cases Option.some.inj (h1.symm.trans hcl)
        cases Option.some.inj (h2.symm.trans hc6)
        exact Or.inr ⟨hz0, _, hcl6, h3⟩)
  obtain ⟨g₀, hfr⟩ := X'.frames_eq
  have hcell9 : ((T.setVm vm').setFrames (.throwing q :: below)).heap[q]? = some ce := by
    show T.heap[q]? = some ce
    rw [hT]; exact hcell
  have hend : Ended ((T.setVm vm').setFrames (.throwing q :: below)) below (.threw q) := State.frames_setFrames _ (State.cur_lt_of_frames hfr)
  refine ⟨(T.setVm vm').setFrames (.throwing q :: below), ?_, .threw q, X'.here.running, hend, Or.inr ⟨q, rfl, E, ce, locs, hx _ hT (X'.ends _).1.alike, hcell9, hv, hcl, (X'.ends _).1, (X'.ends _).2.mono hc hs, hf⟩⟩
  rw [X.pushThrowing_eq]
  exact st
/-- a thing of a world lies in the heap -/
theorem vx_lt {D : va_G} {cl : List vw_C} {ws : va_W} {H1 : Heap} (h : va_P D cl ws H1) {k : Nat} {q : Nat × va_E} (hk : ws[k]? = some q) : q.1 < H1.size := (h k q hk).lt
end VXS
/-! ===== END ===== -/
/-! ===== BEGIN methods with a table of their own: called by a name, returning or throwing ===== -/
section VXH
/-! vx_backW, vx_callVX, vx_callSX, vx_callVW, vx_runVW, vx_runVX, vx_runSX, vx_ofWH follow the same proofs as their sisters above (Free/Laws.lean, Shelf42/LK1.lean); vx_outP calls Shelf42/NT130.lean (outThrough). -/
section
variable {l : Launch} {R : Room} {p : Program} {e : Env} {below : List Frame} {s : State} {sargs : Array Value} {y : MethodName} {len W9 : Nat}
theorem vx_backW {ws : List Cond} {rm : Room} {Pc : Array Value → State → Prop} {Qc : Array Value → State → Outcome → State → Prop} {XC : String → State → State → Prop} {mc ms : Nat} {free : Addr → Prop} {bytes : ByteArray} {maxL : Nat} {ret : Option FieldType} {hh : List (Nat × Nat × Nat × Nat)}
    (hM : vx_Met l y ws rm Pc Qc XC mc ms free) (hblind : FrameBlind Pc) (hrc : rm.cells = mc) (hrs : rm.slots = ms)
    (hframes : rm.frames + 1 ≤ R.frames) (hlocals : W9 + (maxL + 11) + rm.locals ≤ R.locals)
    (hws : ∀ w ∈ ws, ∀ a' U, s.WarmedH U.vm → w.before a' U = true) (hcode : Cond.codeWith y bytes maxL ret hh ∈ ws) (hinit : ∀ a' U, s.WarmedH U.vm → (Cond.initialized y.cls).before a' U = true) :
    vx_Back l R p e below s sargs y len W9 (PreOf R mc ms Pc) (PostOf Qc mc ms free) (vx_Post XC mc ms free) := by
  intro m meth c A g ig mk a X hg hsize hdg hW hn hp
  have h1 : (headSpec ws rm).pre.before a A.U = true := atoms_intro fun w hw => hws w hw _ _ X.warmed
  have h2 : (Cond.codeWith y bytes maxL ret hh).before a A.U = true := hws _ hcode _ _ X.warmed
  have h3 : (Cond.initialized y.cls).before a A.U = true := hinit _ _ X.warmed
  have h4 : A.cells + (headSpec ws rm).room.cells ≤ R.cells := by rw [show (headSpec ws rm).room.cells = mc from hrc]; exact hp.1
  have h5 : A.slots + (headSpec ws rm).room.slots ≤ R.slots := by rw [show (headSpec ws rm).room.slots = ms from hrs]; exact hp.2.1
  have hPc : Pc a (A.U.calling g mk a) := hblind _ _ _ _ hp.2.2
  obtain ⟨U, Ls, c0, s0⟩ := A
  dsimp only [Pt.U, Pt.locs, Pt.cells, Pt.slots] at h1 h2 h3 h4 h5 X hn hPc ⊢
  obtain ⟨m9, methY, cY, hn9, hmY, hcY, -, hlY, -⟩ := Cond.codeWith_spec h2
  cases Option.some.inj (hn9.symm.trans hn)
  obtain ⟨kY, hkY, -⟩ := className_of_methodNamed hn
  have hinitY : kY.init = .initialized := Cond.initialized_spec (findClass_of_methodNamed hn) hkY h3
  have h : At U g.method c below := by rw [hg]; exact X.here
  have hlocals9 : W9 + (maxL + 11) + (headSpec ws rm).room.locals ≤ R.locals := hlocals
  have happ : (headSpec ws rm).appliesLoose y e.platform (U.calling g mk a) = true :=
    Spec.appliesLoose_calling (g := g) h hdg hn hkY hinitY
      (X.room_calling (g := g) (R' := (headSpec ws rm).room) hsize hmY hcY hframes (by rw [hlY]; omega) h4 h5) h1
  obtain ⟨mid, hmid⟩ := h.above
  have hfr : (U.setTop g).frames = (.java g :: mid) ++ below := by rw [State.frames_setTop' g h.top, hmid]; rfl
  obtain ⟨o, s₂, hsteps, -, hend, hq⟩ := Steps.callFree hM p X.admits X.cas X.clock (acts := []) hfr happ hPc trivial
  have hq' : vx_Q Qc XC mc ms free a (U.calling g mk a) o s₂ := hq
  rw [State.frames_setTop' g h.top] at hend
  obtain ⟨g₀, hg0⟩ := Option.isSome_iff_exists.mp h.top
  obtain ⟨r, hr⟩ := State.topJava?_eq_some.mp hg0
  have hr' : (({ U with heap := s₂.heap, slotsUsed := s₂.slotsUsed } : State).setVm s₂.vm).frames = .java g₀ :: r := hr
  rcases hq' with ⟨hqc, L, hfe, hL⟩ | ⟨q, rfl, E, ce, L, hx, hce, hcv, hcl, hW₂, hsm, hL⟩
  · obtain ⟨⟨v, rfl⟩, hW₂, e2, q2, q3, q4, q5, q6⟩ := id hfe
    have e3 : s₂ = ({ (U.calling g mk a).setFrames s₂.frames with heap := s₂.heap, slotsUsed := s₂.slotsUsed } : State).setVm s₂.vm := by
      have : s₂ = ({ s₂ with vm := (U.calling g mk a).vm } : State).setVm s₂.vm := rfl
      rw [e2] at this
      exact this
    obtain ⟨c₂, i₂, len₂, hc₂, hd₂, hf₂⟩ := hend
    have hW' : U.WarmedH s₂.vm := hW₂
    have hcc : c₂ = c := by
      have h1 : s₂.code? g.method = U.code? g.method := by
        rw [State.code?_eq, State.code?_eq, hW'.alike.method?]
      exact Option.some.inj (hc₂.symm.trans (h1.trans h.code))
    subst hcc
    have hlen : len₂ = len := by rw [hdg] at hd₂; cases hd₂; rfl
    subst hlen
    have hs₂ : s₂ = (({ U with heap := s₂.heap, slotsUsed := s₂.slotsUsed } : State).setVm s₂.vm).setTop { g with pc := g.pc + len₂, stack := v.toList ++ g.stack } := by
      refine e3.trans ?_
      rw [hf₂, State.calling_eq h.top, State.setFrames_setFrames, State.setTop_of_frames _ hr', hr]
      rfl
    have hsame : U.sameButNew ({ U with heap := s₂.heap, slotsUsed := s₂.slotsUsed } : State) L mc ms := by
      refine ⟨?_, q2, q3, q4, q5, q6⟩
      obtain ⟨t, ht, -⟩ := State.frames_cons hr
      show ({ U with heap := s₂.heap, slotsUsed := s₂.slotsUsed } : State) = { U.setFrames U.frames with heap := s₂.heap, slotsUsed := s₂.slotsUsed }
      rw [State.setFrames_self ht]
    subst hg
    refine Or.inl ⟨v, ⟨(({ U with heap := s₂.heap, slotsUsed := s₂.slotsUsed } : State).setVm s₂.vm), Ls ++ L, c0 + mc, s0 + ms⟩,
      ⟨X.admits, X.cas, X.clock, X.frames, X.room, X.hears, X.method, X.code, (X.here.setHeapUsed s₂.heap s₂.slotsUsed).setVm hW'.alike, X.tail, State.WarmedH.trans X.warmed hW', X.limits, X.bytes, X.same.trans (hsame.setVm s.vm)⟩,
      ⟨g, mk, s₂, L, rfl, rfl, hqc, rfl, hL, rfl, rfl⟩, ?_⟩
    show Steps p.tables e below _ ((({ U with heap := s₂.heap, slotsUsed := s₂.slotsUsed } : State).setVm s₂.vm).setTop { g with pc := g.pc + len₂, stack := v.toList ++ g.stack })
    rw [← hs₂]
    exact hsteps
  · obtain ⟨e2, q2, q3, q4, q5, q6⟩ := id hsm
    have e3 : s₂ = ({ (U.calling g mk a).setFrames s₂.frames with heap := s₂.heap, slotsUsed := s₂.slotsUsed } : State).setVm s₂.vm := by
      have : s₂ = ({ s₂ with vm := (U.calling g mk a).vm } : State).setVm s₂.vm := rfl
      rw [e2] at this
      exact this
    have hf₂ : s₂.frames = .throwing q :: .java g :: U.frames.tail := hend
    have hW' : U.WarmedH s₂.vm := hW₂
    have hs₂ : s₂ = ((({ U with heap := s₂.heap, slotsUsed := s₂.slotsUsed } : State).setVm s₂.vm).setTop g).pushFrame (.throwing q) := by
      refine e3.trans ?_
      rw [hf₂, State.calling_eq h.top, State.setFrames_setFrames, State.pushFrame, State.frames_setTop _ hr', State.setTop_of_frames _ hr', State.setFrames_setFrames, hr]
      rfl
    have hsame : U.sameButNew ({ U with heap := s₂.heap, slotsUsed := s₂.slotsUsed } : State) L mc ms := by
      refine ⟨?_, q2, q3, q4, q5, q6⟩
      obtain ⟨t, ht, -⟩ := State.frames_cons hr
      show ({ U with heap := s₂.heap, slotsUsed := s₂.slotsUsed } : State) = { U.setFrames U.frames with heap := s₂.heap, slotsUsed := s₂.slotsUsed }
      rw [State.setFrames_self ht]
    subst hg
    refine Or.inr ⟨q, ⟨(({ U with heap := s₂.heap, slotsUsed := s₂.slotsUsed } : State).setVm s₂.vm), Ls ++ L, c0 + mc, s0 + ms⟩,
      ⟨X.admits, X.cas, X.clock, X.frames, X.room, X.hears, X.method, X.code, (X.here.setHeapUsed s₂.heap s₂.slotsUsed).setVm hW'.alike, X.tail, State.WarmedH.trans X.warmed hW', X.limits, X.bytes, X.same.trans (hsame.setVm s.vm)⟩,
      ⟨g, mk, s₂, L, E, ce, rfl, rfl, hx, hce, hcv, hcl, rfl, hL, rfl, rfl⟩, ?_⟩
    show Steps p.tables e below _ (((({ U with heap := s₂.heap, slotsUsed := s₂.slotsUsed } : State).setVm s₂.vm).setTop g).pushFrame (.throwing q))
    rw [← hs₂]
    exact hsteps
end
variable {p : Program} {l : Launch} {e : Env} {R : Room} {s : State} {m : MethodId} {args : Array Value} {below : List Frame} {meth : Method} {c : Code} {T : State} {H : Heap} {locs : List Loc} {cells slots : Nat}
theorem vx_callVX (X : Stand p l e R s m args below meth c T locs cells slots) (hexec : p.tables.exec = Jvm.exec) {own C : String} {index : Nat} {y : MethodName} {bytes : ByteArray} {maxL : Nat} {ret : Option FieldType} {hh : List (Nat × Nat × Nat × Nat)}
    (hown : s.vm.findClass own = some m.cls) (hlink : (Cond.methodLink own index y).before args s = true) (hinst : (Cond.instanceMethod y).before args s = true) (hsel : (Cond.selects C y y).before args s = true)
    (hcode : (Cond.codeWith y bytes maxL ret hh).before args s = true) (hy : y.cls ≠ "java/lang/invoke/MethodHandle" ∧ y.cls ≠ "java/lang/invoke/VarHandle")
    {W9 : Nat} {Pre : Pt → Array Value → Prop} {Post : Pt → Array Value → Option Value → Pt → Prop} {PostX : Pt → Array Value → Addr → Pt → Prop} (hK : vx_Back l R p e below s args y 3 W9 Pre Post PostX)
    {b : Addr} {cellB : Cell} (hcell : T.heap[b]? = some cellB) (hobj : cellB.vm.isStatics = false) (hcls : s.vm.findClass C = some cellB.cls)
    {g : JFrame} (hg : g.method = m) (hsize : g.locals.size = c.maxLocals) {argsL rest : List Value} (hlen : ∀ sig, parseMethodDescriptor y.desc = some sig → argsL.length = sig.parameters.length)
    (hstack : g.stack = argsL.reverse ++ .ref b :: rest) (hW : 2 * g.monitorRoom + (rest.map fun v => v.category).sum ≤ W9) (hdg : decode c.code g.pc = .ok (.invokevirtual index, 3))
    (hpre : ∀ vm₁, s.WarmedH vm₁ → Pre ⟨T.setVm vm₁, locs, cells, slots⟩ (Value.ref b :: argsL).toArray) :
    (∃ (v : Option Value) (vm₁ : Vm) (B : Pt), s.WarmedH vm₁ ∧ Stand p l e R s m args below meth c B.U B.locs B.cells B.slots ∧ Post ⟨T.setVm vm₁, locs, cells, slots⟩ (Value.ref b :: argsL).toArray v B ∧
      ∀ target, Steps p.tables e below (B.U.setTop { g with pc := g.pc + 3, stack := v.toList ++ rest }) target → Steps p.tables e below (T.setTop g) target) ∨
    (∃ (q : Addr) (vm₁ : Vm) (B : Pt), s.WarmedH vm₁ ∧ Stand p l e R s m args below meth c B.U B.locs B.cells B.slots ∧ PostX ⟨T.setVm vm₁, locs, cells, slots⟩ (Value.ref b :: argsL).toArray q B ∧
      Steps p.tables e below (T.setTop g) ((B.U.setTop { g with stack := rest }).pushFrame (.throwing q))) := by
  obtain ⟨mk, methM, hnamed, hmethM, hstM, habM⟩ := Cond.instanceMethod_spec hinst
  obtain ⟨m8, methM', cM, hn8, hmethM', -, -, -, -, -, -, hsigM⟩ := Cond.codeWith_spec hcode
  cases Option.some.inj (hn8.symm.trans hnamed)
  cases hmethM.symm.trans hmethM'
  obtain ⟨c2, r2, m2, q1, q2, q3, q4, kP, hkP, hkPi⟩ := Cond.selects_spec hsel
  cases hcls.symm.trans q1
  cases (State.methodFound?_of_named hnamed hy).symm.trans q2
  cases hnamed.symm.trans q3
  have hselP : selectMethod e.platform s.vm cellB.cls mk = .method mk := by rw [Launch.admits_selectMethod X.admits]; exact q4
  obtain ⟨vm₁, X₁, hstep₁⟩ := X.invokevirtual hexec hown hlink hnamed hmethM hstM hkP hkPi hy (a := b) (cell := cellB) hcell
    (fun z h => by rw [h] at hobj; cases hobj) hselP hmethM habM hkP hkPi (g := g) hg (argsL := argsL) (rest := rest) (hlen _ hsigM) hstack hdg
  rcases hK m meth c ⟨T.setVm vm₁, locs, cells, slots⟩ { g with stack := rest } (.invokevirtual index) mk (Value.ref b :: argsL).toArray X₁ hg hsize hdg hW (X₁.named hnamed) (hpre vm₁ X₁.warmed) with ⟨v, B, X', hpost, hsteps⟩ | ⟨q, B, X', hpost, hsteps⟩
  · exact Or.inl ⟨v, vm₁, B, X₁.warmed, X', hpost, fun target h => hstep₁ _ fun acts => by rw [doInvoke_state]; exact hsteps.trans h⟩
  · exact Or.inr ⟨q, vm₁, B, X₁.warmed, X', hpost, hstep₁ _ fun acts => by rw [doInvoke_state]; exact hsteps⟩
theorem vx_callSX (X : Stand p l e R s m args below meth c T locs cells slots) (hexec : p.tables.exec = Jvm.exec) {own : String} {index : Nat} {y : MethodName} {bytes : ByteArray} {maxL : Nat} {ret : Option FieldType} {hh : List (Nat × Nat × Nat × Nat)}
    (hown : s.vm.findClass own = some m.cls) (hlink : (Cond.methodLink own index y).before args s = true) (hstat : (Cond.static y).before args s = true) (hinit : (Cond.initialized y.cls).before args s = true)
    (hcode : (Cond.codeWith y bytes maxL ret hh).before args s = true) (hy : y.cls ≠ "java/lang/invoke/MethodHandle" ∧ y.cls ≠ "java/lang/invoke/VarHandle")
    {W9 : Nat} {Pre : Pt → Array Value → Prop} {Post : Pt → Array Value → Option Value → Pt → Prop} {PostX : Pt → Array Value → Addr → Pt → Prop} (hK : vx_Back l R p e below s args y 3 W9 Pre Post PostX)
    {g : JFrame} (hg : g.method = m) (hsize : g.locals.size = c.maxLocals) {argsL rest : List Value} (hlen : ∀ sig, parseMethodDescriptor y.desc = some sig → argsL.length = sig.parameters.length)
    (hstack : g.stack = argsL.reverse ++ rest) (hW : 2 * g.monitorRoom + (rest.map fun v => v.category).sum ≤ W9) (hdg : decode c.code g.pc = .ok (.invokestatic index, 3))
    (hpre : ∀ vm₁, s.WarmedH vm₁ → Pre ⟨T.setVm vm₁, locs, cells, slots⟩ argsL.toArray) :
    (∃ (v : Option Value) (vm₁ : Vm) (B : Pt), s.WarmedH vm₁ ∧ Stand p l e R s m args below meth c B.U B.locs B.cells B.slots ∧ Post ⟨T.setVm vm₁, locs, cells, slots⟩ argsL.toArray v B ∧
      ∀ target, Steps p.tables e below (B.U.setTop { g with pc := g.pc + 3, stack := v.toList ++ rest }) target → Steps p.tables e below (T.setTop g) target) ∨
    (∃ (q : Addr) (vm₁ : Vm) (B : Pt), s.WarmedH vm₁ ∧ Stand p l e R s m args below meth c B.U B.locs B.cells B.slots ∧ PostX ⟨T.setVm vm₁, locs, cells, slots⟩ argsL.toArray q B ∧
      Steps p.tables e below (T.setTop g) ((B.U.setTop { g with stack := rest }).pushFrame (.throwing q))) := by
  obtain ⟨mk, methM, cM, hnamed, hmethM, -, -, -, -, -, -, hsigM⟩ := Cond.codeWith_spec hcode
  have hstatic : methM.isStatic = true := Cond.static_spec hnamed hmethM hstat
  obtain ⟨kP, hkP, -⟩ := className_of_methodNamed hnamed
  have hinitP : kP.init = .initialized := Cond.initialized_spec (findClass_of_methodNamed hnamed) hkP hinit
  obtain ⟨vm₁, X₁, hstep₁⟩ := X.invokestatic hexec hown hlink hnamed hmethM hstatic hkP hinitP hy (g := g) hg (argsL := argsL) (rest := rest) (hlen _ hsigM) hstack hdg
  rcases hK m meth c ⟨T.setVm vm₁, locs, cells, slots⟩ { g with stack := rest } (.invokestatic index) mk argsL.toArray X₁ hg hsize hdg hW (X₁.named hnamed) (hpre vm₁ X₁.warmed) with ⟨v, B, X', hpost, hsteps⟩ | ⟨q, B, X', hpost, hsteps⟩
  · exact Or.inl ⟨v, vm₁, B, X₁.warmed, X', hpost, fun target h => hstep₁ _ fun acts => by rw [doInvoke_state]; exact hsteps.trans h⟩
  · exact Or.inr ⟨q, vm₁, B, X₁.warmed, X', hpost, hstep₁ _ fun acts => by rw [doInvoke_state]; exact hsteps⟩
theorem vx_callVW (X : Stand p l e R s m args below meth c T locs cells slots) (hexec : p.tables.exec = Jvm.exec) {own C : String} {index : Nat} {y : MethodName} {bytes : ByteArray} {maxL : Nat} {ret : Option FieldType} {hh : List (Nat × Nat × Nat × Nat)}
    (hown : s.vm.findClass own = some m.cls) (hlink : (Cond.methodLink own index y).before args s = true) (hinst : (Cond.instanceMethod y).before args s = true) (hsel : (Cond.selects C y y).before args s = true)
    (hcode : (Cond.codeWith y bytes maxL ret hh).before args s = true) (hy : y.cls ≠ "java/lang/invoke/MethodHandle" ∧ y.cls ≠ "java/lang/invoke/VarHandle")
    {W9 : Nat} {Pre : Pt → Array Value → Prop} {Post : Pt → Array Value → Option Value → Pt → Prop} (hK : Back l R p e below s args y 3 W9 Pre Post)
    {b : Addr} {cellB : Cell} (hcell : T.heap[b]? = some cellB) (hobj : cellB.vm.isStatics = false) (hcls : s.vm.findClass C = some cellB.cls)
    {g : JFrame} (hg : g.method = m) (hsize : g.locals.size = c.maxLocals) {argsL rest : List Value} (hlen : ∀ sig, parseMethodDescriptor y.desc = some sig → argsL.length = sig.parameters.length)
    (hstack : g.stack = argsL.reverse ++ .ref b :: rest) (hW : 2 * g.monitorRoom + (rest.map fun v => v.category).sum ≤ W9) (hdg : decode c.code g.pc = .ok (.invokevirtual index, 3))
    (hpre : ∀ vm₁, s.WarmedH vm₁ → Pre ⟨T.setVm vm₁, locs, cells, slots⟩ (Value.ref b :: argsL).toArray) :
    ∃ (v : Option Value) (vm₁ : Vm) (B : Pt), s.WarmedH vm₁ ∧ Stand p l e R s m args below meth c B.U B.locs B.cells B.slots ∧ Post ⟨T.setVm vm₁, locs, cells, slots⟩ (Value.ref b :: argsL).toArray v B ∧
      ∀ target, Steps p.tables e below (B.U.setTop { g with pc := g.pc + 3, stack := v.toList ++ rest }) target → Steps p.tables e below (T.setTop g) target := by
  obtain ⟨mk, methM, hnamed, hmethM, hstM, habM⟩ := Cond.instanceMethod_spec hinst
  obtain ⟨m8, methM', cM, hn8, hmethM', -, -, -, -, -, -, hsigM⟩ := Cond.codeWith_spec hcode
  cases Option.some.inj (hn8.symm.trans hnamed)
  cases hmethM.symm.trans hmethM'
  obtain ⟨c2, r2, m2, q1, q2, q3, q4, kP, hkP, hkPi⟩ := Cond.selects_spec hsel
  cases hcls.symm.trans q1
  cases (State.methodFound?_of_named hnamed hy).symm.trans q2
  cases hnamed.symm.trans q3
  have hselP : selectMethod e.platform s.vm cellB.cls mk = .method mk := by rw [Launch.admits_selectMethod X.admits]; exact q4
  obtain ⟨vm₁, X₁, hstep₁⟩ := X.invokevirtual hexec hown hlink hnamed hmethM hstM hkP hkPi hy (a := b) (cell := cellB) hcell
    (fun z h => by rw [h] at hobj; cases hobj) hselP hmethM habM hkP hkPi (g := g) hg (argsL := argsL) (rest := rest) (hlen _ hsigM) hstack hdg
  obtain ⟨v, B, X', hpost, hsteps⟩ := hK m meth c ⟨T.setVm vm₁, locs, cells, slots⟩ { g with stack := rest } (.invokevirtual index) mk (Value.ref b :: argsL).toArray X₁ hg hsize hdg hW (X₁.named hnamed) (hpre vm₁ X₁.warmed)
  exact ⟨v, vm₁, B, X₁.warmed, X', hpost, fun target h => hstep₁ _ fun acts => by rw [doInvoke_state]; exact hsteps.trans h⟩
abbrev vx_CVW (R : Room) (s : State) (args : Array Value) (own C : String) (index : Nat) (y : MethodName) (bytes : ByteArray) (maxL : Nat) (ret : Option FieldType) (hh : List (Nat × Nat × Nat × Nat)) (ws : List Cond) (rm : Room) (mc ms n : Nat) : Prop :=
  (rm.cells = mc ∧ rm.slots = ms ∧ rm.frames + 1 ≤ R.frames ∧ 8 + (maxL + 11) + rm.locals ≤ R.locals ∧ (∀ w ∈ ws, ∀ (a' : Array Value) (U : State), s.WarmedH U.vm → w.before a' U = true) ∧ Cond.codeWith y bytes maxL ret hh ∈ ws) ∧
  (Cond.codeWith y bytes maxL ret hh).before args s = true ∧ (Cond.initialized y.cls).before args s = true ∧ (y.cls ≠ "java/lang/invoke/MethodHandle" ∧ y.cls ≠ "java/lang/invoke/VarHandle") ∧
  (∀ sig, parseMethodDescriptor y.desc = some sig → n = sig.parameters.length) ∧ (Cond.methodLink own index y).before args s = true ∧ (Cond.instanceMethod y).before args s = true ∧ (Cond.selects C y y).before args s = true
theorem vx_cwVW {own C : String} {index maxL mc ms : Nat} {y : MethodName} {bytes : ByteArray} {ret : Option FieldType} {hh : List (Nat × Nat × Nat × Nat)} {Ts ws ws' : List Cond} {rm : Room} (n : Nat) (ht : ∀ w ∈ Ts, w.before args s = true) (hT : GoodIn Ts (wsV own index C y ws)) (hw : ws = Cond.codeWith y bytes maxL ret hh :: ws') (hrc : rm.cells = mc) (hrs : rm.slots = ms)
    (hd : y.cls = C ∧ y.cls ≠ "java/lang/invoke/MethodHandle" ∧ y.cls ≠ "java/lang/invoke/VarHandle" ∧ (parseMethodDescriptor y.desc).map (fun d => d.parameters.length) = some n) (hR : rm.frames + 1 ≤ R.frames ∧ 8 + (maxL + 11) + rm.locals ≤ R.locals) :
    vx_CVW R s args own C index y bytes maxL ret hh ws rm mc ms n := by
  obtain ⟨hC, hd⟩ := hd
  subst hC
  have ok : ∀ w ∈ wsV own index y.cls y ws, w.before args s = true := fun w h => ht w (hT w h).1
  have hG : GoodIn Ts ws := fun w h => hT w (by unfold wsV; exact List.mem_append_right _ h)
  have hc : Cond.codeWith y bytes maxL ret hh ∈ ws := by rw [hw]; exact List.mem_cons_self
  refine ⟨⟨hrc, hrs, hR.1, hR.2, pay_in ht hG, hc⟩, ht _ (hG _ hc).1, ok _ (by simp [wsV]), ⟨hd.1, hd.2.1⟩, fun sig h => ?_, ok _ (by simp [wsV]), ok _ (by simp [wsV]), ok _ (by simp [wsV])⟩
  have h2 := hd.2.2
  rw [h] at h2
  exact (Option.some.inj h2).symm
theorem vx_runVW {y : MethodName} {bytes cc : ByteArray} {maxL nL mc ms n index : Nat} {ret : Option FieldType} {hh : List (Nat × Nat × Nat × Nat)} {ws : List Cond} {rm : Room} {Pc : Array Value → State → Prop} {Qc : Array Value → State → Outcome → State → Prop} {free : Addr → Prop} {Ts : List Cond} {own C : String} {b : Addr} {As rest : List Value} {g : JFrame}
    (S : CallFix p m c cc nL s args Ts own) (hM : Met l y ws rm Pc Qc mc ms free) (cw : vx_CVW R s args own C index y bytes maxL ret hh ws rm mc ms n) (hp : PreV s H C b Pc As)
    (hg : g.method = m) (hn : As.length = n) (hsize : g.locals.size = nL) (hstack : g.stack = As.reverse ++ .ref b :: rest) (hW : 2 * g.monitorRoom + (rest.map fun v => v.category).sum ≤ 8) (hdg : decode cc g.pc = .ok (.invokevirtual index, 3)) (hf : cells + mc ≤ R.cells ∧ slots + ms ≤ R.slots) :
    va_Run p l e R s m args below meth c H locs cells slots mc ms g rest (Qc (Value.ref b :: As).toArray) free := by
  obtain ⟨⟨hrc, hrs, hfr, hlo, hws, hcw⟩, hcode, hini, hy, hlen, hl, hin, hse⟩ := cw
  have hK : Back l R p e below s args y 3 8 (PreOf R mc ms Pc) (PostOf Qc mc ms free) := va_backW (hh := hh) (bytes := bytes) (maxL := maxL) (ret := ret) hM hp.1 hrc hrs hfr hlo hws hcw (fun a' U hW => word_at hW (Or.inl (by first | rfl | simp [Cond.onTables, Cond.keeps, Cond.steady])) hini)
  obtain ⟨hx, hb, hml, ho, -⟩ := S
  obtain ⟨-, ⟨cellB, hcB, hoB, hclB⟩, hPc⟩ := hp
  intro T hT X
  obtain ⟨v, vm₁, ⟨U', l2, c2, s2⟩, hW₁, X', ⟨g', mk, t, L, e1, e2, hq, h1, hL, h2, h3⟩, st⟩ := vx_callVW X hx (C := C) (hh := hh) (bytes := bytes) (maxL := maxL) (ret := ret) ho hl hin hse hcode hy hK (by rw [hT]; exact hcB) hoB hclB hg (hsize.trans hml.symm) (argsL := As) (rest := rest) (fun sig h => hn.trans (hlen sig h)) hstack hW (by rw [hb]; exact hdg)
    (fun vm₁ hW₁ => ⟨hf.1, hf.2, hPc (T.setVm vm₁) hT hW₁⟩)
  dsimp only [Pt.U, Pt.locs, Pt.cells, Pt.slots] at X' e1 e2 h1 h2 h3 st
  subst h1; subst h2; subst h3
  exact ⟨v, (T.setVm vm₁).calling g' mk (Value.ref b :: As).toArray, t, U', L, hT, X', hL, e1, e2, hq, st⟩
section
variable {y : MethodName} {bytes cc : ByteArray} {maxL nL mc ms n index : Nat} {ret : Option FieldType} {ws : List Cond} {rm : Room} {Pc : Array Value → State → Prop} {Qc : Array Value → State → Outcome → State → Prop} {XC : String → State → State → Prop} {free : Addr → Prop} {Ts : List Cond} {own C : String} {b : Addr} {As rest : List Value} {g : JFrame}
theorem vx_runVX {hh : List (Nat × Nat × Nat × Nat)} (S : CallFix p m c cc nL s args Ts own) (hM : vx_Met l y ws rm Pc Qc XC mc ms free) (cw : vx_CVW R s args own C index y bytes maxL ret hh ws rm mc ms n) (hp : PreV s H C b Pc As)
    (hg : g.method = m) (hn : As.length = n) (hsize : g.locals.size = nL) (hstack : g.stack = As.reverse ++ .ref b :: rest) (hW : 2 * g.monitorRoom + (rest.map fun v => v.category).sum ≤ 8) (hdg : decode cc g.pc = .ok (.invokevirtual index, 3)) (hf : cells + mc ≤ R.cells ∧ slots + ms ≤ R.slots) :
    vx_Run p l e R s m args below meth c H locs cells slots mc ms g rest (Qc (Value.ref b :: As).toArray) XC free := by
  obtain ⟨⟨hrc, hrs, hfr, hlo, hws, hcw⟩, hcode, hini, hy, hlen, hl, hin, hse⟩ := cw
  have hK : vx_Back l R p e below s args y 3 8 (PreOf R mc ms Pc) (PostOf Qc mc ms free) (vx_Post XC mc ms free) := vx_backW (hh := hh) (bytes := bytes) (maxL := maxL) (ret := ret) hM hp.1 hrc hrs hfr hlo hws hcw (fun a' U hW => word_at hW (Or.inl (by first | rfl | simp [Cond.onTables, Cond.keeps, Cond.steady])) hini)
  obtain ⟨hx, hb, hml, ho, -⟩ := S
  obtain ⟨-, ⟨cellB, hcB, hoB, hclB⟩, hPc⟩ := hp
  intro T hT X
  rcases vx_callVX X hx (C := C) (hh := hh) (bytes := bytes) (maxL := maxL) (ret := ret) ho hl hin hse hcode hy hK (by rw [hT]; exact hcB) hoB hclB hg (hsize.trans hml.symm) (argsL := As) (rest := rest) (fun sig h => hn.trans (hlen sig h)) hstack hW (by rw [hb]; exact hdg)
    (fun vm₁ hW₁ => ⟨hf.1, hf.2, hPc (T.setVm vm₁) hT hW₁⟩) with ⟨v, vm₁, ⟨U', l2, c2, s2⟩, hW₁, X', ⟨g', mk, t, L, e1, e2, hq, h1, hL, h2, h3⟩, st⟩ | ⟨q, vm₁, ⟨U', l2, c2, s2⟩, hW₁, X', ⟨g', mk, t, L, E, ce, e1, e2, hq, hce, hcv, hcl, h1, hL, h2, h3⟩, st⟩
  · dsimp only [Pt.U, Pt.locs, Pt.cells, Pt.slots] at X' e1 e2 h1 h2 h3 st
    subst h1; subst h2; subst h3
    exact Or.inl ⟨v, (T.setVm vm₁).calling g' mk (Value.ref b :: As).toArray, t, U', L, hT, X', hL, e1, e2, hq, st⟩
  · dsimp only [Pt.U, Pt.locs, Pt.cells, Pt.slots] at X' e1 e2 h1 h2 h3 st hcl
    subst h1; subst h2; subst h3
    exact Or.inr ⟨q, (T.setVm vm₁).calling g' mk (Value.ref b :: As).toArray, t, U', L, E, ce, hT, X', hL, e1, e2, hq, hce, hcv, vx_cls hW₁ hcl, st⟩
theorem vx_runSX {hh : List (Nat × Nat × Nat × Nat)} (S : CallFix p m c cc nL s args Ts own) (hM : vx_Met l y ws rm Pc Qc XC mc ms free) (cw : vx_CSW R s args own index y bytes maxL ret hh ws rm mc ms n) (hp : PreS s H Pc As)
    (hg : g.method = m) (hn : As.length = n) (hsize : g.locals.size = nL) (hstack : g.stack = As.reverse ++ rest) (hW : 2 * g.monitorRoom + (rest.map fun v => v.category).sum ≤ 8) (hdg : decode cc g.pc = .ok (.invokestatic index, 3)) (hf : cells + mc ≤ R.cells ∧ slots + ms ≤ R.slots) :
    vx_Run p l e R s m args below meth c H locs cells slots mc ms g rest (Qc As.toArray) XC free := by
  obtain ⟨⟨hrc, hrs, hfr, hlo, hws, hcw⟩, hcode, hini, hy, hlen, hl, hstt⟩ := cw
  have hK : vx_Back l R p e below s args y 3 8 (PreOf R mc ms Pc) (PostOf Qc mc ms free) (vx_Post XC mc ms free) := vx_backW (hh := hh) (bytes := bytes) (maxL := maxL) (ret := ret) hM hp.1 hrc hrs hfr hlo hws hcw (fun a' U hW => word_at hW (Or.inl (by first | rfl | simp [Cond.onTables, Cond.keeps, Cond.steady])) hini)
  obtain ⟨hx, hb, hml, ho, -⟩ := S
  intro T hT X
  rcases vx_callSX X hx (hh := hh) (bytes := bytes) (maxL := maxL) (ret := ret) ho hl hstt hini hcode hy hK hg (hsize.trans hml.symm) (argsL := As) (rest := rest) (fun sig h => hn.trans (hlen sig h)) hstack hW (by rw [hb]; exact hdg)
    (fun vm₁ hW₁ => ⟨hf.1, hf.2, hp.2 (T.setVm vm₁) hT hW₁⟩) with ⟨v, vm₁, ⟨U', l2, c2, s2⟩, hW₁, X', ⟨g', mk, t, L, e1, e2, hq, h1, hL, h2, h3⟩, st⟩ | ⟨q, vm₁, ⟨U', l2, c2, s2⟩, hW₁, X', ⟨g', mk, t, L, E, ce, e1, e2, hq, hce, hcv, hcl, h1, hL, h2, h3⟩, st⟩
  · dsimp only [Pt.U, Pt.locs, Pt.cells, Pt.slots] at X' e1 e2 h1 h2 h3 st
    subst h1; subst h2; subst h3
    exact Or.inl ⟨v, (T.setVm vm₁).calling g' mk As.toArray, t, U', L, hT, X', hL, e1, e2, hq, st⟩
  · dsimp only [Pt.U, Pt.locs, Pt.cells, Pt.slots] at X' e1 e2 h1 h2 h3 st hcl
    subst h1; subst h2; subst h3
    exact Or.inr ⟨q, (T.setVm vm₁).calling g' mk As.toArray, t, U', L, E, ce, hT, X', hL, e1, e2, hq, hce, hcv, vx_cls hW₁ hcl, st⟩
end
end VXH
theorem vx_ofWH {l : Launch} {y : MethodName} {ws ws' : List Cond} {rm : Room} {Pc : Array Value → State → Prop} {Qc : Array Value → State → Outcome → State → Prop} {XC : String → State → State → Prop} {mc ms : Nat} {free : Addr → Prop} {cc : ByteArray} {maxL : Nat} {ret : Option FieldType} {hh : List (Nat × Nat × Nat × Nat)}
    (hy : plainName y.cls = true) (hw : ws = Cond.codeWith y cc maxL ret hh :: ws')
    (body : ∀ p e s m args below meth c s₁, BodyLoose p l y (headSpec ws rm) cc maxL ret e s m args below meth c s₁ → c.maxLocals = maxL → Pc args s →
      W p l e (headSpec ws rm).room s m args below meth c s.heap [] 0 0 (vx_MQ below Qc XC args s mc ms free) (entryFrame m args maxL)) : vx_Met l y ws rm Pc Qc XC mc ms free := by
  refine MetFree.of_bodyS (code := cc) (maxLocals := maxL) (ret := ret) hy ?_ ?_
  · intro args s m h hn
    obtain ⟨m9, meth, c, hn9, h1, h2, h3, h4, -, h5, h6, -⟩ := Cond.codeWith_spec (atoms_spec (ws := ws) h _ (by rw [hw]; exact List.mem_cons_self))
    cases hn.symm.trans hn9
    exact ⟨meth, c, h1, h2, h3, h4, h5, h6⟩
  · intro p e s m args below meth c s₁ B hml hP _
    have hh0 : s₁.heap = s.heap := by rw [B.state]; rfl
    obtain ⟨t, a1, o, b1, b2, b3⟩ := body p e s m args below meth c s₁ B hml hP s₁ hh0 (Stand.of_body B)
    exact ⟨t, o, a1, b1, b2, b3⟩
/-! ===== END ===== -/
end
section
def bigW : List Cond := lw_tbl.filter goodWord
theorem big_in {w : Cond} (h : w ∈ lw_tbl) (hg : goodWord w = true) : w ∈ bigW := List.mem_filter.mpr ⟨h, hg⟩
theorem gV {own : String} {idx : Nat} {C : String} {y : MethodName} {cd : Cond} (h1 : Cond.methodLink own idx y ∈ bigW) (h2 : Cond.instanceMethod y ∈ bigW) (h3 : Cond.selects C y y ∈ bigW) (h4 : Cond.initialized C ∈ bigW) (h5 : cd ∈ bigW) : GoodIn bigW (wsV own idx C y (cd :: bigW)) := by
  have hb : ∀ w ∈ bigW, w ∈ bigW ∧ ((w.onTables && w.keeps) = true ∨ ∃ ty, w = .arrayClass ty) := fun w h => ⟨h, good_of_word (List.mem_filter.mp h).2⟩
  intro w hw
  unfold wsV at hw
  simp only [List.cons_append, List.nil_append, List.mem_cons] at hw
  rcases hw with rfl | rfl | rfl | rfl | rfl | hw
  · exact hb _ h1
  · exact hb _ h2
  · exact hb _ h3
  · exact hb _ h4
  · exact hb _ h5
  · exact hb _ hw
theorem gS {own : String} {idx : Nat} {y : MethodName} {cd : Cond} (h1 : Cond.methodLink own idx y ∈ bigW) (h2 : Cond.static y ∈ bigW) (h4 : Cond.initialized y.cls ∈ bigW) (h5 : cd ∈ bigW) : GoodIn bigW (va_wsS own idx y (cd :: bigW)) := by
  have hb : ∀ w ∈ bigW, w ∈ bigW ∧ ((w.onTables && w.keeps) = true ∨ ∃ ty, w = .arrayClass ty) := fun w h => ⟨h, good_of_word (List.mem_filter.mp h).2⟩
  intro w hw
  unfold va_wsS at hw
  simp only [List.cons_append, List.nil_append, List.mem_cons] at hw
  rcases hw with rfl | rfl | rfl | rfl | hw
  · exact hb _ h1
  · exact hb _ h2
  · exact hb _ h4
  · exact hb _ h5
  · exact hb _ hw
def RX0 : String := "LogBook"
def TX0 : u_T := fun k => match k with
  | 0 => ("LogBook", "ring", "[I", true)
  | 1 => ("LogBook", "buffer", "[I", true)
  | 2 => ("LogBook", "firstPlace", "I", false)
  | 3 => ("LogBook", "forcedPlace", "I", false)
  | 4 => ("LogBook", "endPlace", "I", false)
  | 5 => ("LogBook", "wordsToFailure", "I", false)
  | _ => ("LogBook", "opened", "Z", false)
def tyX0 : Nat → FieldType := fun k => match k with
  | 0 => .array .int
  | 1 => .array .int
  | 2 => .int
  | 3 => .int
  | 4 => .int
  | 5 => .int
  | _ => .boolean
abbrev wsX00 : List Cond := u_ws RX0 TX0 7
theorem nmX0 : ∀ a, a < 7 → ∀ b, b < 7 → a ≠ b → (TX0 a).2.1 ≠ (TX0 b).2.1 := by decide +kernel
theorem tyX0_ok : ∀ k, k < 7 → parseFieldDescriptor (TX0 k).2.2.1 = some (tyX0 k) := by decide +kernel
theorem in_X0 : ∀ w ∈ wsX00, w ∈ bigW := fun w h => big_in ((by decide +kernel : ∀ w ∈ wsX00, w ∈ lw_tbl) w h) ((by decide +kernel : ∀ w ∈ wsX00, goodWord w = true) w h)
def RX1 : String := "LogBookModel"
def TX1 : u_T := fun k => match k with
  | 0 => ("LogBookModel", "thrown", "I", false)
  | 1 => ("LogBookModel", "buffer", "[I", true)
  | 2 => ("LogBookModel", "words", "[I", true)
  | 3 => ("LogBookModel", "serials", "[I", true)
  | 4 => ("LogBookModel", "lengths", "[I", true)
  | 5 => ("LogBookModel", "kinds", "[I", true)
  | 6 => ("LogBookModel", "owners", "[I", true)
  | 7 => ("LogBookModel", "olders", "[I", true)
  | 8 => ("LogBookModel", "links", "[I", true)
  | 9 => ("LogBookModel", "voids", "[Z", true)
  | 10 => ("LogBookModel", "base", "I", false)
  | 11 => ("LogBookModel", "count", "I", false)
  | 12 => ("LogBookModel", "first", "I", false)
  | 13 => ("LogBookModel", "forced", "I", false)
  | 14 => ("LogBookModel", "end", "I", false)
  | 15 => ("LogBookModel", "closed", "Z", false)
  | 16 => ("LogBookModel", "left", "I", false)
  | 17 => ("LogBookModel", "begun", "I", false)
  | _ => ("LogBookModel", "begunLength", "I", false)
def tyX1 : Nat → FieldType := fun k => match k with
  | 0 => .int
  | 1 => .array .int
  | 2 => .array .int
  | 3 => .array .int
  | 4 => .array .int
  | 5 => .array .int
  | 6 => .array .int
  | 7 => .array .int
  | 8 => .array .int
  | 9 => .array .boolean
  | 10 => .int
  | 11 => .int
  | 12 => .int
  | 13 => .int
  | 14 => .int
  | 15 => .boolean
  | 16 => .int
  | 17 => .int
  | _ => .int
abbrev wsX10 : List Cond := u_ws RX1 TX1 19
theorem nmX1 : ∀ a, a < 19 → ∀ b, b < 19 → a ≠ b → (TX1 a).2.1 ≠ (TX1 b).2.1 := by decide +kernel
theorem tyX1_ok : ∀ k, k < 19 → parseFieldDescriptor (TX1 k).2.2.1 = some (tyX1 k) := by decide +kernel
theorem in_X1 : ∀ w ∈ wsX10, w ∈ bigW := fun w h => big_in ((by decide +kernel : ∀ w ∈ wsX10, w ∈ lw_tbl) w h) ((by decide +kernel : ∀ w ∈ wsX10, goodWord w = true) w h)
def RL : String := "LogBookLaw"
abbrev vwCl : List vw_C := [(RX0, TX0, 7), (RX1, TX1, 19)]
abbrev cX0_init : ByteArray := prog_1_method_1_code
def yX0_init : MethodName := ⟨RX0, "<init>", "()V"⟩
def wsX0_init : List Cond := .code yX0_init cX0_init 1 none :: bigW
abbrev cX0_set : ByteArray := prog_1_method_2_code
def yX0_set : MethodName := ⟨RX0, "set", "(II)V"⟩
def wsX0_set : List Cond := .code yX0_set cX0_set 3 none :: bigW
abbrev cX0_fill : ByteArray := prog_1_method_3_code
def yX0_fill : MethodName := ⟨RX0, "fill", "(II)V"⟩
def wsX0_fill : List Cond := .code yX0_fill cX0_fill 3 none :: bigW
abbrev cX0_append : ByteArray := prog_1_method_4_code
def yX0_append : MethodName := ⟨RX0, "append", "(IIII)I"⟩
def wsX0_append : List Cond := .code yX0_append cX0_append 8 (some .int) :: bigW
abbrev cX0_force : ByteArray := prog_1_method_5_code
def yX0_force : MethodName := ⟨RX0, "force", "(I)I"⟩
def wsX0_force : List Cond := .code yX0_force cX0_force 2 (some .int) :: bigW
abbrev cX0_forceAll : ByteArray := prog_1_method_6_code
def yX0_forceAll : MethodName := ⟨RX0, "forceAll", "()I"⟩
def wsX0_forceAll : List Cond := .code yX0_forceAll cX0_forceAll 1 (some .int) :: bigW
abbrev cX0_giveBack : ByteArray := prog_1_method_7_code
def yX0_giveBack : MethodName := ⟨RX0, "giveBack", "(I)I"⟩
def wsX0_giveBack : List Cond := .code yX0_giveBack cX0_giveBack 3 (some .int) :: bigW
abbrev cX0_first : ByteArray := prog_1_method_8_code
def yX0_first : MethodName := ⟨RX0, "first", "()I"⟩
def wsX0_first : List Cond := .code yX0_first cX0_first 1 (some .int) :: bigW
abbrev cX0_last : ByteArray := prog_1_method_9_code
def yX0_last : MethodName := ⟨RX0, "last", "()I"⟩
def wsX0_last : List Cond := .code yX0_last cX0_last 1 (some .int) :: bigW
abbrev cX0_lastForced : ByteArray := prog_1_method_10_code
def yX0_lastForced : MethodName := ⟨RX0, "lastForced", "()I"⟩
def wsX0_lastForced : List Cond := .code yX0_lastForced cX0_lastForced 1 (some .int) :: bigW
abbrev cX0_next : ByteArray := prog_1_method_11_code
def yX0_next : MethodName := ⟨RX0, "next", "(I)I"⟩
def wsX0_next : List Cond := .code yX0_next cX0_next 2 (some .int) :: bigW
abbrev cX0_before : ByteArray := prog_1_method_12_code
def yX0_before : MethodName := ⟨RX0, "before", "(I)I"⟩
def wsX0_before : List Cond := .code yX0_before cX0_before 2 (some .int) :: bigW
abbrev cX0_lastOf : ByteArray := prog_1_method_13_code
def yX0_lastOf : MethodName := ⟨RX0, "lastOf", "(I)I"⟩
def wsX0_lastOf : List Cond := .code yX0_lastOf cX0_lastOf 2 (some .int) :: bigW
abbrev cX0_of : ByteArray := prog_1_method_14_code
def yX0_of : MethodName := ⟨RX0, "of", "(II)I"⟩
def wsX0_of : List Cond := .code yX0_of cX0_of 3 (some .int) :: bigW
abbrev cX0_word : ByteArray := prog_1_method_15_code
def yX0_word : MethodName := ⟨RX0, "word", "(II)I"⟩
def wsX0_word : List Cond := .code yX0_word cX0_word 3 (some .int) :: bigW
abbrev cX0_back : ByteArray := prog_1_method_16_code
def yX0_back : MethodName := ⟨RX0, "back", "(III)I"⟩
def wsX0_back : List Cond := .code yX0_back cX0_back 4 (some .int) :: bigW
abbrev cX0_count : ByteArray := prog_1_method_17_code
def yX0_count : MethodName := ⟨RX0, "count", "()I"⟩
def wsX0_count : List Cond := .code yX0_count cX0_count 4 (some .int) :: bigW
abbrev cX0_log : ByteArray := prog_1_method_18_code
def yX0_log : MethodName := ⟨RX0, "log", "(I)I"⟩
def wsX0_log : List Cond := .code yX0_log cX0_log 2 (some .int) :: bigW
abbrev cX0_cutAfter : ByteArray := prog_1_method_19_code
def yX0_cutAfter : MethodName := ⟨RX0, "cutAfter", "(I)V"⟩
def wsX0_cutAfter : List Cond := .code yX0_cutAfter cX0_cutAfter 2 none :: bigW
abbrev cX0_cut : ByteArray := prog_1_method_20_code
def yX0_cut : MethodName := ⟨RX0, "cut", "()Z"⟩
def wsX0_cut : List Cond := .code yX0_cut cX0_cut 1 (some .boolean) :: bigW
abbrev cX0_open : ByteArray := prog_1_method_21_code
def yX0_open : MethodName := ⟨RX0, "open", "()I"⟩
def wsX0_open : List Cond := .code yX0_open cX0_open 2 (some .int) :: bigW
abbrev cX0_isOpen : ByteArray := prog_1_method_22_code
def yX0_isOpen : MethodName := ⟨RX0, "isOpen", "()Z"⟩
def wsX0_isOpen : List Cond := .code yX0_isOpen cX0_isOpen 1 (some .boolean) :: bigW
abbrev cX0_requireOpen : ByteArray := prog_1_method_23_code
def yX0_requireOpen : MethodName := ⟨RX0, "requireOpen", "()V"⟩
def wsX0_requireOpen : List Cond := .code yX0_requireOpen cX0_requireOpen 1 none :: bigW
abbrev cX0_requireOwner : ByteArray := prog_1_method_24_code
def yX0_requireOwner : MethodName := ⟨RX0, "requireOwner", "(I)V"⟩
def wsX0_requireOwner : List Cond := .code yX0_requireOwner cX0_requireOwner 2 none :: bigW
abbrev cX0_requireRecord : ByteArray := prog_1_method_25_code
def yX0_requireRecord : MethodName := ⟨RX0, "requireRecord", "(I)V"⟩
def wsX0_requireRecord : List Cond := .code yX0_requireRecord cX0_requireRecord 2 none :: bigW
abbrev cX0_fillBuffer : ByteArray := prog_1_method_26_code
def yX0_fillBuffer : MethodName := ⟨RX0, "fillBuffer", "(II)V"⟩
def wsX0_fillBuffer : List Cond := .code yX0_fillBuffer cX0_fillBuffer 4 none :: bigW
abbrev cX0_wordAt : ByteArray := prog_1_method_27_code
def yX0_wordAt : MethodName := ⟨RX0, "wordAt", "(I)I"⟩
def wsX0_wordAt : List Cond := .code yX0_wordAt cX0_wordAt 2 (some .int) :: bigW
abbrev cX0_addWord : ByteArray := prog_1_method_28_code
def yX0_addWord : MethodName := ⟨RX0, "addWord", "(I)V"⟩
def wsX0_addWord : List Cond := .code yX0_addWord cX0_addWord 2 none :: bigW
abbrev cX0_addContent : ByteArray := prog_1_method_29_code
def yX0_addContent : MethodName := ⟨RX0, "addContent", "(I)V"⟩
def wsX0_addContent : List Cond := .code yX0_addContent cX0_addContent 3 none :: bigW
abbrev cX0_kindAt : ByteArray := prog_1_method_30_code
def yX0_kindAt : MethodName := ⟨RX0, "kindAt", "(I)I"⟩
def wsX0_kindAt : List Cond := .code yX0_kindAt cX0_kindAt 2 (some .int) :: bigW
abbrev cX0_ownerAt : ByteArray := prog_1_method_31_code
def yX0_ownerAt : MethodName := ⟨RX0, "ownerAt", "(I)I"⟩
def wsX0_ownerAt : List Cond := .code yX0_ownerAt cX0_ownerAt 2 (some .int) :: bigW
abbrev cX0_contentWords : ByteArray := prog_1_method_32_code
def yX0_contentWords : MethodName := ⟨RX0, "contentWords", "(I)I"⟩
def wsX0_contentWords : List Cond := .code yX0_contentWords cX0_contentWords 2 (some .int) :: bigW
abbrev cX0_behind : ByteArray := prog_1_method_33_code
def yX0_behind : MethodName := ⟨RX0, "behind", "(I)I"⟩
def wsX0_behind : List Cond := .code yX0_behind cX0_behind 2 (some .int) :: bigW
abbrev cX0_isVoid : ByteArray := prog_1_method_34_code
def yX0_isVoid : MethodName := ⟨RX0, "isVoid", "(I)Z"⟩
def wsX0_isVoid : List Cond := .code yX0_isVoid cX0_isVoid 2 (some .boolean) :: bigW
abbrev cX0_isRecord : ByteArray := prog_1_method_35_code
def yX0_isRecord : MethodName := ⟨RX0, "isRecord", "(I)Z"⟩
def wsX0_isRecord : List Cond := .code yX0_isRecord cX0_isRecord 4 (some .boolean) :: bigW
abbrev cX0_firstRecordFrom : ByteArray := prog_1_method_36_code
def yX0_firstRecordFrom : MethodName := ⟨RX0, "firstRecordFrom", "(I)I"⟩
def wsX0_firstRecordFrom : List Cond := .code yX0_firstRecordFrom cX0_firstRecordFrom 4 (some .int) :: bigW
abbrev cX0_lastRecordBefore : ByteArray := prog_1_method_37_code
def yX0_lastRecordBefore : MethodName := ⟨RX0, "lastRecordBefore", "(I)I"⟩
def wsX0_lastRecordBefore : List Cond := .code yX0_lastRecordBefore cX0_lastRecordBefore 5 (some .int) :: bigW
abbrev cX0_lastRecordOf : ByteArray := prog_1_method_38_code
def yX0_lastRecordOf : MethodName := ⟨RX0, "lastRecordOf", "(I)I"⟩
def wsX0_lastRecordOf : List Cond := .code yX0_lastRecordOf cX0_lastRecordOf 4 (some .int) :: bigW
abbrev cX0_kthOnTheWay : ByteArray := prog_1_method_39_code
def yX0_kthOnTheWay : MethodName := ⟨RX0, "kthOnTheWay", "(III)I"⟩
def wsX0_kthOnTheWay : List Cond := .code yX0_kthOnTheWay cX0_kthOnTheWay 8 (some .int) :: bigW
abbrev cX0_isAskedFor : ByteArray := prog_1_method_40_code
def yX0_isAskedFor : MethodName := ⟨RX0, "isAskedFor", "(III)Z"⟩
def wsX0_isAskedFor : List Cond := .code yX0_isAskedFor cX0_isAskedFor 4 (some .boolean) :: bigW
abbrev cX0_stopBehind : ByteArray := prog_1_method_41_code
def yX0_stopBehind : MethodName := ⟨RX0, "stopBehind", "(I)I"⟩
def wsX0_stopBehind : List Cond := .code yX0_stopBehind cX0_stopBehind 3 (some .int) :: bigW
abbrev cX0_writeUpTo : ByteArray := prog_1_method_42_code
def yX0_writeUpTo : MethodName := ⟨RX0, "writeUpTo", "(I)I"⟩
def wsX0_writeUpTo : List Cond := .code yX0_writeUpTo cX0_writeUpTo 4 (some .int) :: bigW
abbrev cX0_losePower : ByteArray := prog_1_method_43_code
def yX0_losePower : MethodName := ⟨RX0, "losePower", "()V"⟩
def wsX0_losePower : List Cond := .code yX0_losePower cX0_losePower 1 none :: bigW
abbrev cX0_addVoidRest : ByteArray := prog_1_method_44_code
def yX0_addVoidRest : MethodName := ⟨RX0, "addVoidRest", "()V"⟩
def wsX0_addVoidRest : List Cond := .code yX0_addVoidRest cX0_addVoidRest 5 none :: bigW
abbrev cX1_init : ByteArray := prog_3_method_1_code
def yX1_init : MethodName := ⟨RX1, "<init>", "()V"⟩
def wsX1_init : List Cond := .code yX1_init cX1_init 1 none :: bigW
abbrev cX1_thrown : ByteArray := prog_3_method_2_code
def yX1_thrown : MethodName := ⟨RX1, "thrown", "()I"⟩
def wsX1_thrown : List Cond := .code yX1_thrown cX1_thrown 1 (some .int) :: bigW
abbrev cX1_refused : ByteArray := prog_3_method_3_code
def yX1_refused : MethodName := ⟨RX1, "refused", "(ZZZ)Z"⟩
def wsX1_refused : List Cond := .code yX1_refused cX1_refused 4 (some .boolean) :: bigW
abbrev cX1_in : ByteArray := prog_3_method_4_code
def yX1_in : MethodName := ⟨RX1, "in", "(III)Z"⟩
def wsX1_in : List Cond := .code yX1_in cX1_in 3 (some .boolean) :: bigW
abbrev cX1_rowOf : ByteArray := prog_3_method_5_code
def yX1_rowOf : MethodName := ⟨RX1, "rowOf", "(I)I"⟩
def wsX1_rowOf : List Cond := .code yX1_rowOf cX1_rowOf 4 (some .int) :: bigW
abbrev cX1_endOf : ByteArray := prog_3_method_6_code
def yX1_endOf : MethodName := ⟨RX1, "endOf", "(I)I"⟩
def wsX1_endOf : List Cond := .code yX1_endOf cX1_endOf 2 (some .int) :: bigW
abbrev cX1_fail : ByteArray := prog_3_method_7_code
def yX1_fail : MethodName := ⟨RX1, "fail", "()V"⟩
def wsX1_fail : List Cond := .code yX1_fail cX1_fail 2 none :: bigW
abbrev cX1_canWrite : ByteArray := prog_3_method_8_code
def yX1_canWrite : MethodName := ⟨RX1, "canWrite", "()Z"⟩
def wsX1_canWrite : List Cond := .code yX1_canWrite cX1_canWrite 1 (some .boolean) :: bigW
abbrev cX1_cutAfter : ByteArray := prog_3_method_9_code
def yX1_cutAfter : MethodName := ⟨RX1, "cutAfter", "(I)V"⟩
def wsX1_cutAfter : List Cond := .code yX1_cutAfter cX1_cutAfter 2 none :: bigW
abbrev cX1_cut : ByteArray := prog_3_method_10_code
def yX1_cut : MethodName := ⟨RX1, "cut", "()Z"⟩
def wsX1_cut : List Cond := .code yX1_cut cX1_cut 1 (some .boolean) :: bigW
abbrev cX1_isOpen : ByteArray := prog_3_method_11_code
def yX1_isOpen : MethodName := ⟨RX1, "isOpen", "()Z"⟩
def wsX1_isOpen : List Cond := .code yX1_isOpen cX1_isOpen 1 (some .boolean) :: bigW
abbrev cX1_addRow : ByteArray := prog_3_method_12_code
def yX1_addRow : MethodName := ⟨RX1, "addRow", "(IIZ)V"⟩
def wsX1_addRow : List Cond := .code yX1_addRow cX1_addRow 4 none :: bigW
abbrev cX1_open : ByteArray := prog_3_method_13_code
def yX1_open : MethodName := ⟨RX1, "open", "()I"⟩
def wsX1_open : List Cond := .code yX1_open cX1_open 2 (some .int) :: bigW
abbrev cX1_set : ByteArray := prog_3_method_14_code
def yX1_set : MethodName := ⟨RX1, "set", "(II)V"⟩
def wsX1_set : List Cond := .code yX1_set cX1_set 3 none :: bigW
abbrev cX1_fill : ByteArray := prog_3_method_15_code
def yX1_fill : MethodName := ⟨RX1, "fill", "(II)V"⟩
def wsX1_fill : List Cond := .code yX1_fill cX1_fill 4 none :: bigW
abbrev cX1_latestOf : ByteArray := prog_3_method_16_code
def yX1_latestOf : MethodName := ⟨RX1, "latestOf", "(I)I"⟩
def wsX1_latestOf : List Cond := .code yX1_latestOf cX1_latestOf 4 (some .int) :: bigW
abbrev cX1_append : ByteArray := prog_3_method_17_code
def yX1_append : MethodName := ⟨RX1, "append", "(IIII)I"⟩
def wsX1_append : List Cond := .code yX1_append cX1_append 7 (some .int) :: bigW
abbrev cX1_forceTo : ByteArray := prog_3_method_18_code
def yX1_forceTo : MethodName := ⟨RX1, "forceTo", "(I)I"⟩
def wsX1_forceTo : List Cond := .code yX1_forceTo cX1_forceTo 3 (some .int) :: bigW
abbrev cX1_force : ByteArray := prog_3_method_19_code
def yX1_force : MethodName := ⟨RX1, "force", "(I)I"⟩
def wsX1_force : List Cond := .code yX1_force cX1_force 3 (some .int) :: bigW
abbrev cX1_forceAll : ByteArray := prog_3_method_20_code
def yX1_forceAll : MethodName := ⟨RX1, "forceAll", "()I"⟩
def wsX1_forceAll : List Cond := .code yX1_forceAll cX1_forceAll 1 (some .int) :: bigW
abbrev cX1_giveBack : ByteArray := prog_3_method_21_code
def yX1_giveBack : MethodName := ⟨RX1, "giveBack", "(I)I"⟩
def wsX1_giveBack : List Cond := .code yX1_giveBack cX1_giveBack 4 (some .int) :: bigW
abbrev cX1_seek : ByteArray := prog_3_method_22_code
def yX1_seek : MethodName := ⟨RX1, "seek", "(III)I"⟩
def wsX1_seek : List Cond := .code yX1_seek cX1_seek 5 (some .int) :: bigW
abbrev cX1_first : ByteArray := prog_3_method_23_code
def yX1_first : MethodName := ⟨RX1, "first", "()I"⟩
def wsX1_first : List Cond := .code yX1_first cX1_first 1 (some .int) :: bigW
abbrev cX1_last : ByteArray := prog_3_method_24_code
def yX1_last : MethodName := ⟨RX1, "last", "()I"⟩
def wsX1_last : List Cond := .code yX1_last cX1_last 1 (some .int) :: bigW
abbrev cX1_lastForced : ByteArray := prog_3_method_25_code
def yX1_lastForced : MethodName := ⟨RX1, "lastForced", "()I"⟩
def wsX1_lastForced : List Cond := .code yX1_lastForced cX1_lastForced 1 (some .int) :: bigW
abbrev cX1_next : ByteArray := prog_3_method_26_code
def yX1_next : MethodName := ⟨RX1, "next", "(I)I"⟩
def wsX1_next : List Cond := .code yX1_next cX1_next 3 (some .int) :: bigW
abbrev cX1_before : ByteArray := prog_3_method_27_code
def yX1_before : MethodName := ⟨RX1, "before", "(I)I"⟩
def wsX1_before : List Cond := .code yX1_before cX1_before 3 (some .int) :: bigW
abbrev cX1_lastOf : ByteArray := prog_3_method_28_code
def yX1_lastOf : MethodName := ⟨RX1, "lastOf", "(I)I"⟩
def wsX1_lastOf : List Cond := .code yX1_lastOf cX1_lastOf 2 (some .int) :: bigW
abbrev cX1_of : ByteArray := prog_3_method_29_code
def yX1_of : MethodName := ⟨RX1, "of", "(II)I"⟩
def wsX1_of : List Cond := .code yX1_of cX1_of 4 (some .int) :: bigW
abbrev cX1_word : ByteArray := prog_3_method_30_code
def yX1_word : MethodName := ⟨RX1, "word", "(II)I"⟩
def wsX1_word : List Cond := .code yX1_word cX1_word 4 (some .int) :: bigW
abbrev cX1_back : ByteArray := prog_3_method_31_code
def yX1_back : MethodName := ⟨RX1, "back", "(III)I"⟩
def wsX1_back : List Cond := .code yX1_back cX1_back 7 (some .int) :: bigW
abbrev cX1_count : ByteArray := prog_3_method_32_code
def yX1_count : MethodName := ⟨RX1, "count", "()I"⟩
def wsX1_count : List Cond := .code yX1_count cX1_count 3 (some .int) :: bigW
abbrev cX1_log : ByteArray := prog_3_method_33_code
def yX1_log : MethodName := ⟨RX1, "log", "(I)I"⟩
def wsX1_log : List Cond := .code yX1_log cX1_log 2 (some .int) :: bigW
abbrev cL_set : ByteArray := method_3_code
def yL_set : MethodName := ⟨RL, "set", "(LLogBook;II)I"⟩
def wsL_set : List Cond := .codeWith yL_set cL_set 4 (some .int) [(0, 6, 9, 13), (0, 6, 12, 15)] :: bigW
abbrev cL_fill : ByteArray := method_4_code
def yL_fill : MethodName := ⟨RL, "fill", "(LLogBook;II)I"⟩
def wsL_fill : List Cond := .codeWith yL_fill cL_fill 4 (some .int) [(0, 6, 9, 13)] :: bigW
abbrev cL_append : ByteArray := method_5_code
def yL_append : MethodName := ⟨RL, "append", "(LLogBook;IIII[J)I"⟩
def wsL_append : List Cond := .codeWith yL_append cL_append 7 (some .int) [(0, 14, 17, 13), (0, 14, 21, 24)] :: bigW
abbrev cL_force : ByteArray := method_6_code
def yL_force : MethodName := ⟨RL, "force", "(LLogBook;I[J)I"⟩
def wsL_force : List Cond := .codeWith yL_force cL_force 4 (some .int) [(0, 9, 12, 13), (0, 9, 15, 30)] :: bigW
abbrev cL_forceAll : ByteArray := method_7_code
def yL_forceAll : MethodName := ⟨RL, "forceAll", "(LLogBook;[J)I"⟩
def wsL_forceAll : List Cond := .codeWith yL_forceAll cL_forceAll 3 (some .int) [(0, 8, 11, 13)] :: bigW
abbrev cL_giveBack : ByteArray := method_8_code
def yL_giveBack : MethodName := ⟨RL, "giveBack", "(LLogBook;I[J)I"⟩
def wsL_giveBack : List Cond := .codeWith yL_giveBack cL_giveBack 4 (some .int) [(0, 9, 12, 13), (0, 9, 15, 30)] :: bigW
abbrev cL_first : ByteArray := method_9_code
def yL_first : MethodName := ⟨RL, "first", "(LLogBook;[J)I"⟩
def wsL_first : List Cond := .codeWith yL_first cL_first 3 (some .int) [(0, 8, 11, 13)] :: bigW
abbrev cL_last : ByteArray := method_10_code
def yL_last : MethodName := ⟨RL, "last", "(LLogBook;[J)I"⟩
def wsL_last : List Cond := .codeWith yL_last cL_last 3 (some .int) [(0, 8, 11, 13)] :: bigW
abbrev cL_lastForced : ByteArray := method_11_code
def yL_lastForced : MethodName := ⟨RL, "lastForced", "(LLogBook;[J)I"⟩
def wsL_lastForced : List Cond := .codeWith yL_lastForced cL_lastForced 3 (some .int) [(0, 8, 11, 13)] :: bigW
abbrev cL_next : ByteArray := method_12_code
def yL_next : MethodName := ⟨RL, "next", "(LLogBook;I[J)I"⟩
def wsL_next : List Cond := .codeWith yL_next cL_next 4 (some .int) [(0, 9, 12, 13), (0, 9, 15, 30)] :: bigW
abbrev cL_before : ByteArray := method_13_code
def yL_before : MethodName := ⟨RL, "before", "(LLogBook;I[J)I"⟩
def wsL_before : List Cond := .codeWith yL_before cL_before 4 (some .int) [(0, 9, 12, 13), (0, 9, 15, 30)] :: bigW
abbrev cL_lastOf : ByteArray := method_14_code
def yL_lastOf : MethodName := ⟨RL, "lastOf", "(LLogBook;I[J)I"⟩
def wsL_lastOf : List Cond := .codeWith yL_lastOf cL_lastOf 4 (some .int) [(0, 9, 12, 13), (0, 9, 15, 24)] :: bigW
abbrev cL_of : ByteArray := method_15_code
def yL_of : MethodName := ⟨RL, "of", "(LLogBook;II[J)I"⟩
def wsL_of : List Cond := .codeWith yL_of cL_of 5 (some .int) [(0, 10, 13, 13), (0, 10, 17, 30), (0, 10, 21, 15)] :: bigW
abbrev cL_word : ByteArray := method_16_code
def yL_word : MethodName := ⟨RL, "word", "(LLogBook;II[J)I"⟩
def wsL_word : List Cond := .codeWith yL_word cL_word 5 (some .int) [(0, 10, 13, 13), (0, 10, 17, 30), (0, 10, 21, 15)] :: bigW
abbrev cL_back : ByteArray := method_17_code
def yL_back : MethodName := ⟨RL, "back", "(LLogBook;III[J)I"⟩
def wsL_back : List Cond := .codeWith yL_back cL_back 6 (some .int) [(0, 12, 15, 13), (0, 12, 19, 24)] :: bigW
abbrev cL_count : ByteArray := method_18_code
def yL_count : MethodName := ⟨RL, "count", "(LLogBook;[J)I"⟩
def wsL_count : List Cond := .codeWith yL_count cL_count 3 (some .int) [(0, 8, 11, 13)] :: bigW
abbrev cL_log : ByteArray := method_19_code
def yL_log : MethodName := ⟨RL, "log", "(LLogBook;I[J)I"⟩
def wsL_log : List Cond := .codeWith yL_log cL_log 4 (some .int) [(0, 9, 12, 15)] :: bigW
abbrev cL_cutAfter : ByteArray := method_20_code
def yL_cutAfter : MethodName := ⟨RL, "cutAfter", "(LLogBook;I)I"⟩
def wsL_cutAfter : List Cond := .codeWith yL_cutAfter cL_cutAfter 3 (some .int) [(0, 5, 8, 24)] :: bigW
abbrev cL_open : ByteArray := method_21_code
def yL_open : MethodName := ⟨RL, "open", "(LLogBook;[J)I"⟩
def wsL_open : List Cond := .codeWith yL_open cL_open 3 (some .int) [(0, 8, 11, 13)] :: bigW
abbrev cL_law : ByteArray := code
def yL_law : MethodName := ⟨RL, "law", "([I)Z"⟩
end
section
theorem dX0_init_0 : decode cX0_init 0 = .ok (.aload_n 0, 1) := by decide +kernel
theorem dX0_init_1 : decode cX0_init 1 = .ok (.invokespecial 3, 3) := by decide +kernel
theorem dX0_init_4 : decode cX0_init 4 = .ok (.aload_n 0, 1) := by decide +kernel
theorem dX0_init_5 : decode cX0_init 5 = .ok (.ldc 9, 2) := by decide +kernel
theorem dX0_init_7 : decode cX0_init 7 = .ok (.newarray .int, 2) := by decide +kernel
theorem dX0_init_9 : decode cX0_init 9 = .ok (.putfield 10, 3) := by decide +kernel
theorem dX0_init_12 : decode cX0_init 12 = .ok (.aload_n 0, 1) := by decide +kernel
theorem dX0_init_13 : decode cX0_init 13 = .ok (.sipush 200, 3) := by decide +kernel
theorem dX0_init_16 : decode cX0_init 16 = .ok (.newarray .int, 2) := by decide +kernel
theorem dX0_init_18 : decode cX0_init 18 = .ok (.putfield 14, 3) := by decide +kernel
theorem dX0_init_21 : decode cX0_init 21 = .ok (.aload_n 0, 1) := by decide +kernel
theorem dX0_init_22 : decode cX0_init 22 = .ok (.iconst 0, 1) := by decide +kernel
theorem dX0_init_23 : decode cX0_init 23 = .ok (.putfield 17, 3) := by decide +kernel
theorem dX0_init_26 : decode cX0_init 26 = .ok (.aload_n 0, 1) := by decide +kernel
theorem dX0_init_27 : decode cX0_init 27 = .ok (.iconst 0, 1) := by decide +kernel
theorem dX0_init_28 : decode cX0_init 28 = .ok (.putfield 21, 3) := by decide +kernel
theorem dX0_init_31 : decode cX0_init 31 = .ok (.aload_n 0, 1) := by decide +kernel
theorem dX0_init_32 : decode cX0_init 32 = .ok (.iconst 0, 1) := by decide +kernel
theorem dX0_init_33 : decode cX0_init 33 = .ok (.putfield 24, 3) := by decide +kernel
theorem dX0_init_36 : decode cX0_init 36 = .ok (.aload_n 0, 1) := by decide +kernel
theorem dX0_init_37 : decode cX0_init 37 = .ok (.iconst (-1), 1) := by decide +kernel
theorem dX0_init_38 : decode cX0_init 38 = .ok (.putfield 27, 3) := by decide +kernel
theorem dX0_init_41 : decode cX0_init 41 = .ok (.aload_n 0, 1) := by decide +kernel
theorem dX0_init_42 : decode cX0_init 42 = .ok (.iconst 1, 1) := by decide +kernel
theorem dX0_init_43 : decode cX0_init 43 = .ok (.putfield 30, 3) := by decide +kernel
theorem dX0_init_46 : decode cX0_init 46 = .ok (.return_, 1) := by decide +kernel
theorem dX0_set_0 : decode cX0_set 0 = .ok (.aload_n 0, 1) := by decide +kernel
theorem dX0_set_1 : decode cX0_set 1 = .ok (.invokevirtual 34, 3) := by decide +kernel
theorem dX0_set_4 : decode cX0_set 4 = .ok (.iload_n 1, 1) := by decide +kernel
theorem dX0_set_5 : decode cX0_set 5 = .ok (.ifCond .lt 12, 3) := by decide +kernel
theorem dX0_set_8 : decode cX0_set 8 = .ok (.iload_n 1, 1) := by decide +kernel
theorem dX0_set_9 : decode cX0_set 9 = .ok (.aload_n 0, 1) := by decide +kernel
theorem dX0_set_10 : decode cX0_set 10 = .ok (.getfield 14, 3) := by decide +kernel
theorem dX0_set_13 : decode cX0_set 13 = .ok (.arraylength, 1) := by decide +kernel
theorem dX0_set_14 : decode cX0_set 14 = .ok (.if_icmp .lt 13, 3) := by decide +kernel
theorem dX0_set_17 : decode cX0_set 17 = .ok (.new 37, 3) := by decide +kernel
theorem dX0_set_20 : decode cX0_set 20 = .ok (.dup, 1) := by decide +kernel
theorem dX0_set_21 : decode cX0_set 21 = .ok (.ldc 39, 2) := by decide +kernel
theorem dX0_set_23 : decode cX0_set 23 = .ok (.invokespecial 41, 3) := by decide +kernel
theorem dX0_set_26 : decode cX0_set 26 = .ok (.athrow, 1) := by decide +kernel
theorem dX0_set_27 : decode cX0_set 27 = .ok (.aload_n 0, 1) := by decide +kernel
theorem dX0_set_28 : decode cX0_set 28 = .ok (.getfield 14, 3) := by decide +kernel
theorem dX0_set_31 : decode cX0_set 31 = .ok (.iload_n 1, 1) := by decide +kernel
theorem dX0_set_32 : decode cX0_set 32 = .ok (.iload_n 2, 1) := by decide +kernel
theorem dX0_set_33 : decode cX0_set 33 = .ok (.iastore, 1) := by decide +kernel
theorem dX0_set_34 : decode cX0_set 34 = .ok (.return_, 1) := by decide +kernel
theorem dX0_fill_0 : decode cX0_fill 0 = .ok (.aload_n 0, 1) := by decide +kernel
theorem dX0_fill_1 : decode cX0_fill 1 = .ok (.invokevirtual 34, 3) := by decide +kernel
theorem dX0_fill_4 : decode cX0_fill 4 = .ok (.aload_n 0, 1) := by decide +kernel
theorem dX0_fill_5 : decode cX0_fill 5 = .ok (.iload_n 1, 1) := by decide +kernel
theorem dX0_fill_6 : decode cX0_fill 6 = .ok (.iload_n 2, 1) := by decide +kernel
theorem dX0_fill_7 : decode cX0_fill 7 = .ok (.invokevirtual 44, 3) := by decide +kernel
theorem dX0_fill_10 : decode cX0_fill 10 = .ok (.return_, 1) := by decide +kernel
theorem dX0_append_0 : decode cX0_append 0 = .ok (.aload_n 0, 1) := by decide +kernel
theorem dX0_append_1 : decode cX0_append 1 = .ok (.invokevirtual 34, 3) := by decide +kernel
theorem dX0_append_4 : decode cX0_append 4 = .ok (.aload_n 0, 1) := by decide +kernel
theorem dX0_append_5 : decode cX0_append 5 = .ok (.iload_n 2, 1) := by decide +kernel
theorem dX0_append_6 : decode cX0_append 6 = .ok (.invokevirtual 48, 3) := by decide +kernel
theorem dX0_append_9 : decode cX0_append 9 = .ok (.iload_n 1, 1) := by decide +kernel
theorem dX0_append_10 : decode cX0_append 10 = .ok (.ifCond .lt 9, 3) := by decide +kernel
theorem dX0_append_13 : decode cX0_append 13 = .ok (.iload_n 1, 1) := by decide +kernel
theorem dX0_append_14 : decode cX0_append 14 = .ok (.bipush 16, 2) := by decide +kernel
theorem dX0_append_16 : decode cX0_append 16 = .ok (.if_icmp .lt 13, 3) := by decide +kernel
theorem dX0_append_19 : decode cX0_append 19 = .ok (.new 52, 3) := by decide +kernel
theorem dX0_append_22 : decode cX0_append 22 = .ok (.dup, 1) := by decide +kernel
theorem dX0_append_23 : decode cX0_append 23 = .ok (.ldc 54, 2) := by decide +kernel
theorem dX0_append_25 : decode cX0_append 25 = .ok (.invokespecial 56, 3) := by decide +kernel
theorem dX0_append_28 : decode cX0_append 28 = .ok (.athrow, 1) := by decide +kernel
theorem dX0_append_29 : decode cX0_append 29 = .ok (.iload 4, 2) := by decide +kernel
theorem dX0_append_31 : decode cX0_append 31 = .ok (.ifCond .lt 11, 3) := by decide +kernel
theorem dX0_append_34 : decode cX0_append 34 = .ok (.iload 4, 2) := by decide +kernel
theorem dX0_append_36 : decode cX0_append 36 = .ok (.sipush 200, 3) := by decide +kernel
theorem dX0_append_39 : decode cX0_append 39 = .ok (.if_icmp .le 13, 3) := by decide +kernel
theorem dX0_append_42 : decode cX0_append 42 = .ok (.new 52, 3) := by decide +kernel
theorem dX0_append_45 : decode cX0_append 45 = .ok (.dup, 1) := by decide +kernel
theorem dX0_append_46 : decode cX0_append 46 = .ok (.ldc 57, 2) := by decide +kernel
theorem dX0_append_48 : decode cX0_append 48 = .ok (.invokespecial 56, 3) := by decide +kernel
theorem dX0_append_51 : decode cX0_append 51 = .ok (.athrow, 1) := by decide +kernel
theorem dX0_append_52 : decode cX0_append 52 = .ok (.iload_n 3, 1) := by decide +kernel
theorem dX0_append_53 : decode cX0_append 53 = .ok (.iconst (-1), 1) := by decide +kernel
theorem dX0_append_54 : decode cX0_append 54 = .ok (.if_icmp .lt 11, 3) := by decide +kernel
theorem dX0_append_57 : decode cX0_append 57 = .ok (.iload_n 3, 1) := by decide +kernel
theorem dX0_append_58 : decode cX0_append 58 = .ok (.aload_n 0, 1) := by decide +kernel
theorem dX0_append_59 : decode cX0_append 59 = .ok (.getfield 24, 3) := by decide +kernel
theorem dX0_append_62 : decode cX0_append 62 = .ok (.if_icmp .lt 13, 3) := by decide +kernel
theorem dX0_append_65 : decode cX0_append 65 = .ok (.new 52, 3) := by decide +kernel
theorem dX0_append_68 : decode cX0_append 68 = .ok (.dup, 1) := by decide +kernel
theorem dX0_append_69 : decode cX0_append 69 = .ok (.ldc 59, 2) := by decide +kernel
theorem dX0_append_71 : decode cX0_append 71 = .ok (.invokespecial 56, 3) := by decide +kernel
theorem dX0_append_74 : decode cX0_append 74 = .ok (.athrow, 1) := by decide +kernel
theorem dX0_append_75 : decode cX0_append 75 = .ok (.iload 4, 2) := by decide +kernel
theorem dX0_append_77 : decode cX0_append 77 = .ok (.iconst 5, 1) := by decide +kernel
theorem dX0_append_78 : decode cX0_append 78 = .ok (.iadd, 1) := by decide +kernel
theorem dX0_append_79 : decode cX0_append 79 = .ok (.istore 5, 2) := by decide +kernel
theorem dX0_append_81 : decode cX0_append 81 = .ok (.iload 5, 2) := by decide +kernel
theorem dX0_append_83 : decode cX0_append 83 = .ok (.ldc 9, 2) := by decide +kernel
theorem dX0_append_85 : decode cX0_append 85 = .ok (.aload_n 0, 1) := by decide +kernel
theorem dX0_append_86 : decode cX0_append 86 = .ok (.getfield 24, 3) := by decide +kernel
theorem dX0_append_89 : decode cX0_append 89 = .ok (.aload_n 0, 1) := by decide +kernel
theorem dX0_append_90 : decode cX0_append 90 = .ok (.getfield 17, 3) := by decide +kernel
theorem dX0_append_93 : decode cX0_append 93 = .ok (.isub, 1) := by decide +kernel
theorem dX0_append_94 : decode cX0_append 94 = .ok (.isub, 1) := by decide +kernel
theorem dX0_append_95 : decode cX0_append 95 = .ok (.if_icmp .le 5, 3) := by decide +kernel
theorem dX0_append_98 : decode cX0_append 98 = .ok (.iconst (-1), 1) := by decide +kernel
theorem dX0_append_99 : decode cX0_append 99 = .ok (.ireturn, 1) := by decide +kernel
theorem dX0_append_100 : decode cX0_append 100 = .ok (.aload_n 0, 1) := by decide +kernel
theorem dX0_append_101 : decode cX0_append 101 = .ok (.getfield 24, 3) := by decide +kernel
theorem dX0_append_104 : decode cX0_append 104 = .ok (.istore 6, 2) := by decide +kernel
theorem dX0_append_106 : decode cX0_append 106 = .ok (.aload_n 0, 1) := by decide +kernel
theorem dX0_append_107 : decode cX0_append 107 = .ok (.iload_n 2, 1) := by decide +kernel
theorem dX0_append_108 : decode cX0_append 108 = .ok (.invokevirtual 61, 3) := by decide +kernel
theorem dX0_append_111 : decode cX0_append 111 = .ok (.istore 7, 2) := by decide +kernel
theorem dX0_append_113 : decode cX0_append 113 = .ok (.aload_n 0, 1) := by decide +kernel
theorem dX0_append_114 : decode cX0_append 114 = .ok (.iload 5, 2) := by decide +kernel
theorem dX0_append_116 : decode cX0_append 116 = .ok (.invokevirtual 65, 3) := by decide +kernel
theorem dX0_append_119 : decode cX0_append 119 = .ok (.aload_n 0, 1) := by decide +kernel
theorem dX0_append_120 : decode cX0_append 120 = .ok (.iload_n 1, 1) := by decide +kernel
theorem dX0_append_121 : decode cX0_append 121 = .ok (.bipush 16, 2) := by decide +kernel
theorem dX0_append_123 : decode cX0_append 123 = .ok (.iload_n 2, 1) := by decide +kernel
theorem dX0_append_124 : decode cX0_append 124 = .ok (.imul, 1) := by decide +kernel
theorem dX0_append_125 : decode cX0_append 125 = .ok (.iadd, 1) := by decide +kernel
theorem dX0_append_126 : decode cX0_append 126 = .ok (.invokevirtual 65, 3) := by decide +kernel
theorem dX0_append_129 : decode cX0_append 129 = .ok (.aload_n 0, 1) := by decide +kernel
theorem dX0_append_130 : decode cX0_append 130 = .ok (.iload 7, 2) := by decide +kernel
theorem dX0_append_132 : decode cX0_append 132 = .ok (.invokevirtual 65, 3) := by decide +kernel
theorem dX0_append_135 : decode cX0_append 135 = .ok (.aload_n 0, 1) := by decide +kernel
theorem dX0_append_136 : decode cX0_append 136 = .ok (.iload_n 3, 1) := by decide +kernel
theorem dX0_append_137 : decode cX0_append 137 = .ok (.invokevirtual 65, 3) := by decide +kernel
theorem dX0_append_140 : decode cX0_append 140 = .ok (.aload_n 0, 1) := by decide +kernel
theorem dX0_append_141 : decode cX0_append 141 = .ok (.iload 4, 2) := by decide +kernel
theorem dX0_append_143 : decode cX0_append 143 = .ok (.invokevirtual 68, 3) := by decide +kernel
theorem dX0_append_146 : decode cX0_append 146 = .ok (.aload_n 0, 1) := by decide +kernel
theorem dX0_append_147 : decode cX0_append 147 = .ok (.iload 5, 2) := by decide +kernel
theorem dX0_append_149 : decode cX0_append 149 = .ok (.invokevirtual 65, 3) := by decide +kernel
theorem dX0_append_152 : decode cX0_append 152 = .ok (.iload 6, 2) := by decide +kernel
theorem dX0_append_154 : decode cX0_append 154 = .ok (.ireturn, 1) := by decide +kernel
theorem dX0_force_0 : decode cX0_force 0 = .ok (.aload_n 0, 1) := by decide +kernel
theorem dX0_force_1 : decode cX0_force 1 = .ok (.invokevirtual 34, 3) := by decide +kernel
theorem dX0_force_4 : decode cX0_force 4 = .ok (.aload_n 0, 1) := by decide +kernel
theorem dX0_force_5 : decode cX0_force 5 = .ok (.iload_n 1, 1) := by decide +kernel
theorem dX0_force_6 : decode cX0_force 6 = .ok (.invokevirtual 71, 3) := by decide +kernel
theorem dX0_force_9 : decode cX0_force 9 = .ok (.aload_n 0, 1) := by decide +kernel
theorem dX0_force_10 : decode cX0_force 10 = .ok (.aload_n 0, 1) := by decide +kernel
theorem dX0_force_11 : decode cX0_force 11 = .ok (.iload_n 1, 1) := by decide +kernel
theorem dX0_force_12 : decode cX0_force 12 = .ok (.invokevirtual 74, 3) := by decide +kernel
theorem dX0_force_15 : decode cX0_force 15 = .ok (.invokevirtual 77, 3) := by decide +kernel
theorem dX0_force_18 : decode cX0_force 18 = .ok (.ireturn, 1) := by decide +kernel
theorem dX0_forceAll_0 : decode cX0_forceAll 0 = .ok (.aload_n 0, 1) := by decide +kernel
theorem dX0_forceAll_1 : decode cX0_forceAll 1 = .ok (.invokevirtual 34, 3) := by decide +kernel
theorem dX0_forceAll_4 : decode cX0_forceAll 4 = .ok (.aload_n 0, 1) := by decide +kernel
theorem dX0_forceAll_5 : decode cX0_forceAll 5 = .ok (.aload_n 0, 1) := by decide +kernel
theorem dX0_forceAll_6 : decode cX0_forceAll 6 = .ok (.getfield 24, 3) := by decide +kernel
theorem dX0_forceAll_9 : decode cX0_forceAll 9 = .ok (.invokevirtual 77, 3) := by decide +kernel
theorem dX0_forceAll_12 : decode cX0_forceAll 12 = .ok (.ireturn, 1) := by decide +kernel
theorem dX0_giveBack_0 : decode cX0_giveBack 0 = .ok (.aload_n 0, 1) := by decide +kernel
theorem dX0_giveBack_1 : decode cX0_giveBack 1 = .ok (.invokevirtual 34, 3) := by decide +kernel
theorem dX0_giveBack_4 : decode cX0_giveBack 4 = .ok (.aload_n 0, 1) := by decide +kernel
theorem dX0_giveBack_5 : decode cX0_giveBack 5 = .ok (.iload_n 1, 1) := by decide +kernel
theorem dX0_giveBack_6 : decode cX0_giveBack 6 = .ok (.invokevirtual 71, 3) := by decide +kernel
theorem dX0_giveBack_9 : decode cX0_giveBack 9 = .ok (.aload_n 0, 1) := by decide +kernel
theorem dX0_giveBack_10 : decode cX0_giveBack 10 = .ok (.iload_n 1, 1) := by decide +kernel
theorem dX0_giveBack_11 : decode cX0_giveBack 11 = .ok (.invokevirtual 74, 3) := by decide +kernel
theorem dX0_giveBack_14 : decode cX0_giveBack 14 = .ok (.aload_n 0, 1) := by decide +kernel
theorem dX0_giveBack_15 : decode cX0_giveBack 15 = .ok (.getfield 21, 3) := by decide +kernel
theorem dX0_giveBack_18 : decode cX0_giveBack 18 = .ok (.if_icmp .le 13, 3) := by decide +kernel
theorem dX0_giveBack_21 : decode cX0_giveBack 21 = .ok (.new 80, 3) := by decide +kernel
theorem dX0_giveBack_24 : decode cX0_giveBack 24 = .ok (.dup, 1) := by decide +kernel
theorem dX0_giveBack_25 : decode cX0_giveBack 25 = .ok (.ldc 82, 2) := by decide +kernel
theorem dX0_giveBack_27 : decode cX0_giveBack 27 = .ok (.invokespecial 84, 3) := by decide +kernel
theorem dX0_giveBack_30 : decode cX0_giveBack 30 = .ok (.athrow, 1) := by decide +kernel
theorem dX0_giveBack_31 : decode cX0_giveBack 31 = .ok (.iload_n 1, 1) := by decide +kernel
theorem dX0_giveBack_32 : decode cX0_giveBack 32 = .ok (.aload_n 0, 1) := by decide +kernel
theorem dX0_giveBack_33 : decode cX0_giveBack 33 = .ok (.getfield 17, 3) := by decide +kernel
theorem dX0_giveBack_36 : decode cX0_giveBack 36 = .ok (.isub, 1) := by decide +kernel
theorem dX0_giveBack_37 : decode cX0_giveBack 37 = .ok (.istore_n 2, 1) := by decide +kernel
theorem dX0_giveBack_38 : decode cX0_giveBack 38 = .ok (.aload_n 0, 1) := by decide +kernel
theorem dX0_giveBack_39 : decode cX0_giveBack 39 = .ok (.iload_n 1, 1) := by decide +kernel
theorem dX0_giveBack_40 : decode cX0_giveBack 40 = .ok (.putfield 17, 3) := by decide +kernel
theorem dX0_giveBack_43 : decode cX0_giveBack 43 = .ok (.iload_n 2, 1) := by decide +kernel
theorem dX0_giveBack_44 : decode cX0_giveBack 44 = .ok (.ireturn, 1) := by decide +kernel
theorem dX0_first_0 : decode cX0_first 0 = .ok (.aload_n 0, 1) := by decide +kernel
theorem dX0_first_1 : decode cX0_first 1 = .ok (.invokevirtual 34, 3) := by decide +kernel
theorem dX0_first_4 : decode cX0_first 4 = .ok (.aload_n 0, 1) := by decide +kernel
theorem dX0_first_5 : decode cX0_first 5 = .ok (.aload_n 0, 1) := by decide +kernel
theorem dX0_first_6 : decode cX0_first 6 = .ok (.getfield 17, 3) := by decide +kernel
theorem dX0_first_9 : decode cX0_first 9 = .ok (.invokevirtual 85, 3) := by decide +kernel
theorem dX0_first_12 : decode cX0_first 12 = .ok (.ireturn, 1) := by decide +kernel
theorem dX0_last_0 : decode cX0_last 0 = .ok (.aload_n 0, 1) := by decide +kernel
theorem dX0_last_1 : decode cX0_last 1 = .ok (.invokevirtual 34, 3) := by decide +kernel
theorem dX0_last_4 : decode cX0_last 4 = .ok (.aload_n 0, 1) := by decide +kernel
theorem dX0_last_5 : decode cX0_last 5 = .ok (.aload_n 0, 1) := by decide +kernel
theorem dX0_last_6 : decode cX0_last 6 = .ok (.getfield 24, 3) := by decide +kernel
theorem dX0_last_9 : decode cX0_last 9 = .ok (.invokevirtual 88, 3) := by decide +kernel
theorem dX0_last_12 : decode cX0_last 12 = .ok (.ireturn, 1) := by decide +kernel
theorem dX0_lastForced_0 : decode cX0_lastForced 0 = .ok (.aload_n 0, 1) := by decide +kernel
theorem dX0_lastForced_1 : decode cX0_lastForced 1 = .ok (.invokevirtual 34, 3) := by decide +kernel
theorem dX0_lastForced_4 : decode cX0_lastForced 4 = .ok (.aload_n 0, 1) := by decide +kernel
theorem dX0_lastForced_5 : decode cX0_lastForced 5 = .ok (.aload_n 0, 1) := by decide +kernel
theorem dX0_lastForced_6 : decode cX0_lastForced 6 = .ok (.getfield 21, 3) := by decide +kernel
theorem dX0_lastForced_9 : decode cX0_lastForced 9 = .ok (.invokevirtual 88, 3) := by decide +kernel
theorem dX0_lastForced_12 : decode cX0_lastForced 12 = .ok (.ireturn, 1) := by decide +kernel
theorem dX0_next_0 : decode cX0_next 0 = .ok (.aload_n 0, 1) := by decide +kernel
theorem dX0_next_1 : decode cX0_next 1 = .ok (.invokevirtual 34, 3) := by decide +kernel
theorem dX0_next_4 : decode cX0_next 4 = .ok (.aload_n 0, 1) := by decide +kernel
theorem dX0_next_5 : decode cX0_next 5 = .ok (.iload_n 1, 1) := by decide +kernel
theorem dX0_next_6 : decode cX0_next 6 = .ok (.invokevirtual 71, 3) := by decide +kernel
theorem dX0_next_9 : decode cX0_next 9 = .ok (.aload_n 0, 1) := by decide +kernel
theorem dX0_next_10 : decode cX0_next 10 = .ok (.aload_n 0, 1) := by decide +kernel
theorem dX0_next_11 : decode cX0_next 11 = .ok (.iload_n 1, 1) := by decide +kernel
theorem dX0_next_12 : decode cX0_next 12 = .ok (.invokevirtual 74, 3) := by decide +kernel
theorem dX0_next_15 : decode cX0_next 15 = .ok (.invokevirtual 85, 3) := by decide +kernel
theorem dX0_next_18 : decode cX0_next 18 = .ok (.ireturn, 1) := by decide +kernel
theorem dX0_before_0 : decode cX0_before 0 = .ok (.aload_n 0, 1) := by decide +kernel
theorem dX0_before_1 : decode cX0_before 1 = .ok (.invokevirtual 34, 3) := by decide +kernel
theorem dX0_before_4 : decode cX0_before 4 = .ok (.aload_n 0, 1) := by decide +kernel
theorem dX0_before_5 : decode cX0_before 5 = .ok (.iload_n 1, 1) := by decide +kernel
theorem dX0_before_6 : decode cX0_before 6 = .ok (.invokevirtual 71, 3) := by decide +kernel
theorem dX0_before_9 : decode cX0_before 9 = .ok (.aload_n 0, 1) := by decide +kernel
theorem dX0_before_10 : decode cX0_before 10 = .ok (.iload_n 1, 1) := by decide +kernel
theorem dX0_before_11 : decode cX0_before 11 = .ok (.invokevirtual 88, 3) := by decide +kernel
theorem dX0_before_14 : decode cX0_before 14 = .ok (.ireturn, 1) := by decide +kernel
theorem dX0_lastOf_0 : decode cX0_lastOf 0 = .ok (.aload_n 0, 1) := by decide +kernel
theorem dX0_lastOf_1 : decode cX0_lastOf 1 = .ok (.invokevirtual 34, 3) := by decide +kernel
theorem dX0_lastOf_4 : decode cX0_lastOf 4 = .ok (.aload_n 0, 1) := by decide +kernel
theorem dX0_lastOf_5 : decode cX0_lastOf 5 = .ok (.iload_n 1, 1) := by decide +kernel
theorem dX0_lastOf_6 : decode cX0_lastOf 6 = .ok (.invokevirtual 48, 3) := by decide +kernel
theorem dX0_lastOf_9 : decode cX0_lastOf 9 = .ok (.aload_n 0, 1) := by decide +kernel
theorem dX0_lastOf_10 : decode cX0_lastOf 10 = .ok (.iload_n 1, 1) := by decide +kernel
theorem dX0_lastOf_11 : decode cX0_lastOf 11 = .ok (.invokevirtual 61, 3) := by decide +kernel
theorem dX0_lastOf_14 : decode cX0_lastOf 14 = .ok (.ireturn, 1) := by decide +kernel
theorem dX0_of_0 : decode cX0_of 0 = .ok (.aload_n 0, 1) := by decide +kernel
theorem dX0_of_1 : decode cX0_of 1 = .ok (.invokevirtual 34, 3) := by decide +kernel
theorem dX0_of_4 : decode cX0_of 4 = .ok (.aload_n 0, 1) := by decide +kernel
theorem dX0_of_5 : decode cX0_of 5 = .ok (.iload_n 1, 1) := by decide +kernel
theorem dX0_of_6 : decode cX0_of 6 = .ok (.invokevirtual 71, 3) := by decide +kernel
theorem dX0_of_9 : decode cX0_of 9 = .ok (.iload_n 2, 1) := by decide +kernel
theorem dX0_of_10 : decode cX0_of 10 = .ok (.tableswitch 68 0 4 #[34, 40, 46, 54, 62], 34) := by decide +kernel
theorem dX0_of_44 : decode cX0_of 44 = .ok (.aload_n 0, 1) := by decide +kernel
theorem dX0_of_45 : decode cX0_of 45 = .ok (.iload_n 1, 1) := by decide +kernel
theorem dX0_of_46 : decode cX0_of 46 = .ok (.invokevirtual 91, 3) := by decide +kernel
theorem dX0_of_49 : decode cX0_of 49 = .ok (.ireturn, 1) := by decide +kernel
theorem dX0_of_50 : decode cX0_of 50 = .ok (.aload_n 0, 1) := by decide +kernel
theorem dX0_of_51 : decode cX0_of 51 = .ok (.iload_n 1, 1) := by decide +kernel
theorem dX0_of_52 : decode cX0_of 52 = .ok (.invokevirtual 94, 3) := by decide +kernel
theorem dX0_of_55 : decode cX0_of 55 = .ok (.ireturn, 1) := by decide +kernel
theorem dX0_of_56 : decode cX0_of 56 = .ok (.aload_n 0, 1) := by decide +kernel
theorem dX0_of_57 : decode cX0_of 57 = .ok (.iload_n 1, 1) := by decide +kernel
theorem dX0_of_58 : decode cX0_of 58 = .ok (.iconst 2, 1) := by decide +kernel
theorem dX0_of_59 : decode cX0_of 59 = .ok (.iadd, 1) := by decide +kernel
theorem dX0_of_60 : decode cX0_of 60 = .ok (.invokevirtual 97, 3) := by decide +kernel
theorem dX0_of_63 : decode cX0_of 63 = .ok (.ireturn, 1) := by decide +kernel
theorem dX0_of_64 : decode cX0_of 64 = .ok (.aload_n 0, 1) := by decide +kernel
theorem dX0_of_65 : decode cX0_of 65 = .ok (.iload_n 1, 1) := by decide +kernel
theorem dX0_of_66 : decode cX0_of 66 = .ok (.iconst 3, 1) := by decide +kernel
theorem dX0_of_67 : decode cX0_of 67 = .ok (.iadd, 1) := by decide +kernel
theorem dX0_of_68 : decode cX0_of 68 = .ok (.invokevirtual 97, 3) := by decide +kernel
theorem dX0_of_71 : decode cX0_of 71 = .ok (.ireturn, 1) := by decide +kernel
theorem dX0_of_72 : decode cX0_of 72 = .ok (.aload_n 0, 1) := by decide +kernel
theorem dX0_of_73 : decode cX0_of 73 = .ok (.iload_n 1, 1) := by decide +kernel
theorem dX0_of_74 : decode cX0_of 74 = .ok (.invokevirtual 100, 3) := by decide +kernel
theorem dX0_of_77 : decode cX0_of 77 = .ok (.ireturn, 1) := by decide +kernel
theorem dX0_of_78 : decode cX0_of 78 = .ok (.new 37, 3) := by decide +kernel
theorem dX0_of_81 : decode cX0_of 81 = .ok (.dup, 1) := by decide +kernel
theorem dX0_of_82 : decode cX0_of 82 = .ok (.ldc 103, 2) := by decide +kernel
theorem dX0_of_84 : decode cX0_of 84 = .ok (.invokespecial 41, 3) := by decide +kernel
theorem dX0_of_87 : decode cX0_of 87 = .ok (.athrow, 1) := by decide +kernel
theorem dX0_word_0 : decode cX0_word 0 = .ok (.aload_n 0, 1) := by decide +kernel
theorem dX0_word_1 : decode cX0_word 1 = .ok (.invokevirtual 34, 3) := by decide +kernel
theorem dX0_word_4 : decode cX0_word 4 = .ok (.aload_n 0, 1) := by decide +kernel
theorem dX0_word_5 : decode cX0_word 5 = .ok (.iload_n 1, 1) := by decide +kernel
theorem dX0_word_6 : decode cX0_word 6 = .ok (.invokevirtual 71, 3) := by decide +kernel
theorem dX0_word_9 : decode cX0_word 9 = .ok (.iload_n 2, 1) := by decide +kernel
theorem dX0_word_10 : decode cX0_word 10 = .ok (.ifCond .lt 12, 3) := by decide +kernel
theorem dX0_word_13 : decode cX0_word 13 = .ok (.iload_n 2, 1) := by decide +kernel
theorem dX0_word_14 : decode cX0_word 14 = .ok (.aload_n 0, 1) := by decide +kernel
theorem dX0_word_15 : decode cX0_word 15 = .ok (.iload_n 1, 1) := by decide +kernel
theorem dX0_word_16 : decode cX0_word 16 = .ok (.invokevirtual 100, 3) := by decide +kernel
theorem dX0_word_19 : decode cX0_word 19 = .ok (.if_icmp .lt 13, 3) := by decide +kernel
theorem dX0_word_22 : decode cX0_word 22 = .ok (.new 37, 3) := by decide +kernel
theorem dX0_word_25 : decode cX0_word 25 = .ok (.dup, 1) := by decide +kernel
theorem dX0_word_26 : decode cX0_word 26 = .ok (.ldc 105, 2) := by decide +kernel
theorem dX0_word_28 : decode cX0_word 28 = .ok (.invokespecial 41, 3) := by decide +kernel
theorem dX0_word_31 : decode cX0_word 31 = .ok (.athrow, 1) := by decide +kernel
theorem dX0_word_32 : decode cX0_word 32 = .ok (.aload_n 0, 1) := by decide +kernel
theorem dX0_word_33 : decode cX0_word 33 = .ok (.iload_n 1, 1) := by decide +kernel
theorem dX0_word_34 : decode cX0_word 34 = .ok (.iconst 4, 1) := by decide +kernel
theorem dX0_word_35 : decode cX0_word 35 = .ok (.iadd, 1) := by decide +kernel
theorem dX0_word_36 : decode cX0_word 36 = .ok (.iload_n 2, 1) := by decide +kernel
theorem dX0_word_37 : decode cX0_word 37 = .ok (.iadd, 1) := by decide +kernel
theorem dX0_word_38 : decode cX0_word 38 = .ok (.invokevirtual 97, 3) := by decide +kernel
theorem dX0_word_41 : decode cX0_word 41 = .ok (.ireturn, 1) := by decide +kernel
theorem dX0_back_0 : decode cX0_back 0 = .ok (.aload_n 0, 1) := by decide +kernel
theorem dX0_back_1 : decode cX0_back 1 = .ok (.invokevirtual 34, 3) := by decide +kernel
theorem dX0_back_4 : decode cX0_back 4 = .ok (.aload_n 0, 1) := by decide +kernel
theorem dX0_back_5 : decode cX0_back 5 = .ok (.iload_n 1, 1) := by decide +kernel
theorem dX0_back_6 : decode cX0_back 6 = .ok (.invokevirtual 48, 3) := by decide +kernel
theorem dX0_back_9 : decode cX0_back 9 = .ok (.iload_n 3, 1) := by decide +kernel
theorem dX0_back_10 : decode cX0_back 10 = .ok (.ifCond .ge 13, 3) := by decide +kernel
theorem dX0_back_13 : decode cX0_back 13 = .ok (.new 52, 3) := by decide +kernel
theorem dX0_back_16 : decode cX0_back 16 = .ok (.dup, 1) := by decide +kernel
theorem dX0_back_17 : decode cX0_back 17 = .ok (.ldc 107, 2) := by decide +kernel
theorem dX0_back_19 : decode cX0_back 19 = .ok (.invokespecial 56, 3) := by decide +kernel
theorem dX0_back_22 : decode cX0_back 22 = .ok (.athrow, 1) := by decide +kernel
theorem dX0_back_23 : decode cX0_back 23 = .ok (.aload_n 0, 1) := by decide +kernel
theorem dX0_back_24 : decode cX0_back 24 = .ok (.iload_n 1, 1) := by decide +kernel
theorem dX0_back_25 : decode cX0_back 25 = .ok (.iload_n 2, 1) := by decide +kernel
theorem dX0_back_26 : decode cX0_back 26 = .ok (.iload_n 3, 1) := by decide +kernel
theorem dX0_back_27 : decode cX0_back 27 = .ok (.invokevirtual 109, 3) := by decide +kernel
theorem dX0_back_30 : decode cX0_back 30 = .ok (.ireturn, 1) := by decide +kernel
theorem dX0_count_0 : decode cX0_count 0 = .ok (.aload_n 0, 1) := by decide +kernel
theorem dX0_count_1 : decode cX0_count 1 = .ok (.invokevirtual 34, 3) := by decide +kernel
theorem dX0_count_4 : decode cX0_count 4 = .ok (.iconst 0, 1) := by decide +kernel
theorem dX0_count_5 : decode cX0_count 5 = .ok (.istore_n 1, 1) := by decide +kernel
theorem dX0_count_6 : decode cX0_count 6 = .ok (.aload_n 0, 1) := by decide +kernel
theorem dX0_count_7 : decode cX0_count 7 = .ok (.aload_n 0, 1) := by decide +kernel
theorem dX0_count_8 : decode cX0_count 8 = .ok (.getfield 24, 3) := by decide +kernel
theorem dX0_count_11 : decode cX0_count 11 = .ok (.invokevirtual 88, 3) := by decide +kernel
theorem dX0_count_14 : decode cX0_count 14 = .ok (.istore_n 2, 1) := by decide +kernel
theorem dX0_count_15 : decode cX0_count 15 = .ok (.iconst 0, 1) := by decide +kernel
theorem dX0_count_16 : decode cX0_count 16 = .ok (.istore_n 3, 1) := by decide +kernel
theorem dX0_count_17 : decode cX0_count 17 = .ok (.iload_n 3, 1) := by decide +kernel
theorem dX0_count_18 : decode cX0_count 18 = .ok (.sipush 13107, 3) := by decide +kernel
theorem dX0_count_21 : decode cX0_count 21 = .ok (.if_icmp .ge 23, 3) := by decide +kernel
theorem dX0_count_24 : decode cX0_count 24 = .ok (.iload_n 2, 1) := by decide +kernel
theorem dX0_count_25 : decode cX0_count 25 = .ok (.iconst (-1), 1) := by decide +kernel
theorem dX0_count_26 : decode cX0_count 26 = .ok (.if_icmp .eq 18, 3) := by decide +kernel
theorem dX0_count_29 : decode cX0_count 29 = .ok (.iinc 1 1, 3) := by decide +kernel
theorem dX0_count_32 : decode cX0_count 32 = .ok (.aload_n 0, 1) := by decide +kernel
theorem dX0_count_33 : decode cX0_count 33 = .ok (.iload_n 2, 1) := by decide +kernel
theorem dX0_count_34 : decode cX0_count 34 = .ok (.invokevirtual 88, 3) := by decide +kernel
theorem dX0_count_37 : decode cX0_count 37 = .ok (.istore_n 2, 1) := by decide +kernel
theorem dX0_count_38 : decode cX0_count 38 = .ok (.iinc 3 1, 3) := by decide +kernel
theorem dX0_count_41 : decode cX0_count 41 = .ok (.goto (-24), 3) := by decide +kernel
theorem dX0_count_44 : decode cX0_count 44 = .ok (.iload_n 1, 1) := by decide +kernel
theorem dX0_count_45 : decode cX0_count 45 = .ok (.ireturn, 1) := by decide +kernel
theorem dX0_log_0 : decode cX0_log 0 = .ok (.iload_n 1, 1) := by decide +kernel
theorem dX0_log_1 : decode cX0_log 1 = .ok (.tableswitch 42 0 2 #[27, 32, 37], 27) := by decide +kernel
theorem dX0_log_28 : decode cX0_log 28 = .ok (.aload_n 0, 1) := by decide +kernel
theorem dX0_log_29 : decode cX0_log 29 = .ok (.getfield 17, 3) := by decide +kernel
theorem dX0_log_32 : decode cX0_log 32 = .ok (.ireturn, 1) := by decide +kernel
theorem dX0_log_33 : decode cX0_log 33 = .ok (.aload_n 0, 1) := by decide +kernel
theorem dX0_log_34 : decode cX0_log 34 = .ok (.getfield 21, 3) := by decide +kernel
theorem dX0_log_37 : decode cX0_log 37 = .ok (.ireturn, 1) := by decide +kernel
theorem dX0_log_38 : decode cX0_log 38 = .ok (.aload_n 0, 1) := by decide +kernel
theorem dX0_log_39 : decode cX0_log 39 = .ok (.getfield 24, 3) := by decide +kernel
theorem dX0_log_42 : decode cX0_log 42 = .ok (.ireturn, 1) := by decide +kernel
theorem dX0_log_43 : decode cX0_log 43 = .ok (.new 37, 3) := by decide +kernel
theorem dX0_log_46 : decode cX0_log 46 = .ok (.dup, 1) := by decide +kernel
theorem dX0_log_47 : decode cX0_log 47 = .ok (.ldc 113, 2) := by decide +kernel
theorem dX0_log_49 : decode cX0_log 49 = .ok (.invokespecial 41, 3) := by decide +kernel
theorem dX0_log_52 : decode cX0_log 52 = .ok (.athrow, 1) := by decide +kernel
theorem dX0_cutAfter_0 : decode cX0_cutAfter 0 = .ok (.iload_n 1, 1) := by decide +kernel
theorem dX0_cutAfter_1 : decode cX0_cutAfter 1 = .ok (.iconst (-1), 1) := by decide +kernel
theorem dX0_cutAfter_2 : decode cX0_cutAfter 2 = .ok (.if_icmp .ge 13, 3) := by decide +kernel
theorem dX0_cutAfter_5 : decode cX0_cutAfter 5 = .ok (.new 52, 3) := by decide +kernel
theorem dX0_cutAfter_8 : decode cX0_cutAfter 8 = .ok (.dup, 1) := by decide +kernel
theorem dX0_cutAfter_9 : decode cX0_cutAfter 9 = .ok (.ldc 115, 2) := by decide +kernel
theorem dX0_cutAfter_11 : decode cX0_cutAfter 11 = .ok (.invokespecial 56, 3) := by decide +kernel
theorem dX0_cutAfter_14 : decode cX0_cutAfter 14 = .ok (.athrow, 1) := by decide +kernel
theorem dX0_cutAfter_15 : decode cX0_cutAfter 15 = .ok (.aload_n 0, 1) := by decide +kernel
theorem dX0_cutAfter_16 : decode cX0_cutAfter 16 = .ok (.iload_n 1, 1) := by decide +kernel
theorem dX0_cutAfter_17 : decode cX0_cutAfter 17 = .ok (.putfield 27, 3) := by decide +kernel
theorem dX0_cutAfter_20 : decode cX0_cutAfter 20 = .ok (.return_, 1) := by decide +kernel
theorem dX0_cut_0 : decode cX0_cut 0 = .ok (.aload_n 0, 1) := by decide +kernel
theorem dX0_cut_1 : decode cX0_cut 1 = .ok (.getfield 30, 3) := by decide +kernel
theorem dX0_cut_4 : decode cX0_cut 4 = .ok (.ifCond .ne 5, 3) := by decide +kernel
theorem dX0_cut_7 : decode cX0_cut 7 = .ok (.iconst 0, 1) := by decide +kernel
theorem dX0_cut_8 : decode cX0_cut 8 = .ok (.ireturn, 1) := by decide +kernel
theorem dX0_cut_9 : decode cX0_cut 9 = .ok (.aload_n 0, 1) := by decide +kernel
theorem dX0_cut_10 : decode cX0_cut 10 = .ok (.invokevirtual 117, 3) := by decide +kernel
theorem dX0_cut_13 : decode cX0_cut 13 = .ok (.iconst 1, 1) := by decide +kernel
theorem dX0_cut_14 : decode cX0_cut 14 = .ok (.ireturn, 1) := by decide +kernel
theorem dX0_open_0 : decode cX0_open 0 = .ok (.aload_n 0, 1) := by decide +kernel
theorem dX0_open_1 : decode cX0_open 1 = .ok (.getfield 30, 3) := by decide +kernel
theorem dX0_open_4 : decode cX0_open 4 = .ok (.ifCond .eq 13, 3) := by decide +kernel
theorem dX0_open_7 : decode cX0_open 7 = .ok (.new 80, 3) := by decide +kernel
theorem dX0_open_10 : decode cX0_open 10 = .ok (.dup, 1) := by decide +kernel
theorem dX0_open_11 : decode cX0_open 11 = .ok (.ldc 120, 2) := by decide +kernel
theorem dX0_open_13 : decode cX0_open 13 = .ok (.invokespecial 84, 3) := by decide +kernel
theorem dX0_open_16 : decode cX0_open 16 = .ok (.athrow, 1) := by decide +kernel
theorem dX0_open_17 : decode cX0_open 17 = .ok (.aload_n 0, 1) := by decide +kernel
theorem dX0_open_18 : decode cX0_open 18 = .ok (.invokevirtual 122, 3) := by decide +kernel
theorem dX0_open_21 : decode cX0_open 21 = .ok (.aload_n 0, 1) := by decide +kernel
theorem dX0_open_22 : decode cX0_open 22 = .ok (.aload_n 0, 1) := by decide +kernel
theorem dX0_open_23 : decode cX0_open 23 = .ok (.getfield 24, 3) := by decide +kernel
theorem dX0_open_26 : decode cX0_open 26 = .ok (.invokevirtual 77, 3) := by decide +kernel
theorem dX0_open_29 : decode cX0_open 29 = .ok (.istore_n 1, 1) := by decide +kernel
theorem dX0_open_30 : decode cX0_open 30 = .ok (.aload_n 0, 1) := by decide +kernel
theorem dX0_open_31 : decode cX0_open 31 = .ok (.iload_n 1, 1) := by decide +kernel
theorem dX0_open_32 : decode cX0_open 32 = .ok (.iconst (-1), 1) := by decide +kernel
theorem dX0_open_33 : decode cX0_open 33 = .ok (.if_icmp .eq 7, 3) := by decide +kernel
theorem dX0_open_36 : decode cX0_open 36 = .ok (.iconst 1, 1) := by decide +kernel
theorem dX0_open_37 : decode cX0_open 37 = .ok (.goto 4, 3) := by decide +kernel
theorem dX0_open_40 : decode cX0_open 40 = .ok (.iconst 0, 1) := by decide +kernel
theorem dX0_open_41 : decode cX0_open 41 = .ok (.putfield 30, 3) := by decide +kernel
theorem dX0_open_44 : decode cX0_open 44 = .ok (.iload_n 1, 1) := by decide +kernel
theorem dX0_open_45 : decode cX0_open 45 = .ok (.ireturn, 1) := by decide +kernel
theorem dX0_isOpen_0 : decode cX0_isOpen 0 = .ok (.aload_n 0, 1) := by decide +kernel
theorem dX0_isOpen_1 : decode cX0_isOpen 1 = .ok (.getfield 30, 3) := by decide +kernel
theorem dX0_isOpen_4 : decode cX0_isOpen 4 = .ok (.ireturn, 1) := by decide +kernel
theorem dX0_requireOpen_0 : decode cX0_requireOpen 0 = .ok (.aload_n 0, 1) := by decide +kernel
theorem dX0_requireOpen_1 : decode cX0_requireOpen 1 = .ok (.getfield 30, 3) := by decide +kernel
theorem dX0_requireOpen_4 : decode cX0_requireOpen 4 = .ok (.ifCond .ne 13, 3) := by decide +kernel
theorem dX0_requireOpen_7 : decode cX0_requireOpen 7 = .ok (.new 80, 3) := by decide +kernel
theorem dX0_requireOpen_10 : decode cX0_requireOpen 10 = .ok (.dup, 1) := by decide +kernel
theorem dX0_requireOpen_11 : decode cX0_requireOpen 11 = .ok (.ldc 125, 2) := by decide +kernel
theorem dX0_requireOpen_13 : decode cX0_requireOpen 13 = .ok (.invokespecial 84, 3) := by decide +kernel
theorem dX0_requireOpen_16 : decode cX0_requireOpen 16 = .ok (.athrow, 1) := by decide +kernel
theorem dX0_requireOpen_17 : decode cX0_requireOpen 17 = .ok (.return_, 1) := by decide +kernel
theorem dX0_requireOwner_0 : decode cX0_requireOwner 0 = .ok (.iload_n 1, 1) := by decide +kernel
theorem dX0_requireOwner_1 : decode cX0_requireOwner 1 = .ok (.ifCond .lt 9, 3) := by decide +kernel
theorem dX0_requireOwner_4 : decode cX0_requireOwner 4 = .ok (.iload_n 1, 1) := by decide +kernel
theorem dX0_requireOwner_5 : decode cX0_requireOwner 5 = .ok (.bipush 8, 2) := by decide +kernel
theorem dX0_requireOwner_7 : decode cX0_requireOwner 7 = .ok (.if_icmp .lt 13, 3) := by decide +kernel
theorem dX0_requireOwner_10 : decode cX0_requireOwner 10 = .ok (.new 52, 3) := by decide +kernel
theorem dX0_requireOwner_13 : decode cX0_requireOwner 13 = .ok (.dup, 1) := by decide +kernel
theorem dX0_requireOwner_14 : decode cX0_requireOwner 14 = .ok (.ldc 127, 2) := by decide +kernel
theorem dX0_requireOwner_16 : decode cX0_requireOwner 16 = .ok (.invokespecial 56, 3) := by decide +kernel
theorem dX0_requireOwner_19 : decode cX0_requireOwner 19 = .ok (.athrow, 1) := by decide +kernel
theorem dX0_requireOwner_20 : decode cX0_requireOwner 20 = .ok (.return_, 1) := by decide +kernel
theorem dX0_requireRecord_0 : decode cX0_requireRecord 0 = .ok (.aload_n 0, 1) := by decide +kernel
theorem dX0_requireRecord_1 : decode cX0_requireRecord 1 = .ok (.iload_n 1, 1) := by decide +kernel
theorem dX0_requireRecord_2 : decode cX0_requireRecord 2 = .ok (.invokevirtual 129, 3) := by decide +kernel
theorem dX0_requireRecord_5 : decode cX0_requireRecord 5 = .ok (.ifCond .ne 13, 3) := by decide +kernel
theorem dX0_requireRecord_8 : decode cX0_requireRecord 8 = .ok (.new 133, 3) := by decide +kernel
theorem dX0_requireRecord_11 : decode cX0_requireRecord 11 = .ok (.dup, 1) := by decide +kernel
theorem dX0_requireRecord_12 : decode cX0_requireRecord 12 = .ok (.ldc 135, 2) := by decide +kernel
theorem dX0_requireRecord_14 : decode cX0_requireRecord 14 = .ok (.invokespecial 137, 3) := by decide +kernel
theorem dX0_requireRecord_17 : decode cX0_requireRecord 17 = .ok (.athrow, 1) := by decide +kernel
theorem dX0_requireRecord_18 : decode cX0_requireRecord 18 = .ok (.return_, 1) := by decide +kernel
theorem dX0_fillBuffer_0 : decode cX0_fillBuffer 0 = .ok (.iconst 0, 1) := by decide +kernel
theorem dX0_fillBuffer_1 : decode cX0_fillBuffer 1 = .ok (.istore_n 3, 1) := by decide +kernel
theorem dX0_fillBuffer_2 : decode cX0_fillBuffer 2 = .ok (.iload_n 3, 1) := by decide +kernel
theorem dX0_fillBuffer_3 : decode cX0_fillBuffer 3 = .ok (.aload_n 0, 1) := by decide +kernel
theorem dX0_fillBuffer_4 : decode cX0_fillBuffer 4 = .ok (.getfield 14, 3) := by decide +kernel
theorem dX0_fillBuffer_7 : decode cX0_fillBuffer 7 = .ok (.arraylength, 1) := by decide +kernel
theorem dX0_fillBuffer_8 : decode cX0_fillBuffer 8 = .ok (.if_icmp .ge 20, 3) := by decide +kernel
theorem dX0_fillBuffer_11 : decode cX0_fillBuffer 11 = .ok (.aload_n 0, 1) := by decide +kernel
theorem dX0_fillBuffer_12 : decode cX0_fillBuffer 12 = .ok (.getfield 14, 3) := by decide +kernel
theorem dX0_fillBuffer_15 : decode cX0_fillBuffer 15 = .ok (.iload_n 3, 1) := by decide +kernel
theorem dX0_fillBuffer_16 : decode cX0_fillBuffer 16 = .ok (.iload_n 1, 1) := by decide +kernel
theorem dX0_fillBuffer_17 : decode cX0_fillBuffer 17 = .ok (.iload_n 3, 1) := by decide +kernel
theorem dX0_fillBuffer_18 : decode cX0_fillBuffer 18 = .ok (.iload_n 2, 1) := by decide +kernel
theorem dX0_fillBuffer_19 : decode cX0_fillBuffer 19 = .ok (.imul, 1) := by decide +kernel
theorem dX0_fillBuffer_20 : decode cX0_fillBuffer 20 = .ok (.iadd, 1) := by decide +kernel
theorem dX0_fillBuffer_21 : decode cX0_fillBuffer 21 = .ok (.iastore, 1) := by decide +kernel
theorem dX0_fillBuffer_22 : decode cX0_fillBuffer 22 = .ok (.iinc 3 1, 3) := by decide +kernel
theorem dX0_fillBuffer_25 : decode cX0_fillBuffer 25 = .ok (.goto (-23), 3) := by decide +kernel
theorem dX0_fillBuffer_28 : decode cX0_fillBuffer 28 = .ok (.return_, 1) := by decide +kernel
theorem dX0_wordAt_0 : decode cX0_wordAt 0 = .ok (.aload_n 0, 1) := by decide +kernel
theorem dX0_wordAt_1 : decode cX0_wordAt 1 = .ok (.getfield 10, 3) := by decide +kernel
theorem dX0_wordAt_4 : decode cX0_wordAt 4 = .ok (.iload_n 1, 1) := by decide +kernel
theorem dX0_wordAt_5 : decode cX0_wordAt 5 = .ok (.ldc 138, 2) := by decide +kernel
theorem dX0_wordAt_7 : decode cX0_wordAt 7 = .ok (.iand, 1) := by decide +kernel
theorem dX0_wordAt_8 : decode cX0_wordAt 8 = .ok (.iaload, 1) := by decide +kernel
theorem dX0_wordAt_9 : decode cX0_wordAt 9 = .ok (.ireturn, 1) := by decide +kernel
theorem dX0_addWord_0 : decode cX0_addWord 0 = .ok (.aload_n 0, 1) := by decide +kernel
theorem dX0_addWord_1 : decode cX0_addWord 1 = .ok (.getfield 10, 3) := by decide +kernel
theorem dX0_addWord_4 : decode cX0_addWord 4 = .ok (.aload_n 0, 1) := by decide +kernel
theorem dX0_addWord_5 : decode cX0_addWord 5 = .ok (.getfield 24, 3) := by decide +kernel
theorem dX0_addWord_8 : decode cX0_addWord 8 = .ok (.ldc 138, 2) := by decide +kernel
theorem dX0_addWord_10 : decode cX0_addWord 10 = .ok (.iand, 1) := by decide +kernel
theorem dX0_addWord_11 : decode cX0_addWord 11 = .ok (.iload_n 1, 1) := by decide +kernel
theorem dX0_addWord_12 : decode cX0_addWord 12 = .ok (.iastore, 1) := by decide +kernel
theorem dX0_addWord_13 : decode cX0_addWord 13 = .ok (.aload_n 0, 1) := by decide +kernel
theorem dX0_addWord_14 : decode cX0_addWord 14 = .ok (.dup, 1) := by decide +kernel
theorem dX0_addWord_15 : decode cX0_addWord 15 = .ok (.getfield 24, 3) := by decide +kernel
theorem dX0_addWord_18 : decode cX0_addWord 18 = .ok (.iconst 1, 1) := by decide +kernel
theorem dX0_addWord_19 : decode cX0_addWord 19 = .ok (.iadd, 1) := by decide +kernel
theorem dX0_addWord_20 : decode cX0_addWord 20 = .ok (.putfield 24, 3) := by decide +kernel
theorem dX0_addWord_23 : decode cX0_addWord 23 = .ok (.return_, 1) := by decide +kernel
theorem dX0_addContent_0 : decode cX0_addContent 0 = .ok (.iconst 0, 1) := by decide +kernel
theorem dX0_addContent_1 : decode cX0_addContent 1 = .ok (.istore_n 2, 1) := by decide +kernel
theorem dX0_addContent_2 : decode cX0_addContent 2 = .ok (.iload_n 2, 1) := by decide +kernel
theorem dX0_addContent_3 : decode cX0_addContent 3 = .ok (.iload_n 1, 1) := by decide +kernel
theorem dX0_addContent_4 : decode cX0_addContent 4 = .ok (.if_icmp .ge 28, 3) := by decide +kernel
theorem dX0_addContent_7 : decode cX0_addContent 7 = .ok (.iload_n 2, 1) := by decide +kernel
theorem dX0_addContent_8 : decode cX0_addContent 8 = .ok (.aload_n 0, 1) := by decide +kernel
theorem dX0_addContent_9 : decode cX0_addContent 9 = .ok (.getfield 14, 3) := by decide +kernel
theorem dX0_addContent_12 : decode cX0_addContent 12 = .ok (.arraylength, 1) := by decide +kernel
theorem dX0_addContent_13 : decode cX0_addContent 13 = .ok (.if_icmp .ge 19, 3) := by decide +kernel
theorem dX0_addContent_16 : decode cX0_addContent 16 = .ok (.aload_n 0, 1) := by decide +kernel
theorem dX0_addContent_17 : decode cX0_addContent 17 = .ok (.aload_n 0, 1) := by decide +kernel
theorem dX0_addContent_18 : decode cX0_addContent 18 = .ok (.getfield 14, 3) := by decide +kernel
theorem dX0_addContent_21 : decode cX0_addContent 21 = .ok (.iload_n 2, 1) := by decide +kernel
theorem dX0_addContent_22 : decode cX0_addContent 22 = .ok (.iaload, 1) := by decide +kernel
theorem dX0_addContent_23 : decode cX0_addContent 23 = .ok (.invokevirtual 65, 3) := by decide +kernel
theorem dX0_addContent_26 : decode cX0_addContent 26 = .ok (.iinc 2 1, 3) := by decide +kernel
theorem dX0_addContent_29 : decode cX0_addContent 29 = .ok (.goto (-27), 3) := by decide +kernel
theorem dX0_addContent_32 : decode cX0_addContent 32 = .ok (.return_, 1) := by decide +kernel
theorem dX0_kindAt_0 : decode cX0_kindAt 0 = .ok (.aload_n 0, 1) := by decide +kernel
theorem dX0_kindAt_1 : decode cX0_kindAt 1 = .ok (.iload_n 1, 1) := by decide +kernel
theorem dX0_kindAt_2 : decode cX0_kindAt 2 = .ok (.iconst 1, 1) := by decide +kernel
theorem dX0_kindAt_3 : decode cX0_kindAt 3 = .ok (.iadd, 1) := by decide +kernel
theorem dX0_kindAt_4 : decode cX0_kindAt 4 = .ok (.invokevirtual 97, 3) := by decide +kernel
theorem dX0_kindAt_7 : decode cX0_kindAt 7 = .ok (.bipush 16, 2) := by decide +kernel
theorem dX0_kindAt_9 : decode cX0_kindAt 9 = .ok (.irem, 1) := by decide +kernel
theorem dX0_kindAt_10 : decode cX0_kindAt 10 = .ok (.ireturn, 1) := by decide +kernel
theorem dX0_ownerAt_0 : decode cX0_ownerAt 0 = .ok (.aload_n 0, 1) := by decide +kernel
theorem dX0_ownerAt_1 : decode cX0_ownerAt 1 = .ok (.iload_n 1, 1) := by decide +kernel
theorem dX0_ownerAt_2 : decode cX0_ownerAt 2 = .ok (.iconst 1, 1) := by decide +kernel
theorem dX0_ownerAt_3 : decode cX0_ownerAt 3 = .ok (.iadd, 1) := by decide +kernel
theorem dX0_ownerAt_4 : decode cX0_ownerAt 4 = .ok (.invokevirtual 97, 3) := by decide +kernel
theorem dX0_ownerAt_7 : decode cX0_ownerAt 7 = .ok (.bipush 16, 2) := by decide +kernel
theorem dX0_ownerAt_9 : decode cX0_ownerAt 9 = .ok (.idiv, 1) := by decide +kernel
theorem dX0_ownerAt_10 : decode cX0_ownerAt 10 = .ok (.ireturn, 1) := by decide +kernel
theorem dX0_contentWords_0 : decode cX0_contentWords 0 = .ok (.aload_n 0, 1) := by decide +kernel
theorem dX0_contentWords_1 : decode cX0_contentWords 1 = .ok (.iload_n 1, 1) := by decide +kernel
theorem dX0_contentWords_2 : decode cX0_contentWords 2 = .ok (.invokevirtual 97, 3) := by decide +kernel
theorem dX0_contentWords_5 : decode cX0_contentWords 5 = .ok (.iconst 5, 1) := by decide +kernel
theorem dX0_contentWords_6 : decode cX0_contentWords 6 = .ok (.isub, 1) := by decide +kernel
theorem dX0_contentWords_7 : decode cX0_contentWords 7 = .ok (.ireturn, 1) := by decide +kernel
theorem dX0_behind_0 : decode cX0_behind 0 = .ok (.iload_n 1, 1) := by decide +kernel
theorem dX0_behind_1 : decode cX0_behind 1 = .ok (.aload_n 0, 1) := by decide +kernel
theorem dX0_behind_2 : decode cX0_behind 2 = .ok (.iload_n 1, 1) := by decide +kernel
theorem dX0_behind_3 : decode cX0_behind 3 = .ok (.invokevirtual 97, 3) := by decide +kernel
theorem dX0_behind_6 : decode cX0_behind 6 = .ok (.iadd, 1) := by decide +kernel
theorem dX0_behind_7 : decode cX0_behind 7 = .ok (.ireturn, 1) := by decide +kernel
theorem dX0_isVoid_0 : decode cX0_isVoid 0 = .ok (.aload_n 0, 1) := by decide +kernel
theorem dX0_isVoid_1 : decode cX0_isVoid 1 = .ok (.aload_n 0, 1) := by decide +kernel
theorem dX0_isVoid_2 : decode cX0_isVoid 2 = .ok (.iload_n 1, 1) := by decide +kernel
theorem dX0_isVoid_3 : decode cX0_isVoid 3 = .ok (.invokevirtual 74, 3) := by decide +kernel
theorem dX0_isVoid_6 : decode cX0_isVoid 6 = .ok (.iconst 1, 1) := by decide +kernel
theorem dX0_isVoid_7 : decode cX0_isVoid 7 = .ok (.isub, 1) := by decide +kernel
theorem dX0_isVoid_8 : decode cX0_isVoid 8 = .ok (.invokevirtual 97, 3) := by decide +kernel
theorem dX0_isVoid_11 : decode cX0_isVoid 11 = .ok (.ifCond .ge 7, 3) := by decide +kernel
theorem dX0_isVoid_14 : decode cX0_isVoid 14 = .ok (.iconst 1, 1) := by decide +kernel
theorem dX0_isVoid_15 : decode cX0_isVoid 15 = .ok (.goto 4, 3) := by decide +kernel
theorem dX0_isVoid_18 : decode cX0_isVoid 18 = .ok (.iconst 0, 1) := by decide +kernel
theorem dX0_isVoid_19 : decode cX0_isVoid 19 = .ok (.ireturn, 1) := by decide +kernel
theorem dX0_isRecord_0 : decode cX0_isRecord 0 = .ok (.aload_n 0, 1) := by decide +kernel
theorem dX0_isRecord_1 : decode cX0_isRecord 1 = .ok (.getfield 17, 3) := by decide +kernel
theorem dX0_isRecord_4 : decode cX0_isRecord 4 = .ok (.istore_n 2, 1) := by decide +kernel
theorem dX0_isRecord_5 : decode cX0_isRecord 5 = .ok (.iconst 0, 1) := by decide +kernel
theorem dX0_isRecord_6 : decode cX0_isRecord 6 = .ok (.istore_n 3, 1) := by decide +kernel
theorem dX0_isRecord_7 : decode cX0_isRecord 7 = .ok (.iload_n 3, 1) := by decide +kernel
theorem dX0_isRecord_8 : decode cX0_isRecord 8 = .ok (.sipush 13107, 3) := by decide +kernel
theorem dX0_isRecord_11 : decode cX0_isRecord 11 = .ok (.if_icmp .ge 28, 3) := by decide +kernel
theorem dX0_isRecord_14 : decode cX0_isRecord 14 = .ok (.iload_n 2, 1) := by decide +kernel
theorem dX0_isRecord_15 : decode cX0_isRecord 15 = .ok (.iload_n 1, 1) := by decide +kernel
theorem dX0_isRecord_16 : decode cX0_isRecord 16 = .ok (.if_icmp .ge 23, 3) := by decide +kernel
theorem dX0_isRecord_19 : decode cX0_isRecord 19 = .ok (.iload_n 2, 1) := by decide +kernel
theorem dX0_isRecord_20 : decode cX0_isRecord 20 = .ok (.aload_n 0, 1) := by decide +kernel
theorem dX0_isRecord_21 : decode cX0_isRecord 21 = .ok (.getfield 24, 3) := by decide +kernel
theorem dX0_isRecord_24 : decode cX0_isRecord 24 = .ok (.if_icmp .ge 15, 3) := by decide +kernel
theorem dX0_isRecord_27 : decode cX0_isRecord 27 = .ok (.aload_n 0, 1) := by decide +kernel
theorem dX0_isRecord_28 : decode cX0_isRecord 28 = .ok (.iload_n 2, 1) := by decide +kernel
theorem dX0_isRecord_29 : decode cX0_isRecord 29 = .ok (.invokevirtual 74, 3) := by decide +kernel
theorem dX0_isRecord_32 : decode cX0_isRecord 32 = .ok (.istore_n 2, 1) := by decide +kernel
theorem dX0_isRecord_33 : decode cX0_isRecord 33 = .ok (.iinc 3 1, 3) := by decide +kernel
theorem dX0_isRecord_36 : decode cX0_isRecord 36 = .ok (.goto (-29), 3) := by decide +kernel
theorem dX0_isRecord_39 : decode cX0_isRecord 39 = .ok (.iload_n 2, 1) := by decide +kernel
theorem dX0_isRecord_40 : decode cX0_isRecord 40 = .ok (.iload_n 1, 1) := by decide +kernel
theorem dX0_isRecord_41 : decode cX0_isRecord 41 = .ok (.if_icmp .ne 23, 3) := by decide +kernel
theorem dX0_isRecord_44 : decode cX0_isRecord 44 = .ok (.iload_n 2, 1) := by decide +kernel
theorem dX0_isRecord_45 : decode cX0_isRecord 45 = .ok (.aload_n 0, 1) := by decide +kernel
theorem dX0_isRecord_46 : decode cX0_isRecord 46 = .ok (.getfield 24, 3) := by decide +kernel
theorem dX0_isRecord_49 : decode cX0_isRecord 49 = .ok (.if_icmp .ge 15, 3) := by decide +kernel
theorem dX0_isRecord_52 : decode cX0_isRecord 52 = .ok (.aload_n 0, 1) := by decide +kernel
theorem dX0_isRecord_53 : decode cX0_isRecord 53 = .ok (.iload_n 2, 1) := by decide +kernel
theorem dX0_isRecord_54 : decode cX0_isRecord 54 = .ok (.invokevirtual 139, 3) := by decide +kernel
theorem dX0_isRecord_57 : decode cX0_isRecord 57 = .ok (.ifCond .ne 7, 3) := by decide +kernel
theorem dX0_isRecord_60 : decode cX0_isRecord 60 = .ok (.iconst 1, 1) := by decide +kernel
theorem dX0_isRecord_61 : decode cX0_isRecord 61 = .ok (.goto 4, 3) := by decide +kernel
theorem dX0_isRecord_64 : decode cX0_isRecord 64 = .ok (.iconst 0, 1) := by decide +kernel
theorem dX0_isRecord_65 : decode cX0_isRecord 65 = .ok (.ireturn, 1) := by decide +kernel
theorem dX0_firstRecordFrom_0 : decode cX0_firstRecordFrom 0 = .ok (.iload_n 1, 1) := by decide +kernel
theorem dX0_firstRecordFrom_1 : decode cX0_firstRecordFrom 1 = .ok (.istore_n 2, 1) := by decide +kernel
theorem dX0_firstRecordFrom_2 : decode cX0_firstRecordFrom 2 = .ok (.iconst 0, 1) := by decide +kernel
theorem dX0_firstRecordFrom_3 : decode cX0_firstRecordFrom 3 = .ok (.istore_n 3, 1) := by decide +kernel
theorem dX0_firstRecordFrom_4 : decode cX0_firstRecordFrom 4 = .ok (.iload_n 3, 1) := by decide +kernel
theorem dX0_firstRecordFrom_5 : decode cX0_firstRecordFrom 5 = .ok (.sipush 13107, 3) := by decide +kernel
theorem dX0_firstRecordFrom_8 : decode cX0_firstRecordFrom 8 = .ok (.if_icmp .ge 33, 3) := by decide +kernel
theorem dX0_firstRecordFrom_11 : decode cX0_firstRecordFrom 11 = .ok (.iload_n 2, 1) := by decide +kernel
theorem dX0_firstRecordFrom_12 : decode cX0_firstRecordFrom 12 = .ok (.aload_n 0, 1) := by decide +kernel
theorem dX0_firstRecordFrom_13 : decode cX0_firstRecordFrom 13 = .ok (.getfield 24, 3) := by decide +kernel
theorem dX0_firstRecordFrom_16 : decode cX0_firstRecordFrom 16 = .ok (.if_icmp .ge 25, 3) := by decide +kernel
theorem dX0_firstRecordFrom_19 : decode cX0_firstRecordFrom 19 = .ok (.aload_n 0, 1) := by decide +kernel
theorem dX0_firstRecordFrom_20 : decode cX0_firstRecordFrom 20 = .ok (.iload_n 2, 1) := by decide +kernel
theorem dX0_firstRecordFrom_21 : decode cX0_firstRecordFrom 21 = .ok (.invokevirtual 139, 3) := by decide +kernel
theorem dX0_firstRecordFrom_24 : decode cX0_firstRecordFrom 24 = .ok (.ifCond .ne 5, 3) := by decide +kernel
theorem dX0_firstRecordFrom_27 : decode cX0_firstRecordFrom 27 = .ok (.iload_n 2, 1) := by decide +kernel
theorem dX0_firstRecordFrom_28 : decode cX0_firstRecordFrom 28 = .ok (.ireturn, 1) := by decide +kernel
theorem dX0_firstRecordFrom_29 : decode cX0_firstRecordFrom 29 = .ok (.aload_n 0, 1) := by decide +kernel
theorem dX0_firstRecordFrom_30 : decode cX0_firstRecordFrom 30 = .ok (.iload_n 2, 1) := by decide +kernel
theorem dX0_firstRecordFrom_31 : decode cX0_firstRecordFrom 31 = .ok (.invokevirtual 74, 3) := by decide +kernel
theorem dX0_firstRecordFrom_34 : decode cX0_firstRecordFrom 34 = .ok (.istore_n 2, 1) := by decide +kernel
theorem dX0_firstRecordFrom_35 : decode cX0_firstRecordFrom 35 = .ok (.iinc 3 1, 3) := by decide +kernel
theorem dX0_firstRecordFrom_38 : decode cX0_firstRecordFrom 38 = .ok (.goto (-34), 3) := by decide +kernel
theorem dX0_firstRecordFrom_41 : decode cX0_firstRecordFrom 41 = .ok (.iconst (-1), 1) := by decide +kernel
theorem dX0_firstRecordFrom_42 : decode cX0_firstRecordFrom 42 = .ok (.ireturn, 1) := by decide +kernel
theorem dX0_lastRecordBefore_0 : decode cX0_lastRecordBefore 0 = .ok (.iload_n 1, 1) := by decide +kernel
theorem dX0_lastRecordBefore_1 : decode cX0_lastRecordBefore 1 = .ok (.istore_n 2, 1) := by decide +kernel
theorem dX0_lastRecordBefore_2 : decode cX0_lastRecordBefore 2 = .ok (.iconst 0, 1) := by decide +kernel
theorem dX0_lastRecordBefore_3 : decode cX0_lastRecordBefore 3 = .ok (.istore_n 3, 1) := by decide +kernel
theorem dX0_lastRecordBefore_4 : decode cX0_lastRecordBefore 4 = .ok (.iload_n 3, 1) := by decide +kernel
theorem dX0_lastRecordBefore_5 : decode cX0_lastRecordBefore 5 = .ok (.sipush 13107, 3) := by decide +kernel
theorem dX0_lastRecordBefore_8 : decode cX0_lastRecordBefore 8 = .ok (.if_icmp .ge 41, 3) := by decide +kernel
theorem dX0_lastRecordBefore_11 : decode cX0_lastRecordBefore 11 = .ok (.iload_n 2, 1) := by decide +kernel
theorem dX0_lastRecordBefore_12 : decode cX0_lastRecordBefore 12 = .ok (.aload_n 0, 1) := by decide +kernel
theorem dX0_lastRecordBefore_13 : decode cX0_lastRecordBefore 13 = .ok (.getfield 17, 3) := by decide +kernel
theorem dX0_lastRecordBefore_16 : decode cX0_lastRecordBefore 16 = .ok (.if_icmp .le 33, 3) := by decide +kernel
theorem dX0_lastRecordBefore_19 : decode cX0_lastRecordBefore 19 = .ok (.aload_n 0, 1) := by decide +kernel
theorem dX0_lastRecordBefore_20 : decode cX0_lastRecordBefore 20 = .ok (.iload_n 2, 1) := by decide +kernel
theorem dX0_lastRecordBefore_21 : decode cX0_lastRecordBefore 21 = .ok (.iconst 1, 1) := by decide +kernel
theorem dX0_lastRecordBefore_22 : decode cX0_lastRecordBefore 22 = .ok (.isub, 1) := by decide +kernel
theorem dX0_lastRecordBefore_23 : decode cX0_lastRecordBefore 23 = .ok (.invokevirtual 97, 3) := by decide +kernel
theorem dX0_lastRecordBefore_26 : decode cX0_lastRecordBefore 26 = .ok (.istore 4, 2) := by decide +kernel
theorem dX0_lastRecordBefore_28 : decode cX0_lastRecordBefore 28 = .ok (.iload_n 2, 1) := by decide +kernel
theorem dX0_lastRecordBefore_29 : decode cX0_lastRecordBefore 29 = .ok (.iload 4, 2) := by decide +kernel
theorem dX0_lastRecordBefore_31 : decode cX0_lastRecordBefore 31 = .ok (.invokestatic 142, 3) := by decide +kernel
theorem dX0_lastRecordBefore_34 : decode cX0_lastRecordBefore 34 = .ok (.isub, 1) := by decide +kernel
theorem dX0_lastRecordBefore_35 : decode cX0_lastRecordBefore 35 = .ok (.istore_n 2, 1) := by decide +kernel
theorem dX0_lastRecordBefore_36 : decode cX0_lastRecordBefore 36 = .ok (.iload 4, 2) := by decide +kernel
theorem dX0_lastRecordBefore_38 : decode cX0_lastRecordBefore 38 = .ok (.ifCond .le 5, 3) := by decide +kernel
theorem dX0_lastRecordBefore_41 : decode cX0_lastRecordBefore 41 = .ok (.iload_n 2, 1) := by decide +kernel
theorem dX0_lastRecordBefore_42 : decode cX0_lastRecordBefore 42 = .ok (.ireturn, 1) := by decide +kernel
theorem dX0_lastRecordBefore_43 : decode cX0_lastRecordBefore 43 = .ok (.iinc 3 1, 3) := by decide +kernel
theorem dX0_lastRecordBefore_46 : decode cX0_lastRecordBefore 46 = .ok (.goto (-42), 3) := by decide +kernel
theorem dX0_lastRecordBefore_49 : decode cX0_lastRecordBefore 49 = .ok (.iconst (-1), 1) := by decide +kernel
theorem dX0_lastRecordBefore_50 : decode cX0_lastRecordBefore 50 = .ok (.ireturn, 1) := by decide +kernel
theorem dX0_lastRecordOf_0 : decode cX0_lastRecordOf 0 = .ok (.aload_n 0, 1) := by decide +kernel
theorem dX0_lastRecordOf_1 : decode cX0_lastRecordOf 1 = .ok (.aload_n 0, 1) := by decide +kernel
theorem dX0_lastRecordOf_2 : decode cX0_lastRecordOf 2 = .ok (.getfield 24, 3) := by decide +kernel
theorem dX0_lastRecordOf_5 : decode cX0_lastRecordOf 5 = .ok (.invokevirtual 88, 3) := by decide +kernel
theorem dX0_lastRecordOf_8 : decode cX0_lastRecordOf 8 = .ok (.istore_n 2, 1) := by decide +kernel
theorem dX0_lastRecordOf_9 : decode cX0_lastRecordOf 9 = .ok (.iconst 0, 1) := by decide +kernel
theorem dX0_lastRecordOf_10 : decode cX0_lastRecordOf 10 = .ok (.istore_n 3, 1) := by decide +kernel
theorem dX0_lastRecordOf_11 : decode cX0_lastRecordOf 11 = .ok (.iload_n 3, 1) := by decide +kernel
theorem dX0_lastRecordOf_12 : decode cX0_lastRecordOf 12 = .ok (.sipush 13107, 3) := by decide +kernel
theorem dX0_lastRecordOf_15 : decode cX0_lastRecordOf 15 = .ok (.if_icmp .ge 31, 3) := by decide +kernel
theorem dX0_lastRecordOf_18 : decode cX0_lastRecordOf 18 = .ok (.iload_n 2, 1) := by decide +kernel
theorem dX0_lastRecordOf_19 : decode cX0_lastRecordOf 19 = .ok (.iconst (-1), 1) := by decide +kernel
theorem dX0_lastRecordOf_20 : decode cX0_lastRecordOf 20 = .ok (.if_icmp .eq 26, 3) := by decide +kernel
theorem dX0_lastRecordOf_23 : decode cX0_lastRecordOf 23 = .ok (.aload_n 0, 1) := by decide +kernel
theorem dX0_lastRecordOf_24 : decode cX0_lastRecordOf 24 = .ok (.iload_n 2, 1) := by decide +kernel
theorem dX0_lastRecordOf_25 : decode cX0_lastRecordOf 25 = .ok (.invokevirtual 94, 3) := by decide +kernel
theorem dX0_lastRecordOf_28 : decode cX0_lastRecordOf 28 = .ok (.iload_n 1, 1) := by decide +kernel
theorem dX0_lastRecordOf_29 : decode cX0_lastRecordOf 29 = .ok (.if_icmp .ne 5, 3) := by decide +kernel
theorem dX0_lastRecordOf_32 : decode cX0_lastRecordOf 32 = .ok (.iload_n 2, 1) := by decide +kernel
theorem dX0_lastRecordOf_33 : decode cX0_lastRecordOf 33 = .ok (.ireturn, 1) := by decide +kernel
theorem dX0_lastRecordOf_34 : decode cX0_lastRecordOf 34 = .ok (.aload_n 0, 1) := by decide +kernel
theorem dX0_lastRecordOf_35 : decode cX0_lastRecordOf 35 = .ok (.iload_n 2, 1) := by decide +kernel
theorem dX0_lastRecordOf_36 : decode cX0_lastRecordOf 36 = .ok (.invokevirtual 88, 3) := by decide +kernel
theorem dX0_lastRecordOf_39 : decode cX0_lastRecordOf 39 = .ok (.istore_n 2, 1) := by decide +kernel
theorem dX0_lastRecordOf_40 : decode cX0_lastRecordOf 40 = .ok (.iinc 3 1, 3) := by decide +kernel
theorem dX0_lastRecordOf_43 : decode cX0_lastRecordOf 43 = .ok (.goto (-32), 3) := by decide +kernel
theorem dX0_lastRecordOf_46 : decode cX0_lastRecordOf 46 = .ok (.iconst (-1), 1) := by decide +kernel
theorem dX0_lastRecordOf_47 : decode cX0_lastRecordOf 47 = .ok (.ireturn, 1) := by decide +kernel
theorem dX0_kthOnTheWay_0 : decode cX0_kthOnTheWay 0 = .ok (.aload_n 0, 1) := by decide +kernel
theorem dX0_kthOnTheWay_1 : decode cX0_kthOnTheWay 1 = .ok (.iload_n 1, 1) := by decide +kernel
theorem dX0_kthOnTheWay_2 : decode cX0_kthOnTheWay 2 = .ok (.invokevirtual 61, 3) := by decide +kernel
theorem dX0_kthOnTheWay_5 : decode cX0_kthOnTheWay 5 = .ok (.istore 4, 2) := by decide +kernel
theorem dX0_kthOnTheWay_7 : decode cX0_kthOnTheWay 7 = .ok (.iload 4, 2) := by decide +kernel
theorem dX0_kthOnTheWay_9 : decode cX0_kthOnTheWay 9 = .ok (.istore 5, 2) := by decide +kernel
theorem dX0_kthOnTheWay_11 : decode cX0_kthOnTheWay 11 = .ok (.iload_n 3, 1) := by decide +kernel
theorem dX0_kthOnTheWay_12 : decode cX0_kthOnTheWay 12 = .ok (.istore 6, 2) := by decide +kernel
theorem dX0_kthOnTheWay_14 : decode cX0_kthOnTheWay 14 = .ok (.iconst 0, 1) := by decide +kernel
theorem dX0_kthOnTheWay_15 : decode cX0_kthOnTheWay 15 = .ok (.istore 7, 2) := by decide +kernel
theorem dX0_kthOnTheWay_17 : decode cX0_kthOnTheWay 17 = .ok (.iload 7, 2) := by decide +kernel
theorem dX0_kthOnTheWay_19 : decode cX0_kthOnTheWay 19 = .ok (.sipush 13107, 3) := by decide +kernel
theorem dX0_kthOnTheWay_22 : decode cX0_kthOnTheWay 22 = .ok (.if_icmp .ge 77, 3) := by decide +kernel
theorem dX0_kthOnTheWay_25 : decode cX0_kthOnTheWay 25 = .ok (.iload 5, 2) := by decide +kernel
theorem dX0_kthOnTheWay_27 : decode cX0_kthOnTheWay 27 = .ok (.iconst (-1), 1) := by decide +kernel
theorem dX0_kthOnTheWay_28 : decode cX0_kthOnTheWay 28 = .ok (.if_icmp .eq 71, 3) := by decide +kernel
theorem dX0_kthOnTheWay_31 : decode cX0_kthOnTheWay 31 = .ok (.iload 5, 2) := by decide +kernel
theorem dX0_kthOnTheWay_33 : decode cX0_kthOnTheWay 33 = .ok (.iload 4, 2) := by decide +kernel
theorem dX0_kthOnTheWay_35 : decode cX0_kthOnTheWay 35 = .ok (.if_icmp .lt 64, 3) := by decide +kernel
theorem dX0_kthOnTheWay_38 : decode cX0_kthOnTheWay 38 = .ok (.iload 5, 2) := by decide +kernel
theorem dX0_kthOnTheWay_40 : decode cX0_kthOnTheWay 40 = .ok (.iload 4, 2) := by decide +kernel
theorem dX0_kthOnTheWay_42 : decode cX0_kthOnTheWay 42 = .ok (.if_icmp .ne 33, 3) := by decide +kernel
theorem dX0_kthOnTheWay_45 : decode cX0_kthOnTheWay 45 = .ok (.aload_n 0, 1) := by decide +kernel
theorem dX0_kthOnTheWay_46 : decode cX0_kthOnTheWay 46 = .ok (.iload 5, 2) := by decide +kernel
theorem dX0_kthOnTheWay_48 : decode cX0_kthOnTheWay 48 = .ok (.iload_n 1, 1) := by decide +kernel
theorem dX0_kthOnTheWay_49 : decode cX0_kthOnTheWay 49 = .ok (.iload_n 2, 1) := by decide +kernel
theorem dX0_kthOnTheWay_50 : decode cX0_kthOnTheWay 50 = .ok (.invokevirtual 147, 3) := by decide +kernel
theorem dX0_kthOnTheWay_53 : decode cX0_kthOnTheWay 53 = .ok (.ifCond .eq 14, 3) := by decide +kernel
theorem dX0_kthOnTheWay_56 : decode cX0_kthOnTheWay 56 = .ok (.iload 6, 2) := by decide +kernel
theorem dX0_kthOnTheWay_58 : decode cX0_kthOnTheWay 58 = .ok (.ifCond .ne 6, 3) := by decide +kernel
theorem dX0_kthOnTheWay_61 : decode cX0_kthOnTheWay 61 = .ok (.iload 5, 2) := by decide +kernel
theorem dX0_kthOnTheWay_63 : decode cX0_kthOnTheWay 63 = .ok (.ireturn, 1) := by decide +kernel
theorem dX0_kthOnTheWay_64 : decode cX0_kthOnTheWay 64 = .ok (.iinc 6 (-1), 3) := by decide +kernel
theorem dX0_kthOnTheWay_67 : decode cX0_kthOnTheWay 67 = .ok (.aload_n 0, 1) := by decide +kernel
theorem dX0_kthOnTheWay_68 : decode cX0_kthOnTheWay 68 = .ok (.iload 5, 2) := by decide +kernel
theorem dX0_kthOnTheWay_70 : decode cX0_kthOnTheWay 70 = .ok (.invokevirtual 151, 3) := by decide +kernel
theorem dX0_kthOnTheWay_73 : decode cX0_kthOnTheWay 73 = .ok (.istore 4, 2) := by decide +kernel
theorem dX0_kthOnTheWay_75 : decode cX0_kthOnTheWay 75 = .ok (.iload 4, 2) := by decide +kernel
theorem dX0_kthOnTheWay_77 : decode cX0_kthOnTheWay 77 = .ok (.iconst (-1), 1) := by decide +kernel
theorem dX0_kthOnTheWay_78 : decode cX0_kthOnTheWay 78 = .ok (.if_icmp .ne 7, 3) := by decide +kernel
theorem dX0_kthOnTheWay_81 : decode cX0_kthOnTheWay 81 = .ok (.iconst (-1), 1) := by decide +kernel
theorem dX0_kthOnTheWay_82 : decode cX0_kthOnTheWay 82 = .ok (.goto 9, 3) := by decide +kernel
theorem dX0_kthOnTheWay_85 : decode cX0_kthOnTheWay 85 = .ok (.aload_n 0, 1) := by decide +kernel
theorem dX0_kthOnTheWay_86 : decode cX0_kthOnTheWay 86 = .ok (.iload 5, 2) := by decide +kernel
theorem dX0_kthOnTheWay_88 : decode cX0_kthOnTheWay 88 = .ok (.invokevirtual 88, 3) := by decide +kernel
theorem dX0_kthOnTheWay_91 : decode cX0_kthOnTheWay 91 = .ok (.istore 5, 2) := by decide +kernel
theorem dX0_kthOnTheWay_93 : decode cX0_kthOnTheWay 93 = .ok (.iinc 7 1, 3) := by decide +kernel
theorem dX0_kthOnTheWay_96 : decode cX0_kthOnTheWay 96 = .ok (.goto (-79), 3) := by decide +kernel
theorem dX0_kthOnTheWay_99 : decode cX0_kthOnTheWay 99 = .ok (.iconst (-1), 1) := by decide +kernel
theorem dX0_kthOnTheWay_100 : decode cX0_kthOnTheWay 100 = .ok (.ireturn, 1) := by decide +kernel
theorem dX0_isAskedFor_0 : decode cX0_isAskedFor 0 = .ok (.aload_n 0, 1) := by decide +kernel
theorem dX0_isAskedFor_1 : decode cX0_isAskedFor 1 = .ok (.iload_n 1, 1) := by decide +kernel
theorem dX0_isAskedFor_2 : decode cX0_isAskedFor 2 = .ok (.invokevirtual 94, 3) := by decide +kernel
theorem dX0_isAskedFor_5 : decode cX0_isAskedFor 5 = .ok (.iload_n 2, 1) := by decide +kernel
theorem dX0_isAskedFor_6 : decode cX0_isAskedFor 6 = .ok (.if_icmp .ne 20, 3) := by decide +kernel
theorem dX0_isAskedFor_9 : decode cX0_isAskedFor 9 = .ok (.iload_n 3, 1) := by decide +kernel
theorem dX0_isAskedFor_10 : decode cX0_isAskedFor 10 = .ok (.aload_n 0, 1) := by decide +kernel
theorem dX0_isAskedFor_11 : decode cX0_isAskedFor 11 = .ok (.iload_n 1, 1) := by decide +kernel
theorem dX0_isAskedFor_12 : decode cX0_isAskedFor 12 = .ok (.invokevirtual 91, 3) := by decide +kernel
theorem dX0_isAskedFor_15 : decode cX0_isAskedFor 15 = .ok (.iushr, 1) := by decide +kernel
theorem dX0_isAskedFor_16 : decode cX0_isAskedFor 16 = .ok (.iconst 1, 1) := by decide +kernel
theorem dX0_isAskedFor_17 : decode cX0_isAskedFor 17 = .ok (.iand, 1) := by decide +kernel
theorem dX0_isAskedFor_18 : decode cX0_isAskedFor 18 = .ok (.iconst 1, 1) := by decide +kernel
theorem dX0_isAskedFor_19 : decode cX0_isAskedFor 19 = .ok (.if_icmp .ne 7, 3) := by decide +kernel
theorem dX0_isAskedFor_22 : decode cX0_isAskedFor 22 = .ok (.iconst 1, 1) := by decide +kernel
theorem dX0_isAskedFor_23 : decode cX0_isAskedFor 23 = .ok (.goto 4, 3) := by decide +kernel
theorem dX0_isAskedFor_26 : decode cX0_isAskedFor 26 = .ok (.iconst 0, 1) := by decide +kernel
theorem dX0_isAskedFor_27 : decode cX0_isAskedFor 27 = .ok (.ireturn, 1) := by decide +kernel
theorem dX0_stopBehind_0 : decode cX0_stopBehind 0 = .ok (.aload_n 0, 1) := by decide +kernel
theorem dX0_stopBehind_1 : decode cX0_stopBehind 1 = .ok (.iload_n 1, 1) := by decide +kernel
theorem dX0_stopBehind_2 : decode cX0_stopBehind 2 = .ok (.iconst 3, 1) := by decide +kernel
theorem dX0_stopBehind_3 : decode cX0_stopBehind 3 = .ok (.iadd, 1) := by decide +kernel
theorem dX0_stopBehind_4 : decode cX0_stopBehind 4 = .ok (.invokevirtual 97, 3) := by decide +kernel
theorem dX0_stopBehind_7 : decode cX0_stopBehind 7 = .ok (.istore_n 2, 1) := by decide +kernel
theorem dX0_stopBehind_8 : decode cX0_stopBehind 8 = .ok (.iload_n 2, 1) := by decide +kernel
theorem dX0_stopBehind_9 : decode cX0_stopBehind 9 = .ok (.iconst (-1), 1) := by decide +kernel
theorem dX0_stopBehind_10 : decode cX0_stopBehind 10 = .ok (.if_icmp .eq 7, 3) := by decide +kernel
theorem dX0_stopBehind_13 : decode cX0_stopBehind 13 = .ok (.iload_n 2, 1) := by decide +kernel
theorem dX0_stopBehind_14 : decode cX0_stopBehind 14 = .ok (.goto 10, 3) := by decide +kernel
theorem dX0_stopBehind_17 : decode cX0_stopBehind 17 = .ok (.aload_n 0, 1) := by decide +kernel
theorem dX0_stopBehind_18 : decode cX0_stopBehind 18 = .ok (.iload_n 1, 1) := by decide +kernel
theorem dX0_stopBehind_19 : decode cX0_stopBehind 19 = .ok (.iconst 2, 1) := by decide +kernel
theorem dX0_stopBehind_20 : decode cX0_stopBehind 20 = .ok (.iadd, 1) := by decide +kernel
theorem dX0_stopBehind_21 : decode cX0_stopBehind 21 = .ok (.invokevirtual 97, 3) := by decide +kernel
theorem dX0_stopBehind_24 : decode cX0_stopBehind 24 = .ok (.ireturn, 1) := by decide +kernel
theorem dX0_writeUpTo_0 : decode cX0_writeUpTo 0 = .ok (.iload_n 1, 1) := by decide +kernel
theorem dX0_writeUpTo_1 : decode cX0_writeUpTo 1 = .ok (.aload_n 0, 1) := by decide +kernel
theorem dX0_writeUpTo_2 : decode cX0_writeUpTo 2 = .ok (.getfield 21, 3) := by decide +kernel
theorem dX0_writeUpTo_5 : decode cX0_writeUpTo 5 = .ok (.isub, 1) := by decide +kernel
theorem dX0_writeUpTo_6 : decode cX0_writeUpTo 6 = .ok (.iconst 0, 1) := by decide +kernel
theorem dX0_writeUpTo_7 : decode cX0_writeUpTo 7 = .ok (.invokestatic 154, 3) := by decide +kernel
theorem dX0_writeUpTo_10 : decode cX0_writeUpTo 10 = .ok (.istore_n 2, 1) := by decide +kernel
theorem dX0_writeUpTo_11 : decode cX0_writeUpTo 11 = .ok (.aload_n 0, 1) := by decide +kernel
theorem dX0_writeUpTo_12 : decode cX0_writeUpTo 12 = .ok (.getfield 27, 3) := by decide +kernel
theorem dX0_writeUpTo_15 : decode cX0_writeUpTo 15 = .ok (.iconst (-1), 1) := by decide +kernel
theorem dX0_writeUpTo_16 : decode cX0_writeUpTo 16 = .ok (.if_icmp .ne 7, 3) := by decide +kernel
theorem dX0_writeUpTo_19 : decode cX0_writeUpTo 19 = .ok (.iload_n 2, 1) := by decide +kernel
theorem dX0_writeUpTo_20 : decode cX0_writeUpTo 20 = .ok (.goto 11, 3) := by decide +kernel
theorem dX0_writeUpTo_23 : decode cX0_writeUpTo 23 = .ok (.iload_n 2, 1) := by decide +kernel
theorem dX0_writeUpTo_24 : decode cX0_writeUpTo 24 = .ok (.aload_n 0, 1) := by decide +kernel
theorem dX0_writeUpTo_25 : decode cX0_writeUpTo 25 = .ok (.getfield 27, 3) := by decide +kernel
theorem dX0_writeUpTo_28 : decode cX0_writeUpTo 28 = .ok (.invokestatic 158, 3) := by decide +kernel
theorem dX0_writeUpTo_31 : decode cX0_writeUpTo 31 = .ok (.istore_n 3, 1) := by decide +kernel
theorem dX0_writeUpTo_32 : decode cX0_writeUpTo 32 = .ok (.aload_n 0, 1) := by decide +kernel
theorem dX0_writeUpTo_33 : decode cX0_writeUpTo 33 = .ok (.dup, 1) := by decide +kernel
theorem dX0_writeUpTo_34 : decode cX0_writeUpTo 34 = .ok (.getfield 21, 3) := by decide +kernel
theorem dX0_writeUpTo_37 : decode cX0_writeUpTo 37 = .ok (.iload_n 3, 1) := by decide +kernel
theorem dX0_writeUpTo_38 : decode cX0_writeUpTo 38 = .ok (.iadd, 1) := by decide +kernel
theorem dX0_writeUpTo_39 : decode cX0_writeUpTo 39 = .ok (.putfield 21, 3) := by decide +kernel
theorem dX0_writeUpTo_42 : decode cX0_writeUpTo 42 = .ok (.iload_n 3, 1) := by decide +kernel
theorem dX0_writeUpTo_43 : decode cX0_writeUpTo 43 = .ok (.iload_n 2, 1) := by decide +kernel
theorem dX0_writeUpTo_44 : decode cX0_writeUpTo 44 = .ok (.if_icmp .ge 9, 3) := by decide +kernel
theorem dX0_writeUpTo_47 : decode cX0_writeUpTo 47 = .ok (.aload_n 0, 1) := by decide +kernel
theorem dX0_writeUpTo_48 : decode cX0_writeUpTo 48 = .ok (.invokevirtual 117, 3) := by decide +kernel
theorem dX0_writeUpTo_51 : decode cX0_writeUpTo 51 = .ok (.iconst (-1), 1) := by decide +kernel
theorem dX0_writeUpTo_52 : decode cX0_writeUpTo 52 = .ok (.ireturn, 1) := by decide +kernel
theorem dX0_writeUpTo_53 : decode cX0_writeUpTo 53 = .ok (.aload_n 0, 1) := by decide +kernel
theorem dX0_writeUpTo_54 : decode cX0_writeUpTo 54 = .ok (.getfield 27, 3) := by decide +kernel
theorem dX0_writeUpTo_57 : decode cX0_writeUpTo 57 = .ok (.iconst (-1), 1) := by decide +kernel
theorem dX0_writeUpTo_58 : decode cX0_writeUpTo 58 = .ok (.if_icmp .eq 13, 3) := by decide +kernel
theorem dX0_writeUpTo_61 : decode cX0_writeUpTo 61 = .ok (.aload_n 0, 1) := by decide +kernel
theorem dX0_writeUpTo_62 : decode cX0_writeUpTo 62 = .ok (.dup, 1) := by decide +kernel
theorem dX0_writeUpTo_63 : decode cX0_writeUpTo 63 = .ok (.getfield 27, 3) := by decide +kernel
theorem dX0_writeUpTo_66 : decode cX0_writeUpTo 66 = .ok (.iload_n 3, 1) := by decide +kernel
theorem dX0_writeUpTo_67 : decode cX0_writeUpTo 67 = .ok (.isub, 1) := by decide +kernel
theorem dX0_writeUpTo_68 : decode cX0_writeUpTo 68 = .ok (.putfield 27, 3) := by decide +kernel
theorem dX0_writeUpTo_71 : decode cX0_writeUpTo 71 = .ok (.iload_n 3, 1) := by decide +kernel
theorem dX0_writeUpTo_72 : decode cX0_writeUpTo 72 = .ok (.ireturn, 1) := by decide +kernel
theorem dX0_losePower_0 : decode cX0_losePower 0 = .ok (.aload_n 0, 1) := by decide +kernel
theorem dX0_losePower_1 : decode cX0_losePower 1 = .ok (.aload_n 0, 1) := by decide +kernel
theorem dX0_losePower_2 : decode cX0_losePower 2 = .ok (.getfield 21, 3) := by decide +kernel
theorem dX0_losePower_5 : decode cX0_losePower 5 = .ok (.putfield 24, 3) := by decide +kernel
theorem dX0_losePower_8 : decode cX0_losePower 8 = .ok (.aload_n 0, 1) := by decide +kernel
theorem dX0_losePower_9 : decode cX0_losePower 9 = .ok (.iconst (-1), 1) := by decide +kernel
theorem dX0_losePower_10 : decode cX0_losePower 10 = .ok (.putfield 27, 3) := by decide +kernel
theorem dX0_losePower_13 : decode cX0_losePower 13 = .ok (.aload_n 0, 1) := by decide +kernel
theorem dX0_losePower_14 : decode cX0_losePower 14 = .ok (.iconst 0, 1) := by decide +kernel
theorem dX0_losePower_15 : decode cX0_losePower 15 = .ok (.putfield 30, 3) := by decide +kernel
theorem dX0_losePower_18 : decode cX0_losePower 18 = .ok (.aload_n 0, 1) := by decide +kernel
theorem dX0_losePower_19 : decode cX0_losePower 19 = .ok (.iconst 0, 1) := by decide +kernel
theorem dX0_losePower_20 : decode cX0_losePower 20 = .ok (.iconst 0, 1) := by decide +kernel
theorem dX0_losePower_21 : decode cX0_losePower 21 = .ok (.invokevirtual 44, 3) := by decide +kernel
theorem dX0_losePower_24 : decode cX0_losePower 24 = .ok (.return_, 1) := by decide +kernel
theorem dX0_addVoidRest_0 : decode cX0_addVoidRest 0 = .ok (.aload_n 0, 1) := by decide +kernel
theorem dX0_addVoidRest_1 : decode cX0_addVoidRest 1 = .ok (.getfield 17, 3) := by decide +kernel
theorem dX0_addVoidRest_4 : decode cX0_addVoidRest 4 = .ok (.istore_n 1, 1) := by decide +kernel
theorem dX0_addVoidRest_5 : decode cX0_addVoidRest 5 = .ok (.iconst 0, 1) := by decide +kernel
theorem dX0_addVoidRest_6 : decode cX0_addVoidRest 6 = .ok (.istore_n 2, 1) := by decide +kernel
theorem dX0_addVoidRest_7 : decode cX0_addVoidRest 7 = .ok (.iload_n 2, 1) := by decide +kernel
theorem dX0_addVoidRest_8 : decode cX0_addVoidRest 8 = .ok (.sipush 13107, 3) := by decide +kernel
theorem dX0_addVoidRest_11 : decode cX0_addVoidRest 11 = .ok (.if_icmp .ge 35, 3) := by decide +kernel
theorem dX0_addVoidRest_14 : decode cX0_addVoidRest 14 = .ok (.iload_n 1, 1) := by decide +kernel
theorem dX0_addVoidRest_15 : decode cX0_addVoidRest 15 = .ok (.aload_n 0, 1) := by decide +kernel
theorem dX0_addVoidRest_16 : decode cX0_addVoidRest 16 = .ok (.getfield 24, 3) := by decide +kernel
theorem dX0_addVoidRest_19 : decode cX0_addVoidRest 19 = .ok (.if_icmp .ge 27, 3) := by decide +kernel
theorem dX0_addVoidRest_22 : decode cX0_addVoidRest 22 = .ok (.aload_n 0, 1) := by decide +kernel
theorem dX0_addVoidRest_23 : decode cX0_addVoidRest 23 = .ok (.iload_n 1, 1) := by decide +kernel
theorem dX0_addVoidRest_24 : decode cX0_addVoidRest 24 = .ok (.invokevirtual 74, 3) := by decide +kernel
theorem dX0_addVoidRest_27 : decode cX0_addVoidRest 27 = .ok (.aload_n 0, 1) := by decide +kernel
theorem dX0_addVoidRest_28 : decode cX0_addVoidRest 28 = .ok (.getfield 24, 3) := by decide +kernel
theorem dX0_addVoidRest_31 : decode cX0_addVoidRest 31 = .ok (.if_icmp .gt 15, 3) := by decide +kernel
theorem dX0_addVoidRest_34 : decode cX0_addVoidRest 34 = .ok (.aload_n 0, 1) := by decide +kernel
theorem dX0_addVoidRest_35 : decode cX0_addVoidRest 35 = .ok (.iload_n 1, 1) := by decide +kernel
theorem dX0_addVoidRest_36 : decode cX0_addVoidRest 36 = .ok (.invokevirtual 74, 3) := by decide +kernel
theorem dX0_addVoidRest_39 : decode cX0_addVoidRest 39 = .ok (.istore_n 1, 1) := by decide +kernel
theorem dX0_addVoidRest_40 : decode cX0_addVoidRest 40 = .ok (.iinc 2 1, 3) := by decide +kernel
theorem dX0_addVoidRest_43 : decode cX0_addVoidRest 43 = .ok (.goto (-36), 3) := by decide +kernel
theorem dX0_addVoidRest_46 : decode cX0_addVoidRest 46 = .ok (.iload_n 1, 1) := by decide +kernel
theorem dX0_addVoidRest_47 : decode cX0_addVoidRest 47 = .ok (.aload_n 0, 1) := by decide +kernel
theorem dX0_addVoidRest_48 : decode cX0_addVoidRest 48 = .ok (.getfield 24, 3) := by decide +kernel
theorem dX0_addVoidRest_51 : decode cX0_addVoidRest 51 = .ok (.if_icmp .lt 4, 3) := by decide +kernel
theorem dX0_addVoidRest_54 : decode cX0_addVoidRest 54 = .ok (.return_, 1) := by decide +kernel
theorem dX0_addVoidRest_55 : decode cX0_addVoidRest 55 = .ok (.aload_n 0, 1) := by decide +kernel
theorem dX0_addVoidRest_56 : decode cX0_addVoidRest 56 = .ok (.iload_n 1, 1) := by decide +kernel
theorem dX0_addVoidRest_57 : decode cX0_addVoidRest 57 = .ok (.invokevirtual 97, 3) := by decide +kernel
theorem dX0_addVoidRest_60 : decode cX0_addVoidRest 60 = .ok (.istore_n 2, 1) := by decide +kernel
theorem dX0_addVoidRest_61 : decode cX0_addVoidRest 61 = .ok (.aload_n 0, 1) := by decide +kernel
theorem dX0_addVoidRest_62 : decode cX0_addVoidRest 62 = .ok (.iload_n 1, 1) := by decide +kernel
theorem dX0_addVoidRest_63 : decode cX0_addVoidRest 63 = .ok (.invokevirtual 74, 3) := by decide +kernel
theorem dX0_addVoidRest_66 : decode cX0_addVoidRest 66 = .ok (.aload_n 0, 1) := by decide +kernel
theorem dX0_addVoidRest_67 : decode cX0_addVoidRest 67 = .ok (.getfield 24, 3) := by decide +kernel
theorem dX0_addVoidRest_70 : decode cX0_addVoidRest 70 = .ok (.isub, 1) := by decide +kernel
theorem dX0_addVoidRest_71 : decode cX0_addVoidRest 71 = .ok (.istore_n 3, 1) := by decide +kernel
theorem dX0_addVoidRest_72 : decode cX0_addVoidRest 72 = .ok (.iconst 1, 1) := by decide +kernel
theorem dX0_addVoidRest_73 : decode cX0_addVoidRest 73 = .ok (.istore 4, 2) := by decide +kernel
theorem dX0_addVoidRest_75 : decode cX0_addVoidRest 75 = .ok (.iload 4, 2) := by decide +kernel
theorem dX0_addVoidRest_77 : decode cX0_addVoidRest 77 = .ok (.iload_n 3, 1) := by decide +kernel
theorem dX0_addVoidRest_78 : decode cX0_addVoidRest 78 = .ok (.if_icmp .ge 22, 3) := by decide +kernel
theorem dX0_addVoidRest_81 : decode cX0_addVoidRest 81 = .ok (.iload 4, 2) := by decide +kernel
theorem dX0_addVoidRest_83 : decode cX0_addVoidRest 83 = .ok (.sipush 205, 3) := by decide +kernel
theorem dX0_addVoidRest_86 : decode cX0_addVoidRest 86 = .ok (.if_icmp .ge 14, 3) := by decide +kernel
theorem dX0_addVoidRest_89 : decode cX0_addVoidRest 89 = .ok (.aload_n 0, 1) := by decide +kernel
theorem dX0_addVoidRest_90 : decode cX0_addVoidRest 90 = .ok (.iconst 0, 1) := by decide +kernel
theorem dX0_addVoidRest_91 : decode cX0_addVoidRest 91 = .ok (.invokevirtual 65, 3) := by decide +kernel
theorem dX0_addVoidRest_94 : decode cX0_addVoidRest 94 = .ok (.iinc 4 1, 3) := by decide +kernel
theorem dX0_addVoidRest_97 : decode cX0_addVoidRest 97 = .ok (.goto (-22), 3) := by decide +kernel
theorem dX0_addVoidRest_100 : decode cX0_addVoidRest 100 = .ok (.aload_n 0, 1) := by decide +kernel
theorem dX0_addVoidRest_101 : decode cX0_addVoidRest 101 = .ok (.iload_n 2, 1) := by decide +kernel
theorem dX0_addVoidRest_102 : decode cX0_addVoidRest 102 = .ok (.ineg, 1) := by decide +kernel
theorem dX0_addVoidRest_103 : decode cX0_addVoidRest 103 = .ok (.invokevirtual 65, 3) := by decide +kernel
theorem dX0_addVoidRest_106 : decode cX0_addVoidRest 106 = .ok (.return_, 1) := by decide +kernel
end
section
theorem kw_0 : Cond.fieldLink RX0 10 "LogBook" "ring" "[I" ∈ bigW := big_in (List.mem_of_getElem? (i := 52) (by decide +kernel)) rfl
theorem kw_1 : Cond.constant RX0 138 65535 ∈ bigW := big_in (List.mem_of_getElem? (i := 239) (by decide +kernel)) rfl
theorem kw_2 : Cond.fieldLink RX0 17 "LogBook" "firstPlace" "I" ∈ bigW := big_in (List.mem_of_getElem? (i := 54) (by decide +kernel)) rfl
theorem kw_3 : Cond.methodLink RX0 97 yX0_wordAt ∈ bigW := big_in (List.mem_of_getElem? (i := 235) (by decide +kernel)) rfl
theorem kw_4 : Cond.instanceMethod yX0_wordAt ∈ bigW := big_in (List.mem_of_getElem? (i := 237) (by decide +kernel)) rfl
theorem kw_5 : Cond.selects RX0 yX0_wordAt yX0_wordAt ∈ bigW := big_in (List.mem_of_getElem? (i := 7) (by decide +kernel)) rfl
theorem kw_6 : Cond.initialized RX0 ∈ bigW := big_in (List.mem_of_getElem? (i := 33) (by decide +kernel)) rfl
theorem kw_7 : Cond.code yX0_wordAt cX0_wordAt 2 (some .int) ∈ bigW := big_in (List.mem_of_getElem? (i := 238) (by decide +kernel)) rfl
theorem kw_8 : Cond.methodLink RX0 142 Lib.Math.abs.name ∈ bigW := big_in (List.mem_of_getElem? (i := 240) (by decide +kernel)) rfl
theorem kw_9 : Cond.static Lib.Math.abs.name ∈ bigW := big_in (List.mem_of_getElem? (i := 241) (by decide +kernel)) rfl
theorem kw_10 : Cond.initialized "java/lang/Math" ∈ bigW := big_in (List.mem_of_getElem? (i := 41) (by decide +kernel)) rfl
theorem kw_11 : Cond.code Lib.Math.abs.name Lib.Math.abs.code 1 (some .int) ∈ bigW := big_in (List.mem_of_getElem? (i := 242) (by decide +kernel)) rfl
theorem kw_12 : Cond.fieldLink RX0 24 "LogBook" "endPlace" "I" ∈ bigW := big_in (List.mem_of_getElem? (i := 56) (by decide +kernel)) rfl
theorem kw_13 : Cond.methodLink RX0 88 yX0_lastRecordBefore ∈ bigW := big_in (List.mem_of_getElem? (i := 231) (by decide +kernel)) rfl
theorem kw_14 : Cond.instanceMethod yX0_lastRecordBefore ∈ bigW := big_in (List.mem_of_getElem? (i := 233) (by decide +kernel)) rfl
theorem kw_15 : Cond.selects RX0 yX0_lastRecordBefore yX0_lastRecordBefore ∈ bigW := big_in (List.mem_of_getElem? (i := 6) (by decide +kernel)) rfl
theorem kw_16 : Cond.code yX0_lastRecordBefore cX0_lastRecordBefore 5 (some .int) ∈ bigW := big_in (List.mem_of_getElem? (i := 234) (by decide +kernel)) rfl
theorem kw_17 : Cond.methodLink RX0 94 yX0_ownerAt ∈ bigW := big_in (List.mem_of_getElem? (i := 243) (by decide +kernel)) rfl
theorem kw_18 : Cond.instanceMethod yX0_ownerAt ∈ bigW := big_in (List.mem_of_getElem? (i := 245) (by decide +kernel)) rfl
theorem kw_19 : Cond.selects RX0 yX0_ownerAt yX0_ownerAt ∈ bigW := big_in (List.mem_of_getElem? (i := 8) (by decide +kernel)) rfl
theorem kw_20 : Cond.code yX0_ownerAt cX0_ownerAt 2 (some .int) ∈ bigW := big_in (List.mem_of_getElem? (i := 246) (by decide +kernel)) rfl
theorem kw_21 : Cond.methodLink RX0 74 yX0_behind ∈ bigW := big_in (List.mem_of_getElem? (i := 271) (by decide +kernel)) rfl
theorem kw_22 : Cond.instanceMethod yX0_behind ∈ bigW := big_in (List.mem_of_getElem? (i := 273) (by decide +kernel)) rfl
theorem kw_23 : Cond.selects RX0 yX0_behind yX0_behind ∈ bigW := big_in (List.mem_of_getElem? (i := 13) (by decide +kernel)) rfl
theorem kw_24 : Cond.code yX0_behind cX0_behind 2 (some .int) ∈ bigW := big_in (List.mem_of_getElem? (i := 274) (by decide +kernel)) rfl
theorem kw_25 : Cond.methodLink RX0 139 yX0_isVoid ∈ bigW := big_in (List.mem_of_getElem? (i := 275) (by decide +kernel)) rfl
theorem kw_26 : Cond.instanceMethod yX0_isVoid ∈ bigW := big_in (List.mem_of_getElem? (i := 277) (by decide +kernel)) rfl
theorem kw_27 : Cond.selects RX0 yX0_isVoid yX0_isVoid ∈ bigW := big_in (List.mem_of_getElem? (i := 14) (by decide +kernel)) rfl
theorem kw_28 : Cond.code yX0_isVoid cX0_isVoid 2 (some .boolean) ∈ bigW := big_in (List.mem_of_getElem? (i := 278) (by decide +kernel)) rfl
theorem kw_29 : Cond.methodLink RX0 91 yX0_kindAt ∈ bigW := big_in (List.mem_of_getElem? (i := 373) (by decide +kernel)) rfl
theorem kw_30 : Cond.instanceMethod yX0_kindAt ∈ bigW := big_in (List.mem_of_getElem? (i := 375) (by decide +kernel)) rfl
theorem kw_31 : Cond.selects RX0 yX0_kindAt yX0_kindAt ∈ bigW := big_in (List.mem_of_getElem? (i := 17) (by decide +kernel)) rfl
theorem kw_32 : Cond.code yX0_kindAt cX0_kindAt 2 (some .int) ∈ bigW := big_in (List.mem_of_getElem? (i := 376) (by decide +kernel)) rfl
theorem kw_33 : Cond.methodLink RX0 61 yX0_lastRecordOf ∈ bigW := big_in (List.mem_of_getElem? (i := 227) (by decide +kernel)) rfl
theorem kw_34 : Cond.instanceMethod yX0_lastRecordOf ∈ bigW := big_in (List.mem_of_getElem? (i := 229) (by decide +kernel)) rfl
theorem kw_35 : Cond.selects RX0 yX0_lastRecordOf yX0_lastRecordOf ∈ bigW := big_in (List.mem_of_getElem? (i := 5) (by decide +kernel)) rfl
theorem kw_36 : Cond.code yX0_lastRecordOf cX0_lastRecordOf 4 (some .int) ∈ bigW := big_in (List.mem_of_getElem? (i := 230) (by decide +kernel)) rfl
theorem kw_37 : Cond.methodLink RX0 147 yX0_isAskedFor ∈ bigW := big_in (List.mem_of_getElem? (i := 402) (by decide +kernel)) rfl
theorem kw_38 : Cond.instanceMethod yX0_isAskedFor ∈ bigW := big_in (List.mem_of_getElem? (i := 404) (by decide +kernel)) rfl
theorem kw_39 : Cond.selects RX0 yX0_isAskedFor yX0_isAskedFor ∈ bigW := big_in (List.mem_of_getElem? (i := 20) (by decide +kernel)) rfl
theorem kw_40 : Cond.code yX0_isAskedFor cX0_isAskedFor 4 (some .boolean) ∈ bigW := big_in (List.mem_of_getElem? (i := 405) (by decide +kernel)) rfl
theorem kw_41 : Cond.methodLink RX0 151 yX0_stopBehind ∈ bigW := big_in (List.mem_of_getElem? (i := 406) (by decide +kernel)) rfl
theorem kw_42 : Cond.instanceMethod yX0_stopBehind ∈ bigW := big_in (List.mem_of_getElem? (i := 408) (by decide +kernel)) rfl
theorem kw_43 : Cond.selects RX0 yX0_stopBehind yX0_stopBehind ∈ bigW := big_in (List.mem_of_getElem? (i := 21) (by decide +kernel)) rfl
theorem kw_44 : Cond.code yX0_stopBehind cX0_stopBehind 3 (some .int) ∈ bigW := big_in (List.mem_of_getElem? (i := 409) (by decide +kernel)) rfl
theorem kw_45 : Cond.fieldLink RX0 30 "LogBook" "opened" "Z" ∈ bigW := big_in (List.mem_of_getElem? (i := 58) (by decide +kernel)) rfl
theorem kw_46 : Cond.fieldLink RX0 14 "LogBook" "buffer" "[I" ∈ bigW := big_in (List.mem_of_getElem? (i := 53) (by decide +kernel)) rfl
theorem kw_47 : Cond.methodLink RX0 65 yX0_addWord ∈ bigW := big_in (List.mem_of_getElem? (i := 247) (by decide +kernel)) rfl
theorem kw_48 : Cond.instanceMethod yX0_addWord ∈ bigW := big_in (List.mem_of_getElem? (i := 249) (by decide +kernel)) rfl
theorem kw_49 : Cond.selects RX0 yX0_addWord yX0_addWord ∈ bigW := big_in (List.mem_of_getElem? (i := 9) (by decide +kernel)) rfl
theorem kw_50 : Cond.code yX0_addWord cX0_addWord 2 none ∈ bigW := big_in (List.mem_of_getElem? (i := 250) (by decide +kernel)) rfl
theorem kw_51 : Cond.fieldLink RX0 21 "LogBook" "forcedPlace" "I" ∈ bigW := big_in (List.mem_of_getElem? (i := 55) (by decide +kernel)) rfl
theorem kw_52 : Cond.fieldLink RX0 27 "LogBook" "wordsToFailure" "I" ∈ bigW := big_in (List.mem_of_getElem? (i := 57) (by decide +kernel)) rfl
theorem kw_53 : Cond.methodLink RX0 44 yX0_fillBuffer ∈ bigW := big_in (List.mem_of_getElem? (i := 83) (by decide +kernel)) rfl
theorem kw_54 : Cond.instanceMethod yX0_fillBuffer ∈ bigW := big_in (List.mem_of_getElem? (i := 85) (by decide +kernel)) rfl
theorem kw_55 : Cond.selects RX0 yX0_fillBuffer yX0_fillBuffer ∈ bigW := big_in (List.mem_of_getElem? (i := 1) (by decide +kernel)) rfl
theorem kw_56 : Cond.code yX0_fillBuffer cX0_fillBuffer 4 none ∈ bigW := big_in (List.mem_of_getElem? (i := 86) (by decide +kernel)) rfl
theorem kw_57 : Cond.methodLink RX0 154 Lib.Math.max.name ∈ bigW := big_in (List.mem_of_getElem? (i := 299) (by decide +kernel)) rfl
theorem kw_58 : Cond.static Lib.Math.max.name ∈ bigW := big_in (List.mem_of_getElem? (i := 300) (by decide +kernel)) rfl
theorem kw_59 : Cond.code Lib.Math.max.name Lib.Math.max.code 2 (some .int) ∈ bigW := big_in (List.mem_of_getElem? (i := 301) (by decide +kernel)) rfl
theorem kw_60 : Cond.methodLink RX0 158 Lib.Math.min.name ∈ bigW := big_in (List.mem_of_getElem? (i := 302) (by decide +kernel)) rfl
theorem kw_61 : Cond.static Lib.Math.min.name ∈ bigW := big_in (List.mem_of_getElem? (i := 303) (by decide +kernel)) rfl
theorem kw_62 : Cond.code Lib.Math.min.name Lib.Math.min.code 2 (some .int) ∈ bigW := big_in (List.mem_of_getElem? (i := 304) (by decide +kernel)) rfl
theorem kw_63 : Cond.methodLink RX0 117 yX0_losePower ∈ bigW := big_in (List.mem_of_getElem? (i := 79) (by decide +kernel)) rfl
theorem kw_64 : Cond.instanceMethod yX0_losePower ∈ bigW := big_in (List.mem_of_getElem? (i := 81) (by decide +kernel)) rfl
theorem kw_65 : Cond.selects RX0 yX0_losePower yX0_losePower ∈ bigW := big_in (List.mem_of_getElem? (i := 0) (by decide +kernel)) rfl
theorem kw_66 : Cond.code yX0_losePower cX0_losePower 1 none ∈ bigW := big_in (List.mem_of_getElem? (i := 82) (by decide +kernel)) rfl
theorem kw_67 : Cond.classLink RX0 80 "java/lang/IllegalStateException" ∈ bigW := big_in (List.mem_of_getElem? (i := 104) (by decide +kernel)) rfl
theorem kw_68 : Cond.initialized "java/lang/IllegalStateException" ∈ bigW := big_in (List.mem_of_getElem? (i := 38) (by decide +kernel)) rfl
theorem kw_69 : Cond.classLink RX0 52 "java/lang/IllegalArgumentException" ∈ bigW := big_in (List.mem_of_getElem? (i := 208) (by decide +kernel)) rfl
theorem kw_70 : Cond.initialized "java/lang/IllegalArgumentException" ∈ bigW := big_in (List.mem_of_getElem? (i := 40) (by decide +kernel)) rfl
theorem kw_71 : Cond.methodLink RX0 129 yX0_isRecord ∈ bigW := big_in (List.mem_of_getElem? (i := 267) (by decide +kernel)) rfl
theorem kw_72 : Cond.instanceMethod yX0_isRecord ∈ bigW := big_in (List.mem_of_getElem? (i := 269) (by decide +kernel)) rfl
theorem kw_73 : Cond.selects RX0 yX0_isRecord yX0_isRecord ∈ bigW := big_in (List.mem_of_getElem? (i := 12) (by decide +kernel)) rfl
theorem kw_74 : Cond.code yX0_isRecord cX0_isRecord 4 (some .boolean) ∈ bigW := big_in (List.mem_of_getElem? (i := 270) (by decide +kernel)) rfl
theorem kw_75 : Cond.classLink RX0 133 "java/util/NoSuchElementException" ∈ bigW := big_in (List.mem_of_getElem? (i := 279) (by decide +kernel)) rfl
theorem kw_76 : Cond.initialized "java/util/NoSuchElementException" ∈ bigW := big_in (List.mem_of_getElem? (i := 42) (by decide +kernel)) rfl
theorem kw_77 : Cond.methodLink RX0 34 yX0_requireOpen ∈ bigW := big_in (List.mem_of_getElem? (i := 100) (by decide +kernel)) rfl
theorem kw_78 : Cond.instanceMethod yX0_requireOpen ∈ bigW := big_in (List.mem_of_getElem? (i := 102) (by decide +kernel)) rfl
theorem kw_79 : Cond.selects RX0 yX0_requireOpen yX0_requireOpen ∈ bigW := big_in (List.mem_of_getElem? (i := 2) (by decide +kernel)) rfl
theorem kw_80 : Cond.code yX0_requireOpen cX0_requireOpen 1 none ∈ bigW := big_in (List.mem_of_getElem? (i := 103) (by decide +kernel)) rfl
theorem kw_81 : Cond.classLink RX0 37 "java/lang/IndexOutOfBoundsException" ∈ bigW := big_in (List.mem_of_getElem? (i := 173) (by decide +kernel)) rfl
theorem kw_82 : Cond.initialized "java/lang/IndexOutOfBoundsException" ∈ bigW := big_in (List.mem_of_getElem? (i := 39) (by decide +kernel)) rfl
theorem kw_83 : Cond.methodLink RX0 48 yX0_requireOwner ∈ bigW := big_in (List.mem_of_getElem? (i := 204) (by decide +kernel)) rfl
theorem kw_84 : Cond.instanceMethod yX0_requireOwner ∈ bigW := big_in (List.mem_of_getElem? (i := 206) (by decide +kernel)) rfl
theorem kw_85 : Cond.selects RX0 yX0_requireOwner yX0_requireOwner ∈ bigW := big_in (List.mem_of_getElem? (i := 4) (by decide +kernel)) rfl
theorem kw_86 : Cond.code yX0_requireOwner cX0_requireOwner 2 none ∈ bigW := big_in (List.mem_of_getElem? (i := 207) (by decide +kernel)) rfl
theorem kw_87 : Cond.constant RX0 9 65536 ∈ bigW := big_in (List.mem_of_getElem? (i := 51) (by decide +kernel)) rfl
theorem kw_88 : Cond.methodLink RX0 68 yX0_addContent ∈ bigW := big_in (List.mem_of_getElem? (i := 251) (by decide +kernel)) rfl
theorem kw_89 : Cond.instanceMethod yX0_addContent ∈ bigW := big_in (List.mem_of_getElem? (i := 253) (by decide +kernel)) rfl
theorem kw_90 : Cond.selects RX0 yX0_addContent yX0_addContent ∈ bigW := big_in (List.mem_of_getElem? (i := 10) (by decide +kernel)) rfl
theorem kw_91 : Cond.code yX0_addContent cX0_addContent 3 none ∈ bigW := big_in (List.mem_of_getElem? (i := 254) (by decide +kernel)) rfl
theorem kw_92 : Cond.methodLink RX0 71 yX0_requireRecord ∈ bigW := big_in (List.mem_of_getElem? (i := 263) (by decide +kernel)) rfl
theorem kw_93 : Cond.instanceMethod yX0_requireRecord ∈ bigW := big_in (List.mem_of_getElem? (i := 265) (by decide +kernel)) rfl
theorem kw_94 : Cond.selects RX0 yX0_requireRecord yX0_requireRecord ∈ bigW := big_in (List.mem_of_getElem? (i := 11) (by decide +kernel)) rfl
theorem kw_95 : Cond.code yX0_requireRecord cX0_requireRecord 2 none ∈ bigW := big_in (List.mem_of_getElem? (i := 266) (by decide +kernel)) rfl
theorem kw_96 : Cond.methodLink RX0 77 yX0_writeUpTo ∈ bigW := big_in (List.mem_of_getElem? (i := 295) (by decide +kernel)) rfl
theorem kw_97 : Cond.instanceMethod yX0_writeUpTo ∈ bigW := big_in (List.mem_of_getElem? (i := 297) (by decide +kernel)) rfl
theorem kw_98 : Cond.selects RX0 yX0_writeUpTo yX0_writeUpTo ∈ bigW := big_in (List.mem_of_getElem? (i := 15) (by decide +kernel)) rfl
theorem kw_99 : Cond.code yX0_writeUpTo cX0_writeUpTo 4 (some .int) ∈ bigW := big_in (List.mem_of_getElem? (i := 298) (by decide +kernel)) rfl
theorem kw_100 : Cond.methodLink RX0 85 yX0_firstRecordFrom ∈ bigW := big_in (List.mem_of_getElem? (i := 327) (by decide +kernel)) rfl
theorem kw_101 : Cond.instanceMethod yX0_firstRecordFrom ∈ bigW := big_in (List.mem_of_getElem? (i := 329) (by decide +kernel)) rfl
theorem kw_102 : Cond.selects RX0 yX0_firstRecordFrom yX0_firstRecordFrom ∈ bigW := big_in (List.mem_of_getElem? (i := 16) (by decide +kernel)) rfl
theorem kw_103 : Cond.code yX0_firstRecordFrom cX0_firstRecordFrom 4 (some .int) ∈ bigW := big_in (List.mem_of_getElem? (i := 330) (by decide +kernel)) rfl
theorem kw_104 : Cond.methodLink RX0 100 yX0_contentWords ∈ bigW := big_in (List.mem_of_getElem? (i := 377) (by decide +kernel)) rfl
theorem kw_105 : Cond.instanceMethod yX0_contentWords ∈ bigW := big_in (List.mem_of_getElem? (i := 379) (by decide +kernel)) rfl
theorem kw_106 : Cond.selects RX0 yX0_contentWords yX0_contentWords ∈ bigW := big_in (List.mem_of_getElem? (i := 18) (by decide +kernel)) rfl
theorem kw_107 : Cond.code yX0_contentWords cX0_contentWords 2 (some .int) ∈ bigW := big_in (List.mem_of_getElem? (i := 380) (by decide +kernel)) rfl
theorem kw_108 : Cond.methodLink RX0 109 yX0_kthOnTheWay ∈ bigW := big_in (List.mem_of_getElem? (i := 398) (by decide +kernel)) rfl
theorem kw_109 : Cond.instanceMethod yX0_kthOnTheWay ∈ bigW := big_in (List.mem_of_getElem? (i := 400) (by decide +kernel)) rfl
theorem kw_110 : Cond.selects RX0 yX0_kthOnTheWay yX0_kthOnTheWay ∈ bigW := big_in (List.mem_of_getElem? (i := 19) (by decide +kernel)) rfl
theorem kw_111 : Cond.code yX0_kthOnTheWay cX0_kthOnTheWay 8 (some .int) ∈ bigW := big_in (List.mem_of_getElem? (i := 401) (by decide +kernel)) rfl
theorem kw_112 : Cond.methodLink RX0 122 yX0_addVoidRest ∈ bigW := big_in (List.mem_of_getElem? (i := 441) (by decide +kernel)) rfl
theorem kw_113 : Cond.instanceMethod yX0_addVoidRest ∈ bigW := big_in (List.mem_of_getElem? (i := 443) (by decide +kernel)) rfl
theorem kw_114 : Cond.selects RX0 yX0_addVoidRest yX0_addVoidRest ∈ bigW := big_in (List.mem_of_getElem? (i := 22) (by decide +kernel)) rfl
theorem kw_115 : Cond.code yX0_addVoidRest cX0_addVoidRest 5 none ∈ bigW := big_in (List.mem_of_getElem? (i := 444) (by decide +kernel)) rfl
theorem kw_116 : Cond.fieldLink RX1 49 "LogBookModel" "thrown" "I" ∈ bigW := big_in (List.mem_of_getElem? (i := 452) (by decide +kernel)) rfl
theorem kw_117 : Cond.fieldLink RX1 52 "LogBookModel" "base" "I" ∈ bigW := big_in (List.mem_of_getElem? (i := 462) (by decide +kernel)) rfl
theorem kw_118 : Cond.fieldLink RX1 46 "LogBookModel" "count" "I" ∈ bigW := big_in (List.mem_of_getElem? (i := 463) (by decide +kernel)) rfl
theorem kw_119 : Cond.fieldLink RX1 17 "LogBookModel" "serials" "[I" ∈ bigW := big_in (List.mem_of_getElem? (i := 455) (by decide +kernel)) rfl
theorem kw_120 : Cond.fieldLink RX1 35 "LogBookModel" "voids" "[Z" ∈ bigW := big_in (List.mem_of_getElem? (i := 461) (by decide +kernel)) rfl
theorem kw_121 : Cond.fieldLink RX1 20 "LogBookModel" "lengths" "[I" ∈ bigW := big_in (List.mem_of_getElem? (i := 456) (by decide +kernel)) rfl
theorem kw_122 : Cond.fieldLink RX1 26 "LogBookModel" "owners" "[I" ∈ bigW := big_in (List.mem_of_getElem? (i := 458) (by decide +kernel)) rfl
theorem kw_123 : Cond.methodLink RX1 65 yX1_endOf ∈ bigW := big_in (List.mem_of_getElem? (i := 531) (by decide +kernel)) rfl
theorem kw_124 : Cond.instanceMethod yX1_endOf ∈ bigW := big_in (List.mem_of_getElem? (i := 533) (by decide +kernel)) rfl
theorem kw_125 : Cond.selects RX1 yX1_endOf yX1_endOf ∈ bigW := big_in (List.mem_of_getElem? (i := 25) (by decide +kernel)) rfl
theorem kw_126 : Cond.initialized RX1 ∈ bigW := big_in (List.mem_of_getElem? (i := 34) (by decide +kernel)) rfl
theorem kw_127 : Cond.code yX1_endOf cX1_endOf 2 (some .int) ∈ bigW := big_in (List.mem_of_getElem? (i := 534) (by decide +kernel)) rfl
theorem kw_128 : Cond.fieldLink RX1 55 "LogBookModel" "closed" "Z" ∈ bigW := big_in (List.mem_of_getElem? (i := 467) (by decide +kernel)) rfl
theorem kw_129 : Cond.fieldLink RX1 39 "LogBookModel" "left" "I" ∈ bigW := big_in (List.mem_of_getElem? (i := 468) (by decide +kernel)) rfl
theorem kw_130 : Cond.fieldLink RX1 59 "LogBookModel" "forced" "I" ∈ bigW := big_in (List.mem_of_getElem? (i := 465) (by decide +kernel)) rfl
theorem kw_131 : Cond.fieldLink RX1 62 "LogBookModel" "end" "I" ∈ bigW := big_in (List.mem_of_getElem? (i := 466) (by decide +kernel)) rfl
theorem kw_132 : Cond.fieldLink RX1 7 "LogBookModel" "buffer" "[I" ∈ bigW := big_in (List.mem_of_getElem? (i := 453) (by decide +kernel)) rfl
theorem kw_133 : Cond.fieldLink RX1 43 "LogBookModel" "begun" "I" ∈ bigW := big_in (List.mem_of_getElem? (i := 469) (by decide +kernel)) rfl
theorem kw_134 : Cond.fieldLink RX1 69 "LogBookModel" "begunLength" "I" ∈ bigW := big_in (List.mem_of_getElem? (i := 470) (by decide +kernel)) rfl
theorem kw_135 : Cond.methodLink RX1 72 yX1_fail ∈ bigW := big_in (List.mem_of_getElem? (i := 527) (by decide +kernel)) rfl
theorem kw_136 : Cond.instanceMethod yX1_fail ∈ bigW := big_in (List.mem_of_getElem? (i := 529) (by decide +kernel)) rfl
theorem kw_137 : Cond.selects RX1 yX1_fail yX1_fail ∈ bigW := big_in (List.mem_of_getElem? (i := 24) (by decide +kernel)) rfl
theorem kw_138 : Cond.code yX1_fail cX1_fail 2 none ∈ bigW := big_in (List.mem_of_getElem? (i := 530) (by decide +kernel)) rfl
theorem kw_139 : Cond.methodLink RX1 75 yX1_refused ∈ bigW := big_in (List.mem_of_getElem? (i := 519) (by decide +kernel)) rfl
theorem kw_140 : Cond.instanceMethod yX1_refused ∈ bigW := big_in (List.mem_of_getElem? (i := 521) (by decide +kernel)) rfl
theorem kw_141 : Cond.selects RX1 yX1_refused yX1_refused ∈ bigW := big_in (List.mem_of_getElem? (i := 23) (by decide +kernel)) rfl
theorem kw_142 : Cond.code yX1_refused cX1_refused 4 (some .boolean) ∈ bigW := big_in (List.mem_of_getElem? (i := 522) (by decide +kernel)) rfl
theorem kw_143 : Cond.methodLink RX1 79 yX1_addRow ∈ bigW := big_in (List.mem_of_getElem? (i := 543) (by decide +kernel)) rfl
theorem kw_144 : Cond.instanceMethod yX1_addRow ∈ bigW := big_in (List.mem_of_getElem? (i := 545) (by decide +kernel)) rfl
theorem kw_145 : Cond.selects RX1 yX1_addRow yX1_addRow ∈ bigW := big_in (List.mem_of_getElem? (i := 26) (by decide +kernel)) rfl
theorem kw_146 : Cond.code yX1_addRow cX1_addRow 4 none ∈ bigW := big_in (List.mem_of_getElem? (i := 546) (by decide +kernel)) rfl
theorem kw_147 : Cond.methodLink RX1 83 yX1_in ∈ bigW := big_in (List.mem_of_getElem? (i := 551) (by decide +kernel)) rfl
theorem kw_148 : Cond.static yX1_in ∈ bigW := big_in (List.mem_of_getElem? (i := 552) (by decide +kernel)) rfl
theorem kw_149 : Cond.code yX1_in cX1_in 3 (some .boolean) ∈ bigW := big_in (List.mem_of_getElem? (i := 553) (by decide +kernel)) rfl
theorem kw_150 : Cond.fieldLink RX1 87 "LogBookModel" "first" "I" ∈ bigW := big_in (List.mem_of_getElem? (i := 464) (by decide +kernel)) rfl
theorem kw_151 : Cond.constant RX1 13 65536 ∈ bigW := big_in (List.mem_of_getElem? (i := 451) (by decide +kernel)) rfl
theorem kw_152 : Cond.fieldLink RX1 23 "LogBookModel" "kinds" "[I" ∈ bigW := big_in (List.mem_of_getElem? (i := 457) (by decide +kernel)) rfl
theorem kw_153 : Cond.fieldLink RX1 29 "LogBookModel" "olders" "[I" ∈ bigW := big_in (List.mem_of_getElem? (i := 459) (by decide +kernel)) rfl
theorem kw_154 : Cond.methodLink RX1 90 yX1_latestOf ∈ bigW := big_in (List.mem_of_getElem? (i := 562) (by decide +kernel)) rfl
theorem kw_155 : Cond.instanceMethod yX1_latestOf ∈ bigW := big_in (List.mem_of_getElem? (i := 564) (by decide +kernel)) rfl
theorem kw_156 : Cond.selects RX1 yX1_latestOf yX1_latestOf ∈ bigW := big_in (List.mem_of_getElem? (i := 27) (by decide +kernel)) rfl
theorem kw_157 : Cond.code yX1_latestOf cX1_latestOf 4 (some .int) ∈ bigW := big_in (List.mem_of_getElem? (i := 565) (by decide +kernel)) rfl
theorem kw_158 : Cond.fieldLink RX1 32 "LogBookModel" "links" "[I" ∈ bigW := big_in (List.mem_of_getElem? (i := 460) (by decide +kernel)) rfl
theorem kw_159 : Cond.fieldLink RX1 14 "LogBookModel" "words" "[I" ∈ bigW := big_in (List.mem_of_getElem? (i := 454) (by decide +kernel)) rfl
theorem kw_160 : Cond.methodLink RX1 93 yX1_canWrite ∈ bigW := big_in (List.mem_of_getElem? (i := 578) (by decide +kernel)) rfl
theorem kw_161 : Cond.instanceMethod yX1_canWrite ∈ bigW := big_in (List.mem_of_getElem? (i := 580) (by decide +kernel)) rfl
theorem kw_162 : Cond.selects RX1 yX1_canWrite yX1_canWrite ∈ bigW := big_in (List.mem_of_getElem? (i := 30) (by decide +kernel)) rfl
theorem kw_163 : Cond.code yX1_canWrite cX1_canWrite 1 (some .boolean) ∈ bigW := big_in (List.mem_of_getElem? (i := 581) (by decide +kernel)) rfl
theorem kw_164 : Cond.methodLink RX1 97 yX1_rowOf ∈ bigW := big_in (List.mem_of_getElem? (i := 570) (by decide +kernel)) rfl
theorem kw_165 : Cond.instanceMethod yX1_rowOf ∈ bigW := big_in (List.mem_of_getElem? (i := 572) (by decide +kernel)) rfl
theorem kw_166 : Cond.selects RX1 yX1_rowOf yX1_rowOf ∈ bigW := big_in (List.mem_of_getElem? (i := 28) (by decide +kernel)) rfl
theorem kw_167 : Cond.code yX1_rowOf cX1_rowOf 4 (some .int) ∈ bigW := big_in (List.mem_of_getElem? (i := 573) (by decide +kernel)) rfl
theorem kw_168 : Cond.methodLink RX1 100 yX1_forceTo ∈ bigW := big_in (List.mem_of_getElem? (i := 574) (by decide +kernel)) rfl
theorem kw_169 : Cond.instanceMethod yX1_forceTo ∈ bigW := big_in (List.mem_of_getElem? (i := 576) (by decide +kernel)) rfl
theorem kw_170 : Cond.selects RX1 yX1_forceTo yX1_forceTo ∈ bigW := big_in (List.mem_of_getElem? (i := 29) (by decide +kernel)) rfl
theorem kw_171 : Cond.code yX1_forceTo cX1_forceTo 3 (some .int) ∈ bigW := big_in (List.mem_of_getElem? (i := 577) (by decide +kernel)) rfl
theorem kw_172 : Cond.methodLink RX1 103 yX1_seek ∈ bigW := big_in (List.mem_of_getElem? (i := 594) (by decide +kernel)) rfl
theorem kw_173 : Cond.instanceMethod yX1_seek ∈ bigW := big_in (List.mem_of_getElem? (i := 596) (by decide +kernel)) rfl
theorem kw_174 : Cond.selects RX1 yX1_seek yX1_seek ∈ bigW := big_in (List.mem_of_getElem? (i := 31) (by decide +kernel)) rfl
theorem kw_175 : Cond.code yX1_seek cX1_seek 5 (some .int) ∈ bigW := big_in (List.mem_of_getElem? (i := 597) (by decide +kernel)) rfl
theorem kw_176 : Cond.methodLink RX0 3 objectInit ∈ bigW := big_in (List.mem_of_getElem? (i := 48) (by decide +kernel)) rfl
theorem kw_177 : Cond.instanceMethod objectInit ∈ bigW := big_in (List.mem_of_getElem? (i := 49) (by decide +kernel)) rfl
theorem kw_178 : Cond.code objectInit ⟨#[0xb1]⟩ 1 none ∈ bigW := big_in (List.mem_of_getElem? (i := 50) (by decide +kernel)) rfl
theorem kw_179 : Cond.arrayClass .int ∈ bigW := big_in (List.mem_of_getElem? (i := 74) (by decide +kernel)) rfl
theorem kw_180 : Cond.methodLink RL 7 yX0_set ∈ bigW := big_in (List.mem_of_getElem? (i := 96) (by decide +kernel)) rfl
theorem kw_181 : Cond.instanceMethod yX0_set ∈ bigW := big_in (List.mem_of_getElem? (i := 97) (by decide +kernel)) rfl
theorem kw_182 : Cond.selects RX0 yX0_set yX0_set ∈ bigW := big_in (List.mem_of_getElem? (i := 98) (by decide +kernel)) rfl
theorem kw_183 : Cond.code yX0_set cX0_set 3 none ∈ bigW := big_in (List.mem_of_getElem? (i := 99) (by decide +kernel)) rfl
theorem kw_184 : Cond.classLink RL 13 "java/lang/IllegalStateException" ∈ bigW := big_in (List.mem_of_getElem? (i := 94) (by decide +kernel)) rfl
theorem kw_185 : Cond.classLink RL 15 "java/lang/IndexOutOfBoundsException" ∈ bigW := big_in (List.mem_of_getElem? (i := 95) (by decide +kernel)) rfl
theorem kw_186 : Cond.methodLink RL 17 yX0_fill ∈ bigW := big_in (List.mem_of_getElem? (i := 192) (by decide +kernel)) rfl
theorem kw_187 : Cond.instanceMethod yX0_fill ∈ bigW := big_in (List.mem_of_getElem? (i := 193) (by decide +kernel)) rfl
theorem kw_188 : Cond.selects RX0 yX0_fill yX0_fill ∈ bigW := big_in (List.mem_of_getElem? (i := 194) (by decide +kernel)) rfl
theorem kw_189 : Cond.code yX0_fill cX0_fill 3 none ∈ bigW := big_in (List.mem_of_getElem? (i := 195) (by decide +kernel)) rfl
theorem kw_190 : Cond.methodLink RL 20 yX0_append ∈ bigW := big_in (List.mem_of_getElem? (i := 200) (by decide +kernel)) rfl
theorem kw_191 : Cond.instanceMethod yX0_append ∈ bigW := big_in (List.mem_of_getElem? (i := 201) (by decide +kernel)) rfl
theorem kw_192 : Cond.selects RX0 yX0_append yX0_append ∈ bigW := big_in (List.mem_of_getElem? (i := 202) (by decide +kernel)) rfl
theorem kw_193 : Cond.code yX0_append cX0_append 8 (some .int) ∈ bigW := big_in (List.mem_of_getElem? (i := 203) (by decide +kernel)) rfl
theorem kw_194 : Cond.classLink RL 24 "java/lang/IllegalArgumentException" ∈ bigW := big_in (List.mem_of_getElem? (i := 199) (by decide +kernel)) rfl
theorem kw_195 : Cond.methodLink RL 26 yX0_force ∈ bigW := big_in (List.mem_of_getElem? (i := 259) (by decide +kernel)) rfl
theorem kw_196 : Cond.instanceMethod yX0_force ∈ bigW := big_in (List.mem_of_getElem? (i := 260) (by decide +kernel)) rfl
theorem kw_197 : Cond.selects RX0 yX0_force yX0_force ∈ bigW := big_in (List.mem_of_getElem? (i := 261) (by decide +kernel)) rfl
theorem kw_198 : Cond.code yX0_force cX0_force 2 (some .int) ∈ bigW := big_in (List.mem_of_getElem? (i := 262) (by decide +kernel)) rfl
theorem kw_199 : Cond.classLink RL 30 "java/util/NoSuchElementException" ∈ bigW := big_in (List.mem_of_getElem? (i := 258) (by decide +kernel)) rfl
theorem kw_200 : Cond.methodLink RL 32 yX0_forceAll ∈ bigW := big_in (List.mem_of_getElem? (i := 308) (by decide +kernel)) rfl
theorem kw_201 : Cond.instanceMethod yX0_forceAll ∈ bigW := big_in (List.mem_of_getElem? (i := 309) (by decide +kernel)) rfl
theorem kw_202 : Cond.selects RX0 yX0_forceAll yX0_forceAll ∈ bigW := big_in (List.mem_of_getElem? (i := 310) (by decide +kernel)) rfl
theorem kw_203 : Cond.code yX0_forceAll cX0_forceAll 1 (some .int) ∈ bigW := big_in (List.mem_of_getElem? (i := 311) (by decide +kernel)) rfl
theorem kw_204 : Cond.methodLink RL 36 yX0_giveBack ∈ bigW := big_in (List.mem_of_getElem? (i := 315) (by decide +kernel)) rfl
theorem kw_205 : Cond.instanceMethod yX0_giveBack ∈ bigW := big_in (List.mem_of_getElem? (i := 316) (by decide +kernel)) rfl
theorem kw_206 : Cond.selects RX0 yX0_giveBack yX0_giveBack ∈ bigW := big_in (List.mem_of_getElem? (i := 317) (by decide +kernel)) rfl
theorem kw_207 : Cond.code yX0_giveBack cX0_giveBack 3 (some .int) ∈ bigW := big_in (List.mem_of_getElem? (i := 318) (by decide +kernel)) rfl
theorem kw_208 : Cond.methodLink RL 39 yX0_first ∈ bigW := big_in (List.mem_of_getElem? (i := 323) (by decide +kernel)) rfl
theorem kw_209 : Cond.instanceMethod yX0_first ∈ bigW := big_in (List.mem_of_getElem? (i := 324) (by decide +kernel)) rfl
theorem kw_210 : Cond.selects RX0 yX0_first yX0_first ∈ bigW := big_in (List.mem_of_getElem? (i := 325) (by decide +kernel)) rfl
theorem kw_211 : Cond.code yX0_first cX0_first 1 (some .int) ∈ bigW := big_in (List.mem_of_getElem? (i := 326) (by decide +kernel)) rfl
theorem kw_212 : Cond.methodLink RL 42 yX0_last ∈ bigW := big_in (List.mem_of_getElem? (i := 334) (by decide +kernel)) rfl
theorem kw_213 : Cond.instanceMethod yX0_last ∈ bigW := big_in (List.mem_of_getElem? (i := 335) (by decide +kernel)) rfl
theorem kw_214 : Cond.selects RX0 yX0_last yX0_last ∈ bigW := big_in (List.mem_of_getElem? (i := 336) (by decide +kernel)) rfl
theorem kw_215 : Cond.code yX0_last cX0_last 1 (some .int) ∈ bigW := big_in (List.mem_of_getElem? (i := 337) (by decide +kernel)) rfl
theorem kw_216 : Cond.methodLink RL 45 yX0_lastForced ∈ bigW := big_in (List.mem_of_getElem? (i := 341) (by decide +kernel)) rfl
theorem kw_217 : Cond.instanceMethod yX0_lastForced ∈ bigW := big_in (List.mem_of_getElem? (i := 342) (by decide +kernel)) rfl
theorem kw_218 : Cond.selects RX0 yX0_lastForced yX0_lastForced ∈ bigW := big_in (List.mem_of_getElem? (i := 343) (by decide +kernel)) rfl
theorem kw_219 : Cond.code yX0_lastForced cX0_lastForced 1 (some .int) ∈ bigW := big_in (List.mem_of_getElem? (i := 344) (by decide +kernel)) rfl
theorem kw_220 : Cond.methodLink RL 48 yX0_next ∈ bigW := big_in (List.mem_of_getElem? (i := 348) (by decide +kernel)) rfl
theorem kw_221 : Cond.instanceMethod yX0_next ∈ bigW := big_in (List.mem_of_getElem? (i := 349) (by decide +kernel)) rfl
theorem kw_222 : Cond.selects RX0 yX0_next yX0_next ∈ bigW := big_in (List.mem_of_getElem? (i := 350) (by decide +kernel)) rfl
theorem kw_223 : Cond.code yX0_next cX0_next 2 (some .int) ∈ bigW := big_in (List.mem_of_getElem? (i := 351) (by decide +kernel)) rfl
theorem kw_224 : Cond.methodLink RL 51 yX0_before ∈ bigW := big_in (List.mem_of_getElem? (i := 355) (by decide +kernel)) rfl
theorem kw_225 : Cond.instanceMethod yX0_before ∈ bigW := big_in (List.mem_of_getElem? (i := 356) (by decide +kernel)) rfl
theorem kw_226 : Cond.selects RX0 yX0_before yX0_before ∈ bigW := big_in (List.mem_of_getElem? (i := 357) (by decide +kernel)) rfl
theorem kw_227 : Cond.code yX0_before cX0_before 2 (some .int) ∈ bigW := big_in (List.mem_of_getElem? (i := 358) (by decide +kernel)) rfl
theorem kw_228 : Cond.methodLink RL 54 yX0_lastOf ∈ bigW := big_in (List.mem_of_getElem? (i := 362) (by decide +kernel)) rfl
theorem kw_229 : Cond.instanceMethod yX0_lastOf ∈ bigW := big_in (List.mem_of_getElem? (i := 363) (by decide +kernel)) rfl
theorem kw_230 : Cond.selects RX0 yX0_lastOf yX0_lastOf ∈ bigW := big_in (List.mem_of_getElem? (i := 364) (by decide +kernel)) rfl
theorem kw_231 : Cond.code yX0_lastOf cX0_lastOf 2 (some .int) ∈ bigW := big_in (List.mem_of_getElem? (i := 365) (by decide +kernel)) rfl
theorem kw_232 : Cond.methodLink RL 57 yX0_of ∈ bigW := big_in (List.mem_of_getElem? (i := 369) (by decide +kernel)) rfl
theorem kw_233 : Cond.instanceMethod yX0_of ∈ bigW := big_in (List.mem_of_getElem? (i := 370) (by decide +kernel)) rfl
theorem kw_234 : Cond.selects RX0 yX0_of yX0_of ∈ bigW := big_in (List.mem_of_getElem? (i := 371) (by decide +kernel)) rfl
theorem kw_235 : Cond.code yX0_of cX0_of 3 (some .int) ∈ bigW := big_in (List.mem_of_getElem? (i := 372) (by decide +kernel)) rfl
theorem kw_236 : Cond.methodLink RL 61 yX0_word ∈ bigW := big_in (List.mem_of_getElem? (i := 385) (by decide +kernel)) rfl
theorem kw_237 : Cond.instanceMethod yX0_word ∈ bigW := big_in (List.mem_of_getElem? (i := 386) (by decide +kernel)) rfl
theorem kw_238 : Cond.selects RX0 yX0_word yX0_word ∈ bigW := big_in (List.mem_of_getElem? (i := 387) (by decide +kernel)) rfl
theorem kw_239 : Cond.code yX0_word cX0_word 3 (some .int) ∈ bigW := big_in (List.mem_of_getElem? (i := 388) (by decide +kernel)) rfl
theorem kw_240 : Cond.methodLink RL 64 yX0_back ∈ bigW := big_in (List.mem_of_getElem? (i := 393) (by decide +kernel)) rfl
theorem kw_241 : Cond.instanceMethod yX0_back ∈ bigW := big_in (List.mem_of_getElem? (i := 394) (by decide +kernel)) rfl
theorem kw_242 : Cond.selects RX0 yX0_back yX0_back ∈ bigW := big_in (List.mem_of_getElem? (i := 395) (by decide +kernel)) rfl
theorem kw_243 : Cond.code yX0_back cX0_back 4 (some .int) ∈ bigW := big_in (List.mem_of_getElem? (i := 396) (by decide +kernel)) rfl
theorem kw_244 : Cond.methodLink RL 68 yX0_count ∈ bigW := big_in (List.mem_of_getElem? (i := 413) (by decide +kernel)) rfl
theorem kw_245 : Cond.instanceMethod yX0_count ∈ bigW := big_in (List.mem_of_getElem? (i := 414) (by decide +kernel)) rfl
theorem kw_246 : Cond.selects RX0 yX0_count yX0_count ∈ bigW := big_in (List.mem_of_getElem? (i := 415) (by decide +kernel)) rfl
theorem kw_247 : Cond.code yX0_count cX0_count 4 (some .int) ∈ bigW := big_in (List.mem_of_getElem? (i := 416) (by decide +kernel)) rfl
theorem kw_248 : Cond.methodLink RL 71 yX0_log ∈ bigW := big_in (List.mem_of_getElem? (i := 420) (by decide +kernel)) rfl
theorem kw_249 : Cond.instanceMethod yX0_log ∈ bigW := big_in (List.mem_of_getElem? (i := 421) (by decide +kernel)) rfl
theorem kw_250 : Cond.selects RX0 yX0_log yX0_log ∈ bigW := big_in (List.mem_of_getElem? (i := 422) (by decide +kernel)) rfl
theorem kw_251 : Cond.code yX0_log cX0_log 2 (some .int) ∈ bigW := big_in (List.mem_of_getElem? (i := 423) (by decide +kernel)) rfl
theorem kw_252 : Cond.methodLink RL 74 yX0_cutAfter ∈ bigW := big_in (List.mem_of_getElem? (i := 428) (by decide +kernel)) rfl
theorem kw_253 : Cond.instanceMethod yX0_cutAfter ∈ bigW := big_in (List.mem_of_getElem? (i := 429) (by decide +kernel)) rfl
theorem kw_254 : Cond.selects RX0 yX0_cutAfter yX0_cutAfter ∈ bigW := big_in (List.mem_of_getElem? (i := 430) (by decide +kernel)) rfl
theorem kw_255 : Cond.code yX0_cutAfter cX0_cutAfter 2 none ∈ bigW := big_in (List.mem_of_getElem? (i := 431) (by decide +kernel)) rfl
theorem kw_256 : Cond.methodLink RL 78 yX0_open ∈ bigW := big_in (List.mem_of_getElem? (i := 436) (by decide +kernel)) rfl
theorem kw_257 : Cond.instanceMethod yX0_open ∈ bigW := big_in (List.mem_of_getElem? (i := 437) (by decide +kernel)) rfl
theorem kw_258 : Cond.selects RX0 yX0_open yX0_open ∈ bigW := big_in (List.mem_of_getElem? (i := 438) (by decide +kernel)) rfl
theorem kw_259 : Cond.code yX0_open cX0_open 2 (some .int) ∈ bigW := big_in (List.mem_of_getElem? (i := 439) (by decide +kernel)) rfl
theorem g_RX0_97 : GoodIn bigW (wsV RX0 97 RX0 yX0_wordAt wsX0_wordAt) := gV kw_3 kw_4 kw_5 kw_6 kw_7
theorem g_RX0_88 : GoodIn bigW (wsV RX0 88 RX0 yX0_lastRecordBefore wsX0_lastRecordBefore) := gV kw_13 kw_14 kw_15 kw_6 kw_16
theorem g_RX0_94 : GoodIn bigW (wsV RX0 94 RX0 yX0_ownerAt wsX0_ownerAt) := gV kw_17 kw_18 kw_19 kw_6 kw_20
theorem g_RX0_74 : GoodIn bigW (wsV RX0 74 RX0 yX0_behind wsX0_behind) := gV kw_21 kw_22 kw_23 kw_6 kw_24
theorem g_RX0_139 : GoodIn bigW (wsV RX0 139 RX0 yX0_isVoid wsX0_isVoid) := gV kw_25 kw_26 kw_27 kw_6 kw_28
theorem g_RX0_91 : GoodIn bigW (wsV RX0 91 RX0 yX0_kindAt wsX0_kindAt) := gV kw_29 kw_30 kw_31 kw_6 kw_32
theorem g_RX0_61 : GoodIn bigW (wsV RX0 61 RX0 yX0_lastRecordOf wsX0_lastRecordOf) := gV kw_33 kw_34 kw_35 kw_6 kw_36
theorem g_RX0_147 : GoodIn bigW (wsV RX0 147 RX0 yX0_isAskedFor wsX0_isAskedFor) := gV kw_37 kw_38 kw_39 kw_6 kw_40
theorem g_RX0_151 : GoodIn bigW (wsV RX0 151 RX0 yX0_stopBehind wsX0_stopBehind) := gV kw_41 kw_42 kw_43 kw_6 kw_44
theorem g_RX0_65 : GoodIn bigW (wsV RX0 65 RX0 yX0_addWord wsX0_addWord) := gV kw_47 kw_48 kw_49 kw_6 kw_50
theorem g_RX0_44 : GoodIn bigW (wsV RX0 44 RX0 yX0_fillBuffer wsX0_fillBuffer) := gV kw_53 kw_54 kw_55 kw_6 kw_56
theorem g_RX0_117 : GoodIn bigW (wsV RX0 117 RX0 yX0_losePower wsX0_losePower) := gV kw_63 kw_64 kw_65 kw_6 kw_66
theorem g_RX0_129 : GoodIn bigW (wsV RX0 129 RX0 yX0_isRecord wsX0_isRecord) := gV kw_71 kw_72 kw_73 kw_6 kw_74
theorem g_RX0_34 : GoodIn bigW (wsV RX0 34 RX0 yX0_requireOpen wsX0_requireOpen) := gV kw_77 kw_78 kw_79 kw_6 kw_80
theorem g_RX0_48 : GoodIn bigW (wsV RX0 48 RX0 yX0_requireOwner wsX0_requireOwner) := gV kw_83 kw_84 kw_85 kw_6 kw_86
theorem g_RX0_68 : GoodIn bigW (wsV RX0 68 RX0 yX0_addContent wsX0_addContent) := gV kw_88 kw_89 kw_90 kw_6 kw_91
theorem g_RX0_71 : GoodIn bigW (wsV RX0 71 RX0 yX0_requireRecord wsX0_requireRecord) := gV kw_92 kw_93 kw_94 kw_6 kw_95
theorem g_RX0_77 : GoodIn bigW (wsV RX0 77 RX0 yX0_writeUpTo wsX0_writeUpTo) := gV kw_96 kw_97 kw_98 kw_6 kw_99
theorem g_RX0_85 : GoodIn bigW (wsV RX0 85 RX0 yX0_firstRecordFrom wsX0_firstRecordFrom) := gV kw_100 kw_101 kw_102 kw_6 kw_103
theorem g_RX0_100 : GoodIn bigW (wsV RX0 100 RX0 yX0_contentWords wsX0_contentWords) := gV kw_104 kw_105 kw_106 kw_6 kw_107
theorem g_RX0_109 : GoodIn bigW (wsV RX0 109 RX0 yX0_kthOnTheWay wsX0_kthOnTheWay) := gV kw_108 kw_109 kw_110 kw_6 kw_111
theorem g_RX0_122 : GoodIn bigW (wsV RX0 122 RX0 yX0_addVoidRest wsX0_addVoidRest) := gV kw_112 kw_113 kw_114 kw_6 kw_115
theorem g_RX1_65 : GoodIn bigW (wsV RX1 65 RX1 yX1_endOf wsX1_endOf) := gV kw_123 kw_124 kw_125 kw_126 kw_127
theorem g_RX1_72 : GoodIn bigW (wsV RX1 72 RX1 yX1_fail wsX1_fail) := gV kw_135 kw_136 kw_137 kw_126 kw_138
theorem g_RX1_75 : GoodIn bigW (wsV RX1 75 RX1 yX1_refused wsX1_refused) := gV kw_139 kw_140 kw_141 kw_126 kw_142
theorem g_RX1_79 : GoodIn bigW (wsV RX1 79 RX1 yX1_addRow wsX1_addRow) := gV kw_143 kw_144 kw_145 kw_126 kw_146
theorem g_RX1_83 : GoodIn bigW (va_wsS RX1 83 yX1_in wsX1_in) := gS kw_147 kw_148 kw_126 kw_149
theorem g_RX1_90 : GoodIn bigW (wsV RX1 90 RX1 yX1_latestOf wsX1_latestOf) := gV kw_154 kw_155 kw_156 kw_126 kw_157
theorem g_RX1_93 : GoodIn bigW (wsV RX1 93 RX1 yX1_canWrite wsX1_canWrite) := gV kw_160 kw_161 kw_162 kw_126 kw_163
theorem g_RX1_97 : GoodIn bigW (wsV RX1 97 RX1 yX1_rowOf wsX1_rowOf) := gV kw_164 kw_165 kw_166 kw_126 kw_167
theorem g_RX1_100 : GoodIn bigW (wsV RX1 100 RX1 yX1_forceTo wsX1_forceTo) := gV kw_168 kw_169 kw_170 kw_126 kw_171
theorem g_RX1_103 : GoodIn bigW (wsV RX1 103 RX1 yX1_seek wsX1_seek) := gV kw_172 kw_173 kw_174 kw_126 kw_175
theorem g_RL_7 : GoodIn bigW (wsV RL 7 RX0 yX0_set wsX0_set) := gV kw_180 kw_181 kw_182 kw_6 kw_183
theorem g_RL_17 : GoodIn bigW (wsV RL 17 RX0 yX0_fill wsX0_fill) := gV kw_186 kw_187 kw_188 kw_6 kw_189
theorem g_RL_20 : GoodIn bigW (wsV RL 20 RX0 yX0_append wsX0_append) := gV kw_190 kw_191 kw_192 kw_6 kw_193
theorem g_RL_26 : GoodIn bigW (wsV RL 26 RX0 yX0_force wsX0_force) := gV kw_195 kw_196 kw_197 kw_6 kw_198
theorem g_RL_32 : GoodIn bigW (wsV RL 32 RX0 yX0_forceAll wsX0_forceAll) := gV kw_200 kw_201 kw_202 kw_6 kw_203
theorem g_RL_36 : GoodIn bigW (wsV RL 36 RX0 yX0_giveBack wsX0_giveBack) := gV kw_204 kw_205 kw_206 kw_6 kw_207
theorem g_RL_39 : GoodIn bigW (wsV RL 39 RX0 yX0_first wsX0_first) := gV kw_208 kw_209 kw_210 kw_6 kw_211
theorem g_RL_42 : GoodIn bigW (wsV RL 42 RX0 yX0_last wsX0_last) := gV kw_212 kw_213 kw_214 kw_6 kw_215
theorem g_RL_45 : GoodIn bigW (wsV RL 45 RX0 yX0_lastForced wsX0_lastForced) := gV kw_216 kw_217 kw_218 kw_6 kw_219
theorem g_RL_48 : GoodIn bigW (wsV RL 48 RX0 yX0_next wsX0_next) := gV kw_220 kw_221 kw_222 kw_6 kw_223
theorem g_RL_51 : GoodIn bigW (wsV RL 51 RX0 yX0_before wsX0_before) := gV kw_224 kw_225 kw_226 kw_6 kw_227
theorem g_RL_54 : GoodIn bigW (wsV RL 54 RX0 yX0_lastOf wsX0_lastOf) := gV kw_228 kw_229 kw_230 kw_6 kw_231
theorem g_RL_57 : GoodIn bigW (wsV RL 57 RX0 yX0_of wsX0_of) := gV kw_232 kw_233 kw_234 kw_6 kw_235
theorem g_RL_61 : GoodIn bigW (wsV RL 61 RX0 yX0_word wsX0_word) := gV kw_236 kw_237 kw_238 kw_6 kw_239
theorem g_RL_64 : GoodIn bigW (wsV RL 64 RX0 yX0_back wsX0_back) := gV kw_240 kw_241 kw_242 kw_6 kw_243
theorem g_RL_68 : GoodIn bigW (wsV RL 68 RX0 yX0_count wsX0_count) := gV kw_244 kw_245 kw_246 kw_6 kw_247
theorem g_RL_71 : GoodIn bigW (wsV RL 71 RX0 yX0_log wsX0_log) := gV kw_248 kw_249 kw_250 kw_6 kw_251
theorem g_RL_74 : GoodIn bigW (wsV RL 74 RX0 yX0_cutAfter wsX0_cutAfter) := gV kw_252 kw_253 kw_254 kw_6 kw_255
theorem g_RL_78 : GoodIn bigW (wsV RL 78 RX0 yX0_open wsX0_open) := gV kw_256 kw_257 kw_258 kw_6 kw_259
theorem xa_RX0_84 : ∀ w ∈ (vx_atS RX0 84 "java/lang/IllegalStateException" ["java/lang/RuntimeException", "java/lang/Exception"]).filter goodWord, w ∈ bigW := fun w hw => big_in ((by decide +kernel : ∀ w ∈ (vx_atS RX0 84 "java/lang/IllegalStateException" ["java/lang/RuntimeException", "java/lang/Exception"]).filter goodWord, w ∈ lw_tbl) w hw) (List.mem_filter.mp hw).2
theorem xa_RX0_56 : ∀ w ∈ (vx_atS RX0 56 "java/lang/IllegalArgumentException" ["java/lang/RuntimeException", "java/lang/Exception"]).filter goodWord, w ∈ bigW := fun w hw => big_in ((by decide +kernel : ∀ w ∈ (vx_atS RX0 56 "java/lang/IllegalArgumentException" ["java/lang/RuntimeException", "java/lang/Exception"]).filter goodWord, w ∈ lw_tbl) w hw) (List.mem_filter.mp hw).2
theorem xa_RX0_137 : ∀ w ∈ (vx_atS RX0 137 "java/util/NoSuchElementException" ["java/lang/RuntimeException", "java/lang/Exception"]).filter goodWord, w ∈ bigW := sorry
theorem xa_RX0_41 : ∀ w ∈ (vx_atS RX0 41 "java/lang/IndexOutOfBoundsException" ["java/lang/RuntimeException", "java/lang/Exception"]).filter goodWord, w ∈ bigW := fun w hw => big_in ((by decide +kernel : ∀ w ∈ (vx_atS RX0 41 "java/lang/IndexOutOfBoundsException" ["java/lang/RuntimeException", "java/lang/Exception"]).filter goodWord, w ∈ lw_tbl) w hw) (List.mem_filter.mp hw).2
end
section
def xw_ex : List String := ["java/lang/IllegalStateException", "java/lang/IllegalArgumentException", "java/lang/IndexOutOfBoundsException", "java/util/NoSuchElementException"]
def xw_su : List String := ["java/lang/RuntimeException", "java/lang/Exception", "java/lang/Throwable"]
def xw_st : List (String × Nat × String) := [(RX0, 39, "the buffer has words 0 .. 199"), (RX0, 54, "kinds are 0 .. 15"), (RX0, 57, "a content has 0 .. 200 words"), (RX0, 59, "a link is NONE or a place before the end"), (RX0, 82, "the record is not wholly forced"), (RX0, 103, "what is 0 .. 4"), (RX0, 105, "the record has no such word"), (RX0, 107, "k is not below 0"), (RX0, 113, "which is 0 .. 2"), (RX0, 115, "n is NONE or a number of words"), (RX0, 120, "the book is open"), (RX0, 125, "the book is closed"), (RX0, 127, "owners are 0 .. 7"), (RX0, 135, "no record has this serial")]
def xw_nc : List (String × String) := [("java/lang/IndexOutOfBoundsException", "java/lang/IllegalStateException"), ("java/lang/IllegalArgumentException", "java/lang/IllegalStateException"), ("java/util/NoSuchElementException", "java/lang/IllegalStateException"), ("java/lang/IndexOutOfBoundsException", "java/util/NoSuchElementException")]
/-- what the throw of an exception needs of the start: words of the tables, texts, two statics of Throwable outside A -/
def XW (A : Nat → Prop) (U : State) : Prop :=
  (∀ E ∈ xw_ex, va_Nw (.castable E E) U) ∧ (∀ Y ∈ xw_su, va_Nw (.declares ⟨Y, "<init>", "(Ljava/lang/String;)V"⟩) U) ∧ (∀ q ∈ xw_st, ∃ sa, vk_R q.1 q.2.1 q.2.2 sa U) ∧ (∀ q ∈ xw_nc, va_Nc q.1 q.2 U) ∧ vx_Zq Bundle.tN "UNASSIGNED_STACK" Bundle.steD A U U.heap ∧ vx_Zq Bundle.tN "SUPPRESSED_SENTINEL" Bundle.listD A U U.heap
theorem XW.blind {A : Nat → Prop} {U : State} {g : JFrame} {mk : MethodId} {a : Array Value} (h : XW A U) : XW A (U.calling g mk a) :=
  ⟨fun E hE => va_Nw.same rfl rfl (h.1 E hE), fun Y hY => va_Nw.same rfl rfl (h.2.1 Y hY), fun q hq => (h.2.2.1 q hq).imp (fun _ hs => vk_R.same rfl hs), fun q hq => va_Nc.moved (u := U) (Vm.Alike.refl U.vm) (h.2.2.2.1 q hq), vx_Zq.moved (u := U) (Vm.Alike.refl U.vm) h.2.2.2.2.1, vx_Zq.moved (u := U) (Vm.Alike.refl U.vm) h.2.2.2.2.2⟩
theorem XW.go {A B : Nat → Prop} {s U : State} {H : Heap} {locs : List Loc} (h : XW A s) (hS : va_S A s.heap H locs) (hB : ∀ q, B q → A q) (hU : U.heap = H) (hW : s.WarmedH U.vm) : XW B U := by
  subst hU
  exact ⟨fun E hE => va_Nw.warmC hW (h.1 E hE), fun Y hY => va_Nw.warmD hW (h.2.1 Y hY), fun q hq => (h.2.2.1 q hq).imp (fun _ hs => vk_R.warm hW hs), fun q hq => va_Nc.moved hW.alike (h.2.2.2.1 q hq),
    ((vx_Zq.moved hW.alike h.2.2.2.2.1).kept hS.2.1).narrow hB, ((vx_Zq.moved hW.alike h.2.2.2.2.2).kept hS.2.1).narrow hB⟩
abbrev St_A : Type := (Nat → Int32) × (Nat → Int32) × Int32 × Int32 × Int32 × Int32 × Int32
abbrev at_A (dC : Nat → ClassId) (dI : Nat → Nat → Nat) (A : Nat → Prop) (qA qA_ring qA_buffer : Nat) (cA_ring cA_buffer : ClassId) (u : St_A) (t : State) : Prop := match u with
  | (A_ring, A_buffer, A_firstPlace, A_forcedPlace, A_endPlace, A_wordsToFailure, A_opened) => va_P (dC, dI) vwCl [(qA, .inr (0, [.ref qA_ring, .ref qA_buffer, .int A_firstPlace, .int A_forcedPlace, .int A_endPlace, .int A_wordsToFailure, .int A_opened])), (qA_ring, .inl (cA_ring, 65536, .inl A_ring)), (qA_buffer, .inl (cA_buffer, 200, .inl A_buffer))] t.heap ∧ va_K (dC, dI) vwCl [(cA_ring, .int), (cA_buffer, .int)] t ∧ va_D A [(qA, .inr (0, [.ref qA_ring, .ref qA_buffer, .int A_firstPlace, .int A_forcedPlace, .int A_endPlace, .int A_wordsToFailure, .int A_opened])), (qA_ring, .inl (cA_ring, 65536, .inl A_ring)), (qA_buffer, .inl (cA_buffer, 200, .inl A_buffer))]
abbrev pcR_A (dC : Nat → ClassId) (dI : Nat → Nat → Nat) (qA qA_ring qA_buffer : Nat) (cA_ring cA_buffer : ClassId) (A_ring : Nat → Int32) (A_buffer : Nat → Int32) (A_firstPlace : Int32) (A_forcedPlace : Int32) (A_endPlace : Int32) (A_wordsToFailure : Int32) (A_opened : Int32) (av : List Value) : Array Value → State → Prop := va_Pc av (fun U => va_P (dC, dI) vwCl [(qA, .inr (0, [.ref qA_ring, .ref qA_buffer, .int A_firstPlace, .int A_forcedPlace, .int A_endPlace, .int A_wordsToFailure, .int A_opened])), (qA_ring, .inl (cA_ring, 65536, .inl A_ring)), (qA_buffer, .inl (cA_buffer, 200, .inl A_buffer))] U.heap ∧ va_K (dC, dI) vwCl [(cA_ring, .int), (cA_buffer, .int)] U)
abbrev pcW_A (dC : Nat → ClassId) (dI : Nat → Nat → Nat) (qA qA_ring qA_buffer : Nat) (cA_ring cA_buffer : ClassId) (sz : Nat) (A_ring : Nat → Int32) (A_buffer : Nat → Int32) (A_firstPlace : Int32) (A_forcedPlace : Int32) (A_endPlace : Int32) (A_wordsToFailure : Int32) (A_opened : Int32) (av : List Value) : Array Value → State → Prop := va_Pc av (fun U => U.heap.size = sz ∧ va_P (dC, dI) vwCl [(qA, .inr (0, [.ref qA_ring, .ref qA_buffer, .int A_firstPlace, .int A_forcedPlace, .int A_endPlace, .int A_wordsToFailure, .int A_opened])), (qA_ring, .inl (cA_ring, 65536, .inl A_ring)), (qA_buffer, .inl (cA_buffer, 200, .inl A_buffer))] U.heap ∧ va_K (dC, dI) vwCl [(cA_ring, .int), (cA_buffer, .int)] U ∧ va_D (fun _ => True) [(qA, .inr (0, [.ref qA_ring, .ref qA_buffer, .int A_firstPlace, .int A_forcedPlace, .int A_endPlace, .int A_wordsToFailure, .int A_opened])), (qA_ring, .inl (cA_ring, 65536, .inl A_ring)), (qA_buffer, .inl (cA_buffer, 200, .inl A_buffer))])
abbrev pcX_A (dC : Nat → ClassId) (dI : Nat → Nat → Nat) (qA qA_ring qA_buffer : Nat) (cA_ring cA_buffer : ClassId) (sz : Nat) (A_ring : Nat → Int32) (A_buffer : Nat → Int32) (A_firstPlace : Int32) (A_forcedPlace : Int32) (A_endPlace : Int32) (A_wordsToFailure : Int32) (A_opened : Int32) (av : List Value) : Array Value → State → Prop := va_Pc av (fun U => U.heap.size = sz ∧ va_P (dC, dI) vwCl [(qA, .inr (0, [.ref qA_ring, .ref qA_buffer, .int A_firstPlace, .int A_forcedPlace, .int A_endPlace, .int A_wordsToFailure, .int A_opened])), (qA_ring, .inl (cA_ring, 65536, .inl A_ring)), (qA_buffer, .inl (cA_buffer, 200, .inl A_buffer))] U.heap ∧ va_K (dC, dI) vwCl [(cA_ring, .int), (cA_buffer, .int)] U ∧ va_D (fun _ => True) [(qA, .inr (0, [.ref qA_ring, .ref qA_buffer, .int A_firstPlace, .int A_forcedPlace, .int A_endPlace, .int A_wordsToFailure, .int A_opened])), (qA_ring, .inl (cA_ring, 65536, .inl A_ring)), (qA_buffer, .inl (cA_buffer, 200, .inl A_buffer))] ∧ XW (va_A [(qA, .inr (0, [.ref qA_ring, .ref qA_buffer, .int A_firstPlace, .int A_forcedPlace, .int A_endPlace, .int A_wordsToFailure, .int A_opened])), (qA_ring, .inl (cA_ring, 65536, .inl A_ring)), (qA_buffer, .inl (cA_buffer, 200, .inl A_buffer))] sz) U)
theorem pcR_A_b (dC : Nat → ClassId) (dI : Nat → Nat → Nat) (qA qA_ring qA_buffer : Nat) (cA_ring cA_buffer : ClassId) (A_ring : Nat → Int32) (A_buffer : Nat → Int32) (A_firstPlace : Int32) (A_forcedPlace : Int32) (A_endPlace : Int32) (A_wordsToFailure : Int32) (A_opened : Int32) (av : List Value) : FrameBlind (pcR_A dC dI qA qA_ring qA_buffer cA_ring cA_buffer A_ring A_buffer A_firstPlace A_forcedPlace A_endPlace A_wordsToFailure A_opened av) := fun a U g mk q => by
  obtain ⟨q0, qP, qK⟩ := q
  exact ⟨q0, qP, va_K.moved (u := U) (U := U.calling g mk a) (Vm.Alike.refl U.vm) qK⟩
theorem pcW_A_b (dC : Nat → ClassId) (dI : Nat → Nat → Nat) (qA qA_ring qA_buffer : Nat) (cA_ring cA_buffer : ClassId) (sz : Nat) (A_ring : Nat → Int32) (A_buffer : Nat → Int32) (A_firstPlace : Int32) (A_forcedPlace : Int32) (A_endPlace : Int32) (A_wordsToFailure : Int32) (A_opened : Int32) (av : List Value) : FrameBlind (pcW_A dC dI qA qA_ring qA_buffer cA_ring cA_buffer sz A_ring A_buffer A_firstPlace A_forcedPlace A_endPlace A_wordsToFailure A_opened av) := fun a U g mk q => by
  obtain ⟨q0, q1, qP, qK, qD⟩ := q
  exact ⟨q0, q1, qP, va_K.moved (u := U) (U := U.calling g mk a) (Vm.Alike.refl U.vm) qK, qD⟩
theorem pcX_A_b (dC : Nat → ClassId) (dI : Nat → Nat → Nat) (qA qA_ring qA_buffer : Nat) (cA_ring cA_buffer : ClassId) (sz : Nat) (A_ring : Nat → Int32) (A_buffer : Nat → Int32) (A_firstPlace : Int32) (A_forcedPlace : Int32) (A_endPlace : Int32) (A_wordsToFailure : Int32) (A_opened : Int32) (av : List Value) : FrameBlind (pcX_A dC dI qA qA_ring qA_buffer cA_ring cA_buffer sz A_ring A_buffer A_firstPlace A_forcedPlace A_endPlace A_wordsToFailure A_opened av) := fun a U g mk q => by
  obtain ⟨q0, q1, qP, qK, qD, qX⟩ := q
  exact ⟨q0, q1, qP, va_K.moved (u := U) (U := U.calling g mk a) (Vm.Alike.refl U.vm) qK, qD, XW.blind qX⟩
abbrev St_B : Type := Int32 × (Nat → Int32) × (Nat → Int32) × (Nat → Int32) × (Nat → Int32) × (Nat → Int32) × (Nat → Int32) × (Nat → Int32) × (Nat → Int32) × (Nat → Int32) × Int32 × Int32 × Int32 × Int32 × Int32 × Int32 × Int32 × Int32 × Int32
abbrev at_B (dC : Nat → ClassId) (dI : Nat → Nat → Nat) (A : Nat → Prop) (qB qB_buffer qB_words qB_serials qB_lengths qB_kinds qB_owners qB_olders qB_links qB_voids : Nat) (cB_buffer cB_words cB_serials cB_lengths cB_kinds cB_owners cB_olders cB_links cB_voids : ClassId) (u : St_B) (t : State) : Prop := match u with
  | (B_thrown, B_buffer, B_words, B_serials, B_lengths, B_kinds, B_owners, B_olders, B_links, B_voids, B_base, B_count, B_first, B_forced, B_end, B_closed, B_left, B_begun, B_begunLength) => va_P (dC, dI) vwCl [(qB, .inr (1, [.int B_thrown, .ref qB_buffer, .ref qB_words, .ref qB_serials, .ref qB_lengths, .ref qB_kinds, .ref qB_owners, .ref qB_olders, .ref qB_links, .ref qB_voids, .int B_base, .int B_count, .int B_first, .int B_forced, .int B_end, .int B_closed, .int B_left, .int B_begun, .int B_begunLength])), (qB_buffer, .inl (cB_buffer, 200, .inl B_buffer)), (qB_words, .inl (cB_words, 65536, .inl B_words)), (qB_serials, .inl (cB_serials, 4400, .inl B_serials)), (qB_lengths, .inl (cB_lengths, 4400, .inl B_lengths)), (qB_kinds, .inl (cB_kinds, 4400, .inl B_kinds)), (qB_owners, .inl (cB_owners, 4400, .inl B_owners)), (qB_olders, .inl (cB_olders, 4400, .inl B_olders)), (qB_links, .inl (cB_links, 4400, .inl B_links)), (qB_voids, .inl (cB_voids, 4400, .inl B_voids))] t.heap ∧ va_K (dC, dI) vwCl [(cB_buffer, .int), (cB_words, .int), (cB_serials, .int), (cB_lengths, .int), (cB_kinds, .int), (cB_owners, .int), (cB_olders, .int), (cB_links, .int), (cB_voids, .boolean)] t ∧ va_D A [(qB, .inr (1, [.int B_thrown, .ref qB_buffer, .ref qB_words, .ref qB_serials, .ref qB_lengths, .ref qB_kinds, .ref qB_owners, .ref qB_olders, .ref qB_links, .ref qB_voids, .int B_base, .int B_count, .int B_first, .int B_forced, .int B_end, .int B_closed, .int B_left, .int B_begun, .int B_begunLength])), (qB_buffer, .inl (cB_buffer, 200, .inl B_buffer)), (qB_words, .inl (cB_words, 65536, .inl B_words)), (qB_serials, .inl (cB_serials, 4400, .inl B_serials)), (qB_lengths, .inl (cB_lengths, 4400, .inl B_lengths)), (qB_kinds, .inl (cB_kinds, 4400, .inl B_kinds)), (qB_owners, .inl (cB_owners, 4400, .inl B_owners)), (qB_olders, .inl (cB_olders, 4400, .inl B_olders)), (qB_links, .inl (cB_links, 4400, .inl B_links)), (qB_voids, .inl (cB_voids, 4400, .inl B_voids))]
abbrev pcR_B (dC : Nat → ClassId) (dI : Nat → Nat → Nat) (qB qB_buffer qB_words qB_serials qB_lengths qB_kinds qB_owners qB_olders qB_links qB_voids : Nat) (cB_buffer cB_words cB_serials cB_lengths cB_kinds cB_owners cB_olders cB_links cB_voids : ClassId) (B_thrown : Int32) (B_buffer : Nat → Int32) (B_words : Nat → Int32) (B_serials : Nat → Int32) (B_lengths : Nat → Int32) (B_kinds : Nat → Int32) (B_owners : Nat → Int32) (B_olders : Nat → Int32) (B_links : Nat → Int32) (B_voids : Nat → Int32) (B_base : Int32) (B_count : Int32) (B_first : Int32) (B_forced : Int32) (B_end : Int32) (B_closed : Int32) (B_left : Int32) (B_begun : Int32) (B_begunLength : Int32) (av : List Value) : Array Value → State → Prop := va_Pc av (fun U => va_P (dC, dI) vwCl [(qB, .inr (1, [.int B_thrown, .ref qB_buffer, .ref qB_words, .ref qB_serials, .ref qB_lengths, .ref qB_kinds, .ref qB_owners, .ref qB_olders, .ref qB_links, .ref qB_voids, .int B_base, .int B_count, .int B_first, .int B_forced, .int B_end, .int B_closed, .int B_left, .int B_begun, .int B_begunLength])), (qB_buffer, .inl (cB_buffer, 200, .inl B_buffer)), (qB_words, .inl (cB_words, 65536, .inl B_words)), (qB_serials, .inl (cB_serials, 4400, .inl B_serials)), (qB_lengths, .inl (cB_lengths, 4400, .inl B_lengths)), (qB_kinds, .inl (cB_kinds, 4400, .inl B_kinds)), (qB_owners, .inl (cB_owners, 4400, .inl B_owners)), (qB_olders, .inl (cB_olders, 4400, .inl B_olders)), (qB_links, .inl (cB_links, 4400, .inl B_links)), (qB_voids, .inl (cB_voids, 4400, .inl B_voids))] U.heap ∧ va_K (dC, dI) vwCl [(cB_buffer, .int), (cB_words, .int), (cB_serials, .int), (cB_lengths, .int), (cB_kinds, .int), (cB_owners, .int), (cB_olders, .int), (cB_links, .int), (cB_voids, .boolean)] U)
abbrev pcW_B (dC : Nat → ClassId) (dI : Nat → Nat → Nat) (qB qB_buffer qB_words qB_serials qB_lengths qB_kinds qB_owners qB_olders qB_links qB_voids : Nat) (cB_buffer cB_words cB_serials cB_lengths cB_kinds cB_owners cB_olders cB_links cB_voids : ClassId) (sz : Nat) (B_thrown : Int32) (B_buffer : Nat → Int32) (B_words : Nat → Int32) (B_serials : Nat → Int32) (B_lengths : Nat → Int32) (B_kinds : Nat → Int32) (B_owners : Nat → Int32) (B_olders : Nat → Int32) (B_links : Nat → Int32) (B_voids : Nat → Int32) (B_base : Int32) (B_count : Int32) (B_first : Int32) (B_forced : Int32) (B_end : Int32) (B_closed : Int32) (B_left : Int32) (B_begun : Int32) (B_begunLength : Int32) (av : List Value) : Array Value → State → Prop := va_Pc av (fun U => U.heap.size = sz ∧ va_P (dC, dI) vwCl [(qB, .inr (1, [.int B_thrown, .ref qB_buffer, .ref qB_words, .ref qB_serials, .ref qB_lengths, .ref qB_kinds, .ref qB_owners, .ref qB_olders, .ref qB_links, .ref qB_voids, .int B_base, .int B_count, .int B_first, .int B_forced, .int B_end, .int B_closed, .int B_left, .int B_begun, .int B_begunLength])), (qB_buffer, .inl (cB_buffer, 200, .inl B_buffer)), (qB_words, .inl (cB_words, 65536, .inl B_words)), (qB_serials, .inl (cB_serials, 4400, .inl B_serials)), (qB_lengths, .inl (cB_lengths, 4400, .inl B_lengths)), (qB_kinds, .inl (cB_kinds, 4400, .inl B_kinds)), (qB_owners, .inl (cB_owners, 4400, .inl B_owners)), (qB_olders, .inl (cB_olders, 4400, .inl B_olders)), (qB_links, .inl (cB_links, 4400, .inl B_links)), (qB_voids, .inl (cB_voids, 4400, .inl B_voids))] U.heap ∧ va_K (dC, dI) vwCl [(cB_buffer, .int), (cB_words, .int), (cB_serials, .int), (cB_lengths, .int), (cB_kinds, .int), (cB_owners, .int), (cB_olders, .int), (cB_links, .int), (cB_voids, .boolean)] U ∧ va_D (fun _ => True) [(qB, .inr (1, [.int B_thrown, .ref qB_buffer, .ref qB_words, .ref qB_serials, .ref qB_lengths, .ref qB_kinds, .ref qB_owners, .ref qB_olders, .ref qB_links, .ref qB_voids, .int B_base, .int B_count, .int B_first, .int B_forced, .int B_end, .int B_closed, .int B_left, .int B_begun, .int B_begunLength])), (qB_buffer, .inl (cB_buffer, 200, .inl B_buffer)), (qB_words, .inl (cB_words, 65536, .inl B_words)), (qB_serials, .inl (cB_serials, 4400, .inl B_serials)), (qB_lengths, .inl (cB_lengths, 4400, .inl B_lengths)), (qB_kinds, .inl (cB_kinds, 4400, .inl B_kinds)), (qB_owners, .inl (cB_owners, 4400, .inl B_owners)), (qB_olders, .inl (cB_olders, 4400, .inl B_olders)), (qB_links, .inl (cB_links, 4400, .inl B_links)), (qB_voids, .inl (cB_voids, 4400, .inl B_voids))])
abbrev pcX_B (dC : Nat → ClassId) (dI : Nat → Nat → Nat) (qB qB_buffer qB_words qB_serials qB_lengths qB_kinds qB_owners qB_olders qB_links qB_voids : Nat) (cB_buffer cB_words cB_serials cB_lengths cB_kinds cB_owners cB_olders cB_links cB_voids : ClassId) (sz : Nat) (B_thrown : Int32) (B_buffer : Nat → Int32) (B_words : Nat → Int32) (B_serials : Nat → Int32) (B_lengths : Nat → Int32) (B_kinds : Nat → Int32) (B_owners : Nat → Int32) (B_olders : Nat → Int32) (B_links : Nat → Int32) (B_voids : Nat → Int32) (B_base : Int32) (B_count : Int32) (B_first : Int32) (B_forced : Int32) (B_end : Int32) (B_closed : Int32) (B_left : Int32) (B_begun : Int32) (B_begunLength : Int32) (av : List Value) : Array Value → State → Prop := va_Pc av (fun U => U.heap.size = sz ∧ va_P (dC, dI) vwCl [(qB, .inr (1, [.int B_thrown, .ref qB_buffer, .ref qB_words, .ref qB_serials, .ref qB_lengths, .ref qB_kinds, .ref qB_owners, .ref qB_olders, .ref qB_links, .ref qB_voids, .int B_base, .int B_count, .int B_first, .int B_forced, .int B_end, .int B_closed, .int B_left, .int B_begun, .int B_begunLength])), (qB_buffer, .inl (cB_buffer, 200, .inl B_buffer)), (qB_words, .inl (cB_words, 65536, .inl B_words)), (qB_serials, .inl (cB_serials, 4400, .inl B_serials)), (qB_lengths, .inl (cB_lengths, 4400, .inl B_lengths)), (qB_kinds, .inl (cB_kinds, 4400, .inl B_kinds)), (qB_owners, .inl (cB_owners, 4400, .inl B_owners)), (qB_olders, .inl (cB_olders, 4400, .inl B_olders)), (qB_links, .inl (cB_links, 4400, .inl B_links)), (qB_voids, .inl (cB_voids, 4400, .inl B_voids))] U.heap ∧ va_K (dC, dI) vwCl [(cB_buffer, .int), (cB_words, .int), (cB_serials, .int), (cB_lengths, .int), (cB_kinds, .int), (cB_owners, .int), (cB_olders, .int), (cB_links, .int), (cB_voids, .boolean)] U ∧ va_D (fun _ => True) [(qB, .inr (1, [.int B_thrown, .ref qB_buffer, .ref qB_words, .ref qB_serials, .ref qB_lengths, .ref qB_kinds, .ref qB_owners, .ref qB_olders, .ref qB_links, .ref qB_voids, .int B_base, .int B_count, .int B_first, .int B_forced, .int B_end, .int B_closed, .int B_left, .int B_begun, .int B_begunLength])), (qB_buffer, .inl (cB_buffer, 200, .inl B_buffer)), (qB_words, .inl (cB_words, 65536, .inl B_words)), (qB_serials, .inl (cB_serials, 4400, .inl B_serials)), (qB_lengths, .inl (cB_lengths, 4400, .inl B_lengths)), (qB_kinds, .inl (cB_kinds, 4400, .inl B_kinds)), (qB_owners, .inl (cB_owners, 4400, .inl B_owners)), (qB_olders, .inl (cB_olders, 4400, .inl B_olders)), (qB_links, .inl (cB_links, 4400, .inl B_links)), (qB_voids, .inl (cB_voids, 4400, .inl B_voids))] ∧ XW (va_A [(qB, .inr (1, [.int B_thrown, .ref qB_buffer, .ref qB_words, .ref qB_serials, .ref qB_lengths, .ref qB_kinds, .ref qB_owners, .ref qB_olders, .ref qB_links, .ref qB_voids, .int B_base, .int B_count, .int B_first, .int B_forced, .int B_end, .int B_closed, .int B_left, .int B_begun, .int B_begunLength])), (qB_buffer, .inl (cB_buffer, 200, .inl B_buffer)), (qB_words, .inl (cB_words, 65536, .inl B_words)), (qB_serials, .inl (cB_serials, 4400, .inl B_serials)), (qB_lengths, .inl (cB_lengths, 4400, .inl B_lengths)), (qB_kinds, .inl (cB_kinds, 4400, .inl B_kinds)), (qB_owners, .inl (cB_owners, 4400, .inl B_owners)), (qB_olders, .inl (cB_olders, 4400, .inl B_olders)), (qB_links, .inl (cB_links, 4400, .inl B_links)), (qB_voids, .inl (cB_voids, 4400, .inl B_voids))] sz) U)
theorem pcR_B_b (dC : Nat → ClassId) (dI : Nat → Nat → Nat) (qB qB_buffer qB_words qB_serials qB_lengths qB_kinds qB_owners qB_olders qB_links qB_voids : Nat) (cB_buffer cB_words cB_serials cB_lengths cB_kinds cB_owners cB_olders cB_links cB_voids : ClassId) (B_thrown : Int32) (B_buffer : Nat → Int32) (B_words : Nat → Int32) (B_serials : Nat → Int32) (B_lengths : Nat → Int32) (B_kinds : Nat → Int32) (B_owners : Nat → Int32) (B_olders : Nat → Int32) (B_links : Nat → Int32) (B_voids : Nat → Int32) (B_base : Int32) (B_count : Int32) (B_first : Int32) (B_forced : Int32) (B_end : Int32) (B_closed : Int32) (B_left : Int32) (B_begun : Int32) (B_begunLength : Int32) (av : List Value) : FrameBlind (pcR_B dC dI qB qB_buffer qB_words qB_serials qB_lengths qB_kinds qB_owners qB_olders qB_links qB_voids cB_buffer cB_words cB_serials cB_lengths cB_kinds cB_owners cB_olders cB_links cB_voids B_thrown B_buffer B_words B_serials B_lengths B_kinds B_owners B_olders B_links B_voids B_base B_count B_first B_forced B_end B_closed B_left B_begun B_begunLength av) := fun a U g mk q => by
  obtain ⟨q0, qP, qK⟩ := q
  exact ⟨q0, qP, va_K.moved (u := U) (U := U.calling g mk a) (Vm.Alike.refl U.vm) qK⟩
theorem pcW_B_b (dC : Nat → ClassId) (dI : Nat → Nat → Nat) (qB qB_buffer qB_words qB_serials qB_lengths qB_kinds qB_owners qB_olders qB_links qB_voids : Nat) (cB_buffer cB_words cB_serials cB_lengths cB_kinds cB_owners cB_olders cB_links cB_voids : ClassId) (sz : Nat) (B_thrown : Int32) (B_buffer : Nat → Int32) (B_words : Nat → Int32) (B_serials : Nat → Int32) (B_lengths : Nat → Int32) (B_kinds : Nat → Int32) (B_owners : Nat → Int32) (B_olders : Nat → Int32) (B_links : Nat → Int32) (B_voids : Nat → Int32) (B_base : Int32) (B_count : Int32) (B_first : Int32) (B_forced : Int32) (B_end : Int32) (B_closed : Int32) (B_left : Int32) (B_begun : Int32) (B_begunLength : Int32) (av : List Value) : FrameBlind (pcW_B dC dI qB qB_buffer qB_words qB_serials qB_lengths qB_kinds qB_owners qB_olders qB_links qB_voids cB_buffer cB_words cB_serials cB_lengths cB_kinds cB_owners cB_olders cB_links cB_voids sz B_thrown B_buffer B_words B_serials B_lengths B_kinds B_owners B_olders B_links B_voids B_base B_count B_first B_forced B_end B_closed B_left B_begun B_begunLength av) := fun a U g mk q => by
  obtain ⟨q0, q1, qP, qK, qD⟩ := q
  exact ⟨q0, q1, qP, va_K.moved (u := U) (U := U.calling g mk a) (Vm.Alike.refl U.vm) qK, qD⟩
theorem pcX_B_b (dC : Nat → ClassId) (dI : Nat → Nat → Nat) (qB qB_buffer qB_words qB_serials qB_lengths qB_kinds qB_owners qB_olders qB_links qB_voids : Nat) (cB_buffer cB_words cB_serials cB_lengths cB_kinds cB_owners cB_olders cB_links cB_voids : ClassId) (sz : Nat) (B_thrown : Int32) (B_buffer : Nat → Int32) (B_words : Nat → Int32) (B_serials : Nat → Int32) (B_lengths : Nat → Int32) (B_kinds : Nat → Int32) (B_owners : Nat → Int32) (B_olders : Nat → Int32) (B_links : Nat → Int32) (B_voids : Nat → Int32) (B_base : Int32) (B_count : Int32) (B_first : Int32) (B_forced : Int32) (B_end : Int32) (B_closed : Int32) (B_left : Int32) (B_begun : Int32) (B_begunLength : Int32) (av : List Value) : FrameBlind (pcX_B dC dI qB qB_buffer qB_words qB_serials qB_lengths qB_kinds qB_owners qB_olders qB_links qB_voids cB_buffer cB_words cB_serials cB_lengths cB_kinds cB_owners cB_olders cB_links cB_voids sz B_thrown B_buffer B_words B_serials B_lengths B_kinds B_owners B_olders B_links B_voids B_base B_count B_first B_forced B_end B_closed B_left B_begun B_begunLength av) := fun a U g mk q => by
  obtain ⟨q0, q1, qP, qK, qD, qX⟩ := q
  exact ⟨q0, q1, qP, va_K.moved (u := U) (U := U.calling g mk a) (Vm.Alike.refl U.vm) qK, qD, XW.blind qX⟩
abbrev St_AO : Type := (Nat → Int32) × (Nat → Int32) × Int32 × Int32 × Int32 × Int32 × Int32 × (Nat → Int64)
abbrev at_AO (dC : Nat → ClassId) (dI : Nat → Nat → Nat) (A : Nat → Prop) (qA qA_ring qA_buffer qO : Nat) (cA_ring cA_buffer cO : ClassId) (u : St_AO) (t : State) : Prop := match u with
  | (A_ring, A_buffer, A_firstPlace, A_forcedPlace, A_endPlace, A_wordsToFailure, A_opened, O_v) => va_P (dC, dI) vwCl [(qA, .inr (0, [.ref qA_ring, .ref qA_buffer, .int A_firstPlace, .int A_forcedPlace, .int A_endPlace, .int A_wordsToFailure, .int A_opened])), (qA_ring, .inl (cA_ring, 65536, .inl A_ring)), (qA_buffer, .inl (cA_buffer, 200, .inl A_buffer)), (qO, .inl (cO, 1, .inr (.inl O_v)))] t.heap ∧ va_K (dC, dI) vwCl [(cA_ring, .int), (cA_buffer, .int), (cO, .long)] t ∧ va_D A [(qA, .inr (0, [.ref qA_ring, .ref qA_buffer, .int A_firstPlace, .int A_forcedPlace, .int A_endPlace, .int A_wordsToFailure, .int A_opened])), (qA_ring, .inl (cA_ring, 65536, .inl A_ring)), (qA_buffer, .inl (cA_buffer, 200, .inl A_buffer)), (qO, .inl (cO, 1, .inr (.inl O_v)))]
abbrev pcR_AO (dC : Nat → ClassId) (dI : Nat → Nat → Nat) (qA qA_ring qA_buffer qO : Nat) (cA_ring cA_buffer cO : ClassId) (A_ring : Nat → Int32) (A_buffer : Nat → Int32) (A_firstPlace : Int32) (A_forcedPlace : Int32) (A_endPlace : Int32) (A_wordsToFailure : Int32) (A_opened : Int32) (O_v : Nat → Int64) (av : List Value) : Array Value → State → Prop := va_Pc av (fun U => va_P (dC, dI) vwCl [(qA, .inr (0, [.ref qA_ring, .ref qA_buffer, .int A_firstPlace, .int A_forcedPlace, .int A_endPlace, .int A_wordsToFailure, .int A_opened])), (qA_ring, .inl (cA_ring, 65536, .inl A_ring)), (qA_buffer, .inl (cA_buffer, 200, .inl A_buffer)), (qO, .inl (cO, 1, .inr (.inl O_v)))] U.heap ∧ va_K (dC, dI) vwCl [(cA_ring, .int), (cA_buffer, .int), (cO, .long)] U)
abbrev pcW_AO (dC : Nat → ClassId) (dI : Nat → Nat → Nat) (qA qA_ring qA_buffer qO : Nat) (cA_ring cA_buffer cO : ClassId) (sz : Nat) (A_ring : Nat → Int32) (A_buffer : Nat → Int32) (A_firstPlace : Int32) (A_forcedPlace : Int32) (A_endPlace : Int32) (A_wordsToFailure : Int32) (A_opened : Int32) (O_v : Nat → Int64) (av : List Value) : Array Value → State → Prop := va_Pc av (fun U => U.heap.size = sz ∧ va_P (dC, dI) vwCl [(qA, .inr (0, [.ref qA_ring, .ref qA_buffer, .int A_firstPlace, .int A_forcedPlace, .int A_endPlace, .int A_wordsToFailure, .int A_opened])), (qA_ring, .inl (cA_ring, 65536, .inl A_ring)), (qA_buffer, .inl (cA_buffer, 200, .inl A_buffer)), (qO, .inl (cO, 1, .inr (.inl O_v)))] U.heap ∧ va_K (dC, dI) vwCl [(cA_ring, .int), (cA_buffer, .int), (cO, .long)] U ∧ va_D (fun _ => True) [(qA, .inr (0, [.ref qA_ring, .ref qA_buffer, .int A_firstPlace, .int A_forcedPlace, .int A_endPlace, .int A_wordsToFailure, .int A_opened])), (qA_ring, .inl (cA_ring, 65536, .inl A_ring)), (qA_buffer, .inl (cA_buffer, 200, .inl A_buffer)), (qO, .inl (cO, 1, .inr (.inl O_v)))])
abbrev pcX_AO (dC : Nat → ClassId) (dI : Nat → Nat → Nat) (qA qA_ring qA_buffer qO : Nat) (cA_ring cA_buffer cO : ClassId) (sz : Nat) (A_ring : Nat → Int32) (A_buffer : Nat → Int32) (A_firstPlace : Int32) (A_forcedPlace : Int32) (A_endPlace : Int32) (A_wordsToFailure : Int32) (A_opened : Int32) (O_v : Nat → Int64) (av : List Value) : Array Value → State → Prop := va_Pc av (fun U => U.heap.size = sz ∧ va_P (dC, dI) vwCl [(qA, .inr (0, [.ref qA_ring, .ref qA_buffer, .int A_firstPlace, .int A_forcedPlace, .int A_endPlace, .int A_wordsToFailure, .int A_opened])), (qA_ring, .inl (cA_ring, 65536, .inl A_ring)), (qA_buffer, .inl (cA_buffer, 200, .inl A_buffer)), (qO, .inl (cO, 1, .inr (.inl O_v)))] U.heap ∧ va_K (dC, dI) vwCl [(cA_ring, .int), (cA_buffer, .int), (cO, .long)] U ∧ va_D (fun _ => True) [(qA, .inr (0, [.ref qA_ring, .ref qA_buffer, .int A_firstPlace, .int A_forcedPlace, .int A_endPlace, .int A_wordsToFailure, .int A_opened])), (qA_ring, .inl (cA_ring, 65536, .inl A_ring)), (qA_buffer, .inl (cA_buffer, 200, .inl A_buffer)), (qO, .inl (cO, 1, .inr (.inl O_v)))] ∧ XW (va_A [(qA, .inr (0, [.ref qA_ring, .ref qA_buffer, .int A_firstPlace, .int A_forcedPlace, .int A_endPlace, .int A_wordsToFailure, .int A_opened])), (qA_ring, .inl (cA_ring, 65536, .inl A_ring)), (qA_buffer, .inl (cA_buffer, 200, .inl A_buffer)), (qO, .inl (cO, 1, .inr (.inl O_v)))] sz) U)
theorem pcR_AO_b (dC : Nat → ClassId) (dI : Nat → Nat → Nat) (qA qA_ring qA_buffer qO : Nat) (cA_ring cA_buffer cO : ClassId) (A_ring : Nat → Int32) (A_buffer : Nat → Int32) (A_firstPlace : Int32) (A_forcedPlace : Int32) (A_endPlace : Int32) (A_wordsToFailure : Int32) (A_opened : Int32) (O_v : Nat → Int64) (av : List Value) : FrameBlind (pcR_AO dC dI qA qA_ring qA_buffer qO cA_ring cA_buffer cO A_ring A_buffer A_firstPlace A_forcedPlace A_endPlace A_wordsToFailure A_opened O_v av) := fun a U g mk q => by
  obtain ⟨q0, qP, qK⟩ := q
  exact ⟨q0, qP, va_K.moved (u := U) (U := U.calling g mk a) (Vm.Alike.refl U.vm) qK⟩
theorem pcW_AO_b (dC : Nat → ClassId) (dI : Nat → Nat → Nat) (qA qA_ring qA_buffer qO : Nat) (cA_ring cA_buffer cO : ClassId) (sz : Nat) (A_ring : Nat → Int32) (A_buffer : Nat → Int32) (A_firstPlace : Int32) (A_forcedPlace : Int32) (A_endPlace : Int32) (A_wordsToFailure : Int32) (A_opened : Int32) (O_v : Nat → Int64) (av : List Value) : FrameBlind (pcW_AO dC dI qA qA_ring qA_buffer qO cA_ring cA_buffer cO sz A_ring A_buffer A_firstPlace A_forcedPlace A_endPlace A_wordsToFailure A_opened O_v av) := fun a U g mk q => by
  obtain ⟨q0, q1, qP, qK, qD⟩ := q
  exact ⟨q0, q1, qP, va_K.moved (u := U) (U := U.calling g mk a) (Vm.Alike.refl U.vm) qK, qD⟩
theorem pcX_AO_b (dC : Nat → ClassId) (dI : Nat → Nat → Nat) (qA qA_ring qA_buffer qO : Nat) (cA_ring cA_buffer cO : ClassId) (sz : Nat) (A_ring : Nat → Int32) (A_buffer : Nat → Int32) (A_firstPlace : Int32) (A_forcedPlace : Int32) (A_endPlace : Int32) (A_wordsToFailure : Int32) (A_opened : Int32) (O_v : Nat → Int64) (av : List Value) : FrameBlind (pcX_AO dC dI qA qA_ring qA_buffer qO cA_ring cA_buffer cO sz A_ring A_buffer A_firstPlace A_forcedPlace A_endPlace A_wordsToFailure A_opened O_v av) := fun a U g mk q => by
  obtain ⟨q0, q1, qP, qK, qD, qX⟩ := q
  exact ⟨q0, q1, qP, va_K.moved (u := U) (U := U.calling g mk a) (Vm.Alike.refl U.vm) qK, qD, XW.blind qX⟩
abbrev St_ABO : Type := (Nat → Int32) × (Nat → Int32) × Int32 × Int32 × Int32 × Int32 × Int32 × Int32 × (Nat → Int32) × (Nat → Int32) × (Nat → Int32) × (Nat → Int32) × (Nat → Int32) × (Nat → Int32) × (Nat → Int32) × (Nat → Int32) × (Nat → Int32) × Int32 × Int32 × Int32 × Int32 × Int32 × Int32 × Int32 × Int32 × Int32 × (Nat → Int64)
abbrev at_ABO (dC : Nat → ClassId) (dI : Nat → Nat → Nat) (A : Nat → Prop) (qA qA_ring qA_buffer qB qB_buffer qB_words qB_serials qB_lengths qB_kinds qB_owners qB_olders qB_links qB_voids qO : Nat) (cA_ring cA_buffer cB_buffer cB_words cB_serials cB_lengths cB_kinds cB_owners cB_olders cB_links cB_voids cO : ClassId) (u : St_ABO) (t : State) : Prop := match u with
  | (A_ring, A_buffer, A_firstPlace, A_forcedPlace, A_endPlace, A_wordsToFailure, A_opened, B_thrown, B_buffer, B_words, B_serials, B_lengths, B_kinds, B_owners, B_olders, B_links, B_voids, B_base, B_count, B_first, B_forced, B_end, B_closed, B_left, B_begun, B_begunLength, O_v) => va_P (dC, dI) vwCl [(qA, .inr (0, [.ref qA_ring, .ref qA_buffer, .int A_firstPlace, .int A_forcedPlace, .int A_endPlace, .int A_wordsToFailure, .int A_opened])), (qA_ring, .inl (cA_ring, 65536, .inl A_ring)), (qA_buffer, .inl (cA_buffer, 200, .inl A_buffer)), (qB, .inr (1, [.int B_thrown, .ref qB_buffer, .ref qB_words, .ref qB_serials, .ref qB_lengths, .ref qB_kinds, .ref qB_owners, .ref qB_olders, .ref qB_links, .ref qB_voids, .int B_base, .int B_count, .int B_first, .int B_forced, .int B_end, .int B_closed, .int B_left, .int B_begun, .int B_begunLength])), (qB_buffer, .inl (cB_buffer, 200, .inl B_buffer)), (qB_words, .inl (cB_words, 65536, .inl B_words)), (qB_serials, .inl (cB_serials, 4400, .inl B_serials)), (qB_lengths, .inl (cB_lengths, 4400, .inl B_lengths)), (qB_kinds, .inl (cB_kinds, 4400, .inl B_kinds)), (qB_owners, .inl (cB_owners, 4400, .inl B_owners)), (qB_olders, .inl (cB_olders, 4400, .inl B_olders)), (qB_links, .inl (cB_links, 4400, .inl B_links)), (qB_voids, .inl (cB_voids, 4400, .inl B_voids)), (qO, .inl (cO, 1, .inr (.inl O_v)))] t.heap ∧ va_K (dC, dI) vwCl [(cA_ring, .int), (cA_buffer, .int), (cB_buffer, .int), (cB_words, .int), (cB_serials, .int), (cB_lengths, .int), (cB_kinds, .int), (cB_owners, .int), (cB_olders, .int), (cB_links, .int), (cB_voids, .boolean), (cO, .long)] t ∧ va_D A [(qA, .inr (0, [.ref qA_ring, .ref qA_buffer, .int A_firstPlace, .int A_forcedPlace, .int A_endPlace, .int A_wordsToFailure, .int A_opened])), (qA_ring, .inl (cA_ring, 65536, .inl A_ring)), (qA_buffer, .inl (cA_buffer, 200, .inl A_buffer)), (qB, .inr (1, [.int B_thrown, .ref qB_buffer, .ref qB_words, .ref qB_serials, .ref qB_lengths, .ref qB_kinds, .ref qB_owners, .ref qB_olders, .ref qB_links, .ref qB_voids, .int B_base, .int B_count, .int B_first, .int B_forced, .int B_end, .int B_closed, .int B_left, .int B_begun, .int B_begunLength])), (qB_buffer, .inl (cB_buffer, 200, .inl B_buffer)), (qB_words, .inl (cB_words, 65536, .inl B_words)), (qB_serials, .inl (cB_serials, 4400, .inl B_serials)), (qB_lengths, .inl (cB_lengths, 4400, .inl B_lengths)), (qB_kinds, .inl (cB_kinds, 4400, .inl B_kinds)), (qB_owners, .inl (cB_owners, 4400, .inl B_owners)), (qB_olders, .inl (cB_olders, 4400, .inl B_olders)), (qB_links, .inl (cB_links, 4400, .inl B_links)), (qB_voids, .inl (cB_voids, 4400, .inl B_voids)), (qO, .inl (cO, 1, .inr (.inl O_v)))]
abbrev pcR_ABO (dC : Nat → ClassId) (dI : Nat → Nat → Nat) (qA qA_ring qA_buffer qB qB_buffer qB_words qB_serials qB_lengths qB_kinds qB_owners qB_olders qB_links qB_voids qO : Nat) (cA_ring cA_buffer cB_buffer cB_words cB_serials cB_lengths cB_kinds cB_owners cB_olders cB_links cB_voids cO : ClassId) (A_ring : Nat → Int32) (A_buffer : Nat → Int32) (A_firstPlace : Int32) (A_forcedPlace : Int32) (A_endPlace : Int32) (A_wordsToFailure : Int32) (A_opened : Int32) (B_thrown : Int32) (B_buffer : Nat → Int32) (B_words : Nat → Int32) (B_serials : Nat → Int32) (B_lengths : Nat → Int32) (B_kinds : Nat → Int32) (B_owners : Nat → Int32) (B_olders : Nat → Int32) (B_links : Nat → Int32) (B_voids : Nat → Int32) (B_base : Int32) (B_count : Int32) (B_first : Int32) (B_forced : Int32) (B_end : Int32) (B_closed : Int32) (B_left : Int32) (B_begun : Int32) (B_begunLength : Int32) (O_v : Nat → Int64) (av : List Value) : Array Value → State → Prop := va_Pc av (fun U => va_P (dC, dI) vwCl [(qA, .inr (0, [.ref qA_ring, .ref qA_buffer, .int A_firstPlace, .int A_forcedPlace, .int A_endPlace, .int A_wordsToFailure, .int A_opened])), (qA_ring, .inl (cA_ring, 65536, .inl A_ring)), (qA_buffer, .inl (cA_buffer, 200, .inl A_buffer)), (qB, .inr (1, [.int B_thrown, .ref qB_buffer, .ref qB_words, .ref qB_serials, .ref qB_lengths, .ref qB_kinds, .ref qB_owners, .ref qB_olders, .ref qB_links, .ref qB_voids, .int B_base, .int B_count, .int B_first, .int B_forced, .int B_end, .int B_closed, .int B_left, .int B_begun, .int B_begunLength])), (qB_buffer, .inl (cB_buffer, 200, .inl B_buffer)), (qB_words, .inl (cB_words, 65536, .inl B_words)), (qB_serials, .inl (cB_serials, 4400, .inl B_serials)), (qB_lengths, .inl (cB_lengths, 4400, .inl B_lengths)), (qB_kinds, .inl (cB_kinds, 4400, .inl B_kinds)), (qB_owners, .inl (cB_owners, 4400, .inl B_owners)), (qB_olders, .inl (cB_olders, 4400, .inl B_olders)), (qB_links, .inl (cB_links, 4400, .inl B_links)), (qB_voids, .inl (cB_voids, 4400, .inl B_voids)), (qO, .inl (cO, 1, .inr (.inl O_v)))] U.heap ∧ va_K (dC, dI) vwCl [(cA_ring, .int), (cA_buffer, .int), (cB_buffer, .int), (cB_words, .int), (cB_serials, .int), (cB_lengths, .int), (cB_kinds, .int), (cB_owners, .int), (cB_olders, .int), (cB_links, .int), (cB_voids, .boolean), (cO, .long)] U)
abbrev pcW_ABO (dC : Nat → ClassId) (dI : Nat → Nat → Nat) (qA qA_ring qA_buffer qB qB_buffer qB_words qB_serials qB_lengths qB_kinds qB_owners qB_olders qB_links qB_voids qO : Nat) (cA_ring cA_buffer cB_buffer cB_words cB_serials cB_lengths cB_kinds cB_owners cB_olders cB_links cB_voids cO : ClassId) (sz : Nat) (A_ring : Nat → Int32) (A_buffer : Nat → Int32) (A_firstPlace : Int32) (A_forcedPlace : Int32) (A_endPlace : Int32) (A_wordsToFailure : Int32) (A_opened : Int32) (B_thrown : Int32) (B_buffer : Nat → Int32) (B_words : Nat → Int32) (B_serials : Nat → Int32) (B_lengths : Nat → Int32) (B_kinds : Nat → Int32) (B_owners : Nat → Int32) (B_olders : Nat → Int32) (B_links : Nat → Int32) (B_voids : Nat → Int32) (B_base : Int32) (B_count : Int32) (B_first : Int32) (B_forced : Int32) (B_end : Int32) (B_closed : Int32) (B_left : Int32) (B_begun : Int32) (B_begunLength : Int32) (O_v : Nat → Int64) (av : List Value) : Array Value → State → Prop := va_Pc av (fun U => U.heap.size = sz ∧ va_P (dC, dI) vwCl [(qA, .inr (0, [.ref qA_ring, .ref qA_buffer, .int A_firstPlace, .int A_forcedPlace, .int A_endPlace, .int A_wordsToFailure, .int A_opened])), (qA_ring, .inl (cA_ring, 65536, .inl A_ring)), (qA_buffer, .inl (cA_buffer, 200, .inl A_buffer)), (qB, .inr (1, [.int B_thrown, .ref qB_buffer, .ref qB_words, .ref qB_serials, .ref qB_lengths, .ref qB_kinds, .ref qB_owners, .ref qB_olders, .ref qB_links, .ref qB_voids, .int B_base, .int B_count, .int B_first, .int B_forced, .int B_end, .int B_closed, .int B_left, .int B_begun, .int B_begunLength])), (qB_buffer, .inl (cB_buffer, 200, .inl B_buffer)), (qB_words, .inl (cB_words, 65536, .inl B_words)), (qB_serials, .inl (cB_serials, 4400, .inl B_serials)), (qB_lengths, .inl (cB_lengths, 4400, .inl B_lengths)), (qB_kinds, .inl (cB_kinds, 4400, .inl B_kinds)), (qB_owners, .inl (cB_owners, 4400, .inl B_owners)), (qB_olders, .inl (cB_olders, 4400, .inl B_olders)), (qB_links, .inl (cB_links, 4400, .inl B_links)), (qB_voids, .inl (cB_voids, 4400, .inl B_voids)), (qO, .inl (cO, 1, .inr (.inl O_v)))] U.heap ∧ va_K (dC, dI) vwCl [(cA_ring, .int), (cA_buffer, .int), (cB_buffer, .int), (cB_words, .int), (cB_serials, .int), (cB_lengths, .int), (cB_kinds, .int), (cB_owners, .int), (cB_olders, .int), (cB_links, .int), (cB_voids, .boolean), (cO, .long)] U ∧ va_D (fun _ => True) [(qA, .inr (0, [.ref qA_ring, .ref qA_buffer, .int A_firstPlace, .int A_forcedPlace, .int A_endPlace, .int A_wordsToFailure, .int A_opened])), (qA_ring, .inl (cA_ring, 65536, .inl A_ring)), (qA_buffer, .inl (cA_buffer, 200, .inl A_buffer)), (qB, .inr (1, [.int B_thrown, .ref qB_buffer, .ref qB_words, .ref qB_serials, .ref qB_lengths, .ref qB_kinds, .ref qB_owners, .ref qB_olders, .ref qB_links, .ref qB_voids, .int B_base, .int B_count, .int B_first, .int B_forced, .int B_end, .int B_closed, .int B_left, .int B_begun, .int B_begunLength])), (qB_buffer, .inl (cB_buffer, 200, .inl B_buffer)), (qB_words, .inl (cB_words, 65536, .inl B_words)), (qB_serials, .inl (cB_serials, 4400, .inl B_serials)), (qB_lengths, .inl (cB_lengths, 4400, .inl B_lengths)), (qB_kinds, .inl (cB_kinds, 4400, .inl B_kinds)), (qB_owners, .inl (cB_owners, 4400, .inl B_owners)), (qB_olders, .inl (cB_olders, 4400, .inl B_olders)), (qB_links, .inl (cB_links, 4400, .inl B_links)), (qB_voids, .inl (cB_voids, 4400, .inl B_voids)), (qO, .inl (cO, 1, .inr (.inl O_v)))])
abbrev pcX_ABO (dC : Nat → ClassId) (dI : Nat → Nat → Nat) (qA qA_ring qA_buffer qB qB_buffer qB_words qB_serials qB_lengths qB_kinds qB_owners qB_olders qB_links qB_voids qO : Nat) (cA_ring cA_buffer cB_buffer cB_words cB_serials cB_lengths cB_kinds cB_owners cB_olders cB_links cB_voids cO : ClassId) (sz : Nat) (A_ring : Nat → Int32) (A_buffer : Nat → Int32) (A_firstPlace : Int32) (A_forcedPlace : Int32) (A_endPlace : Int32) (A_wordsToFailure : Int32) (A_opened : Int32) (B_thrown : Int32) (B_buffer : Nat → Int32) (B_words : Nat → Int32) (B_serials : Nat → Int32) (B_lengths : Nat → Int32) (B_kinds : Nat → Int32) (B_owners : Nat → Int32) (B_olders : Nat → Int32) (B_links : Nat → Int32) (B_voids : Nat → Int32) (B_base : Int32) (B_count : Int32) (B_first : Int32) (B_forced : Int32) (B_end : Int32) (B_closed : Int32) (B_left : Int32) (B_begun : Int32) (B_begunLength : Int32) (O_v : Nat → Int64) (av : List Value) : Array Value → State → Prop := va_Pc av (fun U => U.heap.size = sz ∧ va_P (dC, dI) vwCl [(qA, .inr (0, [.ref qA_ring, .ref qA_buffer, .int A_firstPlace, .int A_forcedPlace, .int A_endPlace, .int A_wordsToFailure, .int A_opened])), (qA_ring, .inl (cA_ring, 65536, .inl A_ring)), (qA_buffer, .inl (cA_buffer, 200, .inl A_buffer)), (qB, .inr (1, [.int B_thrown, .ref qB_buffer, .ref qB_words, .ref qB_serials, .ref qB_lengths, .ref qB_kinds, .ref qB_owners, .ref qB_olders, .ref qB_links, .ref qB_voids, .int B_base, .int B_count, .int B_first, .int B_forced, .int B_end, .int B_closed, .int B_left, .int B_begun, .int B_begunLength])), (qB_buffer, .inl (cB_buffer, 200, .inl B_buffer)), (qB_words, .inl (cB_words, 65536, .inl B_words)), (qB_serials, .inl (cB_serials, 4400, .inl B_serials)), (qB_lengths, .inl (cB_lengths, 4400, .inl B_lengths)), (qB_kinds, .inl (cB_kinds, 4400, .inl B_kinds)), (qB_owners, .inl (cB_owners, 4400, .inl B_owners)), (qB_olders, .inl (cB_olders, 4400, .inl B_olders)), (qB_links, .inl (cB_links, 4400, .inl B_links)), (qB_voids, .inl (cB_voids, 4400, .inl B_voids)), (qO, .inl (cO, 1, .inr (.inl O_v)))] U.heap ∧ va_K (dC, dI) vwCl [(cA_ring, .int), (cA_buffer, .int), (cB_buffer, .int), (cB_words, .int), (cB_serials, .int), (cB_lengths, .int), (cB_kinds, .int), (cB_owners, .int), (cB_olders, .int), (cB_links, .int), (cB_voids, .boolean), (cO, .long)] U ∧ va_D (fun _ => True) [(qA, .inr (0, [.ref qA_ring, .ref qA_buffer, .int A_firstPlace, .int A_forcedPlace, .int A_endPlace, .int A_wordsToFailure, .int A_opened])), (qA_ring, .inl (cA_ring, 65536, .inl A_ring)), (qA_buffer, .inl (cA_buffer, 200, .inl A_buffer)), (qB, .inr (1, [.int B_thrown, .ref qB_buffer, .ref qB_words, .ref qB_serials, .ref qB_lengths, .ref qB_kinds, .ref qB_owners, .ref qB_olders, .ref qB_links, .ref qB_voids, .int B_base, .int B_count, .int B_first, .int B_forced, .int B_end, .int B_closed, .int B_left, .int B_begun, .int B_begunLength])), (qB_buffer, .inl (cB_buffer, 200, .inl B_buffer)), (qB_words, .inl (cB_words, 65536, .inl B_words)), (qB_serials, .inl (cB_serials, 4400, .inl B_serials)), (qB_lengths, .inl (cB_lengths, 4400, .inl B_lengths)), (qB_kinds, .inl (cB_kinds, 4400, .inl B_kinds)), (qB_owners, .inl (cB_owners, 4400, .inl B_owners)), (qB_olders, .inl (cB_olders, 4400, .inl B_olders)), (qB_links, .inl (cB_links, 4400, .inl B_links)), (qB_voids, .inl (cB_voids, 4400, .inl B_voids)), (qO, .inl (cO, 1, .inr (.inl O_v)))] ∧ XW (va_A [(qA, .inr (0, [.ref qA_ring, .ref qA_buffer, .int A_firstPlace, .int A_forcedPlace, .int A_endPlace, .int A_wordsToFailure, .int A_opened])), (qA_ring, .inl (cA_ring, 65536, .inl A_ring)), (qA_buffer, .inl (cA_buffer, 200, .inl A_buffer)), (qB, .inr (1, [.int B_thrown, .ref qB_buffer, .ref qB_words, .ref qB_serials, .ref qB_lengths, .ref qB_kinds, .ref qB_owners, .ref qB_olders, .ref qB_links, .ref qB_voids, .int B_base, .int B_count, .int B_first, .int B_forced, .int B_end, .int B_closed, .int B_left, .int B_begun, .int B_begunLength])), (qB_buffer, .inl (cB_buffer, 200, .inl B_buffer)), (qB_words, .inl (cB_words, 65536, .inl B_words)), (qB_serials, .inl (cB_serials, 4400, .inl B_serials)), (qB_lengths, .inl (cB_lengths, 4400, .inl B_lengths)), (qB_kinds, .inl (cB_kinds, 4400, .inl B_kinds)), (qB_owners, .inl (cB_owners, 4400, .inl B_owners)), (qB_olders, .inl (cB_olders, 4400, .inl B_olders)), (qB_links, .inl (cB_links, 4400, .inl B_links)), (qB_voids, .inl (cB_voids, 4400, .inl B_voids)), (qO, .inl (cO, 1, .inr (.inl O_v)))] sz) U)
theorem pcR_ABO_b (dC : Nat → ClassId) (dI : Nat → Nat → Nat) (qA qA_ring qA_buffer qB qB_buffer qB_words qB_serials qB_lengths qB_kinds qB_owners qB_olders qB_links qB_voids qO : Nat) (cA_ring cA_buffer cB_buffer cB_words cB_serials cB_lengths cB_kinds cB_owners cB_olders cB_links cB_voids cO : ClassId) (A_ring : Nat → Int32) (A_buffer : Nat → Int32) (A_firstPlace : Int32) (A_forcedPlace : Int32) (A_endPlace : Int32) (A_wordsToFailure : Int32) (A_opened : Int32) (B_thrown : Int32) (B_buffer : Nat → Int32) (B_words : Nat → Int32) (B_serials : Nat → Int32) (B_lengths : Nat → Int32) (B_kinds : Nat → Int32) (B_owners : Nat → Int32) (B_olders : Nat → Int32) (B_links : Nat → Int32) (B_voids : Nat → Int32) (B_base : Int32) (B_count : Int32) (B_first : Int32) (B_forced : Int32) (B_end : Int32) (B_closed : Int32) (B_left : Int32) (B_begun : Int32) (B_begunLength : Int32) (O_v : Nat → Int64) (av : List Value) : FrameBlind (pcR_ABO dC dI qA qA_ring qA_buffer qB qB_buffer qB_words qB_serials qB_lengths qB_kinds qB_owners qB_olders qB_links qB_voids qO cA_ring cA_buffer cB_buffer cB_words cB_serials cB_lengths cB_kinds cB_owners cB_olders cB_links cB_voids cO A_ring A_buffer A_firstPlace A_forcedPlace A_endPlace A_wordsToFailure A_opened B_thrown B_buffer B_words B_serials B_lengths B_kinds B_owners B_olders B_links B_voids B_base B_count B_first B_forced B_end B_closed B_left B_begun B_begunLength O_v av) := fun a U g mk q => by
  obtain ⟨q0, qP, qK⟩ := q
  exact ⟨q0, qP, va_K.moved (u := U) (U := U.calling g mk a) (Vm.Alike.refl U.vm) qK⟩
theorem pcW_ABO_b (dC : Nat → ClassId) (dI : Nat → Nat → Nat) (qA qA_ring qA_buffer qB qB_buffer qB_words qB_serials qB_lengths qB_kinds qB_owners qB_olders qB_links qB_voids qO : Nat) (cA_ring cA_buffer cB_buffer cB_words cB_serials cB_lengths cB_kinds cB_owners cB_olders cB_links cB_voids cO : ClassId) (sz : Nat) (A_ring : Nat → Int32) (A_buffer : Nat → Int32) (A_firstPlace : Int32) (A_forcedPlace : Int32) (A_endPlace : Int32) (A_wordsToFailure : Int32) (A_opened : Int32) (B_thrown : Int32) (B_buffer : Nat → Int32) (B_words : Nat → Int32) (B_serials : Nat → Int32) (B_lengths : Nat → Int32) (B_kinds : Nat → Int32) (B_owners : Nat → Int32) (B_olders : Nat → Int32) (B_links : Nat → Int32) (B_voids : Nat → Int32) (B_base : Int32) (B_count : Int32) (B_first : Int32) (B_forced : Int32) (B_end : Int32) (B_closed : Int32) (B_left : Int32) (B_begun : Int32) (B_begunLength : Int32) (O_v : Nat → Int64) (av : List Value) : FrameBlind (pcW_ABO dC dI qA qA_ring qA_buffer qB qB_buffer qB_words qB_serials qB_lengths qB_kinds qB_owners qB_olders qB_links qB_voids qO cA_ring cA_buffer cB_buffer cB_words cB_serials cB_lengths cB_kinds cB_owners cB_olders cB_links cB_voids cO sz A_ring A_buffer A_firstPlace A_forcedPlace A_endPlace A_wordsToFailure A_opened B_thrown B_buffer B_words B_serials B_lengths B_kinds B_owners B_olders B_links B_voids B_base B_count B_first B_forced B_end B_closed B_left B_begun B_begunLength O_v av) := fun a U g mk q => by
  obtain ⟨q0, q1, qP, qK, qD⟩ := q
  exact ⟨q0, q1, qP, va_K.moved (u := U) (U := U.calling g mk a) (Vm.Alike.refl U.vm) qK, qD⟩
theorem pcX_ABO_b (dC : Nat → ClassId) (dI : Nat → Nat → Nat) (qA qA_ring qA_buffer qB qB_buffer qB_words qB_serials qB_lengths qB_kinds qB_owners qB_olders qB_links qB_voids qO : Nat) (cA_ring cA_buffer cB_buffer cB_words cB_serials cB_lengths cB_kinds cB_owners cB_olders cB_links cB_voids cO : ClassId) (sz : Nat) (A_ring : Nat → Int32) (A_buffer : Nat → Int32) (A_firstPlace : Int32) (A_forcedPlace : Int32) (A_endPlace : Int32) (A_wordsToFailure : Int32) (A_opened : Int32) (B_thrown : Int32) (B_buffer : Nat → Int32) (B_words : Nat → Int32) (B_serials : Nat → Int32) (B_lengths : Nat → Int32) (B_kinds : Nat → Int32) (B_owners : Nat → Int32) (B_olders : Nat → Int32) (B_links : Nat → Int32) (B_voids : Nat → Int32) (B_base : Int32) (B_count : Int32) (B_first : Int32) (B_forced : Int32) (B_end : Int32) (B_closed : Int32) (B_left : Int32) (B_begun : Int32) (B_begunLength : Int32) (O_v : Nat → Int64) (av : List Value) : FrameBlind (pcX_ABO dC dI qA qA_ring qA_buffer qB qB_buffer qB_words qB_serials qB_lengths qB_kinds qB_owners qB_olders qB_links qB_voids qO cA_ring cA_buffer cB_buffer cB_words cB_serials cB_lengths cB_kinds cB_owners cB_olders cB_links cB_voids cO sz A_ring A_buffer A_firstPlace A_forcedPlace A_endPlace A_wordsToFailure A_opened B_thrown B_buffer B_words B_serials B_lengths B_kinds B_owners B_olders B_links B_voids B_base B_count B_first B_forced B_end B_closed B_left B_begun B_begunLength O_v av) := fun a U g mk q => by
  obtain ⟨q0, q1, qP, qK, qD, qX⟩ := q
  exact ⟨q0, q1, qP, va_K.moved (u := U) (U := U.calling g mk a) (Vm.Alike.refl U.vm) qK, qD, XW.blind qX⟩
abbrev atx_A (dC : Nat → ClassId) (dI : Nat → Nat → Nat) (A : Nat → Prop) (qA qA_ring qA_buffer : Nat) (cA_ring cA_buffer : ClassId) (E : String) (u : String × St_A) (t : State) : Prop := E = u.1 ∧ at_A dC dI A qA qA_ring qA_buffer cA_ring cA_buffer u.2 t
end
section
set_option maxHeartbeats 4000000 in
set_option maxRecDepth 100000 in
theorem met_X0_init (l : Launch) (dC : Nat → ClassId) (dI : Nat → Nat → Nat) (qA : Nat) (sz : Nat) :
    Met l yX0_init wsX0_init ({ frames := 1, cells := 2, slots := 65736, locals := 24 } : Room) (va_Pc [.ref qA] (fun U => U.heap.size = sz ∧ va_P (dC, dI) vwCl [(qA, .inr (0, [.null, .null, .int 0, .int 0, .int 0, .int 0, .int 0]))] U.heap ∧ va_K (dC, dI) vwCl [] U ∧ va_D (fun _ => True) [(qA, .inr (0, [.null, .null, .int 0, .int 0, .int 0, .int 0, .int 0]))])) (va_Qv (fun _ : Unit => True) (fun _ t => ∃ (qA_ring qA_buffer : Nat) (cA_ring cA_buffer : ClassId), at_A dC dI (va_A [(qA, .inr (0, [.null, .null, .int 0, .int 0, .int 0, .int 0, .int 0]))] sz) qA qA_ring qA_buffer cA_ring cA_buffer ((fun _ => 0), (fun _ => 0), (0 : Int32), (0 : Int32), (0 : Int32), (-1 : Int32), (1 : Int32)) t) (va_A [(qA, .inr (0, [.null, .null, .int 0, .int 0, .int 0, .int 0, .int 0]))] sz)) 2 65736 (va_A [(qA, .inr (0, [.null, .null, .int 0, .int 0, .int 0, .int 0, .int 0]))] sz) := by
  refine Met.ofW (cc := cX0_init) (maxL := 1) (ret := none) (by decide) rfl ?_
  intro p e s m args below meth c s₁ B hml hv
  obtain ⟨hav, hsz, hP, hK, hD0⟩ := hv
  have hx := B.exec
  have hb := B.bytes
  have hr := B.returns
  have hts := atoms_spec (ws := wsX0_init) B.pre
  have hbg : ∀ w ∈ bigW, w.before args s = true := fun w h => hts w (List.mem_cons_of_mem _ h)
  have hown : s.vm.findClass RX0 = some m.cls := findClass_of_methodNamed B.named
  have hlocks := B.notSynchronized
  have hin : meth.name = "<init>" := (name_of_methodNamed B.named B.method).1
  subst hsz
  have hD := hD0.self (sz := s.heap.size)
  generalize hAe : va_A [(qA, .inr (0, [.null, .null, .int 0, .int 0, .int 0, .int 0, .int 0]))] s.heap.size = A at hD ⊢
  have hA : ∀ q : Nat, s.heap.size ≤ q → A q := fun q h => by rw [← hAe]; exact Or.inr h
  have hS : va_S A s.heap s.heap [] := va_S.rf
  have hl := lv_entry ([.ref qA]) (n := 1) (Nat.le_of_ble_eq_true rfl)
  rw [show entryFrame m args 1 = entryFrame m ([.ref qA] : List Value).toArray 1 by rw [hav], lg_entry_eq]
  generalize (lg_sl ([.ref qA]) ++ List.replicate (1 - (lg_sl ([.ref qA])).length) Slot.unset).toArray = ls at hl ⊢
  have hl : lv_has ls 1 [(0, .ref qA)] := hl
  refine lv_aload_n hx hb dX0_init_0 rfl (lv_at hl 0 rfl) ?_
  refine W.objInit hx hb hown (hbg _ kw_176) (hbg _ kw_177) (hbg _ kw_178) rfl (by rw [hml]; exact hl.1) rfl dX0_init_1 (Nat.le_of_ble_eq_true rfl) (Nat.le_of_ble_eq_true rfl) ?_
  refine W.eq (g2 := F0 m 4 ls []) rfl ?_
  refine lv_aload_n hx hb dX0_init_4 rfl (lv_at hl 0 rfl) ?_
  refine lv_ldc (v := (65536 : Int32)) hx hb hown (hbg _ kw_87) dX0_init_5 ?_
  refine va_newa (atype := .int) hx hb (hbg _ kw_179) (ty := .int) rfl hK hP hD hS hA (N' := 65536) (a0 := (65536, .inl (fun _ => 0))) (fun _ => rfl) (by decide) (by decide) (by decide) (Nat.le_of_ble_eq_true rfl) (Nat.le_of_ble_eq_true rfl) dX0_init_7 (fun q1 cq1 H7 hK hP hD hS => ?_)
  have hP : va_P (dC, dI) vwCl [(qA, .inr (0, [.null, .null, .int 0, .int 0, .int 0, .int 0, .int 0])), (q1, .inl (cq1, 65536, .inl (fun _ => 0)))] H7 := hP
  have hD : va_D A [(qA, .inr (0, [.null, .null, .int 0, .int 0, .int 0, .int 0, .int 0])), (q1, .inl (cq1, 65536, .inl (fun _ => 0)))] := hD
  have hK : va_K (dC, dI) vwCl [(cq1, .int)] s := hK
  refine W.widen (k := 1) (n := 65536) (Nat.le_of_ble_eq_true rfl) (Nat.le_of_ble_eq_true rfl) ?_
  refine va_putF (D := (dC, dI)) (ci := 0) (v := .ref q1) (ty := (.array .int)) (C := RX0) (T := TX0) (N := 7) hx hb hbg in_X0 tyX0 tyX0_ok nmX0 hown hK hP hD hS 0 rfl rfl 0 (by decide) (hbg _ kw_0) (fun _ h9 => h9) rfl hin rfl (by decide +kernel) rfl rfl (Nat.le_of_ble_eq_true rfl) dX0_init_9 (fun H9 locs hP hD hS => ?_)
  have hP : va_P (dC, dI) vwCl [(qA, .inr (0, [.ref q1, .null, .int 0, .int 0, .int 0, .int 0, .int 0])), (q1, .inl (cq1, 65536, .inl (fun _ => 0)))] H9 := hP
  have hD : va_D A [(qA, .inr (0, [.ref q1, .null, .int 0, .int 0, .int 0, .int 0, .int 0])), (q1, .inl (cq1, 65536, .inl (fun _ => 0)))] := hD
  refine lv_aload_n hx hb dX0_init_12 rfl (lv_at hl 0 rfl) ?_
  refine lv_sipush (v := (200 : Int32)) hx hb dX0_init_13 (by decide) ?_
  refine va_newa (atype := .int) hx hb (hbg _ kw_179) (ty := .int) rfl hK hP hD hS hA (N' := 200) (a0 := (200, .inl (fun _ => 0))) (fun _ => rfl) (by decide) (by decide) (by decide) (Nat.le_of_ble_eq_true rfl) (Nat.le_of_ble_eq_true rfl) dX0_init_16 (fun q3 cq3 H16 hK hP hD hS => ?_)
  have hP : va_P (dC, dI) vwCl [(qA, .inr (0, [.ref q1, .null, .int 0, .int 0, .int 0, .int 0, .int 0])), (q1, .inl (cq1, 65536, .inl (fun _ => 0))), (q3, .inl (cq3, 200, .inl (fun _ => 0)))] H16 := hP
  have hD : va_D A [(qA, .inr (0, [.ref q1, .null, .int 0, .int 0, .int 0, .int 0, .int 0])), (q1, .inl (cq1, 65536, .inl (fun _ => 0))), (q3, .inl (cq3, 200, .inl (fun _ => 0)))] := hD
  have hK : va_K (dC, dI) vwCl [(cq1, .int), (cq3, .int)] s := hK
  refine W.widen (k := 2) (n := 65736) (Nat.le_of_ble_eq_true rfl) (Nat.le_of_ble_eq_true rfl) ?_
  refine va_putF (D := (dC, dI)) (ci := 0) (v := .ref q3) (ty := (.array .int)) (C := RX0) (T := TX0) (N := 7) hx hb hbg in_X0 tyX0 tyX0_ok nmX0 hown hK hP hD hS 0 rfl rfl 1 (by decide) (hbg _ kw_46) (fun _ h9 => h9) rfl hin rfl (by decide +kernel) rfl rfl (Nat.le_of_ble_eq_true rfl) dX0_init_18 (fun H18 locs hP hD hS => ?_)
  have hP : va_P (dC, dI) vwCl [(qA, .inr (0, [.ref q1, .ref q3, .int 0, .int 0, .int 0, .int 0, .int 0])), (q1, .inl (cq1, 65536, .inl (fun _ => 0))), (q3, .inl (cq3, 200, .inl (fun _ => 0)))] H18 := hP
  have hD : va_D A [(qA, .inr (0, [.ref q1, .ref q3, .int 0, .int 0, .int 0, .int 0, .int 0])), (q1, .inl (cq1, 65536, .inl (fun _ => 0))), (q3, .inl (cq3, 200, .inl (fun _ => 0)))] := hD
  refine lv_aload_n hx hb dX0_init_21 rfl (lv_at hl 0 rfl) ?_
  refine lv_iconst (v := (0 : Int32)) hx hb dX0_init_22 (by decide) ?_
  refine va_put (D := (dC, dI)) (ci := 0) (v := .int (0 : Int32)) (ty := .int) (C := RX0) (T := TX0) (N := 7) hx hb hbg in_X0 tyX0 tyX0_ok nmX0 hown hK hP hD hS 0 rfl rfl 2 (by decide) (hbg _ kw_2) (fun _ h9 => h9) rfl (by decide +kernel) rfl rfl (Nat.le_of_ble_eq_true rfl) dX0_init_23 (fun H23 locs hP hD hS => ?_)
  have hP : va_P (dC, dI) vwCl [(qA, .inr (0, [.ref q1, .ref q3, .int (0 : Int32), .int 0, .int 0, .int 0, .int 0])), (q1, .inl (cq1, 65536, .inl (fun _ => 0))), (q3, .inl (cq3, 200, .inl (fun _ => 0)))] H23 := hP
  have hD : va_D A [(qA, .inr (0, [.ref q1, .ref q3, .int (0 : Int32), .int 0, .int 0, .int 0, .int 0])), (q1, .inl (cq1, 65536, .inl (fun _ => 0))), (q3, .inl (cq3, 200, .inl (fun _ => 0)))] := hD
  refine lv_aload_n hx hb dX0_init_26 rfl (lv_at hl 0 rfl) ?_
  refine lv_iconst (v := (0 : Int32)) hx hb dX0_init_27 (by decide) ?_
  refine va_put (D := (dC, dI)) (ci := 0) (v := .int (0 : Int32)) (ty := .int) (C := RX0) (T := TX0) (N := 7) hx hb hbg in_X0 tyX0 tyX0_ok nmX0 hown hK hP hD hS 0 rfl rfl 3 (by decide) (hbg _ kw_51) (fun _ h9 => h9) rfl (by decide +kernel) rfl rfl (Nat.le_of_ble_eq_true rfl) dX0_init_28 (fun H28 locs hP hD hS => ?_)
  have hP : va_P (dC, dI) vwCl [(qA, .inr (0, [.ref q1, .ref q3, .int (0 : Int32), .int (0 : Int32), .int 0, .int 0, .int 0])), (q1, .inl (cq1, 65536, .inl (fun _ => 0))), (q3, .inl (cq3, 200, .inl (fun _ => 0)))] H28 := hP
  have hD : va_D A [(qA, .inr (0, [.ref q1, .ref q3, .int (0 : Int32), .int (0 : Int32), .int 0, .int 0, .int 0])), (q1, .inl (cq1, 65536, .inl (fun _ => 0))), (q3, .inl (cq3, 200, .inl (fun _ => 0)))] := hD
  refine lv_aload_n hx hb dX0_init_31 rfl (lv_at hl 0 rfl) ?_
  refine lv_iconst (v := (0 : Int32)) hx hb dX0_init_32 (by decide) ?_
  refine va_put (D := (dC, dI)) (ci := 0) (v := .int (0 : Int32)) (ty := .int) (C := RX0) (T := TX0) (N := 7) hx hb hbg in_X0 tyX0 tyX0_ok nmX0 hown hK hP hD hS 0 rfl rfl 4 (by decide) (hbg _ kw_12) (fun _ h9 => h9) rfl (by decide +kernel) rfl rfl (Nat.le_of_ble_eq_true rfl) dX0_init_33 (fun H33 locs hP hD hS => ?_)
  have hP : va_P (dC, dI) vwCl [(qA, .inr (0, [.ref q1, .ref q3, .int (0 : Int32), .int (0 : Int32), .int (0 : Int32), .int 0, .int 0])), (q1, .inl (cq1, 65536, .inl (fun _ => 0))), (q3, .inl (cq3, 200, .inl (fun _ => 0)))] H33 := hP
  have hD : va_D A [(qA, .inr (0, [.ref q1, .ref q3, .int (0 : Int32), .int (0 : Int32), .int (0 : Int32), .int 0, .int 0])), (q1, .inl (cq1, 65536, .inl (fun _ => 0))), (q3, .inl (cq3, 200, .inl (fun _ => 0)))] := hD
  refine lv_aload_n hx hb dX0_init_36 rfl (lv_at hl 0 rfl) ?_
  refine lv_iconst (v := (-1 : Int32)) hx hb dX0_init_37 (by decide) ?_
  refine va_put (D := (dC, dI)) (ci := 0) (v := .int (-1 : Int32)) (ty := .int) (C := RX0) (T := TX0) (N := 7) hx hb hbg in_X0 tyX0 tyX0_ok nmX0 hown hK hP hD hS 0 rfl rfl 5 (by decide) (hbg _ kw_52) (fun _ h9 => h9) rfl (by decide +kernel) rfl rfl (Nat.le_of_ble_eq_true rfl) dX0_init_38 (fun H38 locs hP hD hS => ?_)
  have hP : va_P (dC, dI) vwCl [(qA, .inr (0, [.ref q1, .ref q3, .int (0 : Int32), .int (0 : Int32), .int (0 : Int32), .int (-1 : Int32), .int 0])), (q1, .inl (cq1, 65536, .inl (fun _ => 0))), (q3, .inl (cq3, 200, .inl (fun _ => 0)))] H38 := hP
  have hD : va_D A [(qA, .inr (0, [.ref q1, .ref q3, .int (0 : Int32), .int (0 : Int32), .int (0 : Int32), .int (-1 : Int32), .int 0])), (q1, .inl (cq1, 65536, .inl (fun _ => 0))), (q3, .inl (cq3, 200, .inl (fun _ => 0)))] := hD
  refine lv_aload_n hx hb dX0_init_41 rfl (lv_at hl 0 rfl) ?_
  refine lv_iconst (v := (1 : Int32)) hx hb dX0_init_42 (by decide) ?_
  refine va_put (D := (dC, dI)) (ci := 0) (v := .int (1 : Int32)) (ty := .boolean) (C := RX0) (T := TX0) (N := 7) hx hb hbg in_X0 tyX0 tyX0_ok nmX0 hown hK hP hD hS 0 rfl rfl 6 (by decide) (hbg _ kw_45) (fun _ h9 => h9) rfl (by decide +kernel) rfl rfl (Nat.le_of_ble_eq_true rfl) dX0_init_43 (fun H43 locs hP hD hS => ?_)
  have hP : va_P (dC, dI) vwCl [(qA, .inr (0, [.ref q1, .ref q3, .int (0 : Int32), .int (0 : Int32), .int (0 : Int32), .int (-1 : Int32), .int (1 : Int32)])), (q1, .inl (cq1, 65536, .inl (fun _ => 0))), (q3, .inl (cq3, 200, .inl (fun _ => 0)))] H43 := hP
  have hD : va_D A [(qA, .inr (0, [.ref q1, .ref q3, .int (0 : Int32), .int (0 : Int32), .int (0 : Int32), .int (-1 : Int32), .int (1 : Int32)])), (q1, .inl (cq1, 65536, .inl (fun _ => 0))), (q3, .inl (cq3, 200, .inl (fun _ => 0)))] := hD
  have hP9 := hP.sub (ws' := [(qA, .inr (0, [.ref q1, .ref q3, .int (0 : Int32), .int (0 : Int32), .int (0 : Int32), .int (-1 : Int32), .int (1 : Int32)])), (q1, .inl (cq1, 65536, .inl (fun _ => 0))), (q3, .inl (cq3, 200, .inl (fun _ => 0)))]) [0, 1, 2] rfl
  have hD9 := hD.sub (ws' := [(qA, .inr (0, [.ref q1, .ref q3, .int (0 : Int32), .int (0 : Int32), .int (0 : Int32), .int (-1 : Int32), .int (1 : Int32)])), (q1, .inl (cq1, 65536, .inl (fun _ => 0))), (q3, .inl (cq3, 200, .inl (fun _ => 0)))]) [0, 1, 2] (by decide) rfl
  have hK9 := hK.sub (tys' := [(cq1, .int), (cq3, .int)]) [0, 1] rfl
  exact W.vret hx hb hr (fun t ht hW => ⟨⟨(), rfl, trivial, q1, q3, cq1, cq3, by rw [ht]; exact hP9, va_K.moved hW.alike hK9, hD9⟩, hS.F ht⟩) hS.2.2 dX0_init_46
end
section
def wp_X0_wordAt (post : Int32 → Prop) (x1 : Int32) (A_ring : Nat → Int32) (A_buffer : Nat → Int32) (A_firstPlace : Int32) (A_forcedPlace : Int32) (A_endPlace : Int32) (A_wordsToFailure : Int32) (A_opened : Int32) : Prop :=
  vp_in (x1 &&& (65535 : Int32)) 65536 ∧ (post (A_ring (x1 &&& (65535 : Int32)).toNatClampNeg))
set_option maxHeartbeats 4000000 in
set_option maxRecDepth 100000 in
theorem met_X0_wordAt (l : Launch) (dC : Nat → ClassId) (dI : Nat → Nat → Nat) (qA qA_ring qA_buffer : Nat) (cA_ring cA_buffer : ClassId) (A_ring : Nat → Int32) (A_buffer : Nat → Int32) (A_firstPlace : Int32) (A_forcedPlace : Int32) (A_endPlace : Int32) (A_wordsToFailure : Int32) (A_opened : Int32) (x1 : Int32) (post : Int32 → Prop) (hw : wp_X0_wordAt post x1 A_ring A_buffer A_firstPlace A_forcedPlace A_endPlace A_wordsToFailure A_opened) :
    Met l yX0_wordAt wsX0_wordAt ({ frames := 0, cells := 0, slots := 0, locals := 0 } : Room) (pcR_A dC dI qA qA_ring qA_buffer cA_ring cA_buffer A_ring A_buffer A_firstPlace A_forcedPlace A_endPlace A_wordsToFailure A_opened [.ref qA, .int x1]) (vp_Si post) 0 0 (fun _ => False) := by
  refine Met.ofW (cc := cX0_wordAt) (maxL := 2) (ret := (some .int)) (by decide) rfl ?_
  intro p e s m args below meth c s₁ B hml hv
  obtain ⟨hav, hP, hK⟩ := hv
  have hx := B.exec
  have hb := B.bytes
  have hr := B.returns
  have hts := atoms_spec (ws := wsX0_wordAt) B.pre
  have hbg : ∀ w ∈ bigW, w.before args s = true := fun w h => hts w (List.mem_cons_of_mem _ h)
  have hown : s.vm.findClass RX0 = some m.cls := findClass_of_methodNamed B.named
  have hlocks := B.notSynchronized
  have hP : va_P (dC, dI) vwCl [(qA, .inr (0, [.ref qA_ring, .ref qA_buffer, .int A_firstPlace, .int A_forcedPlace, .int A_endPlace, .int A_wordsToFailure, .int A_opened])), (qA_ring, .inl (cA_ring, 65536, .inl A_ring)), (qA_buffer, .inl (cA_buffer, 200, .inl A_buffer))] s.heap := hP
  generalize hQQ : MQ below (vp_Si post) args s 0 0 (fun _ => False) = QQ
  have hl := lv_entry ([.ref qA, .int x1]) (n := 2) (Nat.le_of_ble_eq_true rfl)
  rw [show entryFrame m args 2 = entryFrame m ([.ref qA, .int x1] : List Value).toArray 2 by rw [hav], lg_entry_eq]
  generalize (lg_sl ([.ref qA, .int x1]) ++ List.replicate (2 - (lg_sl ([.ref qA, .int x1])).length) Slot.unset).toArray = ls at hl ⊢
  have hl : lv_has ls 2 [(0, .ref qA), (1, .int x1)] := hl
  unfold wp_X0_wordAt at hw
  refine lv_aload_n hx hb dX0_wordAt_0 rfl (lv_at hl 0 rfl) ?_
  refine va_get (D := (dC, dI)) (ci := 0) (v := .ref qA_ring) (C := RX0) (T := TX0) (N := 7) hx hb hbg in_X0 hown hK hP 0 rfl rfl 0 (by decide) (hbg _ kw_0) (fun _ h9 => h9) rfl dX0_wordAt_1 ?_
  refine lv_iload_n hx hb dX0_wordAt_4 rfl (lv_at hl 1 rfl) ?_
  refine lv_ldc (v := (65535 : Int32)) hx hb hown (hbg _ kw_1) dX0_wordAt_5 ?_
  refine lv_iand hx hb dX0_wordAt_7 ?_
  obtain ⟨h_1, hw⟩ := hw
  refine va_iald hx hb hK hP 1 0 rfl rfl h_1 dX0_wordAt_8 ?_
  subst hQQ
  exact W.iret (v := A_ring (x1 &&& (65535 : Int32)).toNatClampNeg) hx hb hr (fun t ht _ => ⟨A_ring (x1 &&& (65535 : Int32)).toNatClampNeg, rfl, hw, ht⟩) (by simp) dX0_wordAt_9
def wl_X0_lastRecordBefore_4 (post : Int32 → Prop) (A_ring : Nat → Int32) (A_buffer : Nat → Int32) (A_firstPlace : Int32) (A_forcedPlace : Int32) (A_endPlace : Int32) (A_wordsToFailure : Int32) (A_opened : Int32) (k4_1 : Int32) : Nat → Int32 → Int32 → Prop
  | 0, _, _ => False
  | n4 + 1, y4_2, y4_3 =>
    (((13107 : Int32) ≤ y4_3 → post (-1 : Int32)) ∧ (¬ (13107 : Int32) ≤ y4_3 → ((y4_2 ≤ A_firstPlace → post (-1 : Int32)) ∧ (¬ y4_2 ≤ A_firstPlace → wp_X0_wordAt (fun r_1 => (∀ v2_2 : Int32, v2_2 = (y4_2 - (if 0 ≤ r_1 then r_1 else 0 - r_1)) → ((r_1 ≤ (0 : Int32) → wl_X0_lastRecordBefore_4 post A_ring A_buffer A_firstPlace A_forcedPlace A_endPlace A_wordsToFailure A_opened k4_1 n4 v2_2 (y4_3 + (1 : Int32))) ∧ (¬ r_1 ≤ (0 : Int32) → post v2_2)))) (y4_2 - (1 : Int32)) A_ring A_buffer A_firstPlace A_forcedPlace A_endPlace A_wordsToFailure A_opened))))
def wp_X0_lastRecordBefore (post : Int32 → Prop) (x1 : Int32) (A_ring : Nat → Int32) (A_buffer : Nat → Int32) (A_firstPlace : Int32) (A_forcedPlace : Int32) (A_endPlace : Int32) (A_wordsToFailure : Int32) (A_opened : Int32) : Prop :=
  ∃ n, wl_X0_lastRecordBefore_4 post A_ring A_buffer A_firstPlace A_forcedPlace A_endPlace A_wordsToFailure A_opened x1 n x1 (0 : Int32)
set_option maxHeartbeats 4000000 in
set_option maxRecDepth 100000 in
theorem met_X0_lastRecordBefore (l : Launch) (dC : Nat → ClassId) (dI : Nat → Nat → Nat) (qA qA_ring qA_buffer : Nat) (cA_ring cA_buffer : ClassId) (A_ring : Nat → Int32) (A_buffer : Nat → Int32) (A_firstPlace : Int32) (A_forcedPlace : Int32) (A_endPlace : Int32) (A_wordsToFailure : Int32) (A_opened : Int32) (x1 : Int32) (post : Int32 → Prop) (hw : wp_X0_lastRecordBefore post x1 A_ring A_buffer A_firstPlace A_forcedPlace A_endPlace A_wordsToFailure A_opened) :
    Met l yX0_lastRecordBefore wsX0_lastRecordBefore ({ frames := 1, cells := 0, slots := 0, locals := 24 } : Room) (pcR_A dC dI qA qA_ring qA_buffer cA_ring cA_buffer A_ring A_buffer A_firstPlace A_forcedPlace A_endPlace A_wordsToFailure A_opened [.ref qA, .int x1]) (vp_Si post) 0 0 (fun _ => False) := by
  refine Met.ofW (cc := cX0_lastRecordBefore) (maxL := 5) (ret := (some .int)) (by decide) rfl ?_
  intro p e s m args below meth c s₁ B hml hv
  obtain ⟨hav, hP, hK⟩ := hv
  have hx := B.exec
  have hb := B.bytes
  have hr := B.returns
  have hts := atoms_spec (ws := wsX0_lastRecordBefore) B.pre
  have hbg : ∀ w ∈ bigW, w.before args s = true := fun w h => hts w (List.mem_cons_of_mem _ h)
  have hown : s.vm.findClass RX0 = some m.cls := findClass_of_methodNamed B.named
  have hlocks := B.notSynchronized
  have hP : va_P (dC, dI) vwCl [(qA, .inr (0, [.ref qA_ring, .ref qA_buffer, .int A_firstPlace, .int A_forcedPlace, .int A_endPlace, .int A_wordsToFailure, .int A_opened])), (qA_ring, .inl (cA_ring, 65536, .inl A_ring)), (qA_buffer, .inl (cA_buffer, 200, .inl A_buffer))] s.heap := hP
  generalize hQQ : MQ below (vp_Si post) args s 0 0 (fun _ => False) = QQ
  have hl := lv_entry ([.ref qA, .int x1]) (n := 5) (Nat.le_of_ble_eq_true rfl)
  rw [show entryFrame m args 5 = entryFrame m ([.ref qA, .int x1] : List Value).toArray 5 by rw [hav], lg_entry_eq]
  generalize (lg_sl ([.ref qA, .int x1]) ++ List.replicate (5 - (lg_sl ([.ref qA, .int x1])).length) Slot.unset).toArray = ls at hl ⊢
  have hl : lv_has ls 5 [(0, .ref qA), (1, .int x1)] := hl
  unfold wp_X0_lastRecordBefore at hw
  have hL4 : ∀ (n4 : Nat) (k4_1 : Int32) (y4_2 : Int32) (y4_3 : Int32), wl_X0_lastRecordBefore_4 post A_ring A_buffer A_firstPlace A_forcedPlace A_endPlace A_wordsToFailure A_opened k4_1 n4 y4_2 y4_3 → ∀ ls : Array Slot, lv_has ls 5 [(0, .ref qA), (1, .int k4_1), (2, .int y4_2), (3, .int y4_3)] → W p l e (headSpec wsX0_lastRecordBefore ({ frames := 1, cells := 0, slots := 0, locals := 24 } : Room)).room s m args below meth c s.heap [] 0 0 QQ (F0 m 4 ls []) := by
    intro n4
    induction n4 with
    | zero => intro k4_1 y4_2 y4_3 hw; exact False.elim hw
    | succ n4 ih4 =>
      intro k4_1 y4_2 y4_3 hw ls hl
      rw [wl_X0_lastRecordBefore_4] at hw
      refine lv_iload_n hx hb dX0_lastRecordBefore_4 rfl (lv_at hl 3 rfl) ?_
      refine lv_sipush (v := (13107 : Int32)) hx hb dX0_lastRecordBefore_5 (by decide) ?_
      refine lv_icmp_ge (tgt := 49) hx hb dX0_lastRecordBefore_8 (by decide) (fun c9 => ?_) (fun c9 => ?_)
      · have hw := hw.1 c9
        refine lv_iconst (v := (-1 : Int32)) hx hb dX0_lastRecordBefore_49 (by decide) ?_
        subst hQQ
        exact W.iret (v := (-1 : Int32)) hx hb hr (fun t ht _ => ⟨(-1 : Int32), rfl, hw, ht⟩) (by simp) dX0_lastRecordBefore_50
      · have hw := hw.2 c9
        refine lv_iload_n hx hb dX0_lastRecordBefore_11 rfl (lv_at hl 2 rfl) ?_
        refine lv_aload_n hx hb dX0_lastRecordBefore_12 rfl (lv_at hl 0 rfl) ?_
        refine va_get (D := (dC, dI)) (ci := 0) (v := .int A_firstPlace) (C := RX0) (T := TX0) (N := 7) hx hb hbg in_X0 hown hK hP 0 rfl rfl 2 (by decide) (hbg _ kw_2) (fun _ h9 => h9) rfl dX0_lastRecordBefore_13 ?_
        refine lv_icmp_le (tgt := 49) hx hb dX0_lastRecordBefore_16 (by decide) (fun c9 => ?_) (fun c9 => ?_)
        · have hw := hw.1 c9
          refine lv_iconst (v := (-1 : Int32)) hx hb dX0_lastRecordBefore_49 (by decide) ?_
          subst hQQ
          exact W.iret (v := (-1 : Int32)) hx hb hr (fun t ht _ => ⟨(-1 : Int32), rfl, hw, ht⟩) (by simp) dX0_lastRecordBefore_50
        · have hw := hw.2 c9
          refine lv_aload_n hx hb dX0_lastRecordBefore_19 rfl (lv_at hl 0 rfl) ?_
          refine lv_iload_n hx hb dX0_lastRecordBefore_20 rfl (lv_at hl 2 rfl) ?_
          refine lv_iconst (v := (1 : Int32)) hx hb dX0_lastRecordBefore_21 (by decide) ?_
          refine lv_isub hx hb dX0_lastRecordBefore_22 ?_
          refine vp_callSi (W.runV (As := [.int (y4_2 - (1 : Int32))]) (rest := []) ⟨hx, hb, hml, hown, hbg⟩ (met_X0_wordAt l dC dI qA qA_ring qA_buffer cA_ring cA_buffer A_ring A_buffer A_firstPlace A_forcedPlace A_endPlace A_wordsToFailure A_opened (y4_2 - (1 : Int32)) _ hw) (cwV 1 hbg g_RX0_97 rfl rfl rfl (by decide +kernel) ⟨Nat.le_of_ble_eq_true rfl, Nat.le_of_ble_eq_true rfl⟩) ⟨pcR_A_b _ _ _ _ _ _ _ _ _ _ _ _ _ _ _, va_recv hK hP (ci := 0) (q0 := 0) rfl rfl, fun U hU hW => ⟨rfl, by rw [hU]; exact hP, va_K.moved hW.alike hK⟩⟩ rfl rfl hl.1 rfl (lv_room (Nat.le_of_ble_eq_true rfl)) dX0_lastRecordBefore_23 ⟨Nat.le_of_ble_eq_true rfl, Nat.le_of_ble_eq_true rfl⟩) (fun r_1 hw => ?_)
          try dsimp only at hw
          refine lv_istore (lv' := [(4, .int r_1), (0, .ref qA), (1, .int k4_1), (2, .int y4_2), (3, .int y4_3)]) hx hb dX0_lastRecordBefore_26 hl (by decide) rfl (fun ls hl => ?_)
          refine lv_iload_n hx hb dX0_lastRecordBefore_28 rfl (lv_at hl 3 rfl) ?_
          refine lv_iload hx hb dX0_lastRecordBefore_29 (lv_at hl 0 rfl) ?_
          refine va_mabs hx hb (hml.trans hl.1.symm) hown (hbg _ kw_8) (hbg _ kw_9) (hbg _ kw_10) (hbg _ kw_11) (Nat.le_of_ble_eq_true rfl) (Nat.le_of_ble_eq_true rfl) (Nat.le_of_ble_eq_true rfl) (Nat.le_of_ble_eq_true rfl) dX0_lastRecordBefore_31 ?_
          refine lv_isub hx hb dX0_lastRecordBefore_34 ?_
          refine lv_topi (fun v2_2 ev2_2 => ?_)
          have hw := hw v2_2 ev2_2
          refine lv_istore_n (lv' := [(2, .int v2_2), (4, .int r_1), (0, .ref qA), (1, .int k4_1), (3, .int y4_3)]) hx hb dX0_lastRecordBefore_35 rfl hl (by decide) rfl (fun ls hl => ?_)
          refine lv_iload hx hb dX0_lastRecordBefore_36 (lv_at hl 1 rfl) ?_
          refine lv_if_le (tgt := 43) hx hb dX0_lastRecordBefore_38 (by decide) (fun c9 => ?_) (fun c9 => ?_)
          · have hw := hw.1 c9
            refine lv_iinc (v := y4_3 + (1 : Int32)) (lv' := [(3, .int (y4_3 + (1 : Int32))), (2, .int v2_2), (4, .int r_1), (0, .ref qA), (1, .int k4_1)]) hx hb dX0_lastRecordBefore_43 hl (k := 4) rfl rfl (by decide) rfl (fun ls hl => ?_)
            refine lv_goto (tgt := 4) hx hb dX0_lastRecordBefore_46 (by decide) ?_
            exact ih4 k4_1 v2_2 (y4_3 + (1 : Int32)) hw ls (lv_sub hl [3, 4, 1, 0] rfl)
          · have hw := hw.2 c9
            refine lv_iload_n hx hb dX0_lastRecordBefore_41 rfl (lv_at hl 0 rfl) ?_
            subst hQQ
            exact W.iret (v := v2_2) hx hb hr (fun t ht _ => ⟨v2_2, rfl, hw, ht⟩) (by simp) dX0_lastRecordBefore_42
  refine lv_iload_n hx hb dX0_lastRecordBefore_0 rfl (lv_at hl 1 rfl) ?_
  refine lv_istore_n (lv' := [(2, .int x1), (0, .ref qA), (1, .int x1)]) hx hb dX0_lastRecordBefore_1 rfl hl (by decide) rfl (fun ls hl => ?_)
  refine lv_iconst (v := (0 : Int32)) hx hb dX0_lastRecordBefore_2 (by decide) ?_
  refine lv_istore_n (lv' := [(3, .int (0 : Int32)), (2, .int x1), (0, .ref qA), (1, .int x1)]) hx hb dX0_lastRecordBefore_3 rfl hl (by decide) rfl (fun ls hl => ?_)
  obtain ⟨n9, hw⟩ := hw
  exact hL4 n9 x1 x1 (0 : Int32) hw ls (lv_sub hl [2, 3, 1, 0] rfl)
def wp_X0_ownerAt (post : Int32 → Prop) (x1 : Int32) (A_ring : Nat → Int32) (A_buffer : Nat → Int32) (A_firstPlace : Int32) (A_forcedPlace : Int32) (A_endPlace : Int32) (A_wordsToFailure : Int32) (A_opened : Int32) : Prop :=
  wp_X0_wordAt (fun r_1 => post (r_1 / (16 : Int32))) (x1 + (1 : Int32)) A_ring A_buffer A_firstPlace A_forcedPlace A_endPlace A_wordsToFailure A_opened
set_option maxHeartbeats 4000000 in
set_option maxRecDepth 100000 in
theorem met_X0_ownerAt (l : Launch) (dC : Nat → ClassId) (dI : Nat → Nat → Nat) (qA qA_ring qA_buffer : Nat) (cA_ring cA_buffer : ClassId) (A_ring : Nat → Int32) (A_buffer : Nat → Int32) (A_firstPlace : Int32) (A_forcedPlace : Int32) (A_endPlace : Int32) (A_wordsToFailure : Int32) (A_opened : Int32) (x1 : Int32) (post : Int32 → Prop) (hw : wp_X0_ownerAt post x1 A_ring A_buffer A_firstPlace A_forcedPlace A_endPlace A_wordsToFailure A_opened) :
    Met l yX0_ownerAt wsX0_ownerAt ({ frames := 1, cells := 0, slots := 0, locals := 21 } : Room) (pcR_A dC dI qA qA_ring qA_buffer cA_ring cA_buffer A_ring A_buffer A_firstPlace A_forcedPlace A_endPlace A_wordsToFailure A_opened [.ref qA, .int x1]) (vp_Si post) 0 0 (fun _ => False) := by
  refine Met.ofW (cc := cX0_ownerAt) (maxL := 2) (ret := (some .int)) (by decide) rfl ?_
  intro p e s m args below meth c s₁ B hml hv
  obtain ⟨hav, hP, hK⟩ := hv
  have hx := B.exec
  have hb := B.bytes
  have hr := B.returns
  have hts := atoms_spec (ws := wsX0_ownerAt) B.pre
  have hbg : ∀ w ∈ bigW, w.before args s = true := fun w h => hts w (List.mem_cons_of_mem _ h)
  have hown : s.vm.findClass RX0 = some m.cls := findClass_of_methodNamed B.named
  have hlocks := B.notSynchronized
  have hP : va_P (dC, dI) vwCl [(qA, .inr (0, [.ref qA_ring, .ref qA_buffer, .int A_firstPlace, .int A_forcedPlace, .int A_endPlace, .int A_wordsToFailure, .int A_opened])), (qA_ring, .inl (cA_ring, 65536, .inl A_ring)), (qA_buffer, .inl (cA_buffer, 200, .inl A_buffer))] s.heap := hP
  generalize hQQ : MQ below (vp_Si post) args s 0 0 (fun _ => False) = QQ
  have hl := lv_entry ([.ref qA, .int x1]) (n := 2) (Nat.le_of_ble_eq_true rfl)
  rw [show entryFrame m args 2 = entryFrame m ([.ref qA, .int x1] : List Value).toArray 2 by rw [hav], lg_entry_eq]
  generalize (lg_sl ([.ref qA, .int x1]) ++ List.replicate (2 - (lg_sl ([.ref qA, .int x1])).length) Slot.unset).toArray = ls at hl ⊢
  have hl : lv_has ls 2 [(0, .ref qA), (1, .int x1)] := hl
  unfold wp_X0_ownerAt at hw
  refine lv_aload_n hx hb dX0_ownerAt_0 rfl (lv_at hl 0 rfl) ?_
  refine lv_iload_n hx hb dX0_ownerAt_1 rfl (lv_at hl 1 rfl) ?_
  refine lv_iconst (v := (1 : Int32)) hx hb dX0_ownerAt_2 (by decide) ?_
  refine lv_iadd hx hb dX0_ownerAt_3 ?_
  refine vp_callSi (W.runV (As := [.int (x1 + (1 : Int32))]) (rest := []) ⟨hx, hb, hml, hown, hbg⟩ (met_X0_wordAt l dC dI qA qA_ring qA_buffer cA_ring cA_buffer A_ring A_buffer A_firstPlace A_forcedPlace A_endPlace A_wordsToFailure A_opened (x1 + (1 : Int32)) _ hw) (cwV 1 hbg g_RX0_97 rfl rfl rfl (by decide +kernel) ⟨Nat.le_of_ble_eq_true rfl, Nat.le_of_ble_eq_true rfl⟩) ⟨pcR_A_b _ _ _ _ _ _ _ _ _ _ _ _ _ _ _, va_recv hK hP (ci := 0) (q0 := 0) rfl rfl, fun U hU hW => ⟨rfl, by rw [hU]; exact hP, va_K.moved hW.alike hK⟩⟩ rfl rfl hl.1 rfl (lv_room (Nat.le_of_ble_eq_true rfl)) dX0_ownerAt_4 ⟨Nat.le_of_ble_eq_true rfl, Nat.le_of_ble_eq_true rfl⟩) (fun r_1 hw => ?_)
  try dsimp only at hw
  refine lv_bipush (v := (16 : Int32)) hx hb dX0_ownerAt_7 (by decide) ?_
  refine lv_idiv hx hb dX0_ownerAt_9 (by decide) ?_
  subst hQQ
  exact W.iret (v := r_1 / (16 : Int32)) hx hb hr (fun t ht _ => ⟨r_1 / (16 : Int32), rfl, hw, ht⟩) (by simp) dX0_ownerAt_10
def wl_X0_lastRecordOf_11 (post : Int32 → Prop) (A_ring : Nat → Int32) (A_buffer : Nat → Int32) (A_firstPlace : Int32) (A_forcedPlace : Int32) (A_endPlace : Int32) (A_wordsToFailure : Int32) (A_opened : Int32) (k11_1 : Int32) : Nat → Int32 → Int32 → Prop
  | 0, _, _ => False
  | n11 + 1, y11_2, y11_3 =>
    (((13107 : Int32) ≤ y11_3 → post (-1 : Int32)) ∧ (¬ (13107 : Int32) ≤ y11_3 → ((y11_2 = (-1 : Int32) → post (-1 : Int32)) ∧ (¬ y11_2 = (-1 : Int32) → wp_X0_ownerAt (fun r_1 => ((r_1 = k11_1 → post y11_2) ∧ (¬ r_1 = k11_1 → wp_X0_lastRecordBefore (fun r_2 => wl_X0_lastRecordOf_11 post A_ring A_buffer A_firstPlace A_forcedPlace A_endPlace A_wordsToFailure A_opened k11_1 n11 r_2 (y11_3 + (1 : Int32))) y11_2 A_ring A_buffer A_firstPlace A_forcedPlace A_endPlace A_wordsToFailure A_opened))) y11_2 A_ring A_buffer A_firstPlace A_forcedPlace A_endPlace A_wordsToFailure A_opened))))
def wp_X0_lastRecordOf (post : Int32 → Prop) (x1 : Int32) (A_ring : Nat → Int32) (A_buffer : Nat → Int32) (A_firstPlace : Int32) (A_forcedPlace : Int32) (A_endPlace : Int32) (A_wordsToFailure : Int32) (A_opened : Int32) : Prop :=
  wp_X0_lastRecordBefore (fun r_3 => ∃ n, wl_X0_lastRecordOf_11 post A_ring A_buffer A_firstPlace A_forcedPlace A_endPlace A_wordsToFailure A_opened x1 n r_3 (0 : Int32)) A_endPlace A_ring A_buffer A_firstPlace A_forcedPlace A_endPlace A_wordsToFailure A_opened
set_option maxHeartbeats 4000000 in
set_option maxRecDepth 100000 in
theorem met_X0_lastRecordOf (l : Launch) (dC : Nat → ClassId) (dI : Nat → Nat → Nat) (qA qA_ring qA_buffer : Nat) (cA_ring cA_buffer : ClassId) (A_ring : Nat → Int32) (A_buffer : Nat → Int32) (A_firstPlace : Int32) (A_forcedPlace : Int32) (A_endPlace : Int32) (A_wordsToFailure : Int32) (A_opened : Int32) (x1 : Int32) (post : Int32 → Prop) (hw : wp_X0_lastRecordOf post x1 A_ring A_buffer A_firstPlace A_forcedPlace A_endPlace A_wordsToFailure A_opened) :
    Met l yX0_lastRecordOf wsX0_lastRecordOf ({ frames := 2, cells := 0, slots := 0, locals := 48 } : Room) (pcR_A dC dI qA qA_ring qA_buffer cA_ring cA_buffer A_ring A_buffer A_firstPlace A_forcedPlace A_endPlace A_wordsToFailure A_opened [.ref qA, .int x1]) (vp_Si post) 0 0 (fun _ => False) := by
  refine Met.ofW (cc := cX0_lastRecordOf) (maxL := 4) (ret := (some .int)) (by decide) rfl ?_
  intro p e s m args below meth c s₁ B hml hv
  obtain ⟨hav, hP, hK⟩ := hv
  have hx := B.exec
  have hb := B.bytes
  have hr := B.returns
  have hts := atoms_spec (ws := wsX0_lastRecordOf) B.pre
  have hbg : ∀ w ∈ bigW, w.before args s = true := fun w h => hts w (List.mem_cons_of_mem _ h)
  have hown : s.vm.findClass RX0 = some m.cls := findClass_of_methodNamed B.named
  have hlocks := B.notSynchronized
  have hP : va_P (dC, dI) vwCl [(qA, .inr (0, [.ref qA_ring, .ref qA_buffer, .int A_firstPlace, .int A_forcedPlace, .int A_endPlace, .int A_wordsToFailure, .int A_opened])), (qA_ring, .inl (cA_ring, 65536, .inl A_ring)), (qA_buffer, .inl (cA_buffer, 200, .inl A_buffer))] s.heap := hP
  generalize hQQ : MQ below (vp_Si post) args s 0 0 (fun _ => False) = QQ
  have hl := lv_entry ([.ref qA, .int x1]) (n := 4) (Nat.le_of_ble_eq_true rfl)
  rw [show entryFrame m args 4 = entryFrame m ([.ref qA, .int x1] : List Value).toArray 4 by rw [hav], lg_entry_eq]
  generalize (lg_sl ([.ref qA, .int x1]) ++ List.replicate (4 - (lg_sl ([.ref qA, .int x1])).length) Slot.unset).toArray = ls at hl ⊢
  have hl : lv_has ls 4 [(0, .ref qA), (1, .int x1)] := hl
  unfold wp_X0_lastRecordOf at hw
  have hL11 : ∀ (n11 : Nat) (k11_1 : Int32) (y11_2 : Int32) (y11_3 : Int32), wl_X0_lastRecordOf_11 post A_ring A_buffer A_firstPlace A_forcedPlace A_endPlace A_wordsToFailure A_opened k11_1 n11 y11_2 y11_3 → ∀ ls : Array Slot, lv_has ls 4 [(0, .ref qA), (1, .int k11_1), (2, .int y11_2), (3, .int y11_3)] → W p l e (headSpec wsX0_lastRecordOf ({ frames := 2, cells := 0, slots := 0, locals := 48 } : Room)).room s m args below meth c s.heap [] 0 0 QQ (F0 m 11 ls []) := by
    intro n11
    induction n11 with
    | zero => intro k11_1 y11_2 y11_3 hw; exact False.elim hw
    | succ n11 ih11 =>
      intro k11_1 y11_2 y11_3 hw ls hl
      rw [wl_X0_lastRecordOf_11] at hw
      refine lv_iload_n hx hb dX0_lastRecordOf_11 rfl (lv_at hl 3 rfl) ?_
      refine lv_sipush (v := (13107 : Int32)) hx hb dX0_lastRecordOf_12 (by decide) ?_
      refine lv_icmp_ge (tgt := 46) hx hb dX0_lastRecordOf_15 (by decide) (fun c9 => ?_) (fun c9 => ?_)
      · have hw := hw.1 c9
        refine lv_iconst (v := (-1 : Int32)) hx hb dX0_lastRecordOf_46 (by decide) ?_
        subst hQQ
        exact W.iret (v := (-1 : Int32)) hx hb hr (fun t ht _ => ⟨(-1 : Int32), rfl, hw, ht⟩) (by simp) dX0_lastRecordOf_47
      · have hw := hw.2 c9
        refine lv_iload_n hx hb dX0_lastRecordOf_18 rfl (lv_at hl 2 rfl) ?_
        refine lv_iconst (v := (-1 : Int32)) hx hb dX0_lastRecordOf_19 (by decide) ?_
        refine lv_icmp_eq (tgt := 46) hx hb dX0_lastRecordOf_20 (by decide) (fun c9 => ?_) (fun c9 => ?_)
        · have hw := hw.1 c9
          refine lv_iconst (v := (-1 : Int32)) hx hb dX0_lastRecordOf_46 (by decide) ?_
          subst hQQ
          exact W.iret (v := (-1 : Int32)) hx hb hr (fun t ht _ => ⟨(-1 : Int32), rfl, hw, ht⟩) (by simp) dX0_lastRecordOf_47
        · have hw := hw.2 c9
          refine lv_aload_n hx hb dX0_lastRecordOf_23 rfl (lv_at hl 0 rfl) ?_
          refine lv_iload_n hx hb dX0_lastRecordOf_24 rfl (lv_at hl 2 rfl) ?_
          refine vp_callSi (W.runV (As := [.int y11_2]) (rest := []) ⟨hx, hb, hml, hown, hbg⟩ (met_X0_ownerAt l dC dI qA qA_ring qA_buffer cA_ring cA_buffer A_ring A_buffer A_firstPlace A_forcedPlace A_endPlace A_wordsToFailure A_opened y11_2 _ hw) (cwV 1 hbg g_RX0_94 rfl rfl rfl (by decide +kernel) ⟨Nat.le_of_ble_eq_true rfl, Nat.le_of_ble_eq_true rfl⟩) ⟨pcR_A_b _ _ _ _ _ _ _ _ _ _ _ _ _ _ _, va_recv hK hP (ci := 0) (q0 := 0) rfl rfl, fun U hU hW => ⟨rfl, by rw [hU]; exact hP, va_K.moved hW.alike hK⟩⟩ rfl rfl hl.1 rfl (lv_room (Nat.le_of_ble_eq_true rfl)) dX0_lastRecordOf_25 ⟨Nat.le_of_ble_eq_true rfl, Nat.le_of_ble_eq_true rfl⟩) (fun r_1 hw => ?_)
          try dsimp only at hw
          refine lv_iload_n hx hb dX0_lastRecordOf_28 rfl (lv_at hl 1 rfl) ?_
          refine lv_icmp_ne (tgt := 34) hx hb dX0_lastRecordOf_29 (by decide) (fun c9 => ?_) (fun c9 => ?_)
          · have hw := hw.2 c9
            refine lv_aload_n hx hb dX0_lastRecordOf_34 rfl (lv_at hl 0 rfl) ?_
            refine lv_iload_n hx hb dX0_lastRecordOf_35 rfl (lv_at hl 2 rfl) ?_
            refine vp_callSi (W.runV (As := [.int y11_2]) (rest := []) ⟨hx, hb, hml, hown, hbg⟩ (met_X0_lastRecordBefore l dC dI qA qA_ring qA_buffer cA_ring cA_buffer A_ring A_buffer A_firstPlace A_forcedPlace A_endPlace A_wordsToFailure A_opened y11_2 _ hw) (cwV 1 hbg g_RX0_88 rfl rfl rfl (by decide +kernel) ⟨Nat.le_of_ble_eq_true rfl, Nat.le_of_ble_eq_true rfl⟩) ⟨pcR_A_b _ _ _ _ _ _ _ _ _ _ _ _ _ _ _, va_recv hK hP (ci := 0) (q0 := 0) rfl rfl, fun U hU hW => ⟨rfl, by rw [hU]; exact hP, va_K.moved hW.alike hK⟩⟩ rfl rfl hl.1 rfl (lv_room (Nat.le_of_ble_eq_true rfl)) dX0_lastRecordOf_36 ⟨Nat.le_of_ble_eq_true rfl, Nat.le_of_ble_eq_true rfl⟩) (fun r_2 hw => ?_)
            try dsimp only at hw
            refine lv_istore_n (lv' := [(2, .int r_2), (0, .ref qA), (1, .int k11_1), (3, .int y11_3)]) hx hb dX0_lastRecordOf_39 rfl hl (by decide) rfl (fun ls hl => ?_)
            refine lv_iinc (v := y11_3 + (1 : Int32)) (lv' := [(3, .int (y11_3 + (1 : Int32))), (2, .int r_2), (0, .ref qA), (1, .int k11_1)]) hx hb dX0_lastRecordOf_40 hl (k := 3) rfl rfl (by decide) rfl (fun ls hl => ?_)
            refine lv_goto (tgt := 11) hx hb dX0_lastRecordOf_43 (by decide) ?_
            exact ih11 k11_1 r_2 (y11_3 + (1 : Int32)) hw ls (lv_sub hl [2, 3, 1, 0] rfl)
          · have hw := hw.1 c9
            refine lv_iload_n hx hb dX0_lastRecordOf_32 rfl (lv_at hl 2 rfl) ?_
            subst hQQ
            exact W.iret (v := y11_2) hx hb hr (fun t ht _ => ⟨y11_2, rfl, hw, ht⟩) (by simp) dX0_lastRecordOf_33
  refine lv_aload_n hx hb dX0_lastRecordOf_0 rfl (lv_at hl 0 rfl) ?_
  refine lv_aload_n hx hb dX0_lastRecordOf_1 rfl (lv_at hl 0 rfl) ?_
  refine va_get (D := (dC, dI)) (ci := 0) (v := .int A_endPlace) (C := RX0) (T := TX0) (N := 7) hx hb hbg in_X0 hown hK hP 0 rfl rfl 4 (by decide) (hbg _ kw_12) (fun _ h9 => h9) rfl dX0_lastRecordOf_2 ?_
  refine vp_callSi (W.runV (As := [.int A_endPlace]) (rest := []) ⟨hx, hb, hml, hown, hbg⟩ (met_X0_lastRecordBefore l dC dI qA qA_ring qA_buffer cA_ring cA_buffer A_ring A_buffer A_firstPlace A_forcedPlace A_endPlace A_wordsToFailure A_opened A_endPlace _ hw) (cwV 1 hbg g_RX0_88 rfl rfl rfl (by decide +kernel) ⟨Nat.le_of_ble_eq_true rfl, Nat.le_of_ble_eq_true rfl⟩) ⟨pcR_A_b _ _ _ _ _ _ _ _ _ _ _ _ _ _ _, va_recv hK hP (ci := 0) (q0 := 0) rfl rfl, fun U hU hW => ⟨rfl, by rw [hU]; exact hP, va_K.moved hW.alike hK⟩⟩ rfl rfl hl.1 rfl (lv_room (Nat.le_of_ble_eq_true rfl)) dX0_lastRecordOf_5 ⟨Nat.le_of_ble_eq_true rfl, Nat.le_of_ble_eq_true rfl⟩) (fun r_3 hw => ?_)
  try dsimp only at hw
  refine lv_istore_n (lv' := [(2, .int r_3), (0, .ref qA), (1, .int x1)]) hx hb dX0_lastRecordOf_8 rfl hl (by decide) rfl (fun ls hl => ?_)
  refine lv_iconst (v := (0 : Int32)) hx hb dX0_lastRecordOf_9 (by decide) ?_
  refine lv_istore_n (lv' := [(3, .int (0 : Int32)), (2, .int r_3), (0, .ref qA), (1, .int x1)]) hx hb dX0_lastRecordOf_10 rfl hl (by decide) rfl (fun ls hl => ?_)
  obtain ⟨n9, hw⟩ := hw
  exact hL11 n9 x1 r_3 (0 : Int32) hw ls (lv_sub hl [2, 3, 1, 0] rfl)
def wp_X0_behind (post : Int32 → Prop) (x1 : Int32) (A_ring : Nat → Int32) (A_buffer : Nat → Int32) (A_firstPlace : Int32) (A_forcedPlace : Int32) (A_endPlace : Int32) (A_wordsToFailure : Int32) (A_opened : Int32) : Prop :=
  wp_X0_wordAt (fun r_1 => post (x1 + r_1)) x1 A_ring A_buffer A_firstPlace A_forcedPlace A_endPlace A_wordsToFailure A_opened
set_option maxHeartbeats 4000000 in
set_option maxRecDepth 100000 in
theorem met_X0_behind (l : Launch) (dC : Nat → ClassId) (dI : Nat → Nat → Nat) (qA qA_ring qA_buffer : Nat) (cA_ring cA_buffer : ClassId) (A_ring : Nat → Int32) (A_buffer : Nat → Int32) (A_firstPlace : Int32) (A_forcedPlace : Int32) (A_endPlace : Int32) (A_wordsToFailure : Int32) (A_opened : Int32) (x1 : Int32) (post : Int32 → Prop) (hw : wp_X0_behind post x1 A_ring A_buffer A_firstPlace A_forcedPlace A_endPlace A_wordsToFailure A_opened) :
    Met l yX0_behind wsX0_behind ({ frames := 1, cells := 0, slots := 0, locals := 21 } : Room) (pcR_A dC dI qA qA_ring qA_buffer cA_ring cA_buffer A_ring A_buffer A_firstPlace A_forcedPlace A_endPlace A_wordsToFailure A_opened [.ref qA, .int x1]) (vp_Si post) 0 0 (fun _ => False) := by
  refine Met.ofW (cc := cX0_behind) (maxL := 2) (ret := (some .int)) (by decide) rfl ?_
  intro p e s m args below meth c s₁ B hml hv
  obtain ⟨hav, hP, hK⟩ := hv
  have hx := B.exec
  have hb := B.bytes
  have hr := B.returns
  have hts := atoms_spec (ws := wsX0_behind) B.pre
  have hbg : ∀ w ∈ bigW, w.before args s = true := fun w h => hts w (List.mem_cons_of_mem _ h)
  have hown : s.vm.findClass RX0 = some m.cls := findClass_of_methodNamed B.named
  have hlocks := B.notSynchronized
  have hP : va_P (dC, dI) vwCl [(qA, .inr (0, [.ref qA_ring, .ref qA_buffer, .int A_firstPlace, .int A_forcedPlace, .int A_endPlace, .int A_wordsToFailure, .int A_opened])), (qA_ring, .inl (cA_ring, 65536, .inl A_ring)), (qA_buffer, .inl (cA_buffer, 200, .inl A_buffer))] s.heap := hP
  generalize hQQ : MQ below (vp_Si post) args s 0 0 (fun _ => False) = QQ
  have hl := lv_entry ([.ref qA, .int x1]) (n := 2) (Nat.le_of_ble_eq_true rfl)
  rw [show entryFrame m args 2 = entryFrame m ([.ref qA, .int x1] : List Value).toArray 2 by rw [hav], lg_entry_eq]
  generalize (lg_sl ([.ref qA, .int x1]) ++ List.replicate (2 - (lg_sl ([.ref qA, .int x1])).length) Slot.unset).toArray = ls at hl ⊢
  have hl : lv_has ls 2 [(0, .ref qA), (1, .int x1)] := hl
  unfold wp_X0_behind at hw
  refine lv_iload_n hx hb dX0_behind_0 rfl (lv_at hl 1 rfl) ?_
  refine lv_aload_n hx hb dX0_behind_1 rfl (lv_at hl 0 rfl) ?_
  refine lv_iload_n hx hb dX0_behind_2 rfl (lv_at hl 1 rfl) ?_
  refine vp_callSi (W.runV (As := [.int x1]) (rest := [.int x1]) ⟨hx, hb, hml, hown, hbg⟩ (met_X0_wordAt l dC dI qA qA_ring qA_buffer cA_ring cA_buffer A_ring A_buffer A_firstPlace A_forcedPlace A_endPlace A_wordsToFailure A_opened x1 _ hw) (cwV 1 hbg g_RX0_97 rfl rfl rfl (by decide +kernel) ⟨Nat.le_of_ble_eq_true rfl, Nat.le_of_ble_eq_true rfl⟩) ⟨pcR_A_b _ _ _ _ _ _ _ _ _ _ _ _ _ _ _, va_recv hK hP (ci := 0) (q0 := 0) rfl rfl, fun U hU hW => ⟨rfl, by rw [hU]; exact hP, va_K.moved hW.alike hK⟩⟩ rfl rfl hl.1 rfl (lv_room (Nat.le_of_ble_eq_true rfl)) dX0_behind_3 ⟨Nat.le_of_ble_eq_true rfl, Nat.le_of_ble_eq_true rfl⟩) (fun r_1 hw => ?_)
  try dsimp only at hw
  refine lv_iadd hx hb dX0_behind_6 ?_
  subst hQQ
  exact W.iret (v := x1 + r_1) hx hb hr (fun t ht _ => ⟨x1 + r_1, rfl, hw, ht⟩) (by simp) dX0_behind_7
def wp_X0_isVoid (post : Int32 → Prop) (x1 : Int32) (A_ring : Nat → Int32) (A_buffer : Nat → Int32) (A_firstPlace : Int32) (A_forcedPlace : Int32) (A_endPlace : Int32) (A_wordsToFailure : Int32) (A_opened : Int32) : Prop :=
  wp_X0_behind (fun r_1 => wp_X0_wordAt (fun r_2 => (((0 : Int32) ≤ r_2 → post (0 : Int32)) ∧ (¬ (0 : Int32) ≤ r_2 → post (1 : Int32)))) (r_1 - (1 : Int32)) A_ring A_buffer A_firstPlace A_forcedPlace A_endPlace A_wordsToFailure A_opened) x1 A_ring A_buffer A_firstPlace A_forcedPlace A_endPlace A_wordsToFailure A_opened
set_option maxHeartbeats 4000000 in
set_option maxRecDepth 100000 in
theorem met_X0_isVoid (l : Launch) (dC : Nat → ClassId) (dI : Nat → Nat → Nat) (qA qA_ring qA_buffer : Nat) (cA_ring cA_buffer : ClassId) (A_ring : Nat → Int32) (A_buffer : Nat → Int32) (A_firstPlace : Int32) (A_forcedPlace : Int32) (A_endPlace : Int32) (A_wordsToFailure : Int32) (A_opened : Int32) (x1 : Int32) (post : Int32 → Prop) (hw : wp_X0_isVoid post x1 A_ring A_buffer A_firstPlace A_forcedPlace A_endPlace A_wordsToFailure A_opened) :
    Met l yX0_isVoid wsX0_isVoid ({ frames := 2, cells := 0, slots := 0, locals := 42 } : Room) (pcR_A dC dI qA qA_ring qA_buffer cA_ring cA_buffer A_ring A_buffer A_firstPlace A_forcedPlace A_endPlace A_wordsToFailure A_opened [.ref qA, .int x1]) (vp_Si post) 0 0 (fun _ => False) := by
  refine Met.ofW (cc := cX0_isVoid) (maxL := 2) (ret := (some .boolean)) (by decide) rfl ?_
  intro p e s m args below meth c s₁ B hml hv
  obtain ⟨hav, hP, hK⟩ := hv
  have hx := B.exec
  have hb := B.bytes
  have hr := B.returns
  have hts := atoms_spec (ws := wsX0_isVoid) B.pre
  have hbg : ∀ w ∈ bigW, w.before args s = true := fun w h => hts w (List.mem_cons_of_mem _ h)
  have hown : s.vm.findClass RX0 = some m.cls := findClass_of_methodNamed B.named
  have hlocks := B.notSynchronized
  have hP : va_P (dC, dI) vwCl [(qA, .inr (0, [.ref qA_ring, .ref qA_buffer, .int A_firstPlace, .int A_forcedPlace, .int A_endPlace, .int A_wordsToFailure, .int A_opened])), (qA_ring, .inl (cA_ring, 65536, .inl A_ring)), (qA_buffer, .inl (cA_buffer, 200, .inl A_buffer))] s.heap := hP
  generalize hQQ : MQ below (vp_Si post) args s 0 0 (fun _ => False) = QQ
  have hl := lv_entry ([.ref qA, .int x1]) (n := 2) (Nat.le_of_ble_eq_true rfl)
  rw [show entryFrame m args 2 = entryFrame m ([.ref qA, .int x1] : List Value).toArray 2 by rw [hav], lg_entry_eq]
  generalize (lg_sl ([.ref qA, .int x1]) ++ List.replicate (2 - (lg_sl ([.ref qA, .int x1])).length) Slot.unset).toArray = ls at hl ⊢
  have hl : lv_has ls 2 [(0, .ref qA), (1, .int x1)] := hl
  unfold wp_X0_isVoid at hw
  refine lv_aload_n hx hb dX0_isVoid_0 rfl (lv_at hl 0 rfl) ?_
  refine lv_aload_n hx hb dX0_isVoid_1 rfl (lv_at hl 0 rfl) ?_
  refine lv_iload_n hx hb dX0_isVoid_2 rfl (lv_at hl 1 rfl) ?_
  refine vp_callSi (W.runV (As := [.int x1]) (rest := [.ref qA]) ⟨hx, hb, hml, hown, hbg⟩ (met_X0_behind l dC dI qA qA_ring qA_buffer cA_ring cA_buffer A_ring A_buffer A_firstPlace A_forcedPlace A_endPlace A_wordsToFailure A_opened x1 _ hw) (cwV 1 hbg g_RX0_74 rfl rfl rfl (by decide +kernel) ⟨Nat.le_of_ble_eq_true rfl, Nat.le_of_ble_eq_true rfl⟩) ⟨pcR_A_b _ _ _ _ _ _ _ _ _ _ _ _ _ _ _, va_recv hK hP (ci := 0) (q0 := 0) rfl rfl, fun U hU hW => ⟨rfl, by rw [hU]; exact hP, va_K.moved hW.alike hK⟩⟩ rfl rfl hl.1 rfl (lv_room (Nat.le_of_ble_eq_true rfl)) dX0_isVoid_3 ⟨Nat.le_of_ble_eq_true rfl, Nat.le_of_ble_eq_true rfl⟩) (fun r_1 hw => ?_)
  try dsimp only at hw
  refine lv_iconst (v := (1 : Int32)) hx hb dX0_isVoid_6 (by decide) ?_
  refine lv_isub hx hb dX0_isVoid_7 ?_
  refine vp_callSi (W.runV (As := [.int (r_1 - (1 : Int32))]) (rest := []) ⟨hx, hb, hml, hown, hbg⟩ (met_X0_wordAt l dC dI qA qA_ring qA_buffer cA_ring cA_buffer A_ring A_buffer A_firstPlace A_forcedPlace A_endPlace A_wordsToFailure A_opened (r_1 - (1 : Int32)) _ hw) (cwV 1 hbg g_RX0_97 rfl rfl rfl (by decide +kernel) ⟨Nat.le_of_ble_eq_true rfl, Nat.le_of_ble_eq_true rfl⟩) ⟨pcR_A_b _ _ _ _ _ _ _ _ _ _ _ _ _ _ _, va_recv hK hP (ci := 0) (q0 := 0) rfl rfl, fun U hU hW => ⟨rfl, by rw [hU]; exact hP, va_K.moved hW.alike hK⟩⟩ rfl rfl hl.1 rfl (lv_room (Nat.le_of_ble_eq_true rfl)) dX0_isVoid_8 ⟨Nat.le_of_ble_eq_true rfl, Nat.le_of_ble_eq_true rfl⟩) (fun r_2 hw => ?_)
  try dsimp only at hw
  refine lv_if_ge (tgt := 18) hx hb dX0_isVoid_11 (by decide) (fun c9 => ?_) (fun c9 => ?_)
  · have hw := hw.1 c9
    refine lv_iconst (v := (0 : Int32)) hx hb dX0_isVoid_18 (by decide) ?_
    subst hQQ
    exact W.zret (v := (0 : Int32)) hx hb hr rfl (fun t ht _ => ⟨(0 : Int32), rfl, hw, ht⟩) (by simp) dX0_isVoid_19
  · have hw := hw.2 c9
    refine lv_iconst (v := (1 : Int32)) hx hb dX0_isVoid_14 (by decide) ?_
    refine lv_goto (tgt := 19) hx hb dX0_isVoid_15 (by decide) ?_
    subst hQQ
    exact W.zret (v := (1 : Int32)) hx hb hr rfl (fun t ht _ => ⟨(1 : Int32), rfl, hw, ht⟩) (by simp) dX0_isVoid_19
def wc_X0_isRecord_39 (post : Int32 → Prop) (A_ring : Nat → Int32) (A_buffer : Nat → Int32) (A_firstPlace : Int32) (A_forcedPlace : Int32) (A_endPlace : Int32) (A_wordsToFailure : Int32) (A_opened : Int32) (k39_1 : Int32) (k39_2 : Int32) (k39_3 : Int32) : Prop :=
    ((k39_2 = k39_1 → ((A_endPlace ≤ k39_2 → post (0 : Int32)) ∧ (¬ A_endPlace ≤ k39_2 → wp_X0_isVoid (fun r_2 => ((r_2 = (0 : Int32) → post (1 : Int32)) ∧ (¬ r_2 = (0 : Int32) → post (0 : Int32)))) k39_2 A_ring A_buffer A_firstPlace A_forcedPlace A_endPlace A_wordsToFailure A_opened))) ∧ (¬ k39_2 = k39_1 → post (0 : Int32)))
def wl_X0_isRecord_7 (post : Int32 → Prop) (A_ring : Nat → Int32) (A_buffer : Nat → Int32) (A_firstPlace : Int32) (A_forcedPlace : Int32) (A_endPlace : Int32) (A_wordsToFailure : Int32) (A_opened : Int32) (k7_1 : Int32) : Nat → Int32 → Int32 → Prop
  | 0, _, _ => False
  | n7 + 1, y7_2, y7_3 =>
    (((13107 : Int32) ≤ y7_3 → wc_X0_isRecord_39 post A_ring A_buffer A_firstPlace A_forcedPlace A_endPlace A_wordsToFailure A_opened k7_1 y7_2 y7_3) ∧ (¬ (13107 : Int32) ≤ y7_3 → ((k7_1 ≤ y7_2 → wc_X0_isRecord_39 post A_ring A_buffer A_firstPlace A_forcedPlace A_endPlace A_wordsToFailure A_opened k7_1 y7_2 y7_3) ∧ (¬ k7_1 ≤ y7_2 → ((A_endPlace ≤ y7_2 → wc_X0_isRecord_39 post A_ring A_buffer A_firstPlace A_forcedPlace A_endPlace A_wordsToFailure A_opened k7_1 y7_2 y7_3) ∧ (¬ A_endPlace ≤ y7_2 → wp_X0_behind (fun r_1 => wl_X0_isRecord_7 post A_ring A_buffer A_firstPlace A_forcedPlace A_endPlace A_wordsToFailure A_opened k7_1 n7 r_1 (y7_3 + (1 : Int32))) y7_2 A_ring A_buffer A_firstPlace A_forcedPlace A_endPlace A_wordsToFailure A_opened))))))
def wp_X0_isRecord (post : Int32 → Prop) (x1 : Int32) (A_ring : Nat → Int32) (A_buffer : Nat → Int32) (A_firstPlace : Int32) (A_forcedPlace : Int32) (A_endPlace : Int32) (A_wordsToFailure : Int32) (A_opened : Int32) : Prop :=
  ∃ n, wl_X0_isRecord_7 post A_ring A_buffer A_firstPlace A_forcedPlace A_endPlace A_wordsToFailure A_opened x1 n A_firstPlace (0 : Int32)
set_option maxHeartbeats 4000000 in
set_option maxRecDepth 100000 in
theorem met_X0_isRecord (l : Launch) (dC : Nat → ClassId) (dI : Nat → Nat → Nat) (qA qA_ring qA_buffer : Nat) (cA_ring cA_buffer : ClassId) (A_ring : Nat → Int32) (A_buffer : Nat → Int32) (A_firstPlace : Int32) (A_forcedPlace : Int32) (A_endPlace : Int32) (A_wordsToFailure : Int32) (A_opened : Int32) (x1 : Int32) (post : Int32 → Prop) (hw : wp_X0_isRecord post x1 A_ring A_buffer A_firstPlace A_forcedPlace A_endPlace A_wordsToFailure A_opened) :
    Met l yX0_isRecord wsX0_isRecord ({ frames := 3, cells := 0, slots := 0, locals := 63 } : Room) (pcR_A dC dI qA qA_ring qA_buffer cA_ring cA_buffer A_ring A_buffer A_firstPlace A_forcedPlace A_endPlace A_wordsToFailure A_opened [.ref qA, .int x1]) (vp_Si post) 0 0 (fun _ => False) := by
  refine Met.ofW (cc := cX0_isRecord) (maxL := 4) (ret := (some .boolean)) (by decide) rfl ?_
  intro p e s m args below meth c s₁ B hml hv
  obtain ⟨hav, hP, hK⟩ := hv
  have hx := B.exec
  have hb := B.bytes
  have hr := B.returns
  have hts := atoms_spec (ws := wsX0_isRecord) B.pre
  have hbg : ∀ w ∈ bigW, w.before args s = true := fun w h => hts w (List.mem_cons_of_mem _ h)
  have hown : s.vm.findClass RX0 = some m.cls := findClass_of_methodNamed B.named
  have hlocks := B.notSynchronized
  have hP : va_P (dC, dI) vwCl [(qA, .inr (0, [.ref qA_ring, .ref qA_buffer, .int A_firstPlace, .int A_forcedPlace, .int A_endPlace, .int A_wordsToFailure, .int A_opened])), (qA_ring, .inl (cA_ring, 65536, .inl A_ring)), (qA_buffer, .inl (cA_buffer, 200, .inl A_buffer))] s.heap := hP
  generalize hQQ : MQ below (vp_Si post) args s 0 0 (fun _ => False) = QQ
  have hl := lv_entry ([.ref qA, .int x1]) (n := 4) (Nat.le_of_ble_eq_true rfl)
  rw [show entryFrame m args 4 = entryFrame m ([.ref qA, .int x1] : List Value).toArray 4 by rw [hav], lg_entry_eq]
  generalize (lg_sl ([.ref qA, .int x1]) ++ List.replicate (4 - (lg_sl ([.ref qA, .int x1])).length) Slot.unset).toArray = ls at hl ⊢
  have hl : lv_has ls 4 [(0, .ref qA), (1, .int x1)] := hl
  unfold wp_X0_isRecord at hw
  have hC39 : ∀ (k39_1 : Int32) (k39_2 : Int32) (k39_3 : Int32), wc_X0_isRecord_39 post A_ring A_buffer A_firstPlace A_forcedPlace A_endPlace A_wordsToFailure A_opened k39_1 k39_2 k39_3 → ∀ ls : Array Slot, lv_has ls 4 [(0, .ref qA), (1, .int k39_1), (2, .int k39_2), (3, .int k39_3)] → W p l e (headSpec wsX0_isRecord ({ frames := 3, cells := 0, slots := 0, locals := 63 } : Room)).room s m args below meth c s.heap [] 0 0 QQ (F0 m 39 ls []) := by
    intro k39_1 k39_2 k39_3 hw ls hl
    unfold wc_X0_isRecord_39 at hw
    refine lv_iload_n hx hb dX0_isRecord_39 rfl (lv_at hl 2 rfl) ?_
    refine lv_iload_n hx hb dX0_isRecord_40 rfl (lv_at hl 1 rfl) ?_
    refine lv_icmp_ne (tgt := 64) hx hb dX0_isRecord_41 (by decide) (fun c9 => ?_) (fun c9 => ?_)
    · have hw := hw.2 c9
      refine lv_iconst (v := (0 : Int32)) hx hb dX0_isRecord_64 (by decide) ?_
      subst hQQ
      exact W.zret (v := (0 : Int32)) hx hb hr rfl (fun t ht _ => ⟨(0 : Int32), rfl, hw, ht⟩) (by simp) dX0_isRecord_65
    · have hw := hw.1 c9
      refine lv_iload_n hx hb dX0_isRecord_44 rfl (lv_at hl 2 rfl) ?_
      refine lv_aload_n hx hb dX0_isRecord_45 rfl (lv_at hl 0 rfl) ?_
      refine va_get (D := (dC, dI)) (ci := 0) (v := .int A_endPlace) (C := RX0) (T := TX0) (N := 7) hx hb hbg in_X0 hown hK hP 0 rfl rfl 4 (by decide) (hbg _ kw_12) (fun _ h9 => h9) rfl dX0_isRecord_46 ?_
      refine lv_icmp_ge (tgt := 64) hx hb dX0_isRecord_49 (by decide) (fun c9 => ?_) (fun c9 => ?_)
      · have hw := hw.1 c9
        refine lv_iconst (v := (0 : Int32)) hx hb dX0_isRecord_64 (by decide) ?_
        subst hQQ
        exact W.zret (v := (0 : Int32)) hx hb hr rfl (fun t ht _ => ⟨(0 : Int32), rfl, hw, ht⟩) (by simp) dX0_isRecord_65
      · have hw := hw.2 c9
        refine lv_aload_n hx hb dX0_isRecord_52 rfl (lv_at hl 0 rfl) ?_
        refine lv_iload_n hx hb dX0_isRecord_53 rfl (lv_at hl 2 rfl) ?_
        refine vp_callSi (W.runV (As := [.int k39_2]) (rest := []) ⟨hx, hb, hml, hown, hbg⟩ (met_X0_isVoid l dC dI qA qA_ring qA_buffer cA_ring cA_buffer A_ring A_buffer A_firstPlace A_forcedPlace A_endPlace A_wordsToFailure A_opened k39_2 _ hw) (cwV 1 hbg g_RX0_139 rfl rfl rfl (by decide +kernel) ⟨Nat.le_of_ble_eq_true rfl, Nat.le_of_ble_eq_true rfl⟩) ⟨pcR_A_b _ _ _ _ _ _ _ _ _ _ _ _ _ _ _, va_recv hK hP (ci := 0) (q0 := 0) rfl rfl, fun U hU hW => ⟨rfl, by rw [hU]; exact hP, va_K.moved hW.alike hK⟩⟩ rfl rfl hl.1 rfl (lv_room (Nat.le_of_ble_eq_true rfl)) dX0_isRecord_54 ⟨Nat.le_of_ble_eq_true rfl, Nat.le_of_ble_eq_true rfl⟩) (fun r_2 hw => ?_)
        try dsimp only at hw
        refine lv_if_ne (tgt := 64) hx hb dX0_isRecord_57 (by decide) (fun c9 => ?_) (fun c9 => ?_)
        · have hw := hw.2 c9
          refine lv_iconst (v := (0 : Int32)) hx hb dX0_isRecord_64 (by decide) ?_
          subst hQQ
          exact W.zret (v := (0 : Int32)) hx hb hr rfl (fun t ht _ => ⟨(0 : Int32), rfl, hw, ht⟩) (by simp) dX0_isRecord_65
        · have hw := hw.1 c9
          refine lv_iconst (v := (1 : Int32)) hx hb dX0_isRecord_60 (by decide) ?_
          refine lv_goto (tgt := 65) hx hb dX0_isRecord_61 (by decide) ?_
          subst hQQ
          exact W.zret (v := (1 : Int32)) hx hb hr rfl (fun t ht _ => ⟨(1 : Int32), rfl, hw, ht⟩) (by simp) dX0_isRecord_65
  have hL7 : ∀ (n7 : Nat) (k7_1 : Int32) (y7_2 : Int32) (y7_3 : Int32), wl_X0_isRecord_7 post A_ring A_buffer A_firstPlace A_forcedPlace A_endPlace A_wordsToFailure A_opened k7_1 n7 y7_2 y7_3 → ∀ ls : Array Slot, lv_has ls 4 [(0, .ref qA), (1, .int k7_1), (2, .int y7_2), (3, .int y7_3)] → W p l e (headSpec wsX0_isRecord ({ frames := 3, cells := 0, slots := 0, locals := 63 } : Room)).room s m args below meth c s.heap [] 0 0 QQ (F0 m 7 ls []) := by
    intro n7
    induction n7 with
    | zero => intro k7_1 y7_2 y7_3 hw; exact False.elim hw
    | succ n7 ih7 =>
      intro k7_1 y7_2 y7_3 hw ls hl
      rw [wl_X0_isRecord_7] at hw
      refine lv_iload_n hx hb dX0_isRecord_7 rfl (lv_at hl 3 rfl) ?_
      refine lv_sipush (v := (13107 : Int32)) hx hb dX0_isRecord_8 (by decide) ?_
      refine lv_icmp_ge (tgt := 39) hx hb dX0_isRecord_11 (by decide) (fun c9 => ?_) (fun c9 => ?_)
      · have hw := hw.1 c9
        exact hC39 k7_1 y7_2 y7_3 hw ls (lv_sub hl [0, 1, 2, 3] rfl)
      · have hw := hw.2 c9
        refine lv_iload_n hx hb dX0_isRecord_14 rfl (lv_at hl 2 rfl) ?_
        refine lv_iload_n hx hb dX0_isRecord_15 rfl (lv_at hl 1 rfl) ?_
        refine lv_icmp_ge (tgt := 39) hx hb dX0_isRecord_16 (by decide) (fun c9 => ?_) (fun c9 => ?_)
        · have hw := hw.1 c9
          exact hC39 k7_1 y7_2 y7_3 hw ls (lv_sub hl [0, 1, 2, 3] rfl)
        · have hw := hw.2 c9
          refine lv_iload_n hx hb dX0_isRecord_19 rfl (lv_at hl 2 rfl) ?_
          refine lv_aload_n hx hb dX0_isRecord_20 rfl (lv_at hl 0 rfl) ?_
          refine va_get (D := (dC, dI)) (ci := 0) (v := .int A_endPlace) (C := RX0) (T := TX0) (N := 7) hx hb hbg in_X0 hown hK hP 0 rfl rfl 4 (by decide) (hbg _ kw_12) (fun _ h9 => h9) rfl dX0_isRecord_21 ?_
          refine lv_icmp_ge (tgt := 39) hx hb dX0_isRecord_24 (by decide) (fun c9 => ?_) (fun c9 => ?_)
          · have hw := hw.1 c9
            exact hC39 k7_1 y7_2 y7_3 hw ls (lv_sub hl [0, 1, 2, 3] rfl)
          · have hw := hw.2 c9
            refine lv_aload_n hx hb dX0_isRecord_27 rfl (lv_at hl 0 rfl) ?_
            refine lv_iload_n hx hb dX0_isRecord_28 rfl (lv_at hl 2 rfl) ?_
            refine vp_callSi (W.runV (As := [.int y7_2]) (rest := []) ⟨hx, hb, hml, hown, hbg⟩ (met_X0_behind l dC dI qA qA_ring qA_buffer cA_ring cA_buffer A_ring A_buffer A_firstPlace A_forcedPlace A_endPlace A_wordsToFailure A_opened y7_2 _ hw) (cwV 1 hbg g_RX0_74 rfl rfl rfl (by decide +kernel) ⟨Nat.le_of_ble_eq_true rfl, Nat.le_of_ble_eq_true rfl⟩) ⟨pcR_A_b _ _ _ _ _ _ _ _ _ _ _ _ _ _ _, va_recv hK hP (ci := 0) (q0 := 0) rfl rfl, fun U hU hW => ⟨rfl, by rw [hU]; exact hP, va_K.moved hW.alike hK⟩⟩ rfl rfl hl.1 rfl (lv_room (Nat.le_of_ble_eq_true rfl)) dX0_isRecord_29 ⟨Nat.le_of_ble_eq_true rfl, Nat.le_of_ble_eq_true rfl⟩) (fun r_1 hw => ?_)
            try dsimp only at hw
            refine lv_istore_n (lv' := [(2, .int r_1), (0, .ref qA), (1, .int k7_1), (3, .int y7_3)]) hx hb dX0_isRecord_32 rfl hl (by decide) rfl (fun ls hl => ?_)
            refine lv_iinc (v := y7_3 + (1 : Int32)) (lv' := [(3, .int (y7_3 + (1 : Int32))), (2, .int r_1), (0, .ref qA), (1, .int k7_1)]) hx hb dX0_isRecord_33 hl (k := 3) rfl rfl (by decide) rfl (fun ls hl => ?_)
            refine lv_goto (tgt := 7) hx hb dX0_isRecord_36 (by decide) ?_
            exact ih7 k7_1 r_1 (y7_3 + (1 : Int32)) hw ls (lv_sub hl [2, 3, 1, 0] rfl)
  refine lv_aload_n hx hb dX0_isRecord_0 rfl (lv_at hl 0 rfl) ?_
  refine va_get (D := (dC, dI)) (ci := 0) (v := .int A_firstPlace) (C := RX0) (T := TX0) (N := 7) hx hb hbg in_X0 hown hK hP 0 rfl rfl 2 (by decide) (hbg _ kw_2) (fun _ h9 => h9) rfl dX0_isRecord_1 ?_
  refine lv_istore_n (lv' := [(2, .int A_firstPlace), (0, .ref qA), (1, .int x1)]) hx hb dX0_isRecord_4 rfl hl (by decide) rfl (fun ls hl => ?_)
  refine lv_iconst (v := (0 : Int32)) hx hb dX0_isRecord_5 (by decide) ?_
  refine lv_istore_n (lv' := [(3, .int (0 : Int32)), (2, .int A_firstPlace), (0, .ref qA), (1, .int x1)]) hx hb dX0_isRecord_6 rfl hl (by decide) rfl (fun ls hl => ?_)
  obtain ⟨n9, hw⟩ := hw
  exact hL7 n9 x1 A_firstPlace (0 : Int32) hw ls (lv_sub hl [2, 3, 1, 0] rfl)
def wl_X0_firstRecordFrom_4 (post : Int32 → Prop) (A_ring : Nat → Int32) (A_buffer : Nat → Int32) (A_firstPlace : Int32) (A_forcedPlace : Int32) (A_endPlace : Int32) (A_wordsToFailure : Int32) (A_opened : Int32) (k4_1 : Int32) : Nat → Int32 → Int32 → Prop
  | 0, _, _ => False
  | n4 + 1, y4_2, y4_3 =>
    (((13107 : Int32) ≤ y4_3 → post (-1 : Int32)) ∧ (¬ (13107 : Int32) ≤ y4_3 → ((A_endPlace ≤ y4_2 → post (-1 : Int32)) ∧ (¬ A_endPlace ≤ y4_2 → wp_X0_isVoid (fun r_1 => ((r_1 = (0 : Int32) → post y4_2) ∧ (¬ r_1 = (0 : Int32) → wp_X0_behind (fun r_2 => wl_X0_firstRecordFrom_4 post A_ring A_buffer A_firstPlace A_forcedPlace A_endPlace A_wordsToFailure A_opened k4_1 n4 r_2 (y4_3 + (1 : Int32))) y4_2 A_ring A_buffer A_firstPlace A_forcedPlace A_endPlace A_wordsToFailure A_opened))) y4_2 A_ring A_buffer A_firstPlace A_forcedPlace A_endPlace A_wordsToFailure A_opened))))
def wp_X0_firstRecordFrom (post : Int32 → Prop) (x1 : Int32) (A_ring : Nat → Int32) (A_buffer : Nat → Int32) (A_firstPlace : Int32) (A_forcedPlace : Int32) (A_endPlace : Int32) (A_wordsToFailure : Int32) (A_opened : Int32) : Prop :=
  ∃ n, wl_X0_firstRecordFrom_4 post A_ring A_buffer A_firstPlace A_forcedPlace A_endPlace A_wordsToFailure A_opened x1 n x1 (0 : Int32)
set_option maxHeartbeats 4000000 in
set_option maxRecDepth 100000 in
theorem met_X0_firstRecordFrom (l : Launch) (dC : Nat → ClassId) (dI : Nat → Nat → Nat) (qA qA_ring qA_buffer : Nat) (cA_ring cA_buffer : ClassId) (A_ring : Nat → Int32) (A_buffer : Nat → Int32) (A_firstPlace : Int32) (A_forcedPlace : Int32) (A_endPlace : Int32) (A_wordsToFailure : Int32) (A_opened : Int32) (x1 : Int32) (post : Int32 → Prop) (hw : wp_X0_firstRecordFrom post x1 A_ring A_buffer A_firstPlace A_forcedPlace A_endPlace A_wordsToFailure A_opened) :
    Met l yX0_firstRecordFrom wsX0_firstRecordFrom ({ frames := 3, cells := 0, slots := 0, locals := 63 } : Room) (pcR_A dC dI qA qA_ring qA_buffer cA_ring cA_buffer A_ring A_buffer A_firstPlace A_forcedPlace A_endPlace A_wordsToFailure A_opened [.ref qA, .int x1]) (vp_Si post) 0 0 (fun _ => False) := by
  refine Met.ofW (cc := cX0_firstRecordFrom) (maxL := 4) (ret := (some .int)) (by decide) rfl ?_
  intro p e s m args below meth c s₁ B hml hv
  obtain ⟨hav, hP, hK⟩ := hv
  have hx := B.exec
  have hb := B.bytes
  have hr := B.returns
  have hts := atoms_spec (ws := wsX0_firstRecordFrom) B.pre
  have hbg : ∀ w ∈ bigW, w.before args s = true := fun w h => hts w (List.mem_cons_of_mem _ h)
  have hown : s.vm.findClass RX0 = some m.cls := findClass_of_methodNamed B.named
  have hlocks := B.notSynchronized
  have hP : va_P (dC, dI) vwCl [(qA, .inr (0, [.ref qA_ring, .ref qA_buffer, .int A_firstPlace, .int A_forcedPlace, .int A_endPlace, .int A_wordsToFailure, .int A_opened])), (qA_ring, .inl (cA_ring, 65536, .inl A_ring)), (qA_buffer, .inl (cA_buffer, 200, .inl A_buffer))] s.heap := hP
  generalize hQQ : MQ below (vp_Si post) args s 0 0 (fun _ => False) = QQ
  have hl := lv_entry ([.ref qA, .int x1]) (n := 4) (Nat.le_of_ble_eq_true rfl)
  rw [show entryFrame m args 4 = entryFrame m ([.ref qA, .int x1] : List Value).toArray 4 by rw [hav], lg_entry_eq]
  generalize (lg_sl ([.ref qA, .int x1]) ++ List.replicate (4 - (lg_sl ([.ref qA, .int x1])).length) Slot.unset).toArray = ls at hl ⊢
  have hl : lv_has ls 4 [(0, .ref qA), (1, .int x1)] := hl
  unfold wp_X0_firstRecordFrom at hw
  have hL4 : ∀ (n4 : Nat) (k4_1 : Int32) (y4_2 : Int32) (y4_3 : Int32), wl_X0_firstRecordFrom_4 post A_ring A_buffer A_firstPlace A_forcedPlace A_endPlace A_wordsToFailure A_opened k4_1 n4 y4_2 y4_3 → ∀ ls : Array Slot, lv_has ls 4 [(0, .ref qA), (1, .int k4_1), (2, .int y4_2), (3, .int y4_3)] → W p l e (headSpec wsX0_firstRecordFrom ({ frames := 3, cells := 0, slots := 0, locals := 63 } : Room)).room s m args below meth c s.heap [] 0 0 QQ (F0 m 4 ls []) := by
    intro n4
    induction n4 with
    | zero => intro k4_1 y4_2 y4_3 hw; exact False.elim hw
    | succ n4 ih4 =>
      intro k4_1 y4_2 y4_3 hw ls hl
      rw [wl_X0_firstRecordFrom_4] at hw
      refine lv_iload_n hx hb dX0_firstRecordFrom_4 rfl (lv_at hl 3 rfl) ?_
      refine lv_sipush (v := (13107 : Int32)) hx hb dX0_firstRecordFrom_5 (by decide) ?_
      refine lv_icmp_ge (tgt := 41) hx hb dX0_firstRecordFrom_8 (by decide) (fun c9 => ?_) (fun c9 => ?_)
      · have hw := hw.1 c9
        refine lv_iconst (v := (-1 : Int32)) hx hb dX0_firstRecordFrom_41 (by decide) ?_
        subst hQQ
        exact W.iret (v := (-1 : Int32)) hx hb hr (fun t ht _ => ⟨(-1 : Int32), rfl, hw, ht⟩) (by simp) dX0_firstRecordFrom_42
      · have hw := hw.2 c9
        refine lv_iload_n hx hb dX0_firstRecordFrom_11 rfl (lv_at hl 2 rfl) ?_
        refine lv_aload_n hx hb dX0_firstRecordFrom_12 rfl (lv_at hl 0 rfl) ?_
        refine va_get (D := (dC, dI)) (ci := 0) (v := .int A_endPlace) (C := RX0) (T := TX0) (N := 7) hx hb hbg in_X0 hown hK hP 0 rfl rfl 4 (by decide) (hbg _ kw_12) (fun _ h9 => h9) rfl dX0_firstRecordFrom_13 ?_
        refine lv_icmp_ge (tgt := 41) hx hb dX0_firstRecordFrom_16 (by decide) (fun c9 => ?_) (fun c9 => ?_)
        · have hw := hw.1 c9
          refine lv_iconst (v := (-1 : Int32)) hx hb dX0_firstRecordFrom_41 (by decide) ?_
          subst hQQ
          exact W.iret (v := (-1 : Int32)) hx hb hr (fun t ht _ => ⟨(-1 : Int32), rfl, hw, ht⟩) (by simp) dX0_firstRecordFrom_42
        · have hw := hw.2 c9
          refine lv_aload_n hx hb dX0_firstRecordFrom_19 rfl (lv_at hl 0 rfl) ?_
          refine lv_iload_n hx hb dX0_firstRecordFrom_20 rfl (lv_at hl 2 rfl) ?_
          refine vp_callSi (W.runV (As := [.int y4_2]) (rest := []) ⟨hx, hb, hml, hown, hbg⟩ (met_X0_isVoid l dC dI qA qA_ring qA_buffer cA_ring cA_buffer A_ring A_buffer A_firstPlace A_forcedPlace A_endPlace A_wordsToFailure A_opened y4_2 _ hw) (cwV 1 hbg g_RX0_139 rfl rfl rfl (by decide +kernel) ⟨Nat.le_of_ble_eq_true rfl, Nat.le_of_ble_eq_true rfl⟩) ⟨pcR_A_b _ _ _ _ _ _ _ _ _ _ _ _ _ _ _, va_recv hK hP (ci := 0) (q0 := 0) rfl rfl, fun U hU hW => ⟨rfl, by rw [hU]; exact hP, va_K.moved hW.alike hK⟩⟩ rfl rfl hl.1 rfl (lv_room (Nat.le_of_ble_eq_true rfl)) dX0_firstRecordFrom_21 ⟨Nat.le_of_ble_eq_true rfl, Nat.le_of_ble_eq_true rfl⟩) (fun r_1 hw => ?_)
          try dsimp only at hw
          refine lv_if_ne (tgt := 29) hx hb dX0_firstRecordFrom_24 (by decide) (fun c9 => ?_) (fun c9 => ?_)
          · have hw := hw.2 c9
            refine lv_aload_n hx hb dX0_firstRecordFrom_29 rfl (lv_at hl 0 rfl) ?_
            refine lv_iload_n hx hb dX0_firstRecordFrom_30 rfl (lv_at hl 2 rfl) ?_
            refine vp_callSi (W.runV (As := [.int y4_2]) (rest := []) ⟨hx, hb, hml, hown, hbg⟩ (met_X0_behind l dC dI qA qA_ring qA_buffer cA_ring cA_buffer A_ring A_buffer A_firstPlace A_forcedPlace A_endPlace A_wordsToFailure A_opened y4_2 _ hw) (cwV 1 hbg g_RX0_74 rfl rfl rfl (by decide +kernel) ⟨Nat.le_of_ble_eq_true rfl, Nat.le_of_ble_eq_true rfl⟩) ⟨pcR_A_b _ _ _ _ _ _ _ _ _ _ _ _ _ _ _, va_recv hK hP (ci := 0) (q0 := 0) rfl rfl, fun U hU hW => ⟨rfl, by rw [hU]; exact hP, va_K.moved hW.alike hK⟩⟩ rfl rfl hl.1 rfl (lv_room (Nat.le_of_ble_eq_true rfl)) dX0_firstRecordFrom_31 ⟨Nat.le_of_ble_eq_true rfl, Nat.le_of_ble_eq_true rfl⟩) (fun r_2 hw => ?_)
            try dsimp only at hw
            refine lv_istore_n (lv' := [(2, .int r_2), (0, .ref qA), (1, .int k4_1), (3, .int y4_3)]) hx hb dX0_firstRecordFrom_34 rfl hl (by decide) rfl (fun ls hl => ?_)
            refine lv_iinc (v := y4_3 + (1 : Int32)) (lv' := [(3, .int (y4_3 + (1 : Int32))), (2, .int r_2), (0, .ref qA), (1, .int k4_1)]) hx hb dX0_firstRecordFrom_35 hl (k := 3) rfl rfl (by decide) rfl (fun ls hl => ?_)
            refine lv_goto (tgt := 4) hx hb dX0_firstRecordFrom_38 (by decide) ?_
            exact ih4 k4_1 r_2 (y4_3 + (1 : Int32)) hw ls (lv_sub hl [2, 3, 1, 0] rfl)
          · have hw := hw.1 c9
            refine lv_iload_n hx hb dX0_firstRecordFrom_27 rfl (lv_at hl 2 rfl) ?_
            subst hQQ
            exact W.iret (v := y4_2) hx hb hr (fun t ht _ => ⟨y4_2, rfl, hw, ht⟩) (by simp) dX0_firstRecordFrom_28
  refine lv_iload_n hx hb dX0_firstRecordFrom_0 rfl (lv_at hl 1 rfl) ?_
  refine lv_istore_n (lv' := [(2, .int x1), (0, .ref qA), (1, .int x1)]) hx hb dX0_firstRecordFrom_1 rfl hl (by decide) rfl (fun ls hl => ?_)
  refine lv_iconst (v := (0 : Int32)) hx hb dX0_firstRecordFrom_2 (by decide) ?_
  refine lv_istore_n (lv' := [(3, .int (0 : Int32)), (2, .int x1), (0, .ref qA), (1, .int x1)]) hx hb dX0_firstRecordFrom_3 rfl hl (by decide) rfl (fun ls hl => ?_)
  obtain ⟨n9, hw⟩ := hw
  exact hL4 n9 x1 x1 (0 : Int32) hw ls (lv_sub hl [2, 3, 1, 0] rfl)
def wp_X0_kindAt (post : Int32 → Prop) (x1 : Int32) (A_ring : Nat → Int32) (A_buffer : Nat → Int32) (A_firstPlace : Int32) (A_forcedPlace : Int32) (A_endPlace : Int32) (A_wordsToFailure : Int32) (A_opened : Int32) : Prop :=
  wp_X0_wordAt (fun r_1 => post (r_1 - r_1 / (16 : Int32) * (16 : Int32))) (x1 + (1 : Int32)) A_ring A_buffer A_firstPlace A_forcedPlace A_endPlace A_wordsToFailure A_opened
set_option maxHeartbeats 4000000 in
set_option maxRecDepth 100000 in
theorem met_X0_kindAt (l : Launch) (dC : Nat → ClassId) (dI : Nat → Nat → Nat) (qA qA_ring qA_buffer : Nat) (cA_ring cA_buffer : ClassId) (A_ring : Nat → Int32) (A_buffer : Nat → Int32) (A_firstPlace : Int32) (A_forcedPlace : Int32) (A_endPlace : Int32) (A_wordsToFailure : Int32) (A_opened : Int32) (x1 : Int32) (post : Int32 → Prop) (hw : wp_X0_kindAt post x1 A_ring A_buffer A_firstPlace A_forcedPlace A_endPlace A_wordsToFailure A_opened) :
    Met l yX0_kindAt wsX0_kindAt ({ frames := 1, cells := 0, slots := 0, locals := 21 } : Room) (pcR_A dC dI qA qA_ring qA_buffer cA_ring cA_buffer A_ring A_buffer A_firstPlace A_forcedPlace A_endPlace A_wordsToFailure A_opened [.ref qA, .int x1]) (vp_Si post) 0 0 (fun _ => False) := by
  refine Met.ofW (cc := cX0_kindAt) (maxL := 2) (ret := (some .int)) (by decide) rfl ?_
  intro p e s m args below meth c s₁ B hml hv
  obtain ⟨hav, hP, hK⟩ := hv
  have hx := B.exec
  have hb := B.bytes
  have hr := B.returns
  have hts := atoms_spec (ws := wsX0_kindAt) B.pre
  have hbg : ∀ w ∈ bigW, w.before args s = true := fun w h => hts w (List.mem_cons_of_mem _ h)
  have hown : s.vm.findClass RX0 = some m.cls := findClass_of_methodNamed B.named
  have hlocks := B.notSynchronized
  have hP : va_P (dC, dI) vwCl [(qA, .inr (0, [.ref qA_ring, .ref qA_buffer, .int A_firstPlace, .int A_forcedPlace, .int A_endPlace, .int A_wordsToFailure, .int A_opened])), (qA_ring, .inl (cA_ring, 65536, .inl A_ring)), (qA_buffer, .inl (cA_buffer, 200, .inl A_buffer))] s.heap := hP
  generalize hQQ : MQ below (vp_Si post) args s 0 0 (fun _ => False) = QQ
  have hl := lv_entry ([.ref qA, .int x1]) (n := 2) (Nat.le_of_ble_eq_true rfl)
  rw [show entryFrame m args 2 = entryFrame m ([.ref qA, .int x1] : List Value).toArray 2 by rw [hav], lg_entry_eq]
  generalize (lg_sl ([.ref qA, .int x1]) ++ List.replicate (2 - (lg_sl ([.ref qA, .int x1])).length) Slot.unset).toArray = ls at hl ⊢
  have hl : lv_has ls 2 [(0, .ref qA), (1, .int x1)] := hl
  unfold wp_X0_kindAt at hw
  refine lv_aload_n hx hb dX0_kindAt_0 rfl (lv_at hl 0 rfl) ?_
  refine lv_iload_n hx hb dX0_kindAt_1 rfl (lv_at hl 1 rfl) ?_
  refine lv_iconst (v := (1 : Int32)) hx hb dX0_kindAt_2 (by decide) ?_
  refine lv_iadd hx hb dX0_kindAt_3 ?_
  refine vp_callSi (W.runV (As := [.int (x1 + (1 : Int32))]) (rest := []) ⟨hx, hb, hml, hown, hbg⟩ (met_X0_wordAt l dC dI qA qA_ring qA_buffer cA_ring cA_buffer A_ring A_buffer A_firstPlace A_forcedPlace A_endPlace A_wordsToFailure A_opened (x1 + (1 : Int32)) _ hw) (cwV 1 hbg g_RX0_97 rfl rfl rfl (by decide +kernel) ⟨Nat.le_of_ble_eq_true rfl, Nat.le_of_ble_eq_true rfl⟩) ⟨pcR_A_b _ _ _ _ _ _ _ _ _ _ _ _ _ _ _, va_recv hK hP (ci := 0) (q0 := 0) rfl rfl, fun U hU hW => ⟨rfl, by rw [hU]; exact hP, va_K.moved hW.alike hK⟩⟩ rfl rfl hl.1 rfl (lv_room (Nat.le_of_ble_eq_true rfl)) dX0_kindAt_4 ⟨Nat.le_of_ble_eq_true rfl, Nat.le_of_ble_eq_true rfl⟩) (fun r_1 hw => ?_)
  try dsimp only at hw
  refine lv_bipush (v := (16 : Int32)) hx hb dX0_kindAt_7 (by decide) ?_
  refine lv_irem hx hb dX0_kindAt_9 (by decide) ?_
  subst hQQ
  exact W.iret (v := r_1 - r_1 / (16 : Int32) * (16 : Int32)) hx hb hr (fun t ht _ => ⟨r_1 - r_1 / (16 : Int32) * (16 : Int32), rfl, hw, ht⟩) (by simp) dX0_kindAt_10
def wp_X0_contentWords (post : Int32 → Prop) (x1 : Int32) (A_ring : Nat → Int32) (A_buffer : Nat → Int32) (A_firstPlace : Int32) (A_forcedPlace : Int32) (A_endPlace : Int32) (A_wordsToFailure : Int32) (A_opened : Int32) : Prop :=
  wp_X0_wordAt (fun r_1 => post (r_1 - (5 : Int32))) x1 A_ring A_buffer A_firstPlace A_forcedPlace A_endPlace A_wordsToFailure A_opened
set_option maxHeartbeats 4000000 in
set_option maxRecDepth 100000 in
theorem met_X0_contentWords (l : Launch) (dC : Nat → ClassId) (dI : Nat → Nat → Nat) (qA qA_ring qA_buffer : Nat) (cA_ring cA_buffer : ClassId) (A_ring : Nat → Int32) (A_buffer : Nat → Int32) (A_firstPlace : Int32) (A_forcedPlace : Int32) (A_endPlace : Int32) (A_wordsToFailure : Int32) (A_opened : Int32) (x1 : Int32) (post : Int32 → Prop) (hw : wp_X0_contentWords post x1 A_ring A_buffer A_firstPlace A_forcedPlace A_endPlace A_wordsToFailure A_opened) :
    Met l yX0_contentWords wsX0_contentWords ({ frames := 1, cells := 0, slots := 0, locals := 21 } : Room) (pcR_A dC dI qA qA_ring qA_buffer cA_ring cA_buffer A_ring A_buffer A_firstPlace A_forcedPlace A_endPlace A_wordsToFailure A_opened [.ref qA, .int x1]) (vp_Si post) 0 0 (fun _ => False) := by
  refine Met.ofW (cc := cX0_contentWords) (maxL := 2) (ret := (some .int)) (by decide) rfl ?_
  intro p e s m args below meth c s₁ B hml hv
  obtain ⟨hav, hP, hK⟩ := hv
  have hx := B.exec
  have hb := B.bytes
  have hr := B.returns
  have hts := atoms_spec (ws := wsX0_contentWords) B.pre
  have hbg : ∀ w ∈ bigW, w.before args s = true := fun w h => hts w (List.mem_cons_of_mem _ h)
  have hown : s.vm.findClass RX0 = some m.cls := findClass_of_methodNamed B.named
  have hlocks := B.notSynchronized
  have hP : va_P (dC, dI) vwCl [(qA, .inr (0, [.ref qA_ring, .ref qA_buffer, .int A_firstPlace, .int A_forcedPlace, .int A_endPlace, .int A_wordsToFailure, .int A_opened])), (qA_ring, .inl (cA_ring, 65536, .inl A_ring)), (qA_buffer, .inl (cA_buffer, 200, .inl A_buffer))] s.heap := hP
  generalize hQQ : MQ below (vp_Si post) args s 0 0 (fun _ => False) = QQ
  have hl := lv_entry ([.ref qA, .int x1]) (n := 2) (Nat.le_of_ble_eq_true rfl)
  rw [show entryFrame m args 2 = entryFrame m ([.ref qA, .int x1] : List Value).toArray 2 by rw [hav], lg_entry_eq]
  generalize (lg_sl ([.ref qA, .int x1]) ++ List.replicate (2 - (lg_sl ([.ref qA, .int x1])).length) Slot.unset).toArray = ls at hl ⊢
  have hl : lv_has ls 2 [(0, .ref qA), (1, .int x1)] := hl
  unfold wp_X0_contentWords at hw
  refine lv_aload_n hx hb dX0_contentWords_0 rfl (lv_at hl 0 rfl) ?_
  refine lv_iload_n hx hb dX0_contentWords_1 rfl (lv_at hl 1 rfl) ?_
  refine vp_callSi (W.runV (As := [.int x1]) (rest := []) ⟨hx, hb, hml, hown, hbg⟩ (met_X0_wordAt l dC dI qA qA_ring qA_buffer cA_ring cA_buffer A_ring A_buffer A_firstPlace A_forcedPlace A_endPlace A_wordsToFailure A_opened x1 _ hw) (cwV 1 hbg g_RX0_97 rfl rfl rfl (by decide +kernel) ⟨Nat.le_of_ble_eq_true rfl, Nat.le_of_ble_eq_true rfl⟩) ⟨pcR_A_b _ _ _ _ _ _ _ _ _ _ _ _ _ _ _, va_recv hK hP (ci := 0) (q0 := 0) rfl rfl, fun U hU hW => ⟨rfl, by rw [hU]; exact hP, va_K.moved hW.alike hK⟩⟩ rfl rfl hl.1 rfl (lv_room (Nat.le_of_ble_eq_true rfl)) dX0_contentWords_2 ⟨Nat.le_of_ble_eq_true rfl, Nat.le_of_ble_eq_true rfl⟩) (fun r_1 hw => ?_)
  try dsimp only at hw
  refine lv_iconst (v := (5 : Int32)) hx hb dX0_contentWords_5 (by decide) ?_
  refine lv_isub hx hb dX0_contentWords_6 ?_
  subst hQQ
  exact W.iret (v := r_1 - (5 : Int32)) hx hb hr (fun t ht _ => ⟨r_1 - (5 : Int32), rfl, hw, ht⟩) (by simp) dX0_contentWords_7
def wp_X0_isAskedFor (post : Int32 → Prop) (x1 : Int32) (x2 : Int32) (x3 : Int32) (A_ring : Nat → Int32) (A_buffer : Nat → Int32) (A_firstPlace : Int32) (A_forcedPlace : Int32) (A_endPlace : Int32) (A_wordsToFailure : Int32) (A_opened : Int32) : Prop :=
  wp_X0_ownerAt (fun r_1 => ((r_1 = x2 → wp_X0_kindAt (fun r_2 => (((((x3.toUInt32 >>> (r_2.toUInt32 &&& Int32.toUInt32 31)).toInt32) &&& (1 : Int32)) = (1 : Int32) → post (1 : Int32)) ∧ (¬ (((x3.toUInt32 >>> (r_2.toUInt32 &&& Int32.toUInt32 31)).toInt32) &&& (1 : Int32)) = (1 : Int32) → post (0 : Int32)))) x1 A_ring A_buffer A_firstPlace A_forcedPlace A_endPlace A_wordsToFailure A_opened) ∧ (¬ r_1 = x2 → post (0 : Int32)))) x1 A_ring A_buffer A_firstPlace A_forcedPlace A_endPlace A_wordsToFailure A_opened
set_option maxHeartbeats 4000000 in
set_option maxRecDepth 100000 in
theorem met_X0_isAskedFor (l : Launch) (dC : Nat → ClassId) (dI : Nat → Nat → Nat) (qA qA_ring qA_buffer : Nat) (cA_ring cA_buffer : ClassId) (A_ring : Nat → Int32) (A_buffer : Nat → Int32) (A_firstPlace : Int32) (A_forcedPlace : Int32) (A_endPlace : Int32) (A_wordsToFailure : Int32) (A_opened : Int32) (x1 : Int32) (x2 : Int32) (x3 : Int32) (post : Int32 → Prop) (hw : wp_X0_isAskedFor post x1 x2 x3 A_ring A_buffer A_firstPlace A_forcedPlace A_endPlace A_wordsToFailure A_opened) :
    Met l yX0_isAskedFor wsX0_isAskedFor ({ frames := 2, cells := 0, slots := 0, locals := 42 } : Room) (pcR_A dC dI qA qA_ring qA_buffer cA_ring cA_buffer A_ring A_buffer A_firstPlace A_forcedPlace A_endPlace A_wordsToFailure A_opened [.ref qA, .int x1, .int x2, .int x3]) (vp_Si post) 0 0 (fun _ => False) := by
  refine Met.ofW (cc := cX0_isAskedFor) (maxL := 4) (ret := (some .boolean)) (by decide) rfl ?_
  intro p e s m args below meth c s₁ B hml hv
  obtain ⟨hav, hP, hK⟩ := hv
  have hx := B.exec
  have hb := B.bytes
  have hr := B.returns
  have hts := atoms_spec (ws := wsX0_isAskedFor) B.pre
  have hbg : ∀ w ∈ bigW, w.before args s = true := fun w h => hts w (List.mem_cons_of_mem _ h)
  have hown : s.vm.findClass RX0 = some m.cls := findClass_of_methodNamed B.named
  have hlocks := B.notSynchronized
  have hP : va_P (dC, dI) vwCl [(qA, .inr (0, [.ref qA_ring, .ref qA_buffer, .int A_firstPlace, .int A_forcedPlace, .int A_endPlace, .int A_wordsToFailure, .int A_opened])), (qA_ring, .inl (cA_ring, 65536, .inl A_ring)), (qA_buffer, .inl (cA_buffer, 200, .inl A_buffer))] s.heap := hP
  generalize hQQ : MQ below (vp_Si post) args s 0 0 (fun _ => False) = QQ
  have hl := lv_entry ([.ref qA, .int x1, .int x2, .int x3]) (n := 4) (Nat.le_of_ble_eq_true rfl)
  rw [show entryFrame m args 4 = entryFrame m ([.ref qA, .int x1, .int x2, .int x3] : List Value).toArray 4 by rw [hav], lg_entry_eq]
  generalize (lg_sl ([.ref qA, .int x1, .int x2, .int x3]) ++ List.replicate (4 - (lg_sl ([.ref qA, .int x1, .int x2, .int x3])).length) Slot.unset).toArray = ls at hl ⊢
  have hl : lv_has ls 4 [(0, .ref qA), (1, .int x1), (2, .int x2), (3, .int x3)] := hl
  unfold wp_X0_isAskedFor at hw
  refine lv_aload_n hx hb dX0_isAskedFor_0 rfl (lv_at hl 0 rfl) ?_
  refine lv_iload_n hx hb dX0_isAskedFor_1 rfl (lv_at hl 1 rfl) ?_
  refine vp_callSi (W.runV (As := [.int x1]) (rest := []) ⟨hx, hb, hml, hown, hbg⟩ (met_X0_ownerAt l dC dI qA qA_ring qA_buffer cA_ring cA_buffer A_ring A_buffer A_firstPlace A_forcedPlace A_endPlace A_wordsToFailure A_opened x1 _ hw) (cwV 1 hbg g_RX0_94 rfl rfl rfl (by decide +kernel) ⟨Nat.le_of_ble_eq_true rfl, Nat.le_of_ble_eq_true rfl⟩) ⟨pcR_A_b _ _ _ _ _ _ _ _ _ _ _ _ _ _ _, va_recv hK hP (ci := 0) (q0 := 0) rfl rfl, fun U hU hW => ⟨rfl, by rw [hU]; exact hP, va_K.moved hW.alike hK⟩⟩ rfl rfl hl.1 rfl (lv_room (Nat.le_of_ble_eq_true rfl)) dX0_isAskedFor_2 ⟨Nat.le_of_ble_eq_true rfl, Nat.le_of_ble_eq_true rfl⟩) (fun r_1 hw => ?_)
  try dsimp only at hw
  refine lv_iload_n hx hb dX0_isAskedFor_5 rfl (lv_at hl 2 rfl) ?_
  refine lv_icmp_ne (tgt := 26) hx hb dX0_isAskedFor_6 (by decide) (fun c9 => ?_) (fun c9 => ?_)
  · have hw := hw.2 c9
    refine lv_iconst (v := (0 : Int32)) hx hb dX0_isAskedFor_26 (by decide) ?_
    subst hQQ
    exact W.zret (v := (0 : Int32)) hx hb hr rfl (fun t ht _ => ⟨(0 : Int32), rfl, hw, ht⟩) (by simp) dX0_isAskedFor_27
  · have hw := hw.1 c9
    refine lv_iload_n hx hb dX0_isAskedFor_9 rfl (lv_at hl 3 rfl) ?_
    refine lv_aload_n hx hb dX0_isAskedFor_10 rfl (lv_at hl 0 rfl) ?_
    refine lv_iload_n hx hb dX0_isAskedFor_11 rfl (lv_at hl 1 rfl) ?_
    refine vp_callSi (W.runV (As := [.int x1]) (rest := [.int x3]) ⟨hx, hb, hml, hown, hbg⟩ (met_X0_kindAt l dC dI qA qA_ring qA_buffer cA_ring cA_buffer A_ring A_buffer A_firstPlace A_forcedPlace A_endPlace A_wordsToFailure A_opened x1 _ hw) (cwV 1 hbg g_RX0_91 rfl rfl rfl (by decide +kernel) ⟨Nat.le_of_ble_eq_true rfl, Nat.le_of_ble_eq_true rfl⟩) ⟨pcR_A_b _ _ _ _ _ _ _ _ _ _ _ _ _ _ _, va_recv hK hP (ci := 0) (q0 := 0) rfl rfl, fun U hU hW => ⟨rfl, by rw [hU]; exact hP, va_K.moved hW.alike hK⟩⟩ rfl rfl hl.1 rfl (lv_room (Nat.le_of_ble_eq_true rfl)) dX0_isAskedFor_12 ⟨Nat.le_of_ble_eq_true rfl, Nat.le_of_ble_eq_true rfl⟩) (fun r_2 hw => ?_)
    try dsimp only at hw
    refine lv_iushr (v := (x3.toUInt32 >>> (r_2.toUInt32 &&& Int32.toUInt32 31)).toInt32) hx hb dX0_isAskedFor_15 rfl ?_
    refine lv_iconst (v := (1 : Int32)) hx hb dX0_isAskedFor_16 (by decide) ?_
    refine lv_iand hx hb dX0_isAskedFor_17 ?_
    refine lv_iconst (v := (1 : Int32)) hx hb dX0_isAskedFor_18 (by decide) ?_
    refine lv_icmp_ne (tgt := 26) hx hb dX0_isAskedFor_19 (by decide) (fun c9 => ?_) (fun c9 => ?_)
    · have hw := hw.2 c9
      refine lv_iconst (v := (0 : Int32)) hx hb dX0_isAskedFor_26 (by decide) ?_
      subst hQQ
      exact W.zret (v := (0 : Int32)) hx hb hr rfl (fun t ht _ => ⟨(0 : Int32), rfl, hw, ht⟩) (by simp) dX0_isAskedFor_27
    · have hw := hw.1 c9
      refine lv_iconst (v := (1 : Int32)) hx hb dX0_isAskedFor_22 (by decide) ?_
      refine lv_goto (tgt := 27) hx hb dX0_isAskedFor_23 (by decide) ?_
      subst hQQ
      exact W.zret (v := (1 : Int32)) hx hb hr rfl (fun t ht _ => ⟨(1 : Int32), rfl, hw, ht⟩) (by simp) dX0_isAskedFor_27
def wp_X0_stopBehind (post : Int32 → Prop) (x1 : Int32) (A_ring : Nat → Int32) (A_buffer : Nat → Int32) (A_firstPlace : Int32) (A_forcedPlace : Int32) (A_endPlace : Int32) (A_wordsToFailure : Int32) (A_opened : Int32) : Prop :=
  wp_X0_wordAt (fun r_1 => ((r_1 = (-1 : Int32) → wp_X0_wordAt (fun r_2 => post r_2) (x1 + (2 : Int32)) A_ring A_buffer A_firstPlace A_forcedPlace A_endPlace A_wordsToFailure A_opened) ∧ (¬ r_1 = (-1 : Int32) → post r_1))) (x1 + (3 : Int32)) A_ring A_buffer A_firstPlace A_forcedPlace A_endPlace A_wordsToFailure A_opened
set_option maxHeartbeats 4000000 in
set_option maxRecDepth 100000 in
theorem met_X0_stopBehind (l : Launch) (dC : Nat → ClassId) (dI : Nat → Nat → Nat) (qA qA_ring qA_buffer : Nat) (cA_ring cA_buffer : ClassId) (A_ring : Nat → Int32) (A_buffer : Nat → Int32) (A_firstPlace : Int32) (A_forcedPlace : Int32) (A_endPlace : Int32) (A_wordsToFailure : Int32) (A_opened : Int32) (x1 : Int32) (post : Int32 → Prop) (hw : wp_X0_stopBehind post x1 A_ring A_buffer A_firstPlace A_forcedPlace A_endPlace A_wordsToFailure A_opened) :
    Met l yX0_stopBehind wsX0_stopBehind ({ frames := 1, cells := 0, slots := 0, locals := 21 } : Room) (pcR_A dC dI qA qA_ring qA_buffer cA_ring cA_buffer A_ring A_buffer A_firstPlace A_forcedPlace A_endPlace A_wordsToFailure A_opened [.ref qA, .int x1]) (vp_Si post) 0 0 (fun _ => False) := by
  refine Met.ofW (cc := cX0_stopBehind) (maxL := 3) (ret := (some .int)) (by decide) rfl ?_
  intro p e s m args below meth c s₁ B hml hv
  obtain ⟨hav, hP, hK⟩ := hv
  have hx := B.exec
  have hb := B.bytes
  have hr := B.returns
  have hts := atoms_spec (ws := wsX0_stopBehind) B.pre
  have hbg : ∀ w ∈ bigW, w.before args s = true := fun w h => hts w (List.mem_cons_of_mem _ h)
  have hown : s.vm.findClass RX0 = some m.cls := findClass_of_methodNamed B.named
  have hlocks := B.notSynchronized
  have hP : va_P (dC, dI) vwCl [(qA, .inr (0, [.ref qA_ring, .ref qA_buffer, .int A_firstPlace, .int A_forcedPlace, .int A_endPlace, .int A_wordsToFailure, .int A_opened])), (qA_ring, .inl (cA_ring, 65536, .inl A_ring)), (qA_buffer, .inl (cA_buffer, 200, .inl A_buffer))] s.heap := hP
  generalize hQQ : MQ below (vp_Si post) args s 0 0 (fun _ => False) = QQ
  have hl := lv_entry ([.ref qA, .int x1]) (n := 3) (Nat.le_of_ble_eq_true rfl)
  rw [show entryFrame m args 3 = entryFrame m ([.ref qA, .int x1] : List Value).toArray 3 by rw [hav], lg_entry_eq]
  generalize (lg_sl ([.ref qA, .int x1]) ++ List.replicate (3 - (lg_sl ([.ref qA, .int x1])).length) Slot.unset).toArray = ls at hl ⊢
  have hl : lv_has ls 3 [(0, .ref qA), (1, .int x1)] := hl
  unfold wp_X0_stopBehind at hw
  refine lv_aload_n hx hb dX0_stopBehind_0 rfl (lv_at hl 0 rfl) ?_
  refine lv_iload_n hx hb dX0_stopBehind_1 rfl (lv_at hl 1 rfl) ?_
  refine lv_iconst (v := (3 : Int32)) hx hb dX0_stopBehind_2 (by decide) ?_
  refine lv_iadd hx hb dX0_stopBehind_3 ?_
  refine vp_callSi (W.runV (As := [.int (x1 + (3 : Int32))]) (rest := []) ⟨hx, hb, hml, hown, hbg⟩ (met_X0_wordAt l dC dI qA qA_ring qA_buffer cA_ring cA_buffer A_ring A_buffer A_firstPlace A_forcedPlace A_endPlace A_wordsToFailure A_opened (x1 + (3 : Int32)) _ hw) (cwV 1 hbg g_RX0_97 rfl rfl rfl (by decide +kernel) ⟨Nat.le_of_ble_eq_true rfl, Nat.le_of_ble_eq_true rfl⟩) ⟨pcR_A_b _ _ _ _ _ _ _ _ _ _ _ _ _ _ _, va_recv hK hP (ci := 0) (q0 := 0) rfl rfl, fun U hU hW => ⟨rfl, by rw [hU]; exact hP, va_K.moved hW.alike hK⟩⟩ rfl rfl hl.1 rfl (lv_room (Nat.le_of_ble_eq_true rfl)) dX0_stopBehind_4 ⟨Nat.le_of_ble_eq_true rfl, Nat.le_of_ble_eq_true rfl⟩) (fun r_1 hw => ?_)
  try dsimp only at hw
  refine lv_istore_n (lv' := [(2, .int r_1), (0, .ref qA), (1, .int x1)]) hx hb dX0_stopBehind_7 rfl hl (by decide) rfl (fun ls hl => ?_)
  refine lv_iload_n hx hb dX0_stopBehind_8 rfl (lv_at hl 0 rfl) ?_
  refine lv_iconst (v := (-1 : Int32)) hx hb dX0_stopBehind_9 (by decide) ?_
  refine lv_icmp_eq (tgt := 17) hx hb dX0_stopBehind_10 (by decide) (fun c9 => ?_) (fun c9 => ?_)
  · have hw := hw.1 c9
    refine lv_aload_n hx hb dX0_stopBehind_17 rfl (lv_at hl 1 rfl) ?_
    refine lv_iload_n hx hb dX0_stopBehind_18 rfl (lv_at hl 2 rfl) ?_
    refine lv_iconst (v := (2 : Int32)) hx hb dX0_stopBehind_19 (by decide) ?_
    refine lv_iadd hx hb dX0_stopBehind_20 ?_
    refine vp_callSi (W.runV (As := [.int (x1 + (2 : Int32))]) (rest := []) ⟨hx, hb, hml, hown, hbg⟩ (met_X0_wordAt l dC dI qA qA_ring qA_buffer cA_ring cA_buffer A_ring A_buffer A_firstPlace A_forcedPlace A_endPlace A_wordsToFailure A_opened (x1 + (2 : Int32)) _ hw) (cwV 1 hbg g_RX0_97 rfl rfl rfl (by decide +kernel) ⟨Nat.le_of_ble_eq_true rfl, Nat.le_of_ble_eq_true rfl⟩) ⟨pcR_A_b _ _ _ _ _ _ _ _ _ _ _ _ _ _ _, va_recv hK hP (ci := 0) (q0 := 0) rfl rfl, fun U hU hW => ⟨rfl, by rw [hU]; exact hP, va_K.moved hW.alike hK⟩⟩ rfl rfl hl.1 rfl (lv_room (Nat.le_of_ble_eq_true rfl)) dX0_stopBehind_21 ⟨Nat.le_of_ble_eq_true rfl, Nat.le_of_ble_eq_true rfl⟩) (fun r_2 hw => ?_)
    try dsimp only at hw
    subst hQQ
    exact W.iret (v := r_2) hx hb hr (fun t ht _ => ⟨r_2, rfl, hw, ht⟩) (by simp) dX0_stopBehind_24
  · have hw := hw.2 c9
    refine lv_iload_n hx hb dX0_stopBehind_13 rfl (lv_at hl 0 rfl) ?_
    refine lv_goto (tgt := 24) hx hb dX0_stopBehind_14 (by decide) ?_
    subst hQQ
    exact W.iret (v := r_1) hx hb hr (fun t ht _ => ⟨r_1, rfl, hw, ht⟩) (by simp) dX0_stopBehind_24
def wl_X0_kthOnTheWay_17 (post : Int32 → Prop) (A_ring : Nat → Int32) (A_buffer : Nat → Int32) (A_firstPlace : Int32) (A_forcedPlace : Int32) (A_endPlace : Int32) (A_wordsToFailure : Int32) (A_opened : Int32) (k17_1 : Int32) (k17_2 : Int32) (k17_3 : Int32) : Nat → Int32 → Int32 → Int32 → Int32 → Prop
  | 0, _, _, _, _ => False
  | n17 + 1, y17_4, y17_5, y17_6, y17_7 =>
    (((13107 : Int32) ≤ y17_7 → post (-1 : Int32)) ∧ (¬ (13107 : Int32) ≤ y17_7 → ((y17_5 = (-1 : Int32) → post (-1 : Int32)) ∧ (¬ y17_5 = (-1 : Int32) → ((y17_5 < y17_4 → post (-1 : Int32)) ∧ (¬ y17_5 < y17_4 → ((y17_5 = y17_4 → wp_X0_isAskedFor (fun r_2 => ((r_2 = (0 : Int32) → wp_X0_stopBehind (fun r_3 => ((r_3 = (-1 : Int32) → wl_X0_kthOnTheWay_17 post A_ring A_buffer A_firstPlace A_forcedPlace A_endPlace A_wordsToFailure A_opened k17_1 k17_2 k17_3 n17 r_3 (-1 : Int32) y17_6 (y17_7 + (1 : Int32))) ∧ (¬ r_3 = (-1 : Int32) → wp_X0_lastRecordBefore (fun r_4 => wl_X0_kthOnTheWay_17 post A_ring A_buffer A_firstPlace A_forcedPlace A_endPlace A_wordsToFailure A_opened k17_1 k17_2 k17_3 n17 r_3 r_4 y17_6 (y17_7 + (1 : Int32))) y17_5 A_ring A_buffer A_firstPlace A_forcedPlace A_endPlace A_wordsToFailure A_opened))) y17_5 A_ring A_buffer A_firstPlace A_forcedPlace A_endPlace A_wordsToFailure A_opened) ∧ (¬ r_2 = (0 : Int32) → ((y17_6 = (0 : Int32) → post y17_5) ∧ (¬ y17_6 = (0 : Int32) → wp_X0_stopBehind (fun r_5 => ((r_5 = (-1 : Int32) → wl_X0_kthOnTheWay_17 post A_ring A_buffer A_firstPlace A_forcedPlace A_endPlace A_wordsToFailure A_opened k17_1 k17_2 k17_3 n17 r_5 (-1 : Int32) (y17_6 + (-1 : Int32)) (y17_7 + (1 : Int32))) ∧ (¬ r_5 = (-1 : Int32) → wp_X0_lastRecordBefore (fun r_6 => wl_X0_kthOnTheWay_17 post A_ring A_buffer A_firstPlace A_forcedPlace A_endPlace A_wordsToFailure A_opened k17_1 k17_2 k17_3 n17 r_5 r_6 (y17_6 + (-1 : Int32)) (y17_7 + (1 : Int32))) y17_5 A_ring A_buffer A_firstPlace A_forcedPlace A_endPlace A_wordsToFailure A_opened))) y17_5 A_ring A_buffer A_firstPlace A_forcedPlace A_endPlace A_wordsToFailure A_opened))))) y17_5 k17_1 k17_2 A_ring A_buffer A_firstPlace A_forcedPlace A_endPlace A_wordsToFailure A_opened) ∧ (¬ y17_5 = y17_4 → ((y17_4 = (-1 : Int32) → wl_X0_kthOnTheWay_17 post A_ring A_buffer A_firstPlace A_forcedPlace A_endPlace A_wordsToFailure A_opened k17_1 k17_2 k17_3 n17 y17_4 (-1 : Int32) y17_6 (y17_7 + (1 : Int32))) ∧ (¬ y17_4 = (-1 : Int32) → wp_X0_lastRecordBefore (fun r_1 => wl_X0_kthOnTheWay_17 post A_ring A_buffer A_firstPlace A_forcedPlace A_endPlace A_wordsToFailure A_opened k17_1 k17_2 k17_3 n17 y17_4 r_1 y17_6 (y17_7 + (1 : Int32))) y17_5 A_ring A_buffer A_firstPlace A_forcedPlace A_endPlace A_wordsToFailure A_opened))))))))))
def wp_X0_kthOnTheWay (post : Int32 → Prop) (x1 : Int32) (x2 : Int32) (x3 : Int32) (A_ring : Nat → Int32) (A_buffer : Nat → Int32) (A_firstPlace : Int32) (A_forcedPlace : Int32) (A_endPlace : Int32) (A_wordsToFailure : Int32) (A_opened : Int32) : Prop :=
  wp_X0_lastRecordOf (fun r_7 => ∃ n, wl_X0_kthOnTheWay_17 post A_ring A_buffer A_firstPlace A_forcedPlace A_endPlace A_wordsToFailure A_opened x1 x2 x3 n r_7 r_7 x3 (0 : Int32)) x1 A_ring A_buffer A_firstPlace A_forcedPlace A_endPlace A_wordsToFailure A_opened
set_option maxHeartbeats 4000000 in
set_option maxRecDepth 100000 in
theorem met_X0_kthOnTheWay (l : Launch) (dC : Nat → ClassId) (dI : Nat → Nat → Nat) (qA qA_ring qA_buffer : Nat) (cA_ring cA_buffer : ClassId) (A_ring : Nat → Int32) (A_buffer : Nat → Int32) (A_firstPlace : Int32) (A_forcedPlace : Int32) (A_endPlace : Int32) (A_wordsToFailure : Int32) (A_opened : Int32) (x1 : Int32) (x2 : Int32) (x3 : Int32) (post : Int32 → Prop) (hw : wp_X0_kthOnTheWay post x1 x2 x3 A_ring A_buffer A_firstPlace A_forcedPlace A_endPlace A_wordsToFailure A_opened) :
    Met l yX0_kthOnTheWay wsX0_kthOnTheWay ({ frames := 3, cells := 0, slots := 0, locals := 71 } : Room) (pcR_A dC dI qA qA_ring qA_buffer cA_ring cA_buffer A_ring A_buffer A_firstPlace A_forcedPlace A_endPlace A_wordsToFailure A_opened [.ref qA, .int x1, .int x2, .int x3]) (vp_Si post) 0 0 (fun _ => False) := by
  refine Met.ofW (cc := cX0_kthOnTheWay) (maxL := 8) (ret := (some .int)) (by decide) rfl ?_
  intro p e s m args below meth c s₁ B hml hv
  obtain ⟨hav, hP, hK⟩ := hv
  have hx := B.exec
  have hb := B.bytes
  have hr := B.returns
  have hts := atoms_spec (ws := wsX0_kthOnTheWay) B.pre
  have hbg : ∀ w ∈ bigW, w.before args s = true := fun w h => hts w (List.mem_cons_of_mem _ h)
  have hown : s.vm.findClass RX0 = some m.cls := findClass_of_methodNamed B.named
  have hlocks := B.notSynchronized
  have hP : va_P (dC, dI) vwCl [(qA, .inr (0, [.ref qA_ring, .ref qA_buffer, .int A_firstPlace, .int A_forcedPlace, .int A_endPlace, .int A_wordsToFailure, .int A_opened])), (qA_ring, .inl (cA_ring, 65536, .inl A_ring)), (qA_buffer, .inl (cA_buffer, 200, .inl A_buffer))] s.heap := hP
  generalize hQQ : MQ below (vp_Si post) args s 0 0 (fun _ => False) = QQ
  have hl := lv_entry ([.ref qA, .int x1, .int x2, .int x3]) (n := 8) (Nat.le_of_ble_eq_true rfl)
  rw [show entryFrame m args 8 = entryFrame m ([.ref qA, .int x1, .int x2, .int x3] : List Value).toArray 8 by rw [hav], lg_entry_eq]
  generalize (lg_sl ([.ref qA, .int x1, .int x2, .int x3]) ++ List.replicate (8 - (lg_sl ([.ref qA, .int x1, .int x2, .int x3])).length) Slot.unset).toArray = ls at hl ⊢
  have hl : lv_has ls 8 [(0, .ref qA), (1, .int x1), (2, .int x2), (3, .int x3)] := hl
  unfold wp_X0_kthOnTheWay at hw
  have hL17 : ∀ (n17 : Nat) (k17_1 : Int32) (k17_2 : Int32) (k17_3 : Int32) (y17_4 : Int32) (y17_5 : Int32) (y17_6 : Int32) (y17_7 : Int32), wl_X0_kthOnTheWay_17 post A_ring A_buffer A_firstPlace A_forcedPlace A_endPlace A_wordsToFailure A_opened k17_1 k17_2 k17_3 n17 y17_4 y17_5 y17_6 y17_7 → ∀ ls : Array Slot, lv_has ls 8 [(0, .ref qA), (1, .int k17_1), (2, .int k17_2), (3, .int k17_3), (4, .int y17_4), (5, .int y17_5), (6, .int y17_6), (7, .int y17_7)] → W p l e (headSpec wsX0_kthOnTheWay ({ frames := 3, cells := 0, slots := 0, locals := 71 } : Room)).room s m args below meth c s.heap [] 0 0 QQ (F0 m 17 ls []) := by
    intro n17
    induction n17 with
    | zero => intro k17_1 k17_2 k17_3 y17_4 y17_5 y17_6 y17_7 hw; exact False.elim hw
    | succ n17 ih17 =>
      intro k17_1 k17_2 k17_3 y17_4 y17_5 y17_6 y17_7 hw ls hl
      rw [wl_X0_kthOnTheWay_17] at hw
      refine lv_iload hx hb dX0_kthOnTheWay_17 (lv_at hl 7 rfl) ?_
      refine lv_sipush (v := (13107 : Int32)) hx hb dX0_kthOnTheWay_19 (by decide) ?_
      refine lv_icmp_ge (tgt := 99) hx hb dX0_kthOnTheWay_22 (by decide) (fun c9 => ?_) (fun c9 => ?_)
      · have hw := hw.1 c9
        refine lv_iconst (v := (-1 : Int32)) hx hb dX0_kthOnTheWay_99 (by decide) ?_
        subst hQQ
        exact W.iret (v := (-1 : Int32)) hx hb hr (fun t ht _ => ⟨(-1 : Int32), rfl, hw, ht⟩) (by simp) dX0_kthOnTheWay_100
      · have hw := hw.2 c9
        refine lv_iload hx hb dX0_kthOnTheWay_25 (lv_at hl 5 rfl) ?_
        refine lv_iconst (v := (-1 : Int32)) hx hb dX0_kthOnTheWay_27 (by decide) ?_
        refine lv_icmp_eq (tgt := 99) hx hb dX0_kthOnTheWay_28 (by decide) (fun c9 => ?_) (fun c9 => ?_)
        · have hw := hw.1 c9
          refine lv_iconst (v := (-1 : Int32)) hx hb dX0_kthOnTheWay_99 (by decide) ?_
          subst hQQ
          exact W.iret (v := (-1 : Int32)) hx hb hr (fun t ht _ => ⟨(-1 : Int32), rfl, hw, ht⟩) (by simp) dX0_kthOnTheWay_100
        · have hw := hw.2 c9
          refine lv_iload hx hb dX0_kthOnTheWay_31 (lv_at hl 5 rfl) ?_
          refine lv_iload hx hb dX0_kthOnTheWay_33 (lv_at hl 4 rfl) ?_
          refine lv_icmp_lt (tgt := 99) hx hb dX0_kthOnTheWay_35 (by decide) (fun c9 => ?_) (fun c9 => ?_)
          · have hw := hw.1 c9
            refine lv_iconst (v := (-1 : Int32)) hx hb dX0_kthOnTheWay_99 (by decide) ?_
            subst hQQ
            exact W.iret (v := (-1 : Int32)) hx hb hr (fun t ht _ => ⟨(-1 : Int32), rfl, hw, ht⟩) (by simp) dX0_kthOnTheWay_100
          · have hw := hw.2 c9
            refine lv_iload hx hb dX0_kthOnTheWay_38 (lv_at hl 5 rfl) ?_
            refine lv_iload hx hb dX0_kthOnTheWay_40 (lv_at hl 4 rfl) ?_
            refine lv_icmp_ne (tgt := 75) hx hb dX0_kthOnTheWay_42 (by decide) (fun c9 => ?_) (fun c9 => ?_)
            · have hw := hw.2 c9
              refine lv_iload hx hb dX0_kthOnTheWay_75 (lv_at hl 4 rfl) ?_
              refine lv_iconst (v := (-1 : Int32)) hx hb dX0_kthOnTheWay_77 (by decide) ?_
              refine lv_icmp_ne (tgt := 85) hx hb dX0_kthOnTheWay_78 (by decide) (fun c9 => ?_) (fun c9 => ?_)
              · have hw := hw.2 c9
                refine lv_aload_n hx hb dX0_kthOnTheWay_85 rfl (lv_at hl 0 rfl) ?_
                refine lv_iload hx hb dX0_kthOnTheWay_86 (lv_at hl 5 rfl) ?_
                refine vp_callSi (W.runV (As := [.int y17_5]) (rest := []) ⟨hx, hb, hml, hown, hbg⟩ (met_X0_lastRecordBefore l dC dI qA qA_ring qA_buffer cA_ring cA_buffer A_ring A_buffer A_firstPlace A_forcedPlace A_endPlace A_wordsToFailure A_opened y17_5 _ hw) (cwV 1 hbg g_RX0_88 rfl rfl rfl (by decide +kernel) ⟨Nat.le_of_ble_eq_true rfl, Nat.le_of_ble_eq_true rfl⟩) ⟨pcR_A_b _ _ _ _ _ _ _ _ _ _ _ _ _ _ _, va_recv hK hP (ci := 0) (q0 := 0) rfl rfl, fun U hU hW => ⟨rfl, by rw [hU]; exact hP, va_K.moved hW.alike hK⟩⟩ rfl rfl hl.1 rfl (lv_room (Nat.le_of_ble_eq_true rfl)) dX0_kthOnTheWay_88 ⟨Nat.le_of_ble_eq_true rfl, Nat.le_of_ble_eq_true rfl⟩) (fun r_1 hw => ?_)
                try dsimp only at hw
                refine lv_istore (lv' := [(5, .int r_1), (0, .ref qA), (1, .int k17_1), (2, .int k17_2), (3, .int k17_3), (4, .int y17_4), (6, .int y17_6), (7, .int y17_7)]) hx hb dX0_kthOnTheWay_91 hl (by decide) rfl (fun ls hl => ?_)
                refine lv_iinc (v := y17_7 + (1 : Int32)) (lv' := [(7, .int (y17_7 + (1 : Int32))), (5, .int r_1), (0, .ref qA), (1, .int k17_1), (2, .int k17_2), (3, .int k17_3), (4, .int y17_4), (6, .int y17_6)]) hx hb dX0_kthOnTheWay_93 hl (k := 7) rfl rfl (by decide) rfl (fun ls hl => ?_)
                refine lv_goto (tgt := 17) hx hb dX0_kthOnTheWay_96 (by decide) ?_
                exact ih17 k17_1 k17_2 k17_3 y17_4 r_1 y17_6 (y17_7 + (1 : Int32)) hw ls (lv_sub hl [2, 3, 4, 5, 6, 1, 7, 0] rfl)
              · have hw := hw.1 c9
                refine lv_iconst (v := (-1 : Int32)) hx hb dX0_kthOnTheWay_81 (by decide) ?_
                refine lv_goto (tgt := 91) hx hb dX0_kthOnTheWay_82 (by decide) ?_
                refine lv_istore (lv' := [(5, .int (-1 : Int32)), (0, .ref qA), (1, .int k17_1), (2, .int k17_2), (3, .int k17_3), (4, .int y17_4), (6, .int y17_6), (7, .int y17_7)]) hx hb dX0_kthOnTheWay_91 hl (by decide) rfl (fun ls hl => ?_)
                refine lv_iinc (v := y17_7 + (1 : Int32)) (lv' := [(7, .int (y17_7 + (1 : Int32))), (5, .int (-1 : Int32)), (0, .ref qA), (1, .int k17_1), (2, .int k17_2), (3, .int k17_3), (4, .int y17_4), (6, .int y17_6)]) hx hb dX0_kthOnTheWay_93 hl (k := 7) rfl rfl (by decide) rfl (fun ls hl => ?_)
                refine lv_goto (tgt := 17) hx hb dX0_kthOnTheWay_96 (by decide) ?_
                exact ih17 k17_1 k17_2 k17_3 y17_4 (-1 : Int32) y17_6 (y17_7 + (1 : Int32)) hw ls (lv_sub hl [2, 3, 4, 5, 6, 1, 7, 0] rfl)
            · have hw := hw.1 c9
              refine lv_aload_n hx hb dX0_kthOnTheWay_45 rfl (lv_at hl 0 rfl) ?_
              refine lv_iload hx hb dX0_kthOnTheWay_46 (lv_at hl 5 rfl) ?_
              refine lv_iload_n hx hb dX0_kthOnTheWay_48 rfl (lv_at hl 1 rfl) ?_
              refine lv_iload_n hx hb dX0_kthOnTheWay_49 rfl (lv_at hl 2 rfl) ?_
              refine vp_callSi (W.runV (As := [.int y17_5, .int k17_1, .int k17_2]) (rest := []) ⟨hx, hb, hml, hown, hbg⟩ (met_X0_isAskedFor l dC dI qA qA_ring qA_buffer cA_ring cA_buffer A_ring A_buffer A_firstPlace A_forcedPlace A_endPlace A_wordsToFailure A_opened y17_5 k17_1 k17_2 _ hw) (cwV 3 hbg g_RX0_147 rfl rfl rfl (by decide +kernel) ⟨Nat.le_of_ble_eq_true rfl, Nat.le_of_ble_eq_true rfl⟩) ⟨pcR_A_b _ _ _ _ _ _ _ _ _ _ _ _ _ _ _, va_recv hK hP (ci := 0) (q0 := 0) rfl rfl, fun U hU hW => ⟨rfl, by rw [hU]; exact hP, va_K.moved hW.alike hK⟩⟩ rfl rfl hl.1 rfl (lv_room (Nat.le_of_ble_eq_true rfl)) dX0_kthOnTheWay_50 ⟨Nat.le_of_ble_eq_true rfl, Nat.le_of_ble_eq_true rfl⟩) (fun r_2 hw => ?_)
              try dsimp only at hw
              refine lv_if_eq (tgt := 67) hx hb dX0_kthOnTheWay_53 (by decide) (fun c9 => ?_) (fun c9 => ?_)
              · have hw := hw.1 c9
                refine lv_aload_n hx hb dX0_kthOnTheWay_67 rfl (lv_at hl 0 rfl) ?_
                refine lv_iload hx hb dX0_kthOnTheWay_68 (lv_at hl 5 rfl) ?_
                refine vp_callSi (W.runV (As := [.int y17_5]) (rest := []) ⟨hx, hb, hml, hown, hbg⟩ (met_X0_stopBehind l dC dI qA qA_ring qA_buffer cA_ring cA_buffer A_ring A_buffer A_firstPlace A_forcedPlace A_endPlace A_wordsToFailure A_opened y17_5 _ hw) (cwV 1 hbg g_RX0_151 rfl rfl rfl (by decide +kernel) ⟨Nat.le_of_ble_eq_true rfl, Nat.le_of_ble_eq_true rfl⟩) ⟨pcR_A_b _ _ _ _ _ _ _ _ _ _ _ _ _ _ _, va_recv hK hP (ci := 0) (q0 := 0) rfl rfl, fun U hU hW => ⟨rfl, by rw [hU]; exact hP, va_K.moved hW.alike hK⟩⟩ rfl rfl hl.1 rfl (lv_room (Nat.le_of_ble_eq_true rfl)) dX0_kthOnTheWay_70 ⟨Nat.le_of_ble_eq_true rfl, Nat.le_of_ble_eq_true rfl⟩) (fun r_3 hw => ?_)
                try dsimp only at hw
                refine lv_istore (lv' := [(4, .int r_3), (0, .ref qA), (1, .int k17_1), (2, .int k17_2), (3, .int k17_3), (5, .int y17_5), (6, .int y17_6), (7, .int y17_7)]) hx hb dX0_kthOnTheWay_73 hl (by decide) rfl (fun ls hl => ?_)
                refine lv_iload hx hb dX0_kthOnTheWay_75 (lv_at hl 0 rfl) ?_
                refine lv_iconst (v := (-1 : Int32)) hx hb dX0_kthOnTheWay_77 (by decide) ?_
                refine lv_icmp_ne (tgt := 85) hx hb dX0_kthOnTheWay_78 (by decide) (fun c9 => ?_) (fun c9 => ?_)
                · have hw := hw.2 c9
                  refine lv_aload_n hx hb dX0_kthOnTheWay_85 rfl (lv_at hl 1 rfl) ?_
                  refine lv_iload hx hb dX0_kthOnTheWay_86 (lv_at hl 5 rfl) ?_
                  refine vp_callSi (W.runV (As := [.int y17_5]) (rest := []) ⟨hx, hb, hml, hown, hbg⟩ (met_X0_lastRecordBefore l dC dI qA qA_ring qA_buffer cA_ring cA_buffer A_ring A_buffer A_firstPlace A_forcedPlace A_endPlace A_wordsToFailure A_opened y17_5 _ hw) (cwV 1 hbg g_RX0_88 rfl rfl rfl (by decide +kernel) ⟨Nat.le_of_ble_eq_true rfl, Nat.le_of_ble_eq_true rfl⟩) ⟨pcR_A_b _ _ _ _ _ _ _ _ _ _ _ _ _ _ _, va_recv hK hP (ci := 0) (q0 := 0) rfl rfl, fun U hU hW => ⟨rfl, by rw [hU]; exact hP, va_K.moved hW.alike hK⟩⟩ rfl rfl hl.1 rfl (lv_room (Nat.le_of_ble_eq_true rfl)) dX0_kthOnTheWay_88 ⟨Nat.le_of_ble_eq_true rfl, Nat.le_of_ble_eq_true rfl⟩) (fun r_4 hw => ?_)
                  try dsimp only at hw
                  refine lv_istore (lv' := [(5, .int r_4), (4, .int r_3), (0, .ref qA), (1, .int k17_1), (2, .int k17_2), (3, .int k17_3), (6, .int y17_6), (7, .int y17_7)]) hx hb dX0_kthOnTheWay_91 hl (by decide) rfl (fun ls hl => ?_)
                  refine lv_iinc (v := y17_7 + (1 : Int32)) (lv' := [(7, .int (y17_7 + (1 : Int32))), (5, .int r_4), (4, .int r_3), (0, .ref qA), (1, .int k17_1), (2, .int k17_2), (3, .int k17_3), (6, .int y17_6)]) hx hb dX0_kthOnTheWay_93 hl (k := 7) rfl rfl (by decide) rfl (fun ls hl => ?_)
                  refine lv_goto (tgt := 17) hx hb dX0_kthOnTheWay_96 (by decide) ?_
                  exact ih17 k17_1 k17_2 k17_3 r_3 r_4 y17_6 (y17_7 + (1 : Int32)) hw ls (lv_sub hl [3, 4, 5, 6, 2, 1, 7, 0] rfl)
                · have hw := hw.1 c9
                  refine lv_iconst (v := (-1 : Int32)) hx hb dX0_kthOnTheWay_81 (by decide) ?_
                  refine lv_goto (tgt := 91) hx hb dX0_kthOnTheWay_82 (by decide) ?_
                  refine lv_istore (lv' := [(5, .int (-1 : Int32)), (4, .int r_3), (0, .ref qA), (1, .int k17_1), (2, .int k17_2), (3, .int k17_3), (6, .int y17_6), (7, .int y17_7)]) hx hb dX0_kthOnTheWay_91 hl (by decide) rfl (fun ls hl => ?_)
                  refine lv_iinc (v := y17_7 + (1 : Int32)) (lv' := [(7, .int (y17_7 + (1 : Int32))), (5, .int (-1 : Int32)), (4, .int r_3), (0, .ref qA), (1, .int k17_1), (2, .int k17_2), (3, .int k17_3), (6, .int y17_6)]) hx hb dX0_kthOnTheWay_93 hl (k := 7) rfl rfl (by decide) rfl (fun ls hl => ?_)
                  refine lv_goto (tgt := 17) hx hb dX0_kthOnTheWay_96 (by decide) ?_
                  exact ih17 k17_1 k17_2 k17_3 r_3 (-1 : Int32) y17_6 (y17_7 + (1 : Int32)) hw ls (lv_sub hl [3, 4, 5, 6, 2, 1, 7, 0] rfl)
              · have hw := hw.2 c9
                refine lv_iload hx hb dX0_kthOnTheWay_56 (lv_at hl 6 rfl) ?_
                refine lv_if_ne (tgt := 64) hx hb dX0_kthOnTheWay_58 (by decide) (fun c9 => ?_) (fun c9 => ?_)
                · have hw := hw.2 c9
                  refine lv_iinc (v := y17_6 + (-1 : Int32)) (lv' := [(6, .int (y17_6 + (-1 : Int32))), (0, .ref qA), (1, .int k17_1), (2, .int k17_2), (3, .int k17_3), (4, .int y17_4), (5, .int y17_5), (7, .int y17_7)]) hx hb dX0_kthOnTheWay_64 hl (k := 6) rfl rfl (by decide) rfl (fun ls hl => ?_)
                  refine lv_aload_n hx hb dX0_kthOnTheWay_67 rfl (lv_at hl 1 rfl) ?_
                  refine lv_iload hx hb dX0_kthOnTheWay_68 (lv_at hl 6 rfl) ?_
                  refine vp_callSi (W.runV (As := [.int y17_5]) (rest := []) ⟨hx, hb, hml, hown, hbg⟩ (met_X0_stopBehind l dC dI qA qA_ring qA_buffer cA_ring cA_buffer A_ring A_buffer A_firstPlace A_forcedPlace A_endPlace A_wordsToFailure A_opened y17_5 _ hw) (cwV 1 hbg g_RX0_151 rfl rfl rfl (by decide +kernel) ⟨Nat.le_of_ble_eq_true rfl, Nat.le_of_ble_eq_true rfl⟩) ⟨pcR_A_b _ _ _ _ _ _ _ _ _ _ _ _ _ _ _, va_recv hK hP (ci := 0) (q0 := 0) rfl rfl, fun U hU hW => ⟨rfl, by rw [hU]; exact hP, va_K.moved hW.alike hK⟩⟩ rfl rfl hl.1 rfl (lv_room (Nat.le_of_ble_eq_true rfl)) dX0_kthOnTheWay_70 ⟨Nat.le_of_ble_eq_true rfl, Nat.le_of_ble_eq_true rfl⟩) (fun r_5 hw => ?_)
                  try dsimp only at hw
                  refine lv_istore (lv' := [(4, .int r_5), (6, .int (y17_6 + (-1 : Int32))), (0, .ref qA), (1, .int k17_1), (2, .int k17_2), (3, .int k17_3), (5, .int y17_5), (7, .int y17_7)]) hx hb dX0_kthOnTheWay_73 hl (by decide) rfl (fun ls hl => ?_)
                  refine lv_iload hx hb dX0_kthOnTheWay_75 (lv_at hl 0 rfl) ?_
                  refine lv_iconst (v := (-1 : Int32)) hx hb dX0_kthOnTheWay_77 (by decide) ?_
                  refine lv_icmp_ne (tgt := 85) hx hb dX0_kthOnTheWay_78 (by decide) (fun c9 => ?_) (fun c9 => ?_)
                  · have hw := hw.2 c9
                    refine lv_aload_n hx hb dX0_kthOnTheWay_85 rfl (lv_at hl 2 rfl) ?_
                    refine lv_iload hx hb dX0_kthOnTheWay_86 (lv_at hl 6 rfl) ?_
                    refine vp_callSi (W.runV (As := [.int y17_5]) (rest := []) ⟨hx, hb, hml, hown, hbg⟩ (met_X0_lastRecordBefore l dC dI qA qA_ring qA_buffer cA_ring cA_buffer A_ring A_buffer A_firstPlace A_forcedPlace A_endPlace A_wordsToFailure A_opened y17_5 _ hw) (cwV 1 hbg g_RX0_88 rfl rfl rfl (by decide +kernel) ⟨Nat.le_of_ble_eq_true rfl, Nat.le_of_ble_eq_true rfl⟩) ⟨pcR_A_b _ _ _ _ _ _ _ _ _ _ _ _ _ _ _, va_recv hK hP (ci := 0) (q0 := 0) rfl rfl, fun U hU hW => ⟨rfl, by rw [hU]; exact hP, va_K.moved hW.alike hK⟩⟩ rfl rfl hl.1 rfl (lv_room (Nat.le_of_ble_eq_true rfl)) dX0_kthOnTheWay_88 ⟨Nat.le_of_ble_eq_true rfl, Nat.le_of_ble_eq_true rfl⟩) (fun r_6 hw => ?_)
                    try dsimp only at hw
                    refine lv_istore (lv' := [(5, .int r_6), (4, .int r_5), (6, .int (y17_6 + (-1 : Int32))), (0, .ref qA), (1, .int k17_1), (2, .int k17_2), (3, .int k17_3), (7, .int y17_7)]) hx hb dX0_kthOnTheWay_91 hl (by decide) rfl (fun ls hl => ?_)
                    refine lv_iinc (v := y17_7 + (1 : Int32)) (lv' := [(7, .int (y17_7 + (1 : Int32))), (5, .int r_6), (4, .int r_5), (6, .int (y17_6 + (-1 : Int32))), (0, .ref qA), (1, .int k17_1), (2, .int k17_2), (3, .int k17_3)]) hx hb dX0_kthOnTheWay_93 hl (k := 7) rfl rfl (by decide) rfl (fun ls hl => ?_)
                    refine lv_goto (tgt := 17) hx hb dX0_kthOnTheWay_96 (by decide) ?_
                    exact ih17 k17_1 k17_2 k17_3 r_5 r_6 (y17_6 + (-1 : Int32)) (y17_7 + (1 : Int32)) hw ls (lv_sub hl [4, 5, 6, 7, 2, 1, 3, 0] rfl)
                  · have hw := hw.1 c9
                    refine lv_iconst (v := (-1 : Int32)) hx hb dX0_kthOnTheWay_81 (by decide) ?_
                    refine lv_goto (tgt := 91) hx hb dX0_kthOnTheWay_82 (by decide) ?_
                    refine lv_istore (lv' := [(5, .int (-1 : Int32)), (4, .int r_5), (6, .int (y17_6 + (-1 : Int32))), (0, .ref qA), (1, .int k17_1), (2, .int k17_2), (3, .int k17_3), (7, .int y17_7)]) hx hb dX0_kthOnTheWay_91 hl (by decide) rfl (fun ls hl => ?_)
                    refine lv_iinc (v := y17_7 + (1 : Int32)) (lv' := [(7, .int (y17_7 + (1 : Int32))), (5, .int (-1 : Int32)), (4, .int r_5), (6, .int (y17_6 + (-1 : Int32))), (0, .ref qA), (1, .int k17_1), (2, .int k17_2), (3, .int k17_3)]) hx hb dX0_kthOnTheWay_93 hl (k := 7) rfl rfl (by decide) rfl (fun ls hl => ?_)
                    refine lv_goto (tgt := 17) hx hb dX0_kthOnTheWay_96 (by decide) ?_
                    exact ih17 k17_1 k17_2 k17_3 r_5 (-1 : Int32) (y17_6 + (-1 : Int32)) (y17_7 + (1 : Int32)) hw ls (lv_sub hl [4, 5, 6, 7, 2, 1, 3, 0] rfl)
                · have hw := hw.1 c9
                  refine lv_iload hx hb dX0_kthOnTheWay_61 (lv_at hl 5 rfl) ?_
                  subst hQQ
                  exact W.iret (v := y17_5) hx hb hr (fun t ht _ => ⟨y17_5, rfl, hw, ht⟩) (by simp) dX0_kthOnTheWay_63
  refine lv_aload_n hx hb dX0_kthOnTheWay_0 rfl (lv_at hl 0 rfl) ?_
  refine lv_iload_n hx hb dX0_kthOnTheWay_1 rfl (lv_at hl 1 rfl) ?_
  refine vp_callSi (W.runV (As := [.int x1]) (rest := []) ⟨hx, hb, hml, hown, hbg⟩ (met_X0_lastRecordOf l dC dI qA qA_ring qA_buffer cA_ring cA_buffer A_ring A_buffer A_firstPlace A_forcedPlace A_endPlace A_wordsToFailure A_opened x1 _ hw) (cwV 1 hbg g_RX0_61 rfl rfl rfl (by decide +kernel) ⟨Nat.le_of_ble_eq_true rfl, Nat.le_of_ble_eq_true rfl⟩) ⟨pcR_A_b _ _ _ _ _ _ _ _ _ _ _ _ _ _ _, va_recv hK hP (ci := 0) (q0 := 0) rfl rfl, fun U hU hW => ⟨rfl, by rw [hU]; exact hP, va_K.moved hW.alike hK⟩⟩ rfl rfl hl.1 rfl (lv_room (Nat.le_of_ble_eq_true rfl)) dX0_kthOnTheWay_2 ⟨Nat.le_of_ble_eq_true rfl, Nat.le_of_ble_eq_true rfl⟩) (fun r_7 hw => ?_)
  try dsimp only at hw
  refine lv_istore (lv' := [(4, .int r_7), (0, .ref qA), (1, .int x1), (2, .int x2), (3, .int x3)]) hx hb dX0_kthOnTheWay_5 hl (by decide) rfl (fun ls hl => ?_)
  refine lv_iload hx hb dX0_kthOnTheWay_7 (lv_at hl 0 rfl) ?_
  refine lv_istore (lv' := [(5, .int r_7), (4, .int r_7), (0, .ref qA), (1, .int x1), (2, .int x2), (3, .int x3)]) hx hb dX0_kthOnTheWay_9 hl (by decide) rfl (fun ls hl => ?_)
  refine lv_iload_n hx hb dX0_kthOnTheWay_11 rfl (lv_at hl 5 rfl) ?_
  refine lv_istore (lv' := [(6, .int x3), (5, .int r_7), (4, .int r_7), (0, .ref qA), (1, .int x1), (2, .int x2), (3, .int x3)]) hx hb dX0_kthOnTheWay_12 hl (by decide) rfl (fun ls hl => ?_)
  refine lv_iconst (v := (0 : Int32)) hx hb dX0_kthOnTheWay_14 (by decide) ?_
  refine lv_istore (lv' := [(7, .int (0 : Int32)), (6, .int x3), (5, .int r_7), (4, .int r_7), (0, .ref qA), (1, .int x1), (2, .int x2), (3, .int x3)]) hx hb dX0_kthOnTheWay_15 hl (by decide) rfl (fun ls hl => ?_)
  obtain ⟨n9, hw⟩ := hw
  exact hL17 n9 x1 x2 x3 r_7 r_7 x3 (0 : Int32) hw ls (lv_sub hl [4, 5, 6, 7, 3, 2, 1, 0] rfl)
def wp_X0_isOpen (post : Int32 → Prop) (A_ring : Nat → Int32) (A_buffer : Nat → Int32) (A_firstPlace : Int32) (A_forcedPlace : Int32) (A_endPlace : Int32) (A_wordsToFailure : Int32) (A_opened : Int32) : Prop :=
  narrow .boolean (.int A_opened) = .int A_opened ∧ (post A_opened)
set_option maxHeartbeats 4000000 in
set_option maxRecDepth 100000 in
theorem met_X0_isOpen (l : Launch) (dC : Nat → ClassId) (dI : Nat → Nat → Nat) (qA qA_ring qA_buffer : Nat) (cA_ring cA_buffer : ClassId) (A_ring : Nat → Int32) (A_buffer : Nat → Int32) (A_firstPlace : Int32) (A_forcedPlace : Int32) (A_endPlace : Int32) (A_wordsToFailure : Int32) (A_opened : Int32) (post : Int32 → Prop) (hw : wp_X0_isOpen post A_ring A_buffer A_firstPlace A_forcedPlace A_endPlace A_wordsToFailure A_opened) :
    Met l yX0_isOpen wsX0_isOpen ({ frames := 0, cells := 0, slots := 0, locals := 0 } : Room) (pcR_A dC dI qA qA_ring qA_buffer cA_ring cA_buffer A_ring A_buffer A_firstPlace A_forcedPlace A_endPlace A_wordsToFailure A_opened [.ref qA]) (vp_Si post) 0 0 (fun _ => False) := by
  refine Met.ofW (cc := cX0_isOpen) (maxL := 1) (ret := (some .boolean)) (by decide) rfl ?_
  intro p e s m args below meth c s₁ B hml hv
  obtain ⟨hav, hP, hK⟩ := hv
  have hx := B.exec
  have hb := B.bytes
  have hr := B.returns
  have hts := atoms_spec (ws := wsX0_isOpen) B.pre
  have hbg : ∀ w ∈ bigW, w.before args s = true := fun w h => hts w (List.mem_cons_of_mem _ h)
  have hown : s.vm.findClass RX0 = some m.cls := findClass_of_methodNamed B.named
  have hlocks := B.notSynchronized
  have hP : va_P (dC, dI) vwCl [(qA, .inr (0, [.ref qA_ring, .ref qA_buffer, .int A_firstPlace, .int A_forcedPlace, .int A_endPlace, .int A_wordsToFailure, .int A_opened])), (qA_ring, .inl (cA_ring, 65536, .inl A_ring)), (qA_buffer, .inl (cA_buffer, 200, .inl A_buffer))] s.heap := hP
  generalize hQQ : MQ below (vp_Si post) args s 0 0 (fun _ => False) = QQ
  have hl := lv_entry ([.ref qA]) (n := 1) (Nat.le_of_ble_eq_true rfl)
  rw [show entryFrame m args 1 = entryFrame m ([.ref qA] : List Value).toArray 1 by rw [hav], lg_entry_eq]
  generalize (lg_sl ([.ref qA]) ++ List.replicate (1 - (lg_sl ([.ref qA])).length) Slot.unset).toArray = ls at hl ⊢
  have hl : lv_has ls 1 [(0, .ref qA)] := hl
  unfold wp_X0_isOpen at hw
  refine lv_aload_n hx hb dX0_isOpen_0 rfl (lv_at hl 0 rfl) ?_
  refine va_get (D := (dC, dI)) (ci := 0) (v := .int A_opened) (C := RX0) (T := TX0) (N := 7) hx hb hbg in_X0 hown hK hP 0 rfl rfl 6 (by decide) (hbg _ kw_45) (fun _ h9 => h9) rfl dX0_isOpen_1 ?_
  obtain ⟨h_1, hw⟩ := hw
  subst hQQ
  exact W.zret (v := A_opened) hx hb hr h_1 (fun t ht _ => ⟨A_opened, rfl, hw, ht⟩) (by simp) dX0_isOpen_4
end
section
def wl_X0_fillBuffer_2 (post : St_A → Prop) (k2_1 : Int32) (k2_2 : Int32) : Nat → Int32 → (Nat → Int32) → (Nat → Int32) → Int32 → Int32 → Int32 → Int32 → Int32 → Prop
  | 0, _, _, _, _, _, _, _, _ => False
  | n2 + 1, y2_3, A_ring_L2, A_buffer_L2, A_firstPlace_L2, A_forcedPlace_L2, A_endPlace_L2, A_wordsToFailure_L2, A_opened_L2 =>
    (((200 : Int32) ≤ y2_3 → post (A_ring_L2, A_buffer_L2, A_firstPlace_L2, A_forcedPlace_L2, A_endPlace_L2, A_wordsToFailure_L2, A_opened_L2)) ∧ (¬ (200 : Int32) ≤ y2_3 → vp_in y2_3 200 ∧ (wl_X0_fillBuffer_2 post k2_1 k2_2 n2 (y2_3 + (1 : Int32)) A_ring_L2 (upd A_buffer_L2 y2_3.toNatClampNeg (k2_1 + (y2_3 * k2_2))) A_firstPlace_L2 A_forcedPlace_L2 A_endPlace_L2 A_wordsToFailure_L2 A_opened_L2)))
def wp_X0_fillBuffer (post : St_A → Prop) (x1 : Int32) (x2 : Int32) (A_ring : Nat → Int32) (A_buffer : Nat → Int32) (A_firstPlace : Int32) (A_forcedPlace : Int32) (A_endPlace : Int32) (A_wordsToFailure : Int32) (A_opened : Int32) : Prop :=
  ∃ n, wl_X0_fillBuffer_2 post x1 x2 n (0 : Int32) A_ring A_buffer A_firstPlace A_forcedPlace A_endPlace A_wordsToFailure A_opened
set_option maxHeartbeats 4000000 in
set_option maxRecDepth 100000 in
theorem met_X0_fillBuffer (l : Launch) (dC : Nat → ClassId) (dI : Nat → Nat → Nat) (qA qA_ring qA_buffer : Nat) (cA_ring cA_buffer : ClassId) (sz : Nat) (A_ring : Nat → Int32) (A_buffer : Nat → Int32) (A_firstPlace : Int32) (A_forcedPlace : Int32) (A_endPlace : Int32) (A_wordsToFailure : Int32) (A_opened : Int32) (x1 : Int32) (x2 : Int32) (post : St_A → Prop) (hw : wp_X0_fillBuffer post x1 x2 A_ring A_buffer A_firstPlace A_forcedPlace A_endPlace A_wordsToFailure A_opened) :
    Met l yX0_fillBuffer wsX0_fillBuffer ({ frames := 0, cells := 0, slots := 0, locals := 0 } : Room) (pcW_A dC dI qA qA_ring qA_buffer cA_ring cA_buffer sz A_ring A_buffer A_firstPlace A_forcedPlace A_endPlace A_wordsToFailure A_opened [.ref qA, .int x1, .int x2]) (va_Qv post (at_A dC dI (va_A [(qA, .inr (0, [.ref qA_ring, .ref qA_buffer, .int A_firstPlace, .int A_forcedPlace, .int A_endPlace, .int A_wordsToFailure, .int A_opened])), (qA_ring, .inl (cA_ring, 65536, .inl A_ring)), (qA_buffer, .inl (cA_buffer, 200, .inl A_buffer))] sz) qA qA_ring qA_buffer cA_ring cA_buffer) (va_A [(qA, .inr (0, [.ref qA_ring, .ref qA_buffer, .int A_firstPlace, .int A_forcedPlace, .int A_endPlace, .int A_wordsToFailure, .int A_opened])), (qA_ring, .inl (cA_ring, 65536, .inl A_ring)), (qA_buffer, .inl (cA_buffer, 200, .inl A_buffer))] sz)) 0 0 (va_A [(qA, .inr (0, [.ref qA_ring, .ref qA_buffer, .int A_firstPlace, .int A_forcedPlace, .int A_endPlace, .int A_wordsToFailure, .int A_opened])), (qA_ring, .inl (cA_ring, 65536, .inl A_ring)), (qA_buffer, .inl (cA_buffer, 200, .inl A_buffer))] sz) := by
  refine Met.ofW (cc := cX0_fillBuffer) (maxL := 4) (ret := none) (by decide) rfl ?_
  intro p e s m args below meth c s₁ B hml hv
  obtain ⟨hav, hsz, hP, hK, hD0⟩ := hv
  have hx := B.exec
  have hb := B.bytes
  have hr := B.returns
  have hts := atoms_spec (ws := wsX0_fillBuffer) B.pre
  have hbg : ∀ w ∈ bigW, w.before args s = true := fun w h => hts w (List.mem_cons_of_mem _ h)
  have hown : s.vm.findClass RX0 = some m.cls := findClass_of_methodNamed B.named
  have hlocks := B.notSynchronized
  subst hsz
  have hD := hD0.self (sz := s.heap.size)
  generalize hAe : va_A [(qA, .inr (0, [.ref qA_ring, .ref qA_buffer, .int A_firstPlace, .int A_forcedPlace, .int A_endPlace, .int A_wordsToFailure, .int A_opened])), (qA_ring, .inl (cA_ring, 65536, .inl A_ring)), (qA_buffer, .inl (cA_buffer, 200, .inl A_buffer))] s.heap.size = A at hD ⊢
  have hA : ∀ q : Nat, s.heap.size ≤ q → A q := fun q h => by rw [← hAe]; exact Or.inr h
  have hS : va_S A s.heap s.heap [] := va_S.rf
  have hP : va_P (dC, dI) vwCl [(qA, .inr (0, [.ref qA_ring, .ref qA_buffer, .int A_firstPlace, .int A_forcedPlace, .int A_endPlace, .int A_wordsToFailure, .int A_opened])), (qA_ring, .inl (cA_ring, 65536, .inl A_ring)), (qA_buffer, .inl (cA_buffer, 200, .inl A_buffer))] s.heap := hP
  generalize hQQ : MQ below (va_Qv post (at_A dC dI A qA qA_ring qA_buffer cA_ring cA_buffer) A) args s 0 0 A = QQ
  have hl := lv_entry ([.ref qA, .int x1, .int x2]) (n := 4) (Nat.le_of_ble_eq_true rfl)
  rw [show entryFrame m args 4 = entryFrame m ([.ref qA, .int x1, .int x2] : List Value).toArray 4 by rw [hav], lg_entry_eq]
  generalize (lg_sl ([.ref qA, .int x1, .int x2]) ++ List.replicate (4 - (lg_sl ([.ref qA, .int x1, .int x2])).length) Slot.unset).toArray = ls at hl ⊢
  have hl : lv_has ls 4 [(0, .ref qA), (1, .int x1), (2, .int x2)] := hl
  unfold wp_X0_fillBuffer at hw
  have hL2 : ∀ (n2 : Nat) (k2_1 : Int32) (k2_2 : Int32) (y2_3 : Int32) (A_ring_L2 : Nat → Int32) (A_buffer_L2 : Nat → Int32) (A_firstPlace_L2 : Int32) (A_forcedPlace_L2 : Int32) (A_endPlace_L2 : Int32) (A_wordsToFailure_L2 : Int32) (A_opened_L2 : Int32), wl_X0_fillBuffer_2 post k2_1 k2_2 n2 y2_3 A_ring_L2 A_buffer_L2 A_firstPlace_L2 A_forcedPlace_L2 A_endPlace_L2 A_wordsToFailure_L2 A_opened_L2 → ∀ (H : Heap) (locs : List Loc), va_P (dC, dI) vwCl [(qA, .inr (0, [.ref qA_ring, .ref qA_buffer, .int A_firstPlace_L2, .int A_forcedPlace_L2, .int A_endPlace_L2, .int A_wordsToFailure_L2, .int A_opened_L2])), (qA_ring, .inl (cA_ring, 65536, .inl A_ring_L2)), (qA_buffer, .inl (cA_buffer, 200, .inl A_buffer_L2))] H → va_D A [(qA, .inr (0, [.ref qA_ring, .ref qA_buffer, .int A_firstPlace_L2, .int A_forcedPlace_L2, .int A_endPlace_L2, .int A_wordsToFailure_L2, .int A_opened_L2])), (qA_ring, .inl (cA_ring, 65536, .inl A_ring_L2)), (qA_buffer, .inl (cA_buffer, 200, .inl A_buffer_L2))] → va_S A s.heap H locs → ∀ ls : Array Slot, lv_has ls 4 [(0, .ref qA), (1, .int k2_1), (2, .int k2_2), (3, .int y2_3)] → W p l e (headSpec wsX0_fillBuffer ({ frames := 0, cells := 0, slots := 0, locals := 0 } : Room)).room s m args below meth c H locs 0 0 QQ (F0 m 2 ls []) := by
    intro n2
    induction n2 with
    | zero => intro k2_1 k2_2 y2_3 A_ring_L2 A_buffer_L2 A_firstPlace_L2 A_forcedPlace_L2 A_endPlace_L2 A_wordsToFailure_L2 A_opened_L2 hw; exact False.elim hw
    | succ n2 ih2 =>
      intro k2_1 k2_2 y2_3 A_ring_L2 A_buffer_L2 A_firstPlace_L2 A_forcedPlace_L2 A_endPlace_L2 A_wordsToFailure_L2 A_opened_L2 hw H locs hP hD hS ls hl
      rw [wl_X0_fillBuffer_2] at hw
      refine lv_iload_n hx hb dX0_fillBuffer_2 rfl (lv_at hl 3 rfl) ?_
      refine lv_aload_n hx hb dX0_fillBuffer_3 rfl (lv_at hl 0 rfl) ?_
      refine va_get (D := (dC, dI)) (ci := 0) (v := .ref qA_buffer) (C := RX0) (T := TX0) (N := 7) hx hb hbg in_X0 hown hK hP 0 rfl rfl 1 (by decide) (hbg _ kw_46) (fun _ h9 => h9) rfl dX0_fillBuffer_4 ?_
      refine va_alen (v := (200 : Int32)) hx hb hK hP 2 1 rfl rfl rfl dX0_fillBuffer_7 ?_
      refine lv_icmp_ge (tgt := 28) hx hb dX0_fillBuffer_8 (by decide) (fun c9 => ?_) (fun c9 => ?_)
      · have hw := hw.1 c9
        subst hQQ
        exact W.vret hx hb hr (fun t ht hW => ⟨⟨(A_ring_L2, A_buffer_L2, A_firstPlace_L2, A_forcedPlace_L2, A_endPlace_L2, A_wordsToFailure_L2, A_opened_L2), rfl, hw, by rw [ht]; exact hP, va_K.moved hW.alike hK, hD⟩, hS.F ht⟩) hS.2.2 dX0_fillBuffer_28
      · have hw := hw.2 c9
        refine lv_aload_n hx hb dX0_fillBuffer_11 rfl (lv_at hl 0 rfl) ?_
        refine va_get (D := (dC, dI)) (ci := 0) (v := .ref qA_buffer) (C := RX0) (T := TX0) (N := 7) hx hb hbg in_X0 hown hK hP 0 rfl rfl 1 (by decide) (hbg _ kw_46) (fun _ h9 => h9) rfl dX0_fillBuffer_12 ?_
        refine lv_iload_n hx hb dX0_fillBuffer_15 rfl (lv_at hl 3 rfl) ?_
        refine lv_iload_n hx hb dX0_fillBuffer_16 rfl (lv_at hl 1 rfl) ?_
        refine lv_iload_n hx hb dX0_fillBuffer_17 rfl (lv_at hl 3 rfl) ?_
        refine lv_iload_n hx hb dX0_fillBuffer_18 rfl (lv_at hl 2 rfl) ?_
        refine lv_imul hx hb dX0_fillBuffer_19 ?_
        refine lv_iadd hx hb dX0_fillBuffer_20 ?_
        obtain ⟨h_1, hw⟩ := hw
        refine va_iast hx hb hK hP hD hS 2 1 rfl rfl h_1 dX0_fillBuffer_21 (fun H_2 locs hP hD hS => ?_)
        have hP : va_P (dC, dI) vwCl [(qA, .inr (0, [.ref qA_ring, .ref qA_buffer, .int A_firstPlace_L2, .int A_forcedPlace_L2, .int A_endPlace_L2, .int A_wordsToFailure_L2, .int A_opened_L2])), (qA_ring, .inl (cA_ring, 65536, .inl A_ring_L2)), (qA_buffer, .inl (cA_buffer, 200, .inl (upd A_buffer_L2 y2_3.toNatClampNeg (k2_1 + (y2_3 * k2_2)))))] H_2 := hP
        have hD : va_D A [(qA, .inr (0, [.ref qA_ring, .ref qA_buffer, .int A_firstPlace_L2, .int A_forcedPlace_L2, .int A_endPlace_L2, .int A_wordsToFailure_L2, .int A_opened_L2])), (qA_ring, .inl (cA_ring, 65536, .inl A_ring_L2)), (qA_buffer, .inl (cA_buffer, 200, .inl (upd A_buffer_L2 y2_3.toNatClampNeg (k2_1 + (y2_3 * k2_2)))))] := hD
        refine lv_iinc (v := y2_3 + (1 : Int32)) (lv' := [(3, .int (y2_3 + (1 : Int32))), (0, .ref qA), (1, .int k2_1), (2, .int k2_2)]) hx hb dX0_fillBuffer_22 hl (k := 3) rfl rfl (by decide) rfl (fun ls hl => ?_)
        refine lv_goto (tgt := 2) hx hb dX0_fillBuffer_25 (by decide) ?_
        exact ih2 k2_1 k2_2 (y2_3 + (1 : Int32)) A_ring_L2 (upd A_buffer_L2 y2_3.toNatClampNeg (k2_1 + (y2_3 * k2_2))) A_firstPlace_L2 A_forcedPlace_L2 A_endPlace_L2 A_wordsToFailure_L2 A_opened_L2 hw _ _ hP hD hS ls (lv_sub hl [1, 2, 3, 0] rfl)
  refine lv_iconst (v := (0 : Int32)) hx hb dX0_fillBuffer_0 (by decide) ?_
  refine lv_istore_n (lv' := [(3, .int (0 : Int32)), (0, .ref qA), (1, .int x1), (2, .int x2)]) hx hb dX0_fillBuffer_1 rfl hl (by decide) rfl (fun ls hl => ?_)
  obtain ⟨n9, hw⟩ := hw
  exact hL2 n9 x1 x2 (0 : Int32) A_ring A_buffer A_firstPlace A_forcedPlace A_endPlace A_wordsToFailure A_opened hw _ _ hP hD hS ls (lv_sub hl [1, 2, 3, 0] rfl)
def wp_X0_addWord (post : St_A → Prop) (x1 : Int32) (A_ring : Nat → Int32) (A_buffer : Nat → Int32) (A_firstPlace : Int32) (A_forcedPlace : Int32) (A_endPlace : Int32) (A_wordsToFailure : Int32) (A_opened : Int32) : Prop :=
  vp_in (A_endPlace &&& (65535 : Int32)) 65536 ∧ (post (upd A_ring (A_endPlace &&& (65535 : Int32)).toNatClampNeg x1, A_buffer, A_firstPlace, A_forcedPlace, A_endPlace + (1 : Int32), A_wordsToFailure, A_opened))
set_option maxHeartbeats 4000000 in
set_option maxRecDepth 100000 in
theorem met_X0_addWord (l : Launch) (dC : Nat → ClassId) (dI : Nat → Nat → Nat) (qA qA_ring qA_buffer : Nat) (cA_ring cA_buffer : ClassId) (sz : Nat) (A_ring : Nat → Int32) (A_buffer : Nat → Int32) (A_firstPlace : Int32) (A_forcedPlace : Int32) (A_endPlace : Int32) (A_wordsToFailure : Int32) (A_opened : Int32) (x1 : Int32) (post : St_A → Prop) (hw : wp_X0_addWord post x1 A_ring A_buffer A_firstPlace A_forcedPlace A_endPlace A_wordsToFailure A_opened) :
    Met l yX0_addWord wsX0_addWord ({ frames := 0, cells := 0, slots := 0, locals := 0 } : Room) (pcW_A dC dI qA qA_ring qA_buffer cA_ring cA_buffer sz A_ring A_buffer A_firstPlace A_forcedPlace A_endPlace A_wordsToFailure A_opened [.ref qA, .int x1]) (va_Qv post (at_A dC dI (va_A [(qA, .inr (0, [.ref qA_ring, .ref qA_buffer, .int A_firstPlace, .int A_forcedPlace, .int A_endPlace, .int A_wordsToFailure, .int A_opened])), (qA_ring, .inl (cA_ring, 65536, .inl A_ring)), (qA_buffer, .inl (cA_buffer, 200, .inl A_buffer))] sz) qA qA_ring qA_buffer cA_ring cA_buffer) (va_A [(qA, .inr (0, [.ref qA_ring, .ref qA_buffer, .int A_firstPlace, .int A_forcedPlace, .int A_endPlace, .int A_wordsToFailure, .int A_opened])), (qA_ring, .inl (cA_ring, 65536, .inl A_ring)), (qA_buffer, .inl (cA_buffer, 200, .inl A_buffer))] sz)) 0 0 (va_A [(qA, .inr (0, [.ref qA_ring, .ref qA_buffer, .int A_firstPlace, .int A_forcedPlace, .int A_endPlace, .int A_wordsToFailure, .int A_opened])), (qA_ring, .inl (cA_ring, 65536, .inl A_ring)), (qA_buffer, .inl (cA_buffer, 200, .inl A_buffer))] sz) := by
  refine Met.ofW (cc := cX0_addWord) (maxL := 2) (ret := none) (by decide) rfl ?_
  intro p e s m args below meth c s₁ B hml hv
  obtain ⟨hav, hsz, hP, hK, hD0⟩ := hv
  have hx := B.exec
  have hb := B.bytes
  have hr := B.returns
  have hts := atoms_spec (ws := wsX0_addWord) B.pre
  have hbg : ∀ w ∈ bigW, w.before args s = true := fun w h => hts w (List.mem_cons_of_mem _ h)
  have hown : s.vm.findClass RX0 = some m.cls := findClass_of_methodNamed B.named
  have hlocks := B.notSynchronized
  subst hsz
  have hD := hD0.self (sz := s.heap.size)
  generalize hAe : va_A [(qA, .inr (0, [.ref qA_ring, .ref qA_buffer, .int A_firstPlace, .int A_forcedPlace, .int A_endPlace, .int A_wordsToFailure, .int A_opened])), (qA_ring, .inl (cA_ring, 65536, .inl A_ring)), (qA_buffer, .inl (cA_buffer, 200, .inl A_buffer))] s.heap.size = A at hD ⊢
  have hA : ∀ q : Nat, s.heap.size ≤ q → A q := fun q h => by rw [← hAe]; exact Or.inr h
  have hS : va_S A s.heap s.heap [] := va_S.rf
  have hP : va_P (dC, dI) vwCl [(qA, .inr (0, [.ref qA_ring, .ref qA_buffer, .int A_firstPlace, .int A_forcedPlace, .int A_endPlace, .int A_wordsToFailure, .int A_opened])), (qA_ring, .inl (cA_ring, 65536, .inl A_ring)), (qA_buffer, .inl (cA_buffer, 200, .inl A_buffer))] s.heap := hP
  generalize hQQ : MQ below (va_Qv post (at_A dC dI A qA qA_ring qA_buffer cA_ring cA_buffer) A) args s 0 0 A = QQ
  have hl := lv_entry ([.ref qA, .int x1]) (n := 2) (Nat.le_of_ble_eq_true rfl)
  rw [show entryFrame m args 2 = entryFrame m ([.ref qA, .int x1] : List Value).toArray 2 by rw [hav], lg_entry_eq]
  generalize (lg_sl ([.ref qA, .int x1]) ++ List.replicate (2 - (lg_sl ([.ref qA, .int x1])).length) Slot.unset).toArray = ls at hl ⊢
  have hl : lv_has ls 2 [(0, .ref qA), (1, .int x1)] := hl
  unfold wp_X0_addWord at hw
  refine lv_aload_n hx hb dX0_addWord_0 rfl (lv_at hl 0 rfl) ?_
  refine va_get (D := (dC, dI)) (ci := 0) (v := .ref qA_ring) (C := RX0) (T := TX0) (N := 7) hx hb hbg in_X0 hown hK hP 0 rfl rfl 0 (by decide) (hbg _ kw_0) (fun _ h9 => h9) rfl dX0_addWord_1 ?_
  refine lv_aload_n hx hb dX0_addWord_4 rfl (lv_at hl 0 rfl) ?_
  refine va_get (D := (dC, dI)) (ci := 0) (v := .int A_endPlace) (C := RX0) (T := TX0) (N := 7) hx hb hbg in_X0 hown hK hP 0 rfl rfl 4 (by decide) (hbg _ kw_12) (fun _ h9 => h9) rfl dX0_addWord_5 ?_
  refine lv_ldc (v := (65535 : Int32)) hx hb hown (hbg _ kw_1) dX0_addWord_8 ?_
  refine lv_iand hx hb dX0_addWord_10 ?_
  refine lv_iload_n hx hb dX0_addWord_11 rfl (lv_at hl 1 rfl) ?_
  obtain ⟨h_1, hw⟩ := hw
  refine va_iast hx hb hK hP hD hS 1 0 rfl rfl h_1 dX0_addWord_12 (fun H_2 locs hP hD hS => ?_)
  have hP : va_P (dC, dI) vwCl [(qA, .inr (0, [.ref qA_ring, .ref qA_buffer, .int A_firstPlace, .int A_forcedPlace, .int A_endPlace, .int A_wordsToFailure, .int A_opened])), (qA_ring, .inl (cA_ring, 65536, .inl (upd A_ring (A_endPlace &&& (65535 : Int32)).toNatClampNeg x1))), (qA_buffer, .inl (cA_buffer, 200, .inl A_buffer))] H_2 := hP
  have hD : va_D A [(qA, .inr (0, [.ref qA_ring, .ref qA_buffer, .int A_firstPlace, .int A_forcedPlace, .int A_endPlace, .int A_wordsToFailure, .int A_opened])), (qA_ring, .inl (cA_ring, 65536, .inl (upd A_ring (A_endPlace &&& (65535 : Int32)).toNatClampNeg x1))), (qA_buffer, .inl (cA_buffer, 200, .inl A_buffer))] := hD
  refine lv_aload_n hx hb dX0_addWord_13 rfl (lv_at hl 0 rfl) ?_
  refine lv_dup hx hb dX0_addWord_14 rfl ?_
  refine va_get (D := (dC, dI)) (ci := 0) (v := .int A_endPlace) (C := RX0) (T := TX0) (N := 7) hx hb hbg in_X0 hown hK hP 0 rfl rfl 4 (by decide) (hbg _ kw_12) (fun _ h9 => h9) rfl dX0_addWord_15 ?_
  refine lv_iconst (v := (1 : Int32)) hx hb dX0_addWord_18 (by decide) ?_
  refine lv_iadd hx hb dX0_addWord_19 ?_
  refine va_put (D := (dC, dI)) (ci := 0) (v := .int (A_endPlace + (1 : Int32))) (ty := .int) (C := RX0) (T := TX0) (N := 7) hx hb hbg in_X0 tyX0 tyX0_ok nmX0 hown hK hP hD hS 0 rfl rfl 4 (by decide) (hbg _ kw_12) (fun _ h9 => h9) rfl (by decide +kernel) rfl rfl (Nat.le_of_ble_eq_true rfl) dX0_addWord_20 (fun H_3 locs hP hD hS => ?_)
  have hP : va_P (dC, dI) vwCl [(qA, .inr (0, [.ref qA_ring, .ref qA_buffer, .int A_firstPlace, .int A_forcedPlace, .int (A_endPlace + (1 : Int32)), .int A_wordsToFailure, .int A_opened])), (qA_ring, .inl (cA_ring, 65536, .inl (upd A_ring (A_endPlace &&& (65535 : Int32)).toNatClampNeg x1))), (qA_buffer, .inl (cA_buffer, 200, .inl A_buffer))] H_3 := hP
  have hD : va_D A [(qA, .inr (0, [.ref qA_ring, .ref qA_buffer, .int A_firstPlace, .int A_forcedPlace, .int (A_endPlace + (1 : Int32)), .int A_wordsToFailure, .int A_opened])), (qA_ring, .inl (cA_ring, 65536, .inl (upd A_ring (A_endPlace &&& (65535 : Int32)).toNatClampNeg x1))), (qA_buffer, .inl (cA_buffer, 200, .inl A_buffer))] := hD
  subst hQQ
  exact W.vret hx hb hr (fun t ht hW => ⟨⟨(upd A_ring (A_endPlace &&& (65535 : Int32)).toNatClampNeg x1, A_buffer, A_firstPlace, A_forcedPlace, A_endPlace + (1 : Int32), A_wordsToFailure, A_opened), rfl, hw, by rw [ht]; exact hP, va_K.moved hW.alike hK, hD⟩, hS.F ht⟩) hS.2.2 dX0_addWord_23
def wl_X0_addContent_2 (post : St_A → Prop) (k2_1 : Int32) : Nat → Int32 → (Nat → Int32) → (Nat → Int32) → Int32 → Int32 → Int32 → Int32 → Int32 → Prop
  | 0, _, _, _, _, _, _, _, _ => False
  | n2 + 1, y2_2, A_ring_L2, A_buffer_L2, A_firstPlace_L2, A_forcedPlace_L2, A_endPlace_L2, A_wordsToFailure_L2, A_opened_L2 =>
    ((k2_1 ≤ y2_2 → post (A_ring_L2, A_buffer_L2, A_firstPlace_L2, A_forcedPlace_L2, A_endPlace_L2, A_wordsToFailure_L2, A_opened_L2)) ∧ (¬ k2_1 ≤ y2_2 → (((200 : Int32) ≤ y2_2 → post (A_ring_L2, A_buffer_L2, A_firstPlace_L2, A_forcedPlace_L2, A_endPlace_L2, A_wordsToFailure_L2, A_opened_L2)) ∧ (¬ (200 : Int32) ≤ y2_2 → vp_in y2_2 200 ∧ (wp_X0_addWord (fun u_2 => match u_2 with | (A_ring_2, A_buffer_2, A_firstPlace_2, A_forcedPlace_2, A_endPlace_2, A_wordsToFailure_2, A_opened_2) => wl_X0_addContent_2 post k2_1 n2 (y2_2 + (1 : Int32)) A_ring_2 A_buffer_2 A_firstPlace_2 A_forcedPlace_2 A_endPlace_2 A_wordsToFailure_2 A_opened_2) (A_buffer_L2 y2_2.toNatClampNeg) A_ring_L2 A_buffer_L2 A_firstPlace_L2 A_forcedPlace_L2 A_endPlace_L2 A_wordsToFailure_L2 A_opened_L2)))))
def wp_X0_addContent (post : St_A → Prop) (x1 : Int32) (A_ring : Nat → Int32) (A_buffer : Nat → Int32) (A_firstPlace : Int32) (A_forcedPlace : Int32) (A_endPlace : Int32) (A_wordsToFailure : Int32) (A_opened : Int32) : Prop :=
  ∃ n, wl_X0_addContent_2 post x1 n (0 : Int32) A_ring A_buffer A_firstPlace A_forcedPlace A_endPlace A_wordsToFailure A_opened
set_option maxHeartbeats 4000000 in
set_option maxRecDepth 100000 in
theorem met_X0_addContent (l : Launch) (dC : Nat → ClassId) (dI : Nat → Nat → Nat) (qA qA_ring qA_buffer : Nat) (cA_ring cA_buffer : ClassId) (sz : Nat) (A_ring : Nat → Int32) (A_buffer : Nat → Int32) (A_firstPlace : Int32) (A_forcedPlace : Int32) (A_endPlace : Int32) (A_wordsToFailure : Int32) (A_opened : Int32) (x1 : Int32) (post : St_A → Prop) (hw : wp_X0_addContent post x1 A_ring A_buffer A_firstPlace A_forcedPlace A_endPlace A_wordsToFailure A_opened) :
    Met l yX0_addContent wsX0_addContent ({ frames := 1, cells := 0, slots := 0, locals := 21 } : Room) (pcW_A dC dI qA qA_ring qA_buffer cA_ring cA_buffer sz A_ring A_buffer A_firstPlace A_forcedPlace A_endPlace A_wordsToFailure A_opened [.ref qA, .int x1]) (va_Qv post (at_A dC dI (va_A [(qA, .inr (0, [.ref qA_ring, .ref qA_buffer, .int A_firstPlace, .int A_forcedPlace, .int A_endPlace, .int A_wordsToFailure, .int A_opened])), (qA_ring, .inl (cA_ring, 65536, .inl A_ring)), (qA_buffer, .inl (cA_buffer, 200, .inl A_buffer))] sz) qA qA_ring qA_buffer cA_ring cA_buffer) (va_A [(qA, .inr (0, [.ref qA_ring, .ref qA_buffer, .int A_firstPlace, .int A_forcedPlace, .int A_endPlace, .int A_wordsToFailure, .int A_opened])), (qA_ring, .inl (cA_ring, 65536, .inl A_ring)), (qA_buffer, .inl (cA_buffer, 200, .inl A_buffer))] sz)) 0 0 (va_A [(qA, .inr (0, [.ref qA_ring, .ref qA_buffer, .int A_firstPlace, .int A_forcedPlace, .int A_endPlace, .int A_wordsToFailure, .int A_opened])), (qA_ring, .inl (cA_ring, 65536, .inl A_ring)), (qA_buffer, .inl (cA_buffer, 200, .inl A_buffer))] sz) := by
  refine Met.ofW (cc := cX0_addContent) (maxL := 3) (ret := none) (by decide) rfl ?_
  intro p e s m args below meth c s₁ B hml hv
  obtain ⟨hav, hsz, hP, hK, hD0⟩ := hv
  have hx := B.exec
  have hb := B.bytes
  have hr := B.returns
  have hts := atoms_spec (ws := wsX0_addContent) B.pre
  have hbg : ∀ w ∈ bigW, w.before args s = true := fun w h => hts w (List.mem_cons_of_mem _ h)
  have hown : s.vm.findClass RX0 = some m.cls := findClass_of_methodNamed B.named
  have hlocks := B.notSynchronized
  subst hsz
  have hD := hD0.self (sz := s.heap.size)
  generalize hAe : va_A [(qA, .inr (0, [.ref qA_ring, .ref qA_buffer, .int A_firstPlace, .int A_forcedPlace, .int A_endPlace, .int A_wordsToFailure, .int A_opened])), (qA_ring, .inl (cA_ring, 65536, .inl A_ring)), (qA_buffer, .inl (cA_buffer, 200, .inl A_buffer))] s.heap.size = A at hD ⊢
  have hA : ∀ q : Nat, s.heap.size ≤ q → A q := fun q h => by rw [← hAe]; exact Or.inr h
  have hS : va_S A s.heap s.heap [] := va_S.rf
  have hP : va_P (dC, dI) vwCl [(qA, .inr (0, [.ref qA_ring, .ref qA_buffer, .int A_firstPlace, .int A_forcedPlace, .int A_endPlace, .int A_wordsToFailure, .int A_opened])), (qA_ring, .inl (cA_ring, 65536, .inl A_ring)), (qA_buffer, .inl (cA_buffer, 200, .inl A_buffer))] s.heap := hP
  generalize hQQ : MQ below (va_Qv post (at_A dC dI A qA qA_ring qA_buffer cA_ring cA_buffer) A) args s 0 0 A = QQ
  have hl := lv_entry ([.ref qA, .int x1]) (n := 3) (Nat.le_of_ble_eq_true rfl)
  rw [show entryFrame m args 3 = entryFrame m ([.ref qA, .int x1] : List Value).toArray 3 by rw [hav], lg_entry_eq]
  generalize (lg_sl ([.ref qA, .int x1]) ++ List.replicate (3 - (lg_sl ([.ref qA, .int x1])).length) Slot.unset).toArray = ls at hl ⊢
  have hl : lv_has ls 3 [(0, .ref qA), (1, .int x1)] := hl
  unfold wp_X0_addContent at hw
  have hL2 : ∀ (n2 : Nat) (k2_1 : Int32) (y2_2 : Int32) (A_ring_L2 : Nat → Int32) (A_buffer_L2 : Nat → Int32) (A_firstPlace_L2 : Int32) (A_forcedPlace_L2 : Int32) (A_endPlace_L2 : Int32) (A_wordsToFailure_L2 : Int32) (A_opened_L2 : Int32), wl_X0_addContent_2 post k2_1 n2 y2_2 A_ring_L2 A_buffer_L2 A_firstPlace_L2 A_forcedPlace_L2 A_endPlace_L2 A_wordsToFailure_L2 A_opened_L2 → ∀ (H : Heap) (locs : List Loc), va_P (dC, dI) vwCl [(qA, .inr (0, [.ref qA_ring, .ref qA_buffer, .int A_firstPlace_L2, .int A_forcedPlace_L2, .int A_endPlace_L2, .int A_wordsToFailure_L2, .int A_opened_L2])), (qA_ring, .inl (cA_ring, 65536, .inl A_ring_L2)), (qA_buffer, .inl (cA_buffer, 200, .inl A_buffer_L2))] H → va_D A [(qA, .inr (0, [.ref qA_ring, .ref qA_buffer, .int A_firstPlace_L2, .int A_forcedPlace_L2, .int A_endPlace_L2, .int A_wordsToFailure_L2, .int A_opened_L2])), (qA_ring, .inl (cA_ring, 65536, .inl A_ring_L2)), (qA_buffer, .inl (cA_buffer, 200, .inl A_buffer_L2))] → va_S A s.heap H locs → ∀ ls : Array Slot, lv_has ls 3 [(0, .ref qA), (1, .int k2_1), (2, .int y2_2)] → W p l e (headSpec wsX0_addContent ({ frames := 1, cells := 0, slots := 0, locals := 21 } : Room)).room s m args below meth c H locs 0 0 QQ (F0 m 2 ls []) := by
    intro n2
    induction n2 with
    | zero => intro k2_1 y2_2 A_ring_L2 A_buffer_L2 A_firstPlace_L2 A_forcedPlace_L2 A_endPlace_L2 A_wordsToFailure_L2 A_opened_L2 hw; exact False.elim hw
    | succ n2 ih2 =>
      intro k2_1 y2_2 A_ring_L2 A_buffer_L2 A_firstPlace_L2 A_forcedPlace_L2 A_endPlace_L2 A_wordsToFailure_L2 A_opened_L2 hw H locs hP hD hS ls hl
      rw [wl_X0_addContent_2] at hw
      refine lv_iload_n hx hb dX0_addContent_2 rfl (lv_at hl 2 rfl) ?_
      refine lv_iload_n hx hb dX0_addContent_3 rfl (lv_at hl 1 rfl) ?_
      refine lv_icmp_ge (tgt := 32) hx hb dX0_addContent_4 (by decide) (fun c9 => ?_) (fun c9 => ?_)
      · have hw := hw.1 c9
        subst hQQ
        exact W.vret hx hb hr (fun t ht hW => ⟨⟨(A_ring_L2, A_buffer_L2, A_firstPlace_L2, A_forcedPlace_L2, A_endPlace_L2, A_wordsToFailure_L2, A_opened_L2), rfl, hw, by rw [ht]; exact hP, va_K.moved hW.alike hK, hD⟩, hS.F ht⟩) hS.2.2 dX0_addContent_32
      · have hw := hw.2 c9
        refine lv_iload_n hx hb dX0_addContent_7 rfl (lv_at hl 2 rfl) ?_
        refine lv_aload_n hx hb dX0_addContent_8 rfl (lv_at hl 0 rfl) ?_
        refine va_get (D := (dC, dI)) (ci := 0) (v := .ref qA_buffer) (C := RX0) (T := TX0) (N := 7) hx hb hbg in_X0 hown hK hP 0 rfl rfl 1 (by decide) (hbg _ kw_46) (fun _ h9 => h9) rfl dX0_addContent_9 ?_
        refine va_alen (v := (200 : Int32)) hx hb hK hP 2 1 rfl rfl rfl dX0_addContent_12 ?_
        refine lv_icmp_ge (tgt := 32) hx hb dX0_addContent_13 (by decide) (fun c9 => ?_) (fun c9 => ?_)
        · have hw := hw.1 c9
          subst hQQ
          exact W.vret hx hb hr (fun t ht hW => ⟨⟨(A_ring_L2, A_buffer_L2, A_firstPlace_L2, A_forcedPlace_L2, A_endPlace_L2, A_wordsToFailure_L2, A_opened_L2), rfl, hw, by rw [ht]; exact hP, va_K.moved hW.alike hK, hD⟩, hS.F ht⟩) hS.2.2 dX0_addContent_32
        · have hw := hw.2 c9
          refine lv_aload_n hx hb dX0_addContent_16 rfl (lv_at hl 0 rfl) ?_
          refine lv_aload_n hx hb dX0_addContent_17 rfl (lv_at hl 0 rfl) ?_
          refine va_get (D := (dC, dI)) (ci := 0) (v := .ref qA_buffer) (C := RX0) (T := TX0) (N := 7) hx hb hbg in_X0 hown hK hP 0 rfl rfl 1 (by decide) (hbg _ kw_46) (fun _ h9 => h9) rfl dX0_addContent_18 ?_
          refine lv_iload_n hx hb dX0_addContent_21 rfl (lv_at hl 2 rfl) ?_
          obtain ⟨h_1, hw⟩ := hw
          refine va_iald hx hb hK hP 2 1 rfl rfl h_1 dX0_addContent_22 ?_
          have hFc := va_free (wc := [(qA, .inr (0, [.ref qA_ring, .ref qA_buffer, .int A_firstPlace_L2, .int A_forcedPlace_L2, .int A_endPlace_L2, .int A_wordsToFailure_L2, .int A_opened_L2])), (qA_ring, .inl (cA_ring, 65536, .inl A_ring_L2)), (qA_buffer, .inl (cA_buffer, 200, .inl A_buffer_L2))]) hD hS hA [0, 1, 2] rfl
          refine va_callv (va_runV (As := [.int (A_buffer_L2 y2_2.toNatClampNeg)]) (rest := []) ⟨hx, hb, hml, hown, hbg⟩ (met_X0_addWord l dC dI qA qA_ring qA_buffer cA_ring cA_buffer H.size A_ring_L2 A_buffer_L2 A_firstPlace_L2 A_forcedPlace_L2 A_endPlace_L2 A_wordsToFailure_L2 A_opened_L2 (A_buffer_L2 y2_2.toNatClampNeg) _ hw) (cwV 1 hbg g_RX0_65 rfl rfl rfl (by decide +kernel) ⟨Nat.le_of_ble_eq_true rfl, Nat.le_of_ble_eq_true rfl⟩) ⟨pcW_A_b _ _ _ _ _ _ _ _ _ _ _ _ _ _ _ _, va_recv hK hP (ci := 0) (q0 := 0) rfl rfl, fun U hU hW => ⟨rfl, by rw [hU], by rw [hU]; exact hP, va_K.moved hW.alike hK, hD.weaken (fun _ _ _ _ => trivial)⟩⟩ rfl rfl hl.1 rfl (lv_room (Nat.le_of_ble_eq_true rfl)) dX0_addContent_23 ⟨Nat.le_of_ble_eq_true rfl, Nat.le_of_ble_eq_true rfl⟩) hS (fun q _ h => hFc q h) hFc (fun u_2 t_2 H_2 locs ht hvm hw hB hz1 hk1 hS => ?_)
          obtain ⟨A_ring_2, A_buffer_2, A_firstPlace_2, A_forcedPlace_2, A_endPlace_2, A_wordsToFailure_2, A_opened_2⟩ := u_2
          obtain ⟨hP1, hK1, hD1⟩ := hB
          rw [ht] at hP1
          try dsimp only at hw
          have hP : va_P (dC, dI) vwCl [(qA, .inr (0, [.ref qA_ring, .ref qA_buffer, .int A_firstPlace_2, .int A_forcedPlace_2, .int A_endPlace_2, .int A_wordsToFailure_2, .int A_opened_2])), (qA_ring, .inl (cA_ring, 65536, .inl A_ring_2)), (qA_buffer, .inl (cA_buffer, 200, .inl A_buffer_2))] H_2 := hP1
          have hD : va_D A [(qA, .inr (0, [.ref qA_ring, .ref qA_buffer, .int A_firstPlace_2, .int A_forcedPlace_2, .int A_endPlace_2, .int A_wordsToFailure_2, .int A_opened_2])), (qA_ring, .inl (cA_ring, 65536, .inl A_ring_2)), (qA_buffer, .inl (cA_buffer, 200, .inl A_buffer_2))] := hD1.weaken (fun _ _ _ h => hFc _ h)
          refine lv_iinc (v := y2_2 + (1 : Int32)) (lv' := [(2, .int (y2_2 + (1 : Int32))), (0, .ref qA), (1, .int k2_1)]) hx hb dX0_addContent_26 hl (k := 2) rfl rfl (by decide) rfl (fun ls hl => ?_)
          refine lv_goto (tgt := 2) hx hb dX0_addContent_29 (by decide) ?_
          exact ih2 k2_1 (y2_2 + (1 : Int32)) A_ring_2 A_buffer_2 A_firstPlace_2 A_forcedPlace_2 A_endPlace_2 A_wordsToFailure_2 A_opened_2 hw _ _ hP hD hS ls (lv_sub hl [1, 2, 0] rfl)
  refine lv_iconst (v := (0 : Int32)) hx hb dX0_addContent_0 (by decide) ?_
  refine lv_istore_n (lv' := [(2, .int (0 : Int32)), (0, .ref qA), (1, .int x1)]) hx hb dX0_addContent_1 rfl hl (by decide) rfl (fun ls hl => ?_)
  obtain ⟨n9, hw⟩ := hw
  exact hL2 n9 x1 (0 : Int32) A_ring A_buffer A_firstPlace A_forcedPlace A_endPlace A_wordsToFailure A_opened hw _ _ hP hD hS ls (lv_sub hl [1, 2, 0] rfl)
def wp_X0_losePower (post : St_A → Prop) (A_ring : Nat → Int32) (A_buffer : Nat → Int32) (A_firstPlace : Int32) (A_forcedPlace : Int32) (A_endPlace : Int32) (A_wordsToFailure : Int32) (A_opened : Int32) : Prop :=
  wp_X0_fillBuffer (fun u_4 => match u_4 with | (A_ring_4, A_buffer_4, A_firstPlace_4, A_forcedPlace_4, A_endPlace_4, A_wordsToFailure_4, A_opened_4) => post (A_ring_4, A_buffer_4, A_firstPlace_4, A_forcedPlace_4, A_endPlace_4, A_wordsToFailure_4, A_opened_4)) (0 : Int32) (0 : Int32) A_ring A_buffer A_firstPlace A_forcedPlace A_forcedPlace (-1 : Int32) (0 : Int32)
set_option maxHeartbeats 4000000 in
set_option maxRecDepth 100000 in
theorem met_X0_losePower (l : Launch) (dC : Nat → ClassId) (dI : Nat → Nat → Nat) (qA qA_ring qA_buffer : Nat) (cA_ring cA_buffer : ClassId) (sz : Nat) (A_ring : Nat → Int32) (A_buffer : Nat → Int32) (A_firstPlace : Int32) (A_forcedPlace : Int32) (A_endPlace : Int32) (A_wordsToFailure : Int32) (A_opened : Int32) (post : St_A → Prop) (hw : wp_X0_losePower post A_ring A_buffer A_firstPlace A_forcedPlace A_endPlace A_wordsToFailure A_opened) :
    Met l yX0_losePower wsX0_losePower ({ frames := 1, cells := 0, slots := 0, locals := 23 } : Room) (pcW_A dC dI qA qA_ring qA_buffer cA_ring cA_buffer sz A_ring A_buffer A_firstPlace A_forcedPlace A_endPlace A_wordsToFailure A_opened [.ref qA]) (va_Qv post (at_A dC dI (va_A [(qA, .inr (0, [.ref qA_ring, .ref qA_buffer, .int A_firstPlace, .int A_forcedPlace, .int A_endPlace, .int A_wordsToFailure, .int A_opened])), (qA_ring, .inl (cA_ring, 65536, .inl A_ring)), (qA_buffer, .inl (cA_buffer, 200, .inl A_buffer))] sz) qA qA_ring qA_buffer cA_ring cA_buffer) (va_A [(qA, .inr (0, [.ref qA_ring, .ref qA_buffer, .int A_firstPlace, .int A_forcedPlace, .int A_endPlace, .int A_wordsToFailure, .int A_opened])), (qA_ring, .inl (cA_ring, 65536, .inl A_ring)), (qA_buffer, .inl (cA_buffer, 200, .inl A_buffer))] sz)) 0 0 (va_A [(qA, .inr (0, [.ref qA_ring, .ref qA_buffer, .int A_firstPlace, .int A_forcedPlace, .int A_endPlace, .int A_wordsToFailure, .int A_opened])), (qA_ring, .inl (cA_ring, 65536, .inl A_ring)), (qA_buffer, .inl (cA_buffer, 200, .inl A_buffer))] sz) := by
  refine Met.ofW (cc := cX0_losePower) (maxL := 1) (ret := none) (by decide) rfl ?_
  intro p e s m args below meth c s₁ B hml hv
  obtain ⟨hav, hsz, hP, hK, hD0⟩ := hv
  have hx := B.exec
  have hb := B.bytes
  have hr := B.returns
  have hts := atoms_spec (ws := wsX0_losePower) B.pre
  have hbg : ∀ w ∈ bigW, w.before args s = true := fun w h => hts w (List.mem_cons_of_mem _ h)
  have hown : s.vm.findClass RX0 = some m.cls := findClass_of_methodNamed B.named
  have hlocks := B.notSynchronized
  subst hsz
  have hD := hD0.self (sz := s.heap.size)
  generalize hAe : va_A [(qA, .inr (0, [.ref qA_ring, .ref qA_buffer, .int A_firstPlace, .int A_forcedPlace, .int A_endPlace, .int A_wordsToFailure, .int A_opened])), (qA_ring, .inl (cA_ring, 65536, .inl A_ring)), (qA_buffer, .inl (cA_buffer, 200, .inl A_buffer))] s.heap.size = A at hD ⊢
  have hA : ∀ q : Nat, s.heap.size ≤ q → A q := fun q h => by rw [← hAe]; exact Or.inr h
  have hS : va_S A s.heap s.heap [] := va_S.rf
  have hP : va_P (dC, dI) vwCl [(qA, .inr (0, [.ref qA_ring, .ref qA_buffer, .int A_firstPlace, .int A_forcedPlace, .int A_endPlace, .int A_wordsToFailure, .int A_opened])), (qA_ring, .inl (cA_ring, 65536, .inl A_ring)), (qA_buffer, .inl (cA_buffer, 200, .inl A_buffer))] s.heap := hP
  generalize hQQ : MQ below (va_Qv post (at_A dC dI A qA qA_ring qA_buffer cA_ring cA_buffer) A) args s 0 0 A = QQ
  have hl := lv_entry ([.ref qA]) (n := 1) (Nat.le_of_ble_eq_true rfl)
  rw [show entryFrame m args 1 = entryFrame m ([.ref qA] : List Value).toArray 1 by rw [hav], lg_entry_eq]
  generalize (lg_sl ([.ref qA]) ++ List.replicate (1 - (lg_sl ([.ref qA])).length) Slot.unset).toArray = ls at hl ⊢
  have hl : lv_has ls 1 [(0, .ref qA)] := hl
  unfold wp_X0_losePower at hw
  refine lv_aload_n hx hb dX0_losePower_0 rfl (lv_at hl 0 rfl) ?_
  refine lv_aload_n hx hb dX0_losePower_1 rfl (lv_at hl 0 rfl) ?_
  refine va_get (D := (dC, dI)) (ci := 0) (v := .int A_forcedPlace) (C := RX0) (T := TX0) (N := 7) hx hb hbg in_X0 hown hK hP 0 rfl rfl 3 (by decide) (hbg _ kw_51) (fun _ h9 => h9) rfl dX0_losePower_2 ?_
  refine va_put (D := (dC, dI)) (ci := 0) (v := .int A_forcedPlace) (ty := .int) (C := RX0) (T := TX0) (N := 7) hx hb hbg in_X0 tyX0 tyX0_ok nmX0 hown hK hP hD hS 0 rfl rfl 4 (by decide) (hbg _ kw_12) (fun _ h9 => h9) rfl (by decide +kernel) rfl rfl (Nat.le_of_ble_eq_true rfl) dX0_losePower_5 (fun H_1 locs hP hD hS => ?_)
  have hP : va_P (dC, dI) vwCl [(qA, .inr (0, [.ref qA_ring, .ref qA_buffer, .int A_firstPlace, .int A_forcedPlace, .int A_forcedPlace, .int A_wordsToFailure, .int A_opened])), (qA_ring, .inl (cA_ring, 65536, .inl A_ring)), (qA_buffer, .inl (cA_buffer, 200, .inl A_buffer))] H_1 := hP
  have hD : va_D A [(qA, .inr (0, [.ref qA_ring, .ref qA_buffer, .int A_firstPlace, .int A_forcedPlace, .int A_forcedPlace, .int A_wordsToFailure, .int A_opened])), (qA_ring, .inl (cA_ring, 65536, .inl A_ring)), (qA_buffer, .inl (cA_buffer, 200, .inl A_buffer))] := hD
  refine lv_aload_n hx hb dX0_losePower_8 rfl (lv_at hl 0 rfl) ?_
  refine lv_iconst (v := (-1 : Int32)) hx hb dX0_losePower_9 (by decide) ?_
  refine va_put (D := (dC, dI)) (ci := 0) (v := .int (-1 : Int32)) (ty := .int) (C := RX0) (T := TX0) (N := 7) hx hb hbg in_X0 tyX0 tyX0_ok nmX0 hown hK hP hD hS 0 rfl rfl 5 (by decide) (hbg _ kw_52) (fun _ h9 => h9) rfl (by decide +kernel) rfl rfl (Nat.le_of_ble_eq_true rfl) dX0_losePower_10 (fun H_2 locs hP hD hS => ?_)
  have hP : va_P (dC, dI) vwCl [(qA, .inr (0, [.ref qA_ring, .ref qA_buffer, .int A_firstPlace, .int A_forcedPlace, .int A_forcedPlace, .int (-1 : Int32), .int A_opened])), (qA_ring, .inl (cA_ring, 65536, .inl A_ring)), (qA_buffer, .inl (cA_buffer, 200, .inl A_buffer))] H_2 := hP
  have hD : va_D A [(qA, .inr (0, [.ref qA_ring, .ref qA_buffer, .int A_firstPlace, .int A_forcedPlace, .int A_forcedPlace, .int (-1 : Int32), .int A_opened])), (qA_ring, .inl (cA_ring, 65536, .inl A_ring)), (qA_buffer, .inl (cA_buffer, 200, .inl A_buffer))] := hD
  refine lv_aload_n hx hb dX0_losePower_13 rfl (lv_at hl 0 rfl) ?_
  refine lv_iconst (v := (0 : Int32)) hx hb dX0_losePower_14 (by decide) ?_
  refine va_put (D := (dC, dI)) (ci := 0) (v := .int (0 : Int32)) (ty := .boolean) (C := RX0) (T := TX0) (N := 7) hx hb hbg in_X0 tyX0 tyX0_ok nmX0 hown hK hP hD hS 0 rfl rfl 6 (by decide) (hbg _ kw_45) (fun _ h9 => h9) rfl (by decide +kernel) rfl rfl (Nat.le_of_ble_eq_true rfl) dX0_losePower_15 (fun H_3 locs hP hD hS => ?_)
  have hP : va_P (dC, dI) vwCl [(qA, .inr (0, [.ref qA_ring, .ref qA_buffer, .int A_firstPlace, .int A_forcedPlace, .int A_forcedPlace, .int (-1 : Int32), .int (0 : Int32)])), (qA_ring, .inl (cA_ring, 65536, .inl A_ring)), (qA_buffer, .inl (cA_buffer, 200, .inl A_buffer))] H_3 := hP
  have hD : va_D A [(qA, .inr (0, [.ref qA_ring, .ref qA_buffer, .int A_firstPlace, .int A_forcedPlace, .int A_forcedPlace, .int (-1 : Int32), .int (0 : Int32)])), (qA_ring, .inl (cA_ring, 65536, .inl A_ring)), (qA_buffer, .inl (cA_buffer, 200, .inl A_buffer))] := hD
  refine lv_aload_n hx hb dX0_losePower_18 rfl (lv_at hl 0 rfl) ?_
  refine lv_iconst (v := (0 : Int32)) hx hb dX0_losePower_19 (by decide) ?_
  refine lv_iconst (v := (0 : Int32)) hx hb dX0_losePower_20 (by decide) ?_
  have hFc := va_free (wc := [(qA, .inr (0, [.ref qA_ring, .ref qA_buffer, .int A_firstPlace, .int A_forcedPlace, .int A_forcedPlace, .int (-1 : Int32), .int (0 : Int32)])), (qA_ring, .inl (cA_ring, 65536, .inl A_ring)), (qA_buffer, .inl (cA_buffer, 200, .inl A_buffer))]) hD hS hA [0, 1, 2] rfl
  refine va_callv (va_runV (As := [.int (0 : Int32), .int (0 : Int32)]) (rest := []) ⟨hx, hb, hml, hown, hbg⟩ (met_X0_fillBuffer l dC dI qA qA_ring qA_buffer cA_ring cA_buffer H_3.size A_ring A_buffer A_firstPlace A_forcedPlace A_forcedPlace (-1 : Int32) (0 : Int32) (0 : Int32) (0 : Int32) _ hw) (cwV 2 hbg g_RX0_44 rfl rfl rfl (by decide +kernel) ⟨Nat.le_of_ble_eq_true rfl, Nat.le_of_ble_eq_true rfl⟩) ⟨pcW_A_b _ _ _ _ _ _ _ _ _ _ _ _ _ _ _ _, va_recv hK hP (ci := 0) (q0 := 0) rfl rfl, fun U hU hW => ⟨rfl, by rw [hU], by rw [hU]; exact hP, va_K.moved hW.alike hK, hD.weaken (fun _ _ _ _ => trivial)⟩⟩ rfl rfl hl.1 rfl (lv_room (Nat.le_of_ble_eq_true rfl)) dX0_losePower_21 ⟨Nat.le_of_ble_eq_true rfl, Nat.le_of_ble_eq_true rfl⟩) hS (fun q _ h => hFc q h) hFc (fun u_4 t_4 H_4 locs ht hvm hw hB hz1 hk1 hS => ?_)
  obtain ⟨A_ring_4, A_buffer_4, A_firstPlace_4, A_forcedPlace_4, A_endPlace_4, A_wordsToFailure_4, A_opened_4⟩ := u_4
  obtain ⟨hP1, hK1, hD1⟩ := hB
  rw [ht] at hP1
  try dsimp only at hw
  have hP : va_P (dC, dI) vwCl [(qA, .inr (0, [.ref qA_ring, .ref qA_buffer, .int A_firstPlace_4, .int A_forcedPlace_4, .int A_endPlace_4, .int A_wordsToFailure_4, .int A_opened_4])), (qA_ring, .inl (cA_ring, 65536, .inl A_ring_4)), (qA_buffer, .inl (cA_buffer, 200, .inl A_buffer_4))] H_4 := hP1
  have hD : va_D A [(qA, .inr (0, [.ref qA_ring, .ref qA_buffer, .int A_firstPlace_4, .int A_forcedPlace_4, .int A_endPlace_4, .int A_wordsToFailure_4, .int A_opened_4])), (qA_ring, .inl (cA_ring, 65536, .inl A_ring_4)), (qA_buffer, .inl (cA_buffer, 200, .inl A_buffer_4))] := hD1.weaken (fun _ _ _ h => hFc _ h)
  subst hQQ
  exact W.vret hx hb hr (fun t ht hW => ⟨⟨(A_ring_4, A_buffer_4, A_firstPlace_4, A_forcedPlace_4, A_endPlace_4, A_wordsToFailure_4, A_opened_4), rfl, hw, by rw [ht]; exact hP, va_K.moved hW.alike hK, hD⟩, hS.F ht⟩) hS.2.2 dX0_losePower_24
def wp_X0_writeUpTo (post : Int32 → St_A → Prop) (x1 : Int32) (A_ring : Nat → Int32) (A_buffer : Nat → Int32) (A_firstPlace : Int32) (A_forcedPlace : Int32) (A_endPlace : Int32) (A_wordsToFailure : Int32) (A_opened : Int32) : Prop :=
  (∀ v2_2 : Int32, v2_2 = (if (x1 - A_forcedPlace) < (0 : Int32) then (0 : Int32) else (x1 - A_forcedPlace)) → ((A_wordsToFailure = (-1 : Int32) → ((v2_2 ≤ v2_2 → ((A_wordsToFailure = (-1 : Int32) → post v2_2 (A_ring, A_buffer, A_firstPlace, A_forcedPlace + v2_2, A_endPlace, A_wordsToFailure, A_opened)) ∧ (¬ A_wordsToFailure = (-1 : Int32) → post v2_2 (A_ring, A_buffer, A_firstPlace, A_forcedPlace + v2_2, A_endPlace, A_wordsToFailure - v2_2, A_opened)))) ∧ (¬ v2_2 ≤ v2_2 → wp_X0_losePower (fun u_9 => match u_9 with | (A_ring_9, A_buffer_9, A_firstPlace_9, A_forcedPlace_9, A_endPlace_9, A_wordsToFailure_9, A_opened_9) => post (-1 : Int32) (A_ring_9, A_buffer_9, A_firstPlace_9, A_forcedPlace_9, A_endPlace_9, A_wordsToFailure_9, A_opened_9)) A_ring A_buffer A_firstPlace (A_forcedPlace + v2_2) A_endPlace A_wordsToFailure A_opened))) ∧ (¬ A_wordsToFailure = (-1 : Int32) → (∀ v3_3 : Int32, v3_3 = (if A_wordsToFailure < v2_2 then A_wordsToFailure else v2_2) → ((v2_2 ≤ v3_3 → ((A_wordsToFailure = (-1 : Int32) → post v3_3 (A_ring, A_buffer, A_firstPlace, A_forcedPlace + v3_3, A_endPlace, A_wordsToFailure, A_opened)) ∧ (¬ A_wordsToFailure = (-1 : Int32) → post v3_3 (A_ring, A_buffer, A_firstPlace, A_forcedPlace + v3_3, A_endPlace, A_wordsToFailure - v3_3, A_opened)))) ∧ (¬ v2_2 ≤ v3_3 → wp_X0_losePower (fun u_6 => match u_6 with | (A_ring_6, A_buffer_6, A_firstPlace_6, A_forcedPlace_6, A_endPlace_6, A_wordsToFailure_6, A_opened_6) => post (-1 : Int32) (A_ring_6, A_buffer_6, A_firstPlace_6, A_forcedPlace_6, A_endPlace_6, A_wordsToFailure_6, A_opened_6)) A_ring A_buffer A_firstPlace (A_forcedPlace + v3_3) A_endPlace A_wordsToFailure A_opened))))))
set_option maxHeartbeats 4000000 in
set_option maxRecDepth 100000 in
theorem met_X0_writeUpTo (l : Launch) (dC : Nat → ClassId) (dI : Nat → Nat → Nat) (qA qA_ring qA_buffer : Nat) (cA_ring cA_buffer : ClassId) (sz : Nat) (A_ring : Nat → Int32) (A_buffer : Nat → Int32) (A_firstPlace : Int32) (A_forcedPlace : Int32) (A_endPlace : Int32) (A_wordsToFailure : Int32) (A_opened : Int32) (x1 : Int32) (post : Int32 → St_A → Prop) (hw : wp_X0_writeUpTo post x1 A_ring A_buffer A_firstPlace A_forcedPlace A_endPlace A_wordsToFailure A_opened) :
    Met l yX0_writeUpTo wsX0_writeUpTo ({ frames := 2, cells := 0, slots := 0, locals := 43 } : Room) (pcW_A dC dI qA qA_ring qA_buffer cA_ring cA_buffer sz A_ring A_buffer A_firstPlace A_forcedPlace A_endPlace A_wordsToFailure A_opened [.ref qA, .int x1]) (va_Qi post (at_A dC dI (va_A [(qA, .inr (0, [.ref qA_ring, .ref qA_buffer, .int A_firstPlace, .int A_forcedPlace, .int A_endPlace, .int A_wordsToFailure, .int A_opened])), (qA_ring, .inl (cA_ring, 65536, .inl A_ring)), (qA_buffer, .inl (cA_buffer, 200, .inl A_buffer))] sz) qA qA_ring qA_buffer cA_ring cA_buffer) (va_A [(qA, .inr (0, [.ref qA_ring, .ref qA_buffer, .int A_firstPlace, .int A_forcedPlace, .int A_endPlace, .int A_wordsToFailure, .int A_opened])), (qA_ring, .inl (cA_ring, 65536, .inl A_ring)), (qA_buffer, .inl (cA_buffer, 200, .inl A_buffer))] sz)) 0 0 (va_A [(qA, .inr (0, [.ref qA_ring, .ref qA_buffer, .int A_firstPlace, .int A_forcedPlace, .int A_endPlace, .int A_wordsToFailure, .int A_opened])), (qA_ring, .inl (cA_ring, 65536, .inl A_ring)), (qA_buffer, .inl (cA_buffer, 200, .inl A_buffer))] sz) := by
  refine Met.ofW (cc := cX0_writeUpTo) (maxL := 4) (ret := (some .int)) (by decide) rfl ?_
  intro p e s m args below meth c s₁ B hml hv
  obtain ⟨hav, hsz, hP, hK, hD0⟩ := hv
  have hx := B.exec
  have hb := B.bytes
  have hr := B.returns
  have hts := atoms_spec (ws := wsX0_writeUpTo) B.pre
  have hbg : ∀ w ∈ bigW, w.before args s = true := fun w h => hts w (List.mem_cons_of_mem _ h)
  have hown : s.vm.findClass RX0 = some m.cls := findClass_of_methodNamed B.named
  have hlocks := B.notSynchronized
  subst hsz
  have hD := hD0.self (sz := s.heap.size)
  generalize hAe : va_A [(qA, .inr (0, [.ref qA_ring, .ref qA_buffer, .int A_firstPlace, .int A_forcedPlace, .int A_endPlace, .int A_wordsToFailure, .int A_opened])), (qA_ring, .inl (cA_ring, 65536, .inl A_ring)), (qA_buffer, .inl (cA_buffer, 200, .inl A_buffer))] s.heap.size = A at hD ⊢
  have hA : ∀ q : Nat, s.heap.size ≤ q → A q := fun q h => by rw [← hAe]; exact Or.inr h
  have hS : va_S A s.heap s.heap [] := va_S.rf
  have hP : va_P (dC, dI) vwCl [(qA, .inr (0, [.ref qA_ring, .ref qA_buffer, .int A_firstPlace, .int A_forcedPlace, .int A_endPlace, .int A_wordsToFailure, .int A_opened])), (qA_ring, .inl (cA_ring, 65536, .inl A_ring)), (qA_buffer, .inl (cA_buffer, 200, .inl A_buffer))] s.heap := hP
  generalize hQQ : MQ below (va_Qi post (at_A dC dI A qA qA_ring qA_buffer cA_ring cA_buffer) A) args s 0 0 A = QQ
  have hl := lv_entry ([.ref qA, .int x1]) (n := 4) (Nat.le_of_ble_eq_true rfl)
  rw [show entryFrame m args 4 = entryFrame m ([.ref qA, .int x1] : List Value).toArray 4 by rw [hav], lg_entry_eq]
  generalize (lg_sl ([.ref qA, .int x1]) ++ List.replicate (4 - (lg_sl ([.ref qA, .int x1])).length) Slot.unset).toArray = ls at hl ⊢
  have hl : lv_has ls 4 [(0, .ref qA), (1, .int x1)] := hl
  unfold wp_X0_writeUpTo at hw
  refine lv_iload_n hx hb dX0_writeUpTo_0 rfl (lv_at hl 1 rfl) ?_
  refine lv_aload_n hx hb dX0_writeUpTo_1 rfl (lv_at hl 0 rfl) ?_
  refine va_get (D := (dC, dI)) (ci := 0) (v := .int A_forcedPlace) (C := RX0) (T := TX0) (N := 7) hx hb hbg in_X0 hown hK hP 0 rfl rfl 3 (by decide) (hbg _ kw_51) (fun _ h9 => h9) rfl dX0_writeUpTo_2 ?_
  refine lv_isub hx hb dX0_writeUpTo_5 ?_
  refine lv_iconst (v := (0 : Int32)) hx hb dX0_writeUpTo_6 (by decide) ?_
  refine va_mmax hx hb (hml.trans hl.1.symm) hown (hbg _ kw_57) (hbg _ kw_58) (hbg _ kw_10) (hbg _ kw_59) (Nat.le_of_ble_eq_true rfl) (Nat.le_of_ble_eq_true rfl) (Nat.le_of_ble_eq_true rfl) (Nat.le_of_ble_eq_true rfl) dX0_writeUpTo_7 ?_
  refine lv_topi (fun v2_2 ev2_2 => ?_)
  have hw := hw v2_2 ev2_2
  refine lv_istore_n (lv' := [(2, .int v2_2), (0, .ref qA), (1, .int x1)]) hx hb dX0_writeUpTo_10 rfl hl (by decide) rfl (fun ls hl => ?_)
  refine lv_aload_n hx hb dX0_writeUpTo_11 rfl (lv_at hl 1 rfl) ?_
  refine va_get (D := (dC, dI)) (ci := 0) (v := .int A_wordsToFailure) (C := RX0) (T := TX0) (N := 7) hx hb hbg in_X0 hown hK hP 0 rfl rfl 5 (by decide) (hbg _ kw_52) (fun _ h9 => h9) rfl dX0_writeUpTo_12 ?_
  refine lv_iconst (v := (-1 : Int32)) hx hb dX0_writeUpTo_15 (by decide) ?_
  refine lv_icmp_ne (tgt := 23) hx hb dX0_writeUpTo_16 (by decide) (fun c9 => ?_) (fun c9 => ?_)
  · have hw := hw.2 c9
    refine lv_iload_n hx hb dX0_writeUpTo_23 rfl (lv_at hl 0 rfl) ?_
    refine lv_aload_n hx hb dX0_writeUpTo_24 rfl (lv_at hl 1 rfl) ?_
    refine va_get (D := (dC, dI)) (ci := 0) (v := .int A_wordsToFailure) (C := RX0) (T := TX0) (N := 7) hx hb hbg in_X0 hown hK hP 0 rfl rfl 5 (by decide) (hbg _ kw_52) (fun _ h9 => h9) rfl dX0_writeUpTo_25 ?_
    refine va_mmin hx hb (hml.trans hl.1.symm) hown (hbg _ kw_60) (hbg _ kw_61) (hbg _ kw_10) (hbg _ kw_62) (Nat.le_of_ble_eq_true rfl) (Nat.le_of_ble_eq_true rfl) (Nat.le_of_ble_eq_true rfl) (Nat.le_of_ble_eq_true rfl) dX0_writeUpTo_28 ?_
    refine lv_topi (fun v3_3 ev3_3 => ?_)
    have hw := hw v3_3 ev3_3
    refine lv_istore_n (lv' := [(3, .int v3_3), (2, .int v2_2), (0, .ref qA), (1, .int x1)]) hx hb dX0_writeUpTo_31 rfl hl (by decide) rfl (fun ls hl => ?_)
    refine lv_aload_n hx hb dX0_writeUpTo_32 rfl (lv_at hl 2 rfl) ?_
    refine lv_dup hx hb dX0_writeUpTo_33 rfl ?_
    refine va_get (D := (dC, dI)) (ci := 0) (v := .int A_forcedPlace) (C := RX0) (T := TX0) (N := 7) hx hb hbg in_X0 hown hK hP 0 rfl rfl 3 (by decide) (hbg _ kw_51) (fun _ h9 => h9) rfl dX0_writeUpTo_34 ?_
    refine lv_iload_n hx hb dX0_writeUpTo_37 rfl (lv_at hl 0 rfl) ?_
    refine lv_iadd hx hb dX0_writeUpTo_38 ?_
    refine va_put (D := (dC, dI)) (ci := 0) (v := .int (A_forcedPlace + v3_3)) (ty := .int) (C := RX0) (T := TX0) (N := 7) hx hb hbg in_X0 tyX0 tyX0_ok nmX0 hown hK hP hD hS 0 rfl rfl 3 (by decide) (hbg _ kw_51) (fun _ h9 => h9) rfl (by decide +kernel) rfl rfl (Nat.le_of_ble_eq_true rfl) dX0_writeUpTo_39 (fun H_4 locs hP hD hS => ?_)
    have hP : va_P (dC, dI) vwCl [(qA, .inr (0, [.ref qA_ring, .ref qA_buffer, .int A_firstPlace, .int (A_forcedPlace + v3_3), .int A_endPlace, .int A_wordsToFailure, .int A_opened])), (qA_ring, .inl (cA_ring, 65536, .inl A_ring)), (qA_buffer, .inl (cA_buffer, 200, .inl A_buffer))] H_4 := hP
    have hD : va_D A [(qA, .inr (0, [.ref qA_ring, .ref qA_buffer, .int A_firstPlace, .int (A_forcedPlace + v3_3), .int A_endPlace, .int A_wordsToFailure, .int A_opened])), (qA_ring, .inl (cA_ring, 65536, .inl A_ring)), (qA_buffer, .inl (cA_buffer, 200, .inl A_buffer))] := hD
    refine lv_iload_n hx hb dX0_writeUpTo_42 rfl (lv_at hl 0 rfl) ?_
    refine lv_iload_n hx hb dX0_writeUpTo_43 rfl (lv_at hl 1 rfl) ?_
    refine lv_icmp_ge (tgt := 53) hx hb dX0_writeUpTo_44 (by decide) (fun c9 => ?_) (fun c9 => ?_)
    · have hw := hw.1 c9
      refine lv_aload_n hx hb dX0_writeUpTo_53 rfl (lv_at hl 2 rfl) ?_
      refine va_get (D := (dC, dI)) (ci := 0) (v := .int A_wordsToFailure) (C := RX0) (T := TX0) (N := 7) hx hb hbg in_X0 hown hK hP 0 rfl rfl 5 (by decide) (hbg _ kw_52) (fun _ h9 => h9) rfl dX0_writeUpTo_54 ?_
      refine lv_iconst (v := (-1 : Int32)) hx hb dX0_writeUpTo_57 (by decide) ?_
      refine lv_icmp_eq (tgt := 71) hx hb dX0_writeUpTo_58 (by decide) (fun c9 => ?_) (fun c9 => ?_)
      · have hw := hw.1 c9
        refine lv_iload_n hx hb dX0_writeUpTo_71 rfl (lv_at hl 0 rfl) ?_
        subst hQQ
        exact W.iret (v := v3_3) hx hb hr (fun t ht hW => ⟨⟨v3_3, (A_ring, A_buffer, A_firstPlace, A_forcedPlace + v3_3, A_endPlace, A_wordsToFailure, A_opened), rfl, hw, by rw [ht]; exact hP, va_K.moved hW.alike hK, hD⟩, hS.F ht⟩) hS.2.2 dX0_writeUpTo_72
      · have hw := hw.2 c9
        refine lv_aload_n hx hb dX0_writeUpTo_61 rfl (lv_at hl 2 rfl) ?_
        refine lv_dup hx hb dX0_writeUpTo_62 rfl ?_
        refine va_get (D := (dC, dI)) (ci := 0) (v := .int A_wordsToFailure) (C := RX0) (T := TX0) (N := 7) hx hb hbg in_X0 hown hK hP 0 rfl rfl 5 (by decide) (hbg _ kw_52) (fun _ h9 => h9) rfl dX0_writeUpTo_63 ?_
        refine lv_iload_n hx hb dX0_writeUpTo_66 rfl (lv_at hl 0 rfl) ?_
        refine lv_isub hx hb dX0_writeUpTo_67 ?_
        refine va_put (D := (dC, dI)) (ci := 0) (v := .int (A_wordsToFailure - v3_3)) (ty := .int) (C := RX0) (T := TX0) (N := 7) hx hb hbg in_X0 tyX0 tyX0_ok nmX0 hown hK hP hD hS 0 rfl rfl 5 (by decide) (hbg _ kw_52) (fun _ h9 => h9) rfl (by decide +kernel) rfl rfl (Nat.le_of_ble_eq_true rfl) dX0_writeUpTo_68 (fun H_5 locs hP hD hS => ?_)
        have hP : va_P (dC, dI) vwCl [(qA, .inr (0, [.ref qA_ring, .ref qA_buffer, .int A_firstPlace, .int (A_forcedPlace + v3_3), .int A_endPlace, .int (A_wordsToFailure - v3_3), .int A_opened])), (qA_ring, .inl (cA_ring, 65536, .inl A_ring)), (qA_buffer, .inl (cA_buffer, 200, .inl A_buffer))] H_5 := hP
        have hD : va_D A [(qA, .inr (0, [.ref qA_ring, .ref qA_buffer, .int A_firstPlace, .int (A_forcedPlace + v3_3), .int A_endPlace, .int (A_wordsToFailure - v3_3), .int A_opened])), (qA_ring, .inl (cA_ring, 65536, .inl A_ring)), (qA_buffer, .inl (cA_buffer, 200, .inl A_buffer))] := hD
        refine lv_iload_n hx hb dX0_writeUpTo_71 rfl (lv_at hl 0 rfl) ?_
        subst hQQ
        exact W.iret (v := v3_3) hx hb hr (fun t ht hW => ⟨⟨v3_3, (A_ring, A_buffer, A_firstPlace, A_forcedPlace + v3_3, A_endPlace, A_wordsToFailure - v3_3, A_opened), rfl, hw, by rw [ht]; exact hP, va_K.moved hW.alike hK, hD⟩, hS.F ht⟩) hS.2.2 dX0_writeUpTo_72
    · have hw := hw.2 c9
      refine lv_aload_n hx hb dX0_writeUpTo_47 rfl (lv_at hl 2 rfl) ?_
      have hFc := va_free (wc := [(qA, .inr (0, [.ref qA_ring, .ref qA_buffer, .int A_firstPlace, .int (A_forcedPlace + v3_3), .int A_endPlace, .int A_wordsToFailure, .int A_opened])), (qA_ring, .inl (cA_ring, 65536, .inl A_ring)), (qA_buffer, .inl (cA_buffer, 200, .inl A_buffer))]) hD hS hA [0, 1, 2] rfl
      refine va_callv (va_runV (As := []) (rest := []) ⟨hx, hb, hml, hown, hbg⟩ (met_X0_losePower l dC dI qA qA_ring qA_buffer cA_ring cA_buffer H_4.size A_ring A_buffer A_firstPlace (A_forcedPlace + v3_3) A_endPlace A_wordsToFailure A_opened  _ hw) (cwV 0 hbg g_RX0_117 rfl rfl rfl (by decide +kernel) ⟨Nat.le_of_ble_eq_true rfl, Nat.le_of_ble_eq_true rfl⟩) ⟨pcW_A_b _ _ _ _ _ _ _ _ _ _ _ _ _ _ _ _, va_recv hK hP (ci := 0) (q0 := 0) rfl rfl, fun U hU hW => ⟨rfl, by rw [hU], by rw [hU]; exact hP, va_K.moved hW.alike hK, hD.weaken (fun _ _ _ _ => trivial)⟩⟩ rfl rfl hl.1 rfl (lv_room (Nat.le_of_ble_eq_true rfl)) dX0_writeUpTo_48 ⟨Nat.le_of_ble_eq_true rfl, Nat.le_of_ble_eq_true rfl⟩) hS (fun q _ h => hFc q h) hFc (fun u_6 t_6 H_6 locs ht hvm hw hB hz1 hk1 hS => ?_)
      obtain ⟨A_ring_6, A_buffer_6, A_firstPlace_6, A_forcedPlace_6, A_endPlace_6, A_wordsToFailure_6, A_opened_6⟩ := u_6
      obtain ⟨hP1, hK1, hD1⟩ := hB
      rw [ht] at hP1
      try dsimp only at hw
      have hP : va_P (dC, dI) vwCl [(qA, .inr (0, [.ref qA_ring, .ref qA_buffer, .int A_firstPlace_6, .int A_forcedPlace_6, .int A_endPlace_6, .int A_wordsToFailure_6, .int A_opened_6])), (qA_ring, .inl (cA_ring, 65536, .inl A_ring_6)), (qA_buffer, .inl (cA_buffer, 200, .inl A_buffer_6))] H_6 := hP1
      have hD : va_D A [(qA, .inr (0, [.ref qA_ring, .ref qA_buffer, .int A_firstPlace_6, .int A_forcedPlace_6, .int A_endPlace_6, .int A_wordsToFailure_6, .int A_opened_6])), (qA_ring, .inl (cA_ring, 65536, .inl A_ring_6)), (qA_buffer, .inl (cA_buffer, 200, .inl A_buffer_6))] := hD1.weaken (fun _ _ _ h => hFc _ h)
      refine lv_iconst (v := (-1 : Int32)) hx hb dX0_writeUpTo_51 (by decide) ?_
      subst hQQ
      exact W.iret (v := (-1 : Int32)) hx hb hr (fun t ht hW => ⟨⟨(-1 : Int32), (A_ring_6, A_buffer_6, A_firstPlace_6, A_forcedPlace_6, A_endPlace_6, A_wordsToFailure_6, A_opened_6), rfl, hw, by rw [ht]; exact hP, va_K.moved hW.alike hK, hD⟩, hS.F ht⟩) hS.2.2 dX0_writeUpTo_52
  · have hw := hw.1 c9
    refine lv_iload_n hx hb dX0_writeUpTo_19 rfl (lv_at hl 0 rfl) ?_
    refine lv_goto (tgt := 31) hx hb dX0_writeUpTo_20 (by decide) ?_
    refine lv_istore_n (lv' := [(3, .int v2_2), (2, .int v2_2), (0, .ref qA), (1, .int x1)]) hx hb dX0_writeUpTo_31 rfl hl (by decide) rfl (fun ls hl => ?_)
    refine lv_aload_n hx hb dX0_writeUpTo_32 rfl (lv_at hl 2 rfl) ?_
    refine lv_dup hx hb dX0_writeUpTo_33 rfl ?_
    refine va_get (D := (dC, dI)) (ci := 0) (v := .int A_forcedPlace) (C := RX0) (T := TX0) (N := 7) hx hb hbg in_X0 hown hK hP 0 rfl rfl 3 (by decide) (hbg _ kw_51) (fun _ h9 => h9) rfl dX0_writeUpTo_34 ?_
    refine lv_iload_n hx hb dX0_writeUpTo_37 rfl (lv_at hl 0 rfl) ?_
    refine lv_iadd hx hb dX0_writeUpTo_38 ?_
    refine va_put (D := (dC, dI)) (ci := 0) (v := .int (A_forcedPlace + v2_2)) (ty := .int) (C := RX0) (T := TX0) (N := 7) hx hb hbg in_X0 tyX0 tyX0_ok nmX0 hown hK hP hD hS 0 rfl rfl 3 (by decide) (hbg _ kw_51) (fun _ h9 => h9) rfl (by decide +kernel) rfl rfl (Nat.le_of_ble_eq_true rfl) dX0_writeUpTo_39 (fun H_7 locs hP hD hS => ?_)
    have hP : va_P (dC, dI) vwCl [(qA, .inr (0, [.ref qA_ring, .ref qA_buffer, .int A_firstPlace, .int (A_forcedPlace + v2_2), .int A_endPlace, .int A_wordsToFailure, .int A_opened])), (qA_ring, .inl (cA_ring, 65536, .inl A_ring)), (qA_buffer, .inl (cA_buffer, 200, .inl A_buffer))] H_7 := hP
    have hD : va_D A [(qA, .inr (0, [.ref qA_ring, .ref qA_buffer, .int A_firstPlace, .int (A_forcedPlace + v2_2), .int A_endPlace, .int A_wordsToFailure, .int A_opened])), (qA_ring, .inl (cA_ring, 65536, .inl A_ring)), (qA_buffer, .inl (cA_buffer, 200, .inl A_buffer))] := hD
    refine lv_iload_n hx hb dX0_writeUpTo_42 rfl (lv_at hl 0 rfl) ?_
    refine lv_iload_n hx hb dX0_writeUpTo_43 rfl (lv_at hl 1 rfl) ?_
    refine lv_icmp_ge (tgt := 53) hx hb dX0_writeUpTo_44 (by decide) (fun c9 => ?_) (fun c9 => ?_)
    · have hw := hw.1 c9
      refine lv_aload_n hx hb dX0_writeUpTo_53 rfl (lv_at hl 2 rfl) ?_
      refine va_get (D := (dC, dI)) (ci := 0) (v := .int A_wordsToFailure) (C := RX0) (T := TX0) (N := 7) hx hb hbg in_X0 hown hK hP 0 rfl rfl 5 (by decide) (hbg _ kw_52) (fun _ h9 => h9) rfl dX0_writeUpTo_54 ?_
      refine lv_iconst (v := (-1 : Int32)) hx hb dX0_writeUpTo_57 (by decide) ?_
      refine lv_icmp_eq (tgt := 71) hx hb dX0_writeUpTo_58 (by decide) (fun c9 => ?_) (fun c9 => ?_)
      · have hw := hw.1 c9
        refine lv_iload_n hx hb dX0_writeUpTo_71 rfl (lv_at hl 0 rfl) ?_
        subst hQQ
        exact W.iret (v := v2_2) hx hb hr (fun t ht hW => ⟨⟨v2_2, (A_ring, A_buffer, A_firstPlace, A_forcedPlace + v2_2, A_endPlace, A_wordsToFailure, A_opened), rfl, hw, by rw [ht]; exact hP, va_K.moved hW.alike hK, hD⟩, hS.F ht⟩) hS.2.2 dX0_writeUpTo_72
      · have hw := hw.2 c9
        refine lv_aload_n hx hb dX0_writeUpTo_61 rfl (lv_at hl 2 rfl) ?_
        refine lv_dup hx hb dX0_writeUpTo_62 rfl ?_
        refine va_get (D := (dC, dI)) (ci := 0) (v := .int A_wordsToFailure) (C := RX0) (T := TX0) (N := 7) hx hb hbg in_X0 hown hK hP 0 rfl rfl 5 (by decide) (hbg _ kw_52) (fun _ h9 => h9) rfl dX0_writeUpTo_63 ?_
        refine lv_iload_n hx hb dX0_writeUpTo_66 rfl (lv_at hl 0 rfl) ?_
        refine lv_isub hx hb dX0_writeUpTo_67 ?_
        refine va_put (D := (dC, dI)) (ci := 0) (v := .int (A_wordsToFailure - v2_2)) (ty := .int) (C := RX0) (T := TX0) (N := 7) hx hb hbg in_X0 tyX0 tyX0_ok nmX0 hown hK hP hD hS 0 rfl rfl 5 (by decide) (hbg _ kw_52) (fun _ h9 => h9) rfl (by decide +kernel) rfl rfl (Nat.le_of_ble_eq_true rfl) dX0_writeUpTo_68 (fun H_8 locs hP hD hS => ?_)
        have hP : va_P (dC, dI) vwCl [(qA, .inr (0, [.ref qA_ring, .ref qA_buffer, .int A_firstPlace, .int (A_forcedPlace + v2_2), .int A_endPlace, .int (A_wordsToFailure - v2_2), .int A_opened])), (qA_ring, .inl (cA_ring, 65536, .inl A_ring)), (qA_buffer, .inl (cA_buffer, 200, .inl A_buffer))] H_8 := hP
        have hD : va_D A [(qA, .inr (0, [.ref qA_ring, .ref qA_buffer, .int A_firstPlace, .int (A_forcedPlace + v2_2), .int A_endPlace, .int (A_wordsToFailure - v2_2), .int A_opened])), (qA_ring, .inl (cA_ring, 65536, .inl A_ring)), (qA_buffer, .inl (cA_buffer, 200, .inl A_buffer))] := hD
        refine lv_iload_n hx hb dX0_writeUpTo_71 rfl (lv_at hl 0 rfl) ?_
        subst hQQ
        exact W.iret (v := v2_2) hx hb hr (fun t ht hW => ⟨⟨v2_2, (A_ring, A_buffer, A_firstPlace, A_forcedPlace + v2_2, A_endPlace, A_wordsToFailure - v2_2, A_opened), rfl, hw, by rw [ht]; exact hP, va_K.moved hW.alike hK, hD⟩, hS.F ht⟩) hS.2.2 dX0_writeUpTo_72
    · have hw := hw.2 c9
      refine lv_aload_n hx hb dX0_writeUpTo_47 rfl (lv_at hl 2 rfl) ?_
      have hFc := va_free (wc := [(qA, .inr (0, [.ref qA_ring, .ref qA_buffer, .int A_firstPlace, .int (A_forcedPlace + v2_2), .int A_endPlace, .int A_wordsToFailure, .int A_opened])), (qA_ring, .inl (cA_ring, 65536, .inl A_ring)), (qA_buffer, .inl (cA_buffer, 200, .inl A_buffer))]) hD hS hA [0, 1, 2] rfl
      refine va_callv (va_runV (As := []) (rest := []) ⟨hx, hb, hml, hown, hbg⟩ (met_X0_losePower l dC dI qA qA_ring qA_buffer cA_ring cA_buffer H_7.size A_ring A_buffer A_firstPlace (A_forcedPlace + v2_2) A_endPlace A_wordsToFailure A_opened  _ hw) (cwV 0 hbg g_RX0_117 rfl rfl rfl (by decide +kernel) ⟨Nat.le_of_ble_eq_true rfl, Nat.le_of_ble_eq_true rfl⟩) ⟨pcW_A_b _ _ _ _ _ _ _ _ _ _ _ _ _ _ _ _, va_recv hK hP (ci := 0) (q0 := 0) rfl rfl, fun U hU hW => ⟨rfl, by rw [hU], by rw [hU]; exact hP, va_K.moved hW.alike hK, hD.weaken (fun _ _ _ _ => trivial)⟩⟩ rfl rfl hl.1 rfl (lv_room (Nat.le_of_ble_eq_true rfl)) dX0_writeUpTo_48 ⟨Nat.le_of_ble_eq_true rfl, Nat.le_of_ble_eq_true rfl⟩) hS (fun q _ h => hFc q h) hFc (fun u_9 t_9 H_9 locs ht hvm hw hB hz1 hk1 hS => ?_)
      obtain ⟨A_ring_9, A_buffer_9, A_firstPlace_9, A_forcedPlace_9, A_endPlace_9, A_wordsToFailure_9, A_opened_9⟩ := u_9
      obtain ⟨hP1, hK1, hD1⟩ := hB
      rw [ht] at hP1
      try dsimp only at hw
      have hP : va_P (dC, dI) vwCl [(qA, .inr (0, [.ref qA_ring, .ref qA_buffer, .int A_firstPlace_9, .int A_forcedPlace_9, .int A_endPlace_9, .int A_wordsToFailure_9, .int A_opened_9])), (qA_ring, .inl (cA_ring, 65536, .inl A_ring_9)), (qA_buffer, .inl (cA_buffer, 200, .inl A_buffer_9))] H_9 := hP1
      have hD : va_D A [(qA, .inr (0, [.ref qA_ring, .ref qA_buffer, .int A_firstPlace_9, .int A_forcedPlace_9, .int A_endPlace_9, .int A_wordsToFailure_9, .int A_opened_9])), (qA_ring, .inl (cA_ring, 65536, .inl A_ring_9)), (qA_buffer, .inl (cA_buffer, 200, .inl A_buffer_9))] := hD1.weaken (fun _ _ _ h => hFc _ h)
      refine lv_iconst (v := (-1 : Int32)) hx hb dX0_writeUpTo_51 (by decide) ?_
      subst hQQ
      exact W.iret (v := (-1 : Int32)) hx hb hr (fun t ht hW => ⟨⟨(-1 : Int32), (A_ring_9, A_buffer_9, A_firstPlace_9, A_forcedPlace_9, A_endPlace_9, A_wordsToFailure_9, A_opened_9), rfl, hw, by rw [ht]; exact hP, va_K.moved hW.alike hK, hD⟩, hS.F ht⟩) hS.2.2 dX0_writeUpTo_52
def wp_X0_cut (post : Int32 → St_A → Prop) (A_ring : Nat → Int32) (A_buffer : Nat → Int32) (A_firstPlace : Int32) (A_forcedPlace : Int32) (A_endPlace : Int32) (A_wordsToFailure : Int32) (A_opened : Int32) : Prop :=
  ((A_opened = (0 : Int32) → post (0 : Int32) (A_ring, A_buffer, A_firstPlace, A_forcedPlace, A_endPlace, A_wordsToFailure, A_opened)) ∧ (¬ A_opened = (0 : Int32) → wp_X0_losePower (fun u_1 => match u_1 with | (A_ring_1, A_buffer_1, A_firstPlace_1, A_forcedPlace_1, A_endPlace_1, A_wordsToFailure_1, A_opened_1) => post (1 : Int32) (A_ring_1, A_buffer_1, A_firstPlace_1, A_forcedPlace_1, A_endPlace_1, A_wordsToFailure_1, A_opened_1)) A_ring A_buffer A_firstPlace A_forcedPlace A_endPlace A_wordsToFailure A_opened))
set_option maxHeartbeats 4000000 in
set_option maxRecDepth 100000 in
theorem met_X0_cut (l : Launch) (dC : Nat → ClassId) (dI : Nat → Nat → Nat) (qA qA_ring qA_buffer : Nat) (cA_ring cA_buffer : ClassId) (sz : Nat) (A_ring : Nat → Int32) (A_buffer : Nat → Int32) (A_firstPlace : Int32) (A_forcedPlace : Int32) (A_endPlace : Int32) (A_wordsToFailure : Int32) (A_opened : Int32) (post : Int32 → St_A → Prop) (hw : wp_X0_cut post A_ring A_buffer A_firstPlace A_forcedPlace A_endPlace A_wordsToFailure A_opened) :
    Met l yX0_cut wsX0_cut ({ frames := 2, cells := 0, slots := 0, locals := 43 } : Room) (pcW_A dC dI qA qA_ring qA_buffer cA_ring cA_buffer sz A_ring A_buffer A_firstPlace A_forcedPlace A_endPlace A_wordsToFailure A_opened [.ref qA]) (va_Qi post (at_A dC dI (va_A [(qA, .inr (0, [.ref qA_ring, .ref qA_buffer, .int A_firstPlace, .int A_forcedPlace, .int A_endPlace, .int A_wordsToFailure, .int A_opened])), (qA_ring, .inl (cA_ring, 65536, .inl A_ring)), (qA_buffer, .inl (cA_buffer, 200, .inl A_buffer))] sz) qA qA_ring qA_buffer cA_ring cA_buffer) (va_A [(qA, .inr (0, [.ref qA_ring, .ref qA_buffer, .int A_firstPlace, .int A_forcedPlace, .int A_endPlace, .int A_wordsToFailure, .int A_opened])), (qA_ring, .inl (cA_ring, 65536, .inl A_ring)), (qA_buffer, .inl (cA_buffer, 200, .inl A_buffer))] sz)) 0 0 (va_A [(qA, .inr (0, [.ref qA_ring, .ref qA_buffer, .int A_firstPlace, .int A_forcedPlace, .int A_endPlace, .int A_wordsToFailure, .int A_opened])), (qA_ring, .inl (cA_ring, 65536, .inl A_ring)), (qA_buffer, .inl (cA_buffer, 200, .inl A_buffer))] sz) := by
  refine Met.ofW (cc := cX0_cut) (maxL := 1) (ret := (some .boolean)) (by decide) rfl ?_
  intro p e s m args below meth c s₁ B hml hv
  obtain ⟨hav, hsz, hP, hK, hD0⟩ := hv
  have hx := B.exec
  have hb := B.bytes
  have hr := B.returns
  have hts := atoms_spec (ws := wsX0_cut) B.pre
  have hbg : ∀ w ∈ bigW, w.before args s = true := fun w h => hts w (List.mem_cons_of_mem _ h)
  have hown : s.vm.findClass RX0 = some m.cls := findClass_of_methodNamed B.named
  have hlocks := B.notSynchronized
  subst hsz
  have hD := hD0.self (sz := s.heap.size)
  generalize hAe : va_A [(qA, .inr (0, [.ref qA_ring, .ref qA_buffer, .int A_firstPlace, .int A_forcedPlace, .int A_endPlace, .int A_wordsToFailure, .int A_opened])), (qA_ring, .inl (cA_ring, 65536, .inl A_ring)), (qA_buffer, .inl (cA_buffer, 200, .inl A_buffer))] s.heap.size = A at hD ⊢
  have hA : ∀ q : Nat, s.heap.size ≤ q → A q := fun q h => by rw [← hAe]; exact Or.inr h
  have hS : va_S A s.heap s.heap [] := va_S.rf
  have hP : va_P (dC, dI) vwCl [(qA, .inr (0, [.ref qA_ring, .ref qA_buffer, .int A_firstPlace, .int A_forcedPlace, .int A_endPlace, .int A_wordsToFailure, .int A_opened])), (qA_ring, .inl (cA_ring, 65536, .inl A_ring)), (qA_buffer, .inl (cA_buffer, 200, .inl A_buffer))] s.heap := hP
  generalize hQQ : MQ below (va_Qi post (at_A dC dI A qA qA_ring qA_buffer cA_ring cA_buffer) A) args s 0 0 A = QQ
  have hl := lv_entry ([.ref qA]) (n := 1) (Nat.le_of_ble_eq_true rfl)
  rw [show entryFrame m args 1 = entryFrame m ([.ref qA] : List Value).toArray 1 by rw [hav], lg_entry_eq]
  generalize (lg_sl ([.ref qA]) ++ List.replicate (1 - (lg_sl ([.ref qA])).length) Slot.unset).toArray = ls at hl ⊢
  have hl : lv_has ls 1 [(0, .ref qA)] := hl
  unfold wp_X0_cut at hw
  refine lv_aload_n hx hb dX0_cut_0 rfl (lv_at hl 0 rfl) ?_
  refine va_get (D := (dC, dI)) (ci := 0) (v := .int A_opened) (C := RX0) (T := TX0) (N := 7) hx hb hbg in_X0 hown hK hP 0 rfl rfl 6 (by decide) (hbg _ kw_45) (fun _ h9 => h9) rfl dX0_cut_1 ?_
  refine lv_if_ne (tgt := 9) hx hb dX0_cut_4 (by decide) (fun c9 => ?_) (fun c9 => ?_)
  · have hw := hw.2 c9
    refine lv_aload_n hx hb dX0_cut_9 rfl (lv_at hl 0 rfl) ?_
    have hFc := va_free (wc := [(qA, .inr (0, [.ref qA_ring, .ref qA_buffer, .int A_firstPlace, .int A_forcedPlace, .int A_endPlace, .int A_wordsToFailure, .int A_opened])), (qA_ring, .inl (cA_ring, 65536, .inl A_ring)), (qA_buffer, .inl (cA_buffer, 200, .inl A_buffer))]) hD hS hA [0, 1, 2] rfl
    refine va_callv (va_runV (As := []) (rest := []) ⟨hx, hb, hml, hown, hbg⟩ (met_X0_losePower l dC dI qA qA_ring qA_buffer cA_ring cA_buffer s.heap.size A_ring A_buffer A_firstPlace A_forcedPlace A_endPlace A_wordsToFailure A_opened  _ hw) (cwV 0 hbg g_RX0_117 rfl rfl rfl (by decide +kernel) ⟨Nat.le_of_ble_eq_true rfl, Nat.le_of_ble_eq_true rfl⟩) ⟨pcW_A_b _ _ _ _ _ _ _ _ _ _ _ _ _ _ _ _, va_recv hK hP (ci := 0) (q0 := 0) rfl rfl, fun U hU hW => ⟨rfl, by rw [hU], by rw [hU]; exact hP, va_K.moved hW.alike hK, hD.weaken (fun _ _ _ _ => trivial)⟩⟩ rfl rfl hl.1 rfl (lv_room (Nat.le_of_ble_eq_true rfl)) dX0_cut_10 ⟨Nat.le_of_ble_eq_true rfl, Nat.le_of_ble_eq_true rfl⟩) hS (fun q _ h => hFc q h) hFc (fun u_1 t_1 H_1 locs ht hvm hw hB hz1 hk1 hS => ?_)
    obtain ⟨A_ring_1, A_buffer_1, A_firstPlace_1, A_forcedPlace_1, A_endPlace_1, A_wordsToFailure_1, A_opened_1⟩ := u_1
    obtain ⟨hP1, hK1, hD1⟩ := hB
    rw [ht] at hP1
    try dsimp only at hw
    have hP : va_P (dC, dI) vwCl [(qA, .inr (0, [.ref qA_ring, .ref qA_buffer, .int A_firstPlace_1, .int A_forcedPlace_1, .int A_endPlace_1, .int A_wordsToFailure_1, .int A_opened_1])), (qA_ring, .inl (cA_ring, 65536, .inl A_ring_1)), (qA_buffer, .inl (cA_buffer, 200, .inl A_buffer_1))] H_1 := hP1
    have hD : va_D A [(qA, .inr (0, [.ref qA_ring, .ref qA_buffer, .int A_firstPlace_1, .int A_forcedPlace_1, .int A_endPlace_1, .int A_wordsToFailure_1, .int A_opened_1])), (qA_ring, .inl (cA_ring, 65536, .inl A_ring_1)), (qA_buffer, .inl (cA_buffer, 200, .inl A_buffer_1))] := hD1.weaken (fun _ _ _ h => hFc _ h)
    refine lv_iconst (v := (1 : Int32)) hx hb dX0_cut_13 (by decide) ?_
    subst hQQ
    exact W.zret (v := (1 : Int32)) hx hb hr rfl (fun t ht hW => ⟨⟨(1 : Int32), (A_ring_1, A_buffer_1, A_firstPlace_1, A_forcedPlace_1, A_endPlace_1, A_wordsToFailure_1, A_opened_1), rfl, hw, by rw [ht]; exact hP, va_K.moved hW.alike hK, hD⟩, hS.F ht⟩) hS.2.2 dX0_cut_14
  · have hw := hw.1 c9
    refine lv_iconst (v := (0 : Int32)) hx hb dX0_cut_7 (by decide) ?_
    subst hQQ
    exact W.zret (v := (0 : Int32)) hx hb hr rfl (fun t ht hW => ⟨⟨(0 : Int32), (A_ring, A_buffer, A_firstPlace, A_forcedPlace, A_endPlace, A_wordsToFailure, A_opened), rfl, hw, by rw [ht]; exact hP, va_K.moved hW.alike hK, hD⟩, hS.F ht⟩) hS.2.2 dX0_cut_8
def wc_X0_addVoidRest_100 (post : St_A → Prop) (k100_1 : Int32) (k100_2 : Int32) (k100_3 : Int32) (k100_4 : Int32) (A_ring_L100 : Nat → Int32) (A_buffer_L100 : Nat → Int32) (A_firstPlace_L100 : Int32) (A_forcedPlace_L100 : Int32) (A_endPlace_L100 : Int32) (A_wordsToFailure_L100 : Int32) (A_opened_L100 : Int32) : Prop :=
    wp_X0_addWord (fun u_6 => match u_6 with | (A_ring_6, A_buffer_6, A_firstPlace_6, A_forcedPlace_6, A_endPlace_6, A_wordsToFailure_6, A_opened_6) => post (A_ring_6, A_buffer_6, A_firstPlace_6, A_forcedPlace_6, A_endPlace_6, A_wordsToFailure_6, A_opened_6)) (-k100_2) A_ring_L100 A_buffer_L100 A_firstPlace_L100 A_forcedPlace_L100 A_endPlace_L100 A_wordsToFailure_L100 A_opened_L100
def wl_X0_addVoidRest_75 (post : St_A → Prop) (k75_1 : Int32) (k75_2 : Int32) (k75_3 : Int32) : Nat → Int32 → (Nat → Int32) → (Nat → Int32) → Int32 → Int32 → Int32 → Int32 → Int32 → Prop
  | 0, _, _, _, _, _, _, _, _ => False
  | n75 + 1, y75_4, A_ring_L75, A_buffer_L75, A_firstPlace_L75, A_forcedPlace_L75, A_endPlace_L75, A_wordsToFailure_L75, A_opened_L75 =>
    ((k75_3 ≤ y75_4 → wc_X0_addVoidRest_100 post k75_1 k75_2 k75_3 y75_4 A_ring_L75 A_buffer_L75 A_firstPlace_L75 A_forcedPlace_L75 A_endPlace_L75 A_wordsToFailure_L75 A_opened_L75) ∧ (¬ k75_3 ≤ y75_4 → (((205 : Int32) ≤ y75_4 → wc_X0_addVoidRest_100 post k75_1 k75_2 k75_3 y75_4 A_ring_L75 A_buffer_L75 A_firstPlace_L75 A_forcedPlace_L75 A_endPlace_L75 A_wordsToFailure_L75 A_opened_L75) ∧ (¬ (205 : Int32) ≤ y75_4 → wp_X0_addWord (fun u_3 => match u_3 with | (A_ring_3, A_buffer_3, A_firstPlace_3, A_forcedPlace_3, A_endPlace_3, A_wordsToFailure_3, A_opened_3) => wl_X0_addVoidRest_75 post k75_1 k75_2 k75_3 n75 (y75_4 + (1 : Int32)) A_ring_3 A_buffer_3 A_firstPlace_3 A_forcedPlace_3 A_endPlace_3 A_wordsToFailure_3 A_opened_3) (0 : Int32) A_ring_L75 A_buffer_L75 A_firstPlace_L75 A_forcedPlace_L75 A_endPlace_L75 A_wordsToFailure_L75 A_opened_L75))))
def wc_X0_addVoidRest_46 (post : St_A → Prop) (k46_1 : Int32) (k46_2 : Int32) (A_ring_L46 : Nat → Int32) (A_buffer_L46 : Nat → Int32) (A_firstPlace_L46 : Int32) (A_forcedPlace_L46 : Int32) (A_endPlace_L46 : Int32) (A_wordsToFailure_L46 : Int32) (A_opened_L46 : Int32) : Prop :=
    ((k46_1 < A_endPlace_L46 → wp_X0_wordAt (fun r_4 => wp_X0_behind (fun r_5 => ∃ n, wl_X0_addVoidRest_75 post k46_1 r_4 (r_5 - A_endPlace_L46) n (1 : Int32) A_ring_L46 A_buffer_L46 A_firstPlace_L46 A_forcedPlace_L46 A_endPlace_L46 A_wordsToFailure_L46 A_opened_L46) k46_1 A_ring_L46 A_buffer_L46 A_firstPlace_L46 A_forcedPlace_L46 A_endPlace_L46 A_wordsToFailure_L46 A_opened_L46) k46_1 A_ring_L46 A_buffer_L46 A_firstPlace_L46 A_forcedPlace_L46 A_endPlace_L46 A_wordsToFailure_L46 A_opened_L46) ∧ (¬ k46_1 < A_endPlace_L46 → post (A_ring_L46, A_buffer_L46, A_firstPlace_L46, A_forcedPlace_L46, A_endPlace_L46, A_wordsToFailure_L46, A_opened_L46)))
def wl_X0_addVoidRest_7 (post : St_A → Prop) : Nat → Int32 → Int32 → (Nat → Int32) → (Nat → Int32) → Int32 → Int32 → Int32 → Int32 → Int32 → Prop
  | 0, _, _, _, _, _, _, _, _, _ => False
  | n7 + 1, y7_1, y7_2, A_ring_L7, A_buffer_L7, A_firstPlace_L7, A_forcedPlace_L7, A_endPlace_L7, A_wordsToFailure_L7, A_opened_L7 =>
    (((13107 : Int32) ≤ y7_2 → wc_X0_addVoidRest_46 post y7_1 y7_2 A_ring_L7 A_buffer_L7 A_firstPlace_L7 A_forcedPlace_L7 A_endPlace_L7 A_wordsToFailure_L7 A_opened_L7) ∧ (¬ (13107 : Int32) ≤ y7_2 → ((A_endPlace_L7 ≤ y7_1 → wc_X0_addVoidRest_46 post y7_1 y7_2 A_ring_L7 A_buffer_L7 A_firstPlace_L7 A_forcedPlace_L7 A_endPlace_L7 A_wordsToFailure_L7 A_opened_L7) ∧ (¬ A_endPlace_L7 ≤ y7_1 → wp_X0_behind (fun r_1 => ((A_endPlace_L7 < r_1 → wc_X0_addVoidRest_46 post y7_1 y7_2 A_ring_L7 A_buffer_L7 A_firstPlace_L7 A_forcedPlace_L7 A_endPlace_L7 A_wordsToFailure_L7 A_opened_L7) ∧ (¬ A_endPlace_L7 < r_1 → wp_X0_behind (fun r_2 => wl_X0_addVoidRest_7 post n7 r_2 (y7_2 + (1 : Int32)) A_ring_L7 A_buffer_L7 A_firstPlace_L7 A_forcedPlace_L7 A_endPlace_L7 A_wordsToFailure_L7 A_opened_L7) y7_1 A_ring_L7 A_buffer_L7 A_firstPlace_L7 A_forcedPlace_L7 A_endPlace_L7 A_wordsToFailure_L7 A_opened_L7))) y7_1 A_ring_L7 A_buffer_L7 A_firstPlace_L7 A_forcedPlace_L7 A_endPlace_L7 A_wordsToFailure_L7 A_opened_L7))))
def wp_X0_addVoidRest (post : St_A → Prop) (A_ring : Nat → Int32) (A_buffer : Nat → Int32) (A_firstPlace : Int32) (A_forcedPlace : Int32) (A_endPlace : Int32) (A_wordsToFailure : Int32) (A_opened : Int32) : Prop :=
  ∃ n, wl_X0_addVoidRest_7 post n A_firstPlace (0 : Int32) A_ring A_buffer A_firstPlace A_forcedPlace A_endPlace A_wordsToFailure A_opened
set_option maxHeartbeats 4000000 in
set_option maxRecDepth 100000 in
theorem met_X0_addVoidRest (l : Launch) (dC : Nat → ClassId) (dI : Nat → Nat → Nat) (qA qA_ring qA_buffer : Nat) (cA_ring cA_buffer : ClassId) (sz : Nat) (A_ring : Nat → Int32) (A_buffer : Nat → Int32) (A_firstPlace : Int32) (A_forcedPlace : Int32) (A_endPlace : Int32) (A_wordsToFailure : Int32) (A_opened : Int32) (post : St_A → Prop) (hw : wp_X0_addVoidRest post A_ring A_buffer A_firstPlace A_forcedPlace A_endPlace A_wordsToFailure A_opened) :
    Met l yX0_addVoidRest wsX0_addVoidRest ({ frames := 2, cells := 0, slots := 0, locals := 42 } : Room) (pcW_A dC dI qA qA_ring qA_buffer cA_ring cA_buffer sz A_ring A_buffer A_firstPlace A_forcedPlace A_endPlace A_wordsToFailure A_opened [.ref qA]) (va_Qv post (at_A dC dI (va_A [(qA, .inr (0, [.ref qA_ring, .ref qA_buffer, .int A_firstPlace, .int A_forcedPlace, .int A_endPlace, .int A_wordsToFailure, .int A_opened])), (qA_ring, .inl (cA_ring, 65536, .inl A_ring)), (qA_buffer, .inl (cA_buffer, 200, .inl A_buffer))] sz) qA qA_ring qA_buffer cA_ring cA_buffer) (va_A [(qA, .inr (0, [.ref qA_ring, .ref qA_buffer, .int A_firstPlace, .int A_forcedPlace, .int A_endPlace, .int A_wordsToFailure, .int A_opened])), (qA_ring, .inl (cA_ring, 65536, .inl A_ring)), (qA_buffer, .inl (cA_buffer, 200, .inl A_buffer))] sz)) 0 0 (va_A [(qA, .inr (0, [.ref qA_ring, .ref qA_buffer, .int A_firstPlace, .int A_forcedPlace, .int A_endPlace, .int A_wordsToFailure, .int A_opened])), (qA_ring, .inl (cA_ring, 65536, .inl A_ring)), (qA_buffer, .inl (cA_buffer, 200, .inl A_buffer))] sz) := by
  refine Met.ofW (cc := cX0_addVoidRest) (maxL := 5) (ret := none) (by decide) rfl ?_
  intro p e s m args below meth c s₁ B hml hv
  obtain ⟨hav, hsz, hP, hK, hD0⟩ := hv
  have hx := B.exec
  have hb := B.bytes
  have hr := B.returns
  have hts := atoms_spec (ws := wsX0_addVoidRest) B.pre
  have hbg : ∀ w ∈ bigW, w.before args s = true := fun w h => hts w (List.mem_cons_of_mem _ h)
  have hown : s.vm.findClass RX0 = some m.cls := findClass_of_methodNamed B.named
  have hlocks := B.notSynchronized
  subst hsz
  have hD := hD0.self (sz := s.heap.size)
  generalize hAe : va_A [(qA, .inr (0, [.ref qA_ring, .ref qA_buffer, .int A_firstPlace, .int A_forcedPlace, .int A_endPlace, .int A_wordsToFailure, .int A_opened])), (qA_ring, .inl (cA_ring, 65536, .inl A_ring)), (qA_buffer, .inl (cA_buffer, 200, .inl A_buffer))] s.heap.size = A at hD ⊢
  have hA : ∀ q : Nat, s.heap.size ≤ q → A q := fun q h => by rw [← hAe]; exact Or.inr h
  have hS : va_S A s.heap s.heap [] := va_S.rf
  have hP : va_P (dC, dI) vwCl [(qA, .inr (0, [.ref qA_ring, .ref qA_buffer, .int A_firstPlace, .int A_forcedPlace, .int A_endPlace, .int A_wordsToFailure, .int A_opened])), (qA_ring, .inl (cA_ring, 65536, .inl A_ring)), (qA_buffer, .inl (cA_buffer, 200, .inl A_buffer))] s.heap := hP
  generalize hQQ : MQ below (va_Qv post (at_A dC dI A qA qA_ring qA_buffer cA_ring cA_buffer) A) args s 0 0 A = QQ
  have hl := lv_entry ([.ref qA]) (n := 5) (Nat.le_of_ble_eq_true rfl)
  rw [show entryFrame m args 5 = entryFrame m ([.ref qA] : List Value).toArray 5 by rw [hav], lg_entry_eq]
  generalize (lg_sl ([.ref qA]) ++ List.replicate (5 - (lg_sl ([.ref qA])).length) Slot.unset).toArray = ls at hl ⊢
  have hl : lv_has ls 5 [(0, .ref qA)] := hl
  unfold wp_X0_addVoidRest at hw
  have hC100 : ∀ (k100_1 : Int32) (k100_2 : Int32) (k100_3 : Int32) (k100_4 : Int32) (A_ring_L100 : Nat → Int32) (A_buffer_L100 : Nat → Int32) (A_firstPlace_L100 : Int32) (A_forcedPlace_L100 : Int32) (A_endPlace_L100 : Int32) (A_wordsToFailure_L100 : Int32) (A_opened_L100 : Int32), wc_X0_addVoidRest_100 post k100_1 k100_2 k100_3 k100_4 A_ring_L100 A_buffer_L100 A_firstPlace_L100 A_forcedPlace_L100 A_endPlace_L100 A_wordsToFailure_L100 A_opened_L100 → ∀ (H : Heap) (locs : List Loc), va_P (dC, dI) vwCl [(qA, .inr (0, [.ref qA_ring, .ref qA_buffer, .int A_firstPlace_L100, .int A_forcedPlace_L100, .int A_endPlace_L100, .int A_wordsToFailure_L100, .int A_opened_L100])), (qA_ring, .inl (cA_ring, 65536, .inl A_ring_L100)), (qA_buffer, .inl (cA_buffer, 200, .inl A_buffer_L100))] H → va_D A [(qA, .inr (0, [.ref qA_ring, .ref qA_buffer, .int A_firstPlace_L100, .int A_forcedPlace_L100, .int A_endPlace_L100, .int A_wordsToFailure_L100, .int A_opened_L100])), (qA_ring, .inl (cA_ring, 65536, .inl A_ring_L100)), (qA_buffer, .inl (cA_buffer, 200, .inl A_buffer_L100))] → va_S A s.heap H locs → ∀ ls : Array Slot, lv_has ls 5 [(0, .ref qA), (1, .int k100_1), (2, .int k100_2), (3, .int k100_3), (4, .int k100_4)] → W p l e (headSpec wsX0_addVoidRest ({ frames := 2, cells := 0, slots := 0, locals := 42 } : Room)).room s m args below meth c H locs 0 0 QQ (F0 m 100 ls []) := by
    intro k100_1 k100_2 k100_3 k100_4 A_ring_L100 A_buffer_L100 A_firstPlace_L100 A_forcedPlace_L100 A_endPlace_L100 A_wordsToFailure_L100 A_opened_L100 hw H locs hP hD hS ls hl
    unfold wc_X0_addVoidRest_100 at hw
    refine lv_aload_n hx hb dX0_addVoidRest_100 rfl (lv_at hl 0 rfl) ?_
    refine lv_iload_n hx hb dX0_addVoidRest_101 rfl (lv_at hl 2 rfl) ?_
    refine lv_ineg hx hb dX0_addVoidRest_102 ?_
    have hFc := va_free (wc := [(qA, .inr (0, [.ref qA_ring, .ref qA_buffer, .int A_firstPlace_L100, .int A_forcedPlace_L100, .int A_endPlace_L100, .int A_wordsToFailure_L100, .int A_opened_L100])), (qA_ring, .inl (cA_ring, 65536, .inl A_ring_L100)), (qA_buffer, .inl (cA_buffer, 200, .inl A_buffer_L100))]) hD hS hA [0, 1, 2] rfl
    refine va_callv (va_runV (As := [.int (-k100_2)]) (rest := []) ⟨hx, hb, hml, hown, hbg⟩ (met_X0_addWord l dC dI qA qA_ring qA_buffer cA_ring cA_buffer H.size A_ring_L100 A_buffer_L100 A_firstPlace_L100 A_forcedPlace_L100 A_endPlace_L100 A_wordsToFailure_L100 A_opened_L100 (-k100_2) _ hw) (cwV 1 hbg g_RX0_65 rfl rfl rfl (by decide +kernel) ⟨Nat.le_of_ble_eq_true rfl, Nat.le_of_ble_eq_true rfl⟩) ⟨pcW_A_b _ _ _ _ _ _ _ _ _ _ _ _ _ _ _ _, va_recv hK hP (ci := 0) (q0 := 0) rfl rfl, fun U hU hW => ⟨rfl, by rw [hU], by rw [hU]; exact hP, va_K.moved hW.alike hK, hD.weaken (fun _ _ _ _ => trivial)⟩⟩ rfl rfl hl.1 rfl (lv_room (Nat.le_of_ble_eq_true rfl)) dX0_addVoidRest_103 ⟨Nat.le_of_ble_eq_true rfl, Nat.le_of_ble_eq_true rfl⟩) hS (fun q _ h => hFc q h) hFc (fun u_6 t_6 H_6 locs ht hvm hw hB hz1 hk1 hS => ?_)
    obtain ⟨A_ring_6, A_buffer_6, A_firstPlace_6, A_forcedPlace_6, A_endPlace_6, A_wordsToFailure_6, A_opened_6⟩ := u_6
    obtain ⟨hP1, hK1, hD1⟩ := hB
    rw [ht] at hP1
    try dsimp only at hw
    have hP : va_P (dC, dI) vwCl [(qA, .inr (0, [.ref qA_ring, .ref qA_buffer, .int A_firstPlace_6, .int A_forcedPlace_6, .int A_endPlace_6, .int A_wordsToFailure_6, .int A_opened_6])), (qA_ring, .inl (cA_ring, 65536, .inl A_ring_6)), (qA_buffer, .inl (cA_buffer, 200, .inl A_buffer_6))] H_6 := hP1
    have hD : va_D A [(qA, .inr (0, [.ref qA_ring, .ref qA_buffer, .int A_firstPlace_6, .int A_forcedPlace_6, .int A_endPlace_6, .int A_wordsToFailure_6, .int A_opened_6])), (qA_ring, .inl (cA_ring, 65536, .inl A_ring_6)), (qA_buffer, .inl (cA_buffer, 200, .inl A_buffer_6))] := hD1.weaken (fun _ _ _ h => hFc _ h)
    subst hQQ
    exact W.vret hx hb hr (fun t ht hW => ⟨⟨(A_ring_6, A_buffer_6, A_firstPlace_6, A_forcedPlace_6, A_endPlace_6, A_wordsToFailure_6, A_opened_6), rfl, hw, by rw [ht]; exact hP, va_K.moved hW.alike hK, hD⟩, hS.F ht⟩) hS.2.2 dX0_addVoidRest_106
  have hL75 : ∀ (n75 : Nat) (k75_1 : Int32) (k75_2 : Int32) (k75_3 : Int32) (y75_4 : Int32) (A_ring_L75 : Nat → Int32) (A_buffer_L75 : Nat → Int32) (A_firstPlace_L75 : Int32) (A_forcedPlace_L75 : Int32) (A_endPlace_L75 : Int32) (A_wordsToFailure_L75 : Int32) (A_opened_L75 : Int32), wl_X0_addVoidRest_75 post k75_1 k75_2 k75_3 n75 y75_4 A_ring_L75 A_buffer_L75 A_firstPlace_L75 A_forcedPlace_L75 A_endPlace_L75 A_wordsToFailure_L75 A_opened_L75 → ∀ (H : Heap) (locs : List Loc), va_P (dC, dI) vwCl [(qA, .inr (0, [.ref qA_ring, .ref qA_buffer, .int A_firstPlace_L75, .int A_forcedPlace_L75, .int A_endPlace_L75, .int A_wordsToFailure_L75, .int A_opened_L75])), (qA_ring, .inl (cA_ring, 65536, .inl A_ring_L75)), (qA_buffer, .inl (cA_buffer, 200, .inl A_buffer_L75))] H → va_D A [(qA, .inr (0, [.ref qA_ring, .ref qA_buffer, .int A_firstPlace_L75, .int A_forcedPlace_L75, .int A_endPlace_L75, .int A_wordsToFailure_L75, .int A_opened_L75])), (qA_ring, .inl (cA_ring, 65536, .inl A_ring_L75)), (qA_buffer, .inl (cA_buffer, 200, .inl A_buffer_L75))] → va_S A s.heap H locs → ∀ ls : Array Slot, lv_has ls 5 [(0, .ref qA), (1, .int k75_1), (2, .int k75_2), (3, .int k75_3), (4, .int y75_4)] → W p l e (headSpec wsX0_addVoidRest ({ frames := 2, cells := 0, slots := 0, locals := 42 } : Room)).room s m args below meth c H locs 0 0 QQ (F0 m 75 ls []) := by
    intro n75
    induction n75 with
    | zero => intro k75_1 k75_2 k75_3 y75_4 A_ring_L75 A_buffer_L75 A_firstPlace_L75 A_forcedPlace_L75 A_endPlace_L75 A_wordsToFailure_L75 A_opened_L75 hw; exact False.elim hw
    | succ n75 ih75 =>
      intro k75_1 k75_2 k75_3 y75_4 A_ring_L75 A_buffer_L75 A_firstPlace_L75 A_forcedPlace_L75 A_endPlace_L75 A_wordsToFailure_L75 A_opened_L75 hw H locs hP hD hS ls hl
      rw [wl_X0_addVoidRest_75] at hw
      refine lv_iload hx hb dX0_addVoidRest_75 (lv_at hl 4 rfl) ?_
      refine lv_iload_n hx hb dX0_addVoidRest_77 rfl (lv_at hl 3 rfl) ?_
      refine lv_icmp_ge (tgt := 100) hx hb dX0_addVoidRest_78 (by decide) (fun c9 => ?_) (fun c9 => ?_)
      · have hw := hw.1 c9
        exact hC100 k75_1 k75_2 k75_3 y75_4 A_ring_L75 A_buffer_L75 A_firstPlace_L75 A_forcedPlace_L75 A_endPlace_L75 A_wordsToFailure_L75 A_opened_L75 hw _ _ hP hD hS ls (lv_sub hl [0, 1, 2, 3, 4] rfl)
      · have hw := hw.2 c9
        refine lv_iload hx hb dX0_addVoidRest_81 (lv_at hl 4 rfl) ?_
        refine lv_sipush (v := (205 : Int32)) hx hb dX0_addVoidRest_83 (by decide) ?_
        refine lv_icmp_ge (tgt := 100) hx hb dX0_addVoidRest_86 (by decide) (fun c9 => ?_) (fun c9 => ?_)
        · have hw := hw.1 c9
          exact hC100 k75_1 k75_2 k75_3 y75_4 A_ring_L75 A_buffer_L75 A_firstPlace_L75 A_forcedPlace_L75 A_endPlace_L75 A_wordsToFailure_L75 A_opened_L75 hw _ _ hP hD hS ls (lv_sub hl [0, 1, 2, 3, 4] rfl)
        · have hw := hw.2 c9
          refine lv_aload_n hx hb dX0_addVoidRest_89 rfl (lv_at hl 0 rfl) ?_
          refine lv_iconst (v := (0 : Int32)) hx hb dX0_addVoidRest_90 (by decide) ?_
          have hFc := va_free (wc := [(qA, .inr (0, [.ref qA_ring, .ref qA_buffer, .int A_firstPlace_L75, .int A_forcedPlace_L75, .int A_endPlace_L75, .int A_wordsToFailure_L75, .int A_opened_L75])), (qA_ring, .inl (cA_ring, 65536, .inl A_ring_L75)), (qA_buffer, .inl (cA_buffer, 200, .inl A_buffer_L75))]) hD hS hA [0, 1, 2] rfl
          refine va_callv (va_runV (As := [.int (0 : Int32)]) (rest := []) ⟨hx, hb, hml, hown, hbg⟩ (met_X0_addWord l dC dI qA qA_ring qA_buffer cA_ring cA_buffer H.size A_ring_L75 A_buffer_L75 A_firstPlace_L75 A_forcedPlace_L75 A_endPlace_L75 A_wordsToFailure_L75 A_opened_L75 (0 : Int32) _ hw) (cwV 1 hbg g_RX0_65 rfl rfl rfl (by decide +kernel) ⟨Nat.le_of_ble_eq_true rfl, Nat.le_of_ble_eq_true rfl⟩) ⟨pcW_A_b _ _ _ _ _ _ _ _ _ _ _ _ _ _ _ _, va_recv hK hP (ci := 0) (q0 := 0) rfl rfl, fun U hU hW => ⟨rfl, by rw [hU], by rw [hU]; exact hP, va_K.moved hW.alike hK, hD.weaken (fun _ _ _ _ => trivial)⟩⟩ rfl rfl hl.1 rfl (lv_room (Nat.le_of_ble_eq_true rfl)) dX0_addVoidRest_91 ⟨Nat.le_of_ble_eq_true rfl, Nat.le_of_ble_eq_true rfl⟩) hS (fun q _ h => hFc q h) hFc (fun u_3 t_3 H_3 locs ht hvm hw hB hz1 hk1 hS => ?_)
          obtain ⟨A_ring_3, A_buffer_3, A_firstPlace_3, A_forcedPlace_3, A_endPlace_3, A_wordsToFailure_3, A_opened_3⟩ := u_3
          obtain ⟨hP1, hK1, hD1⟩ := hB
          rw [ht] at hP1
          try dsimp only at hw
          have hP : va_P (dC, dI) vwCl [(qA, .inr (0, [.ref qA_ring, .ref qA_buffer, .int A_firstPlace_3, .int A_forcedPlace_3, .int A_endPlace_3, .int A_wordsToFailure_3, .int A_opened_3])), (qA_ring, .inl (cA_ring, 65536, .inl A_ring_3)), (qA_buffer, .inl (cA_buffer, 200, .inl A_buffer_3))] H_3 := hP1
          have hD : va_D A [(qA, .inr (0, [.ref qA_ring, .ref qA_buffer, .int A_firstPlace_3, .int A_forcedPlace_3, .int A_endPlace_3, .int A_wordsToFailure_3, .int A_opened_3])), (qA_ring, .inl (cA_ring, 65536, .inl A_ring_3)), (qA_buffer, .inl (cA_buffer, 200, .inl A_buffer_3))] := hD1.weaken (fun _ _ _ h => hFc _ h)
          refine lv_iinc (v := y75_4 + (1 : Int32)) (lv' := [(4, .int (y75_4 + (1 : Int32))), (0, .ref qA), (1, .int k75_1), (2, .int k75_2), (3, .int k75_3)]) hx hb dX0_addVoidRest_94 hl (k := 4) rfl rfl (by decide) rfl (fun ls hl => ?_)
          refine lv_goto (tgt := 75) hx hb dX0_addVoidRest_97 (by decide) ?_
          exact ih75 k75_1 k75_2 k75_3 (y75_4 + (1 : Int32)) A_ring_3 A_buffer_3 A_firstPlace_3 A_forcedPlace_3 A_endPlace_3 A_wordsToFailure_3 A_opened_3 hw _ _ hP hD hS ls (lv_sub hl [1, 2, 3, 4, 0] rfl)
  have hC46 : ∀ (k46_1 : Int32) (k46_2 : Int32) (A_ring_L46 : Nat → Int32) (A_buffer_L46 : Nat → Int32) (A_firstPlace_L46 : Int32) (A_forcedPlace_L46 : Int32) (A_endPlace_L46 : Int32) (A_wordsToFailure_L46 : Int32) (A_opened_L46 : Int32), wc_X0_addVoidRest_46 post k46_1 k46_2 A_ring_L46 A_buffer_L46 A_firstPlace_L46 A_forcedPlace_L46 A_endPlace_L46 A_wordsToFailure_L46 A_opened_L46 → ∀ (H : Heap) (locs : List Loc), va_P (dC, dI) vwCl [(qA, .inr (0, [.ref qA_ring, .ref qA_buffer, .int A_firstPlace_L46, .int A_forcedPlace_L46, .int A_endPlace_L46, .int A_wordsToFailure_L46, .int A_opened_L46])), (qA_ring, .inl (cA_ring, 65536, .inl A_ring_L46)), (qA_buffer, .inl (cA_buffer, 200, .inl A_buffer_L46))] H → va_D A [(qA, .inr (0, [.ref qA_ring, .ref qA_buffer, .int A_firstPlace_L46, .int A_forcedPlace_L46, .int A_endPlace_L46, .int A_wordsToFailure_L46, .int A_opened_L46])), (qA_ring, .inl (cA_ring, 65536, .inl A_ring_L46)), (qA_buffer, .inl (cA_buffer, 200, .inl A_buffer_L46))] → va_S A s.heap H locs → ∀ ls : Array Slot, lv_has ls 5 [(0, .ref qA), (1, .int k46_1), (2, .int k46_2)] → W p l e (headSpec wsX0_addVoidRest ({ frames := 2, cells := 0, slots := 0, locals := 42 } : Room)).room s m args below meth c H locs 0 0 QQ (F0 m 46 ls []) := by
    intro k46_1 k46_2 A_ring_L46 A_buffer_L46 A_firstPlace_L46 A_forcedPlace_L46 A_endPlace_L46 A_wordsToFailure_L46 A_opened_L46 hw H locs hP hD hS ls hl
    unfold wc_X0_addVoidRest_46 at hw
    refine lv_iload_n hx hb dX0_addVoidRest_46 rfl (lv_at hl 1 rfl) ?_
    refine lv_aload_n hx hb dX0_addVoidRest_47 rfl (lv_at hl 0 rfl) ?_
    refine va_get (D := (dC, dI)) (ci := 0) (v := .int A_endPlace_L46) (C := RX0) (T := TX0) (N := 7) hx hb hbg in_X0 hown hK hP 0 rfl rfl 4 (by decide) (hbg _ kw_12) (fun _ h9 => h9) rfl dX0_addVoidRest_48 ?_
    refine lv_icmp_lt (tgt := 55) hx hb dX0_addVoidRest_51 (by decide) (fun c9 => ?_) (fun c9 => ?_)
    · have hw := hw.1 c9
      refine lv_aload_n hx hb dX0_addVoidRest_55 rfl (lv_at hl 0 rfl) ?_
      refine lv_iload_n hx hb dX0_addVoidRest_56 rfl (lv_at hl 1 rfl) ?_
      refine vp_callSi (W.runV (As := [.int k46_1]) (rest := []) ⟨hx, hb, hml, hown, hbg⟩ (met_X0_wordAt l dC dI qA qA_ring qA_buffer cA_ring cA_buffer A_ring_L46 A_buffer_L46 A_firstPlace_L46 A_forcedPlace_L46 A_endPlace_L46 A_wordsToFailure_L46 A_opened_L46 k46_1 _ hw) (cwV 1 hbg g_RX0_97 rfl rfl rfl (by decide +kernel) ⟨Nat.le_of_ble_eq_true rfl, Nat.le_of_ble_eq_true rfl⟩) ⟨pcR_A_b _ _ _ _ _ _ _ _ _ _ _ _ _ _ _, va_recv hK hP (ci := 0) (q0 := 0) rfl rfl, fun U hU hW => ⟨rfl, by rw [hU]; exact hP, va_K.moved hW.alike hK⟩⟩ rfl rfl hl.1 rfl (lv_room (Nat.le_of_ble_eq_true rfl)) dX0_addVoidRest_57 ⟨Nat.le_of_ble_eq_true rfl, Nat.le_of_ble_eq_true rfl⟩) (fun r_4 hw => ?_)
      try dsimp only at hw
      refine lv_istore_n (lv' := [(2, .int r_4), (0, .ref qA), (1, .int k46_1)]) hx hb dX0_addVoidRest_60 rfl hl (by decide) rfl (fun ls hl => ?_)
      refine lv_aload_n hx hb dX0_addVoidRest_61 rfl (lv_at hl 1 rfl) ?_
      refine lv_iload_n hx hb dX0_addVoidRest_62 rfl (lv_at hl 2 rfl) ?_
      refine vp_callSi (W.runV (As := [.int k46_1]) (rest := []) ⟨hx, hb, hml, hown, hbg⟩ (met_X0_behind l dC dI qA qA_ring qA_buffer cA_ring cA_buffer A_ring_L46 A_buffer_L46 A_firstPlace_L46 A_forcedPlace_L46 A_endPlace_L46 A_wordsToFailure_L46 A_opened_L46 k46_1 _ hw) (cwV 1 hbg g_RX0_74 rfl rfl rfl (by decide +kernel) ⟨Nat.le_of_ble_eq_true rfl, Nat.le_of_ble_eq_true rfl⟩) ⟨pcR_A_b _ _ _ _ _ _ _ _ _ _ _ _ _ _ _, va_recv hK hP (ci := 0) (q0 := 0) rfl rfl, fun U hU hW => ⟨rfl, by rw [hU]; exact hP, va_K.moved hW.alike hK⟩⟩ rfl rfl hl.1 rfl (lv_room (Nat.le_of_ble_eq_true rfl)) dX0_addVoidRest_63 ⟨Nat.le_of_ble_eq_true rfl, Nat.le_of_ble_eq_true rfl⟩) (fun r_5 hw => ?_)
      try dsimp only at hw
      refine lv_aload_n hx hb dX0_addVoidRest_66 rfl (lv_at hl 1 rfl) ?_
      refine va_get (D := (dC, dI)) (ci := 0) (v := .int A_endPlace_L46) (C := RX0) (T := TX0) (N := 7) hx hb hbg in_X0 hown hK hP 0 rfl rfl 4 (by decide) (hbg _ kw_12) (fun _ h9 => h9) rfl dX0_addVoidRest_67 ?_
      refine lv_isub hx hb dX0_addVoidRest_70 ?_
      refine lv_istore_n (lv' := [(3, .int (r_5 - A_endPlace_L46)), (2, .int r_4), (0, .ref qA), (1, .int k46_1)]) hx hb dX0_addVoidRest_71 rfl hl (by decide) rfl (fun ls hl => ?_)
      refine lv_iconst (v := (1 : Int32)) hx hb dX0_addVoidRest_72 (by decide) ?_
      refine lv_istore (lv' := [(4, .int (1 : Int32)), (3, .int (r_5 - A_endPlace_L46)), (2, .int r_4), (0, .ref qA), (1, .int k46_1)]) hx hb dX0_addVoidRest_73 hl (by decide) rfl (fun ls hl => ?_)
      obtain ⟨n9, hw⟩ := hw
      exact hL75 n9 k46_1 r_4 (r_5 - A_endPlace_L46) (1 : Int32) A_ring_L46 A_buffer_L46 A_firstPlace_L46 A_forcedPlace_L46 A_endPlace_L46 A_wordsToFailure_L46 A_opened_L46 hw _ _ hP hD hS ls (lv_sub hl [3, 4, 2, 1, 0] rfl)
    · have hw := hw.2 c9
      subst hQQ
      exact W.vret hx hb hr (fun t ht hW => ⟨⟨(A_ring_L46, A_buffer_L46, A_firstPlace_L46, A_forcedPlace_L46, A_endPlace_L46, A_wordsToFailure_L46, A_opened_L46), rfl, hw, by rw [ht]; exact hP, va_K.moved hW.alike hK, hD⟩, hS.F ht⟩) hS.2.2 dX0_addVoidRest_54
  have hL7 : ∀ (n7 : Nat) (y7_1 : Int32) (y7_2 : Int32) (A_ring_L7 : Nat → Int32) (A_buffer_L7 : Nat → Int32) (A_firstPlace_L7 : Int32) (A_forcedPlace_L7 : Int32) (A_endPlace_L7 : Int32) (A_wordsToFailure_L7 : Int32) (A_opened_L7 : Int32), wl_X0_addVoidRest_7 post n7 y7_1 y7_2 A_ring_L7 A_buffer_L7 A_firstPlace_L7 A_forcedPlace_L7 A_endPlace_L7 A_wordsToFailure_L7 A_opened_L7 → ∀ (H : Heap) (locs : List Loc), va_P (dC, dI) vwCl [(qA, .inr (0, [.ref qA_ring, .ref qA_buffer, .int A_firstPlace_L7, .int A_forcedPlace_L7, .int A_endPlace_L7, .int A_wordsToFailure_L7, .int A_opened_L7])), (qA_ring, .inl (cA_ring, 65536, .inl A_ring_L7)), (qA_buffer, .inl (cA_buffer, 200, .inl A_buffer_L7))] H → va_D A [(qA, .inr (0, [.ref qA_ring, .ref qA_buffer, .int A_firstPlace_L7, .int A_forcedPlace_L7, .int A_endPlace_L7, .int A_wordsToFailure_L7, .int A_opened_L7])), (qA_ring, .inl (cA_ring, 65536, .inl A_ring_L7)), (qA_buffer, .inl (cA_buffer, 200, .inl A_buffer_L7))] → va_S A s.heap H locs → ∀ ls : Array Slot, lv_has ls 5 [(0, .ref qA), (1, .int y7_1), (2, .int y7_2)] → W p l e (headSpec wsX0_addVoidRest ({ frames := 2, cells := 0, slots := 0, locals := 42 } : Room)).room s m args below meth c H locs 0 0 QQ (F0 m 7 ls []) := by
    intro n7
    induction n7 with
    | zero => intro y7_1 y7_2 A_ring_L7 A_buffer_L7 A_firstPlace_L7 A_forcedPlace_L7 A_endPlace_L7 A_wordsToFailure_L7 A_opened_L7 hw; exact False.elim hw
    | succ n7 ih7 =>
      intro y7_1 y7_2 A_ring_L7 A_buffer_L7 A_firstPlace_L7 A_forcedPlace_L7 A_endPlace_L7 A_wordsToFailure_L7 A_opened_L7 hw H locs hP hD hS ls hl
      rw [wl_X0_addVoidRest_7] at hw
      refine lv_iload_n hx hb dX0_addVoidRest_7 rfl (lv_at hl 2 rfl) ?_
      refine lv_sipush (v := (13107 : Int32)) hx hb dX0_addVoidRest_8 (by decide) ?_
      refine lv_icmp_ge (tgt := 46) hx hb dX0_addVoidRest_11 (by decide) (fun c9 => ?_) (fun c9 => ?_)
      · have hw := hw.1 c9
        exact hC46 y7_1 y7_2 A_ring_L7 A_buffer_L7 A_firstPlace_L7 A_forcedPlace_L7 A_endPlace_L7 A_wordsToFailure_L7 A_opened_L7 hw _ _ hP hD hS ls (lv_sub hl [0, 1, 2] rfl)
      · have hw := hw.2 c9
        refine lv_iload_n hx hb dX0_addVoidRest_14 rfl (lv_at hl 1 rfl) ?_
        refine lv_aload_n hx hb dX0_addVoidRest_15 rfl (lv_at hl 0 rfl) ?_
        refine va_get (D := (dC, dI)) (ci := 0) (v := .int A_endPlace_L7) (C := RX0) (T := TX0) (N := 7) hx hb hbg in_X0 hown hK hP 0 rfl rfl 4 (by decide) (hbg _ kw_12) (fun _ h9 => h9) rfl dX0_addVoidRest_16 ?_
        refine lv_icmp_ge (tgt := 46) hx hb dX0_addVoidRest_19 (by decide) (fun c9 => ?_) (fun c9 => ?_)
        · have hw := hw.1 c9
          exact hC46 y7_1 y7_2 A_ring_L7 A_buffer_L7 A_firstPlace_L7 A_forcedPlace_L7 A_endPlace_L7 A_wordsToFailure_L7 A_opened_L7 hw _ _ hP hD hS ls (lv_sub hl [0, 1, 2] rfl)
        · have hw := hw.2 c9
          refine lv_aload_n hx hb dX0_addVoidRest_22 rfl (lv_at hl 0 rfl) ?_
          refine lv_iload_n hx hb dX0_addVoidRest_23 rfl (lv_at hl 1 rfl) ?_
          refine vp_callSi (W.runV (As := [.int y7_1]) (rest := []) ⟨hx, hb, hml, hown, hbg⟩ (met_X0_behind l dC dI qA qA_ring qA_buffer cA_ring cA_buffer A_ring_L7 A_buffer_L7 A_firstPlace_L7 A_forcedPlace_L7 A_endPlace_L7 A_wordsToFailure_L7 A_opened_L7 y7_1 _ hw) (cwV 1 hbg g_RX0_74 rfl rfl rfl (by decide +kernel) ⟨Nat.le_of_ble_eq_true rfl, Nat.le_of_ble_eq_true rfl⟩) ⟨pcR_A_b _ _ _ _ _ _ _ _ _ _ _ _ _ _ _, va_recv hK hP (ci := 0) (q0 := 0) rfl rfl, fun U hU hW => ⟨rfl, by rw [hU]; exact hP, va_K.moved hW.alike hK⟩⟩ rfl rfl hl.1 rfl (lv_room (Nat.le_of_ble_eq_true rfl)) dX0_addVoidRest_24 ⟨Nat.le_of_ble_eq_true rfl, Nat.le_of_ble_eq_true rfl⟩) (fun r_1 hw => ?_)
          try dsimp only at hw
          refine lv_aload_n hx hb dX0_addVoidRest_27 rfl (lv_at hl 0 rfl) ?_
          refine va_get (D := (dC, dI)) (ci := 0) (v := .int A_endPlace_L7) (C := RX0) (T := TX0) (N := 7) hx hb hbg in_X0 hown hK hP 0 rfl rfl 4 (by decide) (hbg _ kw_12) (fun _ h9 => h9) rfl dX0_addVoidRest_28 ?_
          refine lv_icmp_gt (tgt := 46) hx hb dX0_addVoidRest_31 (by decide) (fun c9 => ?_) (fun c9 => ?_)
          · have hw := hw.1 c9
            exact hC46 y7_1 y7_2 A_ring_L7 A_buffer_L7 A_firstPlace_L7 A_forcedPlace_L7 A_endPlace_L7 A_wordsToFailure_L7 A_opened_L7 hw _ _ hP hD hS ls (lv_sub hl [0, 1, 2] rfl)
          · have hw := hw.2 c9
            refine lv_aload_n hx hb dX0_addVoidRest_34 rfl (lv_at hl 0 rfl) ?_
            refine lv_iload_n hx hb dX0_addVoidRest_35 rfl (lv_at hl 1 rfl) ?_
            refine vp_callSi (W.runV (As := [.int y7_1]) (rest := []) ⟨hx, hb, hml, hown, hbg⟩ (met_X0_behind l dC dI qA qA_ring qA_buffer cA_ring cA_buffer A_ring_L7 A_buffer_L7 A_firstPlace_L7 A_forcedPlace_L7 A_endPlace_L7 A_wordsToFailure_L7 A_opened_L7 y7_1 _ hw) (cwV 1 hbg g_RX0_74 rfl rfl rfl (by decide +kernel) ⟨Nat.le_of_ble_eq_true rfl, Nat.le_of_ble_eq_true rfl⟩) ⟨pcR_A_b _ _ _ _ _ _ _ _ _ _ _ _ _ _ _, va_recv hK hP (ci := 0) (q0 := 0) rfl rfl, fun U hU hW => ⟨rfl, by rw [hU]; exact hP, va_K.moved hW.alike hK⟩⟩ rfl rfl hl.1 rfl (lv_room (Nat.le_of_ble_eq_true rfl)) dX0_addVoidRest_36 ⟨Nat.le_of_ble_eq_true rfl, Nat.le_of_ble_eq_true rfl⟩) (fun r_2 hw => ?_)
            try dsimp only at hw
            refine lv_istore_n (lv' := [(1, .int r_2), (0, .ref qA), (2, .int y7_2)]) hx hb dX0_addVoidRest_39 rfl hl (by decide) rfl (fun ls hl => ?_)
            refine lv_iinc (v := y7_2 + (1 : Int32)) (lv' := [(2, .int (y7_2 + (1 : Int32))), (1, .int r_2), (0, .ref qA)]) hx hb dX0_addVoidRest_40 hl (k := 2) rfl rfl (by decide) rfl (fun ls hl => ?_)
            refine lv_goto (tgt := 7) hx hb dX0_addVoidRest_43 (by decide) ?_
            exact ih7 r_2 (y7_2 + (1 : Int32)) A_ring_L7 A_buffer_L7 A_firstPlace_L7 A_forcedPlace_L7 A_endPlace_L7 A_wordsToFailure_L7 A_opened_L7 hw _ _ hP hD hS ls (lv_sub hl [2, 1, 0] rfl)
  refine lv_aload_n hx hb dX0_addVoidRest_0 rfl (lv_at hl 0 rfl) ?_
  refine va_get (D := (dC, dI)) (ci := 0) (v := .int A_firstPlace) (C := RX0) (T := TX0) (N := 7) hx hb hbg in_X0 hown hK hP 0 rfl rfl 2 (by decide) (hbg _ kw_2) (fun _ h9 => h9) rfl dX0_addVoidRest_1 ?_
  refine lv_istore_n (lv' := [(1, .int A_firstPlace), (0, .ref qA)]) hx hb dX0_addVoidRest_4 rfl hl (by decide) rfl (fun ls hl => ?_)
  refine lv_iconst (v := (0 : Int32)) hx hb dX0_addVoidRest_5 (by decide) ?_
  refine lv_istore_n (lv' := [(2, .int (0 : Int32)), (1, .int A_firstPlace), (0, .ref qA)]) hx hb dX0_addVoidRest_6 rfl hl (by decide) rfl (fun ls hl => ?_)
  obtain ⟨n9, hw⟩ := hw
  exact hL7 n9 A_firstPlace (0 : Int32) A_ring A_buffer A_firstPlace A_forcedPlace A_endPlace A_wordsToFailure A_opened hw _ _ hP hD hS ls (lv_sub hl [2, 1, 0] rfl)
end
section
def wp_X0_requireOpen (post : St_A → Prop) (px : String → St_A → Prop) (A_ring : Nat → Int32) (A_buffer : Nat → Int32) (A_firstPlace : Int32) (A_forcedPlace : Int32) (A_endPlace : Int32) (A_wordsToFailure : Int32) (A_opened : Int32) : Prop :=
  ((A_opened = (0 : Int32) → px "java/lang/IllegalStateException" (A_ring, A_buffer, A_firstPlace, A_forcedPlace, A_endPlace, A_wordsToFailure, A_opened)) ∧ (¬ A_opened = (0 : Int32) → post (A_ring, A_buffer, A_firstPlace, A_forcedPlace, A_endPlace, A_wordsToFailure, A_opened)))
set_option maxHeartbeats 4000000 in
set_option maxRecDepth 100000 in
theorem met_X0_requireOpen (l : Launch) (hl9 : l.stackTraces = false) (dC : Nat → ClassId) (dI : Nat → Nat → Nat) (qA qA_ring qA_buffer : Nat) (cA_ring cA_buffer : ClassId) (sz : Nat) (A_ring : Nat → Int32) (A_buffer : Nat → Int32) (A_firstPlace : Int32) (A_forcedPlace : Int32) (A_endPlace : Int32) (A_wordsToFailure : Int32) (A_opened : Int32) (post : St_A → Prop) (px : String → St_A → Prop) (hw : wp_X0_requireOpen post px A_ring A_buffer A_firstPlace A_forcedPlace A_endPlace A_wordsToFailure A_opened) :
    vx_Met l yX0_requireOpen wsX0_requireOpen ({ frames := 6, cells := 1, slots := 6, locals := 96 } : Room) (pcX_A dC dI qA qA_ring qA_buffer cA_ring cA_buffer sz A_ring A_buffer A_firstPlace A_forcedPlace A_endPlace A_wordsToFailure A_opened [.ref qA]) (va_Qv post (at_A dC dI (va_A [(qA, .inr (0, [.ref qA_ring, .ref qA_buffer, .int A_firstPlace, .int A_forcedPlace, .int A_endPlace, .int A_wordsToFailure, .int A_opened])), (qA_ring, .inl (cA_ring, 65536, .inl A_ring)), (qA_buffer, .inl (cA_buffer, 200, .inl A_buffer))] sz) qA qA_ring qA_buffer cA_ring cA_buffer) (va_A [(qA, .inr (0, [.ref qA_ring, .ref qA_buffer, .int A_firstPlace, .int A_forcedPlace, .int A_endPlace, .int A_wordsToFailure, .int A_opened])), (qA_ring, .inl (cA_ring, 65536, .inl A_ring)), (qA_buffer, .inl (cA_buffer, 200, .inl A_buffer))] sz)) (vx_X (fun u => px u.1 u.2) (atx_A dC dI (va_A [(qA, .inr (0, [.ref qA_ring, .ref qA_buffer, .int A_firstPlace, .int A_forcedPlace, .int A_endPlace, .int A_wordsToFailure, .int A_opened])), (qA_ring, .inl (cA_ring, 65536, .inl A_ring)), (qA_buffer, .inl (cA_buffer, 200, .inl A_buffer))] sz) qA qA_ring qA_buffer cA_ring cA_buffer) (va_A [(qA, .inr (0, [.ref qA_ring, .ref qA_buffer, .int A_firstPlace, .int A_forcedPlace, .int A_endPlace, .int A_wordsToFailure, .int A_opened])), (qA_ring, .inl (cA_ring, 65536, .inl A_ring)), (qA_buffer, .inl (cA_buffer, 200, .inl A_buffer))] sz)) 1 6 (va_A [(qA, .inr (0, [.ref qA_ring, .ref qA_buffer, .int A_firstPlace, .int A_forcedPlace, .int A_endPlace, .int A_wordsToFailure, .int A_opened])), (qA_ring, .inl (cA_ring, 65536, .inl A_ring)), (qA_buffer, .inl (cA_buffer, 200, .inl A_buffer))] sz) := by
  refine vx_ofW (cc := cX0_requireOpen) (maxL := 1) (ret := none) (by decide) rfl ?_
  intro p e s m args below meth c s₁ B hml hEx hv
  obtain ⟨hav, hsz, hP, hK, hD0, hXW0⟩ := hv
  have hx := B.exec
  have hb := B.bytes
  have hr := B.returns
  have hts := atoms_spec (ws := wsX0_requireOpen) B.pre
  have hbg : ∀ w ∈ bigW, w.before args s = true := fun w h => hts w (List.mem_cons_of_mem _ h)
  have hown : s.vm.findClass RX0 = some m.cls := findClass_of_methodNamed B.named
  have hlocks := B.notSynchronized
  subst hsz
  have hD := hD0.self (sz := s.heap.size)
  generalize hAe : va_A [(qA, .inr (0, [.ref qA_ring, .ref qA_buffer, .int A_firstPlace, .int A_forcedPlace, .int A_endPlace, .int A_wordsToFailure, .int A_opened])), (qA_ring, .inl (cA_ring, 65536, .inl A_ring)), (qA_buffer, .inl (cA_buffer, 200, .inl A_buffer))] s.heap.size = A at hD hXW0 ⊢
  have hA : ∀ q : Nat, s.heap.size ≤ q → A q := fun q h => by rw [← hAe]; exact Or.inr h
  have hS : va_S A s.heap s.heap [] := va_S.rf
  have hP : va_P (dC, dI) vwCl [(qA, .inr (0, [.ref qA_ring, .ref qA_buffer, .int A_firstPlace, .int A_forcedPlace, .int A_endPlace, .int A_wordsToFailure, .int A_opened])), (qA_ring, .inl (cA_ring, 65536, .inl A_ring)), (qA_buffer, .inl (cA_buffer, 200, .inl A_buffer))] s.heap := hP
  generalize hQQ : vx_MQ below (va_Qv post (at_A dC dI A qA qA_ring qA_buffer cA_ring cA_buffer) A) (vx_X (fun u => px u.1 u.2) (atx_A dC dI A qA qA_ring qA_buffer cA_ring cA_buffer) A) args s 1 6 A = QQ
  have hl := lv_entry ([.ref qA]) (n := 1) (Nat.le_of_ble_eq_true rfl)
  rw [show entryFrame m args 1 = entryFrame m ([.ref qA] : List Value).toArray 1 by rw [hav], lg_entry_eq]
  generalize (lg_sl ([.ref qA]) ++ List.replicate (1 - (lg_sl ([.ref qA])).length) Slot.unset).toArray = ls at hl ⊢
  have hl : lv_has ls 1 [(0, .ref qA)] := hl
  unfold wp_X0_requireOpen at hw
  refine lv_aload_n hx hb dX0_requireOpen_0 rfl (lv_at hl 0 rfl) ?_
  refine va_get (D := (dC, dI)) (ci := 0) (v := .int A_opened) (C := RX0) (T := TX0) (N := 7) hx hb hbg in_X0 hown hK hP 0 rfl rfl 6 (by decide) (hbg _ kw_45) (fun _ h9 => h9) rfl dX0_requireOpen_1 ?_
  refine lv_if_ne (tgt := 17) hx hb dX0_requireOpen_4 (by decide) (fun c9 => ?_) (fun c9 => ?_)
  · have hw := hw.2 c9
    subst hQQ
    refine W.widen (k := 1) (n := 6) (Nat.le_of_ble_eq_true rfl) (Nat.le_of_ble_eq_true rfl) ?_
    refine vx_ret ?_
    exact W.vret hx hb hr (fun t ht hW => ⟨⟨(A_ring, A_buffer, A_firstPlace, A_forcedPlace, A_endPlace, A_wordsToFailure, A_opened), rfl, hw, by rw [ht]; exact hP, va_K.moved hW.alike hK, hD⟩, hS.F ht⟩) hS.2.2 dX0_requireOpen_17
  · have hw := hw.1 c9
    subst hQQ
    obtain ⟨sa, hsa⟩ := hXW0.2.2.1 (RX0, 125, "the book is closed") (by decide +kernel)
    exact vx_throwS (own := RX0) (cls := "java/lang/IllegalStateException") (names := ["java/lang/RuntimeException", "java/lang/Exception"]) hx hb hl9 hown (by decide +kernel) (by decide +kernel) (hbg _ kw_67) (hbg _ kw_68) hsa (vx_hat (L := vx_atS RX0 84 "java/lang/IllegalStateException" ["java/lang/RuntimeException", "java/lang/Exception"]) (B := [.castable "java/lang/IllegalStateException" "java/lang/IllegalStateException", .declares ⟨"java/lang/RuntimeException", "<init>", "(Ljava/lang/String;)V"⟩, .declares ⟨"java/lang/Exception", "<init>", "(Ljava/lang/String;)V"⟩, .declares ⟨"java/lang/Throwable", "<init>", "(Ljava/lang/String;)V"⟩]) (fun w hw => hbg w (xa_RX0_84 w hw)) (by decide +kernel) (vx_c (va_Nw.use rfl (hXW0.1 "java/lang/IllegalStateException" (by decide))) (vx_c (va_Nw.use rfl (hXW0.2.1 "java/lang/RuntimeException" (by decide))) (vx_c (va_Nw.use rfl (hXW0.2.1 "java/lang/Exception" (by decide))) (vx_c (va_Nw.use rfl (hXW0.2.1 "java/lang/Throwable" (by decide))) (vx_n)))))) (by decide +kernel) hXW0.2.2.2.2.1 hXW0.2.2.2.2.2 hS (hl.1.trans hml.symm) dX0_requireOpen_7 dX0_requireOpen_10 dX0_requireOpen_11 dX0_requireOpen_13 dX0_requireOpen_16 (fun x hx => (hEx x hx).elim) (Nat.le_of_ble_eq_true rfl) (Nat.le_of_ble_eq_true rfl) (Nat.le_of_ble_eq_true rfl) (Nat.le_of_ble_eq_true rfl) hlocks (fun t ha hsz hk => ⟨("java/lang/IllegalStateException", (A_ring, A_buffer, A_firstPlace, A_forcedPlace, A_endPlace, A_wordsToFailure, A_opened)), hw, ⟨rfl, hP.kept (fun k q hq => hk q.1 (hP k q hq).lt), va_K.moved ha hK, hD⟩, Nat.le_trans hS.1 hsz, fun q h1 h2 => (hk q (Nat.lt_of_lt_of_le h1 hS.1)).trans (hS.2.1 q h1 h2)⟩) hS.2.2 (Nat.le_of_ble_eq_true rfl) (Nat.le_of_ble_eq_true rfl)
def wp_X0_requireOwner (post : St_A → Prop) (px : String → St_A → Prop) (x1 : Int32) (A_ring : Nat → Int32) (A_buffer : Nat → Int32) (A_firstPlace : Int32) (A_forcedPlace : Int32) (A_endPlace : Int32) (A_wordsToFailure : Int32) (A_opened : Int32) : Prop :=
  ((x1 < (0 : Int32) → px "java/lang/IllegalArgumentException" (A_ring, A_buffer, A_firstPlace, A_forcedPlace, A_endPlace, A_wordsToFailure, A_opened)) ∧ (¬ x1 < (0 : Int32) → ((x1 < (8 : Int32) → post (A_ring, A_buffer, A_firstPlace, A_forcedPlace, A_endPlace, A_wordsToFailure, A_opened)) ∧ (¬ x1 < (8 : Int32) → px "java/lang/IllegalArgumentException" (A_ring, A_buffer, A_firstPlace, A_forcedPlace, A_endPlace, A_wordsToFailure, A_opened)))))
set_option maxHeartbeats 4000000 in
set_option maxRecDepth 100000 in
theorem met_X0_requireOwner (l : Launch) (hl9 : l.stackTraces = false) (dC : Nat → ClassId) (dI : Nat → Nat → Nat) (qA qA_ring qA_buffer : Nat) (cA_ring cA_buffer : ClassId) (sz : Nat) (A_ring : Nat → Int32) (A_buffer : Nat → Int32) (A_firstPlace : Int32) (A_forcedPlace : Int32) (A_endPlace : Int32) (A_wordsToFailure : Int32) (A_opened : Int32) (x1 : Int32) (post : St_A → Prop) (px : String → St_A → Prop) (hw : wp_X0_requireOwner post px x1 A_ring A_buffer A_firstPlace A_forcedPlace A_endPlace A_wordsToFailure A_opened) :
    vx_Met l yX0_requireOwner wsX0_requireOwner ({ frames := 6, cells := 1, slots := 6, locals := 96 } : Room) (pcX_A dC dI qA qA_ring qA_buffer cA_ring cA_buffer sz A_ring A_buffer A_firstPlace A_forcedPlace A_endPlace A_wordsToFailure A_opened [.ref qA, .int x1]) (va_Qv post (at_A dC dI (va_A [(qA, .inr (0, [.ref qA_ring, .ref qA_buffer, .int A_firstPlace, .int A_forcedPlace, .int A_endPlace, .int A_wordsToFailure, .int A_opened])), (qA_ring, .inl (cA_ring, 65536, .inl A_ring)), (qA_buffer, .inl (cA_buffer, 200, .inl A_buffer))] sz) qA qA_ring qA_buffer cA_ring cA_buffer) (va_A [(qA, .inr (0, [.ref qA_ring, .ref qA_buffer, .int A_firstPlace, .int A_forcedPlace, .int A_endPlace, .int A_wordsToFailure, .int A_opened])), (qA_ring, .inl (cA_ring, 65536, .inl A_ring)), (qA_buffer, .inl (cA_buffer, 200, .inl A_buffer))] sz)) (vx_X (fun u => px u.1 u.2) (atx_A dC dI (va_A [(qA, .inr (0, [.ref qA_ring, .ref qA_buffer, .int A_firstPlace, .int A_forcedPlace, .int A_endPlace, .int A_wordsToFailure, .int A_opened])), (qA_ring, .inl (cA_ring, 65536, .inl A_ring)), (qA_buffer, .inl (cA_buffer, 200, .inl A_buffer))] sz) qA qA_ring qA_buffer cA_ring cA_buffer) (va_A [(qA, .inr (0, [.ref qA_ring, .ref qA_buffer, .int A_firstPlace, .int A_forcedPlace, .int A_endPlace, .int A_wordsToFailure, .int A_opened])), (qA_ring, .inl (cA_ring, 65536, .inl A_ring)), (qA_buffer, .inl (cA_buffer, 200, .inl A_buffer))] sz)) 1 6 (va_A [(qA, .inr (0, [.ref qA_ring, .ref qA_buffer, .int A_firstPlace, .int A_forcedPlace, .int A_endPlace, .int A_wordsToFailure, .int A_opened])), (qA_ring, .inl (cA_ring, 65536, .inl A_ring)), (qA_buffer, .inl (cA_buffer, 200, .inl A_buffer))] sz) := by
  refine vx_ofW (cc := cX0_requireOwner) (maxL := 2) (ret := none) (by decide) rfl ?_
  intro p e s m args below meth c s₁ B hml hEx hv
  obtain ⟨hav, hsz, hP, hK, hD0, hXW0⟩ := hv
  have hx := B.exec
  have hb := B.bytes
  have hr := B.returns
  have hts := atoms_spec (ws := wsX0_requireOwner) B.pre
  have hbg : ∀ w ∈ bigW, w.before args s = true := fun w h => hts w (List.mem_cons_of_mem _ h)
  have hown : s.vm.findClass RX0 = some m.cls := findClass_of_methodNamed B.named
  have hlocks := B.notSynchronized
  subst hsz
  have hD := hD0.self (sz := s.heap.size)
  generalize hAe : va_A [(qA, .inr (0, [.ref qA_ring, .ref qA_buffer, .int A_firstPlace, .int A_forcedPlace, .int A_endPlace, .int A_wordsToFailure, .int A_opened])), (qA_ring, .inl (cA_ring, 65536, .inl A_ring)), (qA_buffer, .inl (cA_buffer, 200, .inl A_buffer))] s.heap.size = A at hD hXW0 ⊢
  have hA : ∀ q : Nat, s.heap.size ≤ q → A q := fun q h => by rw [← hAe]; exact Or.inr h
  have hS : va_S A s.heap s.heap [] := va_S.rf
  have hP : va_P (dC, dI) vwCl [(qA, .inr (0, [.ref qA_ring, .ref qA_buffer, .int A_firstPlace, .int A_forcedPlace, .int A_endPlace, .int A_wordsToFailure, .int A_opened])), (qA_ring, .inl (cA_ring, 65536, .inl A_ring)), (qA_buffer, .inl (cA_buffer, 200, .inl A_buffer))] s.heap := hP
  generalize hQQ : vx_MQ below (va_Qv post (at_A dC dI A qA qA_ring qA_buffer cA_ring cA_buffer) A) (vx_X (fun u => px u.1 u.2) (atx_A dC dI A qA qA_ring qA_buffer cA_ring cA_buffer) A) args s 1 6 A = QQ
  have hl := lv_entry ([.ref qA, .int x1]) (n := 2) (Nat.le_of_ble_eq_true rfl)
  rw [show entryFrame m args 2 = entryFrame m ([.ref qA, .int x1] : List Value).toArray 2 by rw [hav], lg_entry_eq]
  generalize (lg_sl ([.ref qA, .int x1]) ++ List.replicate (2 - (lg_sl ([.ref qA, .int x1])).length) Slot.unset).toArray = ls at hl ⊢
  have hl : lv_has ls 2 [(0, .ref qA), (1, .int x1)] := hl
  unfold wp_X0_requireOwner at hw
  refine lv_iload_n hx hb dX0_requireOwner_0 rfl (lv_at hl 1 rfl) ?_
  refine lv_if_lt (tgt := 10) hx hb dX0_requireOwner_1 (by decide) (fun c9 => ?_) (fun c9 => ?_)
  · have hw := hw.1 c9
    subst hQQ
    obtain ⟨sa, hsa⟩ := hXW0.2.2.1 (RX0, 127, "owners are 0 .. 7") (by decide +kernel)
    exact vx_throwS (own := RX0) (cls := "java/lang/IllegalArgumentException") (names := ["java/lang/RuntimeException", "java/lang/Exception"]) hx hb hl9 hown (by decide +kernel) (by decide +kernel) (hbg _ kw_69) (hbg _ kw_70) hsa (vx_hat (L := vx_atS RX0 56 "java/lang/IllegalArgumentException" ["java/lang/RuntimeException", "java/lang/Exception"]) (B := [.castable "java/lang/IllegalArgumentException" "java/lang/IllegalArgumentException", .declares ⟨"java/lang/RuntimeException", "<init>", "(Ljava/lang/String;)V"⟩, .declares ⟨"java/lang/Exception", "<init>", "(Ljava/lang/String;)V"⟩, .declares ⟨"java/lang/Throwable", "<init>", "(Ljava/lang/String;)V"⟩]) (fun w hw => hbg w (xa_RX0_56 w hw)) (by decide +kernel) (vx_c (va_Nw.use rfl (hXW0.1 "java/lang/IllegalArgumentException" (by decide))) (vx_c (va_Nw.use rfl (hXW0.2.1 "java/lang/RuntimeException" (by decide))) (vx_c (va_Nw.use rfl (hXW0.2.1 "java/lang/Exception" (by decide))) (vx_c (va_Nw.use rfl (hXW0.2.1 "java/lang/Throwable" (by decide))) (vx_n)))))) (by decide +kernel) hXW0.2.2.2.2.1 hXW0.2.2.2.2.2 hS (hl.1.trans hml.symm) dX0_requireOwner_10 dX0_requireOwner_13 dX0_requireOwner_14 dX0_requireOwner_16 dX0_requireOwner_19 (fun x hx => (hEx x hx).elim) (Nat.le_of_ble_eq_true rfl) (Nat.le_of_ble_eq_true rfl) (Nat.le_of_ble_eq_true rfl) (Nat.le_of_ble_eq_true rfl) hlocks (fun t ha hsz hk => ⟨("java/lang/IllegalArgumentException", (A_ring, A_buffer, A_firstPlace, A_forcedPlace, A_endPlace, A_wordsToFailure, A_opened)), hw, ⟨rfl, hP.kept (fun k q hq => hk q.1 (hP k q hq).lt), va_K.moved ha hK, hD⟩, Nat.le_trans hS.1 hsz, fun q h1 h2 => (hk q (Nat.lt_of_lt_of_le h1 hS.1)).trans (hS.2.1 q h1 h2)⟩) hS.2.2 (Nat.le_of_ble_eq_true rfl) (Nat.le_of_ble_eq_true rfl)
  · have hw := hw.2 c9
    refine lv_iload_n hx hb dX0_requireOwner_4 rfl (lv_at hl 1 rfl) ?_
    refine lv_bipush (v := (8 : Int32)) hx hb dX0_requireOwner_5 (by decide) ?_
    refine lv_icmp_lt (tgt := 20) hx hb dX0_requireOwner_7 (by decide) (fun c9 => ?_) (fun c9 => ?_)
    · have hw := hw.1 c9
      subst hQQ
      refine W.widen (k := 1) (n := 6) (Nat.le_of_ble_eq_true rfl) (Nat.le_of_ble_eq_true rfl) ?_
      refine vx_ret ?_
      exact W.vret hx hb hr (fun t ht hW => ⟨⟨(A_ring, A_buffer, A_firstPlace, A_forcedPlace, A_endPlace, A_wordsToFailure, A_opened), rfl, hw, by rw [ht]; exact hP, va_K.moved hW.alike hK, hD⟩, hS.F ht⟩) hS.2.2 dX0_requireOwner_20
    · have hw := hw.2 c9
      subst hQQ
      obtain ⟨sa, hsa⟩ := hXW0.2.2.1 (RX0, 127, "owners are 0 .. 7") (by decide +kernel)
      exact vx_throwS (own := RX0) (cls := "java/lang/IllegalArgumentException") (names := ["java/lang/RuntimeException", "java/lang/Exception"]) hx hb hl9 hown (by decide +kernel) (by decide +kernel) (hbg _ kw_69) (hbg _ kw_70) hsa (vx_hat (L := vx_atS RX0 56 "java/lang/IllegalArgumentException" ["java/lang/RuntimeException", "java/lang/Exception"]) (B := [.castable "java/lang/IllegalArgumentException" "java/lang/IllegalArgumentException", .declares ⟨"java/lang/RuntimeException", "<init>", "(Ljava/lang/String;)V"⟩, .declares ⟨"java/lang/Exception", "<init>", "(Ljava/lang/String;)V"⟩, .declares ⟨"java/lang/Throwable", "<init>", "(Ljava/lang/String;)V"⟩]) (fun w hw => hbg w (xa_RX0_56 w hw)) (by decide +kernel) (vx_c (va_Nw.use rfl (hXW0.1 "java/lang/IllegalArgumentException" (by decide))) (vx_c (va_Nw.use rfl (hXW0.2.1 "java/lang/RuntimeException" (by decide))) (vx_c (va_Nw.use rfl (hXW0.2.1 "java/lang/Exception" (by decide))) (vx_c (va_Nw.use rfl (hXW0.2.1 "java/lang/Throwable" (by decide))) (vx_n)))))) (by decide +kernel) hXW0.2.2.2.2.1 hXW0.2.2.2.2.2 hS (hl.1.trans hml.symm) dX0_requireOwner_10 dX0_requireOwner_13 dX0_requireOwner_14 dX0_requireOwner_16 dX0_requireOwner_19 (fun x hx => (hEx x hx).elim) (Nat.le_of_ble_eq_true rfl) (Nat.le_of_ble_eq_true rfl) (Nat.le_of_ble_eq_true rfl) (Nat.le_of_ble_eq_true rfl) hlocks (fun t ha hsz hk => ⟨("java/lang/IllegalArgumentException", (A_ring, A_buffer, A_firstPlace, A_forcedPlace, A_endPlace, A_wordsToFailure, A_opened)), hw, ⟨rfl, hP.kept (fun k q hq => hk q.1 (hP k q hq).lt), va_K.moved ha hK, hD⟩, Nat.le_trans hS.1 hsz, fun q h1 h2 => (hk q (Nat.lt_of_lt_of_le h1 hS.1)).trans (hS.2.1 q h1 h2)⟩) hS.2.2 (Nat.le_of_ble_eq_true rfl) (Nat.le_of_ble_eq_true rfl)
def wp_X0_requireRecord (post : St_A → Prop) (px : String → St_A → Prop) (x1 : Int32) (A_ring : Nat → Int32) (A_buffer : Nat → Int32) (A_firstPlace : Int32) (A_forcedPlace : Int32) (A_endPlace : Int32) (A_wordsToFailure : Int32) (A_opened : Int32) : Prop :=
  wp_X0_isRecord (fun r_1 => ((r_1 = (0 : Int32) → px "java/util/NoSuchElementException" (A_ring, A_buffer, A_firstPlace, A_forcedPlace, A_endPlace, A_wordsToFailure, A_opened)) ∧ (¬ r_1 = (0 : Int32) → post (A_ring, A_buffer, A_firstPlace, A_forcedPlace, A_endPlace, A_wordsToFailure, A_opened)))) x1 A_ring A_buffer A_firstPlace A_forcedPlace A_endPlace A_wordsToFailure A_opened
set_option maxHeartbeats 4000000 in
set_option maxRecDepth 100000 in
theorem met_X0_requireRecord (l : Launch) (hl9 : l.stackTraces = false) (dC : Nat → ClassId) (dI : Nat → Nat → Nat) (qA qA_ring qA_buffer : Nat) (cA_ring cA_buffer : ClassId) (sz : Nat) (A_ring : Nat → Int32) (A_buffer : Nat → Int32) (A_firstPlace : Int32) (A_forcedPlace : Int32) (A_endPlace : Int32) (A_wordsToFailure : Int32) (A_opened : Int32) (x1 : Int32) (post : St_A → Prop) (px : String → St_A → Prop) (hw : wp_X0_requireRecord post px x1 A_ring A_buffer A_firstPlace A_forcedPlace A_endPlace A_wordsToFailure A_opened) :
    vx_Met l yX0_requireRecord wsX0_requireRecord ({ frames := 6, cells := 1, slots := 6, locals := 96 } : Room) (pcX_A dC dI qA qA_ring qA_buffer cA_ring cA_buffer sz A_ring A_buffer A_firstPlace A_forcedPlace A_endPlace A_wordsToFailure A_opened [.ref qA, .int x1]) (va_Qv post (at_A dC dI (va_A [(qA, .inr (0, [.ref qA_ring, .ref qA_buffer, .int A_firstPlace, .int A_forcedPlace, .int A_endPlace, .int A_wordsToFailure, .int A_opened])), (qA_ring, .inl (cA_ring, 65536, .inl A_ring)), (qA_buffer, .inl (cA_buffer, 200, .inl A_buffer))] sz) qA qA_ring qA_buffer cA_ring cA_buffer) (va_A [(qA, .inr (0, [.ref qA_ring, .ref qA_buffer, .int A_firstPlace, .int A_forcedPlace, .int A_endPlace, .int A_wordsToFailure, .int A_opened])), (qA_ring, .inl (cA_ring, 65536, .inl A_ring)), (qA_buffer, .inl (cA_buffer, 200, .inl A_buffer))] sz)) (vx_X (fun u => px u.1 u.2) (atx_A dC dI (va_A [(qA, .inr (0, [.ref qA_ring, .ref qA_buffer, .int A_firstPlace, .int A_forcedPlace, .int A_endPlace, .int A_wordsToFailure, .int A_opened])), (qA_ring, .inl (cA_ring, 65536, .inl A_ring)), (qA_buffer, .inl (cA_buffer, 200, .inl A_buffer))] sz) qA qA_ring qA_buffer cA_ring cA_buffer) (va_A [(qA, .inr (0, [.ref qA_ring, .ref qA_buffer, .int A_firstPlace, .int A_forcedPlace, .int A_endPlace, .int A_wordsToFailure, .int A_opened])), (qA_ring, .inl (cA_ring, 65536, .inl A_ring)), (qA_buffer, .inl (cA_buffer, 200, .inl A_buffer))] sz)) 1 6 (va_A [(qA, .inr (0, [.ref qA_ring, .ref qA_buffer, .int A_firstPlace, .int A_forcedPlace, .int A_endPlace, .int A_wordsToFailure, .int A_opened])), (qA_ring, .inl (cA_ring, 65536, .inl A_ring)), (qA_buffer, .inl (cA_buffer, 200, .inl A_buffer))] sz) := by
  refine vx_ofW (cc := cX0_requireRecord) (maxL := 2) (ret := none) (by decide) rfl ?_
  intro p e s m args below meth c s₁ B hml hEx hv
  obtain ⟨hav, hsz, hP, hK, hD0, hXW0⟩ := hv
  have hx := B.exec
  have hb := B.bytes
  have hr := B.returns
  have hts := atoms_spec (ws := wsX0_requireRecord) B.pre
  have hbg : ∀ w ∈ bigW, w.before args s = true := fun w h => hts w (List.mem_cons_of_mem _ h)
  have hown : s.vm.findClass RX0 = some m.cls := findClass_of_methodNamed B.named
  have hlocks := B.notSynchronized
  subst hsz
  have hD := hD0.self (sz := s.heap.size)
  generalize hAe : va_A [(qA, .inr (0, [.ref qA_ring, .ref qA_buffer, .int A_firstPlace, .int A_forcedPlace, .int A_endPlace, .int A_wordsToFailure, .int A_opened])), (qA_ring, .inl (cA_ring, 65536, .inl A_ring)), (qA_buffer, .inl (cA_buffer, 200, .inl A_buffer))] s.heap.size = A at hD hXW0 ⊢
  have hA : ∀ q : Nat, s.heap.size ≤ q → A q := fun q h => by rw [← hAe]; exact Or.inr h
  have hS : va_S A s.heap s.heap [] := va_S.rf
  have hP : va_P (dC, dI) vwCl [(qA, .inr (0, [.ref qA_ring, .ref qA_buffer, .int A_firstPlace, .int A_forcedPlace, .int A_endPlace, .int A_wordsToFailure, .int A_opened])), (qA_ring, .inl (cA_ring, 65536, .inl A_ring)), (qA_buffer, .inl (cA_buffer, 200, .inl A_buffer))] s.heap := hP
  generalize hQQ : vx_MQ below (va_Qv post (at_A dC dI A qA qA_ring qA_buffer cA_ring cA_buffer) A) (vx_X (fun u => px u.1 u.2) (atx_A dC dI A qA qA_ring qA_buffer cA_ring cA_buffer) A) args s 1 6 A = QQ
  have hl := lv_entry ([.ref qA, .int x1]) (n := 2) (Nat.le_of_ble_eq_true rfl)
  rw [show entryFrame m args 2 = entryFrame m ([.ref qA, .int x1] : List Value).toArray 2 by rw [hav], lg_entry_eq]
  generalize (lg_sl ([.ref qA, .int x1]) ++ List.replicate (2 - (lg_sl ([.ref qA, .int x1])).length) Slot.unset).toArray = ls at hl ⊢
  have hl : lv_has ls 2 [(0, .ref qA), (1, .int x1)] := hl
  unfold wp_X0_requireRecord at hw
  refine lv_aload_n hx hb dX0_requireRecord_0 rfl (lv_at hl 0 rfl) ?_
  refine lv_iload_n hx hb dX0_requireRecord_1 rfl (lv_at hl 1 rfl) ?_
  refine vp_callSi (W.runV (As := [.int x1]) (rest := []) ⟨hx, hb, hml, hown, hbg⟩ (met_X0_isRecord l dC dI qA qA_ring qA_buffer cA_ring cA_buffer A_ring A_buffer A_firstPlace A_forcedPlace A_endPlace A_wordsToFailure A_opened x1 _ hw) (cwV 1 hbg g_RX0_129 rfl rfl rfl (by decide +kernel) ⟨Nat.le_of_ble_eq_true rfl, Nat.le_of_ble_eq_true rfl⟩) ⟨pcR_A_b _ _ _ _ _ _ _ _ _ _ _ _ _ _ _, va_recv hK hP (ci := 0) (q0 := 0) rfl rfl, fun U hU hW => ⟨rfl, by rw [hU]; exact hP, va_K.moved hW.alike hK⟩⟩ rfl rfl hl.1 rfl (lv_room (Nat.le_of_ble_eq_true rfl)) dX0_requireRecord_2 ⟨Nat.le_of_ble_eq_true rfl, Nat.le_of_ble_eq_true rfl⟩) (fun r_1 hw => ?_)
  try dsimp only at hw
  refine lv_if_ne (tgt := 18) hx hb dX0_requireRecord_5 (by decide) (fun c9 => ?_) (fun c9 => ?_)
  · have hw := hw.2 c9
    subst hQQ
    refine W.widen (k := 1) (n := 6) (Nat.le_of_ble_eq_true rfl) (Nat.le_of_ble_eq_true rfl) ?_
    refine vx_ret ?_
    exact W.vret hx hb hr (fun t ht hW => ⟨⟨(A_ring, A_buffer, A_firstPlace, A_forcedPlace, A_endPlace, A_wordsToFailure, A_opened), rfl, hw, by rw [ht]; exact hP, va_K.moved hW.alike hK, hD⟩, hS.F ht⟩) hS.2.2 dX0_requireRecord_18
  · have hw := hw.1 c9
    subst hQQ
    obtain ⟨sa, hsa⟩ := hXW0.2.2.1 (RX0, 135, "no record has this serial") (by decide +kernel)
    exact vx_throwS (own := RX0) (cls := "java/util/NoSuchElementException") (names := ["java/lang/RuntimeException", "java/lang/Exception"]) hx hb hl9 hown (by decide +kernel) (by decide +kernel) (hbg _ kw_75) (hbg _ kw_76) hsa (vx_hat (L := vx_atS RX0 137 "java/util/NoSuchElementException" ["java/lang/RuntimeException", "java/lang/Exception"]) (B := [.castable "java/util/NoSuchElementException" "java/util/NoSuchElementException", .declares ⟨"java/lang/RuntimeException", "<init>", "(Ljava/lang/String;)V"⟩, .declares ⟨"java/lang/Exception", "<init>", "(Ljava/lang/String;)V"⟩, .declares ⟨"java/lang/Throwable", "<init>", "(Ljava/lang/String;)V"⟩]) (fun w hw => hbg w (xa_RX0_137 w hw)) (by decide +kernel) (vx_c (va_Nw.use rfl (hXW0.1 "java/util/NoSuchElementException" (by decide))) (vx_c (va_Nw.use rfl (hXW0.2.1 "java/lang/RuntimeException" (by decide))) (vx_c (va_Nw.use rfl (hXW0.2.1 "java/lang/Exception" (by decide))) (vx_c (va_Nw.use rfl (hXW0.2.1 "java/lang/Throwable" (by decide))) (vx_n)))))) (by decide +kernel) hXW0.2.2.2.2.1 hXW0.2.2.2.2.2 hS (hl.1.trans hml.symm) dX0_requireRecord_8 dX0_requireRecord_11 dX0_requireRecord_12 dX0_requireRecord_14 dX0_requireRecord_17 (fun x hx => (hEx x hx).elim) (Nat.le_of_ble_eq_true rfl) (Nat.le_of_ble_eq_true rfl) (Nat.le_of_ble_eq_true rfl) (Nat.le_of_ble_eq_true rfl) hlocks (fun t ha hsz hk => ⟨("java/util/NoSuchElementException", (A_ring, A_buffer, A_firstPlace, A_forcedPlace, A_endPlace, A_wordsToFailure, A_opened)), hw, ⟨rfl, hP.kept (fun k q hq => hk q.1 (hP k q hq).lt), va_K.moved ha hK, hD⟩, Nat.le_trans hS.1 hsz, fun q h1 h2 => (hk q (Nat.lt_of_lt_of_le h1 hS.1)).trans (hS.2.1 q h1 h2)⟩) hS.2.2 (Nat.le_of_ble_eq_true rfl) (Nat.le_of_ble_eq_true rfl)
end
section
def wp_X0_set (post : St_A → Prop) (px : String → St_A → Prop) (x1 : Int32) (x2 : Int32) (A_ring : Nat → Int32) (A_buffer : Nat → Int32) (A_firstPlace : Int32) (A_forcedPlace : Int32) (A_endPlace : Int32) (A_wordsToFailure : Int32) (A_opened : Int32) : Prop :=
  wp_X0_requireOpen (fun u_1 => match u_1 with | (A_ring_1, A_buffer_1, A_firstPlace_1, A_forcedPlace_1, A_endPlace_1, A_wordsToFailure_1, A_opened_1) => ((x1 < (0 : Int32) → px "java/lang/IndexOutOfBoundsException" (A_ring_1, A_buffer_1, A_firstPlace_1, A_forcedPlace_1, A_endPlace_1, A_wordsToFailure_1, A_opened_1)) ∧ (¬ x1 < (0 : Int32) → ((x1 < (200 : Int32) → vp_in x1 200 ∧ (post (A_ring_1, upd A_buffer_1 x1.toNatClampNeg x2, A_firstPlace_1, A_forcedPlace_1, A_endPlace_1, A_wordsToFailure_1, A_opened_1))) ∧ (¬ x1 < (200 : Int32) → px "java/lang/IndexOutOfBoundsException" (A_ring_1, A_buffer_1, A_firstPlace_1, A_forcedPlace_1, A_endPlace_1, A_wordsToFailure_1, A_opened_1)))))) px A_ring A_buffer A_firstPlace A_forcedPlace A_endPlace A_wordsToFailure A_opened
set_option maxHeartbeats 4000000 in
set_option maxRecDepth 100000 in
theorem met_X0_set (l : Launch) (hl9 : l.stackTraces = false) (dC : Nat → ClassId) (dI : Nat → Nat → Nat) (qA qA_ring qA_buffer : Nat) (cA_ring cA_buffer : ClassId) (sz : Nat) (A_ring : Nat → Int32) (A_buffer : Nat → Int32) (A_firstPlace : Int32) (A_forcedPlace : Int32) (A_endPlace : Int32) (A_wordsToFailure : Int32) (A_opened : Int32) (x1 : Int32) (x2 : Int32) (post : St_A → Prop) (px : String → St_A → Prop) (hw : wp_X0_set post px x1 x2 A_ring A_buffer A_firstPlace A_forcedPlace A_endPlace A_wordsToFailure A_opened) :
    vx_Met l yX0_set wsX0_set ({ frames := 7, cells := 2, slots := 12, locals := 116 } : Room) (pcX_A dC dI qA qA_ring qA_buffer cA_ring cA_buffer sz A_ring A_buffer A_firstPlace A_forcedPlace A_endPlace A_wordsToFailure A_opened [.ref qA, .int x1, .int x2]) (va_Qv post (at_A dC dI (va_A [(qA, .inr (0, [.ref qA_ring, .ref qA_buffer, .int A_firstPlace, .int A_forcedPlace, .int A_endPlace, .int A_wordsToFailure, .int A_opened])), (qA_ring, .inl (cA_ring, 65536, .inl A_ring)), (qA_buffer, .inl (cA_buffer, 200, .inl A_buffer))] sz) qA qA_ring qA_buffer cA_ring cA_buffer) (va_A [(qA, .inr (0, [.ref qA_ring, .ref qA_buffer, .int A_firstPlace, .int A_forcedPlace, .int A_endPlace, .int A_wordsToFailure, .int A_opened])), (qA_ring, .inl (cA_ring, 65536, .inl A_ring)), (qA_buffer, .inl (cA_buffer, 200, .inl A_buffer))] sz)) (vx_X (fun u => px u.1 u.2) (atx_A dC dI (va_A [(qA, .inr (0, [.ref qA_ring, .ref qA_buffer, .int A_firstPlace, .int A_forcedPlace, .int A_endPlace, .int A_wordsToFailure, .int A_opened])), (qA_ring, .inl (cA_ring, 65536, .inl A_ring)), (qA_buffer, .inl (cA_buffer, 200, .inl A_buffer))] sz) qA qA_ring qA_buffer cA_ring cA_buffer) (va_A [(qA, .inr (0, [.ref qA_ring, .ref qA_buffer, .int A_firstPlace, .int A_forcedPlace, .int A_endPlace, .int A_wordsToFailure, .int A_opened])), (qA_ring, .inl (cA_ring, 65536, .inl A_ring)), (qA_buffer, .inl (cA_buffer, 200, .inl A_buffer))] sz)) 2 12 (va_A [(qA, .inr (0, [.ref qA_ring, .ref qA_buffer, .int A_firstPlace, .int A_forcedPlace, .int A_endPlace, .int A_wordsToFailure, .int A_opened])), (qA_ring, .inl (cA_ring, 65536, .inl A_ring)), (qA_buffer, .inl (cA_buffer, 200, .inl A_buffer))] sz) := by
  refine vx_ofW (cc := cX0_set) (maxL := 3) (ret := none) (by decide) rfl ?_
  intro p e s m args below meth c s₁ B hml hEx hv
  obtain ⟨hav, hsz, hP, hK, hD0, hXW0⟩ := hv
  have hx := B.exec
  have hb := B.bytes
  have hr := B.returns
  have hts := atoms_spec (ws := wsX0_set) B.pre
  have hbg : ∀ w ∈ bigW, w.before args s = true := fun w h => hts w (List.mem_cons_of_mem _ h)
  have hown : s.vm.findClass RX0 = some m.cls := findClass_of_methodNamed B.named
  have hlocks := B.notSynchronized
  subst hsz
  have hD := hD0.self (sz := s.heap.size)
  generalize hAe : va_A [(qA, .inr (0, [.ref qA_ring, .ref qA_buffer, .int A_firstPlace, .int A_forcedPlace, .int A_endPlace, .int A_wordsToFailure, .int A_opened])), (qA_ring, .inl (cA_ring, 65536, .inl A_ring)), (qA_buffer, .inl (cA_buffer, 200, .inl A_buffer))] s.heap.size = A at hD hXW0 ⊢
  have hA : ∀ q : Nat, s.heap.size ≤ q → A q := fun q h => by rw [← hAe]; exact Or.inr h
  have hS : va_S A s.heap s.heap [] := va_S.rf
  have hP : va_P (dC, dI) vwCl [(qA, .inr (0, [.ref qA_ring, .ref qA_buffer, .int A_firstPlace, .int A_forcedPlace, .int A_endPlace, .int A_wordsToFailure, .int A_opened])), (qA_ring, .inl (cA_ring, 65536, .inl A_ring)), (qA_buffer, .inl (cA_buffer, 200, .inl A_buffer))] s.heap := hP
  generalize hQQ : vx_MQ below (va_Qv post (at_A dC dI A qA qA_ring qA_buffer cA_ring cA_buffer) A) (vx_X (fun u => px u.1 u.2) (atx_A dC dI A qA qA_ring qA_buffer cA_ring cA_buffer) A) args s 2 12 A = QQ
  have hl := lv_entry ([.ref qA, .int x1, .int x2]) (n := 3) (Nat.le_of_ble_eq_true rfl)
  rw [show entryFrame m args 3 = entryFrame m ([.ref qA, .int x1, .int x2] : List Value).toArray 3 by rw [hav], lg_entry_eq]
  generalize (lg_sl ([.ref qA, .int x1, .int x2]) ++ List.replicate (3 - (lg_sl ([.ref qA, .int x1, .int x2])).length) Slot.unset).toArray = ls at hl ⊢
  have hl : lv_has ls 3 [(0, .ref qA), (1, .int x1), (2, .int x2)] := hl
  unfold wp_X0_set at hw
  refine lv_aload_n hx hb dX0_set_0 rfl (lv_at hl 0 rfl) ?_
  have hFc := va_free (wc := [(qA, .inr (0, [.ref qA_ring, .ref qA_buffer, .int A_firstPlace, .int A_forcedPlace, .int A_endPlace, .int A_wordsToFailure, .int A_opened])), (qA_ring, .inl (cA_ring, 65536, .inl A_ring)), (qA_buffer, .inl (cA_buffer, 200, .inl A_buffer))]) hD hS hA [0, 1, 2] rfl
  refine vx_callv (vx_runV (As := []) (rest := []) ⟨hx, hb, hml, hown, hbg⟩ (met_X0_requireOpen l hl9 dC dI qA qA_ring qA_buffer cA_ring cA_buffer s.heap.size A_ring A_buffer A_firstPlace A_forcedPlace A_endPlace A_wordsToFailure A_opened  _ _ hw) (cwV 0 hbg g_RX0_34 rfl rfl rfl (by decide +kernel) ⟨Nat.le_of_ble_eq_true rfl, Nat.le_of_ble_eq_true rfl⟩) ⟨pcX_A_b _ _ _ _ _ _ _ _ _ _ _ _ _ _ _ _, va_recv hK hP (ci := 0) (q0 := 0) rfl rfl, fun U hU hW => ⟨rfl, by rw [hU], by rw [hU]; exact hP, va_K.moved hW.alike hK, hD.weaken (fun _ _ _ _ => trivial), XW.go hXW0 hS hFc hU hW⟩⟩ rfl rfl hl.1 rfl (lv_room (Nat.le_of_ble_eq_true rfl)) dX0_set_1 ⟨Nat.le_of_ble_eq_true rfl, Nat.le_of_ble_eq_true rfl⟩) hS (fun q _ h => hFc q h) hFc (fun q _ h => hFc q h) (fun E9 ce9 q9 u9 t9 H_1 locs ht hvm hpx hBX hz1 hk1 hS hce hcv hcl => ?_) (fun u_1 t_1 H_1 locs ht hvm hw hB hz1 hk1 hS => ?_)
  · obtain ⟨E8, A_ring_x1, A_buffer_x1, A_firstPlace_x1, A_forcedPlace_x1, A_endPlace_x1, A_wordsToFailure_x1, A_opened_x1⟩ := u9
    obtain ⟨rfl, hP1, hK1, hD1⟩ := hBX
    rw [ht] at hP1
    have hP : va_P (dC, dI) vwCl [(qA, .inr (0, [.ref qA_ring, .ref qA_buffer, .int A_firstPlace_x1, .int A_forcedPlace_x1, .int A_endPlace_x1, .int A_wordsToFailure_x1, .int A_opened_x1])), (qA_ring, .inl (cA_ring, 65536, .inl A_ring_x1)), (qA_buffer, .inl (cA_buffer, 200, .inl A_buffer_x1))] H_1 := hP1
    have hD : va_D A [(qA, .inr (0, [.ref qA_ring, .ref qA_buffer, .int A_firstPlace_x1, .int A_forcedPlace_x1, .int A_endPlace_x1, .int A_wordsToFailure_x1, .int A_opened_x1])), (qA_ring, .inl (cA_ring, 65536, .inl A_ring_x1)), (qA_buffer, .inl (cA_buffer, 200, .inl A_buffer_x1))] := hD1.weaken (fun _ _ _ h => hFc _ h)
    subst hQQ
    exact vx_out (fun x hx => (hEx x hx).elim) hlocks hce hcv hcl (fun t ht ha => ⟨(E9, (A_ring_x1, A_buffer_x1, A_firstPlace_x1, A_forcedPlace_x1, A_endPlace_x1, A_wordsToFailure_x1, A_opened_x1)), hpx, ⟨rfl, by rw [ht]; exact hP, va_K.moved ha hK, hD⟩, hS.F ht⟩) hS.2.2 (Nat.le_of_ble_eq_true rfl) (Nat.le_of_ble_eq_true rfl)
  · obtain ⟨A_ring_1, A_buffer_1, A_firstPlace_1, A_forcedPlace_1, A_endPlace_1, A_wordsToFailure_1, A_opened_1⟩ := u_1
    obtain ⟨hP1, hK1, hD1⟩ := hB
    rw [ht] at hP1
    try dsimp only at hw
    have hP : va_P (dC, dI) vwCl [(qA, .inr (0, [.ref qA_ring, .ref qA_buffer, .int A_firstPlace_1, .int A_forcedPlace_1, .int A_endPlace_1, .int A_wordsToFailure_1, .int A_opened_1])), (qA_ring, .inl (cA_ring, 65536, .inl A_ring_1)), (qA_buffer, .inl (cA_buffer, 200, .inl A_buffer_1))] H_1 := hP1
    have hD : va_D A [(qA, .inr (0, [.ref qA_ring, .ref qA_buffer, .int A_firstPlace_1, .int A_forcedPlace_1, .int A_endPlace_1, .int A_wordsToFailure_1, .int A_opened_1])), (qA_ring, .inl (cA_ring, 65536, .inl A_ring_1)), (qA_buffer, .inl (cA_buffer, 200, .inl A_buffer_1))] := hD1.weaken (fun _ _ _ h => hFc _ h)
    refine W.widen (k := 1) (n := 6) (Nat.le_of_ble_eq_true rfl) (Nat.le_of_ble_eq_true rfl) ?_
    refine lv_iload_n hx hb dX0_set_4 rfl (lv_at hl 1 rfl) ?_
    refine lv_if_lt (tgt := 17) hx hb dX0_set_5 (by decide) (fun c9 => ?_) (fun c9 => ?_)
    · have hw := hw.1 c9
      subst hQQ
      obtain ⟨sa, hsa⟩ := hXW0.2.2.1 (RX0, 39, "the buffer has words 0 .. 199") (by decide +kernel)
      exact vx_throwS (own := RX0) (cls := "java/lang/IndexOutOfBoundsException") (names := ["java/lang/RuntimeException", "java/lang/Exception"]) hx hb hl9 hown (by decide +kernel) (by decide +kernel) (hbg _ kw_81) (hbg _ kw_82) hsa (vx_hat (L := vx_atS RX0 41 "java/lang/IndexOutOfBoundsException" ["java/lang/RuntimeException", "java/lang/Exception"]) (B := [.castable "java/lang/IndexOutOfBoundsException" "java/lang/IndexOutOfBoundsException", .declares ⟨"java/lang/RuntimeException", "<init>", "(Ljava/lang/String;)V"⟩, .declares ⟨"java/lang/Exception", "<init>", "(Ljava/lang/String;)V"⟩, .declares ⟨"java/lang/Throwable", "<init>", "(Ljava/lang/String;)V"⟩]) (fun w hw => hbg w (xa_RX0_41 w hw)) (by decide +kernel) (vx_c (va_Nw.use rfl (hXW0.1 "java/lang/IndexOutOfBoundsException" (by decide))) (vx_c (va_Nw.use rfl (hXW0.2.1 "java/lang/RuntimeException" (by decide))) (vx_c (va_Nw.use rfl (hXW0.2.1 "java/lang/Exception" (by decide))) (vx_c (va_Nw.use rfl (hXW0.2.1 "java/lang/Throwable" (by decide))) (vx_n)))))) (by decide +kernel) hXW0.2.2.2.2.1 hXW0.2.2.2.2.2 hS (hl.1.trans hml.symm) dX0_set_17 dX0_set_20 dX0_set_21 dX0_set_23 dX0_set_26 (fun x hx => (hEx x hx).elim) (Nat.le_of_ble_eq_true rfl) (Nat.le_of_ble_eq_true rfl) (Nat.le_of_ble_eq_true rfl) (Nat.le_of_ble_eq_true rfl) hlocks (fun t ha hsz hk => ⟨("java/lang/IndexOutOfBoundsException", (A_ring_1, A_buffer_1, A_firstPlace_1, A_forcedPlace_1, A_endPlace_1, A_wordsToFailure_1, A_opened_1)), hw, ⟨rfl, hP.kept (fun k q hq => hk q.1 (hP k q hq).lt), va_K.moved ha hK, hD⟩, Nat.le_trans hS.1 hsz, fun q h1 h2 => (hk q (Nat.lt_of_lt_of_le h1 hS.1)).trans (hS.2.1 q h1 h2)⟩) hS.2.2 (Nat.le_of_ble_eq_true rfl) (Nat.le_of_ble_eq_true rfl)
    · have hw := hw.2 c9
      refine lv_iload_n hx hb dX0_set_8 rfl (lv_at hl 1 rfl) ?_
      refine lv_aload_n hx hb dX0_set_9 rfl (lv_at hl 0 rfl) ?_
      refine va_get (D := (dC, dI)) (ci := 0) (v := .ref qA_buffer) (C := RX0) (T := TX0) (N := 7) hx hb hbg in_X0 hown hK hP 0 rfl rfl 1 (by decide) (hbg _ kw_46) (fun _ h9 => h9) rfl dX0_set_10 ?_
      refine va_alen (v := (200 : Int32)) hx hb hK hP 2 1 rfl rfl rfl dX0_set_13 ?_
      refine lv_icmp_lt (tgt := 27) hx hb dX0_set_14 (by decide) (fun c9 => ?_) (fun c9 => ?_)
      · have hw := hw.1 c9
        refine lv_aload_n hx hb dX0_set_27 rfl (lv_at hl 0 rfl) ?_
        refine va_get (D := (dC, dI)) (ci := 0) (v := .ref qA_buffer) (C := RX0) (T := TX0) (N := 7) hx hb hbg in_X0 hown hK hP 0 rfl rfl 1 (by decide) (hbg _ kw_46) (fun _ h9 => h9) rfl dX0_set_28 ?_
        refine lv_iload_n hx hb dX0_set_31 rfl (lv_at hl 1 rfl) ?_
        refine lv_iload_n hx hb dX0_set_32 rfl (lv_at hl 2 rfl) ?_
        obtain ⟨h_2, hw⟩ := hw
        refine va_iast hx hb hK hP hD hS 2 1 rfl rfl h_2 dX0_set_33 (fun H_3 locs hP hD hS => ?_)
        have hP : va_P (dC, dI) vwCl [(qA, .inr (0, [.ref qA_ring, .ref qA_buffer, .int A_firstPlace_1, .int A_forcedPlace_1, .int A_endPlace_1, .int A_wordsToFailure_1, .int A_opened_1])), (qA_ring, .inl (cA_ring, 65536, .inl A_ring_1)), (qA_buffer, .inl (cA_buffer, 200, .inl (upd A_buffer_1 x1.toNatClampNeg x2)))] H_3 := hP
        have hD : va_D A [(qA, .inr (0, [.ref qA_ring, .ref qA_buffer, .int A_firstPlace_1, .int A_forcedPlace_1, .int A_endPlace_1, .int A_wordsToFailure_1, .int A_opened_1])), (qA_ring, .inl (cA_ring, 65536, .inl A_ring_1)), (qA_buffer, .inl (cA_buffer, 200, .inl (upd A_buffer_1 x1.toNatClampNeg x2)))] := hD
        subst hQQ
        refine W.widen (k := 2) (n := 12) (Nat.le_of_ble_eq_true rfl) (Nat.le_of_ble_eq_true rfl) ?_
        refine vx_ret ?_
        exact W.vret hx hb hr (fun t ht hW => ⟨⟨(A_ring_1, upd A_buffer_1 x1.toNatClampNeg x2, A_firstPlace_1, A_forcedPlace_1, A_endPlace_1, A_wordsToFailure_1, A_opened_1), rfl, hw, by rw [ht]; exact hP, va_K.moved hW.alike hK, hD⟩, hS.F ht⟩) hS.2.2 dX0_set_34
      · have hw := hw.2 c9
        subst hQQ
        obtain ⟨sa, hsa⟩ := hXW0.2.2.1 (RX0, 39, "the buffer has words 0 .. 199") (by decide +kernel)
        exact vx_throwS (own := RX0) (cls := "java/lang/IndexOutOfBoundsException") (names := ["java/lang/RuntimeException", "java/lang/Exception"]) hx hb hl9 hown (by decide +kernel) (by decide +kernel) (hbg _ kw_81) (hbg _ kw_82) hsa (vx_hat (L := vx_atS RX0 41 "java/lang/IndexOutOfBoundsException" ["java/lang/RuntimeException", "java/lang/Exception"]) (B := [.castable "java/lang/IndexOutOfBoundsException" "java/lang/IndexOutOfBoundsException", .declares ⟨"java/lang/RuntimeException", "<init>", "(Ljava/lang/String;)V"⟩, .declares ⟨"java/lang/Exception", "<init>", "(Ljava/lang/String;)V"⟩, .declares ⟨"java/lang/Throwable", "<init>", "(Ljava/lang/String;)V"⟩]) (fun w hw => hbg w (xa_RX0_41 w hw)) (by decide +kernel) (vx_c (va_Nw.use rfl (hXW0.1 "java/lang/IndexOutOfBoundsException" (by decide))) (vx_c (va_Nw.use rfl (hXW0.2.1 "java/lang/RuntimeException" (by decide))) (vx_c (va_Nw.use rfl (hXW0.2.1 "java/lang/Exception" (by decide))) (vx_c (va_Nw.use rfl (hXW0.2.1 "java/lang/Throwable" (by decide))) (vx_n)))))) (by decide +kernel) hXW0.2.2.2.2.1 hXW0.2.2.2.2.2 hS (hl.1.trans hml.symm) dX0_set_17 dX0_set_20 dX0_set_21 dX0_set_23 dX0_set_26 (fun x hx => (hEx x hx).elim) (Nat.le_of_ble_eq_true rfl) (Nat.le_of_ble_eq_true rfl) (Nat.le_of_ble_eq_true rfl) (Nat.le_of_ble_eq_true rfl) hlocks (fun t ha hsz hk => ⟨("java/lang/IndexOutOfBoundsException", (A_ring_1, A_buffer_1, A_firstPlace_1, A_forcedPlace_1, A_endPlace_1, A_wordsToFailure_1, A_opened_1)), hw, ⟨rfl, hP.kept (fun k q hq => hk q.1 (hP k q hq).lt), va_K.moved ha hK, hD⟩, Nat.le_trans hS.1 hsz, fun q h1 h2 => (hk q (Nat.lt_of_lt_of_le h1 hS.1)).trans (hS.2.1 q h1 h2)⟩) hS.2.2 (Nat.le_of_ble_eq_true rfl) (Nat.le_of_ble_eq_true rfl)
def wp_X0_fill (post : St_A → Prop) (px : String → St_A → Prop) (x1 : Int32) (x2 : Int32) (A_ring : Nat → Int32) (A_buffer : Nat → Int32) (A_firstPlace : Int32) (A_forcedPlace : Int32) (A_endPlace : Int32) (A_wordsToFailure : Int32) (A_opened : Int32) : Prop :=
  wp_X0_requireOpen (fun u_1 => match u_1 with | (A_ring_1, A_buffer_1, A_firstPlace_1, A_forcedPlace_1, A_endPlace_1, A_wordsToFailure_1, A_opened_1) => wp_X0_fillBuffer (fun u_2 => match u_2 with | (A_ring_2, A_buffer_2, A_firstPlace_2, A_forcedPlace_2, A_endPlace_2, A_wordsToFailure_2, A_opened_2) => post (A_ring_2, A_buffer_2, A_firstPlace_2, A_forcedPlace_2, A_endPlace_2, A_wordsToFailure_2, A_opened_2)) x1 x2 A_ring_1 A_buffer_1 A_firstPlace_1 A_forcedPlace_1 A_endPlace_1 A_wordsToFailure_1 A_opened_1) px A_ring A_buffer A_firstPlace A_forcedPlace A_endPlace A_wordsToFailure A_opened
set_option maxHeartbeats 4000000 in
set_option maxRecDepth 100000 in
theorem met_X0_fill (l : Launch) (hl9 : l.stackTraces = false) (dC : Nat → ClassId) (dI : Nat → Nat → Nat) (qA qA_ring qA_buffer : Nat) (cA_ring cA_buffer : ClassId) (sz : Nat) (A_ring : Nat → Int32) (A_buffer : Nat → Int32) (A_firstPlace : Int32) (A_forcedPlace : Int32) (A_endPlace : Int32) (A_wordsToFailure : Int32) (A_opened : Int32) (x1 : Int32) (x2 : Int32) (post : St_A → Prop) (px : String → St_A → Prop) (hw : wp_X0_fill post px x1 x2 A_ring A_buffer A_firstPlace A_forcedPlace A_endPlace A_wordsToFailure A_opened) :
    vx_Met l yX0_fill wsX0_fill ({ frames := 7, cells := 1, slots := 6, locals := 116 } : Room) (pcX_A dC dI qA qA_ring qA_buffer cA_ring cA_buffer sz A_ring A_buffer A_firstPlace A_forcedPlace A_endPlace A_wordsToFailure A_opened [.ref qA, .int x1, .int x2]) (va_Qv post (at_A dC dI (va_A [(qA, .inr (0, [.ref qA_ring, .ref qA_buffer, .int A_firstPlace, .int A_forcedPlace, .int A_endPlace, .int A_wordsToFailure, .int A_opened])), (qA_ring, .inl (cA_ring, 65536, .inl A_ring)), (qA_buffer, .inl (cA_buffer, 200, .inl A_buffer))] sz) qA qA_ring qA_buffer cA_ring cA_buffer) (va_A [(qA, .inr (0, [.ref qA_ring, .ref qA_buffer, .int A_firstPlace, .int A_forcedPlace, .int A_endPlace, .int A_wordsToFailure, .int A_opened])), (qA_ring, .inl (cA_ring, 65536, .inl A_ring)), (qA_buffer, .inl (cA_buffer, 200, .inl A_buffer))] sz)) (vx_X (fun u => px u.1 u.2) (atx_A dC dI (va_A [(qA, .inr (0, [.ref qA_ring, .ref qA_buffer, .int A_firstPlace, .int A_forcedPlace, .int A_endPlace, .int A_wordsToFailure, .int A_opened])), (qA_ring, .inl (cA_ring, 65536, .inl A_ring)), (qA_buffer, .inl (cA_buffer, 200, .inl A_buffer))] sz) qA qA_ring qA_buffer cA_ring cA_buffer) (va_A [(qA, .inr (0, [.ref qA_ring, .ref qA_buffer, .int A_firstPlace, .int A_forcedPlace, .int A_endPlace, .int A_wordsToFailure, .int A_opened])), (qA_ring, .inl (cA_ring, 65536, .inl A_ring)), (qA_buffer, .inl (cA_buffer, 200, .inl A_buffer))] sz)) 1 6 (va_A [(qA, .inr (0, [.ref qA_ring, .ref qA_buffer, .int A_firstPlace, .int A_forcedPlace, .int A_endPlace, .int A_wordsToFailure, .int A_opened])), (qA_ring, .inl (cA_ring, 65536, .inl A_ring)), (qA_buffer, .inl (cA_buffer, 200, .inl A_buffer))] sz) := by
  refine vx_ofW (cc := cX0_fill) (maxL := 3) (ret := none) (by decide) rfl ?_
  intro p e s m args below meth c s₁ B hml hEx hv
  obtain ⟨hav, hsz, hP, hK, hD0, hXW0⟩ := hv
  have hx := B.exec
  have hb := B.bytes
  have hr := B.returns
  have hts := atoms_spec (ws := wsX0_fill) B.pre
  have hbg : ∀ w ∈ bigW, w.before args s = true := fun w h => hts w (List.mem_cons_of_mem _ h)
  have hown : s.vm.findClass RX0 = some m.cls := findClass_of_methodNamed B.named
  have hlocks := B.notSynchronized
  subst hsz
  have hD := hD0.self (sz := s.heap.size)
  generalize hAe : va_A [(qA, .inr (0, [.ref qA_ring, .ref qA_buffer, .int A_firstPlace, .int A_forcedPlace, .int A_endPlace, .int A_wordsToFailure, .int A_opened])), (qA_ring, .inl (cA_ring, 65536, .inl A_ring)), (qA_buffer, .inl (cA_buffer, 200, .inl A_buffer))] s.heap.size = A at hD hXW0 ⊢
  have hA : ∀ q : Nat, s.heap.size ≤ q → A q := fun q h => by rw [← hAe]; exact Or.inr h
  have hS : va_S A s.heap s.heap [] := va_S.rf
  have hP : va_P (dC, dI) vwCl [(qA, .inr (0, [.ref qA_ring, .ref qA_buffer, .int A_firstPlace, .int A_forcedPlace, .int A_endPlace, .int A_wordsToFailure, .int A_opened])), (qA_ring, .inl (cA_ring, 65536, .inl A_ring)), (qA_buffer, .inl (cA_buffer, 200, .inl A_buffer))] s.heap := hP
  generalize hQQ : vx_MQ below (va_Qv post (at_A dC dI A qA qA_ring qA_buffer cA_ring cA_buffer) A) (vx_X (fun u => px u.1 u.2) (atx_A dC dI A qA qA_ring qA_buffer cA_ring cA_buffer) A) args s 1 6 A = QQ
  have hl := lv_entry ([.ref qA, .int x1, .int x2]) (n := 3) (Nat.le_of_ble_eq_true rfl)
  rw [show entryFrame m args 3 = entryFrame m ([.ref qA, .int x1, .int x2] : List Value).toArray 3 by rw [hav], lg_entry_eq]
  generalize (lg_sl ([.ref qA, .int x1, .int x2]) ++ List.replicate (3 - (lg_sl ([.ref qA, .int x1, .int x2])).length) Slot.unset).toArray = ls at hl ⊢
  have hl : lv_has ls 3 [(0, .ref qA), (1, .int x1), (2, .int x2)] := hl
  unfold wp_X0_fill at hw
  refine lv_aload_n hx hb dX0_fill_0 rfl (lv_at hl 0 rfl) ?_
  have hFc := va_free (wc := [(qA, .inr (0, [.ref qA_ring, .ref qA_buffer, .int A_firstPlace, .int A_forcedPlace, .int A_endPlace, .int A_wordsToFailure, .int A_opened])), (qA_ring, .inl (cA_ring, 65536, .inl A_ring)), (qA_buffer, .inl (cA_buffer, 200, .inl A_buffer))]) hD hS hA [0, 1, 2] rfl
  refine vx_callv (vx_runV (As := []) (rest := []) ⟨hx, hb, hml, hown, hbg⟩ (met_X0_requireOpen l hl9 dC dI qA qA_ring qA_buffer cA_ring cA_buffer s.heap.size A_ring A_buffer A_firstPlace A_forcedPlace A_endPlace A_wordsToFailure A_opened  _ _ hw) (cwV 0 hbg g_RX0_34 rfl rfl rfl (by decide +kernel) ⟨Nat.le_of_ble_eq_true rfl, Nat.le_of_ble_eq_true rfl⟩) ⟨pcX_A_b _ _ _ _ _ _ _ _ _ _ _ _ _ _ _ _, va_recv hK hP (ci := 0) (q0 := 0) rfl rfl, fun U hU hW => ⟨rfl, by rw [hU], by rw [hU]; exact hP, va_K.moved hW.alike hK, hD.weaken (fun _ _ _ _ => trivial), XW.go hXW0 hS hFc hU hW⟩⟩ rfl rfl hl.1 rfl (lv_room (Nat.le_of_ble_eq_true rfl)) dX0_fill_1 ⟨Nat.le_of_ble_eq_true rfl, Nat.le_of_ble_eq_true rfl⟩) hS (fun q _ h => hFc q h) hFc (fun q _ h => hFc q h) (fun E9 ce9 q9 u9 t9 H_1 locs ht hvm hpx hBX hz1 hk1 hS hce hcv hcl => ?_) (fun u_1 t_1 H_1 locs ht hvm hw hB hz1 hk1 hS => ?_)
  · obtain ⟨E8, A_ring_x1, A_buffer_x1, A_firstPlace_x1, A_forcedPlace_x1, A_endPlace_x1, A_wordsToFailure_x1, A_opened_x1⟩ := u9
    obtain ⟨rfl, hP1, hK1, hD1⟩ := hBX
    rw [ht] at hP1
    have hP : va_P (dC, dI) vwCl [(qA, .inr (0, [.ref qA_ring, .ref qA_buffer, .int A_firstPlace_x1, .int A_forcedPlace_x1, .int A_endPlace_x1, .int A_wordsToFailure_x1, .int A_opened_x1])), (qA_ring, .inl (cA_ring, 65536, .inl A_ring_x1)), (qA_buffer, .inl (cA_buffer, 200, .inl A_buffer_x1))] H_1 := hP1
    have hD : va_D A [(qA, .inr (0, [.ref qA_ring, .ref qA_buffer, .int A_firstPlace_x1, .int A_forcedPlace_x1, .int A_endPlace_x1, .int A_wordsToFailure_x1, .int A_opened_x1])), (qA_ring, .inl (cA_ring, 65536, .inl A_ring_x1)), (qA_buffer, .inl (cA_buffer, 200, .inl A_buffer_x1))] := hD1.weaken (fun _ _ _ h => hFc _ h)
    subst hQQ
    exact vx_out (fun x hx => (hEx x hx).elim) hlocks hce hcv hcl (fun t ht ha => ⟨(E9, (A_ring_x1, A_buffer_x1, A_firstPlace_x1, A_forcedPlace_x1, A_endPlace_x1, A_wordsToFailure_x1, A_opened_x1)), hpx, ⟨rfl, by rw [ht]; exact hP, va_K.moved ha hK, hD⟩, hS.F ht⟩) hS.2.2 (Nat.le_of_ble_eq_true rfl) (Nat.le_of_ble_eq_true rfl)
  · obtain ⟨A_ring_1, A_buffer_1, A_firstPlace_1, A_forcedPlace_1, A_endPlace_1, A_wordsToFailure_1, A_opened_1⟩ := u_1
    obtain ⟨hP1, hK1, hD1⟩ := hB
    rw [ht] at hP1
    try dsimp only at hw
    have hP : va_P (dC, dI) vwCl [(qA, .inr (0, [.ref qA_ring, .ref qA_buffer, .int A_firstPlace_1, .int A_forcedPlace_1, .int A_endPlace_1, .int A_wordsToFailure_1, .int A_opened_1])), (qA_ring, .inl (cA_ring, 65536, .inl A_ring_1)), (qA_buffer, .inl (cA_buffer, 200, .inl A_buffer_1))] H_1 := hP1
    have hD : va_D A [(qA, .inr (0, [.ref qA_ring, .ref qA_buffer, .int A_firstPlace_1, .int A_forcedPlace_1, .int A_endPlace_1, .int A_wordsToFailure_1, .int A_opened_1])), (qA_ring, .inl (cA_ring, 65536, .inl A_ring_1)), (qA_buffer, .inl (cA_buffer, 200, .inl A_buffer_1))] := hD1.weaken (fun _ _ _ h => hFc _ h)
    refine W.widen (k := 1) (n := 6) (Nat.le_of_ble_eq_true rfl) (Nat.le_of_ble_eq_true rfl) ?_
    refine lv_aload_n hx hb dX0_fill_4 rfl (lv_at hl 0 rfl) ?_
    refine lv_iload_n hx hb dX0_fill_5 rfl (lv_at hl 1 rfl) ?_
    refine lv_iload_n hx hb dX0_fill_6 rfl (lv_at hl 2 rfl) ?_
    have hFc := va_free (wc := [(qA, .inr (0, [.ref qA_ring, .ref qA_buffer, .int A_firstPlace_1, .int A_forcedPlace_1, .int A_endPlace_1, .int A_wordsToFailure_1, .int A_opened_1])), (qA_ring, .inl (cA_ring, 65536, .inl A_ring_1)), (qA_buffer, .inl (cA_buffer, 200, .inl A_buffer_1))]) hD hS hA [0, 1, 2] rfl
    refine va_callv (va_runV (As := [.int x1, .int x2]) (rest := []) ⟨hx, hb, hml, hown, hbg⟩ (met_X0_fillBuffer l dC dI qA qA_ring qA_buffer cA_ring cA_buffer H_1.size A_ring_1 A_buffer_1 A_firstPlace_1 A_forcedPlace_1 A_endPlace_1 A_wordsToFailure_1 A_opened_1 x1 x2 _ hw) (cwV 2 hbg g_RX0_44 rfl rfl rfl (by decide +kernel) ⟨Nat.le_of_ble_eq_true rfl, Nat.le_of_ble_eq_true rfl⟩) ⟨pcW_A_b _ _ _ _ _ _ _ _ _ _ _ _ _ _ _ _, va_recv hK hP (ci := 0) (q0 := 0) rfl rfl, fun U hU hW => ⟨rfl, by rw [hU], by rw [hU]; exact hP, va_K.moved hW.alike hK, hD.weaken (fun _ _ _ _ => trivial)⟩⟩ rfl rfl hl.1 rfl (lv_room (Nat.le_of_ble_eq_true rfl)) dX0_fill_7 ⟨Nat.le_of_ble_eq_true rfl, Nat.le_of_ble_eq_true rfl⟩) hS (fun q _ h => hFc q h) hFc (fun u_2 t_2 H_2 locs ht hvm hw hB hz1 hk1 hS => ?_)
    obtain ⟨A_ring_2, A_buffer_2, A_firstPlace_2, A_forcedPlace_2, A_endPlace_2, A_wordsToFailure_2, A_opened_2⟩ := u_2
    obtain ⟨hP1, hK1, hD1⟩ := hB
    rw [ht] at hP1
    try dsimp only at hw
    have hP : va_P (dC, dI) vwCl [(qA, .inr (0, [.ref qA_ring, .ref qA_buffer, .int A_firstPlace_2, .int A_forcedPlace_2, .int A_endPlace_2, .int A_wordsToFailure_2, .int A_opened_2])), (qA_ring, .inl (cA_ring, 65536, .inl A_ring_2)), (qA_buffer, .inl (cA_buffer, 200, .inl A_buffer_2))] H_2 := hP1
    have hD : va_D A [(qA, .inr (0, [.ref qA_ring, .ref qA_buffer, .int A_firstPlace_2, .int A_forcedPlace_2, .int A_endPlace_2, .int A_wordsToFailure_2, .int A_opened_2])), (qA_ring, .inl (cA_ring, 65536, .inl A_ring_2)), (qA_buffer, .inl (cA_buffer, 200, .inl A_buffer_2))] := hD1.weaken (fun _ _ _ h => hFc _ h)
    subst hQQ
    refine W.widen (k := 1) (n := 6) (Nat.le_of_ble_eq_true rfl) (Nat.le_of_ble_eq_true rfl) ?_
    refine vx_ret ?_
    exact W.vret hx hb hr (fun t ht hW => ⟨⟨(A_ring_2, A_buffer_2, A_firstPlace_2, A_forcedPlace_2, A_endPlace_2, A_wordsToFailure_2, A_opened_2), rfl, hw, by rw [ht]; exact hP, va_K.moved hW.alike hK, hD⟩, hS.F ht⟩) hS.2.2 dX0_fill_10
def wp_X0_append (post : Int32 → St_A → Prop) (px : String → St_A → Prop) (x1 : Int32) (x2 : Int32) (x3 : Int32) (x4 : Int32) (A_ring : Nat → Int32) (A_buffer : Nat → Int32) (A_firstPlace : Int32) (A_forcedPlace : Int32) (A_endPlace : Int32) (A_wordsToFailure : Int32) (A_opened : Int32) : Prop :=
  wp_X0_requireOpen (fun u_1 => match u_1 with | (A_ring_1, A_buffer_1, A_firstPlace_1, A_forcedPlace_1, A_endPlace_1, A_wordsToFailure_1, A_opened_1) => wp_X0_requireOwner (fun u_2 => match u_2 with | (A_ring_2, A_buffer_2, A_firstPlace_2, A_forcedPlace_2, A_endPlace_2, A_wordsToFailure_2, A_opened_2) => ((x1 < (0 : Int32) → px "java/lang/IllegalArgumentException" (A_ring_2, A_buffer_2, A_firstPlace_2, A_forcedPlace_2, A_endPlace_2, A_wordsToFailure_2, A_opened_2)) ∧ (¬ x1 < (0 : Int32) → ((x1 < (16 : Int32) → ((x4 < (0 : Int32) → px "java/lang/IllegalArgumentException" (A_ring_2, A_buffer_2, A_firstPlace_2, A_forcedPlace_2, A_endPlace_2, A_wordsToFailure_2, A_opened_2)) ∧ (¬ x4 < (0 : Int32) → ((x4 ≤ (200 : Int32) → ((x3 < (-1 : Int32) → px "java/lang/IllegalArgumentException" (A_ring_2, A_buffer_2, A_firstPlace_2, A_forcedPlace_2, A_endPlace_2, A_wordsToFailure_2, A_opened_2)) ∧ (¬ x3 < (-1 : Int32) → ((x3 < A_endPlace_2 → (((x4 + (5 : Int32)) ≤ ((65536 : Int32) - (A_endPlace_2 - A_firstPlace_2)) → wp_X0_lastRecordOf (fun r_3 => wp_X0_addWord (fun u_4 => match u_4 with | (A_ring_4, A_buffer_4, A_firstPlace_4, A_forcedPlace_4, A_endPlace_4, A_wordsToFailure_4, A_opened_4) => wp_X0_addWord (fun u_5 => match u_5 with | (A_ring_5, A_buffer_5, A_firstPlace_5, A_forcedPlace_5, A_endPlace_5, A_wordsToFailure_5, A_opened_5) => wp_X0_addWord (fun u_6 => match u_6 with | (A_ring_6, A_buffer_6, A_firstPlace_6, A_forcedPlace_6, A_endPlace_6, A_wordsToFailure_6, A_opened_6) => wp_X0_addWord (fun u_7 => match u_7 with | (A_ring_7, A_buffer_7, A_firstPlace_7, A_forcedPlace_7, A_endPlace_7, A_wordsToFailure_7, A_opened_7) => wp_X0_addContent (fun u_8 => match u_8 with | (A_ring_8, A_buffer_8, A_firstPlace_8, A_forcedPlace_8, A_endPlace_8, A_wordsToFailure_8, A_opened_8) => wp_X0_addWord (fun u_9 => match u_9 with | (A_ring_9, A_buffer_9, A_firstPlace_9, A_forcedPlace_9, A_endPlace_9, A_wordsToFailure_9, A_opened_9) => post A_endPlace_2 (A_ring_9, A_buffer_9, A_firstPlace_9, A_forcedPlace_9, A_endPlace_9, A_wordsToFailure_9, A_opened_9)) (x4 + (5 : Int32)) A_ring_8 A_buffer_8 A_firstPlace_8 A_forcedPlace_8 A_endPlace_8 A_wordsToFailure_8 A_opened_8) x4 A_ring_7 A_buffer_7 A_firstPlace_7 A_forcedPlace_7 A_endPlace_7 A_wordsToFailure_7 A_opened_7) x3 A_ring_6 A_buffer_6 A_firstPlace_6 A_forcedPlace_6 A_endPlace_6 A_wordsToFailure_6 A_opened_6) r_3 A_ring_5 A_buffer_5 A_firstPlace_5 A_forcedPlace_5 A_endPlace_5 A_wordsToFailure_5 A_opened_5) (x1 + ((16 : Int32) * x2)) A_ring_4 A_buffer_4 A_firstPlace_4 A_forcedPlace_4 A_endPlace_4 A_wordsToFailure_4 A_opened_4) (x4 + (5 : Int32)) A_ring_2 A_buffer_2 A_firstPlace_2 A_forcedPlace_2 A_endPlace_2 A_wordsToFailure_2 A_opened_2) x2 A_ring_2 A_buffer_2 A_firstPlace_2 A_forcedPlace_2 A_endPlace_2 A_wordsToFailure_2 A_opened_2) ∧ (¬ (x4 + (5 : Int32)) ≤ ((65536 : Int32) - (A_endPlace_2 - A_firstPlace_2)) → post (-1 : Int32) (A_ring_2, A_buffer_2, A_firstPlace_2, A_forcedPlace_2, A_endPlace_2, A_wordsToFailure_2, A_opened_2)))) ∧ (¬ x3 < A_endPlace_2 → px "java/lang/IllegalArgumentException" (A_ring_2, A_buffer_2, A_firstPlace_2, A_forcedPlace_2, A_endPlace_2, A_wordsToFailure_2, A_opened_2)))))) ∧ (¬ x4 ≤ (200 : Int32) → px "java/lang/IllegalArgumentException" (A_ring_2, A_buffer_2, A_firstPlace_2, A_forcedPlace_2, A_endPlace_2, A_wordsToFailure_2, A_opened_2)))))) ∧ (¬ x1 < (16 : Int32) → px "java/lang/IllegalArgumentException" (A_ring_2, A_buffer_2, A_firstPlace_2, A_forcedPlace_2, A_endPlace_2, A_wordsToFailure_2, A_opened_2)))))) px x2 A_ring_1 A_buffer_1 A_firstPlace_1 A_forcedPlace_1 A_endPlace_1 A_wordsToFailure_1 A_opened_1) px A_ring A_buffer A_firstPlace A_forcedPlace A_endPlace A_wordsToFailure A_opened
set_option maxHeartbeats 4000000 in
set_option maxRecDepth 100000 in
theorem met_X0_append (l : Launch) (hl9 : l.stackTraces = false) (dC : Nat → ClassId) (dI : Nat → Nat → Nat) (qA qA_ring qA_buffer : Nat) (cA_ring cA_buffer : ClassId) (sz : Nat) (A_ring : Nat → Int32) (A_buffer : Nat → Int32) (A_firstPlace : Int32) (A_forcedPlace : Int32) (A_endPlace : Int32) (A_wordsToFailure : Int32) (A_opened : Int32) (x1 : Int32) (x2 : Int32) (x3 : Int32) (x4 : Int32) (post : Int32 → St_A → Prop) (px : String → St_A → Prop) (hw : wp_X0_append post px x1 x2 x3 x4 A_ring A_buffer A_firstPlace A_forcedPlace A_endPlace A_wordsToFailure A_opened) :
    vx_Met l yX0_append wsX0_append ({ frames := 7, cells := 3, slots := 18, locals := 117 } : Room) (pcX_A dC dI qA qA_ring qA_buffer cA_ring cA_buffer sz A_ring A_buffer A_firstPlace A_forcedPlace A_endPlace A_wordsToFailure A_opened [.ref qA, .int x1, .int x2, .int x3, .int x4]) (va_Qi post (at_A dC dI (va_A [(qA, .inr (0, [.ref qA_ring, .ref qA_buffer, .int A_firstPlace, .int A_forcedPlace, .int A_endPlace, .int A_wordsToFailure, .int A_opened])), (qA_ring, .inl (cA_ring, 65536, .inl A_ring)), (qA_buffer, .inl (cA_buffer, 200, .inl A_buffer))] sz) qA qA_ring qA_buffer cA_ring cA_buffer) (va_A [(qA, .inr (0, [.ref qA_ring, .ref qA_buffer, .int A_firstPlace, .int A_forcedPlace, .int A_endPlace, .int A_wordsToFailure, .int A_opened])), (qA_ring, .inl (cA_ring, 65536, .inl A_ring)), (qA_buffer, .inl (cA_buffer, 200, .inl A_buffer))] sz)) (vx_X (fun u => px u.1 u.2) (atx_A dC dI (va_A [(qA, .inr (0, [.ref qA_ring, .ref qA_buffer, .int A_firstPlace, .int A_forcedPlace, .int A_endPlace, .int A_wordsToFailure, .int A_opened])), (qA_ring, .inl (cA_ring, 65536, .inl A_ring)), (qA_buffer, .inl (cA_buffer, 200, .inl A_buffer))] sz) qA qA_ring qA_buffer cA_ring cA_buffer) (va_A [(qA, .inr (0, [.ref qA_ring, .ref qA_buffer, .int A_firstPlace, .int A_forcedPlace, .int A_endPlace, .int A_wordsToFailure, .int A_opened])), (qA_ring, .inl (cA_ring, 65536, .inl A_ring)), (qA_buffer, .inl (cA_buffer, 200, .inl A_buffer))] sz)) 3 18 (va_A [(qA, .inr (0, [.ref qA_ring, .ref qA_buffer, .int A_firstPlace, .int A_forcedPlace, .int A_endPlace, .int A_wordsToFailure, .int A_opened])), (qA_ring, .inl (cA_ring, 65536, .inl A_ring)), (qA_buffer, .inl (cA_buffer, 200, .inl A_buffer))] sz) := by
  refine vx_ofW (cc := cX0_append) (maxL := 8) (ret := (some .int)) (by decide) rfl ?_
  intro p e s m args below meth c s₁ B hml hEx hv
  obtain ⟨hav, hsz, hP, hK, hD0, hXW0⟩ := hv
  have hx := B.exec
  have hb := B.bytes
  have hr := B.returns
  have hts := atoms_spec (ws := wsX0_append) B.pre
  have hbg : ∀ w ∈ bigW, w.before args s = true := fun w h => hts w (List.mem_cons_of_mem _ h)
  have hown : s.vm.findClass RX0 = some m.cls := findClass_of_methodNamed B.named
  have hlocks := B.notSynchronized
  subst hsz
  have hD := hD0.self (sz := s.heap.size)
  generalize hAe : va_A [(qA, .inr (0, [.ref qA_ring, .ref qA_buffer, .int A_firstPlace, .int A_forcedPlace, .int A_endPlace, .int A_wordsToFailure, .int A_opened])), (qA_ring, .inl (cA_ring, 65536, .inl A_ring)), (qA_buffer, .inl (cA_buffer, 200, .inl A_buffer))] s.heap.size = A at hD hXW0 ⊢
  have hA : ∀ q : Nat, s.heap.size ≤ q → A q := fun q h => by rw [← hAe]; exact Or.inr h
  have hS : va_S A s.heap s.heap [] := va_S.rf
  have hP : va_P (dC, dI) vwCl [(qA, .inr (0, [.ref qA_ring, .ref qA_buffer, .int A_firstPlace, .int A_forcedPlace, .int A_endPlace, .int A_wordsToFailure, .int A_opened])), (qA_ring, .inl (cA_ring, 65536, .inl A_ring)), (qA_buffer, .inl (cA_buffer, 200, .inl A_buffer))] s.heap := hP
  generalize hQQ : vx_MQ below (va_Qi post (at_A dC dI A qA qA_ring qA_buffer cA_ring cA_buffer) A) (vx_X (fun u => px u.1 u.2) (atx_A dC dI A qA qA_ring qA_buffer cA_ring cA_buffer) A) args s 3 18 A = QQ
  have hl := lv_entry ([.ref qA, .int x1, .int x2, .int x3, .int x4]) (n := 8) (Nat.le_of_ble_eq_true rfl)
  rw [show entryFrame m args 8 = entryFrame m ([.ref qA, .int x1, .int x2, .int x3, .int x4] : List Value).toArray 8 by rw [hav], lg_entry_eq]
  generalize (lg_sl ([.ref qA, .int x1, .int x2, .int x3, .int x4]) ++ List.replicate (8 - (lg_sl ([.ref qA, .int x1, .int x2, .int x3, .int x4])).length) Slot.unset).toArray = ls at hl ⊢
  have hl : lv_has ls 8 [(0, .ref qA), (1, .int x1), (2, .int x2), (3, .int x3), (4, .int x4)] := hl
  unfold wp_X0_append at hw
  refine lv_aload_n hx hb dX0_append_0 rfl (lv_at hl 0 rfl) ?_
  have hFc := va_free (wc := [(qA, .inr (0, [.ref qA_ring, .ref qA_buffer, .int A_firstPlace, .int A_forcedPlace, .int A_endPlace, .int A_wordsToFailure, .int A_opened])), (qA_ring, .inl (cA_ring, 65536, .inl A_ring)), (qA_buffer, .inl (cA_buffer, 200, .inl A_buffer))]) hD hS hA [0, 1, 2] rfl
  refine vx_callv (vx_runV (As := []) (rest := []) ⟨hx, hb, hml, hown, hbg⟩ (met_X0_requireOpen l hl9 dC dI qA qA_ring qA_buffer cA_ring cA_buffer s.heap.size A_ring A_buffer A_firstPlace A_forcedPlace A_endPlace A_wordsToFailure A_opened  _ _ hw) (cwV 0 hbg g_RX0_34 rfl rfl rfl (by decide +kernel) ⟨Nat.le_of_ble_eq_true rfl, Nat.le_of_ble_eq_true rfl⟩) ⟨pcX_A_b _ _ _ _ _ _ _ _ _ _ _ _ _ _ _ _, va_recv hK hP (ci := 0) (q0 := 0) rfl rfl, fun U hU hW => ⟨rfl, by rw [hU], by rw [hU]; exact hP, va_K.moved hW.alike hK, hD.weaken (fun _ _ _ _ => trivial), XW.go hXW0 hS hFc hU hW⟩⟩ rfl rfl hl.1 rfl (lv_room (Nat.le_of_ble_eq_true rfl)) dX0_append_1 ⟨Nat.le_of_ble_eq_true rfl, Nat.le_of_ble_eq_true rfl⟩) hS (fun q _ h => hFc q h) hFc (fun q _ h => hFc q h) (fun E9 ce9 q9 u9 t9 H_1 locs ht hvm hpx hBX hz1 hk1 hS hce hcv hcl => ?_) (fun u_1 t_1 H_1 locs ht hvm hw hB hz1 hk1 hS => ?_)
  · obtain ⟨E8, A_ring_x1, A_buffer_x1, A_firstPlace_x1, A_forcedPlace_x1, A_endPlace_x1, A_wordsToFailure_x1, A_opened_x1⟩ := u9
    obtain ⟨rfl, hP1, hK1, hD1⟩ := hBX
    rw [ht] at hP1
    have hP : va_P (dC, dI) vwCl [(qA, .inr (0, [.ref qA_ring, .ref qA_buffer, .int A_firstPlace_x1, .int A_forcedPlace_x1, .int A_endPlace_x1, .int A_wordsToFailure_x1, .int A_opened_x1])), (qA_ring, .inl (cA_ring, 65536, .inl A_ring_x1)), (qA_buffer, .inl (cA_buffer, 200, .inl A_buffer_x1))] H_1 := hP1
    have hD : va_D A [(qA, .inr (0, [.ref qA_ring, .ref qA_buffer, .int A_firstPlace_x1, .int A_forcedPlace_x1, .int A_endPlace_x1, .int A_wordsToFailure_x1, .int A_opened_x1])), (qA_ring, .inl (cA_ring, 65536, .inl A_ring_x1)), (qA_buffer, .inl (cA_buffer, 200, .inl A_buffer_x1))] := hD1.weaken (fun _ _ _ h => hFc _ h)
    subst hQQ
    exact vx_out (fun x hx => (hEx x hx).elim) hlocks hce hcv hcl (fun t ht ha => ⟨(E9, (A_ring_x1, A_buffer_x1, A_firstPlace_x1, A_forcedPlace_x1, A_endPlace_x1, A_wordsToFailure_x1, A_opened_x1)), hpx, ⟨rfl, by rw [ht]; exact hP, va_K.moved ha hK, hD⟩, hS.F ht⟩) hS.2.2 (Nat.le_of_ble_eq_true rfl) (Nat.le_of_ble_eq_true rfl)
  · obtain ⟨A_ring_1, A_buffer_1, A_firstPlace_1, A_forcedPlace_1, A_endPlace_1, A_wordsToFailure_1, A_opened_1⟩ := u_1
    obtain ⟨hP1, hK1, hD1⟩ := hB
    rw [ht] at hP1
    try dsimp only at hw
    have hP : va_P (dC, dI) vwCl [(qA, .inr (0, [.ref qA_ring, .ref qA_buffer, .int A_firstPlace_1, .int A_forcedPlace_1, .int A_endPlace_1, .int A_wordsToFailure_1, .int A_opened_1])), (qA_ring, .inl (cA_ring, 65536, .inl A_ring_1)), (qA_buffer, .inl (cA_buffer, 200, .inl A_buffer_1))] H_1 := hP1
    have hD : va_D A [(qA, .inr (0, [.ref qA_ring, .ref qA_buffer, .int A_firstPlace_1, .int A_forcedPlace_1, .int A_endPlace_1, .int A_wordsToFailure_1, .int A_opened_1])), (qA_ring, .inl (cA_ring, 65536, .inl A_ring_1)), (qA_buffer, .inl (cA_buffer, 200, .inl A_buffer_1))] := hD1.weaken (fun _ _ _ h => hFc _ h)
    refine W.widen (k := 1) (n := 6) (Nat.le_of_ble_eq_true rfl) (Nat.le_of_ble_eq_true rfl) ?_
    refine lv_aload_n hx hb dX0_append_4 rfl (lv_at hl 0 rfl) ?_
    refine lv_iload_n hx hb dX0_append_5 rfl (lv_at hl 2 rfl) ?_
    have hFc := va_free (wc := [(qA, .inr (0, [.ref qA_ring, .ref qA_buffer, .int A_firstPlace_1, .int A_forcedPlace_1, .int A_endPlace_1, .int A_wordsToFailure_1, .int A_opened_1])), (qA_ring, .inl (cA_ring, 65536, .inl A_ring_1)), (qA_buffer, .inl (cA_buffer, 200, .inl A_buffer_1))]) hD hS hA [0, 1, 2] rfl
    refine vx_callv (vx_runV (As := [.int x2]) (rest := []) ⟨hx, hb, hml, hown, hbg⟩ (met_X0_requireOwner l hl9 dC dI qA qA_ring qA_buffer cA_ring cA_buffer H_1.size A_ring_1 A_buffer_1 A_firstPlace_1 A_forcedPlace_1 A_endPlace_1 A_wordsToFailure_1 A_opened_1 x2 _ _ hw) (cwV 1 hbg g_RX0_48 rfl rfl rfl (by decide +kernel) ⟨Nat.le_of_ble_eq_true rfl, Nat.le_of_ble_eq_true rfl⟩) ⟨pcX_A_b _ _ _ _ _ _ _ _ _ _ _ _ _ _ _ _, va_recv hK hP (ci := 0) (q0 := 0) rfl rfl, fun U hU hW => ⟨rfl, by rw [hU], by rw [hU]; exact hP, va_K.moved hW.alike hK, hD.weaken (fun _ _ _ _ => trivial), XW.go hXW0 hS hFc hU hW⟩⟩ rfl rfl hl.1 rfl (lv_room (Nat.le_of_ble_eq_true rfl)) dX0_append_6 ⟨Nat.le_of_ble_eq_true rfl, Nat.le_of_ble_eq_true rfl⟩) hS (fun q _ h => hFc q h) hFc (fun q _ h => hFc q h) (fun E9 ce9 q9 u9 t9 H_2 locs ht hvm hpx hBX hz1 hk1 hS hce hcv hcl => ?_) (fun u_2 t_2 H_2 locs ht hvm hw hB hz1 hk1 hS => ?_)
    · obtain ⟨E8, A_ring_x2, A_buffer_x2, A_firstPlace_x2, A_forcedPlace_x2, A_endPlace_x2, A_wordsToFailure_x2, A_opened_x2⟩ := u9
      obtain ⟨rfl, hP1, hK1, hD1⟩ := hBX
      rw [ht] at hP1
      have hP : va_P (dC, dI) vwCl [(qA, .inr (0, [.ref qA_ring, .ref qA_buffer, .int A_firstPlace_x2, .int A_forcedPlace_x2, .int A_endPlace_x2, .int A_wordsToFailure_x2, .int A_opened_x2])), (qA_ring, .inl (cA_ring, 65536, .inl A_ring_x2)), (qA_buffer, .inl (cA_buffer, 200, .inl A_buffer_x2))] H_2 := hP1
      have hD : va_D A [(qA, .inr (0, [.ref qA_ring, .ref qA_buffer, .int A_firstPlace_x2, .int A_forcedPlace_x2, .int A_endPlace_x2, .int A_wordsToFailure_x2, .int A_opened_x2])), (qA_ring, .inl (cA_ring, 65536, .inl A_ring_x2)), (qA_buffer, .inl (cA_buffer, 200, .inl A_buffer_x2))] := hD1.weaken (fun _ _ _ h => hFc _ h)
      subst hQQ
      exact vx_out (fun x hx => (hEx x hx).elim) hlocks hce hcv hcl (fun t ht ha => ⟨(E9, (A_ring_x2, A_buffer_x2, A_firstPlace_x2, A_forcedPlace_x2, A_endPlace_x2, A_wordsToFailure_x2, A_opened_x2)), hpx, ⟨rfl, by rw [ht]; exact hP, va_K.moved ha hK, hD⟩, hS.F ht⟩) hS.2.2 (Nat.le_of_ble_eq_true rfl) (Nat.le_of_ble_eq_true rfl)
    · obtain ⟨A_ring_2, A_buffer_2, A_firstPlace_2, A_forcedPlace_2, A_endPlace_2, A_wordsToFailure_2, A_opened_2⟩ := u_2
      obtain ⟨hP1, hK1, hD1⟩ := hB
      rw [ht] at hP1
      try dsimp only at hw
      have hP : va_P (dC, dI) vwCl [(qA, .inr (0, [.ref qA_ring, .ref qA_buffer, .int A_firstPlace_2, .int A_forcedPlace_2, .int A_endPlace_2, .int A_wordsToFailure_2, .int A_opened_2])), (qA_ring, .inl (cA_ring, 65536, .inl A_ring_2)), (qA_buffer, .inl (cA_buffer, 200, .inl A_buffer_2))] H_2 := hP1
      have hD : va_D A [(qA, .inr (0, [.ref qA_ring, .ref qA_buffer, .int A_firstPlace_2, .int A_forcedPlace_2, .int A_endPlace_2, .int A_wordsToFailure_2, .int A_opened_2])), (qA_ring, .inl (cA_ring, 65536, .inl A_ring_2)), (qA_buffer, .inl (cA_buffer, 200, .inl A_buffer_2))] := hD1.weaken (fun _ _ _ h => hFc _ h)
      refine W.widen (k := 2) (n := 12) (Nat.le_of_ble_eq_true rfl) (Nat.le_of_ble_eq_true rfl) ?_
      refine lv_iload_n hx hb dX0_append_9 rfl (lv_at hl 1 rfl) ?_
      refine lv_if_lt (tgt := 19) hx hb dX0_append_10 (by decide) (fun c9 => ?_) (fun c9 => ?_)
      · have hw := hw.1 c9
        subst hQQ
        obtain ⟨sa, hsa⟩ := hXW0.2.2.1 (RX0, 54, "kinds are 0 .. 15") (by decide +kernel)
        exact vx_throwS (own := RX0) (cls := "java/lang/IllegalArgumentException") (names := ["java/lang/RuntimeException", "java/lang/Exception"]) hx hb hl9 hown (by decide +kernel) (by decide +kernel) (hbg _ kw_69) (hbg _ kw_70) hsa (vx_hat (L := vx_atS RX0 56 "java/lang/IllegalArgumentException" ["java/lang/RuntimeException", "java/lang/Exception"]) (B := [.castable "java/lang/IllegalArgumentException" "java/lang/IllegalArgumentException", .declares ⟨"java/lang/RuntimeException", "<init>", "(Ljava/lang/String;)V"⟩, .declares ⟨"java/lang/Exception", "<init>", "(Ljava/lang/String;)V"⟩, .declares ⟨"java/lang/Throwable", "<init>", "(Ljava/lang/String;)V"⟩]) (fun w hw => hbg w (xa_RX0_56 w hw)) (by decide +kernel) (vx_c (va_Nw.use rfl (hXW0.1 "java/lang/IllegalArgumentException" (by decide))) (vx_c (va_Nw.use rfl (hXW0.2.1 "java/lang/RuntimeException" (by decide))) (vx_c (va_Nw.use rfl (hXW0.2.1 "java/lang/Exception" (by decide))) (vx_c (va_Nw.use rfl (hXW0.2.1 "java/lang/Throwable" (by decide))) (vx_n)))))) (by decide +kernel) hXW0.2.2.2.2.1 hXW0.2.2.2.2.2 hS (hl.1.trans hml.symm) dX0_append_19 dX0_append_22 dX0_append_23 dX0_append_25 dX0_append_28 (fun x hx => (hEx x hx).elim) (Nat.le_of_ble_eq_true rfl) (Nat.le_of_ble_eq_true rfl) (Nat.le_of_ble_eq_true rfl) (Nat.le_of_ble_eq_true rfl) hlocks (fun t ha hsz hk => ⟨("java/lang/IllegalArgumentException", (A_ring_2, A_buffer_2, A_firstPlace_2, A_forcedPlace_2, A_endPlace_2, A_wordsToFailure_2, A_opened_2)), hw, ⟨rfl, hP.kept (fun k q hq => hk q.1 (hP k q hq).lt), va_K.moved ha hK, hD⟩, Nat.le_trans hS.1 hsz, fun q h1 h2 => (hk q (Nat.lt_of_lt_of_le h1 hS.1)).trans (hS.2.1 q h1 h2)⟩) hS.2.2 (Nat.le_of_ble_eq_true rfl) (Nat.le_of_ble_eq_true rfl)
      · have hw := hw.2 c9
        refine lv_iload_n hx hb dX0_append_13 rfl (lv_at hl 1 rfl) ?_
        refine lv_bipush (v := (16 : Int32)) hx hb dX0_append_14 (by decide) ?_
        refine lv_icmp_lt (tgt := 29) hx hb dX0_append_16 (by decide) (fun c9 => ?_) (fun c9 => ?_)
        · have hw := hw.1 c9
          refine lv_iload hx hb dX0_append_29 (lv_at hl 4 rfl) ?_
          refine lv_if_lt (tgt := 42) hx hb dX0_append_31 (by decide) (fun c9 => ?_) (fun c9 => ?_)
          · have hw := hw.1 c9
            subst hQQ
            obtain ⟨sa, hsa⟩ := hXW0.2.2.1 (RX0, 57, "a content has 0 .. 200 words") (by decide +kernel)
            exact vx_throwS (own := RX0) (cls := "java/lang/IllegalArgumentException") (names := ["java/lang/RuntimeException", "java/lang/Exception"]) hx hb hl9 hown (by decide +kernel) (by decide +kernel) (hbg _ kw_69) (hbg _ kw_70) hsa (vx_hat (L := vx_atS RX0 56 "java/lang/IllegalArgumentException" ["java/lang/RuntimeException", "java/lang/Exception"]) (B := [.castable "java/lang/IllegalArgumentException" "java/lang/IllegalArgumentException", .declares ⟨"java/lang/RuntimeException", "<init>", "(Ljava/lang/String;)V"⟩, .declares ⟨"java/lang/Exception", "<init>", "(Ljava/lang/String;)V"⟩, .declares ⟨"java/lang/Throwable", "<init>", "(Ljava/lang/String;)V"⟩]) (fun w hw => hbg w (xa_RX0_56 w hw)) (by decide +kernel) (vx_c (va_Nw.use rfl (hXW0.1 "java/lang/IllegalArgumentException" (by decide))) (vx_c (va_Nw.use rfl (hXW0.2.1 "java/lang/RuntimeException" (by decide))) (vx_c (va_Nw.use rfl (hXW0.2.1 "java/lang/Exception" (by decide))) (vx_c (va_Nw.use rfl (hXW0.2.1 "java/lang/Throwable" (by decide))) (vx_n)))))) (by decide +kernel) hXW0.2.2.2.2.1 hXW0.2.2.2.2.2 hS (hl.1.trans hml.symm) dX0_append_42 dX0_append_45 dX0_append_46 dX0_append_48 dX0_append_51 (fun x hx => (hEx x hx).elim) (Nat.le_of_ble_eq_true rfl) (Nat.le_of_ble_eq_true rfl) (Nat.le_of_ble_eq_true rfl) (Nat.le_of_ble_eq_true rfl) hlocks (fun t ha hsz hk => ⟨("java/lang/IllegalArgumentException", (A_ring_2, A_buffer_2, A_firstPlace_2, A_forcedPlace_2, A_endPlace_2, A_wordsToFailure_2, A_opened_2)), hw, ⟨rfl, hP.kept (fun k q hq => hk q.1 (hP k q hq).lt), va_K.moved ha hK, hD⟩, Nat.le_trans hS.1 hsz, fun q h1 h2 => (hk q (Nat.lt_of_lt_of_le h1 hS.1)).trans (hS.2.1 q h1 h2)⟩) hS.2.2 (Nat.le_of_ble_eq_true rfl) (Nat.le_of_ble_eq_true rfl)
          · have hw := hw.2 c9
            refine lv_iload hx hb dX0_append_34 (lv_at hl 4 rfl) ?_
            refine lv_sipush (v := (200 : Int32)) hx hb dX0_append_36 (by decide) ?_
            refine lv_icmp_le (tgt := 52) hx hb dX0_append_39 (by decide) (fun c9 => ?_) (fun c9 => ?_)
            · have hw := hw.1 c9
              refine lv_iload_n hx hb dX0_append_52 rfl (lv_at hl 3 rfl) ?_
              refine lv_iconst (v := (-1 : Int32)) hx hb dX0_append_53 (by decide) ?_
              refine lv_icmp_lt (tgt := 65) hx hb dX0_append_54 (by decide) (fun c9 => ?_) (fun c9 => ?_)
              · have hw := hw.1 c9
                subst hQQ
                obtain ⟨sa, hsa⟩ := hXW0.2.2.1 (RX0, 59, "a link is NONE or a place before the end") (by decide +kernel)
                exact vx_throwS (own := RX0) (cls := "java/lang/IllegalArgumentException") (names := ["java/lang/RuntimeException", "java/lang/Exception"]) hx hb hl9 hown (by decide +kernel) (by decide +kernel) (hbg _ kw_69) (hbg _ kw_70) hsa (vx_hat (L := vx_atS RX0 56 "java/lang/IllegalArgumentException" ["java/lang/RuntimeException", "java/lang/Exception"]) (B := [.castable "java/lang/IllegalArgumentException" "java/lang/IllegalArgumentException", .declares ⟨"java/lang/RuntimeException", "<init>", "(Ljava/lang/String;)V"⟩, .declares ⟨"java/lang/Exception", "<init>", "(Ljava/lang/String;)V"⟩, .declares ⟨"java/lang/Throwable", "<init>", "(Ljava/lang/String;)V"⟩]) (fun w hw => hbg w (xa_RX0_56 w hw)) (by decide +kernel) (vx_c (va_Nw.use rfl (hXW0.1 "java/lang/IllegalArgumentException" (by decide))) (vx_c (va_Nw.use rfl (hXW0.2.1 "java/lang/RuntimeException" (by decide))) (vx_c (va_Nw.use rfl (hXW0.2.1 "java/lang/Exception" (by decide))) (vx_c (va_Nw.use rfl (hXW0.2.1 "java/lang/Throwable" (by decide))) (vx_n)))))) (by decide +kernel) hXW0.2.2.2.2.1 hXW0.2.2.2.2.2 hS (hl.1.trans hml.symm) dX0_append_65 dX0_append_68 dX0_append_69 dX0_append_71 dX0_append_74 (fun x hx => (hEx x hx).elim) (Nat.le_of_ble_eq_true rfl) (Nat.le_of_ble_eq_true rfl) (Nat.le_of_ble_eq_true rfl) (Nat.le_of_ble_eq_true rfl) hlocks (fun t ha hsz hk => ⟨("java/lang/IllegalArgumentException", (A_ring_2, A_buffer_2, A_firstPlace_2, A_forcedPlace_2, A_endPlace_2, A_wordsToFailure_2, A_opened_2)), hw, ⟨rfl, hP.kept (fun k q hq => hk q.1 (hP k q hq).lt), va_K.moved ha hK, hD⟩, Nat.le_trans hS.1 hsz, fun q h1 h2 => (hk q (Nat.lt_of_lt_of_le h1 hS.1)).trans (hS.2.1 q h1 h2)⟩) hS.2.2 (Nat.le_of_ble_eq_true rfl) (Nat.le_of_ble_eq_true rfl)
              · have hw := hw.2 c9
                refine lv_iload_n hx hb dX0_append_57 rfl (lv_at hl 3 rfl) ?_
                refine lv_aload_n hx hb dX0_append_58 rfl (lv_at hl 0 rfl) ?_
                refine va_get (D := (dC, dI)) (ci := 0) (v := .int A_endPlace_2) (C := RX0) (T := TX0) (N := 7) hx hb hbg in_X0 hown hK hP 0 rfl rfl 4 (by decide) (hbg _ kw_12) (fun _ h9 => h9) rfl dX0_append_59 ?_
                refine lv_icmp_lt (tgt := 75) hx hb dX0_append_62 (by decide) (fun c9 => ?_) (fun c9 => ?_)
                · have hw := hw.1 c9
                  refine lv_iload hx hb dX0_append_75 (lv_at hl 4 rfl) ?_
                  refine lv_iconst (v := (5 : Int32)) hx hb dX0_append_77 (by decide) ?_
                  refine lv_iadd hx hb dX0_append_78 ?_
                  refine lv_istore (lv' := [(5, .int (x4 + (5 : Int32))), (0, .ref qA), (1, .int x1), (2, .int x2), (3, .int x3), (4, .int x4)]) hx hb dX0_append_79 hl (by decide) rfl (fun ls hl => ?_)
                  refine lv_iload hx hb dX0_append_81 (lv_at hl 0 rfl) ?_
                  refine lv_ldc (v := (65536 : Int32)) hx hb hown (hbg _ kw_87) dX0_append_83 ?_
                  refine lv_aload_n hx hb dX0_append_85 rfl (lv_at hl 1 rfl) ?_
                  refine va_get (D := (dC, dI)) (ci := 0) (v := .int A_endPlace_2) (C := RX0) (T := TX0) (N := 7) hx hb hbg in_X0 hown hK hP 0 rfl rfl 4 (by decide) (hbg _ kw_12) (fun _ h9 => h9) rfl dX0_append_86 ?_
                  refine lv_aload_n hx hb dX0_append_89 rfl (lv_at hl 1 rfl) ?_
                  refine va_get (D := (dC, dI)) (ci := 0) (v := .int A_firstPlace_2) (C := RX0) (T := TX0) (N := 7) hx hb hbg in_X0 hown hK hP 0 rfl rfl 2 (by decide) (hbg _ kw_2) (fun _ h9 => h9) rfl dX0_append_90 ?_
                  refine lv_isub hx hb dX0_append_93 ?_
                  refine lv_isub hx hb dX0_append_94 ?_
                  refine lv_icmp_le (tgt := 100) hx hb dX0_append_95 (by decide) (fun c9 => ?_) (fun c9 => ?_)
                  · have hw := hw.1 c9
                    refine lv_aload_n hx hb dX0_append_100 rfl (lv_at hl 1 rfl) ?_
                    refine va_get (D := (dC, dI)) (ci := 0) (v := .int A_endPlace_2) (C := RX0) (T := TX0) (N := 7) hx hb hbg in_X0 hown hK hP 0 rfl rfl 4 (by decide) (hbg _ kw_12) (fun _ h9 => h9) rfl dX0_append_101 ?_
                    refine lv_istore (lv' := [(6, .int A_endPlace_2), (5, .int (x4 + (5 : Int32))), (0, .ref qA), (1, .int x1), (2, .int x2), (3, .int x3), (4, .int x4)]) hx hb dX0_append_104 hl (by decide) rfl (fun ls hl => ?_)
                    refine lv_aload_n hx hb dX0_append_106 rfl (lv_at hl 2 rfl) ?_
                    refine lv_iload_n hx hb dX0_append_107 rfl (lv_at hl 4 rfl) ?_
                    refine vp_callSi (W.runV (As := [.int x2]) (rest := []) ⟨hx, hb, hml, hown, hbg⟩ (met_X0_lastRecordOf l dC dI qA qA_ring qA_buffer cA_ring cA_buffer A_ring_2 A_buffer_2 A_firstPlace_2 A_forcedPlace_2 A_endPlace_2 A_wordsToFailure_2 A_opened_2 x2 _ hw) (cwV 1 hbg g_RX0_61 rfl rfl rfl (by decide +kernel) ⟨Nat.le_of_ble_eq_true rfl, Nat.le_of_ble_eq_true rfl⟩) ⟨pcR_A_b _ _ _ _ _ _ _ _ _ _ _ _ _ _ _, va_recv hK hP (ci := 0) (q0 := 0) rfl rfl, fun U hU hW => ⟨rfl, by rw [hU]; exact hP, va_K.moved hW.alike hK⟩⟩ rfl rfl hl.1 rfl (lv_room (Nat.le_of_ble_eq_true rfl)) dX0_append_108 ⟨Nat.le_of_ble_eq_true rfl, Nat.le_of_ble_eq_true rfl⟩) (fun r_3 hw => ?_)
                    try dsimp only at hw
                    refine lv_istore (lv' := [(7, .int r_3), (6, .int A_endPlace_2), (5, .int (x4 + (5 : Int32))), (0, .ref qA), (1, .int x1), (2, .int x2), (3, .int x3), (4, .int x4)]) hx hb dX0_append_111 hl (by decide) rfl (fun ls hl => ?_)
                    refine lv_aload_n hx hb dX0_append_113 rfl (lv_at hl 3 rfl) ?_
                    refine lv_iload hx hb dX0_append_114 (lv_at hl 2 rfl) ?_
                    have hFc := va_free (wc := [(qA, .inr (0, [.ref qA_ring, .ref qA_buffer, .int A_firstPlace_2, .int A_forcedPlace_2, .int A_endPlace_2, .int A_wordsToFailure_2, .int A_opened_2])), (qA_ring, .inl (cA_ring, 65536, .inl A_ring_2)), (qA_buffer, .inl (cA_buffer, 200, .inl A_buffer_2))]) hD hS hA [0, 1, 2] rfl
                    refine va_callv (va_runV (As := [.int (x4 + (5 : Int32))]) (rest := []) ⟨hx, hb, hml, hown, hbg⟩ (met_X0_addWord l dC dI qA qA_ring qA_buffer cA_ring cA_buffer H_2.size A_ring_2 A_buffer_2 A_firstPlace_2 A_forcedPlace_2 A_endPlace_2 A_wordsToFailure_2 A_opened_2 (x4 + (5 : Int32)) _ hw) (cwV 1 hbg g_RX0_65 rfl rfl rfl (by decide +kernel) ⟨Nat.le_of_ble_eq_true rfl, Nat.le_of_ble_eq_true rfl⟩) ⟨pcW_A_b _ _ _ _ _ _ _ _ _ _ _ _ _ _ _ _, va_recv hK hP (ci := 0) (q0 := 0) rfl rfl, fun U hU hW => ⟨rfl, by rw [hU], by rw [hU]; exact hP, va_K.moved hW.alike hK, hD.weaken (fun _ _ _ _ => trivial)⟩⟩ rfl rfl hl.1 rfl (lv_room (Nat.le_of_ble_eq_true rfl)) dX0_append_116 ⟨Nat.le_of_ble_eq_true rfl, Nat.le_of_ble_eq_true rfl⟩) hS (fun q _ h => hFc q h) hFc (fun u_4 t_4 H_4 locs ht hvm hw hB hz1 hk1 hS => ?_)
                    obtain ⟨A_ring_4, A_buffer_4, A_firstPlace_4, A_forcedPlace_4, A_endPlace_4, A_wordsToFailure_4, A_opened_4⟩ := u_4
                    obtain ⟨hP1, hK1, hD1⟩ := hB
                    rw [ht] at hP1
                    try dsimp only at hw
                    have hP : va_P (dC, dI) vwCl [(qA, .inr (0, [.ref qA_ring, .ref qA_buffer, .int A_firstPlace_4, .int A_forcedPlace_4, .int A_endPlace_4, .int A_wordsToFailure_4, .int A_opened_4])), (qA_ring, .inl (cA_ring, 65536, .inl A_ring_4)), (qA_buffer, .inl (cA_buffer, 200, .inl A_buffer_4))] H_4 := hP1
                    have hD : va_D A [(qA, .inr (0, [.ref qA_ring, .ref qA_buffer, .int A_firstPlace_4, .int A_forcedPlace_4, .int A_endPlace_4, .int A_wordsToFailure_4, .int A_opened_4])), (qA_ring, .inl (cA_ring, 65536, .inl A_ring_4)), (qA_buffer, .inl (cA_buffer, 200, .inl A_buffer_4))] := hD1.weaken (fun _ _ _ h => hFc _ h)
                    refine lv_aload_n hx hb dX0_append_119 rfl (lv_at hl 3 rfl) ?_
                    refine lv_iload_n hx hb dX0_append_120 rfl (lv_at hl 4 rfl) ?_
                    refine lv_bipush (v := (16 : Int32)) hx hb dX0_append_121 (by decide) ?_
                    refine lv_iload_n hx hb dX0_append_123 rfl (lv_at hl 5 rfl) ?_
                    refine lv_imul hx hb dX0_append_124 ?_
                    refine lv_iadd hx hb dX0_append_125 ?_
                    have hFc := va_free (wc := [(qA, .inr (0, [.ref qA_ring, .ref qA_buffer, .int A_firstPlace_4, .int A_forcedPlace_4, .int A_endPlace_4, .int A_wordsToFailure_4, .int A_opened_4])), (qA_ring, .inl (cA_ring, 65536, .inl A_ring_4)), (qA_buffer, .inl (cA_buffer, 200, .inl A_buffer_4))]) hD hS hA [0, 1, 2] rfl
                    refine va_callv (va_runV (As := [.int (x1 + ((16 : Int32) * x2))]) (rest := []) ⟨hx, hb, hml, hown, hbg⟩ (met_X0_addWord l dC dI qA qA_ring qA_buffer cA_ring cA_buffer H_4.size A_ring_4 A_buffer_4 A_firstPlace_4 A_forcedPlace_4 A_endPlace_4 A_wordsToFailure_4 A_opened_4 (x1 + ((16 : Int32) * x2)) _ hw) (cwV 1 hbg g_RX0_65 rfl rfl rfl (by decide +kernel) ⟨Nat.le_of_ble_eq_true rfl, Nat.le_of_ble_eq_true rfl⟩) ⟨pcW_A_b _ _ _ _ _ _ _ _ _ _ _ _ _ _ _ _, va_recv hK hP (ci := 0) (q0 := 0) rfl rfl, fun U hU hW => ⟨rfl, by rw [hU], by rw [hU]; exact hP, va_K.moved hW.alike hK, hD.weaken (fun _ _ _ _ => trivial)⟩⟩ rfl rfl hl.1 rfl (lv_room (Nat.le_of_ble_eq_true rfl)) dX0_append_126 ⟨Nat.le_of_ble_eq_true rfl, Nat.le_of_ble_eq_true rfl⟩) hS (fun q _ h => hFc q h) hFc (fun u_5 t_5 H_5 locs ht hvm hw hB hz1 hk1 hS => ?_)
                    obtain ⟨A_ring_5, A_buffer_5, A_firstPlace_5, A_forcedPlace_5, A_endPlace_5, A_wordsToFailure_5, A_opened_5⟩ := u_5
                    obtain ⟨hP1, hK1, hD1⟩ := hB
                    rw [ht] at hP1
                    try dsimp only at hw
                    have hP : va_P (dC, dI) vwCl [(qA, .inr (0, [.ref qA_ring, .ref qA_buffer, .int A_firstPlace_5, .int A_forcedPlace_5, .int A_endPlace_5, .int A_wordsToFailure_5, .int A_opened_5])), (qA_ring, .inl (cA_ring, 65536, .inl A_ring_5)), (qA_buffer, .inl (cA_buffer, 200, .inl A_buffer_5))] H_5 := hP1
                    have hD : va_D A [(qA, .inr (0, [.ref qA_ring, .ref qA_buffer, .int A_firstPlace_5, .int A_forcedPlace_5, .int A_endPlace_5, .int A_wordsToFailure_5, .int A_opened_5])), (qA_ring, .inl (cA_ring, 65536, .inl A_ring_5)), (qA_buffer, .inl (cA_buffer, 200, .inl A_buffer_5))] := hD1.weaken (fun _ _ _ h => hFc _ h)
                    refine lv_aload_n hx hb dX0_append_129 rfl (lv_at hl 3 rfl) ?_
                    refine lv_iload hx hb dX0_append_130 (lv_at hl 0 rfl) ?_
                    have hFc := va_free (wc := [(qA, .inr (0, [.ref qA_ring, .ref qA_buffer, .int A_firstPlace_5, .int A_forcedPlace_5, .int A_endPlace_5, .int A_wordsToFailure_5, .int A_opened_5])), (qA_ring, .inl (cA_ring, 65536, .inl A_ring_5)), (qA_buffer, .inl (cA_buffer, 200, .inl A_buffer_5))]) hD hS hA [0, 1, 2] rfl
                    refine va_callv (va_runV (As := [.int r_3]) (rest := []) ⟨hx, hb, hml, hown, hbg⟩ (met_X0_addWord l dC dI qA qA_ring qA_buffer cA_ring cA_buffer H_5.size A_ring_5 A_buffer_5 A_firstPlace_5 A_forcedPlace_5 A_endPlace_5 A_wordsToFailure_5 A_opened_5 r_3 _ hw) (cwV 1 hbg g_RX0_65 rfl rfl rfl (by decide +kernel) ⟨Nat.le_of_ble_eq_true rfl, Nat.le_of_ble_eq_true rfl⟩) ⟨pcW_A_b _ _ _ _ _ _ _ _ _ _ _ _ _ _ _ _, va_recv hK hP (ci := 0) (q0 := 0) rfl rfl, fun U hU hW => ⟨rfl, by rw [hU], by rw [hU]; exact hP, va_K.moved hW.alike hK, hD.weaken (fun _ _ _ _ => trivial)⟩⟩ rfl rfl hl.1 rfl (lv_room (Nat.le_of_ble_eq_true rfl)) dX0_append_132 ⟨Nat.le_of_ble_eq_true rfl, Nat.le_of_ble_eq_true rfl⟩) hS (fun q _ h => hFc q h) hFc (fun u_6 t_6 H_6 locs ht hvm hw hB hz1 hk1 hS => ?_)
                    obtain ⟨A_ring_6, A_buffer_6, A_firstPlace_6, A_forcedPlace_6, A_endPlace_6, A_wordsToFailure_6, A_opened_6⟩ := u_6
                    obtain ⟨hP1, hK1, hD1⟩ := hB
                    rw [ht] at hP1
                    try dsimp only at hw
                    have hP : va_P (dC, dI) vwCl [(qA, .inr (0, [.ref qA_ring, .ref qA_buffer, .int A_firstPlace_6, .int A_forcedPlace_6, .int A_endPlace_6, .int A_wordsToFailure_6, .int A_opened_6])), (qA_ring, .inl (cA_ring, 65536, .inl A_ring_6)), (qA_buffer, .inl (cA_buffer, 200, .inl A_buffer_6))] H_6 := hP1
                    have hD : va_D A [(qA, .inr (0, [.ref qA_ring, .ref qA_buffer, .int A_firstPlace_6, .int A_forcedPlace_6, .int A_endPlace_6, .int A_wordsToFailure_6, .int A_opened_6])), (qA_ring, .inl (cA_ring, 65536, .inl A_ring_6)), (qA_buffer, .inl (cA_buffer, 200, .inl A_buffer_6))] := hD1.weaken (fun _ _ _ h => hFc _ h)
                    refine lv_aload_n hx hb dX0_append_135 rfl (lv_at hl 3 rfl) ?_
                    refine lv_iload_n hx hb dX0_append_136 rfl (lv_at hl 6 rfl) ?_
                    have hFc := va_free (wc := [(qA, .inr (0, [.ref qA_ring, .ref qA_buffer, .int A_firstPlace_6, .int A_forcedPlace_6, .int A_endPlace_6, .int A_wordsToFailure_6, .int A_opened_6])), (qA_ring, .inl (cA_ring, 65536, .inl A_ring_6)), (qA_buffer, .inl (cA_buffer, 200, .inl A_buffer_6))]) hD hS hA [0, 1, 2] rfl
                    refine va_callv (va_runV (As := [.int x3]) (rest := []) ⟨hx, hb, hml, hown, hbg⟩ (met_X0_addWord l dC dI qA qA_ring qA_buffer cA_ring cA_buffer H_6.size A_ring_6 A_buffer_6 A_firstPlace_6 A_forcedPlace_6 A_endPlace_6 A_wordsToFailure_6 A_opened_6 x3 _ hw) (cwV 1 hbg g_RX0_65 rfl rfl rfl (by decide +kernel) ⟨Nat.le_of_ble_eq_true rfl, Nat.le_of_ble_eq_true rfl⟩) ⟨pcW_A_b _ _ _ _ _ _ _ _ _ _ _ _ _ _ _ _, va_recv hK hP (ci := 0) (q0 := 0) rfl rfl, fun U hU hW => ⟨rfl, by rw [hU], by rw [hU]; exact hP, va_K.moved hW.alike hK, hD.weaken (fun _ _ _ _ => trivial)⟩⟩ rfl rfl hl.1 rfl (lv_room (Nat.le_of_ble_eq_true rfl)) dX0_append_137 ⟨Nat.le_of_ble_eq_true rfl, Nat.le_of_ble_eq_true rfl⟩) hS (fun q _ h => hFc q h) hFc (fun u_7 t_7 H_7 locs ht hvm hw hB hz1 hk1 hS => ?_)
                    obtain ⟨A_ring_7, A_buffer_7, A_firstPlace_7, A_forcedPlace_7, A_endPlace_7, A_wordsToFailure_7, A_opened_7⟩ := u_7
                    obtain ⟨hP1, hK1, hD1⟩ := hB
                    rw [ht] at hP1
                    try dsimp only at hw
                    have hP : va_P (dC, dI) vwCl [(qA, .inr (0, [.ref qA_ring, .ref qA_buffer, .int A_firstPlace_7, .int A_forcedPlace_7, .int A_endPlace_7, .int A_wordsToFailure_7, .int A_opened_7])), (qA_ring, .inl (cA_ring, 65536, .inl A_ring_7)), (qA_buffer, .inl (cA_buffer, 200, .inl A_buffer_7))] H_7 := hP1
                    have hD : va_D A [(qA, .inr (0, [.ref qA_ring, .ref qA_buffer, .int A_firstPlace_7, .int A_forcedPlace_7, .int A_endPlace_7, .int A_wordsToFailure_7, .int A_opened_7])), (qA_ring, .inl (cA_ring, 65536, .inl A_ring_7)), (qA_buffer, .inl (cA_buffer, 200, .inl A_buffer_7))] := hD1.weaken (fun _ _ _ h => hFc _ h)
                    refine lv_aload_n hx hb dX0_append_140 rfl (lv_at hl 3 rfl) ?_
                    refine lv_iload hx hb dX0_append_141 (lv_at hl 7 rfl) ?_
                    have hFc := va_free (wc := [(qA, .inr (0, [.ref qA_ring, .ref qA_buffer, .int A_firstPlace_7, .int A_forcedPlace_7, .int A_endPlace_7, .int A_wordsToFailure_7, .int A_opened_7])), (qA_ring, .inl (cA_ring, 65536, .inl A_ring_7)), (qA_buffer, .inl (cA_buffer, 200, .inl A_buffer_7))]) hD hS hA [0, 1, 2] rfl
                    refine va_callv (va_runV (As := [.int x4]) (rest := []) ⟨hx, hb, hml, hown, hbg⟩ (met_X0_addContent l dC dI qA qA_ring qA_buffer cA_ring cA_buffer H_7.size A_ring_7 A_buffer_7 A_firstPlace_7 A_forcedPlace_7 A_endPlace_7 A_wordsToFailure_7 A_opened_7 x4 _ hw) (cwV 1 hbg g_RX0_68 rfl rfl rfl (by decide +kernel) ⟨Nat.le_of_ble_eq_true rfl, Nat.le_of_ble_eq_true rfl⟩) ⟨pcW_A_b _ _ _ _ _ _ _ _ _ _ _ _ _ _ _ _, va_recv hK hP (ci := 0) (q0 := 0) rfl rfl, fun U hU hW => ⟨rfl, by rw [hU], by rw [hU]; exact hP, va_K.moved hW.alike hK, hD.weaken (fun _ _ _ _ => trivial)⟩⟩ rfl rfl hl.1 rfl (lv_room (Nat.le_of_ble_eq_true rfl)) dX0_append_143 ⟨Nat.le_of_ble_eq_true rfl, Nat.le_of_ble_eq_true rfl⟩) hS (fun q _ h => hFc q h) hFc (fun u_8 t_8 H_8 locs ht hvm hw hB hz1 hk1 hS => ?_)
                    obtain ⟨A_ring_8, A_buffer_8, A_firstPlace_8, A_forcedPlace_8, A_endPlace_8, A_wordsToFailure_8, A_opened_8⟩ := u_8
                    obtain ⟨hP1, hK1, hD1⟩ := hB
                    rw [ht] at hP1
                    try dsimp only at hw
                    have hP : va_P (dC, dI) vwCl [(qA, .inr (0, [.ref qA_ring, .ref qA_buffer, .int A_firstPlace_8, .int A_forcedPlace_8, .int A_endPlace_8, .int A_wordsToFailure_8, .int A_opened_8])), (qA_ring, .inl (cA_ring, 65536, .inl A_ring_8)), (qA_buffer, .inl (cA_buffer, 200, .inl A_buffer_8))] H_8 := hP1
                    have hD : va_D A [(qA, .inr (0, [.ref qA_ring, .ref qA_buffer, .int A_firstPlace_8, .int A_forcedPlace_8, .int A_endPlace_8, .int A_wordsToFailure_8, .int A_opened_8])), (qA_ring, .inl (cA_ring, 65536, .inl A_ring_8)), (qA_buffer, .inl (cA_buffer, 200, .inl A_buffer_8))] := hD1.weaken (fun _ _ _ h => hFc _ h)
                    refine lv_aload_n hx hb dX0_append_146 rfl (lv_at hl 3 rfl) ?_
                    refine lv_iload hx hb dX0_append_147 (lv_at hl 2 rfl) ?_
                    have hFc := va_free (wc := [(qA, .inr (0, [.ref qA_ring, .ref qA_buffer, .int A_firstPlace_8, .int A_forcedPlace_8, .int A_endPlace_8, .int A_wordsToFailure_8, .int A_opened_8])), (qA_ring, .inl (cA_ring, 65536, .inl A_ring_8)), (qA_buffer, .inl (cA_buffer, 200, .inl A_buffer_8))]) hD hS hA [0, 1, 2] rfl
                    refine va_callv (va_runV (As := [.int (x4 + (5 : Int32))]) (rest := []) ⟨hx, hb, hml, hown, hbg⟩ (met_X0_addWord l dC dI qA qA_ring qA_buffer cA_ring cA_buffer H_8.size A_ring_8 A_buffer_8 A_firstPlace_8 A_forcedPlace_8 A_endPlace_8 A_wordsToFailure_8 A_opened_8 (x4 + (5 : Int32)) _ hw) (cwV 1 hbg g_RX0_65 rfl rfl rfl (by decide +kernel) ⟨Nat.le_of_ble_eq_true rfl, Nat.le_of_ble_eq_true rfl⟩) ⟨pcW_A_b _ _ _ _ _ _ _ _ _ _ _ _ _ _ _ _, va_recv hK hP (ci := 0) (q0 := 0) rfl rfl, fun U hU hW => ⟨rfl, by rw [hU], by rw [hU]; exact hP, va_K.moved hW.alike hK, hD.weaken (fun _ _ _ _ => trivial)⟩⟩ rfl rfl hl.1 rfl (lv_room (Nat.le_of_ble_eq_true rfl)) dX0_append_149 ⟨Nat.le_of_ble_eq_true rfl, Nat.le_of_ble_eq_true rfl⟩) hS (fun q _ h => hFc q h) hFc (fun u_9 t_9 H_9 locs ht hvm hw hB hz1 hk1 hS => ?_)
                    obtain ⟨A_ring_9, A_buffer_9, A_firstPlace_9, A_forcedPlace_9, A_endPlace_9, A_wordsToFailure_9, A_opened_9⟩ := u_9
                    obtain ⟨hP1, hK1, hD1⟩ := hB
                    rw [ht] at hP1
                    try dsimp only at hw
                    have hP : va_P (dC, dI) vwCl [(qA, .inr (0, [.ref qA_ring, .ref qA_buffer, .int A_firstPlace_9, .int A_forcedPlace_9, .int A_endPlace_9, .int A_wordsToFailure_9, .int A_opened_9])), (qA_ring, .inl (cA_ring, 65536, .inl A_ring_9)), (qA_buffer, .inl (cA_buffer, 200, .inl A_buffer_9))] H_9 := hP1
                    have hD : va_D A [(qA, .inr (0, [.ref qA_ring, .ref qA_buffer, .int A_firstPlace_9, .int A_forcedPlace_9, .int A_endPlace_9, .int A_wordsToFailure_9, .int A_opened_9])), (qA_ring, .inl (cA_ring, 65536, .inl A_ring_9)), (qA_buffer, .inl (cA_buffer, 200, .inl A_buffer_9))] := hD1.weaken (fun _ _ _ h => hFc _ h)
                    refine lv_iload hx hb dX0_append_152 (lv_at hl 1 rfl) ?_
                    subst hQQ
                    refine W.widen (k := 3) (n := 18) (Nat.le_of_ble_eq_true rfl) (Nat.le_of_ble_eq_true rfl) ?_
                    refine vx_ret ?_
                    exact W.iret (v := A_endPlace_2) hx hb hr (fun t ht hW => ⟨⟨A_endPlace_2, (A_ring_9, A_buffer_9, A_firstPlace_9, A_forcedPlace_9, A_endPlace_9, A_wordsToFailure_9, A_opened_9), rfl, hw, by rw [ht]; exact hP, va_K.moved hW.alike hK, hD⟩, hS.F ht⟩) hS.2.2 dX0_append_154
                  · have hw := hw.2 c9
                    refine lv_iconst (v := (-1 : Int32)) hx hb dX0_append_98 (by decide) ?_
                    subst hQQ
                    refine W.widen (k := 3) (n := 18) (Nat.le_of_ble_eq_true rfl) (Nat.le_of_ble_eq_true rfl) ?_
                    refine vx_ret ?_
                    exact W.iret (v := (-1 : Int32)) hx hb hr (fun t ht hW => ⟨⟨(-1 : Int32), (A_ring_2, A_buffer_2, A_firstPlace_2, A_forcedPlace_2, A_endPlace_2, A_wordsToFailure_2, A_opened_2), rfl, hw, by rw [ht]; exact hP, va_K.moved hW.alike hK, hD⟩, hS.F ht⟩) hS.2.2 dX0_append_99
                · have hw := hw.2 c9
                  subst hQQ
                  obtain ⟨sa, hsa⟩ := hXW0.2.2.1 (RX0, 59, "a link is NONE or a place before the end") (by decide +kernel)
                  exact vx_throwS (own := RX0) (cls := "java/lang/IllegalArgumentException") (names := ["java/lang/RuntimeException", "java/lang/Exception"]) hx hb hl9 hown (by decide +kernel) (by decide +kernel) (hbg _ kw_69) (hbg _ kw_70) hsa (vx_hat (L := vx_atS RX0 56 "java/lang/IllegalArgumentException" ["java/lang/RuntimeException", "java/lang/Exception"]) (B := [.castable "java/lang/IllegalArgumentException" "java/lang/IllegalArgumentException", .declares ⟨"java/lang/RuntimeException", "<init>", "(Ljava/lang/String;)V"⟩, .declares ⟨"java/lang/Exception", "<init>", "(Ljava/lang/String;)V"⟩, .declares ⟨"java/lang/Throwable", "<init>", "(Ljava/lang/String;)V"⟩]) (fun w hw => hbg w (xa_RX0_56 w hw)) (by decide +kernel) (vx_c (va_Nw.use rfl (hXW0.1 "java/lang/IllegalArgumentException" (by decide))) (vx_c (va_Nw.use rfl (hXW0.2.1 "java/lang/RuntimeException" (by decide))) (vx_c (va_Nw.use rfl (hXW0.2.1 "java/lang/Exception" (by decide))) (vx_c (va_Nw.use rfl (hXW0.2.1 "java/lang/Throwable" (by decide))) (vx_n)))))) (by decide +kernel) hXW0.2.2.2.2.1 hXW0.2.2.2.2.2 hS (hl.1.trans hml.symm) dX0_append_65 dX0_append_68 dX0_append_69 dX0_append_71 dX0_append_74 (fun x hx => (hEx x hx).elim) (Nat.le_of_ble_eq_true rfl) (Nat.le_of_ble_eq_true rfl) (Nat.le_of_ble_eq_true rfl) (Nat.le_of_ble_eq_true rfl) hlocks (fun t ha hsz hk => ⟨("java/lang/IllegalArgumentException", (A_ring_2, A_buffer_2, A_firstPlace_2, A_forcedPlace_2, A_endPlace_2, A_wordsToFailure_2, A_opened_2)), hw, ⟨rfl, hP.kept (fun k q hq => hk q.1 (hP k q hq).lt), va_K.moved ha hK, hD⟩, Nat.le_trans hS.1 hsz, fun q h1 h2 => (hk q (Nat.lt_of_lt_of_le h1 hS.1)).trans (hS.2.1 q h1 h2)⟩) hS.2.2 (Nat.le_of_ble_eq_true rfl) (Nat.le_of_ble_eq_true rfl)
            · have hw := hw.2 c9
              subst hQQ
              obtain ⟨sa, hsa⟩ := hXW0.2.2.1 (RX0, 57, "a content has 0 .. 200 words") (by decide +kernel)
              exact vx_throwS (own := RX0) (cls := "java/lang/IllegalArgumentException") (names := ["java/lang/RuntimeException", "java/lang/Exception"]) hx hb hl9 hown (by decide +kernel) (by decide +kernel) (hbg _ kw_69) (hbg _ kw_70) hsa (vx_hat (L := vx_atS RX0 56 "java/lang/IllegalArgumentException" ["java/lang/RuntimeException", "java/lang/Exception"]) (B := [.castable "java/lang/IllegalArgumentException" "java/lang/IllegalArgumentException", .declares ⟨"java/lang/RuntimeException", "<init>", "(Ljava/lang/String;)V"⟩, .declares ⟨"java/lang/Exception", "<init>", "(Ljava/lang/String;)V"⟩, .declares ⟨"java/lang/Throwable", "<init>", "(Ljava/lang/String;)V"⟩]) (fun w hw => hbg w (xa_RX0_56 w hw)) (by decide +kernel) (vx_c (va_Nw.use rfl (hXW0.1 "java/lang/IllegalArgumentException" (by decide))) (vx_c (va_Nw.use rfl (hXW0.2.1 "java/lang/RuntimeException" (by decide))) (vx_c (va_Nw.use rfl (hXW0.2.1 "java/lang/Exception" (by decide))) (vx_c (va_Nw.use rfl (hXW0.2.1 "java/lang/Throwable" (by decide))) (vx_n)))))) (by decide +kernel) hXW0.2.2.2.2.1 hXW0.2.2.2.2.2 hS (hl.1.trans hml.symm) dX0_append_42 dX0_append_45 dX0_append_46 dX0_append_48 dX0_append_51 (fun x hx => (hEx x hx).elim) (Nat.le_of_ble_eq_true rfl) (Nat.le_of_ble_eq_true rfl) (Nat.le_of_ble_eq_true rfl) (Nat.le_of_ble_eq_true rfl) hlocks (fun t ha hsz hk => ⟨("java/lang/IllegalArgumentException", (A_ring_2, A_buffer_2, A_firstPlace_2, A_forcedPlace_2, A_endPlace_2, A_wordsToFailure_2, A_opened_2)), hw, ⟨rfl, hP.kept (fun k q hq => hk q.1 (hP k q hq).lt), va_K.moved ha hK, hD⟩, Nat.le_trans hS.1 hsz, fun q h1 h2 => (hk q (Nat.lt_of_lt_of_le h1 hS.1)).trans (hS.2.1 q h1 h2)⟩) hS.2.2 (Nat.le_of_ble_eq_true rfl) (Nat.le_of_ble_eq_true rfl)
        · have hw := hw.2 c9
          subst hQQ
          obtain ⟨sa, hsa⟩ := hXW0.2.2.1 (RX0, 54, "kinds are 0 .. 15") (by decide +kernel)
          exact vx_throwS (own := RX0) (cls := "java/lang/IllegalArgumentException") (names := ["java/lang/RuntimeException", "java/lang/Exception"]) hx hb hl9 hown (by decide +kernel) (by decide +kernel) (hbg _ kw_69) (hbg _ kw_70) hsa (vx_hat (L := vx_atS RX0 56 "java/lang/IllegalArgumentException" ["java/lang/RuntimeException", "java/lang/Exception"]) (B := [.castable "java/lang/IllegalArgumentException" "java/lang/IllegalArgumentException", .declares ⟨"java/lang/RuntimeException", "<init>", "(Ljava/lang/String;)V"⟩, .declares ⟨"java/lang/Exception", "<init>", "(Ljava/lang/String;)V"⟩, .declares ⟨"java/lang/Throwable", "<init>", "(Ljava/lang/String;)V"⟩]) (fun w hw => hbg w (xa_RX0_56 w hw)) (by decide +kernel) (vx_c (va_Nw.use rfl (hXW0.1 "java/lang/IllegalArgumentException" (by decide))) (vx_c (va_Nw.use rfl (hXW0.2.1 "java/lang/RuntimeException" (by decide))) (vx_c (va_Nw.use rfl (hXW0.2.1 "java/lang/Exception" (by decide))) (vx_c (va_Nw.use rfl (hXW0.2.1 "java/lang/Throwable" (by decide))) (vx_n)))))) (by decide +kernel) hXW0.2.2.2.2.1 hXW0.2.2.2.2.2 hS (hl.1.trans hml.symm) dX0_append_19 dX0_append_22 dX0_append_23 dX0_append_25 dX0_append_28 (fun x hx => (hEx x hx).elim) (Nat.le_of_ble_eq_true rfl) (Nat.le_of_ble_eq_true rfl) (Nat.le_of_ble_eq_true rfl) (Nat.le_of_ble_eq_true rfl) hlocks (fun t ha hsz hk => ⟨("java/lang/IllegalArgumentException", (A_ring_2, A_buffer_2, A_firstPlace_2, A_forcedPlace_2, A_endPlace_2, A_wordsToFailure_2, A_opened_2)), hw, ⟨rfl, hP.kept (fun k q hq => hk q.1 (hP k q hq).lt), va_K.moved ha hK, hD⟩, Nat.le_trans hS.1 hsz, fun q h1 h2 => (hk q (Nat.lt_of_lt_of_le h1 hS.1)).trans (hS.2.1 q h1 h2)⟩) hS.2.2 (Nat.le_of_ble_eq_true rfl) (Nat.le_of_ble_eq_true rfl)
def wp_X0_force (post : Int32 → St_A → Prop) (px : String → St_A → Prop) (x1 : Int32) (A_ring : Nat → Int32) (A_buffer : Nat → Int32) (A_firstPlace : Int32) (A_forcedPlace : Int32) (A_endPlace : Int32) (A_wordsToFailure : Int32) (A_opened : Int32) : Prop :=
  wp_X0_requireOpen (fun u_1 => match u_1 with | (A_ring_1, A_buffer_1, A_firstPlace_1, A_forcedPlace_1, A_endPlace_1, A_wordsToFailure_1, A_opened_1) => wp_X0_requireRecord (fun u_2 => match u_2 with | (A_ring_2, A_buffer_2, A_firstPlace_2, A_forcedPlace_2, A_endPlace_2, A_wordsToFailure_2, A_opened_2) => wp_X0_behind (fun r_3 => wp_X0_writeUpTo (fun r_4 u_4 => match u_4 with | (A_ring_4, A_buffer_4, A_firstPlace_4, A_forcedPlace_4, A_endPlace_4, A_wordsToFailure_4, A_opened_4) => post r_4 (A_ring_4, A_buffer_4, A_firstPlace_4, A_forcedPlace_4, A_endPlace_4, A_wordsToFailure_4, A_opened_4)) r_3 A_ring_2 A_buffer_2 A_firstPlace_2 A_forcedPlace_2 A_endPlace_2 A_wordsToFailure_2 A_opened_2) x1 A_ring_2 A_buffer_2 A_firstPlace_2 A_forcedPlace_2 A_endPlace_2 A_wordsToFailure_2 A_opened_2) px x1 A_ring_1 A_buffer_1 A_firstPlace_1 A_forcedPlace_1 A_endPlace_1 A_wordsToFailure_1 A_opened_1) px A_ring A_buffer A_firstPlace A_forcedPlace A_endPlace A_wordsToFailure A_opened
set_option maxHeartbeats 4000000 in
set_option maxRecDepth 100000 in
theorem met_X0_force (l : Launch) (hl9 : l.stackTraces = false) (dC : Nat → ClassId) (dI : Nat → Nat → Nat) (qA qA_ring qA_buffer : Nat) (cA_ring cA_buffer : ClassId) (sz : Nat) (A_ring : Nat → Int32) (A_buffer : Nat → Int32) (A_firstPlace : Int32) (A_forcedPlace : Int32) (A_endPlace : Int32) (A_wordsToFailure : Int32) (A_opened : Int32) (x1 : Int32) (post : Int32 → St_A → Prop) (px : String → St_A → Prop) (hw : wp_X0_force post px x1 A_ring A_buffer A_firstPlace A_forcedPlace A_endPlace A_wordsToFailure A_opened) :
    vx_Met l yX0_force wsX0_force ({ frames := 7, cells := 2, slots := 12, locals := 117 } : Room) (pcX_A dC dI qA qA_ring qA_buffer cA_ring cA_buffer sz A_ring A_buffer A_firstPlace A_forcedPlace A_endPlace A_wordsToFailure A_opened [.ref qA, .int x1]) (va_Qi post (at_A dC dI (va_A [(qA, .inr (0, [.ref qA_ring, .ref qA_buffer, .int A_firstPlace, .int A_forcedPlace, .int A_endPlace, .int A_wordsToFailure, .int A_opened])), (qA_ring, .inl (cA_ring, 65536, .inl A_ring)), (qA_buffer, .inl (cA_buffer, 200, .inl A_buffer))] sz) qA qA_ring qA_buffer cA_ring cA_buffer) (va_A [(qA, .inr (0, [.ref qA_ring, .ref qA_buffer, .int A_firstPlace, .int A_forcedPlace, .int A_endPlace, .int A_wordsToFailure, .int A_opened])), (qA_ring, .inl (cA_ring, 65536, .inl A_ring)), (qA_buffer, .inl (cA_buffer, 200, .inl A_buffer))] sz)) (vx_X (fun u => px u.1 u.2) (atx_A dC dI (va_A [(qA, .inr (0, [.ref qA_ring, .ref qA_buffer, .int A_firstPlace, .int A_forcedPlace, .int A_endPlace, .int A_wordsToFailure, .int A_opened])), (qA_ring, .inl (cA_ring, 65536, .inl A_ring)), (qA_buffer, .inl (cA_buffer, 200, .inl A_buffer))] sz) qA qA_ring qA_buffer cA_ring cA_buffer) (va_A [(qA, .inr (0, [.ref qA_ring, .ref qA_buffer, .int A_firstPlace, .int A_forcedPlace, .int A_endPlace, .int A_wordsToFailure, .int A_opened])), (qA_ring, .inl (cA_ring, 65536, .inl A_ring)), (qA_buffer, .inl (cA_buffer, 200, .inl A_buffer))] sz)) 2 12 (va_A [(qA, .inr (0, [.ref qA_ring, .ref qA_buffer, .int A_firstPlace, .int A_forcedPlace, .int A_endPlace, .int A_wordsToFailure, .int A_opened])), (qA_ring, .inl (cA_ring, 65536, .inl A_ring)), (qA_buffer, .inl (cA_buffer, 200, .inl A_buffer))] sz) := by
  refine vx_ofW (cc := cX0_force) (maxL := 2) (ret := (some .int)) (by decide) rfl ?_
  intro p e s m args below meth c s₁ B hml hEx hv
  obtain ⟨hav, hsz, hP, hK, hD0, hXW0⟩ := hv
  have hx := B.exec
  have hb := B.bytes
  have hr := B.returns
  have hts := atoms_spec (ws := wsX0_force) B.pre
  have hbg : ∀ w ∈ bigW, w.before args s = true := fun w h => hts w (List.mem_cons_of_mem _ h)
  have hown : s.vm.findClass RX0 = some m.cls := findClass_of_methodNamed B.named
  have hlocks := B.notSynchronized
  subst hsz
  have hD := hD0.self (sz := s.heap.size)
  generalize hAe : va_A [(qA, .inr (0, [.ref qA_ring, .ref qA_buffer, .int A_firstPlace, .int A_forcedPlace, .int A_endPlace, .int A_wordsToFailure, .int A_opened])), (qA_ring, .inl (cA_ring, 65536, .inl A_ring)), (qA_buffer, .inl (cA_buffer, 200, .inl A_buffer))] s.heap.size = A at hD hXW0 ⊢
  have hA : ∀ q : Nat, s.heap.size ≤ q → A q := fun q h => by rw [← hAe]; exact Or.inr h
  have hS : va_S A s.heap s.heap [] := va_S.rf
  have hP : va_P (dC, dI) vwCl [(qA, .inr (0, [.ref qA_ring, .ref qA_buffer, .int A_firstPlace, .int A_forcedPlace, .int A_endPlace, .int A_wordsToFailure, .int A_opened])), (qA_ring, .inl (cA_ring, 65536, .inl A_ring)), (qA_buffer, .inl (cA_buffer, 200, .inl A_buffer))] s.heap := hP
  generalize hQQ : vx_MQ below (va_Qi post (at_A dC dI A qA qA_ring qA_buffer cA_ring cA_buffer) A) (vx_X (fun u => px u.1 u.2) (atx_A dC dI A qA qA_ring qA_buffer cA_ring cA_buffer) A) args s 2 12 A = QQ
  have hl := lv_entry ([.ref qA, .int x1]) (n := 2) (Nat.le_of_ble_eq_true rfl)
  rw [show entryFrame m args 2 = entryFrame m ([.ref qA, .int x1] : List Value).toArray 2 by rw [hav], lg_entry_eq]
  generalize (lg_sl ([.ref qA, .int x1]) ++ List.replicate (2 - (lg_sl ([.ref qA, .int x1])).length) Slot.unset).toArray = ls at hl ⊢
  have hl : lv_has ls 2 [(0, .ref qA), (1, .int x1)] := hl
  unfold wp_X0_force at hw
  refine lv_aload_n hx hb dX0_force_0 rfl (lv_at hl 0 rfl) ?_
  have hFc := va_free (wc := [(qA, .inr (0, [.ref qA_ring, .ref qA_buffer, .int A_firstPlace, .int A_forcedPlace, .int A_endPlace, .int A_wordsToFailure, .int A_opened])), (qA_ring, .inl (cA_ring, 65536, .inl A_ring)), (qA_buffer, .inl (cA_buffer, 200, .inl A_buffer))]) hD hS hA [0, 1, 2] rfl
  refine vx_callv (vx_runV (As := []) (rest := []) ⟨hx, hb, hml, hown, hbg⟩ (met_X0_requireOpen l hl9 dC dI qA qA_ring qA_buffer cA_ring cA_buffer s.heap.size A_ring A_buffer A_firstPlace A_forcedPlace A_endPlace A_wordsToFailure A_opened  _ _ hw) (cwV 0 hbg g_RX0_34 rfl rfl rfl (by decide +kernel) ⟨Nat.le_of_ble_eq_true rfl, Nat.le_of_ble_eq_true rfl⟩) ⟨pcX_A_b _ _ _ _ _ _ _ _ _ _ _ _ _ _ _ _, va_recv hK hP (ci := 0) (q0 := 0) rfl rfl, fun U hU hW => ⟨rfl, by rw [hU], by rw [hU]; exact hP, va_K.moved hW.alike hK, hD.weaken (fun _ _ _ _ => trivial), XW.go hXW0 hS hFc hU hW⟩⟩ rfl rfl hl.1 rfl (lv_room (Nat.le_of_ble_eq_true rfl)) dX0_force_1 ⟨Nat.le_of_ble_eq_true rfl, Nat.le_of_ble_eq_true rfl⟩) hS (fun q _ h => hFc q h) hFc (fun q _ h => hFc q h) (fun E9 ce9 q9 u9 t9 H_1 locs ht hvm hpx hBX hz1 hk1 hS hce hcv hcl => ?_) (fun u_1 t_1 H_1 locs ht hvm hw hB hz1 hk1 hS => ?_)
  · obtain ⟨E8, A_ring_x1, A_buffer_x1, A_firstPlace_x1, A_forcedPlace_x1, A_endPlace_x1, A_wordsToFailure_x1, A_opened_x1⟩ := u9
    obtain ⟨rfl, hP1, hK1, hD1⟩ := hBX
    rw [ht] at hP1
    have hP : va_P (dC, dI) vwCl [(qA, .inr (0, [.ref qA_ring, .ref qA_buffer, .int A_firstPlace_x1, .int A_forcedPlace_x1, .int A_endPlace_x1, .int A_wordsToFailure_x1, .int A_opened_x1])), (qA_ring, .inl (cA_ring, 65536, .inl A_ring_x1)), (qA_buffer, .inl (cA_buffer, 200, .inl A_buffer_x1))] H_1 := hP1
    have hD : va_D A [(qA, .inr (0, [.ref qA_ring, .ref qA_buffer, .int A_firstPlace_x1, .int A_forcedPlace_x1, .int A_endPlace_x1, .int A_wordsToFailure_x1, .int A_opened_x1])), (qA_ring, .inl (cA_ring, 65536, .inl A_ring_x1)), (qA_buffer, .inl (cA_buffer, 200, .inl A_buffer_x1))] := hD1.weaken (fun _ _ _ h => hFc _ h)
    subst hQQ
    exact vx_out (fun x hx => (hEx x hx).elim) hlocks hce hcv hcl (fun t ht ha => ⟨(E9, (A_ring_x1, A_buffer_x1, A_firstPlace_x1, A_forcedPlace_x1, A_endPlace_x1, A_wordsToFailure_x1, A_opened_x1)), hpx, ⟨rfl, by rw [ht]; exact hP, va_K.moved ha hK, hD⟩, hS.F ht⟩) hS.2.2 (Nat.le_of_ble_eq_true rfl) (Nat.le_of_ble_eq_true rfl)
  · obtain ⟨A_ring_1, A_buffer_1, A_firstPlace_1, A_forcedPlace_1, A_endPlace_1, A_wordsToFailure_1, A_opened_1⟩ := u_1
    obtain ⟨hP1, hK1, hD1⟩ := hB
    rw [ht] at hP1
    try dsimp only at hw
    have hP : va_P (dC, dI) vwCl [(qA, .inr (0, [.ref qA_ring, .ref qA_buffer, .int A_firstPlace_1, .int A_forcedPlace_1, .int A_endPlace_1, .int A_wordsToFailure_1, .int A_opened_1])), (qA_ring, .inl (cA_ring, 65536, .inl A_ring_1)), (qA_buffer, .inl (cA_buffer, 200, .inl A_buffer_1))] H_1 := hP1
    have hD : va_D A [(qA, .inr (0, [.ref qA_ring, .ref qA_buffer, .int A_firstPlace_1, .int A_forcedPlace_1, .int A_endPlace_1, .int A_wordsToFailure_1, .int A_opened_1])), (qA_ring, .inl (cA_ring, 65536, .inl A_ring_1)), (qA_buffer, .inl (cA_buffer, 200, .inl A_buffer_1))] := hD1.weaken (fun _ _ _ h => hFc _ h)
    refine W.widen (k := 1) (n := 6) (Nat.le_of_ble_eq_true rfl) (Nat.le_of_ble_eq_true rfl) ?_
    refine lv_aload_n hx hb dX0_force_4 rfl (lv_at hl 0 rfl) ?_
    refine lv_iload_n hx hb dX0_force_5 rfl (lv_at hl 1 rfl) ?_
    have hFc := va_free (wc := [(qA, .inr (0, [.ref qA_ring, .ref qA_buffer, .int A_firstPlace_1, .int A_forcedPlace_1, .int A_endPlace_1, .int A_wordsToFailure_1, .int A_opened_1])), (qA_ring, .inl (cA_ring, 65536, .inl A_ring_1)), (qA_buffer, .inl (cA_buffer, 200, .inl A_buffer_1))]) hD hS hA [0, 1, 2] rfl
    refine vx_callv (vx_runV (As := [.int x1]) (rest := []) ⟨hx, hb, hml, hown, hbg⟩ (met_X0_requireRecord l hl9 dC dI qA qA_ring qA_buffer cA_ring cA_buffer H_1.size A_ring_1 A_buffer_1 A_firstPlace_1 A_forcedPlace_1 A_endPlace_1 A_wordsToFailure_1 A_opened_1 x1 _ _ hw) (cwV 1 hbg g_RX0_71 rfl rfl rfl (by decide +kernel) ⟨Nat.le_of_ble_eq_true rfl, Nat.le_of_ble_eq_true rfl⟩) ⟨pcX_A_b _ _ _ _ _ _ _ _ _ _ _ _ _ _ _ _, va_recv hK hP (ci := 0) (q0 := 0) rfl rfl, fun U hU hW => ⟨rfl, by rw [hU], by rw [hU]; exact hP, va_K.moved hW.alike hK, hD.weaken (fun _ _ _ _ => trivial), XW.go hXW0 hS hFc hU hW⟩⟩ rfl rfl hl.1 rfl (lv_room (Nat.le_of_ble_eq_true rfl)) dX0_force_6 ⟨Nat.le_of_ble_eq_true rfl, Nat.le_of_ble_eq_true rfl⟩) hS (fun q _ h => hFc q h) hFc (fun q _ h => hFc q h) (fun E9 ce9 q9 u9 t9 H_2 locs ht hvm hpx hBX hz1 hk1 hS hce hcv hcl => ?_) (fun u_2 t_2 H_2 locs ht hvm hw hB hz1 hk1 hS => ?_)
    · obtain ⟨E8, A_ring_x2, A_buffer_x2, A_firstPlace_x2, A_forcedPlace_x2, A_endPlace_x2, A_wordsToFailure_x2, A_opened_x2⟩ := u9
      obtain ⟨rfl, hP1, hK1, hD1⟩ := hBX
      rw [ht] at hP1
      have hP : va_P (dC, dI) vwCl [(qA, .inr (0, [.ref qA_ring, .ref qA_buffer, .int A_firstPlace_x2, .int A_forcedPlace_x2, .int A_endPlace_x2, .int A_wordsToFailure_x2, .int A_opened_x2])), (qA_ring, .inl (cA_ring, 65536, .inl A_ring_x2)), (qA_buffer, .inl (cA_buffer, 200, .inl A_buffer_x2))] H_2 := hP1
      have hD : va_D A [(qA, .inr (0, [.ref qA_ring, .ref qA_buffer, .int A_firstPlace_x2, .int A_forcedPlace_x2, .int A_endPlace_x2, .int A_wordsToFailure_x2, .int A_opened_x2])), (qA_ring, .inl (cA_ring, 65536, .inl A_ring_x2)), (qA_buffer, .inl (cA_buffer, 200, .inl A_buffer_x2))] := hD1.weaken (fun _ _ _ h => hFc _ h)
      subst hQQ
      exact vx_out (fun x hx => (hEx x hx).elim) hlocks hce hcv hcl (fun t ht ha => ⟨(E9, (A_ring_x2, A_buffer_x2, A_firstPlace_x2, A_forcedPlace_x2, A_endPlace_x2, A_wordsToFailure_x2, A_opened_x2)), hpx, ⟨rfl, by rw [ht]; exact hP, va_K.moved ha hK, hD⟩, hS.F ht⟩) hS.2.2 (Nat.le_of_ble_eq_true rfl) (Nat.le_of_ble_eq_true rfl)
    · obtain ⟨A_ring_2, A_buffer_2, A_firstPlace_2, A_forcedPlace_2, A_endPlace_2, A_wordsToFailure_2, A_opened_2⟩ := u_2
      obtain ⟨hP1, hK1, hD1⟩ := hB
      rw [ht] at hP1
      try dsimp only at hw
      have hP : va_P (dC, dI) vwCl [(qA, .inr (0, [.ref qA_ring, .ref qA_buffer, .int A_firstPlace_2, .int A_forcedPlace_2, .int A_endPlace_2, .int A_wordsToFailure_2, .int A_opened_2])), (qA_ring, .inl (cA_ring, 65536, .inl A_ring_2)), (qA_buffer, .inl (cA_buffer, 200, .inl A_buffer_2))] H_2 := hP1
      have hD : va_D A [(qA, .inr (0, [.ref qA_ring, .ref qA_buffer, .int A_firstPlace_2, .int A_forcedPlace_2, .int A_endPlace_2, .int A_wordsToFailure_2, .int A_opened_2])), (qA_ring, .inl (cA_ring, 65536, .inl A_ring_2)), (qA_buffer, .inl (cA_buffer, 200, .inl A_buffer_2))] := hD1.weaken (fun _ _ _ h => hFc _ h)
      refine W.widen (k := 2) (n := 12) (Nat.le_of_ble_eq_true rfl) (Nat.le_of_ble_eq_true rfl) ?_
      refine lv_aload_n hx hb dX0_force_9 rfl (lv_at hl 0 rfl) ?_
      refine lv_aload_n hx hb dX0_force_10 rfl (lv_at hl 0 rfl) ?_
      refine lv_iload_n hx hb dX0_force_11 rfl (lv_at hl 1 rfl) ?_
      refine vp_callSi (W.runV (As := [.int x1]) (rest := [.ref qA]) ⟨hx, hb, hml, hown, hbg⟩ (met_X0_behind l dC dI qA qA_ring qA_buffer cA_ring cA_buffer A_ring_2 A_buffer_2 A_firstPlace_2 A_forcedPlace_2 A_endPlace_2 A_wordsToFailure_2 A_opened_2 x1 _ hw) (cwV 1 hbg g_RX0_74 rfl rfl rfl (by decide +kernel) ⟨Nat.le_of_ble_eq_true rfl, Nat.le_of_ble_eq_true rfl⟩) ⟨pcR_A_b _ _ _ _ _ _ _ _ _ _ _ _ _ _ _, va_recv hK hP (ci := 0) (q0 := 0) rfl rfl, fun U hU hW => ⟨rfl, by rw [hU]; exact hP, va_K.moved hW.alike hK⟩⟩ rfl rfl hl.1 rfl (lv_room (Nat.le_of_ble_eq_true rfl)) dX0_force_12 ⟨Nat.le_of_ble_eq_true rfl, Nat.le_of_ble_eq_true rfl⟩) (fun r_3 hw => ?_)
      try dsimp only at hw
      have hFc := va_free (wc := [(qA, .inr (0, [.ref qA_ring, .ref qA_buffer, .int A_firstPlace_2, .int A_forcedPlace_2, .int A_endPlace_2, .int A_wordsToFailure_2, .int A_opened_2])), (qA_ring, .inl (cA_ring, 65536, .inl A_ring_2)), (qA_buffer, .inl (cA_buffer, 200, .inl A_buffer_2))]) hD hS hA [0, 1, 2] rfl
      refine va_calli (va_runV (As := [.int r_3]) (rest := []) ⟨hx, hb, hml, hown, hbg⟩ (met_X0_writeUpTo l dC dI qA qA_ring qA_buffer cA_ring cA_buffer H_2.size A_ring_2 A_buffer_2 A_firstPlace_2 A_forcedPlace_2 A_endPlace_2 A_wordsToFailure_2 A_opened_2 r_3 _ hw) (cwV 1 hbg g_RX0_77 rfl rfl rfl (by decide +kernel) ⟨Nat.le_of_ble_eq_true rfl, Nat.le_of_ble_eq_true rfl⟩) ⟨pcW_A_b _ _ _ _ _ _ _ _ _ _ _ _ _ _ _ _, va_recv hK hP (ci := 0) (q0 := 0) rfl rfl, fun U hU hW => ⟨rfl, by rw [hU], by rw [hU]; exact hP, va_K.moved hW.alike hK, hD.weaken (fun _ _ _ _ => trivial)⟩⟩ rfl rfl hl.1 rfl (lv_room (Nat.le_of_ble_eq_true rfl)) dX0_force_15 ⟨Nat.le_of_ble_eq_true rfl, Nat.le_of_ble_eq_true rfl⟩) hS (fun q _ h => hFc q h) hFc (fun r_4 u_4 t_4 H_4 locs ht hvm hw hB hz1 hk1 hS => ?_)
      obtain ⟨A_ring_4, A_buffer_4, A_firstPlace_4, A_forcedPlace_4, A_endPlace_4, A_wordsToFailure_4, A_opened_4⟩ := u_4
      obtain ⟨hP1, hK1, hD1⟩ := hB
      rw [ht] at hP1
      try dsimp only at hw
      have hP : va_P (dC, dI) vwCl [(qA, .inr (0, [.ref qA_ring, .ref qA_buffer, .int A_firstPlace_4, .int A_forcedPlace_4, .int A_endPlace_4, .int A_wordsToFailure_4, .int A_opened_4])), (qA_ring, .inl (cA_ring, 65536, .inl A_ring_4)), (qA_buffer, .inl (cA_buffer, 200, .inl A_buffer_4))] H_4 := hP1
      have hD : va_D A [(qA, .inr (0, [.ref qA_ring, .ref qA_buffer, .int A_firstPlace_4, .int A_forcedPlace_4, .int A_endPlace_4, .int A_wordsToFailure_4, .int A_opened_4])), (qA_ring, .inl (cA_ring, 65536, .inl A_ring_4)), (qA_buffer, .inl (cA_buffer, 200, .inl A_buffer_4))] := hD1.weaken (fun _ _ _ h => hFc _ h)
      subst hQQ
      refine W.widen (k := 2) (n := 12) (Nat.le_of_ble_eq_true rfl) (Nat.le_of_ble_eq_true rfl) ?_
      refine vx_ret ?_
      exact W.iret (v := r_4) hx hb hr (fun t ht hW => ⟨⟨r_4, (A_ring_4, A_buffer_4, A_firstPlace_4, A_forcedPlace_4, A_endPlace_4, A_wordsToFailure_4, A_opened_4), rfl, hw, by rw [ht]; exact hP, va_K.moved hW.alike hK, hD⟩, hS.F ht⟩) hS.2.2 dX0_force_18
def wp_X0_forceAll (post : Int32 → St_A → Prop) (px : String → St_A → Prop) (A_ring : Nat → Int32) (A_buffer : Nat → Int32) (A_firstPlace : Int32) (A_forcedPlace : Int32) (A_endPlace : Int32) (A_wordsToFailure : Int32) (A_opened : Int32) : Prop :=
  wp_X0_requireOpen (fun u_1 => match u_1 with | (A_ring_1, A_buffer_1, A_firstPlace_1, A_forcedPlace_1, A_endPlace_1, A_wordsToFailure_1, A_opened_1) => wp_X0_writeUpTo (fun r_2 u_2 => match u_2 with | (A_ring_2, A_buffer_2, A_firstPlace_2, A_forcedPlace_2, A_endPlace_2, A_wordsToFailure_2, A_opened_2) => post r_2 (A_ring_2, A_buffer_2, A_firstPlace_2, A_forcedPlace_2, A_endPlace_2, A_wordsToFailure_2, A_opened_2)) A_endPlace_1 A_ring_1 A_buffer_1 A_firstPlace_1 A_forcedPlace_1 A_endPlace_1 A_wordsToFailure_1 A_opened_1) px A_ring A_buffer A_firstPlace A_forcedPlace A_endPlace A_wordsToFailure A_opened
set_option maxHeartbeats 4000000 in
set_option maxRecDepth 100000 in
theorem met_X0_forceAll (l : Launch) (hl9 : l.stackTraces = false) (dC : Nat → ClassId) (dI : Nat → Nat → Nat) (qA qA_ring qA_buffer : Nat) (cA_ring cA_buffer : ClassId) (sz : Nat) (A_ring : Nat → Int32) (A_buffer : Nat → Int32) (A_firstPlace : Int32) (A_forcedPlace : Int32) (A_endPlace : Int32) (A_wordsToFailure : Int32) (A_opened : Int32) (post : Int32 → St_A → Prop) (px : String → St_A → Prop) (hw : wp_X0_forceAll post px A_ring A_buffer A_firstPlace A_forcedPlace A_endPlace A_wordsToFailure A_opened) :
    vx_Met l yX0_forceAll wsX0_forceAll ({ frames := 7, cells := 1, slots := 6, locals := 116 } : Room) (pcX_A dC dI qA qA_ring qA_buffer cA_ring cA_buffer sz A_ring A_buffer A_firstPlace A_forcedPlace A_endPlace A_wordsToFailure A_opened [.ref qA]) (va_Qi post (at_A dC dI (va_A [(qA, .inr (0, [.ref qA_ring, .ref qA_buffer, .int A_firstPlace, .int A_forcedPlace, .int A_endPlace, .int A_wordsToFailure, .int A_opened])), (qA_ring, .inl (cA_ring, 65536, .inl A_ring)), (qA_buffer, .inl (cA_buffer, 200, .inl A_buffer))] sz) qA qA_ring qA_buffer cA_ring cA_buffer) (va_A [(qA, .inr (0, [.ref qA_ring, .ref qA_buffer, .int A_firstPlace, .int A_forcedPlace, .int A_endPlace, .int A_wordsToFailure, .int A_opened])), (qA_ring, .inl (cA_ring, 65536, .inl A_ring)), (qA_buffer, .inl (cA_buffer, 200, .inl A_buffer))] sz)) (vx_X (fun u => px u.1 u.2) (atx_A dC dI (va_A [(qA, .inr (0, [.ref qA_ring, .ref qA_buffer, .int A_firstPlace, .int A_forcedPlace, .int A_endPlace, .int A_wordsToFailure, .int A_opened])), (qA_ring, .inl (cA_ring, 65536, .inl A_ring)), (qA_buffer, .inl (cA_buffer, 200, .inl A_buffer))] sz) qA qA_ring qA_buffer cA_ring cA_buffer) (va_A [(qA, .inr (0, [.ref qA_ring, .ref qA_buffer, .int A_firstPlace, .int A_forcedPlace, .int A_endPlace, .int A_wordsToFailure, .int A_opened])), (qA_ring, .inl (cA_ring, 65536, .inl A_ring)), (qA_buffer, .inl (cA_buffer, 200, .inl A_buffer))] sz)) 1 6 (va_A [(qA, .inr (0, [.ref qA_ring, .ref qA_buffer, .int A_firstPlace, .int A_forcedPlace, .int A_endPlace, .int A_wordsToFailure, .int A_opened])), (qA_ring, .inl (cA_ring, 65536, .inl A_ring)), (qA_buffer, .inl (cA_buffer, 200, .inl A_buffer))] sz) := by
  refine vx_ofW (cc := cX0_forceAll) (maxL := 1) (ret := (some .int)) (by decide) rfl ?_
  intro p e s m args below meth c s₁ B hml hEx hv
  obtain ⟨hav, hsz, hP, hK, hD0, hXW0⟩ := hv
  have hx := B.exec
  have hb := B.bytes
  have hr := B.returns
  have hts := atoms_spec (ws := wsX0_forceAll) B.pre
  have hbg : ∀ w ∈ bigW, w.before args s = true := fun w h => hts w (List.mem_cons_of_mem _ h)
  have hown : s.vm.findClass RX0 = some m.cls := findClass_of_methodNamed B.named
  have hlocks := B.notSynchronized
  subst hsz
  have hD := hD0.self (sz := s.heap.size)
  generalize hAe : va_A [(qA, .inr (0, [.ref qA_ring, .ref qA_buffer, .int A_firstPlace, .int A_forcedPlace, .int A_endPlace, .int A_wordsToFailure, .int A_opened])), (qA_ring, .inl (cA_ring, 65536, .inl A_ring)), (qA_buffer, .inl (cA_buffer, 200, .inl A_buffer))] s.heap.size = A at hD hXW0 ⊢
  have hA : ∀ q : Nat, s.heap.size ≤ q → A q := fun q h => by rw [← hAe]; exact Or.inr h
  have hS : va_S A s.heap s.heap [] := va_S.rf
  have hP : va_P (dC, dI) vwCl [(qA, .inr (0, [.ref qA_ring, .ref qA_buffer, .int A_firstPlace, .int A_forcedPlace, .int A_endPlace, .int A_wordsToFailure, .int A_opened])), (qA_ring, .inl (cA_ring, 65536, .inl A_ring)), (qA_buffer, .inl (cA_buffer, 200, .inl A_buffer))] s.heap := hP
  generalize hQQ : vx_MQ below (va_Qi post (at_A dC dI A qA qA_ring qA_buffer cA_ring cA_buffer) A) (vx_X (fun u => px u.1 u.2) (atx_A dC dI A qA qA_ring qA_buffer cA_ring cA_buffer) A) args s 1 6 A = QQ
  have hl := lv_entry ([.ref qA]) (n := 1) (Nat.le_of_ble_eq_true rfl)
  rw [show entryFrame m args 1 = entryFrame m ([.ref qA] : List Value).toArray 1 by rw [hav], lg_entry_eq]
  generalize (lg_sl ([.ref qA]) ++ List.replicate (1 - (lg_sl ([.ref qA])).length) Slot.unset).toArray = ls at hl ⊢
  have hl : lv_has ls 1 [(0, .ref qA)] := hl
  unfold wp_X0_forceAll at hw
  refine lv_aload_n hx hb dX0_forceAll_0 rfl (lv_at hl 0 rfl) ?_
  have hFc := va_free (wc := [(qA, .inr (0, [.ref qA_ring, .ref qA_buffer, .int A_firstPlace, .int A_forcedPlace, .int A_endPlace, .int A_wordsToFailure, .int A_opened])), (qA_ring, .inl (cA_ring, 65536, .inl A_ring)), (qA_buffer, .inl (cA_buffer, 200, .inl A_buffer))]) hD hS hA [0, 1, 2] rfl
  refine vx_callv (vx_runV (As := []) (rest := []) ⟨hx, hb, hml, hown, hbg⟩ (met_X0_requireOpen l hl9 dC dI qA qA_ring qA_buffer cA_ring cA_buffer s.heap.size A_ring A_buffer A_firstPlace A_forcedPlace A_endPlace A_wordsToFailure A_opened  _ _ hw) (cwV 0 hbg g_RX0_34 rfl rfl rfl (by decide +kernel) ⟨Nat.le_of_ble_eq_true rfl, Nat.le_of_ble_eq_true rfl⟩) ⟨pcX_A_b _ _ _ _ _ _ _ _ _ _ _ _ _ _ _ _, va_recv hK hP (ci := 0) (q0 := 0) rfl rfl, fun U hU hW => ⟨rfl, by rw [hU], by rw [hU]; exact hP, va_K.moved hW.alike hK, hD.weaken (fun _ _ _ _ => trivial), XW.go hXW0 hS hFc hU hW⟩⟩ rfl rfl hl.1 rfl (lv_room (Nat.le_of_ble_eq_true rfl)) dX0_forceAll_1 ⟨Nat.le_of_ble_eq_true rfl, Nat.le_of_ble_eq_true rfl⟩) hS (fun q _ h => hFc q h) hFc (fun q _ h => hFc q h) (fun E9 ce9 q9 u9 t9 H_1 locs ht hvm hpx hBX hz1 hk1 hS hce hcv hcl => ?_) (fun u_1 t_1 H_1 locs ht hvm hw hB hz1 hk1 hS => ?_)
  · obtain ⟨E8, A_ring_x1, A_buffer_x1, A_firstPlace_x1, A_forcedPlace_x1, A_endPlace_x1, A_wordsToFailure_x1, A_opened_x1⟩ := u9
    obtain ⟨rfl, hP1, hK1, hD1⟩ := hBX
    rw [ht] at hP1
    have hP : va_P (dC, dI) vwCl [(qA, .inr (0, [.ref qA_ring, .ref qA_buffer, .int A_firstPlace_x1, .int A_forcedPlace_x1, .int A_endPlace_x1, .int A_wordsToFailure_x1, .int A_opened_x1])), (qA_ring, .inl (cA_ring, 65536, .inl A_ring_x1)), (qA_buffer, .inl (cA_buffer, 200, .inl A_buffer_x1))] H_1 := hP1
    have hD : va_D A [(qA, .inr (0, [.ref qA_ring, .ref qA_buffer, .int A_firstPlace_x1, .int A_forcedPlace_x1, .int A_endPlace_x1, .int A_wordsToFailure_x1, .int A_opened_x1])), (qA_ring, .inl (cA_ring, 65536, .inl A_ring_x1)), (qA_buffer, .inl (cA_buffer, 200, .inl A_buffer_x1))] := hD1.weaken (fun _ _ _ h => hFc _ h)
    subst hQQ
    exact vx_out (fun x hx => (hEx x hx).elim) hlocks hce hcv hcl (fun t ht ha => ⟨(E9, (A_ring_x1, A_buffer_x1, A_firstPlace_x1, A_forcedPlace_x1, A_endPlace_x1, A_wordsToFailure_x1, A_opened_x1)), hpx, ⟨rfl, by rw [ht]; exact hP, va_K.moved ha hK, hD⟩, hS.F ht⟩) hS.2.2 (Nat.le_of_ble_eq_true rfl) (Nat.le_of_ble_eq_true rfl)
  · obtain ⟨A_ring_1, A_buffer_1, A_firstPlace_1, A_forcedPlace_1, A_endPlace_1, A_wordsToFailure_1, A_opened_1⟩ := u_1
    obtain ⟨hP1, hK1, hD1⟩ := hB
    rw [ht] at hP1
    try dsimp only at hw
    have hP : va_P (dC, dI) vwCl [(qA, .inr (0, [.ref qA_ring, .ref qA_buffer, .int A_firstPlace_1, .int A_forcedPlace_1, .int A_endPlace_1, .int A_wordsToFailure_1, .int A_opened_1])), (qA_ring, .inl (cA_ring, 65536, .inl A_ring_1)), (qA_buffer, .inl (cA_buffer, 200, .inl A_buffer_1))] H_1 := hP1
    have hD : va_D A [(qA, .inr (0, [.ref qA_ring, .ref qA_buffer, .int A_firstPlace_1, .int A_forcedPlace_1, .int A_endPlace_1, .int A_wordsToFailure_1, .int A_opened_1])), (qA_ring, .inl (cA_ring, 65536, .inl A_ring_1)), (qA_buffer, .inl (cA_buffer, 200, .inl A_buffer_1))] := hD1.weaken (fun _ _ _ h => hFc _ h)
    refine W.widen (k := 1) (n := 6) (Nat.le_of_ble_eq_true rfl) (Nat.le_of_ble_eq_true rfl) ?_
    refine lv_aload_n hx hb dX0_forceAll_4 rfl (lv_at hl 0 rfl) ?_
    refine lv_aload_n hx hb dX0_forceAll_5 rfl (lv_at hl 0 rfl) ?_
    refine va_get (D := (dC, dI)) (ci := 0) (v := .int A_endPlace_1) (C := RX0) (T := TX0) (N := 7) hx hb hbg in_X0 hown hK hP 0 rfl rfl 4 (by decide) (hbg _ kw_12) (fun _ h9 => h9) rfl dX0_forceAll_6 ?_
    have hFc := va_free (wc := [(qA, .inr (0, [.ref qA_ring, .ref qA_buffer, .int A_firstPlace_1, .int A_forcedPlace_1, .int A_endPlace_1, .int A_wordsToFailure_1, .int A_opened_1])), (qA_ring, .inl (cA_ring, 65536, .inl A_ring_1)), (qA_buffer, .inl (cA_buffer, 200, .inl A_buffer_1))]) hD hS hA [0, 1, 2] rfl
    refine va_calli (va_runV (As := [.int A_endPlace_1]) (rest := []) ⟨hx, hb, hml, hown, hbg⟩ (met_X0_writeUpTo l dC dI qA qA_ring qA_buffer cA_ring cA_buffer H_1.size A_ring_1 A_buffer_1 A_firstPlace_1 A_forcedPlace_1 A_endPlace_1 A_wordsToFailure_1 A_opened_1 A_endPlace_1 _ hw) (cwV 1 hbg g_RX0_77 rfl rfl rfl (by decide +kernel) ⟨Nat.le_of_ble_eq_true rfl, Nat.le_of_ble_eq_true rfl⟩) ⟨pcW_A_b _ _ _ _ _ _ _ _ _ _ _ _ _ _ _ _, va_recv hK hP (ci := 0) (q0 := 0) rfl rfl, fun U hU hW => ⟨rfl, by rw [hU], by rw [hU]; exact hP, va_K.moved hW.alike hK, hD.weaken (fun _ _ _ _ => trivial)⟩⟩ rfl rfl hl.1 rfl (lv_room (Nat.le_of_ble_eq_true rfl)) dX0_forceAll_9 ⟨Nat.le_of_ble_eq_true rfl, Nat.le_of_ble_eq_true rfl⟩) hS (fun q _ h => hFc q h) hFc (fun r_2 u_2 t_2 H_2 locs ht hvm hw hB hz1 hk1 hS => ?_)
    obtain ⟨A_ring_2, A_buffer_2, A_firstPlace_2, A_forcedPlace_2, A_endPlace_2, A_wordsToFailure_2, A_opened_2⟩ := u_2
    obtain ⟨hP1, hK1, hD1⟩ := hB
    rw [ht] at hP1
    try dsimp only at hw
    have hP : va_P (dC, dI) vwCl [(qA, .inr (0, [.ref qA_ring, .ref qA_buffer, .int A_firstPlace_2, .int A_forcedPlace_2, .int A_endPlace_2, .int A_wordsToFailure_2, .int A_opened_2])), (qA_ring, .inl (cA_ring, 65536, .inl A_ring_2)), (qA_buffer, .inl (cA_buffer, 200, .inl A_buffer_2))] H_2 := hP1
    have hD : va_D A [(qA, .inr (0, [.ref qA_ring, .ref qA_buffer, .int A_firstPlace_2, .int A_forcedPlace_2, .int A_endPlace_2, .int A_wordsToFailure_2, .int A_opened_2])), (qA_ring, .inl (cA_ring, 65536, .inl A_ring_2)), (qA_buffer, .inl (cA_buffer, 200, .inl A_buffer_2))] := hD1.weaken (fun _ _ _ h => hFc _ h)
    subst hQQ
    refine W.widen (k := 1) (n := 6) (Nat.le_of_ble_eq_true rfl) (Nat.le_of_ble_eq_true rfl) ?_
    refine vx_ret ?_
    exact W.iret (v := r_2) hx hb hr (fun t ht hW => ⟨⟨r_2, (A_ring_2, A_buffer_2, A_firstPlace_2, A_forcedPlace_2, A_endPlace_2, A_wordsToFailure_2, A_opened_2), rfl, hw, by rw [ht]; exact hP, va_K.moved hW.alike hK, hD⟩, hS.F ht⟩) hS.2.2 dX0_forceAll_12
def wp_X0_giveBack (post : Int32 → St_A → Prop) (px : String → St_A → Prop) (x1 : Int32) (A_ring : Nat → Int32) (A_buffer : Nat → Int32) (A_firstPlace : Int32) (A_forcedPlace : Int32) (A_endPlace : Int32) (A_wordsToFailure : Int32) (A_opened : Int32) : Prop :=
  wp_X0_requireOpen (fun u_1 => match u_1 with | (A_ring_1, A_buffer_1, A_firstPlace_1, A_forcedPlace_1, A_endPlace_1, A_wordsToFailure_1, A_opened_1) => wp_X0_requireRecord (fun u_2 => match u_2 with | (A_ring_2, A_buffer_2, A_firstPlace_2, A_forcedPlace_2, A_endPlace_2, A_wordsToFailure_2, A_opened_2) => wp_X0_behind (fun r_3 => ((r_3 ≤ A_forcedPlace_2 → post (x1 - A_firstPlace_2) (A_ring_2, A_buffer_2, x1, A_forcedPlace_2, A_endPlace_2, A_wordsToFailure_2, A_opened_2)) ∧ (¬ r_3 ≤ A_forcedPlace_2 → px "java/lang/IllegalStateException" (A_ring_2, A_buffer_2, A_firstPlace_2, A_forcedPlace_2, A_endPlace_2, A_wordsToFailure_2, A_opened_2)))) x1 A_ring_2 A_buffer_2 A_firstPlace_2 A_forcedPlace_2 A_endPlace_2 A_wordsToFailure_2 A_opened_2) px x1 A_ring_1 A_buffer_1 A_firstPlace_1 A_forcedPlace_1 A_endPlace_1 A_wordsToFailure_1 A_opened_1) px A_ring A_buffer A_firstPlace A_forcedPlace A_endPlace A_wordsToFailure A_opened
set_option maxHeartbeats 4000000 in
set_option maxRecDepth 100000 in
theorem met_X0_giveBack (l : Launch) (hl9 : l.stackTraces = false) (dC : Nat → ClassId) (dI : Nat → Nat → Nat) (qA qA_ring qA_buffer : Nat) (cA_ring cA_buffer : ClassId) (sz : Nat) (A_ring : Nat → Int32) (A_buffer : Nat → Int32) (A_firstPlace : Int32) (A_forcedPlace : Int32) (A_endPlace : Int32) (A_wordsToFailure : Int32) (A_opened : Int32) (x1 : Int32) (post : Int32 → St_A → Prop) (px : String → St_A → Prop) (hw : wp_X0_giveBack post px x1 A_ring A_buffer A_firstPlace A_forcedPlace A_endPlace A_wordsToFailure A_opened) :
    vx_Met l yX0_giveBack wsX0_giveBack ({ frames := 7, cells := 3, slots := 18, locals := 117 } : Room) (pcX_A dC dI qA qA_ring qA_buffer cA_ring cA_buffer sz A_ring A_buffer A_firstPlace A_forcedPlace A_endPlace A_wordsToFailure A_opened [.ref qA, .int x1]) (va_Qi post (at_A dC dI (va_A [(qA, .inr (0, [.ref qA_ring, .ref qA_buffer, .int A_firstPlace, .int A_forcedPlace, .int A_endPlace, .int A_wordsToFailure, .int A_opened])), (qA_ring, .inl (cA_ring, 65536, .inl A_ring)), (qA_buffer, .inl (cA_buffer, 200, .inl A_buffer))] sz) qA qA_ring qA_buffer cA_ring cA_buffer) (va_A [(qA, .inr (0, [.ref qA_ring, .ref qA_buffer, .int A_firstPlace, .int A_forcedPlace, .int A_endPlace, .int A_wordsToFailure, .int A_opened])), (qA_ring, .inl (cA_ring, 65536, .inl A_ring)), (qA_buffer, .inl (cA_buffer, 200, .inl A_buffer))] sz)) (vx_X (fun u => px u.1 u.2) (atx_A dC dI (va_A [(qA, .inr (0, [.ref qA_ring, .ref qA_buffer, .int A_firstPlace, .int A_forcedPlace, .int A_endPlace, .int A_wordsToFailure, .int A_opened])), (qA_ring, .inl (cA_ring, 65536, .inl A_ring)), (qA_buffer, .inl (cA_buffer, 200, .inl A_buffer))] sz) qA qA_ring qA_buffer cA_ring cA_buffer) (va_A [(qA, .inr (0, [.ref qA_ring, .ref qA_buffer, .int A_firstPlace, .int A_forcedPlace, .int A_endPlace, .int A_wordsToFailure, .int A_opened])), (qA_ring, .inl (cA_ring, 65536, .inl A_ring)), (qA_buffer, .inl (cA_buffer, 200, .inl A_buffer))] sz)) 3 18 (va_A [(qA, .inr (0, [.ref qA_ring, .ref qA_buffer, .int A_firstPlace, .int A_forcedPlace, .int A_endPlace, .int A_wordsToFailure, .int A_opened])), (qA_ring, .inl (cA_ring, 65536, .inl A_ring)), (qA_buffer, .inl (cA_buffer, 200, .inl A_buffer))] sz) := by
  refine vx_ofW (cc := cX0_giveBack) (maxL := 3) (ret := (some .int)) (by decide) rfl ?_
  intro p e s m args below meth c s₁ B hml hEx hv
  obtain ⟨hav, hsz, hP, hK, hD0, hXW0⟩ := hv
  have hx := B.exec
  have hb := B.bytes
  have hr := B.returns
  have hts := atoms_spec (ws := wsX0_giveBack) B.pre
  have hbg : ∀ w ∈ bigW, w.before args s = true := fun w h => hts w (List.mem_cons_of_mem _ h)
  have hown : s.vm.findClass RX0 = some m.cls := findClass_of_methodNamed B.named
  have hlocks := B.notSynchronized
  subst hsz
  have hD := hD0.self (sz := s.heap.size)
  generalize hAe : va_A [(qA, .inr (0, [.ref qA_ring, .ref qA_buffer, .int A_firstPlace, .int A_forcedPlace, .int A_endPlace, .int A_wordsToFailure, .int A_opened])), (qA_ring, .inl (cA_ring, 65536, .inl A_ring)), (qA_buffer, .inl (cA_buffer, 200, .inl A_buffer))] s.heap.size = A at hD hXW0 ⊢
  have hA : ∀ q : Nat, s.heap.size ≤ q → A q := fun q h => by rw [← hAe]; exact Or.inr h
  have hS : va_S A s.heap s.heap [] := va_S.rf
  have hP : va_P (dC, dI) vwCl [(qA, .inr (0, [.ref qA_ring, .ref qA_buffer, .int A_firstPlace, .int A_forcedPlace, .int A_endPlace, .int A_wordsToFailure, .int A_opened])), (qA_ring, .inl (cA_ring, 65536, .inl A_ring)), (qA_buffer, .inl (cA_buffer, 200, .inl A_buffer))] s.heap := hP
  generalize hQQ : vx_MQ below (va_Qi post (at_A dC dI A qA qA_ring qA_buffer cA_ring cA_buffer) A) (vx_X (fun u => px u.1 u.2) (atx_A dC dI A qA qA_ring qA_buffer cA_ring cA_buffer) A) args s 3 18 A = QQ
  have hl := lv_entry ([.ref qA, .int x1]) (n := 3) (Nat.le_of_ble_eq_true rfl)
  rw [show entryFrame m args 3 = entryFrame m ([.ref qA, .int x1] : List Value).toArray 3 by rw [hav], lg_entry_eq]
  generalize (lg_sl ([.ref qA, .int x1]) ++ List.replicate (3 - (lg_sl ([.ref qA, .int x1])).length) Slot.unset).toArray = ls at hl ⊢
  have hl : lv_has ls 3 [(0, .ref qA), (1, .int x1)] := hl
  unfold wp_X0_giveBack at hw
  refine lv_aload_n hx hb dX0_giveBack_0 rfl (lv_at hl 0 rfl) ?_
  have hFc := va_free (wc := [(qA, .inr (0, [.ref qA_ring, .ref qA_buffer, .int A_firstPlace, .int A_forcedPlace, .int A_endPlace, .int A_wordsToFailure, .int A_opened])), (qA_ring, .inl (cA_ring, 65536, .inl A_ring)), (qA_buffer, .inl (cA_buffer, 200, .inl A_buffer))]) hD hS hA [0, 1, 2] rfl
  refine vx_callv (vx_runV (As := []) (rest := []) ⟨hx, hb, hml, hown, hbg⟩ (met_X0_requireOpen l hl9 dC dI qA qA_ring qA_buffer cA_ring cA_buffer s.heap.size A_ring A_buffer A_firstPlace A_forcedPlace A_endPlace A_wordsToFailure A_opened  _ _ hw) (cwV 0 hbg g_RX0_34 rfl rfl rfl (by decide +kernel) ⟨Nat.le_of_ble_eq_true rfl, Nat.le_of_ble_eq_true rfl⟩) ⟨pcX_A_b _ _ _ _ _ _ _ _ _ _ _ _ _ _ _ _, va_recv hK hP (ci := 0) (q0 := 0) rfl rfl, fun U hU hW => ⟨rfl, by rw [hU], by rw [hU]; exact hP, va_K.moved hW.alike hK, hD.weaken (fun _ _ _ _ => trivial), XW.go hXW0 hS hFc hU hW⟩⟩ rfl rfl hl.1 rfl (lv_room (Nat.le_of_ble_eq_true rfl)) dX0_giveBack_1 ⟨Nat.le_of_ble_eq_true rfl, Nat.le_of_ble_eq_true rfl⟩) hS (fun q _ h => hFc q h) hFc (fun q _ h => hFc q h) (fun E9 ce9 q9 u9 t9 H_1 locs ht hvm hpx hBX hz1 hk1 hS hce hcv hcl => ?_) (fun u_1 t_1 H_1 locs ht hvm hw hB hz1 hk1 hS => ?_)
  · obtain ⟨E8, A_ring_x1, A_buffer_x1, A_firstPlace_x1, A_forcedPlace_x1, A_endPlace_x1, A_wordsToFailure_x1, A_opened_x1⟩ := u9
    obtain ⟨rfl, hP1, hK1, hD1⟩ := hBX
    rw [ht] at hP1
    have hP : va_P (dC, dI) vwCl [(qA, .inr (0, [.ref qA_ring, .ref qA_buffer, .int A_firstPlace_x1, .int A_forcedPlace_x1, .int A_endPlace_x1, .int A_wordsToFailure_x1, .int A_opened_x1])), (qA_ring, .inl (cA_ring, 65536, .inl A_ring_x1)), (qA_buffer, .inl (cA_buffer, 200, .inl A_buffer_x1))] H_1 := hP1
    have hD : va_D A [(qA, .inr (0, [.ref qA_ring, .ref qA_buffer, .int A_firstPlace_x1, .int A_forcedPlace_x1, .int A_endPlace_x1, .int A_wordsToFailure_x1, .int A_opened_x1])), (qA_ring, .inl (cA_ring, 65536, .inl A_ring_x1)), (qA_buffer, .inl (cA_buffer, 200, .inl A_buffer_x1))] := hD1.weaken (fun _ _ _ h => hFc _ h)
    subst hQQ
    exact vx_out (fun x hx => (hEx x hx).elim) hlocks hce hcv hcl (fun t ht ha => ⟨(E9, (A_ring_x1, A_buffer_x1, A_firstPlace_x1, A_forcedPlace_x1, A_endPlace_x1, A_wordsToFailure_x1, A_opened_x1)), hpx, ⟨rfl, by rw [ht]; exact hP, va_K.moved ha hK, hD⟩, hS.F ht⟩) hS.2.2 (Nat.le_of_ble_eq_true rfl) (Nat.le_of_ble_eq_true rfl)
  · obtain ⟨A_ring_1, A_buffer_1, A_firstPlace_1, A_forcedPlace_1, A_endPlace_1, A_wordsToFailure_1, A_opened_1⟩ := u_1
    obtain ⟨hP1, hK1, hD1⟩ := hB
    rw [ht] at hP1
    try dsimp only at hw
    have hP : va_P (dC, dI) vwCl [(qA, .inr (0, [.ref qA_ring, .ref qA_buffer, .int A_firstPlace_1, .int A_forcedPlace_1, .int A_endPlace_1, .int A_wordsToFailure_1, .int A_opened_1])), (qA_ring, .inl (cA_ring, 65536, .inl A_ring_1)), (qA_buffer, .inl (cA_buffer, 200, .inl A_buffer_1))] H_1 := hP1
    have hD : va_D A [(qA, .inr (0, [.ref qA_ring, .ref qA_buffer, .int A_firstPlace_1, .int A_forcedPlace_1, .int A_endPlace_1, .int A_wordsToFailure_1, .int A_opened_1])), (qA_ring, .inl (cA_ring, 65536, .inl A_ring_1)), (qA_buffer, .inl (cA_buffer, 200, .inl A_buffer_1))] := hD1.weaken (fun _ _ _ h => hFc _ h)
    refine W.widen (k := 1) (n := 6) (Nat.le_of_ble_eq_true rfl) (Nat.le_of_ble_eq_true rfl) ?_
    refine lv_aload_n hx hb dX0_giveBack_4 rfl (lv_at hl 0 rfl) ?_
    refine lv_iload_n hx hb dX0_giveBack_5 rfl (lv_at hl 1 rfl) ?_
    have hFc := va_free (wc := [(qA, .inr (0, [.ref qA_ring, .ref qA_buffer, .int A_firstPlace_1, .int A_forcedPlace_1, .int A_endPlace_1, .int A_wordsToFailure_1, .int A_opened_1])), (qA_ring, .inl (cA_ring, 65536, .inl A_ring_1)), (qA_buffer, .inl (cA_buffer, 200, .inl A_buffer_1))]) hD hS hA [0, 1, 2] rfl
    refine vx_callv (vx_runV (As := [.int x1]) (rest := []) ⟨hx, hb, hml, hown, hbg⟩ (met_X0_requireRecord l hl9 dC dI qA qA_ring qA_buffer cA_ring cA_buffer H_1.size A_ring_1 A_buffer_1 A_firstPlace_1 A_forcedPlace_1 A_endPlace_1 A_wordsToFailure_1 A_opened_1 x1 _ _ hw) (cwV 1 hbg g_RX0_71 rfl rfl rfl (by decide +kernel) ⟨Nat.le_of_ble_eq_true rfl, Nat.le_of_ble_eq_true rfl⟩) ⟨pcX_A_b _ _ _ _ _ _ _ _ _ _ _ _ _ _ _ _, va_recv hK hP (ci := 0) (q0 := 0) rfl rfl, fun U hU hW => ⟨rfl, by rw [hU], by rw [hU]; exact hP, va_K.moved hW.alike hK, hD.weaken (fun _ _ _ _ => trivial), XW.go hXW0 hS hFc hU hW⟩⟩ rfl rfl hl.1 rfl (lv_room (Nat.le_of_ble_eq_true rfl)) dX0_giveBack_6 ⟨Nat.le_of_ble_eq_true rfl, Nat.le_of_ble_eq_true rfl⟩) hS (fun q _ h => hFc q h) hFc (fun q _ h => hFc q h) (fun E9 ce9 q9 u9 t9 H_2 locs ht hvm hpx hBX hz1 hk1 hS hce hcv hcl => ?_) (fun u_2 t_2 H_2 locs ht hvm hw hB hz1 hk1 hS => ?_)
    · obtain ⟨E8, A_ring_x2, A_buffer_x2, A_firstPlace_x2, A_forcedPlace_x2, A_endPlace_x2, A_wordsToFailure_x2, A_opened_x2⟩ := u9
      obtain ⟨rfl, hP1, hK1, hD1⟩ := hBX
      rw [ht] at hP1
      have hP : va_P (dC, dI) vwCl [(qA, .inr (0, [.ref qA_ring, .ref qA_buffer, .int A_firstPlace_x2, .int A_forcedPlace_x2, .int A_endPlace_x2, .int A_wordsToFailure_x2, .int A_opened_x2])), (qA_ring, .inl (cA_ring, 65536, .inl A_ring_x2)), (qA_buffer, .inl (cA_buffer, 200, .inl A_buffer_x2))] H_2 := hP1
      have hD : va_D A [(qA, .inr (0, [.ref qA_ring, .ref qA_buffer, .int A_firstPlace_x2, .int A_forcedPlace_x2, .int A_endPlace_x2, .int A_wordsToFailure_x2, .int A_opened_x2])), (qA_ring, .inl (cA_ring, 65536, .inl A_ring_x2)), (qA_buffer, .inl (cA_buffer, 200, .inl A_buffer_x2))] := hD1.weaken (fun _ _ _ h => hFc _ h)
      subst hQQ
      exact vx_out (fun x hx => (hEx x hx).elim) hlocks hce hcv hcl (fun t ht ha => ⟨(E9, (A_ring_x2, A_buffer_x2, A_firstPlace_x2, A_forcedPlace_x2, A_endPlace_x2, A_wordsToFailure_x2, A_opened_x2)), hpx, ⟨rfl, by rw [ht]; exact hP, va_K.moved ha hK, hD⟩, hS.F ht⟩) hS.2.2 (Nat.le_of_ble_eq_true rfl) (Nat.le_of_ble_eq_true rfl)
    · obtain ⟨A_ring_2, A_buffer_2, A_firstPlace_2, A_forcedPlace_2, A_endPlace_2, A_wordsToFailure_2, A_opened_2⟩ := u_2
      obtain ⟨hP1, hK1, hD1⟩ := hB
      rw [ht] at hP1
      try dsimp only at hw
      have hP : va_P (dC, dI) vwCl [(qA, .inr (0, [.ref qA_ring, .ref qA_buffer, .int A_firstPlace_2, .int A_forcedPlace_2, .int A_endPlace_2, .int A_wordsToFailure_2, .int A_opened_2])), (qA_ring, .inl (cA_ring, 65536, .inl A_ring_2)), (qA_buffer, .inl (cA_buffer, 200, .inl A_buffer_2))] H_2 := hP1
      have hD : va_D A [(qA, .inr (0, [.ref qA_ring, .ref qA_buffer, .int A_firstPlace_2, .int A_forcedPlace_2, .int A_endPlace_2, .int A_wordsToFailure_2, .int A_opened_2])), (qA_ring, .inl (cA_ring, 65536, .inl A_ring_2)), (qA_buffer, .inl (cA_buffer, 200, .inl A_buffer_2))] := hD1.weaken (fun _ _ _ h => hFc _ h)
      refine W.widen (k := 2) (n := 12) (Nat.le_of_ble_eq_true rfl) (Nat.le_of_ble_eq_true rfl) ?_
      refine lv_aload_n hx hb dX0_giveBack_9 rfl (lv_at hl 0 rfl) ?_
      refine lv_iload_n hx hb dX0_giveBack_10 rfl (lv_at hl 1 rfl) ?_
      refine vp_callSi (W.runV (As := [.int x1]) (rest := []) ⟨hx, hb, hml, hown, hbg⟩ (met_X0_behind l dC dI qA qA_ring qA_buffer cA_ring cA_buffer A_ring_2 A_buffer_2 A_firstPlace_2 A_forcedPlace_2 A_endPlace_2 A_wordsToFailure_2 A_opened_2 x1 _ hw) (cwV 1 hbg g_RX0_74 rfl rfl rfl (by decide +kernel) ⟨Nat.le_of_ble_eq_true rfl, Nat.le_of_ble_eq_true rfl⟩) ⟨pcR_A_b _ _ _ _ _ _ _ _ _ _ _ _ _ _ _, va_recv hK hP (ci := 0) (q0 := 0) rfl rfl, fun U hU hW => ⟨rfl, by rw [hU]; exact hP, va_K.moved hW.alike hK⟩⟩ rfl rfl hl.1 rfl (lv_room (Nat.le_of_ble_eq_true rfl)) dX0_giveBack_11 ⟨Nat.le_of_ble_eq_true rfl, Nat.le_of_ble_eq_true rfl⟩) (fun r_3 hw => ?_)
      try dsimp only at hw
      refine lv_aload_n hx hb dX0_giveBack_14 rfl (lv_at hl 0 rfl) ?_
      refine va_get (D := (dC, dI)) (ci := 0) (v := .int A_forcedPlace_2) (C := RX0) (T := TX0) (N := 7) hx hb hbg in_X0 hown hK hP 0 rfl rfl 3 (by decide) (hbg _ kw_51) (fun _ h9 => h9) rfl dX0_giveBack_15 ?_
      refine lv_icmp_le (tgt := 31) hx hb dX0_giveBack_18 (by decide) (fun c9 => ?_) (fun c9 => ?_)
      · have hw := hw.1 c9
        refine lv_iload_n hx hb dX0_giveBack_31 rfl (lv_at hl 1 rfl) ?_
        refine lv_aload_n hx hb dX0_giveBack_32 rfl (lv_at hl 0 rfl) ?_
        refine va_get (D := (dC, dI)) (ci := 0) (v := .int A_firstPlace_2) (C := RX0) (T := TX0) (N := 7) hx hb hbg in_X0 hown hK hP 0 rfl rfl 2 (by decide) (hbg _ kw_2) (fun _ h9 => h9) rfl dX0_giveBack_33 ?_
        refine lv_isub hx hb dX0_giveBack_36 ?_
        refine lv_istore_n (lv' := [(2, .int (x1 - A_firstPlace_2)), (0, .ref qA), (1, .int x1)]) hx hb dX0_giveBack_37 rfl hl (by decide) rfl (fun ls hl => ?_)
        refine lv_aload_n hx hb dX0_giveBack_38 rfl (lv_at hl 1 rfl) ?_
        refine lv_iload_n hx hb dX0_giveBack_39 rfl (lv_at hl 2 rfl) ?_
        refine va_put (D := (dC, dI)) (ci := 0) (v := .int x1) (ty := .int) (C := RX0) (T := TX0) (N := 7) hx hb hbg in_X0 tyX0 tyX0_ok nmX0 hown hK hP hD hS 0 rfl rfl 2 (by decide) (hbg _ kw_2) (fun _ h9 => h9) rfl (by decide +kernel) rfl rfl (Nat.le_of_ble_eq_true rfl) dX0_giveBack_40 (fun H_4 locs hP hD hS => ?_)
        have hP : va_P (dC, dI) vwCl [(qA, .inr (0, [.ref qA_ring, .ref qA_buffer, .int x1, .int A_forcedPlace_2, .int A_endPlace_2, .int A_wordsToFailure_2, .int A_opened_2])), (qA_ring, .inl (cA_ring, 65536, .inl A_ring_2)), (qA_buffer, .inl (cA_buffer, 200, .inl A_buffer_2))] H_4 := hP
        have hD : va_D A [(qA, .inr (0, [.ref qA_ring, .ref qA_buffer, .int x1, .int A_forcedPlace_2, .int A_endPlace_2, .int A_wordsToFailure_2, .int A_opened_2])), (qA_ring, .inl (cA_ring, 65536, .inl A_ring_2)), (qA_buffer, .inl (cA_buffer, 200, .inl A_buffer_2))] := hD
        refine lv_iload_n hx hb dX0_giveBack_43 rfl (lv_at hl 0 rfl) ?_
        subst hQQ
        refine W.widen (k := 3) (n := 18) (Nat.le_of_ble_eq_true rfl) (Nat.le_of_ble_eq_true rfl) ?_
        refine vx_ret ?_
        exact W.iret (v := x1 - A_firstPlace_2) hx hb hr (fun t ht hW => ⟨⟨x1 - A_firstPlace_2, (A_ring_2, A_buffer_2, x1, A_forcedPlace_2, A_endPlace_2, A_wordsToFailure_2, A_opened_2), rfl, hw, by rw [ht]; exact hP, va_K.moved hW.alike hK, hD⟩, hS.F ht⟩) hS.2.2 dX0_giveBack_44
      · have hw := hw.2 c9
        subst hQQ
        obtain ⟨sa, hsa⟩ := hXW0.2.2.1 (RX0, 82, "the record is not wholly forced") (by decide +kernel)
        exact vx_throwS (own := RX0) (cls := "java/lang/IllegalStateException") (names := ["java/lang/RuntimeException", "java/lang/Exception"]) hx hb hl9 hown (by decide +kernel) (by decide +kernel) (hbg _ kw_67) (hbg _ kw_68) hsa (vx_hat (L := vx_atS RX0 84 "java/lang/IllegalStateException" ["java/lang/RuntimeException", "java/lang/Exception"]) (B := [.castable "java/lang/IllegalStateException" "java/lang/IllegalStateException", .declares ⟨"java/lang/RuntimeException", "<init>", "(Ljava/lang/String;)V"⟩, .declares ⟨"java/lang/Exception", "<init>", "(Ljava/lang/String;)V"⟩, .declares ⟨"java/lang/Throwable", "<init>", "(Ljava/lang/String;)V"⟩]) (fun w hw => hbg w (xa_RX0_84 w hw)) (by decide +kernel) (vx_c (va_Nw.use rfl (hXW0.1 "java/lang/IllegalStateException" (by decide))) (vx_c (va_Nw.use rfl (hXW0.2.1 "java/lang/RuntimeException" (by decide))) (vx_c (va_Nw.use rfl (hXW0.2.1 "java/lang/Exception" (by decide))) (vx_c (va_Nw.use rfl (hXW0.2.1 "java/lang/Throwable" (by decide))) (vx_n)))))) (by decide +kernel) hXW0.2.2.2.2.1 hXW0.2.2.2.2.2 hS (hl.1.trans hml.symm) dX0_giveBack_21 dX0_giveBack_24 dX0_giveBack_25 dX0_giveBack_27 dX0_giveBack_30 (fun x hx => (hEx x hx).elim) (Nat.le_of_ble_eq_true rfl) (Nat.le_of_ble_eq_true rfl) (Nat.le_of_ble_eq_true rfl) (Nat.le_of_ble_eq_true rfl) hlocks (fun t ha hsz hk => ⟨("java/lang/IllegalStateException", (A_ring_2, A_buffer_2, A_firstPlace_2, A_forcedPlace_2, A_endPlace_2, A_wordsToFailure_2, A_opened_2)), hw, ⟨rfl, hP.kept (fun k q hq => hk q.1 (hP k q hq).lt), va_K.moved ha hK, hD⟩, Nat.le_trans hS.1 hsz, fun q h1 h2 => (hk q (Nat.lt_of_lt_of_le h1 hS.1)).trans (hS.2.1 q h1 h2)⟩) hS.2.2 (Nat.le_of_ble_eq_true rfl) (Nat.le_of_ble_eq_true rfl)
def wp_X0_first (post : Int32 → St_A → Prop) (px : String → St_A → Prop) (A_ring : Nat → Int32) (A_buffer : Nat → Int32) (A_firstPlace : Int32) (A_forcedPlace : Int32) (A_endPlace : Int32) (A_wordsToFailure : Int32) (A_opened : Int32) : Prop :=
  wp_X0_requireOpen (fun u_1 => match u_1 with | (A_ring_1, A_buffer_1, A_firstPlace_1, A_forcedPlace_1, A_endPlace_1, A_wordsToFailure_1, A_opened_1) => wp_X0_firstRecordFrom (fun r_2 => post r_2 (A_ring_1, A_buffer_1, A_firstPlace_1, A_forcedPlace_1, A_endPlace_1, A_wordsToFailure_1, A_opened_1)) A_firstPlace_1 A_ring_1 A_buffer_1 A_firstPlace_1 A_forcedPlace_1 A_endPlace_1 A_wordsToFailure_1 A_opened_1) px A_ring A_buffer A_firstPlace A_forcedPlace A_endPlace A_wordsToFailure A_opened
set_option maxHeartbeats 4000000 in
set_option maxRecDepth 100000 in
theorem met_X0_first (l : Launch) (hl9 : l.stackTraces = false) (dC : Nat → ClassId) (dI : Nat → Nat → Nat) (qA qA_ring qA_buffer : Nat) (cA_ring cA_buffer : ClassId) (sz : Nat) (A_ring : Nat → Int32) (A_buffer : Nat → Int32) (A_firstPlace : Int32) (A_forcedPlace : Int32) (A_endPlace : Int32) (A_wordsToFailure : Int32) (A_opened : Int32) (post : Int32 → St_A → Prop) (px : String → St_A → Prop) (hw : wp_X0_first post px A_ring A_buffer A_firstPlace A_forcedPlace A_endPlace A_wordsToFailure A_opened) :
    vx_Met l yX0_first wsX0_first ({ frames := 7, cells := 1, slots := 6, locals := 116 } : Room) (pcX_A dC dI qA qA_ring qA_buffer cA_ring cA_buffer sz A_ring A_buffer A_firstPlace A_forcedPlace A_endPlace A_wordsToFailure A_opened [.ref qA]) (va_Qi post (at_A dC dI (va_A [(qA, .inr (0, [.ref qA_ring, .ref qA_buffer, .int A_firstPlace, .int A_forcedPlace, .int A_endPlace, .int A_wordsToFailure, .int A_opened])), (qA_ring, .inl (cA_ring, 65536, .inl A_ring)), (qA_buffer, .inl (cA_buffer, 200, .inl A_buffer))] sz) qA qA_ring qA_buffer cA_ring cA_buffer) (va_A [(qA, .inr (0, [.ref qA_ring, .ref qA_buffer, .int A_firstPlace, .int A_forcedPlace, .int A_endPlace, .int A_wordsToFailure, .int A_opened])), (qA_ring, .inl (cA_ring, 65536, .inl A_ring)), (qA_buffer, .inl (cA_buffer, 200, .inl A_buffer))] sz)) (vx_X (fun u => px u.1 u.2) (atx_A dC dI (va_A [(qA, .inr (0, [.ref qA_ring, .ref qA_buffer, .int A_firstPlace, .int A_forcedPlace, .int A_endPlace, .int A_wordsToFailure, .int A_opened])), (qA_ring, .inl (cA_ring, 65536, .inl A_ring)), (qA_buffer, .inl (cA_buffer, 200, .inl A_buffer))] sz) qA qA_ring qA_buffer cA_ring cA_buffer) (va_A [(qA, .inr (0, [.ref qA_ring, .ref qA_buffer, .int A_firstPlace, .int A_forcedPlace, .int A_endPlace, .int A_wordsToFailure, .int A_opened])), (qA_ring, .inl (cA_ring, 65536, .inl A_ring)), (qA_buffer, .inl (cA_buffer, 200, .inl A_buffer))] sz)) 1 6 (va_A [(qA, .inr (0, [.ref qA_ring, .ref qA_buffer, .int A_firstPlace, .int A_forcedPlace, .int A_endPlace, .int A_wordsToFailure, .int A_opened])), (qA_ring, .inl (cA_ring, 65536, .inl A_ring)), (qA_buffer, .inl (cA_buffer, 200, .inl A_buffer))] sz) := by
  refine vx_ofW (cc := cX0_first) (maxL := 1) (ret := (some .int)) (by decide) rfl ?_
  intro p e s m args below meth c s₁ B hml hEx hv
  obtain ⟨hav, hsz, hP, hK, hD0, hXW0⟩ := hv
  have hx := B.exec
  have hb := B.bytes
  have hr := B.returns
  have hts := atoms_spec (ws := wsX0_first) B.pre
  have hbg : ∀ w ∈ bigW, w.before args s = true := fun w h => hts w (List.mem_cons_of_mem _ h)
  have hown : s.vm.findClass RX0 = some m.cls := findClass_of_methodNamed B.named
  have hlocks := B.notSynchronized
  subst hsz
  have hD := hD0.self (sz := s.heap.size)
  generalize hAe : va_A [(qA, .inr (0, [.ref qA_ring, .ref qA_buffer, .int A_firstPlace, .int A_forcedPlace, .int A_endPlace, .int A_wordsToFailure, .int A_opened])), (qA_ring, .inl (cA_ring, 65536, .inl A_ring)), (qA_buffer, .inl (cA_buffer, 200, .inl A_buffer))] s.heap.size = A at hD hXW0 ⊢
  have hA : ∀ q : Nat, s.heap.size ≤ q → A q := fun q h => by rw [← hAe]; exact Or.inr h
  have hS : va_S A s.heap s.heap [] := va_S.rf
  have hP : va_P (dC, dI) vwCl [(qA, .inr (0, [.ref qA_ring, .ref qA_buffer, .int A_firstPlace, .int A_forcedPlace, .int A_endPlace, .int A_wordsToFailure, .int A_opened])), (qA_ring, .inl (cA_ring, 65536, .inl A_ring)), (qA_buffer, .inl (cA_buffer, 200, .inl A_buffer))] s.heap := hP
  generalize hQQ : vx_MQ below (va_Qi post (at_A dC dI A qA qA_ring qA_buffer cA_ring cA_buffer) A) (vx_X (fun u => px u.1 u.2) (atx_A dC dI A qA qA_ring qA_buffer cA_ring cA_buffer) A) args s 1 6 A = QQ
  have hl := lv_entry ([.ref qA]) (n := 1) (Nat.le_of_ble_eq_true rfl)
  rw [show entryFrame m args 1 = entryFrame m ([.ref qA] : List Value).toArray 1 by rw [hav], lg_entry_eq]
  generalize (lg_sl ([.ref qA]) ++ List.replicate (1 - (lg_sl ([.ref qA])).length) Slot.unset).toArray = ls at hl ⊢
  have hl : lv_has ls 1 [(0, .ref qA)] := hl
  unfold wp_X0_first at hw
  refine lv_aload_n hx hb dX0_first_0 rfl (lv_at hl 0 rfl) ?_
  have hFc := va_free (wc := [(qA, .inr (0, [.ref qA_ring, .ref qA_buffer, .int A_firstPlace, .int A_forcedPlace, .int A_endPlace, .int A_wordsToFailure, .int A_opened])), (qA_ring, .inl (cA_ring, 65536, .inl A_ring)), (qA_buffer, .inl (cA_buffer, 200, .inl A_buffer))]) hD hS hA [0, 1, 2] rfl
  refine vx_callv (vx_runV (As := []) (rest := []) ⟨hx, hb, hml, hown, hbg⟩ (met_X0_requireOpen l hl9 dC dI qA qA_ring qA_buffer cA_ring cA_buffer s.heap.size A_ring A_buffer A_firstPlace A_forcedPlace A_endPlace A_wordsToFailure A_opened  _ _ hw) (cwV 0 hbg g_RX0_34 rfl rfl rfl (by decide +kernel) ⟨Nat.le_of_ble_eq_true rfl, Nat.le_of_ble_eq_true rfl⟩) ⟨pcX_A_b _ _ _ _ _ _ _ _ _ _ _ _ _ _ _ _, va_recv hK hP (ci := 0) (q0 := 0) rfl rfl, fun U hU hW => ⟨rfl, by rw [hU], by rw [hU]; exact hP, va_K.moved hW.alike hK, hD.weaken (fun _ _ _ _ => trivial), XW.go hXW0 hS hFc hU hW⟩⟩ rfl rfl hl.1 rfl (lv_room (Nat.le_of_ble_eq_true rfl)) dX0_first_1 ⟨Nat.le_of_ble_eq_true rfl, Nat.le_of_ble_eq_true rfl⟩) hS (fun q _ h => hFc q h) hFc (fun q _ h => hFc q h) (fun E9 ce9 q9 u9 t9 H_1 locs ht hvm hpx hBX hz1 hk1 hS hce hcv hcl => ?_) (fun u_1 t_1 H_1 locs ht hvm hw hB hz1 hk1 hS => ?_)
  · obtain ⟨E8, A_ring_x1, A_buffer_x1, A_firstPlace_x1, A_forcedPlace_x1, A_endPlace_x1, A_wordsToFailure_x1, A_opened_x1⟩ := u9
    obtain ⟨rfl, hP1, hK1, hD1⟩ := hBX
    rw [ht] at hP1
    have hP : va_P (dC, dI) vwCl [(qA, .inr (0, [.ref qA_ring, .ref qA_buffer, .int A_firstPlace_x1, .int A_forcedPlace_x1, .int A_endPlace_x1, .int A_wordsToFailure_x1, .int A_opened_x1])), (qA_ring, .inl (cA_ring, 65536, .inl A_ring_x1)), (qA_buffer, .inl (cA_buffer, 200, .inl A_buffer_x1))] H_1 := hP1
    have hD : va_D A [(qA, .inr (0, [.ref qA_ring, .ref qA_buffer, .int A_firstPlace_x1, .int A_forcedPlace_x1, .int A_endPlace_x1, .int A_wordsToFailure_x1, .int A_opened_x1])), (qA_ring, .inl (cA_ring, 65536, .inl A_ring_x1)), (qA_buffer, .inl (cA_buffer, 200, .inl A_buffer_x1))] := hD1.weaken (fun _ _ _ h => hFc _ h)
    subst hQQ
    exact vx_out (fun x hx => (hEx x hx).elim) hlocks hce hcv hcl (fun t ht ha => ⟨(E9, (A_ring_x1, A_buffer_x1, A_firstPlace_x1, A_forcedPlace_x1, A_endPlace_x1, A_wordsToFailure_x1, A_opened_x1)), hpx, ⟨rfl, by rw [ht]; exact hP, va_K.moved ha hK, hD⟩, hS.F ht⟩) hS.2.2 (Nat.le_of_ble_eq_true rfl) (Nat.le_of_ble_eq_true rfl)
  · obtain ⟨A_ring_1, A_buffer_1, A_firstPlace_1, A_forcedPlace_1, A_endPlace_1, A_wordsToFailure_1, A_opened_1⟩ := u_1
    obtain ⟨hP1, hK1, hD1⟩ := hB
    rw [ht] at hP1
    try dsimp only at hw
    have hP : va_P (dC, dI) vwCl [(qA, .inr (0, [.ref qA_ring, .ref qA_buffer, .int A_firstPlace_1, .int A_forcedPlace_1, .int A_endPlace_1, .int A_wordsToFailure_1, .int A_opened_1])), (qA_ring, .inl (cA_ring, 65536, .inl A_ring_1)), (qA_buffer, .inl (cA_buffer, 200, .inl A_buffer_1))] H_1 := hP1
    have hD : va_D A [(qA, .inr (0, [.ref qA_ring, .ref qA_buffer, .int A_firstPlace_1, .int A_forcedPlace_1, .int A_endPlace_1, .int A_wordsToFailure_1, .int A_opened_1])), (qA_ring, .inl (cA_ring, 65536, .inl A_ring_1)), (qA_buffer, .inl (cA_buffer, 200, .inl A_buffer_1))] := hD1.weaken (fun _ _ _ h => hFc _ h)
    refine W.widen (k := 1) (n := 6) (Nat.le_of_ble_eq_true rfl) (Nat.le_of_ble_eq_true rfl) ?_
    refine lv_aload_n hx hb dX0_first_4 rfl (lv_at hl 0 rfl) ?_
    refine lv_aload_n hx hb dX0_first_5 rfl (lv_at hl 0 rfl) ?_
    refine va_get (D := (dC, dI)) (ci := 0) (v := .int A_firstPlace_1) (C := RX0) (T := TX0) (N := 7) hx hb hbg in_X0 hown hK hP 0 rfl rfl 2 (by decide) (hbg _ kw_2) (fun _ h9 => h9) rfl dX0_first_6 ?_
    refine vp_callSi (W.runV (As := [.int A_firstPlace_1]) (rest := []) ⟨hx, hb, hml, hown, hbg⟩ (met_X0_firstRecordFrom l dC dI qA qA_ring qA_buffer cA_ring cA_buffer A_ring_1 A_buffer_1 A_firstPlace_1 A_forcedPlace_1 A_endPlace_1 A_wordsToFailure_1 A_opened_1 A_firstPlace_1 _ hw) (cwV 1 hbg g_RX0_85 rfl rfl rfl (by decide +kernel) ⟨Nat.le_of_ble_eq_true rfl, Nat.le_of_ble_eq_true rfl⟩) ⟨pcR_A_b _ _ _ _ _ _ _ _ _ _ _ _ _ _ _, va_recv hK hP (ci := 0) (q0 := 0) rfl rfl, fun U hU hW => ⟨rfl, by rw [hU]; exact hP, va_K.moved hW.alike hK⟩⟩ rfl rfl hl.1 rfl (lv_room (Nat.le_of_ble_eq_true rfl)) dX0_first_9 ⟨Nat.le_of_ble_eq_true rfl, Nat.le_of_ble_eq_true rfl⟩) (fun r_2 hw => ?_)
    try dsimp only at hw
    subst hQQ
    refine W.widen (k := 1) (n := 6) (Nat.le_of_ble_eq_true rfl) (Nat.le_of_ble_eq_true rfl) ?_
    refine vx_ret ?_
    exact W.iret (v := r_2) hx hb hr (fun t ht hW => ⟨⟨r_2, (A_ring_1, A_buffer_1, A_firstPlace_1, A_forcedPlace_1, A_endPlace_1, A_wordsToFailure_1, A_opened_1), rfl, hw, by rw [ht]; exact hP, va_K.moved hW.alike hK, hD⟩, hS.F ht⟩) hS.2.2 dX0_first_12
def wp_X0_last (post : Int32 → St_A → Prop) (px : String → St_A → Prop) (A_ring : Nat → Int32) (A_buffer : Nat → Int32) (A_firstPlace : Int32) (A_forcedPlace : Int32) (A_endPlace : Int32) (A_wordsToFailure : Int32) (A_opened : Int32) : Prop :=
  wp_X0_requireOpen (fun u_1 => match u_1 with | (A_ring_1, A_buffer_1, A_firstPlace_1, A_forcedPlace_1, A_endPlace_1, A_wordsToFailure_1, A_opened_1) => wp_X0_lastRecordBefore (fun r_2 => post r_2 (A_ring_1, A_buffer_1, A_firstPlace_1, A_forcedPlace_1, A_endPlace_1, A_wordsToFailure_1, A_opened_1)) A_endPlace_1 A_ring_1 A_buffer_1 A_firstPlace_1 A_forcedPlace_1 A_endPlace_1 A_wordsToFailure_1 A_opened_1) px A_ring A_buffer A_firstPlace A_forcedPlace A_endPlace A_wordsToFailure A_opened
set_option maxHeartbeats 4000000 in
set_option maxRecDepth 100000 in
theorem met_X0_last (l : Launch) (hl9 : l.stackTraces = false) (dC : Nat → ClassId) (dI : Nat → Nat → Nat) (qA qA_ring qA_buffer : Nat) (cA_ring cA_buffer : ClassId) (sz : Nat) (A_ring : Nat → Int32) (A_buffer : Nat → Int32) (A_firstPlace : Int32) (A_forcedPlace : Int32) (A_endPlace : Int32) (A_wordsToFailure : Int32) (A_opened : Int32) (post : Int32 → St_A → Prop) (px : String → St_A → Prop) (hw : wp_X0_last post px A_ring A_buffer A_firstPlace A_forcedPlace A_endPlace A_wordsToFailure A_opened) :
    vx_Met l yX0_last wsX0_last ({ frames := 7, cells := 1, slots := 6, locals := 116 } : Room) (pcX_A dC dI qA qA_ring qA_buffer cA_ring cA_buffer sz A_ring A_buffer A_firstPlace A_forcedPlace A_endPlace A_wordsToFailure A_opened [.ref qA]) (va_Qi post (at_A dC dI (va_A [(qA, .inr (0, [.ref qA_ring, .ref qA_buffer, .int A_firstPlace, .int A_forcedPlace, .int A_endPlace, .int A_wordsToFailure, .int A_opened])), (qA_ring, .inl (cA_ring, 65536, .inl A_ring)), (qA_buffer, .inl (cA_buffer, 200, .inl A_buffer))] sz) qA qA_ring qA_buffer cA_ring cA_buffer) (va_A [(qA, .inr (0, [.ref qA_ring, .ref qA_buffer, .int A_firstPlace, .int A_forcedPlace, .int A_endPlace, .int A_wordsToFailure, .int A_opened])), (qA_ring, .inl (cA_ring, 65536, .inl A_ring)), (qA_buffer, .inl (cA_buffer, 200, .inl A_buffer))] sz)) (vx_X (fun u => px u.1 u.2) (atx_A dC dI (va_A [(qA, .inr (0, [.ref qA_ring, .ref qA_buffer, .int A_firstPlace, .int A_forcedPlace, .int A_endPlace, .int A_wordsToFailure, .int A_opened])), (qA_ring, .inl (cA_ring, 65536, .inl A_ring)), (qA_buffer, .inl (cA_buffer, 200, .inl A_buffer))] sz) qA qA_ring qA_buffer cA_ring cA_buffer) (va_A [(qA, .inr (0, [.ref qA_ring, .ref qA_buffer, .int A_firstPlace, .int A_forcedPlace, .int A_endPlace, .int A_wordsToFailure, .int A_opened])), (qA_ring, .inl (cA_ring, 65536, .inl A_ring)), (qA_buffer, .inl (cA_buffer, 200, .inl A_buffer))] sz)) 1 6 (va_A [(qA, .inr (0, [.ref qA_ring, .ref qA_buffer, .int A_firstPlace, .int A_forcedPlace, .int A_endPlace, .int A_wordsToFailure, .int A_opened])), (qA_ring, .inl (cA_ring, 65536, .inl A_ring)), (qA_buffer, .inl (cA_buffer, 200, .inl A_buffer))] sz) := by
  refine vx_ofW (cc := cX0_last) (maxL := 1) (ret := (some .int)) (by decide) rfl ?_
  intro p e s m args below meth c s₁ B hml hEx hv
  obtain ⟨hav, hsz, hP, hK, hD0, hXW0⟩ := hv
  have hx := B.exec
  have hb := B.bytes
  have hr := B.returns
  have hts := atoms_spec (ws := wsX0_last) B.pre
  have hbg : ∀ w ∈ bigW, w.before args s = true := fun w h => hts w (List.mem_cons_of_mem _ h)
  have hown : s.vm.findClass RX0 = some m.cls := findClass_of_methodNamed B.named
  have hlocks := B.notSynchronized
  subst hsz
  have hD := hD0.self (sz := s.heap.size)
  generalize hAe : va_A [(qA, .inr (0, [.ref qA_ring, .ref qA_buffer, .int A_firstPlace, .int A_forcedPlace, .int A_endPlace, .int A_wordsToFailure, .int A_opened])), (qA_ring, .inl (cA_ring, 65536, .inl A_ring)), (qA_buffer, .inl (cA_buffer, 200, .inl A_buffer))] s.heap.size = A at hD hXW0 ⊢
  have hA : ∀ q : Nat, s.heap.size ≤ q → A q := fun q h => by rw [← hAe]; exact Or.inr h
  have hS : va_S A s.heap s.heap [] := va_S.rf
  have hP : va_P (dC, dI) vwCl [(qA, .inr (0, [.ref qA_ring, .ref qA_buffer, .int A_firstPlace, .int A_forcedPlace, .int A_endPlace, .int A_wordsToFailure, .int A_opened])), (qA_ring, .inl (cA_ring, 65536, .inl A_ring)), (qA_buffer, .inl (cA_buffer, 200, .inl A_buffer))] s.heap := hP
  generalize hQQ : vx_MQ below (va_Qi post (at_A dC dI A qA qA_ring qA_buffer cA_ring cA_buffer) A) (vx_X (fun u => px u.1 u.2) (atx_A dC dI A qA qA_ring qA_buffer cA_ring cA_buffer) A) args s 1 6 A = QQ
  have hl := lv_entry ([.ref qA]) (n := 1) (Nat.le_of_ble_eq_true rfl)
  rw [show entryFrame m args 1 = entryFrame m ([.ref qA] : List Value).toArray 1 by rw [hav], lg_entry_eq]
  generalize (lg_sl ([.ref qA]) ++ List.replicate (1 - (lg_sl ([.ref qA])).length) Slot.unset).toArray = ls at hl ⊢
  have hl : lv_has ls 1 [(0, .ref qA)] := hl
  unfold wp_X0_last at hw
  refine lv_aload_n hx hb dX0_last_0 rfl (lv_at hl 0 rfl) ?_
  have hFc := va_free (wc := [(qA, .inr (0, [.ref qA_ring, .ref qA_buffer, .int A_firstPlace, .int A_forcedPlace, .int A_endPlace, .int A_wordsToFailure, .int A_opened])), (qA_ring, .inl (cA_ring, 65536, .inl A_ring)), (qA_buffer, .inl (cA_buffer, 200, .inl A_buffer))]) hD hS hA [0, 1, 2] rfl
  refine vx_callv (vx_runV (As := []) (rest := []) ⟨hx, hb, hml, hown, hbg⟩ (met_X0_requireOpen l hl9 dC dI qA qA_ring qA_buffer cA_ring cA_buffer s.heap.size A_ring A_buffer A_firstPlace A_forcedPlace A_endPlace A_wordsToFailure A_opened  _ _ hw) (cwV 0 hbg g_RX0_34 rfl rfl rfl (by decide +kernel) ⟨Nat.le_of_ble_eq_true rfl, Nat.le_of_ble_eq_true rfl⟩) ⟨pcX_A_b _ _ _ _ _ _ _ _ _ _ _ _ _ _ _ _, va_recv hK hP (ci := 0) (q0 := 0) rfl rfl, fun U hU hW => ⟨rfl, by rw [hU], by rw [hU]; exact hP, va_K.moved hW.alike hK, hD.weaken (fun _ _ _ _ => trivial), XW.go hXW0 hS hFc hU hW⟩⟩ rfl rfl hl.1 rfl (lv_room (Nat.le_of_ble_eq_true rfl)) dX0_last_1 ⟨Nat.le_of_ble_eq_true rfl, Nat.le_of_ble_eq_true rfl⟩) hS (fun q _ h => hFc q h) hFc (fun q _ h => hFc q h) (fun E9 ce9 q9 u9 t9 H_1 locs ht hvm hpx hBX hz1 hk1 hS hce hcv hcl => ?_) (fun u_1 t_1 H_1 locs ht hvm hw hB hz1 hk1 hS => ?_)
  · obtain ⟨E8, A_ring_x1, A_buffer_x1, A_firstPlace_x1, A_forcedPlace_x1, A_endPlace_x1, A_wordsToFailure_x1, A_opened_x1⟩ := u9
    obtain ⟨rfl, hP1, hK1, hD1⟩ := hBX
    rw [ht] at hP1
    have hP : va_P (dC, dI) vwCl [(qA, .inr (0, [.ref qA_ring, .ref qA_buffer, .int A_firstPlace_x1, .int A_forcedPlace_x1, .int A_endPlace_x1, .int A_wordsToFailure_x1, .int A_opened_x1])), (qA_ring, .inl (cA_ring, 65536, .inl A_ring_x1)), (qA_buffer, .inl (cA_buffer, 200, .inl A_buffer_x1))] H_1 := hP1
    have hD : va_D A [(qA, .inr (0, [.ref qA_ring, .ref qA_buffer, .int A_firstPlace_x1, .int A_forcedPlace_x1, .int A_endPlace_x1, .int A_wordsToFailure_x1, .int A_opened_x1])), (qA_ring, .inl (cA_ring, 65536, .inl A_ring_x1)), (qA_buffer, .inl (cA_buffer, 200, .inl A_buffer_x1))] := hD1.weaken (fun _ _ _ h => hFc _ h)
    subst hQQ
    exact vx_out (fun x hx => (hEx x hx).elim) hlocks hce hcv hcl (fun t ht ha => ⟨(E9, (A_ring_x1, A_buffer_x1, A_firstPlace_x1, A_forcedPlace_x1, A_endPlace_x1, A_wordsToFailure_x1, A_opened_x1)), hpx, ⟨rfl, by rw [ht]; exact hP, va_K.moved ha hK, hD⟩, hS.F ht⟩) hS.2.2 (Nat.le_of_ble_eq_true rfl) (Nat.le_of_ble_eq_true rfl)
  · obtain ⟨A_ring_1, A_buffer_1, A_firstPlace_1, A_forcedPlace_1, A_endPlace_1, A_wordsToFailure_1, A_opened_1⟩ := u_1
    obtain ⟨hP1, hK1, hD1⟩ := hB
    rw [ht] at hP1
    try dsimp only at hw
    have hP : va_P (dC, dI) vwCl [(qA, .inr (0, [.ref qA_ring, .ref qA_buffer, .int A_firstPlace_1, .int A_forcedPlace_1, .int A_endPlace_1, .int A_wordsToFailure_1, .int A_opened_1])), (qA_ring, .inl (cA_ring, 65536, .inl A_ring_1)), (qA_buffer, .inl (cA_buffer, 200, .inl A_buffer_1))] H_1 := hP1
    have hD : va_D A [(qA, .inr (0, [.ref qA_ring, .ref qA_buffer, .int A_firstPlace_1, .int A_forcedPlace_1, .int A_endPlace_1, .int A_wordsToFailure_1, .int A_opened_1])), (qA_ring, .inl (cA_ring, 65536, .inl A_ring_1)), (qA_buffer, .inl (cA_buffer, 200, .inl A_buffer_1))] := hD1.weaken (fun _ _ _ h => hFc _ h)
    refine W.widen (k := 1) (n := 6) (Nat.le_of_ble_eq_true rfl) (Nat.le_of_ble_eq_true rfl) ?_
    refine lv_aload_n hx hb dX0_last_4 rfl (lv_at hl 0 rfl) ?_
    refine lv_aload_n hx hb dX0_last_5 rfl (lv_at hl 0 rfl) ?_
    refine va_get (D := (dC, dI)) (ci := 0) (v := .int A_endPlace_1) (C := RX0) (T := TX0) (N := 7) hx hb hbg in_X0 hown hK hP 0 rfl rfl 4 (by decide) (hbg _ kw_12) (fun _ h9 => h9) rfl dX0_last_6 ?_
    refine vp_callSi (W.runV (As := [.int A_endPlace_1]) (rest := []) ⟨hx, hb, hml, hown, hbg⟩ (met_X0_lastRecordBefore l dC dI qA qA_ring qA_buffer cA_ring cA_buffer A_ring_1 A_buffer_1 A_firstPlace_1 A_forcedPlace_1 A_endPlace_1 A_wordsToFailure_1 A_opened_1 A_endPlace_1 _ hw) (cwV 1 hbg g_RX0_88 rfl rfl rfl (by decide +kernel) ⟨Nat.le_of_ble_eq_true rfl, Nat.le_of_ble_eq_true rfl⟩) ⟨pcR_A_b _ _ _ _ _ _ _ _ _ _ _ _ _ _ _, va_recv hK hP (ci := 0) (q0 := 0) rfl rfl, fun U hU hW => ⟨rfl, by rw [hU]; exact hP, va_K.moved hW.alike hK⟩⟩ rfl rfl hl.1 rfl (lv_room (Nat.le_of_ble_eq_true rfl)) dX0_last_9 ⟨Nat.le_of_ble_eq_true rfl, Nat.le_of_ble_eq_true rfl⟩) (fun r_2 hw => ?_)
    try dsimp only at hw
    subst hQQ
    refine W.widen (k := 1) (n := 6) (Nat.le_of_ble_eq_true rfl) (Nat.le_of_ble_eq_true rfl) ?_
    refine vx_ret ?_
    exact W.iret (v := r_2) hx hb hr (fun t ht hW => ⟨⟨r_2, (A_ring_1, A_buffer_1, A_firstPlace_1, A_forcedPlace_1, A_endPlace_1, A_wordsToFailure_1, A_opened_1), rfl, hw, by rw [ht]; exact hP, va_K.moved hW.alike hK, hD⟩, hS.F ht⟩) hS.2.2 dX0_last_12
def wp_X0_lastForced (post : Int32 → St_A → Prop) (px : String → St_A → Prop) (A_ring : Nat → Int32) (A_buffer : Nat → Int32) (A_firstPlace : Int32) (A_forcedPlace : Int32) (A_endPlace : Int32) (A_wordsToFailure : Int32) (A_opened : Int32) : Prop :=
  wp_X0_requireOpen (fun u_1 => match u_1 with | (A_ring_1, A_buffer_1, A_firstPlace_1, A_forcedPlace_1, A_endPlace_1, A_wordsToFailure_1, A_opened_1) => wp_X0_lastRecordBefore (fun r_2 => post r_2 (A_ring_1, A_buffer_1, A_firstPlace_1, A_forcedPlace_1, A_endPlace_1, A_wordsToFailure_1, A_opened_1)) A_forcedPlace_1 A_ring_1 A_buffer_1 A_firstPlace_1 A_forcedPlace_1 A_endPlace_1 A_wordsToFailure_1 A_opened_1) px A_ring A_buffer A_firstPlace A_forcedPlace A_endPlace A_wordsToFailure A_opened
set_option maxHeartbeats 4000000 in
set_option maxRecDepth 100000 in
theorem met_X0_lastForced (l : Launch) (hl9 : l.stackTraces = false) (dC : Nat → ClassId) (dI : Nat → Nat → Nat) (qA qA_ring qA_buffer : Nat) (cA_ring cA_buffer : ClassId) (sz : Nat) (A_ring : Nat → Int32) (A_buffer : Nat → Int32) (A_firstPlace : Int32) (A_forcedPlace : Int32) (A_endPlace : Int32) (A_wordsToFailure : Int32) (A_opened : Int32) (post : Int32 → St_A → Prop) (px : String → St_A → Prop) (hw : wp_X0_lastForced post px A_ring A_buffer A_firstPlace A_forcedPlace A_endPlace A_wordsToFailure A_opened) :
    vx_Met l yX0_lastForced wsX0_lastForced ({ frames := 7, cells := 1, slots := 6, locals := 116 } : Room) (pcX_A dC dI qA qA_ring qA_buffer cA_ring cA_buffer sz A_ring A_buffer A_firstPlace A_forcedPlace A_endPlace A_wordsToFailure A_opened [.ref qA]) (va_Qi post (at_A dC dI (va_A [(qA, .inr (0, [.ref qA_ring, .ref qA_buffer, .int A_firstPlace, .int A_forcedPlace, .int A_endPlace, .int A_wordsToFailure, .int A_opened])), (qA_ring, .inl (cA_ring, 65536, .inl A_ring)), (qA_buffer, .inl (cA_buffer, 200, .inl A_buffer))] sz) qA qA_ring qA_buffer cA_ring cA_buffer) (va_A [(qA, .inr (0, [.ref qA_ring, .ref qA_buffer, .int A_firstPlace, .int A_forcedPlace, .int A_endPlace, .int A_wordsToFailure, .int A_opened])), (qA_ring, .inl (cA_ring, 65536, .inl A_ring)), (qA_buffer, .inl (cA_buffer, 200, .inl A_buffer))] sz)) (vx_X (fun u => px u.1 u.2) (atx_A dC dI (va_A [(qA, .inr (0, [.ref qA_ring, .ref qA_buffer, .int A_firstPlace, .int A_forcedPlace, .int A_endPlace, .int A_wordsToFailure, .int A_opened])), (qA_ring, .inl (cA_ring, 65536, .inl A_ring)), (qA_buffer, .inl (cA_buffer, 200, .inl A_buffer))] sz) qA qA_ring qA_buffer cA_ring cA_buffer) (va_A [(qA, .inr (0, [.ref qA_ring, .ref qA_buffer, .int A_firstPlace, .int A_forcedPlace, .int A_endPlace, .int A_wordsToFailure, .int A_opened])), (qA_ring, .inl (cA_ring, 65536, .inl A_ring)), (qA_buffer, .inl (cA_buffer, 200, .inl A_buffer))] sz)) 1 6 (va_A [(qA, .inr (0, [.ref qA_ring, .ref qA_buffer, .int A_firstPlace, .int A_forcedPlace, .int A_endPlace, .int A_wordsToFailure, .int A_opened])), (qA_ring, .inl (cA_ring, 65536, .inl A_ring)), (qA_buffer, .inl (cA_buffer, 200, .inl A_buffer))] sz) := by
  refine vx_ofW (cc := cX0_lastForced) (maxL := 1) (ret := (some .int)) (by decide) rfl ?_
  intro p e s m args below meth c s₁ B hml hEx hv
  obtain ⟨hav, hsz, hP, hK, hD0, hXW0⟩ := hv
  have hx := B.exec
  have hb := B.bytes
  have hr := B.returns
  have hts := atoms_spec (ws := wsX0_lastForced) B.pre
  have hbg : ∀ w ∈ bigW, w.before args s = true := fun w h => hts w (List.mem_cons_of_mem _ h)
  have hown : s.vm.findClass RX0 = some m.cls := findClass_of_methodNamed B.named
  have hlocks := B.notSynchronized
  subst hsz
  have hD := hD0.self (sz := s.heap.size)
  generalize hAe : va_A [(qA, .inr (0, [.ref qA_ring, .ref qA_buffer, .int A_firstPlace, .int A_forcedPlace, .int A_endPlace, .int A_wordsToFailure, .int A_opened])), (qA_ring, .inl (cA_ring, 65536, .inl A_ring)), (qA_buffer, .inl (cA_buffer, 200, .inl A_buffer))] s.heap.size = A at hD hXW0 ⊢
  have hA : ∀ q : Nat, s.heap.size ≤ q → A q := fun q h => by rw [← hAe]; exact Or.inr h
  have hS : va_S A s.heap s.heap [] := va_S.rf
  have hP : va_P (dC, dI) vwCl [(qA, .inr (0, [.ref qA_ring, .ref qA_buffer, .int A_firstPlace, .int A_forcedPlace, .int A_endPlace, .int A_wordsToFailure, .int A_opened])), (qA_ring, .inl (cA_ring, 65536, .inl A_ring)), (qA_buffer, .inl (cA_buffer, 200, .inl A_buffer))] s.heap := hP
  generalize hQQ : vx_MQ below (va_Qi post (at_A dC dI A qA qA_ring qA_buffer cA_ring cA_buffer) A) (vx_X (fun u => px u.1 u.2) (atx_A dC dI A qA qA_ring qA_buffer cA_ring cA_buffer) A) args s 1 6 A = QQ
  have hl := lv_entry ([.ref qA]) (n := 1) (Nat.le_of_ble_eq_true rfl)
  rw [show entryFrame m args 1 = entryFrame m ([.ref qA] : List Value).toArray 1 by rw [hav], lg_entry_eq]
  generalize (lg_sl ([.ref qA]) ++ List.replicate (1 - (lg_sl ([.ref qA])).length) Slot.unset).toArray = ls at hl ⊢
  have hl : lv_has ls 1 [(0, .ref qA)] := hl
  unfold wp_X0_lastForced at hw
  refine lv_aload_n hx hb dX0_lastForced_0 rfl (lv_at hl 0 rfl) ?_
  have hFc := va_free (wc := [(qA, .inr (0, [.ref qA_ring, .ref qA_buffer, .int A_firstPlace, .int A_forcedPlace, .int A_endPlace, .int A_wordsToFailure, .int A_opened])), (qA_ring, .inl (cA_ring, 65536, .inl A_ring)), (qA_buffer, .inl (cA_buffer, 200, .inl A_buffer))]) hD hS hA [0, 1, 2] rfl
  refine vx_callv (vx_runV (As := []) (rest := []) ⟨hx, hb, hml, hown, hbg⟩ (met_X0_requireOpen l hl9 dC dI qA qA_ring qA_buffer cA_ring cA_buffer s.heap.size A_ring A_buffer A_firstPlace A_forcedPlace A_endPlace A_wordsToFailure A_opened  _ _ hw) (cwV 0 hbg g_RX0_34 rfl rfl rfl (by decide +kernel) ⟨Nat.le_of_ble_eq_true rfl, Nat.le_of_ble_eq_true rfl⟩) ⟨pcX_A_b _ _ _ _ _ _ _ _ _ _ _ _ _ _ _ _, va_recv hK hP (ci := 0) (q0 := 0) rfl rfl, fun U hU hW => ⟨rfl, by rw [hU], by rw [hU]; exact hP, va_K.moved hW.alike hK, hD.weaken (fun _ _ _ _ => trivial), XW.go hXW0 hS hFc hU hW⟩⟩ rfl rfl hl.1 rfl (lv_room (Nat.le_of_ble_eq_true rfl)) dX0_lastForced_1 ⟨Nat.le_of_ble_eq_true rfl, Nat.le_of_ble_eq_true rfl⟩) hS (fun q _ h => hFc q h) hFc (fun q _ h => hFc q h) (fun E9 ce9 q9 u9 t9 H_1 locs ht hvm hpx hBX hz1 hk1 hS hce hcv hcl => ?_) (fun u_1 t_1 H_1 locs ht hvm hw hB hz1 hk1 hS => ?_)
  · obtain ⟨E8, A_ring_x1, A_buffer_x1, A_firstPlace_x1, A_forcedPlace_x1, A_endPlace_x1, A_wordsToFailure_x1, A_opened_x1⟩ := u9
    obtain ⟨rfl, hP1, hK1, hD1⟩ := hBX
    rw [ht] at hP1
    have hP : va_P (dC, dI) vwCl [(qA, .inr (0, [.ref qA_ring, .ref qA_buffer, .int A_firstPlace_x1, .int A_forcedPlace_x1, .int A_endPlace_x1, .int A_wordsToFailure_x1, .int A_opened_x1])), (qA_ring, .inl (cA_ring, 65536, .inl A_ring_x1)), (qA_buffer, .inl (cA_buffer, 200, .inl A_buffer_x1))] H_1 := hP1
    have hD : va_D A [(qA, .inr (0, [.ref qA_ring, .ref qA_buffer, .int A_firstPlace_x1, .int A_forcedPlace_x1, .int A_endPlace_x1, .int A_wordsToFailure_x1, .int A_opened_x1])), (qA_ring, .inl (cA_ring, 65536, .inl A_ring_x1)), (qA_buffer, .inl (cA_buffer, 200, .inl A_buffer_x1))] := hD1.weaken (fun _ _ _ h => hFc _ h)
    subst hQQ
    exact vx_out (fun x hx => (hEx x hx).elim) hlocks hce hcv hcl (fun t ht ha => ⟨(E9, (A_ring_x1, A_buffer_x1, A_firstPlace_x1, A_forcedPlace_x1, A_endPlace_x1, A_wordsToFailure_x1, A_opened_x1)), hpx, ⟨rfl, by rw [ht]; exact hP, va_K.moved ha hK, hD⟩, hS.F ht⟩) hS.2.2 (Nat.le_of_ble_eq_true rfl) (Nat.le_of_ble_eq_true rfl)
  · obtain ⟨A_ring_1, A_buffer_1, A_firstPlace_1, A_forcedPlace_1, A_endPlace_1, A_wordsToFailure_1, A_opened_1⟩ := u_1
    obtain ⟨hP1, hK1, hD1⟩ := hB
    rw [ht] at hP1
    try dsimp only at hw
    have hP : va_P (dC, dI) vwCl [(qA, .inr (0, [.ref qA_ring, .ref qA_buffer, .int A_firstPlace_1, .int A_forcedPlace_1, .int A_endPlace_1, .int A_wordsToFailure_1, .int A_opened_1])), (qA_ring, .inl (cA_ring, 65536, .inl A_ring_1)), (qA_buffer, .inl (cA_buffer, 200, .inl A_buffer_1))] H_1 := hP1
    have hD : va_D A [(qA, .inr (0, [.ref qA_ring, .ref qA_buffer, .int A_firstPlace_1, .int A_forcedPlace_1, .int A_endPlace_1, .int A_wordsToFailure_1, .int A_opened_1])), (qA_ring, .inl (cA_ring, 65536, .inl A_ring_1)), (qA_buffer, .inl (cA_buffer, 200, .inl A_buffer_1))] := hD1.weaken (fun _ _ _ h => hFc _ h)
    refine W.widen (k := 1) (n := 6) (Nat.le_of_ble_eq_true rfl) (Nat.le_of_ble_eq_true rfl) ?_
    refine lv_aload_n hx hb dX0_lastForced_4 rfl (lv_at hl 0 rfl) ?_
    refine lv_aload_n hx hb dX0_lastForced_5 rfl (lv_at hl 0 rfl) ?_
    refine va_get (D := (dC, dI)) (ci := 0) (v := .int A_forcedPlace_1) (C := RX0) (T := TX0) (N := 7) hx hb hbg in_X0 hown hK hP 0 rfl rfl 3 (by decide) (hbg _ kw_51) (fun _ h9 => h9) rfl dX0_lastForced_6 ?_
    refine vp_callSi (W.runV (As := [.int A_forcedPlace_1]) (rest := []) ⟨hx, hb, hml, hown, hbg⟩ (met_X0_lastRecordBefore l dC dI qA qA_ring qA_buffer cA_ring cA_buffer A_ring_1 A_buffer_1 A_firstPlace_1 A_forcedPlace_1 A_endPlace_1 A_wordsToFailure_1 A_opened_1 A_forcedPlace_1 _ hw) (cwV 1 hbg g_RX0_88 rfl rfl rfl (by decide +kernel) ⟨Nat.le_of_ble_eq_true rfl, Nat.le_of_ble_eq_true rfl⟩) ⟨pcR_A_b _ _ _ _ _ _ _ _ _ _ _ _ _ _ _, va_recv hK hP (ci := 0) (q0 := 0) rfl rfl, fun U hU hW => ⟨rfl, by rw [hU]; exact hP, va_K.moved hW.alike hK⟩⟩ rfl rfl hl.1 rfl (lv_room (Nat.le_of_ble_eq_true rfl)) dX0_lastForced_9 ⟨Nat.le_of_ble_eq_true rfl, Nat.le_of_ble_eq_true rfl⟩) (fun r_2 hw => ?_)
    try dsimp only at hw
    subst hQQ
    refine W.widen (k := 1) (n := 6) (Nat.le_of_ble_eq_true rfl) (Nat.le_of_ble_eq_true rfl) ?_
    refine vx_ret ?_
    exact W.iret (v := r_2) hx hb hr (fun t ht hW => ⟨⟨r_2, (A_ring_1, A_buffer_1, A_firstPlace_1, A_forcedPlace_1, A_endPlace_1, A_wordsToFailure_1, A_opened_1), rfl, hw, by rw [ht]; exact hP, va_K.moved hW.alike hK, hD⟩, hS.F ht⟩) hS.2.2 dX0_lastForced_12
def wp_X0_next (post : Int32 → St_A → Prop) (px : String → St_A → Prop) (x1 : Int32) (A_ring : Nat → Int32) (A_buffer : Nat → Int32) (A_firstPlace : Int32) (A_forcedPlace : Int32) (A_endPlace : Int32) (A_wordsToFailure : Int32) (A_opened : Int32) : Prop :=
  wp_X0_requireOpen (fun u_1 => match u_1 with | (A_ring_1, A_buffer_1, A_firstPlace_1, A_forcedPlace_1, A_endPlace_1, A_wordsToFailure_1, A_opened_1) => wp_X0_requireRecord (fun u_2 => match u_2 with | (A_ring_2, A_buffer_2, A_firstPlace_2, A_forcedPlace_2, A_endPlace_2, A_wordsToFailure_2, A_opened_2) => wp_X0_behind (fun r_3 => wp_X0_firstRecordFrom (fun r_4 => post r_4 (A_ring_2, A_buffer_2, A_firstPlace_2, A_forcedPlace_2, A_endPlace_2, A_wordsToFailure_2, A_opened_2)) r_3 A_ring_2 A_buffer_2 A_firstPlace_2 A_forcedPlace_2 A_endPlace_2 A_wordsToFailure_2 A_opened_2) x1 A_ring_2 A_buffer_2 A_firstPlace_2 A_forcedPlace_2 A_endPlace_2 A_wordsToFailure_2 A_opened_2) px x1 A_ring_1 A_buffer_1 A_firstPlace_1 A_forcedPlace_1 A_endPlace_1 A_wordsToFailure_1 A_opened_1) px A_ring A_buffer A_firstPlace A_forcedPlace A_endPlace A_wordsToFailure A_opened
set_option maxHeartbeats 4000000 in
set_option maxRecDepth 100000 in
theorem met_X0_next (l : Launch) (hl9 : l.stackTraces = false) (dC : Nat → ClassId) (dI : Nat → Nat → Nat) (qA qA_ring qA_buffer : Nat) (cA_ring cA_buffer : ClassId) (sz : Nat) (A_ring : Nat → Int32) (A_buffer : Nat → Int32) (A_firstPlace : Int32) (A_forcedPlace : Int32) (A_endPlace : Int32) (A_wordsToFailure : Int32) (A_opened : Int32) (x1 : Int32) (post : Int32 → St_A → Prop) (px : String → St_A → Prop) (hw : wp_X0_next post px x1 A_ring A_buffer A_firstPlace A_forcedPlace A_endPlace A_wordsToFailure A_opened) :
    vx_Met l yX0_next wsX0_next ({ frames := 7, cells := 2, slots := 12, locals := 117 } : Room) (pcX_A dC dI qA qA_ring qA_buffer cA_ring cA_buffer sz A_ring A_buffer A_firstPlace A_forcedPlace A_endPlace A_wordsToFailure A_opened [.ref qA, .int x1]) (va_Qi post (at_A dC dI (va_A [(qA, .inr (0, [.ref qA_ring, .ref qA_buffer, .int A_firstPlace, .int A_forcedPlace, .int A_endPlace, .int A_wordsToFailure, .int A_opened])), (qA_ring, .inl (cA_ring, 65536, .inl A_ring)), (qA_buffer, .inl (cA_buffer, 200, .inl A_buffer))] sz) qA qA_ring qA_buffer cA_ring cA_buffer) (va_A [(qA, .inr (0, [.ref qA_ring, .ref qA_buffer, .int A_firstPlace, .int A_forcedPlace, .int A_endPlace, .int A_wordsToFailure, .int A_opened])), (qA_ring, .inl (cA_ring, 65536, .inl A_ring)), (qA_buffer, .inl (cA_buffer, 200, .inl A_buffer))] sz)) (vx_X (fun u => px u.1 u.2) (atx_A dC dI (va_A [(qA, .inr (0, [.ref qA_ring, .ref qA_buffer, .int A_firstPlace, .int A_forcedPlace, .int A_endPlace, .int A_wordsToFailure, .int A_opened])), (qA_ring, .inl (cA_ring, 65536, .inl A_ring)), (qA_buffer, .inl (cA_buffer, 200, .inl A_buffer))] sz) qA qA_ring qA_buffer cA_ring cA_buffer) (va_A [(qA, .inr (0, [.ref qA_ring, .ref qA_buffer, .int A_firstPlace, .int A_forcedPlace, .int A_endPlace, .int A_wordsToFailure, .int A_opened])), (qA_ring, .inl (cA_ring, 65536, .inl A_ring)), (qA_buffer, .inl (cA_buffer, 200, .inl A_buffer))] sz)) 2 12 (va_A [(qA, .inr (0, [.ref qA_ring, .ref qA_buffer, .int A_firstPlace, .int A_forcedPlace, .int A_endPlace, .int A_wordsToFailure, .int A_opened])), (qA_ring, .inl (cA_ring, 65536, .inl A_ring)), (qA_buffer, .inl (cA_buffer, 200, .inl A_buffer))] sz) := by
  refine vx_ofW (cc := cX0_next) (maxL := 2) (ret := (some .int)) (by decide) rfl ?_
  intro p e s m args below meth c s₁ B hml hEx hv
  obtain ⟨hav, hsz, hP, hK, hD0, hXW0⟩ := hv
  have hx := B.exec
  have hb := B.bytes
  have hr := B.returns
  have hts := atoms_spec (ws := wsX0_next) B.pre
  have hbg : ∀ w ∈ bigW, w.before args s = true := fun w h => hts w (List.mem_cons_of_mem _ h)
  have hown : s.vm.findClass RX0 = some m.cls := findClass_of_methodNamed B.named
  have hlocks := B.notSynchronized
  subst hsz
  have hD := hD0.self (sz := s.heap.size)
  generalize hAe : va_A [(qA, .inr (0, [.ref qA_ring, .ref qA_buffer, .int A_firstPlace, .int A_forcedPlace, .int A_endPlace, .int A_wordsToFailure, .int A_opened])), (qA_ring, .inl (cA_ring, 65536, .inl A_ring)), (qA_buffer, .inl (cA_buffer, 200, .inl A_buffer))] s.heap.size = A at hD hXW0 ⊢
  have hA : ∀ q : Nat, s.heap.size ≤ q → A q := fun q h => by rw [← hAe]; exact Or.inr h
  have hS : va_S A s.heap s.heap [] := va_S.rf
  have hP : va_P (dC, dI) vwCl [(qA, .inr (0, [.ref qA_ring, .ref qA_buffer, .int A_firstPlace, .int A_forcedPlace, .int A_endPlace, .int A_wordsToFailure, .int A_opened])), (qA_ring, .inl (cA_ring, 65536, .inl A_ring)), (qA_buffer, .inl (cA_buffer, 200, .inl A_buffer))] s.heap := hP
  generalize hQQ : vx_MQ below (va_Qi post (at_A dC dI A qA qA_ring qA_buffer cA_ring cA_buffer) A) (vx_X (fun u => px u.1 u.2) (atx_A dC dI A qA qA_ring qA_buffer cA_ring cA_buffer) A) args s 2 12 A = QQ
  have hl := lv_entry ([.ref qA, .int x1]) (n := 2) (Nat.le_of_ble_eq_true rfl)
  rw [show entryFrame m args 2 = entryFrame m ([.ref qA, .int x1] : List Value).toArray 2 by rw [hav], lg_entry_eq]
  generalize (lg_sl ([.ref qA, .int x1]) ++ List.replicate (2 - (lg_sl ([.ref qA, .int x1])).length) Slot.unset).toArray = ls at hl ⊢
  have hl : lv_has ls 2 [(0, .ref qA), (1, .int x1)] := hl
  unfold wp_X0_next at hw
  refine lv_aload_n hx hb dX0_next_0 rfl (lv_at hl 0 rfl) ?_
  have hFc := va_free (wc := [(qA, .inr (0, [.ref qA_ring, .ref qA_buffer, .int A_firstPlace, .int A_forcedPlace, .int A_endPlace, .int A_wordsToFailure, .int A_opened])), (qA_ring, .inl (cA_ring, 65536, .inl A_ring)), (qA_buffer, .inl (cA_buffer, 200, .inl A_buffer))]) hD hS hA [0, 1, 2] rfl
  refine vx_callv (vx_runV (As := []) (rest := []) ⟨hx, hb, hml, hown, hbg⟩ (met_X0_requireOpen l hl9 dC dI qA qA_ring qA_buffer cA_ring cA_buffer s.heap.size A_ring A_buffer A_firstPlace A_forcedPlace A_endPlace A_wordsToFailure A_opened  _ _ hw) (cwV 0 hbg g_RX0_34 rfl rfl rfl (by decide +kernel) ⟨Nat.le_of_ble_eq_true rfl, Nat.le_of_ble_eq_true rfl⟩) ⟨pcX_A_b _ _ _ _ _ _ _ _ _ _ _ _ _ _ _ _, va_recv hK hP (ci := 0) (q0 := 0) rfl rfl, fun U hU hW => ⟨rfl, by rw [hU], by rw [hU]; exact hP, va_K.moved hW.alike hK, hD.weaken (fun _ _ _ _ => trivial), XW.go hXW0 hS hFc hU hW⟩⟩ rfl rfl hl.1 rfl (lv_room (Nat.le_of_ble_eq_true rfl)) dX0_next_1 ⟨Nat.le_of_ble_eq_true rfl, Nat.le_of_ble_eq_true rfl⟩) hS (fun q _ h => hFc q h) hFc (fun q _ h => hFc q h) (fun E9 ce9 q9 u9 t9 H_1 locs ht hvm hpx hBX hz1 hk1 hS hce hcv hcl => ?_) (fun u_1 t_1 H_1 locs ht hvm hw hB hz1 hk1 hS => ?_)
  · obtain ⟨E8, A_ring_x1, A_buffer_x1, A_firstPlace_x1, A_forcedPlace_x1, A_endPlace_x1, A_wordsToFailure_x1, A_opened_x1⟩ := u9
    obtain ⟨rfl, hP1, hK1, hD1⟩ := hBX
    rw [ht] at hP1
    have hP : va_P (dC, dI) vwCl [(qA, .inr (0, [.ref qA_ring, .ref qA_buffer, .int A_firstPlace_x1, .int A_forcedPlace_x1, .int A_endPlace_x1, .int A_wordsToFailure_x1, .int A_opened_x1])), (qA_ring, .inl (cA_ring, 65536, .inl A_ring_x1)), (qA_buffer, .inl (cA_buffer, 200, .inl A_buffer_x1))] H_1 := hP1
    have hD : va_D A [(qA, .inr (0, [.ref qA_ring, .ref qA_buffer, .int A_firstPlace_x1, .int A_forcedPlace_x1, .int A_endPlace_x1, .int A_wordsToFailure_x1, .int A_opened_x1])), (qA_ring, .inl (cA_ring, 65536, .inl A_ring_x1)), (qA_buffer, .inl (cA_buffer, 200, .inl A_buffer_x1))] := hD1.weaken (fun _ _ _ h => hFc _ h)
    subst hQQ
    exact vx_out (fun x hx => (hEx x hx).elim) hlocks hce hcv hcl (fun t ht ha => ⟨(E9, (A_ring_x1, A_buffer_x1, A_firstPlace_x1, A_forcedPlace_x1, A_endPlace_x1, A_wordsToFailure_x1, A_opened_x1)), hpx, ⟨rfl, by rw [ht]; exact hP, va_K.moved ha hK, hD⟩, hS.F ht⟩) hS.2.2 (Nat.le_of_ble_eq_true rfl) (Nat.le_of_ble_eq_true rfl)
  · obtain ⟨A_ring_1, A_buffer_1, A_firstPlace_1, A_forcedPlace_1, A_endPlace_1, A_wordsToFailure_1, A_opened_1⟩ := u_1
    obtain ⟨hP1, hK1, hD1⟩ := hB
    rw [ht] at hP1
    try dsimp only at hw
    have hP : va_P (dC, dI) vwCl [(qA, .inr (0, [.ref qA_ring, .ref qA_buffer, .int A_firstPlace_1, .int A_forcedPlace_1, .int A_endPlace_1, .int A_wordsToFailure_1, .int A_opened_1])), (qA_ring, .inl (cA_ring, 65536, .inl A_ring_1)), (qA_buffer, .inl (cA_buffer, 200, .inl A_buffer_1))] H_1 := hP1
    have hD : va_D A [(qA, .inr (0, [.ref qA_ring, .ref qA_buffer, .int A_firstPlace_1, .int A_forcedPlace_1, .int A_endPlace_1, .int A_wordsToFailure_1, .int A_opened_1])), (qA_ring, .inl (cA_ring, 65536, .inl A_ring_1)), (qA_buffer, .inl (cA_buffer, 200, .inl A_buffer_1))] := hD1.weaken (fun _ _ _ h => hFc _ h)
    refine W.widen (k := 1) (n := 6) (Nat.le_of_ble_eq_true rfl) (Nat.le_of_ble_eq_true rfl) ?_
    refine lv_aload_n hx hb dX0_next_4 rfl (lv_at hl 0 rfl) ?_
    refine lv_iload_n hx hb dX0_next_5 rfl (lv_at hl 1 rfl) ?_
    have hFc := va_free (wc := [(qA, .inr (0, [.ref qA_ring, .ref qA_buffer, .int A_firstPlace_1, .int A_forcedPlace_1, .int A_endPlace_1, .int A_wordsToFailure_1, .int A_opened_1])), (qA_ring, .inl (cA_ring, 65536, .inl A_ring_1)), (qA_buffer, .inl (cA_buffer, 200, .inl A_buffer_1))]) hD hS hA [0, 1, 2] rfl
    refine vx_callv (vx_runV (As := [.int x1]) (rest := []) ⟨hx, hb, hml, hown, hbg⟩ (met_X0_requireRecord l hl9 dC dI qA qA_ring qA_buffer cA_ring cA_buffer H_1.size A_ring_1 A_buffer_1 A_firstPlace_1 A_forcedPlace_1 A_endPlace_1 A_wordsToFailure_1 A_opened_1 x1 _ _ hw) (cwV 1 hbg g_RX0_71 rfl rfl rfl (by decide +kernel) ⟨Nat.le_of_ble_eq_true rfl, Nat.le_of_ble_eq_true rfl⟩) ⟨pcX_A_b _ _ _ _ _ _ _ _ _ _ _ _ _ _ _ _, va_recv hK hP (ci := 0) (q0 := 0) rfl rfl, fun U hU hW => ⟨rfl, by rw [hU], by rw [hU]; exact hP, va_K.moved hW.alike hK, hD.weaken (fun _ _ _ _ => trivial), XW.go hXW0 hS hFc hU hW⟩⟩ rfl rfl hl.1 rfl (lv_room (Nat.le_of_ble_eq_true rfl)) dX0_next_6 ⟨Nat.le_of_ble_eq_true rfl, Nat.le_of_ble_eq_true rfl⟩) hS (fun q _ h => hFc q h) hFc (fun q _ h => hFc q h) (fun E9 ce9 q9 u9 t9 H_2 locs ht hvm hpx hBX hz1 hk1 hS hce hcv hcl => ?_) (fun u_2 t_2 H_2 locs ht hvm hw hB hz1 hk1 hS => ?_)
    · obtain ⟨E8, A_ring_x2, A_buffer_x2, A_firstPlace_x2, A_forcedPlace_x2, A_endPlace_x2, A_wordsToFailure_x2, A_opened_x2⟩ := u9
      obtain ⟨rfl, hP1, hK1, hD1⟩ := hBX
      rw [ht] at hP1
      have hP : va_P (dC, dI) vwCl [(qA, .inr (0, [.ref qA_ring, .ref qA_buffer, .int A_firstPlace_x2, .int A_forcedPlace_x2, .int A_endPlace_x2, .int A_wordsToFailure_x2, .int A_opened_x2])), (qA_ring, .inl (cA_ring, 65536, .inl A_ring_x2)), (qA_buffer, .inl (cA_buffer, 200, .inl A_buffer_x2))] H_2 := hP1
      have hD : va_D A [(qA, .inr (0, [.ref qA_ring, .ref qA_buffer, .int A_firstPlace_x2, .int A_forcedPlace_x2, .int A_endPlace_x2, .int A_wordsToFailure_x2, .int A_opened_x2])), (qA_ring, .inl (cA_ring, 65536, .inl A_ring_x2)), (qA_buffer, .inl (cA_buffer, 200, .inl A_buffer_x2))] := hD1.weaken (fun _ _ _ h => hFc _ h)
      subst hQQ
      exact vx_out (fun x hx => (hEx x hx).elim) hlocks hce hcv hcl (fun t ht ha => ⟨(E9, (A_ring_x2, A_buffer_x2, A_firstPlace_x2, A_forcedPlace_x2, A_endPlace_x2, A_wordsToFailure_x2, A_opened_x2)), hpx, ⟨rfl, by rw [ht]; exact hP, va_K.moved ha hK, hD⟩, hS.F ht⟩) hS.2.2 (Nat.le_of_ble_eq_true rfl) (Nat.le_of_ble_eq_true rfl)
    · obtain ⟨A_ring_2, A_buffer_2, A_firstPlace_2, A_forcedPlace_2, A_endPlace_2, A_wordsToFailure_2, A_opened_2⟩ := u_2
      obtain ⟨hP1, hK1, hD1⟩ := hB
      rw [ht] at hP1
      try dsimp only at hw
      have hP : va_P (dC, dI) vwCl [(qA, .inr (0, [.ref qA_ring, .ref qA_buffer, .int A_firstPlace_2, .int A_forcedPlace_2, .int A_endPlace_2, .int A_wordsToFailure_2, .int A_opened_2])), (qA_ring, .inl (cA_ring, 65536, .inl A_ring_2)), (qA_buffer, .inl (cA_buffer, 200, .inl A_buffer_2))] H_2 := hP1
      have hD : va_D A [(qA, .inr (0, [.ref qA_ring, .ref qA_buffer, .int A_firstPlace_2, .int A_forcedPlace_2, .int A_endPlace_2, .int A_wordsToFailure_2, .int A_opened_2])), (qA_ring, .inl (cA_ring, 65536, .inl A_ring_2)), (qA_buffer, .inl (cA_buffer, 200, .inl A_buffer_2))] := hD1.weaken (fun _ _ _ h => hFc _ h)
      refine W.widen (k := 2) (n := 12) (Nat.le_of_ble_eq_true rfl) (Nat.le_of_ble_eq_true rfl) ?_
      refine lv_aload_n hx hb dX0_next_9 rfl (lv_at hl 0 rfl) ?_
      refine lv_aload_n hx hb dX0_next_10 rfl (lv_at hl 0 rfl) ?_
      refine lv_iload_n hx hb dX0_next_11 rfl (lv_at hl 1 rfl) ?_
      refine vp_callSi (W.runV (As := [.int x1]) (rest := [.ref qA]) ⟨hx, hb, hml, hown, hbg⟩ (met_X0_behind l dC dI qA qA_ring qA_buffer cA_ring cA_buffer A_ring_2 A_buffer_2 A_firstPlace_2 A_forcedPlace_2 A_endPlace_2 A_wordsToFailure_2 A_opened_2 x1 _ hw) (cwV 1 hbg g_RX0_74 rfl rfl rfl (by decide +kernel) ⟨Nat.le_of_ble_eq_true rfl, Nat.le_of_ble_eq_true rfl⟩) ⟨pcR_A_b _ _ _ _ _ _ _ _ _ _ _ _ _ _ _, va_recv hK hP (ci := 0) (q0 := 0) rfl rfl, fun U hU hW => ⟨rfl, by rw [hU]; exact hP, va_K.moved hW.alike hK⟩⟩ rfl rfl hl.1 rfl (lv_room (Nat.le_of_ble_eq_true rfl)) dX0_next_12 ⟨Nat.le_of_ble_eq_true rfl, Nat.le_of_ble_eq_true rfl⟩) (fun r_3 hw => ?_)
      try dsimp only at hw
      refine vp_callSi (W.runV (As := [.int r_3]) (rest := []) ⟨hx, hb, hml, hown, hbg⟩ (met_X0_firstRecordFrom l dC dI qA qA_ring qA_buffer cA_ring cA_buffer A_ring_2 A_buffer_2 A_firstPlace_2 A_forcedPlace_2 A_endPlace_2 A_wordsToFailure_2 A_opened_2 r_3 _ hw) (cwV 1 hbg g_RX0_85 rfl rfl rfl (by decide +kernel) ⟨Nat.le_of_ble_eq_true rfl, Nat.le_of_ble_eq_true rfl⟩) ⟨pcR_A_b _ _ _ _ _ _ _ _ _ _ _ _ _ _ _, va_recv hK hP (ci := 0) (q0 := 0) rfl rfl, fun U hU hW => ⟨rfl, by rw [hU]; exact hP, va_K.moved hW.alike hK⟩⟩ rfl rfl hl.1 rfl (lv_room (Nat.le_of_ble_eq_true rfl)) dX0_next_15 ⟨Nat.le_of_ble_eq_true rfl, Nat.le_of_ble_eq_true rfl⟩) (fun r_4 hw => ?_)
      try dsimp only at hw
      subst hQQ
      refine W.widen (k := 2) (n := 12) (Nat.le_of_ble_eq_true rfl) (Nat.le_of_ble_eq_true rfl) ?_
      refine vx_ret ?_
      exact W.iret (v := r_4) hx hb hr (fun t ht hW => ⟨⟨r_4, (A_ring_2, A_buffer_2, A_firstPlace_2, A_forcedPlace_2, A_endPlace_2, A_wordsToFailure_2, A_opened_2), rfl, hw, by rw [ht]; exact hP, va_K.moved hW.alike hK, hD⟩, hS.F ht⟩) hS.2.2 dX0_next_18
def wp_X0_before (post : Int32 → St_A → Prop) (px : String → St_A → Prop) (x1 : Int32) (A_ring : Nat → Int32) (A_buffer : Nat → Int32) (A_firstPlace : Int32) (A_forcedPlace : Int32) (A_endPlace : Int32) (A_wordsToFailure : Int32) (A_opened : Int32) : Prop :=
  wp_X0_requireOpen (fun u_1 => match u_1 with | (A_ring_1, A_buffer_1, A_firstPlace_1, A_forcedPlace_1, A_endPlace_1, A_wordsToFailure_1, A_opened_1) => wp_X0_requireRecord (fun u_2 => match u_2 with | (A_ring_2, A_buffer_2, A_firstPlace_2, A_forcedPlace_2, A_endPlace_2, A_wordsToFailure_2, A_opened_2) => wp_X0_lastRecordBefore (fun r_3 => post r_3 (A_ring_2, A_buffer_2, A_firstPlace_2, A_forcedPlace_2, A_endPlace_2, A_wordsToFailure_2, A_opened_2)) x1 A_ring_2 A_buffer_2 A_firstPlace_2 A_forcedPlace_2 A_endPlace_2 A_wordsToFailure_2 A_opened_2) px x1 A_ring_1 A_buffer_1 A_firstPlace_1 A_forcedPlace_1 A_endPlace_1 A_wordsToFailure_1 A_opened_1) px A_ring A_buffer A_firstPlace A_forcedPlace A_endPlace A_wordsToFailure A_opened
set_option maxHeartbeats 4000000 in
set_option maxRecDepth 100000 in
theorem met_X0_before (l : Launch) (hl9 : l.stackTraces = false) (dC : Nat → ClassId) (dI : Nat → Nat → Nat) (qA qA_ring qA_buffer : Nat) (cA_ring cA_buffer : ClassId) (sz : Nat) (A_ring : Nat → Int32) (A_buffer : Nat → Int32) (A_firstPlace : Int32) (A_forcedPlace : Int32) (A_endPlace : Int32) (A_wordsToFailure : Int32) (A_opened : Int32) (x1 : Int32) (post : Int32 → St_A → Prop) (px : String → St_A → Prop) (hw : wp_X0_before post px x1 A_ring A_buffer A_firstPlace A_forcedPlace A_endPlace A_wordsToFailure A_opened) :
    vx_Met l yX0_before wsX0_before ({ frames := 7, cells := 2, slots := 12, locals := 117 } : Room) (pcX_A dC dI qA qA_ring qA_buffer cA_ring cA_buffer sz A_ring A_buffer A_firstPlace A_forcedPlace A_endPlace A_wordsToFailure A_opened [.ref qA, .int x1]) (va_Qi post (at_A dC dI (va_A [(qA, .inr (0, [.ref qA_ring, .ref qA_buffer, .int A_firstPlace, .int A_forcedPlace, .int A_endPlace, .int A_wordsToFailure, .int A_opened])), (qA_ring, .inl (cA_ring, 65536, .inl A_ring)), (qA_buffer, .inl (cA_buffer, 200, .inl A_buffer))] sz) qA qA_ring qA_buffer cA_ring cA_buffer) (va_A [(qA, .inr (0, [.ref qA_ring, .ref qA_buffer, .int A_firstPlace, .int A_forcedPlace, .int A_endPlace, .int A_wordsToFailure, .int A_opened])), (qA_ring, .inl (cA_ring, 65536, .inl A_ring)), (qA_buffer, .inl (cA_buffer, 200, .inl A_buffer))] sz)) (vx_X (fun u => px u.1 u.2) (atx_A dC dI (va_A [(qA, .inr (0, [.ref qA_ring, .ref qA_buffer, .int A_firstPlace, .int A_forcedPlace, .int A_endPlace, .int A_wordsToFailure, .int A_opened])), (qA_ring, .inl (cA_ring, 65536, .inl A_ring)), (qA_buffer, .inl (cA_buffer, 200, .inl A_buffer))] sz) qA qA_ring qA_buffer cA_ring cA_buffer) (va_A [(qA, .inr (0, [.ref qA_ring, .ref qA_buffer, .int A_firstPlace, .int A_forcedPlace, .int A_endPlace, .int A_wordsToFailure, .int A_opened])), (qA_ring, .inl (cA_ring, 65536, .inl A_ring)), (qA_buffer, .inl (cA_buffer, 200, .inl A_buffer))] sz)) 2 12 (va_A [(qA, .inr (0, [.ref qA_ring, .ref qA_buffer, .int A_firstPlace, .int A_forcedPlace, .int A_endPlace, .int A_wordsToFailure, .int A_opened])), (qA_ring, .inl (cA_ring, 65536, .inl A_ring)), (qA_buffer, .inl (cA_buffer, 200, .inl A_buffer))] sz) := by
  refine vx_ofW (cc := cX0_before) (maxL := 2) (ret := (some .int)) (by decide) rfl ?_
  intro p e s m args below meth c s₁ B hml hEx hv
  obtain ⟨hav, hsz, hP, hK, hD0, hXW0⟩ := hv
  have hx := B.exec
  have hb := B.bytes
  have hr := B.returns
  have hts := atoms_spec (ws := wsX0_before) B.pre
  have hbg : ∀ w ∈ bigW, w.before args s = true := fun w h => hts w (List.mem_cons_of_mem _ h)
  have hown : s.vm.findClass RX0 = some m.cls := findClass_of_methodNamed B.named
  have hlocks := B.notSynchronized
  subst hsz
  have hD := hD0.self (sz := s.heap.size)
  generalize hAe : va_A [(qA, .inr (0, [.ref qA_ring, .ref qA_buffer, .int A_firstPlace, .int A_forcedPlace, .int A_endPlace, .int A_wordsToFailure, .int A_opened])), (qA_ring, .inl (cA_ring, 65536, .inl A_ring)), (qA_buffer, .inl (cA_buffer, 200, .inl A_buffer))] s.heap.size = A at hD hXW0 ⊢
  have hA : ∀ q : Nat, s.heap.size ≤ q → A q := fun q h => by rw [← hAe]; exact Or.inr h
  have hS : va_S A s.heap s.heap [] := va_S.rf
  have hP : va_P (dC, dI) vwCl [(qA, .inr (0, [.ref qA_ring, .ref qA_buffer, .int A_firstPlace, .int A_forcedPlace, .int A_endPlace, .int A_wordsToFailure, .int A_opened])), (qA_ring, .inl (cA_ring, 65536, .inl A_ring)), (qA_buffer, .inl (cA_buffer, 200, .inl A_buffer))] s.heap := hP
  generalize hQQ : vx_MQ below (va_Qi post (at_A dC dI A qA qA_ring qA_buffer cA_ring cA_buffer) A) (vx_X (fun u => px u.1 u.2) (atx_A dC dI A qA qA_ring qA_buffer cA_ring cA_buffer) A) args s 2 12 A = QQ
  have hl := lv_entry ([.ref qA, .int x1]) (n := 2) (Nat.le_of_ble_eq_true rfl)
  rw [show entryFrame m args 2 = entryFrame m ([.ref qA, .int x1] : List Value).toArray 2 by rw [hav], lg_entry_eq]
  generalize (lg_sl ([.ref qA, .int x1]) ++ List.replicate (2 - (lg_sl ([.ref qA, .int x1])).length) Slot.unset).toArray = ls at hl ⊢
  have hl : lv_has ls 2 [(0, .ref qA), (1, .int x1)] := hl
  unfold wp_X0_before at hw
  refine lv_aload_n hx hb dX0_before_0 rfl (lv_at hl 0 rfl) ?_
  have hFc := va_free (wc := [(qA, .inr (0, [.ref qA_ring, .ref qA_buffer, .int A_firstPlace, .int A_forcedPlace, .int A_endPlace, .int A_wordsToFailure, .int A_opened])), (qA_ring, .inl (cA_ring, 65536, .inl A_ring)), (qA_buffer, .inl (cA_buffer, 200, .inl A_buffer))]) hD hS hA [0, 1, 2] rfl
  refine vx_callv (vx_runV (As := []) (rest := []) ⟨hx, hb, hml, hown, hbg⟩ (met_X0_requireOpen l hl9 dC dI qA qA_ring qA_buffer cA_ring cA_buffer s.heap.size A_ring A_buffer A_firstPlace A_forcedPlace A_endPlace A_wordsToFailure A_opened  _ _ hw) (cwV 0 hbg g_RX0_34 rfl rfl rfl (by decide +kernel) ⟨Nat.le_of_ble_eq_true rfl, Nat.le_of_ble_eq_true rfl⟩) ⟨pcX_A_b _ _ _ _ _ _ _ _ _ _ _ _ _ _ _ _, va_recv hK hP (ci := 0) (q0 := 0) rfl rfl, fun U hU hW => ⟨rfl, by rw [hU], by rw [hU]; exact hP, va_K.moved hW.alike hK, hD.weaken (fun _ _ _ _ => trivial), XW.go hXW0 hS hFc hU hW⟩⟩ rfl rfl hl.1 rfl (lv_room (Nat.le_of_ble_eq_true rfl)) dX0_before_1 ⟨Nat.le_of_ble_eq_true rfl, Nat.le_of_ble_eq_true rfl⟩) hS (fun q _ h => hFc q h) hFc (fun q _ h => hFc q h) (fun E9 ce9 q9 u9 t9 H_1 locs ht hvm hpx hBX hz1 hk1 hS hce hcv hcl => ?_) (fun u_1 t_1 H_1 locs ht hvm hw hB hz1 hk1 hS => ?_)
  · obtain ⟨E8, A_ring_x1, A_buffer_x1, A_firstPlace_x1, A_forcedPlace_x1, A_endPlace_x1, A_wordsToFailure_x1, A_opened_x1⟩ := u9
    obtain ⟨rfl, hP1, hK1, hD1⟩ := hBX
    rw [ht] at hP1
    have hP : va_P (dC, dI) vwCl [(qA, .inr (0, [.ref qA_ring, .ref qA_buffer, .int A_firstPlace_x1, .int A_forcedPlace_x1, .int A_endPlace_x1, .int A_wordsToFailure_x1, .int A_opened_x1])), (qA_ring, .inl (cA_ring, 65536, .inl A_ring_x1)), (qA_buffer, .inl (cA_buffer, 200, .inl A_buffer_x1))] H_1 := hP1
    have hD : va_D A [(qA, .inr (0, [.ref qA_ring, .ref qA_buffer, .int A_firstPlace_x1, .int A_forcedPlace_x1, .int A_endPlace_x1, .int A_wordsToFailure_x1, .int A_opened_x1])), (qA_ring, .inl (cA_ring, 65536, .inl A_ring_x1)), (qA_buffer, .inl (cA_buffer, 200, .inl A_buffer_x1))] := hD1.weaken (fun _ _ _ h => hFc _ h)
    subst hQQ
    exact vx_out (fun x hx => (hEx x hx).elim) hlocks hce hcv hcl (fun t ht ha => ⟨(E9, (A_ring_x1, A_buffer_x1, A_firstPlace_x1, A_forcedPlace_x1, A_endPlace_x1, A_wordsToFailure_x1, A_opened_x1)), hpx, ⟨rfl, by rw [ht]; exact hP, va_K.moved ha hK, hD⟩, hS.F ht⟩) hS.2.2 (Nat.le_of_ble_eq_true rfl) (Nat.le_of_ble_eq_true rfl)
  · obtain ⟨A_ring_1, A_buffer_1, A_firstPlace_1, A_forcedPlace_1, A_endPlace_1, A_wordsToFailure_1, A_opened_1⟩ := u_1
    obtain ⟨hP1, hK1, hD1⟩ := hB
    rw [ht] at hP1
    try dsimp only at hw
    have hP : va_P (dC, dI) vwCl [(qA, .inr (0, [.ref qA_ring, .ref qA_buffer, .int A_firstPlace_1, .int A_forcedPlace_1, .int A_endPlace_1, .int A_wordsToFailure_1, .int A_opened_1])), (qA_ring, .inl (cA_ring, 65536, .inl A_ring_1)), (qA_buffer, .inl (cA_buffer, 200, .inl A_buffer_1))] H_1 := hP1
    have hD : va_D A [(qA, .inr (0, [.ref qA_ring, .ref qA_buffer, .int A_firstPlace_1, .int A_forcedPlace_1, .int A_endPlace_1, .int A_wordsToFailure_1, .int A_opened_1])), (qA_ring, .inl (cA_ring, 65536, .inl A_ring_1)), (qA_buffer, .inl (cA_buffer, 200, .inl A_buffer_1))] := hD1.weaken (fun _ _ _ h => hFc _ h)
    refine W.widen (k := 1) (n := 6) (Nat.le_of_ble_eq_true rfl) (Nat.le_of_ble_eq_true rfl) ?_
    refine lv_aload_n hx hb dX0_before_4 rfl (lv_at hl 0 rfl) ?_
    refine lv_iload_n hx hb dX0_before_5 rfl (lv_at hl 1 rfl) ?_
    have hFc := va_free (wc := [(qA, .inr (0, [.ref qA_ring, .ref qA_buffer, .int A_firstPlace_1, .int A_forcedPlace_1, .int A_endPlace_1, .int A_wordsToFailure_1, .int A_opened_1])), (qA_ring, .inl (cA_ring, 65536, .inl A_ring_1)), (qA_buffer, .inl (cA_buffer, 200, .inl A_buffer_1))]) hD hS hA [0, 1, 2] rfl
    refine vx_callv (vx_runV (As := [.int x1]) (rest := []) ⟨hx, hb, hml, hown, hbg⟩ (met_X0_requireRecord l hl9 dC dI qA qA_ring qA_buffer cA_ring cA_buffer H_1.size A_ring_1 A_buffer_1 A_firstPlace_1 A_forcedPlace_1 A_endPlace_1 A_wordsToFailure_1 A_opened_1 x1 _ _ hw) (cwV 1 hbg g_RX0_71 rfl rfl rfl (by decide +kernel) ⟨Nat.le_of_ble_eq_true rfl, Nat.le_of_ble_eq_true rfl⟩) ⟨pcX_A_b _ _ _ _ _ _ _ _ _ _ _ _ _ _ _ _, va_recv hK hP (ci := 0) (q0 := 0) rfl rfl, fun U hU hW => ⟨rfl, by rw [hU], by rw [hU]; exact hP, va_K.moved hW.alike hK, hD.weaken (fun _ _ _ _ => trivial), XW.go hXW0 hS hFc hU hW⟩⟩ rfl rfl hl.1 rfl (lv_room (Nat.le_of_ble_eq_true rfl)) dX0_before_6 ⟨Nat.le_of_ble_eq_true rfl, Nat.le_of_ble_eq_true rfl⟩) hS (fun q _ h => hFc q h) hFc (fun q _ h => hFc q h) (fun E9 ce9 q9 u9 t9 H_2 locs ht hvm hpx hBX hz1 hk1 hS hce hcv hcl => ?_) (fun u_2 t_2 H_2 locs ht hvm hw hB hz1 hk1 hS => ?_)
    · obtain ⟨E8, A_ring_x2, A_buffer_x2, A_firstPlace_x2, A_forcedPlace_x2, A_endPlace_x2, A_wordsToFailure_x2, A_opened_x2⟩ := u9
      obtain ⟨rfl, hP1, hK1, hD1⟩ := hBX
      rw [ht] at hP1
      have hP : va_P (dC, dI) vwCl [(qA, .inr (0, [.ref qA_ring, .ref qA_buffer, .int A_firstPlace_x2, .int A_forcedPlace_x2, .int A_endPlace_x2, .int A_wordsToFailure_x2, .int A_opened_x2])), (qA_ring, .inl (cA_ring, 65536, .inl A_ring_x2)), (qA_buffer, .inl (cA_buffer, 200, .inl A_buffer_x2))] H_2 := hP1
      have hD : va_D A [(qA, .inr (0, [.ref qA_ring, .ref qA_buffer, .int A_firstPlace_x2, .int A_forcedPlace_x2, .int A_endPlace_x2, .int A_wordsToFailure_x2, .int A_opened_x2])), (qA_ring, .inl (cA_ring, 65536, .inl A_ring_x2)), (qA_buffer, .inl (cA_buffer, 200, .inl A_buffer_x2))] := hD1.weaken (fun _ _ _ h => hFc _ h)
      subst hQQ
      exact vx_out (fun x hx => (hEx x hx).elim) hlocks hce hcv hcl (fun t ht ha => ⟨(E9, (A_ring_x2, A_buffer_x2, A_firstPlace_x2, A_forcedPlace_x2, A_endPlace_x2, A_wordsToFailure_x2, A_opened_x2)), hpx, ⟨rfl, by rw [ht]; exact hP, va_K.moved ha hK, hD⟩, hS.F ht⟩) hS.2.2 (Nat.le_of_ble_eq_true rfl) (Nat.le_of_ble_eq_true rfl)
    · obtain ⟨A_ring_2, A_buffer_2, A_firstPlace_2, A_forcedPlace_2, A_endPlace_2, A_wordsToFailure_2, A_opened_2⟩ := u_2
      obtain ⟨hP1, hK1, hD1⟩ := hB
      rw [ht] at hP1
      try dsimp only at hw
      have hP : va_P (dC, dI) vwCl [(qA, .inr (0, [.ref qA_ring, .ref qA_buffer, .int A_firstPlace_2, .int A_forcedPlace_2, .int A_endPlace_2, .int A_wordsToFailure_2, .int A_opened_2])), (qA_ring, .inl (cA_ring, 65536, .inl A_ring_2)), (qA_buffer, .inl (cA_buffer, 200, .inl A_buffer_2))] H_2 := hP1
      have hD : va_D A [(qA, .inr (0, [.ref qA_ring, .ref qA_buffer, .int A_firstPlace_2, .int A_forcedPlace_2, .int A_endPlace_2, .int A_wordsToFailure_2, .int A_opened_2])), (qA_ring, .inl (cA_ring, 65536, .inl A_ring_2)), (qA_buffer, .inl (cA_buffer, 200, .inl A_buffer_2))] := hD1.weaken (fun _ _ _ h => hFc _ h)
      refine W.widen (k := 2) (n := 12) (Nat.le_of_ble_eq_true rfl) (Nat.le_of_ble_eq_true rfl) ?_
      refine lv_aload_n hx hb dX0_before_9 rfl (lv_at hl 0 rfl) ?_
      refine lv_iload_n hx hb dX0_before_10 rfl (lv_at hl 1 rfl) ?_
      refine vp_callSi (W.runV (As := [.int x1]) (rest := []) ⟨hx, hb, hml, hown, hbg⟩ (met_X0_lastRecordBefore l dC dI qA qA_ring qA_buffer cA_ring cA_buffer A_ring_2 A_buffer_2 A_firstPlace_2 A_forcedPlace_2 A_endPlace_2 A_wordsToFailure_2 A_opened_2 x1 _ hw) (cwV 1 hbg g_RX0_88 rfl rfl rfl (by decide +kernel) ⟨Nat.le_of_ble_eq_true rfl, Nat.le_of_ble_eq_true rfl⟩) ⟨pcR_A_b _ _ _ _ _ _ _ _ _ _ _ _ _ _ _, va_recv hK hP (ci := 0) (q0 := 0) rfl rfl, fun U hU hW => ⟨rfl, by rw [hU]; exact hP, va_K.moved hW.alike hK⟩⟩ rfl rfl hl.1 rfl (lv_room (Nat.le_of_ble_eq_true rfl)) dX0_before_11 ⟨Nat.le_of_ble_eq_true rfl, Nat.le_of_ble_eq_true rfl⟩) (fun r_3 hw => ?_)
      try dsimp only at hw
      subst hQQ
      refine W.widen (k := 2) (n := 12) (Nat.le_of_ble_eq_true rfl) (Nat.le_of_ble_eq_true rfl) ?_
      refine vx_ret ?_
      exact W.iret (v := r_3) hx hb hr (fun t ht hW => ⟨⟨r_3, (A_ring_2, A_buffer_2, A_firstPlace_2, A_forcedPlace_2, A_endPlace_2, A_wordsToFailure_2, A_opened_2), rfl, hw, by rw [ht]; exact hP, va_K.moved hW.alike hK, hD⟩, hS.F ht⟩) hS.2.2 dX0_before_14
def wp_X0_lastOf (post : Int32 → St_A → Prop) (px : String → St_A → Prop) (x1 : Int32) (A_ring : Nat → Int32) (A_buffer : Nat → Int32) (A_firstPlace : Int32) (A_forcedPlace : Int32) (A_endPlace : Int32) (A_wordsToFailure : Int32) (A_opened : Int32) : Prop :=
  wp_X0_requireOpen (fun u_1 => match u_1 with | (A_ring_1, A_buffer_1, A_firstPlace_1, A_forcedPlace_1, A_endPlace_1, A_wordsToFailure_1, A_opened_1) => wp_X0_requireOwner (fun u_2 => match u_2 with | (A_ring_2, A_buffer_2, A_firstPlace_2, A_forcedPlace_2, A_endPlace_2, A_wordsToFailure_2, A_opened_2) => wp_X0_lastRecordOf (fun r_3 => post r_3 (A_ring_2, A_buffer_2, A_firstPlace_2, A_forcedPlace_2, A_endPlace_2, A_wordsToFailure_2, A_opened_2)) x1 A_ring_2 A_buffer_2 A_firstPlace_2 A_forcedPlace_2 A_endPlace_2 A_wordsToFailure_2 A_opened_2) px x1 A_ring_1 A_buffer_1 A_firstPlace_1 A_forcedPlace_1 A_endPlace_1 A_wordsToFailure_1 A_opened_1) px A_ring A_buffer A_firstPlace A_forcedPlace A_endPlace A_wordsToFailure A_opened
set_option maxHeartbeats 4000000 in
set_option maxRecDepth 100000 in
theorem met_X0_lastOf (l : Launch) (hl9 : l.stackTraces = false) (dC : Nat → ClassId) (dI : Nat → Nat → Nat) (qA qA_ring qA_buffer : Nat) (cA_ring cA_buffer : ClassId) (sz : Nat) (A_ring : Nat → Int32) (A_buffer : Nat → Int32) (A_firstPlace : Int32) (A_forcedPlace : Int32) (A_endPlace : Int32) (A_wordsToFailure : Int32) (A_opened : Int32) (x1 : Int32) (post : Int32 → St_A → Prop) (px : String → St_A → Prop) (hw : wp_X0_lastOf post px x1 A_ring A_buffer A_firstPlace A_forcedPlace A_endPlace A_wordsToFailure A_opened) :
    vx_Met l yX0_lastOf wsX0_lastOf ({ frames := 7, cells := 2, slots := 12, locals := 117 } : Room) (pcX_A dC dI qA qA_ring qA_buffer cA_ring cA_buffer sz A_ring A_buffer A_firstPlace A_forcedPlace A_endPlace A_wordsToFailure A_opened [.ref qA, .int x1]) (va_Qi post (at_A dC dI (va_A [(qA, .inr (0, [.ref qA_ring, .ref qA_buffer, .int A_firstPlace, .int A_forcedPlace, .int A_endPlace, .int A_wordsToFailure, .int A_opened])), (qA_ring, .inl (cA_ring, 65536, .inl A_ring)), (qA_buffer, .inl (cA_buffer, 200, .inl A_buffer))] sz) qA qA_ring qA_buffer cA_ring cA_buffer) (va_A [(qA, .inr (0, [.ref qA_ring, .ref qA_buffer, .int A_firstPlace, .int A_forcedPlace, .int A_endPlace, .int A_wordsToFailure, .int A_opened])), (qA_ring, .inl (cA_ring, 65536, .inl A_ring)), (qA_buffer, .inl (cA_buffer, 200, .inl A_buffer))] sz)) (vx_X (fun u => px u.1 u.2) (atx_A dC dI (va_A [(qA, .inr (0, [.ref qA_ring, .ref qA_buffer, .int A_firstPlace, .int A_forcedPlace, .int A_endPlace, .int A_wordsToFailure, .int A_opened])), (qA_ring, .inl (cA_ring, 65536, .inl A_ring)), (qA_buffer, .inl (cA_buffer, 200, .inl A_buffer))] sz) qA qA_ring qA_buffer cA_ring cA_buffer) (va_A [(qA, .inr (0, [.ref qA_ring, .ref qA_buffer, .int A_firstPlace, .int A_forcedPlace, .int A_endPlace, .int A_wordsToFailure, .int A_opened])), (qA_ring, .inl (cA_ring, 65536, .inl A_ring)), (qA_buffer, .inl (cA_buffer, 200, .inl A_buffer))] sz)) 2 12 (va_A [(qA, .inr (0, [.ref qA_ring, .ref qA_buffer, .int A_firstPlace, .int A_forcedPlace, .int A_endPlace, .int A_wordsToFailure, .int A_opened])), (qA_ring, .inl (cA_ring, 65536, .inl A_ring)), (qA_buffer, .inl (cA_buffer, 200, .inl A_buffer))] sz) := by
  refine vx_ofW (cc := cX0_lastOf) (maxL := 2) (ret := (some .int)) (by decide) rfl ?_
  intro p e s m args below meth c s₁ B hml hEx hv
  obtain ⟨hav, hsz, hP, hK, hD0, hXW0⟩ := hv
  have hx := B.exec
  have hb := B.bytes
  have hr := B.returns
  have hts := atoms_spec (ws := wsX0_lastOf) B.pre
  have hbg : ∀ w ∈ bigW, w.before args s = true := fun w h => hts w (List.mem_cons_of_mem _ h)
  have hown : s.vm.findClass RX0 = some m.cls := findClass_of_methodNamed B.named
  have hlocks := B.notSynchronized
  subst hsz
  have hD := hD0.self (sz := s.heap.size)
  generalize hAe : va_A [(qA, .inr (0, [.ref qA_ring, .ref qA_buffer, .int A_firstPlace, .int A_forcedPlace, .int A_endPlace, .int A_wordsToFailure, .int A_opened])), (qA_ring, .inl (cA_ring, 65536, .inl A_ring)), (qA_buffer, .inl (cA_buffer, 200, .inl A_buffer))] s.heap.size = A at hD hXW0 ⊢
  have hA : ∀ q : Nat, s.heap.size ≤ q → A q := fun q h => by rw [← hAe]; exact Or.inr h
  have hS : va_S A s.heap s.heap [] := va_S.rf
  have hP : va_P (dC, dI) vwCl [(qA, .inr (0, [.ref qA_ring, .ref qA_buffer, .int A_firstPlace, .int A_forcedPlace, .int A_endPlace, .int A_wordsToFailure, .int A_opened])), (qA_ring, .inl (cA_ring, 65536, .inl A_ring)), (qA_buffer, .inl (cA_buffer, 200, .inl A_buffer))] s.heap := hP
  generalize hQQ : vx_MQ below (va_Qi post (at_A dC dI A qA qA_ring qA_buffer cA_ring cA_buffer) A) (vx_X (fun u => px u.1 u.2) (atx_A dC dI A qA qA_ring qA_buffer cA_ring cA_buffer) A) args s 2 12 A = QQ
  have hl := lv_entry ([.ref qA, .int x1]) (n := 2) (Nat.le_of_ble_eq_true rfl)
  rw [show entryFrame m args 2 = entryFrame m ([.ref qA, .int x1] : List Value).toArray 2 by rw [hav], lg_entry_eq]
  generalize (lg_sl ([.ref qA, .int x1]) ++ List.replicate (2 - (lg_sl ([.ref qA, .int x1])).length) Slot.unset).toArray = ls at hl ⊢
  have hl : lv_has ls 2 [(0, .ref qA), (1, .int x1)] := hl
  unfold wp_X0_lastOf at hw
  refine lv_aload_n hx hb dX0_lastOf_0 rfl (lv_at hl 0 rfl) ?_
  have hFc := va_free (wc := [(qA, .inr (0, [.ref qA_ring, .ref qA_buffer, .int A_firstPlace, .int A_forcedPlace, .int A_endPlace, .int A_wordsToFailure, .int A_opened])), (qA_ring, .inl (cA_ring, 65536, .inl A_ring)), (qA_buffer, .inl (cA_buffer, 200, .inl A_buffer))]) hD hS hA [0, 1, 2] rfl
  refine vx_callv (vx_runV (As := []) (rest := []) ⟨hx, hb, hml, hown, hbg⟩ (met_X0_requireOpen l hl9 dC dI qA qA_ring qA_buffer cA_ring cA_buffer s.heap.size A_ring A_buffer A_firstPlace A_forcedPlace A_endPlace A_wordsToFailure A_opened  _ _ hw) (cwV 0 hbg g_RX0_34 rfl rfl rfl (by decide +kernel) ⟨Nat.le_of_ble_eq_true rfl, Nat.le_of_ble_eq_true rfl⟩) ⟨pcX_A_b _ _ _ _ _ _ _ _ _ _ _ _ _ _ _ _, va_recv hK hP (ci := 0) (q0 := 0) rfl rfl, fun U hU hW => ⟨rfl, by rw [hU], by rw [hU]; exact hP, va_K.moved hW.alike hK, hD.weaken (fun _ _ _ _ => trivial), XW.go hXW0 hS hFc hU hW⟩⟩ rfl rfl hl.1 rfl (lv_room (Nat.le_of_ble_eq_true rfl)) dX0_lastOf_1 ⟨Nat.le_of_ble_eq_true rfl, Nat.le_of_ble_eq_true rfl⟩) hS (fun q _ h => hFc q h) hFc (fun q _ h => hFc q h) (fun E9 ce9 q9 u9 t9 H_1 locs ht hvm hpx hBX hz1 hk1 hS hce hcv hcl => ?_) (fun u_1 t_1 H_1 locs ht hvm hw hB hz1 hk1 hS => ?_)
  · obtain ⟨E8, A_ring_x1, A_buffer_x1, A_firstPlace_x1, A_forcedPlace_x1, A_endPlace_x1, A_wordsToFailure_x1, A_opened_x1⟩ := u9
    obtain ⟨rfl, hP1, hK1, hD1⟩ := hBX
    rw [ht] at hP1
    have hP : va_P (dC, dI) vwCl [(qA, .inr (0, [.ref qA_ring, .ref qA_buffer, .int A_firstPlace_x1, .int A_forcedPlace_x1, .int A_endPlace_x1, .int A_wordsToFailure_x1, .int A_opened_x1])), (qA_ring, .inl (cA_ring, 65536, .inl A_ring_x1)), (qA_buffer, .inl (cA_buffer, 200, .inl A_buffer_x1))] H_1 := hP1
    have hD : va_D A [(qA, .inr (0, [.ref qA_ring, .ref qA_buffer, .int A_firstPlace_x1, .int A_forcedPlace_x1, .int A_endPlace_x1, .int A_wordsToFailure_x1, .int A_opened_x1])), (qA_ring, .inl (cA_ring, 65536, .inl A_ring_x1)), (qA_buffer, .inl (cA_buffer, 200, .inl A_buffer_x1))] := hD1.weaken (fun _ _ _ h => hFc _ h)
    subst hQQ
    exact vx_out (fun x hx => (hEx x hx).elim) hlocks hce hcv hcl (fun t ht ha => ⟨(E9, (A_ring_x1, A_buffer_x1, A_firstPlace_x1, A_forcedPlace_x1, A_endPlace_x1, A_wordsToFailure_x1, A_opened_x1)), hpx, ⟨rfl, by rw [ht]; exact hP, va_K.moved ha hK, hD⟩, hS.F ht⟩) hS.2.2 (Nat.le_of_ble_eq_true rfl) (Nat.le_of_ble_eq_true rfl)
  · obtain ⟨A_ring_1, A_buffer_1, A_firstPlace_1, A_forcedPlace_1, A_endPlace_1, A_wordsToFailure_1, A_opened_1⟩ := u_1
    obtain ⟨hP1, hK1, hD1⟩ := hB
    rw [ht] at hP1
    try dsimp only at hw
    have hP : va_P (dC, dI) vwCl [(qA, .inr (0, [.ref qA_ring, .ref qA_buffer, .int A_firstPlace_1, .int A_forcedPlace_1, .int A_endPlace_1, .int A_wordsToFailure_1, .int A_opened_1])), (qA_ring, .inl (cA_ring, 65536, .inl A_ring_1)), (qA_buffer, .inl (cA_buffer, 200, .inl A_buffer_1))] H_1 := hP1
    have hD : va_D A [(qA, .inr (0, [.ref qA_ring, .ref qA_buffer, .int A_firstPlace_1, .int A_forcedPlace_1, .int A_endPlace_1, .int A_wordsToFailure_1, .int A_opened_1])), (qA_ring, .inl (cA_ring, 65536, .inl A_ring_1)), (qA_buffer, .inl (cA_buffer, 200, .inl A_buffer_1))] := hD1.weaken (fun _ _ _ h => hFc _ h)
    refine W.widen (k := 1) (n := 6) (Nat.le_of_ble_eq_true rfl) (Nat.le_of_ble_eq_true rfl) ?_
    refine lv_aload_n hx hb dX0_lastOf_4 rfl (lv_at hl 0 rfl) ?_
    refine lv_iload_n hx hb dX0_lastOf_5 rfl (lv_at hl 1 rfl) ?_
    have hFc := va_free (wc := [(qA, .inr (0, [.ref qA_ring, .ref qA_buffer, .int A_firstPlace_1, .int A_forcedPlace_1, .int A_endPlace_1, .int A_wordsToFailure_1, .int A_opened_1])), (qA_ring, .inl (cA_ring, 65536, .inl A_ring_1)), (qA_buffer, .inl (cA_buffer, 200, .inl A_buffer_1))]) hD hS hA [0, 1, 2] rfl
    refine vx_callv (vx_runV (As := [.int x1]) (rest := []) ⟨hx, hb, hml, hown, hbg⟩ (met_X0_requireOwner l hl9 dC dI qA qA_ring qA_buffer cA_ring cA_buffer H_1.size A_ring_1 A_buffer_1 A_firstPlace_1 A_forcedPlace_1 A_endPlace_1 A_wordsToFailure_1 A_opened_1 x1 _ _ hw) (cwV 1 hbg g_RX0_48 rfl rfl rfl (by decide +kernel) ⟨Nat.le_of_ble_eq_true rfl, Nat.le_of_ble_eq_true rfl⟩) ⟨pcX_A_b _ _ _ _ _ _ _ _ _ _ _ _ _ _ _ _, va_recv hK hP (ci := 0) (q0 := 0) rfl rfl, fun U hU hW => ⟨rfl, by rw [hU], by rw [hU]; exact hP, va_K.moved hW.alike hK, hD.weaken (fun _ _ _ _ => trivial), XW.go hXW0 hS hFc hU hW⟩⟩ rfl rfl hl.1 rfl (lv_room (Nat.le_of_ble_eq_true rfl)) dX0_lastOf_6 ⟨Nat.le_of_ble_eq_true rfl, Nat.le_of_ble_eq_true rfl⟩) hS (fun q _ h => hFc q h) hFc (fun q _ h => hFc q h) (fun E9 ce9 q9 u9 t9 H_2 locs ht hvm hpx hBX hz1 hk1 hS hce hcv hcl => ?_) (fun u_2 t_2 H_2 locs ht hvm hw hB hz1 hk1 hS => ?_)
    · obtain ⟨E8, A_ring_x2, A_buffer_x2, A_firstPlace_x2, A_forcedPlace_x2, A_endPlace_x2, A_wordsToFailure_x2, A_opened_x2⟩ := u9
      obtain ⟨rfl, hP1, hK1, hD1⟩ := hBX
      rw [ht] at hP1
      have hP : va_P (dC, dI) vwCl [(qA, .inr (0, [.ref qA_ring, .ref qA_buffer, .int A_firstPlace_x2, .int A_forcedPlace_x2, .int A_endPlace_x2, .int A_wordsToFailure_x2, .int A_opened_x2])), (qA_ring, .inl (cA_ring, 65536, .inl A_ring_x2)), (qA_buffer, .inl (cA_buffer, 200, .inl A_buffer_x2))] H_2 := hP1
      have hD : va_D A [(qA, .inr (0, [.ref qA_ring, .ref qA_buffer, .int A_firstPlace_x2, .int A_forcedPlace_x2, .int A_endPlace_x2, .int A_wordsToFailure_x2, .int A_opened_x2])), (qA_ring, .inl (cA_ring, 65536, .inl A_ring_x2)), (qA_buffer, .inl (cA_buffer, 200, .inl A_buffer_x2))] := hD1.weaken (fun _ _ _ h => hFc _ h)
      subst hQQ
      exact vx_out (fun x hx => (hEx x hx).elim) hlocks hce hcv hcl (fun t ht ha => ⟨(E9, (A_ring_x2, A_buffer_x2, A_firstPlace_x2, A_forcedPlace_x2, A_endPlace_x2, A_wordsToFailure_x2, A_opened_x2)), hpx, ⟨rfl, by rw [ht]; exact hP, va_K.moved ha hK, hD⟩, hS.F ht⟩) hS.2.2 (Nat.le_of_ble_eq_true rfl) (Nat.le_of_ble_eq_true rfl)
    · obtain ⟨A_ring_2, A_buffer_2, A_firstPlace_2, A_forcedPlace_2, A_endPlace_2, A_wordsToFailure_2, A_opened_2⟩ := u_2
      obtain ⟨hP1, hK1, hD1⟩ := hB
      rw [ht] at hP1
      try dsimp only at hw
      have hP : va_P (dC, dI) vwCl [(qA, .inr (0, [.ref qA_ring, .ref qA_buffer, .int A_firstPlace_2, .int A_forcedPlace_2, .int A_endPlace_2, .int A_wordsToFailure_2, .int A_opened_2])), (qA_ring, .inl (cA_ring, 65536, .inl A_ring_2)), (qA_buffer, .inl (cA_buffer, 200, .inl A_buffer_2))] H_2 := hP1
      have hD : va_D A [(qA, .inr (0, [.ref qA_ring, .ref qA_buffer, .int A_firstPlace_2, .int A_forcedPlace_2, .int A_endPlace_2, .int A_wordsToFailure_2, .int A_opened_2])), (qA_ring, .inl (cA_ring, 65536, .inl A_ring_2)), (qA_buffer, .inl (cA_buffer, 200, .inl A_buffer_2))] := hD1.weaken (fun _ _ _ h => hFc _ h)
      refine W.widen (k := 2) (n := 12) (Nat.le_of_ble_eq_true rfl) (Nat.le_of_ble_eq_true rfl) ?_
      refine lv_aload_n hx hb dX0_lastOf_9 rfl (lv_at hl 0 rfl) ?_
      refine lv_iload_n hx hb dX0_lastOf_10 rfl (lv_at hl 1 rfl) ?_
      refine vp_callSi (W.runV (As := [.int x1]) (rest := []) ⟨hx, hb, hml, hown, hbg⟩ (met_X0_lastRecordOf l dC dI qA qA_ring qA_buffer cA_ring cA_buffer A_ring_2 A_buffer_2 A_firstPlace_2 A_forcedPlace_2 A_endPlace_2 A_wordsToFailure_2 A_opened_2 x1 _ hw) (cwV 1 hbg g_RX0_61 rfl rfl rfl (by decide +kernel) ⟨Nat.le_of_ble_eq_true rfl, Nat.le_of_ble_eq_true rfl⟩) ⟨pcR_A_b _ _ _ _ _ _ _ _ _ _ _ _ _ _ _, va_recv hK hP (ci := 0) (q0 := 0) rfl rfl, fun U hU hW => ⟨rfl, by rw [hU]; exact hP, va_K.moved hW.alike hK⟩⟩ rfl rfl hl.1 rfl (lv_room (Nat.le_of_ble_eq_true rfl)) dX0_lastOf_11 ⟨Nat.le_of_ble_eq_true rfl, Nat.le_of_ble_eq_true rfl⟩) (fun r_3 hw => ?_)
      try dsimp only at hw
      subst hQQ
      refine W.widen (k := 2) (n := 12) (Nat.le_of_ble_eq_true rfl) (Nat.le_of_ble_eq_true rfl) ?_
      refine vx_ret ?_
      exact W.iret (v := r_3) hx hb hr (fun t ht hW => ⟨⟨r_3, (A_ring_2, A_buffer_2, A_firstPlace_2, A_forcedPlace_2, A_endPlace_2, A_wordsToFailure_2, A_opened_2), rfl, hw, by rw [ht]; exact hP, va_K.moved hW.alike hK, hD⟩, hS.F ht⟩) hS.2.2 dX0_lastOf_14
def wp_X0_of (post : Int32 → St_A → Prop) (px : String → St_A → Prop) (x1 : Int32) (x2 : Int32) (A_ring : Nat → Int32) (A_buffer : Nat → Int32) (A_firstPlace : Int32) (A_forcedPlace : Int32) (A_endPlace : Int32) (A_wordsToFailure : Int32) (A_opened : Int32) : Prop :=
  wp_X0_requireOpen (fun u_1 => match u_1 with | (A_ring_1, A_buffer_1, A_firstPlace_1, A_forcedPlace_1, A_endPlace_1, A_wordsToFailure_1, A_opened_1) => wp_X0_requireRecord (fun u_2 => match u_2 with | (A_ring_2, A_buffer_2, A_firstPlace_2, A_forcedPlace_2, A_endPlace_2, A_wordsToFailure_2, A_opened_2) => ((x2 = (0 : Int32) → wp_X0_kindAt (fun r_3 => post r_3 (A_ring_2, A_buffer_2, A_firstPlace_2, A_forcedPlace_2, A_endPlace_2, A_wordsToFailure_2, A_opened_2)) x1 A_ring_2 A_buffer_2 A_firstPlace_2 A_forcedPlace_2 A_endPlace_2 A_wordsToFailure_2 A_opened_2) ∧ (¬ x2 = (0 : Int32) → ((x2 = (1 : Int32) → wp_X0_ownerAt (fun r_4 => post r_4 (A_ring_2, A_buffer_2, A_firstPlace_2, A_forcedPlace_2, A_endPlace_2, A_wordsToFailure_2, A_opened_2)) x1 A_ring_2 A_buffer_2 A_firstPlace_2 A_forcedPlace_2 A_endPlace_2 A_wordsToFailure_2 A_opened_2) ∧ (¬ x2 = (1 : Int32) → ((x2 = (2 : Int32) → wp_X0_wordAt (fun r_5 => post r_5 (A_ring_2, A_buffer_2, A_firstPlace_2, A_forcedPlace_2, A_endPlace_2, A_wordsToFailure_2, A_opened_2)) (x1 + (2 : Int32)) A_ring_2 A_buffer_2 A_firstPlace_2 A_forcedPlace_2 A_endPlace_2 A_wordsToFailure_2 A_opened_2) ∧ (¬ x2 = (2 : Int32) → ((x2 = (3 : Int32) → wp_X0_wordAt (fun r_6 => post r_6 (A_ring_2, A_buffer_2, A_firstPlace_2, A_forcedPlace_2, A_endPlace_2, A_wordsToFailure_2, A_opened_2)) (x1 + (3 : Int32)) A_ring_2 A_buffer_2 A_firstPlace_2 A_forcedPlace_2 A_endPlace_2 A_wordsToFailure_2 A_opened_2) ∧ (¬ x2 = (3 : Int32) → ((x2 = (4 : Int32) → wp_X0_contentWords (fun r_7 => post r_7 (A_ring_2, A_buffer_2, A_firstPlace_2, A_forcedPlace_2, A_endPlace_2, A_wordsToFailure_2, A_opened_2)) x1 A_ring_2 A_buffer_2 A_firstPlace_2 A_forcedPlace_2 A_endPlace_2 A_wordsToFailure_2 A_opened_2) ∧ (¬ x2 = (4 : Int32) → px "java/lang/IndexOutOfBoundsException" (A_ring_2, A_buffer_2, A_firstPlace_2, A_forcedPlace_2, A_endPlace_2, A_wordsToFailure_2, A_opened_2)))))))))))) px x1 A_ring_1 A_buffer_1 A_firstPlace_1 A_forcedPlace_1 A_endPlace_1 A_wordsToFailure_1 A_opened_1) px A_ring A_buffer A_firstPlace A_forcedPlace A_endPlace A_wordsToFailure A_opened
set_option maxHeartbeats 4000000 in
set_option maxRecDepth 100000 in
theorem met_X0_of (l : Launch) (hl9 : l.stackTraces = false) (dC : Nat → ClassId) (dI : Nat → Nat → Nat) (qA qA_ring qA_buffer : Nat) (cA_ring cA_buffer : ClassId) (sz : Nat) (A_ring : Nat → Int32) (A_buffer : Nat → Int32) (A_firstPlace : Int32) (A_forcedPlace : Int32) (A_endPlace : Int32) (A_wordsToFailure : Int32) (A_opened : Int32) (x1 : Int32) (x2 : Int32) (post : Int32 → St_A → Prop) (px : String → St_A → Prop) (hw : wp_X0_of post px x1 x2 A_ring A_buffer A_firstPlace A_forcedPlace A_endPlace A_wordsToFailure A_opened) :
    vx_Met l yX0_of wsX0_of ({ frames := 7, cells := 3, slots := 18, locals := 117 } : Room) (pcX_A dC dI qA qA_ring qA_buffer cA_ring cA_buffer sz A_ring A_buffer A_firstPlace A_forcedPlace A_endPlace A_wordsToFailure A_opened [.ref qA, .int x1, .int x2]) (va_Qi post (at_A dC dI (va_A [(qA, .inr (0, [.ref qA_ring, .ref qA_buffer, .int A_firstPlace, .int A_forcedPlace, .int A_endPlace, .int A_wordsToFailure, .int A_opened])), (qA_ring, .inl (cA_ring, 65536, .inl A_ring)), (qA_buffer, .inl (cA_buffer, 200, .inl A_buffer))] sz) qA qA_ring qA_buffer cA_ring cA_buffer) (va_A [(qA, .inr (0, [.ref qA_ring, .ref qA_buffer, .int A_firstPlace, .int A_forcedPlace, .int A_endPlace, .int A_wordsToFailure, .int A_opened])), (qA_ring, .inl (cA_ring, 65536, .inl A_ring)), (qA_buffer, .inl (cA_buffer, 200, .inl A_buffer))] sz)) (vx_X (fun u => px u.1 u.2) (atx_A dC dI (va_A [(qA, .inr (0, [.ref qA_ring, .ref qA_buffer, .int A_firstPlace, .int A_forcedPlace, .int A_endPlace, .int A_wordsToFailure, .int A_opened])), (qA_ring, .inl (cA_ring, 65536, .inl A_ring)), (qA_buffer, .inl (cA_buffer, 200, .inl A_buffer))] sz) qA qA_ring qA_buffer cA_ring cA_buffer) (va_A [(qA, .inr (0, [.ref qA_ring, .ref qA_buffer, .int A_firstPlace, .int A_forcedPlace, .int A_endPlace, .int A_wordsToFailure, .int A_opened])), (qA_ring, .inl (cA_ring, 65536, .inl A_ring)), (qA_buffer, .inl (cA_buffer, 200, .inl A_buffer))] sz)) 3 18 (va_A [(qA, .inr (0, [.ref qA_ring, .ref qA_buffer, .int A_firstPlace, .int A_forcedPlace, .int A_endPlace, .int A_wordsToFailure, .int A_opened])), (qA_ring, .inl (cA_ring, 65536, .inl A_ring)), (qA_buffer, .inl (cA_buffer, 200, .inl A_buffer))] sz) := by
  refine vx_ofW (cc := cX0_of) (maxL := 3) (ret := (some .int)) (by decide) rfl ?_
  intro p e s m args below meth c s₁ B hml hEx hv
  obtain ⟨hav, hsz, hP, hK, hD0, hXW0⟩ := hv
  have hx := B.exec
  have hb := B.bytes
  have hr := B.returns
  have hts := atoms_spec (ws := wsX0_of) B.pre
  have hbg : ∀ w ∈ bigW, w.before args s = true := fun w h => hts w (List.mem_cons_of_mem _ h)
  have hown : s.vm.findClass RX0 = some m.cls := findClass_of_methodNamed B.named
  have hlocks := B.notSynchronized
  subst hsz
  have hD := hD0.self (sz := s.heap.size)
  generalize hAe : va_A [(qA, .inr (0, [.ref qA_ring, .ref qA_buffer, .int A_firstPlace, .int A_forcedPlace, .int A_endPlace, .int A_wordsToFailure, .int A_opened])), (qA_ring, .inl (cA_ring, 65536, .inl A_ring)), (qA_buffer, .inl (cA_buffer, 200, .inl A_buffer))] s.heap.size = A at hD hXW0 ⊢
  have hA : ∀ q : Nat, s.heap.size ≤ q → A q := fun q h => by rw [← hAe]; exact Or.inr h
  have hS : va_S A s.heap s.heap [] := va_S.rf
  have hP : va_P (dC, dI) vwCl [(qA, .inr (0, [.ref qA_ring, .ref qA_buffer, .int A_firstPlace, .int A_forcedPlace, .int A_endPlace, .int A_wordsToFailure, .int A_opened])), (qA_ring, .inl (cA_ring, 65536, .inl A_ring)), (qA_buffer, .inl (cA_buffer, 200, .inl A_buffer))] s.heap := hP
  generalize hQQ : vx_MQ below (va_Qi post (at_A dC dI A qA qA_ring qA_buffer cA_ring cA_buffer) A) (vx_X (fun u => px u.1 u.2) (atx_A dC dI A qA qA_ring qA_buffer cA_ring cA_buffer) A) args s 3 18 A = QQ
  have hl := lv_entry ([.ref qA, .int x1, .int x2]) (n := 3) (Nat.le_of_ble_eq_true rfl)
  rw [show entryFrame m args 3 = entryFrame m ([.ref qA, .int x1, .int x2] : List Value).toArray 3 by rw [hav], lg_entry_eq]
  generalize (lg_sl ([.ref qA, .int x1, .int x2]) ++ List.replicate (3 - (lg_sl ([.ref qA, .int x1, .int x2])).length) Slot.unset).toArray = ls at hl ⊢
  have hl : lv_has ls 3 [(0, .ref qA), (1, .int x1), (2, .int x2)] := hl
  unfold wp_X0_of at hw
  refine lv_aload_n hx hb dX0_of_0 rfl (lv_at hl 0 rfl) ?_
  have hFc := va_free (wc := [(qA, .inr (0, [.ref qA_ring, .ref qA_buffer, .int A_firstPlace, .int A_forcedPlace, .int A_endPlace, .int A_wordsToFailure, .int A_opened])), (qA_ring, .inl (cA_ring, 65536, .inl A_ring)), (qA_buffer, .inl (cA_buffer, 200, .inl A_buffer))]) hD hS hA [0, 1, 2] rfl
  refine vx_callv (vx_runV (As := []) (rest := []) ⟨hx, hb, hml, hown, hbg⟩ (met_X0_requireOpen l hl9 dC dI qA qA_ring qA_buffer cA_ring cA_buffer s.heap.size A_ring A_buffer A_firstPlace A_forcedPlace A_endPlace A_wordsToFailure A_opened  _ _ hw) (cwV 0 hbg g_RX0_34 rfl rfl rfl (by decide +kernel) ⟨Nat.le_of_ble_eq_true rfl, Nat.le_of_ble_eq_true rfl⟩) ⟨pcX_A_b _ _ _ _ _ _ _ _ _ _ _ _ _ _ _ _, va_recv hK hP (ci := 0) (q0 := 0) rfl rfl, fun U hU hW => ⟨rfl, by rw [hU], by rw [hU]; exact hP, va_K.moved hW.alike hK, hD.weaken (fun _ _ _ _ => trivial), XW.go hXW0 hS hFc hU hW⟩⟩ rfl rfl hl.1 rfl (lv_room (Nat.le_of_ble_eq_true rfl)) dX0_of_1 ⟨Nat.le_of_ble_eq_true rfl, Nat.le_of_ble_eq_true rfl⟩) hS (fun q _ h => hFc q h) hFc (fun q _ h => hFc q h) (fun E9 ce9 q9 u9 t9 H_1 locs ht hvm hpx hBX hz1 hk1 hS hce hcv hcl => ?_) (fun u_1 t_1 H_1 locs ht hvm hw hB hz1 hk1 hS => ?_)
  · obtain ⟨E8, A_ring_x1, A_buffer_x1, A_firstPlace_x1, A_forcedPlace_x1, A_endPlace_x1, A_wordsToFailure_x1, A_opened_x1⟩ := u9
    obtain ⟨rfl, hP1, hK1, hD1⟩ := hBX
    rw [ht] at hP1
    have hP : va_P (dC, dI) vwCl [(qA, .inr (0, [.ref qA_ring, .ref qA_buffer, .int A_firstPlace_x1, .int A_forcedPlace_x1, .int A_endPlace_x1, .int A_wordsToFailure_x1, .int A_opened_x1])), (qA_ring, .inl (cA_ring, 65536, .inl A_ring_x1)), (qA_buffer, .inl (cA_buffer, 200, .inl A_buffer_x1))] H_1 := hP1
    have hD : va_D A [(qA, .inr (0, [.ref qA_ring, .ref qA_buffer, .int A_firstPlace_x1, .int A_forcedPlace_x1, .int A_endPlace_x1, .int A_wordsToFailure_x1, .int A_opened_x1])), (qA_ring, .inl (cA_ring, 65536, .inl A_ring_x1)), (qA_buffer, .inl (cA_buffer, 200, .inl A_buffer_x1))] := hD1.weaken (fun _ _ _ h => hFc _ h)
    subst hQQ
    exact vx_out (fun x hx => (hEx x hx).elim) hlocks hce hcv hcl (fun t ht ha => ⟨(E9, (A_ring_x1, A_buffer_x1, A_firstPlace_x1, A_forcedPlace_x1, A_endPlace_x1, A_wordsToFailure_x1, A_opened_x1)), hpx, ⟨rfl, by rw [ht]; exact hP, va_K.moved ha hK, hD⟩, hS.F ht⟩) hS.2.2 (Nat.le_of_ble_eq_true rfl) (Nat.le_of_ble_eq_true rfl)
  · obtain ⟨A_ring_1, A_buffer_1, A_firstPlace_1, A_forcedPlace_1, A_endPlace_1, A_wordsToFailure_1, A_opened_1⟩ := u_1
    obtain ⟨hP1, hK1, hD1⟩ := hB
    rw [ht] at hP1
    try dsimp only at hw
    have hP : va_P (dC, dI) vwCl [(qA, .inr (0, [.ref qA_ring, .ref qA_buffer, .int A_firstPlace_1, .int A_forcedPlace_1, .int A_endPlace_1, .int A_wordsToFailure_1, .int A_opened_1])), (qA_ring, .inl (cA_ring, 65536, .inl A_ring_1)), (qA_buffer, .inl (cA_buffer, 200, .inl A_buffer_1))] H_1 := hP1
    have hD : va_D A [(qA, .inr (0, [.ref qA_ring, .ref qA_buffer, .int A_firstPlace_1, .int A_forcedPlace_1, .int A_endPlace_1, .int A_wordsToFailure_1, .int A_opened_1])), (qA_ring, .inl (cA_ring, 65536, .inl A_ring_1)), (qA_buffer, .inl (cA_buffer, 200, .inl A_buffer_1))] := hD1.weaken (fun _ _ _ h => hFc _ h)
    refine W.widen (k := 1) (n := 6) (Nat.le_of_ble_eq_true rfl) (Nat.le_of_ble_eq_true rfl) ?_
    refine lv_aload_n hx hb dX0_of_4 rfl (lv_at hl 0 rfl) ?_
    refine lv_iload_n hx hb dX0_of_5 rfl (lv_at hl 1 rfl) ?_
    have hFc := va_free (wc := [(qA, .inr (0, [.ref qA_ring, .ref qA_buffer, .int A_firstPlace_1, .int A_forcedPlace_1, .int A_endPlace_1, .int A_wordsToFailure_1, .int A_opened_1])), (qA_ring, .inl (cA_ring, 65536, .inl A_ring_1)), (qA_buffer, .inl (cA_buffer, 200, .inl A_buffer_1))]) hD hS hA [0, 1, 2] rfl
    refine vx_callv (vx_runV (As := [.int x1]) (rest := []) ⟨hx, hb, hml, hown, hbg⟩ (met_X0_requireRecord l hl9 dC dI qA qA_ring qA_buffer cA_ring cA_buffer H_1.size A_ring_1 A_buffer_1 A_firstPlace_1 A_forcedPlace_1 A_endPlace_1 A_wordsToFailure_1 A_opened_1 x1 _ _ hw) (cwV 1 hbg g_RX0_71 rfl rfl rfl (by decide +kernel) ⟨Nat.le_of_ble_eq_true rfl, Nat.le_of_ble_eq_true rfl⟩) ⟨pcX_A_b _ _ _ _ _ _ _ _ _ _ _ _ _ _ _ _, va_recv hK hP (ci := 0) (q0 := 0) rfl rfl, fun U hU hW => ⟨rfl, by rw [hU], by rw [hU]; exact hP, va_K.moved hW.alike hK, hD.weaken (fun _ _ _ _ => trivial), XW.go hXW0 hS hFc hU hW⟩⟩ rfl rfl hl.1 rfl (lv_room (Nat.le_of_ble_eq_true rfl)) dX0_of_6 ⟨Nat.le_of_ble_eq_true rfl, Nat.le_of_ble_eq_true rfl⟩) hS (fun q _ h => hFc q h) hFc (fun q _ h => hFc q h) (fun E9 ce9 q9 u9 t9 H_2 locs ht hvm hpx hBX hz1 hk1 hS hce hcv hcl => ?_) (fun u_2 t_2 H_2 locs ht hvm hw hB hz1 hk1 hS => ?_)
    · obtain ⟨E8, A_ring_x2, A_buffer_x2, A_firstPlace_x2, A_forcedPlace_x2, A_endPlace_x2, A_wordsToFailure_x2, A_opened_x2⟩ := u9
      obtain ⟨rfl, hP1, hK1, hD1⟩ := hBX
      rw [ht] at hP1
      have hP : va_P (dC, dI) vwCl [(qA, .inr (0, [.ref qA_ring, .ref qA_buffer, .int A_firstPlace_x2, .int A_forcedPlace_x2, .int A_endPlace_x2, .int A_wordsToFailure_x2, .int A_opened_x2])), (qA_ring, .inl (cA_ring, 65536, .inl A_ring_x2)), (qA_buffer, .inl (cA_buffer, 200, .inl A_buffer_x2))] H_2 := hP1
      have hD : va_D A [(qA, .inr (0, [.ref qA_ring, .ref qA_buffer, .int A_firstPlace_x2, .int A_forcedPlace_x2, .int A_endPlace_x2, .int A_wordsToFailure_x2, .int A_opened_x2])), (qA_ring, .inl (cA_ring, 65536, .inl A_ring_x2)), (qA_buffer, .inl (cA_buffer, 200, .inl A_buffer_x2))] := hD1.weaken (fun _ _ _ h => hFc _ h)
      subst hQQ
      exact vx_out (fun x hx => (hEx x hx).elim) hlocks hce hcv hcl (fun t ht ha => ⟨(E9, (A_ring_x2, A_buffer_x2, A_firstPlace_x2, A_forcedPlace_x2, A_endPlace_x2, A_wordsToFailure_x2, A_opened_x2)), hpx, ⟨rfl, by rw [ht]; exact hP, va_K.moved ha hK, hD⟩, hS.F ht⟩) hS.2.2 (Nat.le_of_ble_eq_true rfl) (Nat.le_of_ble_eq_true rfl)
    · obtain ⟨A_ring_2, A_buffer_2, A_firstPlace_2, A_forcedPlace_2, A_endPlace_2, A_wordsToFailure_2, A_opened_2⟩ := u_2
      obtain ⟨hP1, hK1, hD1⟩ := hB
      rw [ht] at hP1
      try dsimp only at hw
      have hP : va_P (dC, dI) vwCl [(qA, .inr (0, [.ref qA_ring, .ref qA_buffer, .int A_firstPlace_2, .int A_forcedPlace_2, .int A_endPlace_2, .int A_wordsToFailure_2, .int A_opened_2])), (qA_ring, .inl (cA_ring, 65536, .inl A_ring_2)), (qA_buffer, .inl (cA_buffer, 200, .inl A_buffer_2))] H_2 := hP1
      have hD : va_D A [(qA, .inr (0, [.ref qA_ring, .ref qA_buffer, .int A_firstPlace_2, .int A_forcedPlace_2, .int A_endPlace_2, .int A_wordsToFailure_2, .int A_opened_2])), (qA_ring, .inl (cA_ring, 65536, .inl A_ring_2)), (qA_buffer, .inl (cA_buffer, 200, .inl A_buffer_2))] := hD1.weaken (fun _ _ _ h => hFc _ h)
      refine W.widen (k := 2) (n := 12) (Nat.le_of_ble_eq_true rfl) (Nat.le_of_ble_eq_true rfl) ?_
      refine lv_iload_n hx hb dX0_of_9 rfl (lv_at hl 2 rfl) ?_
      rcases Classical.em (x2 = (0 : Int32)) with c9_0 | c9_0
      · have hw := hw.1 c9_0
        refine lv_tableIn (tgt := 44) (off := 34) hx hb dX0_of_10 (by rw [c9_0]; decide) (by rw [c9_0]; decide) (by rw [c9_0]; rfl) (by decide) ?_
        refine lv_aload_n hx hb dX0_of_44 rfl (lv_at hl 0 rfl) ?_
        refine lv_iload_n hx hb dX0_of_45 rfl (lv_at hl 1 rfl) ?_
        refine vp_callSi (W.runV (As := [.int x1]) (rest := []) ⟨hx, hb, hml, hown, hbg⟩ (met_X0_kindAt l dC dI qA qA_ring qA_buffer cA_ring cA_buffer A_ring_2 A_buffer_2 A_firstPlace_2 A_forcedPlace_2 A_endPlace_2 A_wordsToFailure_2 A_opened_2 x1 _ hw) (cwV 1 hbg g_RX0_91 rfl rfl rfl (by decide +kernel) ⟨Nat.le_of_ble_eq_true rfl, Nat.le_of_ble_eq_true rfl⟩) ⟨pcR_A_b _ _ _ _ _ _ _ _ _ _ _ _ _ _ _, va_recv hK hP (ci := 0) (q0 := 0) rfl rfl, fun U hU hW => ⟨rfl, by rw [hU]; exact hP, va_K.moved hW.alike hK⟩⟩ rfl rfl hl.1 rfl (lv_room (Nat.le_of_ble_eq_true rfl)) dX0_of_46 ⟨Nat.le_of_ble_eq_true rfl, Nat.le_of_ble_eq_true rfl⟩) (fun r_3 hw => ?_)
        try dsimp only at hw
        subst hQQ
        refine W.widen (k := 3) (n := 18) (Nat.le_of_ble_eq_true rfl) (Nat.le_of_ble_eq_true rfl) ?_
        refine vx_ret ?_
        exact W.iret (v := r_3) hx hb hr (fun t ht hW => ⟨⟨r_3, (A_ring_2, A_buffer_2, A_firstPlace_2, A_forcedPlace_2, A_endPlace_2, A_wordsToFailure_2, A_opened_2), rfl, hw, by rw [ht]; exact hP, va_K.moved hW.alike hK, hD⟩, hS.F ht⟩) hS.2.2 dX0_of_49
      · have hw := hw.2 c9_0
        rcases Classical.em (x2 = (1 : Int32)) with c9_1 | c9_1
        · have hw := hw.1 c9_1
          refine lv_tableIn (tgt := 50) (off := 40) hx hb dX0_of_10 (by rw [c9_1]; decide) (by rw [c9_1]; decide) (by rw [c9_1]; rfl) (by decide) ?_
          refine lv_aload_n hx hb dX0_of_50 rfl (lv_at hl 0 rfl) ?_
          refine lv_iload_n hx hb dX0_of_51 rfl (lv_at hl 1 rfl) ?_
          refine vp_callSi (W.runV (As := [.int x1]) (rest := []) ⟨hx, hb, hml, hown, hbg⟩ (met_X0_ownerAt l dC dI qA qA_ring qA_buffer cA_ring cA_buffer A_ring_2 A_buffer_2 A_firstPlace_2 A_forcedPlace_2 A_endPlace_2 A_wordsToFailure_2 A_opened_2 x1 _ hw) (cwV 1 hbg g_RX0_94 rfl rfl rfl (by decide +kernel) ⟨Nat.le_of_ble_eq_true rfl, Nat.le_of_ble_eq_true rfl⟩) ⟨pcR_A_b _ _ _ _ _ _ _ _ _ _ _ _ _ _ _, va_recv hK hP (ci := 0) (q0 := 0) rfl rfl, fun U hU hW => ⟨rfl, by rw [hU]; exact hP, va_K.moved hW.alike hK⟩⟩ rfl rfl hl.1 rfl (lv_room (Nat.le_of_ble_eq_true rfl)) dX0_of_52 ⟨Nat.le_of_ble_eq_true rfl, Nat.le_of_ble_eq_true rfl⟩) (fun r_4 hw => ?_)
          try dsimp only at hw
          subst hQQ
          refine W.widen (k := 3) (n := 18) (Nat.le_of_ble_eq_true rfl) (Nat.le_of_ble_eq_true rfl) ?_
          refine vx_ret ?_
          exact W.iret (v := r_4) hx hb hr (fun t ht hW => ⟨⟨r_4, (A_ring_2, A_buffer_2, A_firstPlace_2, A_forcedPlace_2, A_endPlace_2, A_wordsToFailure_2, A_opened_2), rfl, hw, by rw [ht]; exact hP, va_K.moved hW.alike hK, hD⟩, hS.F ht⟩) hS.2.2 dX0_of_55
        · have hw := hw.2 c9_1
          rcases Classical.em (x2 = (2 : Int32)) with c9_2 | c9_2
          · have hw := hw.1 c9_2
            refine lv_tableIn (tgt := 56) (off := 46) hx hb dX0_of_10 (by rw [c9_2]; decide) (by rw [c9_2]; decide) (by rw [c9_2]; rfl) (by decide) ?_
            refine lv_aload_n hx hb dX0_of_56 rfl (lv_at hl 0 rfl) ?_
            refine lv_iload_n hx hb dX0_of_57 rfl (lv_at hl 1 rfl) ?_
            refine lv_iconst (v := (2 : Int32)) hx hb dX0_of_58 (by decide) ?_
            refine lv_iadd hx hb dX0_of_59 ?_
            refine vp_callSi (W.runV (As := [.int (x1 + (2 : Int32))]) (rest := []) ⟨hx, hb, hml, hown, hbg⟩ (met_X0_wordAt l dC dI qA qA_ring qA_buffer cA_ring cA_buffer A_ring_2 A_buffer_2 A_firstPlace_2 A_forcedPlace_2 A_endPlace_2 A_wordsToFailure_2 A_opened_2 (x1 + (2 : Int32)) _ hw) (cwV 1 hbg g_RX0_97 rfl rfl rfl (by decide +kernel) ⟨Nat.le_of_ble_eq_true rfl, Nat.le_of_ble_eq_true rfl⟩) ⟨pcR_A_b _ _ _ _ _ _ _ _ _ _ _ _ _ _ _, va_recv hK hP (ci := 0) (q0 := 0) rfl rfl, fun U hU hW => ⟨rfl, by rw [hU]; exact hP, va_K.moved hW.alike hK⟩⟩ rfl rfl hl.1 rfl (lv_room (Nat.le_of_ble_eq_true rfl)) dX0_of_60 ⟨Nat.le_of_ble_eq_true rfl, Nat.le_of_ble_eq_true rfl⟩) (fun r_5 hw => ?_)
            try dsimp only at hw
            subst hQQ
            refine W.widen (k := 3) (n := 18) (Nat.le_of_ble_eq_true rfl) (Nat.le_of_ble_eq_true rfl) ?_
            refine vx_ret ?_
            exact W.iret (v := r_5) hx hb hr (fun t ht hW => ⟨⟨r_5, (A_ring_2, A_buffer_2, A_firstPlace_2, A_forcedPlace_2, A_endPlace_2, A_wordsToFailure_2, A_opened_2), rfl, hw, by rw [ht]; exact hP, va_K.moved hW.alike hK, hD⟩, hS.F ht⟩) hS.2.2 dX0_of_63
          · have hw := hw.2 c9_2
            rcases Classical.em (x2 = (3 : Int32)) with c9_3 | c9_3
            · have hw := hw.1 c9_3
              refine lv_tableIn (tgt := 64) (off := 54) hx hb dX0_of_10 (by rw [c9_3]; decide) (by rw [c9_3]; decide) (by rw [c9_3]; rfl) (by decide) ?_
              refine lv_aload_n hx hb dX0_of_64 rfl (lv_at hl 0 rfl) ?_
              refine lv_iload_n hx hb dX0_of_65 rfl (lv_at hl 1 rfl) ?_
              refine lv_iconst (v := (3 : Int32)) hx hb dX0_of_66 (by decide) ?_
              refine lv_iadd hx hb dX0_of_67 ?_
              refine vp_callSi (W.runV (As := [.int (x1 + (3 : Int32))]) (rest := []) ⟨hx, hb, hml, hown, hbg⟩ (met_X0_wordAt l dC dI qA qA_ring qA_buffer cA_ring cA_buffer A_ring_2 A_buffer_2 A_firstPlace_2 A_forcedPlace_2 A_endPlace_2 A_wordsToFailure_2 A_opened_2 (x1 + (3 : Int32)) _ hw) (cwV 1 hbg g_RX0_97 rfl rfl rfl (by decide +kernel) ⟨Nat.le_of_ble_eq_true rfl, Nat.le_of_ble_eq_true rfl⟩) ⟨pcR_A_b _ _ _ _ _ _ _ _ _ _ _ _ _ _ _, va_recv hK hP (ci := 0) (q0 := 0) rfl rfl, fun U hU hW => ⟨rfl, by rw [hU]; exact hP, va_K.moved hW.alike hK⟩⟩ rfl rfl hl.1 rfl (lv_room (Nat.le_of_ble_eq_true rfl)) dX0_of_68 ⟨Nat.le_of_ble_eq_true rfl, Nat.le_of_ble_eq_true rfl⟩) (fun r_6 hw => ?_)
              try dsimp only at hw
              subst hQQ
              refine W.widen (k := 3) (n := 18) (Nat.le_of_ble_eq_true rfl) (Nat.le_of_ble_eq_true rfl) ?_
              refine vx_ret ?_
              exact W.iret (v := r_6) hx hb hr (fun t ht hW => ⟨⟨r_6, (A_ring_2, A_buffer_2, A_firstPlace_2, A_forcedPlace_2, A_endPlace_2, A_wordsToFailure_2, A_opened_2), rfl, hw, by rw [ht]; exact hP, va_K.moved hW.alike hK, hD⟩, hS.F ht⟩) hS.2.2 dX0_of_71
            · have hw := hw.2 c9_3
              rcases Classical.em (x2 = (4 : Int32)) with c9_4 | c9_4
              · have hw := hw.1 c9_4
                refine lv_tableIn (tgt := 72) (off := 62) hx hb dX0_of_10 (by rw [c9_4]; decide) (by rw [c9_4]; decide) (by rw [c9_4]; rfl) (by decide) ?_
                refine lv_aload_n hx hb dX0_of_72 rfl (lv_at hl 0 rfl) ?_
                refine lv_iload_n hx hb dX0_of_73 rfl (lv_at hl 1 rfl) ?_
                refine vp_callSi (W.runV (As := [.int x1]) (rest := []) ⟨hx, hb, hml, hown, hbg⟩ (met_X0_contentWords l dC dI qA qA_ring qA_buffer cA_ring cA_buffer A_ring_2 A_buffer_2 A_firstPlace_2 A_forcedPlace_2 A_endPlace_2 A_wordsToFailure_2 A_opened_2 x1 _ hw) (cwV 1 hbg g_RX0_100 rfl rfl rfl (by decide +kernel) ⟨Nat.le_of_ble_eq_true rfl, Nat.le_of_ble_eq_true rfl⟩) ⟨pcR_A_b _ _ _ _ _ _ _ _ _ _ _ _ _ _ _, va_recv hK hP (ci := 0) (q0 := 0) rfl rfl, fun U hU hW => ⟨rfl, by rw [hU]; exact hP, va_K.moved hW.alike hK⟩⟩ rfl rfl hl.1 rfl (lv_room (Nat.le_of_ble_eq_true rfl)) dX0_of_74 ⟨Nat.le_of_ble_eq_true rfl, Nat.le_of_ble_eq_true rfl⟩) (fun r_7 hw => ?_)
                try dsimp only at hw
                subst hQQ
                refine W.widen (k := 3) (n := 18) (Nat.le_of_ble_eq_true rfl) (Nat.le_of_ble_eq_true rfl) ?_
                refine vx_ret ?_
                exact W.iret (v := r_7) hx hb hr (fun t ht hW => ⟨⟨r_7, (A_ring_2, A_buffer_2, A_firstPlace_2, A_forcedPlace_2, A_endPlace_2, A_wordsToFailure_2, A_opened_2), rfl, hw, by rw [ht]; exact hP, va_K.moved hW.alike hK, hD⟩, hS.F ht⟩) hS.2.2 dX0_of_77
              · have hw := hw.2 c9_4
                refine lv_tableOut (tgt := 78) hx hb dX0_of_10 (by have t0 := lv_neT c9_0 (a := 0) (by decide); have t1 := lv_neT c9_1 (a := 1) (by decide); have t2 := lv_neT c9_2 (a := 2) (by decide); have t3 := lv_neT c9_3 (a := 3) (by decide); have t4 := lv_neT c9_4 (a := 4) (by decide); omega) (by decide) ?_
                subst hQQ
                obtain ⟨sa, hsa⟩ := hXW0.2.2.1 (RX0, 103, "what is 0 .. 4") (by decide +kernel)
                exact vx_throwS (own := RX0) (cls := "java/lang/IndexOutOfBoundsException") (names := ["java/lang/RuntimeException", "java/lang/Exception"]) hx hb hl9 hown (by decide +kernel) (by decide +kernel) (hbg _ kw_81) (hbg _ kw_82) hsa (vx_hat (L := vx_atS RX0 41 "java/lang/IndexOutOfBoundsException" ["java/lang/RuntimeException", "java/lang/Exception"]) (B := [.castable "java/lang/IndexOutOfBoundsException" "java/lang/IndexOutOfBoundsException", .declares ⟨"java/lang/RuntimeException", "<init>", "(Ljava/lang/String;)V"⟩, .declares ⟨"java/lang/Exception", "<init>", "(Ljava/lang/String;)V"⟩, .declares ⟨"java/lang/Throwable", "<init>", "(Ljava/lang/String;)V"⟩]) (fun w hw => hbg w (xa_RX0_41 w hw)) (by decide +kernel) (vx_c (va_Nw.use rfl (hXW0.1 "java/lang/IndexOutOfBoundsException" (by decide))) (vx_c (va_Nw.use rfl (hXW0.2.1 "java/lang/RuntimeException" (by decide))) (vx_c (va_Nw.use rfl (hXW0.2.1 "java/lang/Exception" (by decide))) (vx_c (va_Nw.use rfl (hXW0.2.1 "java/lang/Throwable" (by decide))) (vx_n)))))) (by decide +kernel) hXW0.2.2.2.2.1 hXW0.2.2.2.2.2 hS (hl.1.trans hml.symm) dX0_of_78 dX0_of_81 dX0_of_82 dX0_of_84 dX0_of_87 (fun x hx => (hEx x hx).elim) (Nat.le_of_ble_eq_true rfl) (Nat.le_of_ble_eq_true rfl) (Nat.le_of_ble_eq_true rfl) (Nat.le_of_ble_eq_true rfl) hlocks (fun t ha hsz hk => ⟨("java/lang/IndexOutOfBoundsException", (A_ring_2, A_buffer_2, A_firstPlace_2, A_forcedPlace_2, A_endPlace_2, A_wordsToFailure_2, A_opened_2)), hw, ⟨rfl, hP.kept (fun k q hq => hk q.1 (hP k q hq).lt), va_K.moved ha hK, hD⟩, Nat.le_trans hS.1 hsz, fun q h1 h2 => (hk q (Nat.lt_of_lt_of_le h1 hS.1)).trans (hS.2.1 q h1 h2)⟩) hS.2.2 (Nat.le_of_ble_eq_true rfl) (Nat.le_of_ble_eq_true rfl)
def wp_X0_word (post : Int32 → St_A → Prop) (px : String → St_A → Prop) (x1 : Int32) (x2 : Int32) (A_ring : Nat → Int32) (A_buffer : Nat → Int32) (A_firstPlace : Int32) (A_forcedPlace : Int32) (A_endPlace : Int32) (A_wordsToFailure : Int32) (A_opened : Int32) : Prop :=
  wp_X0_requireOpen (fun u_1 => match u_1 with | (A_ring_1, A_buffer_1, A_firstPlace_1, A_forcedPlace_1, A_endPlace_1, A_wordsToFailure_1, A_opened_1) => wp_X0_requireRecord (fun u_2 => match u_2 with | (A_ring_2, A_buffer_2, A_firstPlace_2, A_forcedPlace_2, A_endPlace_2, A_wordsToFailure_2, A_opened_2) => ((x2 < (0 : Int32) → px "java/lang/IndexOutOfBoundsException" (A_ring_2, A_buffer_2, A_firstPlace_2, A_forcedPlace_2, A_endPlace_2, A_wordsToFailure_2, A_opened_2)) ∧ (¬ x2 < (0 : Int32) → wp_X0_contentWords (fun r_3 => ((x2 < r_3 → wp_X0_wordAt (fun r_4 => post r_4 (A_ring_2, A_buffer_2, A_firstPlace_2, A_forcedPlace_2, A_endPlace_2, A_wordsToFailure_2, A_opened_2)) ((x1 + (4 : Int32)) + x2) A_ring_2 A_buffer_2 A_firstPlace_2 A_forcedPlace_2 A_endPlace_2 A_wordsToFailure_2 A_opened_2) ∧ (¬ x2 < r_3 → px "java/lang/IndexOutOfBoundsException" (A_ring_2, A_buffer_2, A_firstPlace_2, A_forcedPlace_2, A_endPlace_2, A_wordsToFailure_2, A_opened_2)))) x1 A_ring_2 A_buffer_2 A_firstPlace_2 A_forcedPlace_2 A_endPlace_2 A_wordsToFailure_2 A_opened_2))) px x1 A_ring_1 A_buffer_1 A_firstPlace_1 A_forcedPlace_1 A_endPlace_1 A_wordsToFailure_1 A_opened_1) px A_ring A_buffer A_firstPlace A_forcedPlace A_endPlace A_wordsToFailure A_opened
set_option maxHeartbeats 4000000 in
set_option maxRecDepth 100000 in
theorem met_X0_word (l : Launch) (hl9 : l.stackTraces = false) (dC : Nat → ClassId) (dI : Nat → Nat → Nat) (qA qA_ring qA_buffer : Nat) (cA_ring cA_buffer : ClassId) (sz : Nat) (A_ring : Nat → Int32) (A_buffer : Nat → Int32) (A_firstPlace : Int32) (A_forcedPlace : Int32) (A_endPlace : Int32) (A_wordsToFailure : Int32) (A_opened : Int32) (x1 : Int32) (x2 : Int32) (post : Int32 → St_A → Prop) (px : String → St_A → Prop) (hw : wp_X0_word post px x1 x2 A_ring A_buffer A_firstPlace A_forcedPlace A_endPlace A_wordsToFailure A_opened) :
    vx_Met l yX0_word wsX0_word ({ frames := 7, cells := 3, slots := 18, locals := 117 } : Room) (pcX_A dC dI qA qA_ring qA_buffer cA_ring cA_buffer sz A_ring A_buffer A_firstPlace A_forcedPlace A_endPlace A_wordsToFailure A_opened [.ref qA, .int x1, .int x2]) (va_Qi post (at_A dC dI (va_A [(qA, .inr (0, [.ref qA_ring, .ref qA_buffer, .int A_firstPlace, .int A_forcedPlace, .int A_endPlace, .int A_wordsToFailure, .int A_opened])), (qA_ring, .inl (cA_ring, 65536, .inl A_ring)), (qA_buffer, .inl (cA_buffer, 200, .inl A_buffer))] sz) qA qA_ring qA_buffer cA_ring cA_buffer) (va_A [(qA, .inr (0, [.ref qA_ring, .ref qA_buffer, .int A_firstPlace, .int A_forcedPlace, .int A_endPlace, .int A_wordsToFailure, .int A_opened])), (qA_ring, .inl (cA_ring, 65536, .inl A_ring)), (qA_buffer, .inl (cA_buffer, 200, .inl A_buffer))] sz)) (vx_X (fun u => px u.1 u.2) (atx_A dC dI (va_A [(qA, .inr (0, [.ref qA_ring, .ref qA_buffer, .int A_firstPlace, .int A_forcedPlace, .int A_endPlace, .int A_wordsToFailure, .int A_opened])), (qA_ring, .inl (cA_ring, 65536, .inl A_ring)), (qA_buffer, .inl (cA_buffer, 200, .inl A_buffer))] sz) qA qA_ring qA_buffer cA_ring cA_buffer) (va_A [(qA, .inr (0, [.ref qA_ring, .ref qA_buffer, .int A_firstPlace, .int A_forcedPlace, .int A_endPlace, .int A_wordsToFailure, .int A_opened])), (qA_ring, .inl (cA_ring, 65536, .inl A_ring)), (qA_buffer, .inl (cA_buffer, 200, .inl A_buffer))] sz)) 3 18 (va_A [(qA, .inr (0, [.ref qA_ring, .ref qA_buffer, .int A_firstPlace, .int A_forcedPlace, .int A_endPlace, .int A_wordsToFailure, .int A_opened])), (qA_ring, .inl (cA_ring, 65536, .inl A_ring)), (qA_buffer, .inl (cA_buffer, 200, .inl A_buffer))] sz) := by
  refine vx_ofW (cc := cX0_word) (maxL := 3) (ret := (some .int)) (by decide) rfl ?_
  intro p e s m args below meth c s₁ B hml hEx hv
  obtain ⟨hav, hsz, hP, hK, hD0, hXW0⟩ := hv
  have hx := B.exec
  have hb := B.bytes
  have hr := B.returns
  have hts := atoms_spec (ws := wsX0_word) B.pre
  have hbg : ∀ w ∈ bigW, w.before args s = true := fun w h => hts w (List.mem_cons_of_mem _ h)
  have hown : s.vm.findClass RX0 = some m.cls := findClass_of_methodNamed B.named
  have hlocks := B.notSynchronized
  subst hsz
  have hD := hD0.self (sz := s.heap.size)
  generalize hAe : va_A [(qA, .inr (0, [.ref qA_ring, .ref qA_buffer, .int A_firstPlace, .int A_forcedPlace, .int A_endPlace, .int A_wordsToFailure, .int A_opened])), (qA_ring, .inl (cA_ring, 65536, .inl A_ring)), (qA_buffer, .inl (cA_buffer, 200, .inl A_buffer))] s.heap.size = A at hD hXW0 ⊢
  have hA : ∀ q : Nat, s.heap.size ≤ q → A q := fun q h => by rw [← hAe]; exact Or.inr h
  have hS : va_S A s.heap s.heap [] := va_S.rf
  have hP : va_P (dC, dI) vwCl [(qA, .inr (0, [.ref qA_ring, .ref qA_buffer, .int A_firstPlace, .int A_forcedPlace, .int A_endPlace, .int A_wordsToFailure, .int A_opened])), (qA_ring, .inl (cA_ring, 65536, .inl A_ring)), (qA_buffer, .inl (cA_buffer, 200, .inl A_buffer))] s.heap := hP
  generalize hQQ : vx_MQ below (va_Qi post (at_A dC dI A qA qA_ring qA_buffer cA_ring cA_buffer) A) (vx_X (fun u => px u.1 u.2) (atx_A dC dI A qA qA_ring qA_buffer cA_ring cA_buffer) A) args s 3 18 A = QQ
  have hl := lv_entry ([.ref qA, .int x1, .int x2]) (n := 3) (Nat.le_of_ble_eq_true rfl)
  rw [show entryFrame m args 3 = entryFrame m ([.ref qA, .int x1, .int x2] : List Value).toArray 3 by rw [hav], lg_entry_eq]
  generalize (lg_sl ([.ref qA, .int x1, .int x2]) ++ List.replicate (3 - (lg_sl ([.ref qA, .int x1, .int x2])).length) Slot.unset).toArray = ls at hl ⊢
  have hl : lv_has ls 3 [(0, .ref qA), (1, .int x1), (2, .int x2)] := hl
  unfold wp_X0_word at hw
  refine lv_aload_n hx hb dX0_word_0 rfl (lv_at hl 0 rfl) ?_
  have hFc := va_free (wc := [(qA, .inr (0, [.ref qA_ring, .ref qA_buffer, .int A_firstPlace, .int A_forcedPlace, .int A_endPlace, .int A_wordsToFailure, .int A_opened])), (qA_ring, .inl (cA_ring, 65536, .inl A_ring)), (qA_buffer, .inl (cA_buffer, 200, .inl A_buffer))]) hD hS hA [0, 1, 2] rfl
  refine vx_callv (vx_runV (As := []) (rest := []) ⟨hx, hb, hml, hown, hbg⟩ (met_X0_requireOpen l hl9 dC dI qA qA_ring qA_buffer cA_ring cA_buffer s.heap.size A_ring A_buffer A_firstPlace A_forcedPlace A_endPlace A_wordsToFailure A_opened  _ _ hw) (cwV 0 hbg g_RX0_34 rfl rfl rfl (by decide +kernel) ⟨Nat.le_of_ble_eq_true rfl, Nat.le_of_ble_eq_true rfl⟩) ⟨pcX_A_b _ _ _ _ _ _ _ _ _ _ _ _ _ _ _ _, va_recv hK hP (ci := 0) (q0 := 0) rfl rfl, fun U hU hW => ⟨rfl, by rw [hU], by rw [hU]; exact hP, va_K.moved hW.alike hK, hD.weaken (fun _ _ _ _ => trivial), XW.go hXW0 hS hFc hU hW⟩⟩ rfl rfl hl.1 rfl (lv_room (Nat.le_of_ble_eq_true rfl)) dX0_word_1 ⟨Nat.le_of_ble_eq_true rfl, Nat.le_of_ble_eq_true rfl⟩) hS (fun q _ h => hFc q h) hFc (fun q _ h => hFc q h) (fun E9 ce9 q9 u9 t9 H_1 locs ht hvm hpx hBX hz1 hk1 hS hce hcv hcl => ?_) (fun u_1 t_1 H_1 locs ht hvm hw hB hz1 hk1 hS => ?_)
  · obtain ⟨E8, A_ring_x1, A_buffer_x1, A_firstPlace_x1, A_forcedPlace_x1, A_endPlace_x1, A_wordsToFailure_x1, A_opened_x1⟩ := u9
    obtain ⟨rfl, hP1, hK1, hD1⟩ := hBX
    rw [ht] at hP1
    have hP : va_P (dC, dI) vwCl [(qA, .inr (0, [.ref qA_ring, .ref qA_buffer, .int A_firstPlace_x1, .int A_forcedPlace_x1, .int A_endPlace_x1, .int A_wordsToFailure_x1, .int A_opened_x1])), (qA_ring, .inl (cA_ring, 65536, .inl A_ring_x1)), (qA_buffer, .inl (cA_buffer, 200, .inl A_buffer_x1))] H_1 := hP1
    have hD : va_D A [(qA, .inr (0, [.ref qA_ring, .ref qA_buffer, .int A_firstPlace_x1, .int A_forcedPlace_x1, .int A_endPlace_x1, .int A_wordsToFailure_x1, .int A_opened_x1])), (qA_ring, .inl (cA_ring, 65536, .inl A_ring_x1)), (qA_buffer, .inl (cA_buffer, 200, .inl A_buffer_x1))] := hD1.weaken (fun _ _ _ h => hFc _ h)
    subst hQQ
    exact vx_out (fun x hx => (hEx x hx).elim) hlocks hce hcv hcl (fun t ht ha => ⟨(E9, (A_ring_x1, A_buffer_x1, A_firstPlace_x1, A_forcedPlace_x1, A_endPlace_x1, A_wordsToFailure_x1, A_opened_x1)), hpx, ⟨rfl, by rw [ht]; exact hP, va_K.moved ha hK, hD⟩, hS.F ht⟩) hS.2.2 (Nat.le_of_ble_eq_true rfl) (Nat.le_of_ble_eq_true rfl)
  · obtain ⟨A_ring_1, A_buffer_1, A_firstPlace_1, A_forcedPlace_1, A_endPlace_1, A_wordsToFailure_1, A_opened_1⟩ := u_1
    obtain ⟨hP1, hK1, hD1⟩ := hB
    rw [ht] at hP1
    try dsimp only at hw
    have hP : va_P (dC, dI) vwCl [(qA, .inr (0, [.ref qA_ring, .ref qA_buffer, .int A_firstPlace_1, .int A_forcedPlace_1, .int A_endPlace_1, .int A_wordsToFailure_1, .int A_opened_1])), (qA_ring, .inl (cA_ring, 65536, .inl A_ring_1)), (qA_buffer, .inl (cA_buffer, 200, .inl A_buffer_1))] H_1 := hP1
    have hD : va_D A [(qA, .inr (0, [.ref qA_ring, .ref qA_buffer, .int A_firstPlace_1, .int A_forcedPlace_1, .int A_endPlace_1, .int A_wordsToFailure_1, .int A_opened_1])), (qA_ring, .inl (cA_ring, 65536, .inl A_ring_1)), (qA_buffer, .inl (cA_buffer, 200, .inl A_buffer_1))] := hD1.weaken (fun _ _ _ h => hFc _ h)
    refine W.widen (k := 1) (n := 6) (Nat.le_of_ble_eq_true rfl) (Nat.le_of_ble_eq_true rfl) ?_
    refine lv_aload_n hx hb dX0_word_4 rfl (lv_at hl 0 rfl) ?_
    refine lv_iload_n hx hb dX0_word_5 rfl (lv_at hl 1 rfl) ?_
    have hFc := va_free (wc := [(qA, .inr (0, [.ref qA_ring, .ref qA_buffer, .int A_firstPlace_1, .int A_forcedPlace_1, .int A_endPlace_1, .int A_wordsToFailure_1, .int A_opened_1])), (qA_ring, .inl (cA_ring, 65536, .inl A_ring_1)), (qA_buffer, .inl (cA_buffer, 200, .inl A_buffer_1))]) hD hS hA [0, 1, 2] rfl
    refine vx_callv (vx_runV (As := [.int x1]) (rest := []) ⟨hx, hb, hml, hown, hbg⟩ (met_X0_requireRecord l hl9 dC dI qA qA_ring qA_buffer cA_ring cA_buffer H_1.size A_ring_1 A_buffer_1 A_firstPlace_1 A_forcedPlace_1 A_endPlace_1 A_wordsToFailure_1 A_opened_1 x1 _ _ hw) (cwV 1 hbg g_RX0_71 rfl rfl rfl (by decide +kernel) ⟨Nat.le_of_ble_eq_true rfl, Nat.le_of_ble_eq_true rfl⟩) ⟨pcX_A_b _ _ _ _ _ _ _ _ _ _ _ _ _ _ _ _, va_recv hK hP (ci := 0) (q0 := 0) rfl rfl, fun U hU hW => ⟨rfl, by rw [hU], by rw [hU]; exact hP, va_K.moved hW.alike hK, hD.weaken (fun _ _ _ _ => trivial), XW.go hXW0 hS hFc hU hW⟩⟩ rfl rfl hl.1 rfl (lv_room (Nat.le_of_ble_eq_true rfl)) dX0_word_6 ⟨Nat.le_of_ble_eq_true rfl, Nat.le_of_ble_eq_true rfl⟩) hS (fun q _ h => hFc q h) hFc (fun q _ h => hFc q h) (fun E9 ce9 q9 u9 t9 H_2 locs ht hvm hpx hBX hz1 hk1 hS hce hcv hcl => ?_) (fun u_2 t_2 H_2 locs ht hvm hw hB hz1 hk1 hS => ?_)
    · obtain ⟨E8, A_ring_x2, A_buffer_x2, A_firstPlace_x2, A_forcedPlace_x2, A_endPlace_x2, A_wordsToFailure_x2, A_opened_x2⟩ := u9
      obtain ⟨rfl, hP1, hK1, hD1⟩ := hBX
      rw [ht] at hP1
      have hP : va_P (dC, dI) vwCl [(qA, .inr (0, [.ref qA_ring, .ref qA_buffer, .int A_firstPlace_x2, .int A_forcedPlace_x2, .int A_endPlace_x2, .int A_wordsToFailure_x2, .int A_opened_x2])), (qA_ring, .inl (cA_ring, 65536, .inl A_ring_x2)), (qA_buffer, .inl (cA_buffer, 200, .inl A_buffer_x2))] H_2 := hP1
      have hD : va_D A [(qA, .inr (0, [.ref qA_ring, .ref qA_buffer, .int A_firstPlace_x2, .int A_forcedPlace_x2, .int A_endPlace_x2, .int A_wordsToFailure_x2, .int A_opened_x2])), (qA_ring, .inl (cA_ring, 65536, .inl A_ring_x2)), (qA_buffer, .inl (cA_buffer, 200, .inl A_buffer_x2))] := hD1.weaken (fun _ _ _ h => hFc _ h)
      subst hQQ
      exact vx_out (fun x hx => (hEx x hx).elim) hlocks hce hcv hcl (fun t ht ha => ⟨(E9, (A_ring_x2, A_buffer_x2, A_firstPlace_x2, A_forcedPlace_x2, A_endPlace_x2, A_wordsToFailure_x2, A_opened_x2)), hpx, ⟨rfl, by rw [ht]; exact hP, va_K.moved ha hK, hD⟩, hS.F ht⟩) hS.2.2 (Nat.le_of_ble_eq_true rfl) (Nat.le_of_ble_eq_true rfl)
    · obtain ⟨A_ring_2, A_buffer_2, A_firstPlace_2, A_forcedPlace_2, A_endPlace_2, A_wordsToFailure_2, A_opened_2⟩ := u_2
      obtain ⟨hP1, hK1, hD1⟩ := hB
      rw [ht] at hP1
      try dsimp only at hw
      have hP : va_P (dC, dI) vwCl [(qA, .inr (0, [.ref qA_ring, .ref qA_buffer, .int A_firstPlace_2, .int A_forcedPlace_2, .int A_endPlace_2, .int A_wordsToFailure_2, .int A_opened_2])), (qA_ring, .inl (cA_ring, 65536, .inl A_ring_2)), (qA_buffer, .inl (cA_buffer, 200, .inl A_buffer_2))] H_2 := hP1
      have hD : va_D A [(qA, .inr (0, [.ref qA_ring, .ref qA_buffer, .int A_firstPlace_2, .int A_forcedPlace_2, .int A_endPlace_2, .int A_wordsToFailure_2, .int A_opened_2])), (qA_ring, .inl (cA_ring, 65536, .inl A_ring_2)), (qA_buffer, .inl (cA_buffer, 200, .inl A_buffer_2))] := hD1.weaken (fun _ _ _ h => hFc _ h)
      refine W.widen (k := 2) (n := 12) (Nat.le_of_ble_eq_true rfl) (Nat.le_of_ble_eq_true rfl) ?_
      refine lv_iload_n hx hb dX0_word_9 rfl (lv_at hl 2 rfl) ?_
      refine lv_if_lt (tgt := 22) hx hb dX0_word_10 (by decide) (fun c9 => ?_) (fun c9 => ?_)
      · have hw := hw.1 c9
        subst hQQ
        obtain ⟨sa, hsa⟩ := hXW0.2.2.1 (RX0, 105, "the record has no such word") (by decide +kernel)
        exact vx_throwS (own := RX0) (cls := "java/lang/IndexOutOfBoundsException") (names := ["java/lang/RuntimeException", "java/lang/Exception"]) hx hb hl9 hown (by decide +kernel) (by decide +kernel) (hbg _ kw_81) (hbg _ kw_82) hsa (vx_hat (L := vx_atS RX0 41 "java/lang/IndexOutOfBoundsException" ["java/lang/RuntimeException", "java/lang/Exception"]) (B := [.castable "java/lang/IndexOutOfBoundsException" "java/lang/IndexOutOfBoundsException", .declares ⟨"java/lang/RuntimeException", "<init>", "(Ljava/lang/String;)V"⟩, .declares ⟨"java/lang/Exception", "<init>", "(Ljava/lang/String;)V"⟩, .declares ⟨"java/lang/Throwable", "<init>", "(Ljava/lang/String;)V"⟩]) (fun w hw => hbg w (xa_RX0_41 w hw)) (by decide +kernel) (vx_c (va_Nw.use rfl (hXW0.1 "java/lang/IndexOutOfBoundsException" (by decide))) (vx_c (va_Nw.use rfl (hXW0.2.1 "java/lang/RuntimeException" (by decide))) (vx_c (va_Nw.use rfl (hXW0.2.1 "java/lang/Exception" (by decide))) (vx_c (va_Nw.use rfl (hXW0.2.1 "java/lang/Throwable" (by decide))) (vx_n)))))) (by decide +kernel) hXW0.2.2.2.2.1 hXW0.2.2.2.2.2 hS (hl.1.trans hml.symm) dX0_word_22 dX0_word_25 dX0_word_26 dX0_word_28 dX0_word_31 (fun x hx => (hEx x hx).elim) (Nat.le_of_ble_eq_true rfl) (Nat.le_of_ble_eq_true rfl) (Nat.le_of_ble_eq_true rfl) (Nat.le_of_ble_eq_true rfl) hlocks (fun t ha hsz hk => ⟨("java/lang/IndexOutOfBoundsException", (A_ring_2, A_buffer_2, A_firstPlace_2, A_forcedPlace_2, A_endPlace_2, A_wordsToFailure_2, A_opened_2)), hw, ⟨rfl, hP.kept (fun k q hq => hk q.1 (hP k q hq).lt), va_K.moved ha hK, hD⟩, Nat.le_trans hS.1 hsz, fun q h1 h2 => (hk q (Nat.lt_of_lt_of_le h1 hS.1)).trans (hS.2.1 q h1 h2)⟩) hS.2.2 (Nat.le_of_ble_eq_true rfl) (Nat.le_of_ble_eq_true rfl)
      · have hw := hw.2 c9
        refine lv_iload_n hx hb dX0_word_13 rfl (lv_at hl 2 rfl) ?_
        refine lv_aload_n hx hb dX0_word_14 rfl (lv_at hl 0 rfl) ?_
        refine lv_iload_n hx hb dX0_word_15 rfl (lv_at hl 1 rfl) ?_
        refine vp_callSi (W.runV (As := [.int x1]) (rest := [.int x2]) ⟨hx, hb, hml, hown, hbg⟩ (met_X0_contentWords l dC dI qA qA_ring qA_buffer cA_ring cA_buffer A_ring_2 A_buffer_2 A_firstPlace_2 A_forcedPlace_2 A_endPlace_2 A_wordsToFailure_2 A_opened_2 x1 _ hw) (cwV 1 hbg g_RX0_100 rfl rfl rfl (by decide +kernel) ⟨Nat.le_of_ble_eq_true rfl, Nat.le_of_ble_eq_true rfl⟩) ⟨pcR_A_b _ _ _ _ _ _ _ _ _ _ _ _ _ _ _, va_recv hK hP (ci := 0) (q0 := 0) rfl rfl, fun U hU hW => ⟨rfl, by rw [hU]; exact hP, va_K.moved hW.alike hK⟩⟩ rfl rfl hl.1 rfl (lv_room (Nat.le_of_ble_eq_true rfl)) dX0_word_16 ⟨Nat.le_of_ble_eq_true rfl, Nat.le_of_ble_eq_true rfl⟩) (fun r_3 hw => ?_)
        try dsimp only at hw
        refine lv_icmp_lt (tgt := 32) hx hb dX0_word_19 (by decide) (fun c9 => ?_) (fun c9 => ?_)
        · have hw := hw.1 c9
          refine lv_aload_n hx hb dX0_word_32 rfl (lv_at hl 0 rfl) ?_
          refine lv_iload_n hx hb dX0_word_33 rfl (lv_at hl 1 rfl) ?_
          refine lv_iconst (v := (4 : Int32)) hx hb dX0_word_34 (by decide) ?_
          refine lv_iadd hx hb dX0_word_35 ?_
          refine lv_iload_n hx hb dX0_word_36 rfl (lv_at hl 2 rfl) ?_
          refine lv_iadd hx hb dX0_word_37 ?_
          refine vp_callSi (W.runV (As := [.int ((x1 + (4 : Int32)) + x2)]) (rest := []) ⟨hx, hb, hml, hown, hbg⟩ (met_X0_wordAt l dC dI qA qA_ring qA_buffer cA_ring cA_buffer A_ring_2 A_buffer_2 A_firstPlace_2 A_forcedPlace_2 A_endPlace_2 A_wordsToFailure_2 A_opened_2 ((x1 + (4 : Int32)) + x2) _ hw) (cwV 1 hbg g_RX0_97 rfl rfl rfl (by decide +kernel) ⟨Nat.le_of_ble_eq_true rfl, Nat.le_of_ble_eq_true rfl⟩) ⟨pcR_A_b _ _ _ _ _ _ _ _ _ _ _ _ _ _ _, va_recv hK hP (ci := 0) (q0 := 0) rfl rfl, fun U hU hW => ⟨rfl, by rw [hU]; exact hP, va_K.moved hW.alike hK⟩⟩ rfl rfl hl.1 rfl (lv_room (Nat.le_of_ble_eq_true rfl)) dX0_word_38 ⟨Nat.le_of_ble_eq_true rfl, Nat.le_of_ble_eq_true rfl⟩) (fun r_4 hw => ?_)
          try dsimp only at hw
          subst hQQ
          refine W.widen (k := 3) (n := 18) (Nat.le_of_ble_eq_true rfl) (Nat.le_of_ble_eq_true rfl) ?_
          refine vx_ret ?_
          exact W.iret (v := r_4) hx hb hr (fun t ht hW => ⟨⟨r_4, (A_ring_2, A_buffer_2, A_firstPlace_2, A_forcedPlace_2, A_endPlace_2, A_wordsToFailure_2, A_opened_2), rfl, hw, by rw [ht]; exact hP, va_K.moved hW.alike hK, hD⟩, hS.F ht⟩) hS.2.2 dX0_word_41
        · have hw := hw.2 c9
          subst hQQ
          obtain ⟨sa, hsa⟩ := hXW0.2.2.1 (RX0, 105, "the record has no such word") (by decide +kernel)
          exact vx_throwS (own := RX0) (cls := "java/lang/IndexOutOfBoundsException") (names := ["java/lang/RuntimeException", "java/lang/Exception"]) hx hb hl9 hown (by decide +kernel) (by decide +kernel) (hbg _ kw_81) (hbg _ kw_82) hsa (vx_hat (L := vx_atS RX0 41 "java/lang/IndexOutOfBoundsException" ["java/lang/RuntimeException", "java/lang/Exception"]) (B := [.castable "java/lang/IndexOutOfBoundsException" "java/lang/IndexOutOfBoundsException", .declares ⟨"java/lang/RuntimeException", "<init>", "(Ljava/lang/String;)V"⟩, .declares ⟨"java/lang/Exception", "<init>", "(Ljava/lang/String;)V"⟩, .declares ⟨"java/lang/Throwable", "<init>", "(Ljava/lang/String;)V"⟩]) (fun w hw => hbg w (xa_RX0_41 w hw)) (by decide +kernel) (vx_c (va_Nw.use rfl (hXW0.1 "java/lang/IndexOutOfBoundsException" (by decide))) (vx_c (va_Nw.use rfl (hXW0.2.1 "java/lang/RuntimeException" (by decide))) (vx_c (va_Nw.use rfl (hXW0.2.1 "java/lang/Exception" (by decide))) (vx_c (va_Nw.use rfl (hXW0.2.1 "java/lang/Throwable" (by decide))) (vx_n)))))) (by decide +kernel) hXW0.2.2.2.2.1 hXW0.2.2.2.2.2 hS (hl.1.trans hml.symm) dX0_word_22 dX0_word_25 dX0_word_26 dX0_word_28 dX0_word_31 (fun x hx => (hEx x hx).elim) (Nat.le_of_ble_eq_true rfl) (Nat.le_of_ble_eq_true rfl) (Nat.le_of_ble_eq_true rfl) (Nat.le_of_ble_eq_true rfl) hlocks (fun t ha hsz hk => ⟨("java/lang/IndexOutOfBoundsException", (A_ring_2, A_buffer_2, A_firstPlace_2, A_forcedPlace_2, A_endPlace_2, A_wordsToFailure_2, A_opened_2)), hw, ⟨rfl, hP.kept (fun k q hq => hk q.1 (hP k q hq).lt), va_K.moved ha hK, hD⟩, Nat.le_trans hS.1 hsz, fun q h1 h2 => (hk q (Nat.lt_of_lt_of_le h1 hS.1)).trans (hS.2.1 q h1 h2)⟩) hS.2.2 (Nat.le_of_ble_eq_true rfl) (Nat.le_of_ble_eq_true rfl)
def wp_X0_back (post : Int32 → St_A → Prop) (px : String → St_A → Prop) (x1 : Int32) (x2 : Int32) (x3 : Int32) (A_ring : Nat → Int32) (A_buffer : Nat → Int32) (A_firstPlace : Int32) (A_forcedPlace : Int32) (A_endPlace : Int32) (A_wordsToFailure : Int32) (A_opened : Int32) : Prop :=
  wp_X0_requireOpen (fun u_1 => match u_1 with | (A_ring_1, A_buffer_1, A_firstPlace_1, A_forcedPlace_1, A_endPlace_1, A_wordsToFailure_1, A_opened_1) => wp_X0_requireOwner (fun u_2 => match u_2 with | (A_ring_2, A_buffer_2, A_firstPlace_2, A_forcedPlace_2, A_endPlace_2, A_wordsToFailure_2, A_opened_2) => (((0 : Int32) ≤ x3 → wp_X0_kthOnTheWay (fun r_3 => post r_3 (A_ring_2, A_buffer_2, A_firstPlace_2, A_forcedPlace_2, A_endPlace_2, A_wordsToFailure_2, A_opened_2)) x1 x2 x3 A_ring_2 A_buffer_2 A_firstPlace_2 A_forcedPlace_2 A_endPlace_2 A_wordsToFailure_2 A_opened_2) ∧ (¬ (0 : Int32) ≤ x3 → px "java/lang/IllegalArgumentException" (A_ring_2, A_buffer_2, A_firstPlace_2, A_forcedPlace_2, A_endPlace_2, A_wordsToFailure_2, A_opened_2)))) px x1 A_ring_1 A_buffer_1 A_firstPlace_1 A_forcedPlace_1 A_endPlace_1 A_wordsToFailure_1 A_opened_1) px A_ring A_buffer A_firstPlace A_forcedPlace A_endPlace A_wordsToFailure A_opened
set_option maxHeartbeats 4000000 in
set_option maxRecDepth 100000 in
theorem met_X0_back (l : Launch) (hl9 : l.stackTraces = false) (dC : Nat → ClassId) (dI : Nat → Nat → Nat) (qA qA_ring qA_buffer : Nat) (cA_ring cA_buffer : ClassId) (sz : Nat) (A_ring : Nat → Int32) (A_buffer : Nat → Int32) (A_firstPlace : Int32) (A_forcedPlace : Int32) (A_endPlace : Int32) (A_wordsToFailure : Int32) (A_opened : Int32) (x1 : Int32) (x2 : Int32) (x3 : Int32) (post : Int32 → St_A → Prop) (px : String → St_A → Prop) (hw : wp_X0_back post px x1 x2 x3 A_ring A_buffer A_firstPlace A_forcedPlace A_endPlace A_wordsToFailure A_opened) :
    vx_Met l yX0_back wsX0_back ({ frames := 7, cells := 3, slots := 18, locals := 117 } : Room) (pcX_A dC dI qA qA_ring qA_buffer cA_ring cA_buffer sz A_ring A_buffer A_firstPlace A_forcedPlace A_endPlace A_wordsToFailure A_opened [.ref qA, .int x1, .int x2, .int x3]) (va_Qi post (at_A dC dI (va_A [(qA, .inr (0, [.ref qA_ring, .ref qA_buffer, .int A_firstPlace, .int A_forcedPlace, .int A_endPlace, .int A_wordsToFailure, .int A_opened])), (qA_ring, .inl (cA_ring, 65536, .inl A_ring)), (qA_buffer, .inl (cA_buffer, 200, .inl A_buffer))] sz) qA qA_ring qA_buffer cA_ring cA_buffer) (va_A [(qA, .inr (0, [.ref qA_ring, .ref qA_buffer, .int A_firstPlace, .int A_forcedPlace, .int A_endPlace, .int A_wordsToFailure, .int A_opened])), (qA_ring, .inl (cA_ring, 65536, .inl A_ring)), (qA_buffer, .inl (cA_buffer, 200, .inl A_buffer))] sz)) (vx_X (fun u => px u.1 u.2) (atx_A dC dI (va_A [(qA, .inr (0, [.ref qA_ring, .ref qA_buffer, .int A_firstPlace, .int A_forcedPlace, .int A_endPlace, .int A_wordsToFailure, .int A_opened])), (qA_ring, .inl (cA_ring, 65536, .inl A_ring)), (qA_buffer, .inl (cA_buffer, 200, .inl A_buffer))] sz) qA qA_ring qA_buffer cA_ring cA_buffer) (va_A [(qA, .inr (0, [.ref qA_ring, .ref qA_buffer, .int A_firstPlace, .int A_forcedPlace, .int A_endPlace, .int A_wordsToFailure, .int A_opened])), (qA_ring, .inl (cA_ring, 65536, .inl A_ring)), (qA_buffer, .inl (cA_buffer, 200, .inl A_buffer))] sz)) 3 18 (va_A [(qA, .inr (0, [.ref qA_ring, .ref qA_buffer, .int A_firstPlace, .int A_forcedPlace, .int A_endPlace, .int A_wordsToFailure, .int A_opened])), (qA_ring, .inl (cA_ring, 65536, .inl A_ring)), (qA_buffer, .inl (cA_buffer, 200, .inl A_buffer))] sz) := by
  refine vx_ofW (cc := cX0_back) (maxL := 4) (ret := (some .int)) (by decide) rfl ?_
  intro p e s m args below meth c s₁ B hml hEx hv
  obtain ⟨hav, hsz, hP, hK, hD0, hXW0⟩ := hv
  have hx := B.exec
  have hb := B.bytes
  have hr := B.returns
  have hts := atoms_spec (ws := wsX0_back) B.pre
  have hbg : ∀ w ∈ bigW, w.before args s = true := fun w h => hts w (List.mem_cons_of_mem _ h)
  have hown : s.vm.findClass RX0 = some m.cls := findClass_of_methodNamed B.named
  have hlocks := B.notSynchronized
  subst hsz
  have hD := hD0.self (sz := s.heap.size)
  generalize hAe : va_A [(qA, .inr (0, [.ref qA_ring, .ref qA_buffer, .int A_firstPlace, .int A_forcedPlace, .int A_endPlace, .int A_wordsToFailure, .int A_opened])), (qA_ring, .inl (cA_ring, 65536, .inl A_ring)), (qA_buffer, .inl (cA_buffer, 200, .inl A_buffer))] s.heap.size = A at hD hXW0 ⊢
  have hA : ∀ q : Nat, s.heap.size ≤ q → A q := fun q h => by rw [← hAe]; exact Or.inr h
  have hS : va_S A s.heap s.heap [] := va_S.rf
  have hP : va_P (dC, dI) vwCl [(qA, .inr (0, [.ref qA_ring, .ref qA_buffer, .int A_firstPlace, .int A_forcedPlace, .int A_endPlace, .int A_wordsToFailure, .int A_opened])), (qA_ring, .inl (cA_ring, 65536, .inl A_ring)), (qA_buffer, .inl (cA_buffer, 200, .inl A_buffer))] s.heap := hP
  generalize hQQ : vx_MQ below (va_Qi post (at_A dC dI A qA qA_ring qA_buffer cA_ring cA_buffer) A) (vx_X (fun u => px u.1 u.2) (atx_A dC dI A qA qA_ring qA_buffer cA_ring cA_buffer) A) args s 3 18 A = QQ
  have hl := lv_entry ([.ref qA, .int x1, .int x2, .int x3]) (n := 4) (Nat.le_of_ble_eq_true rfl)
  rw [show entryFrame m args 4 = entryFrame m ([.ref qA, .int x1, .int x2, .int x3] : List Value).toArray 4 by rw [hav], lg_entry_eq]
  generalize (lg_sl ([.ref qA, .int x1, .int x2, .int x3]) ++ List.replicate (4 - (lg_sl ([.ref qA, .int x1, .int x2, .int x3])).length) Slot.unset).toArray = ls at hl ⊢
  have hl : lv_has ls 4 [(0, .ref qA), (1, .int x1), (2, .int x2), (3, .int x3)] := hl
  unfold wp_X0_back at hw
  refine lv_aload_n hx hb dX0_back_0 rfl (lv_at hl 0 rfl) ?_
  have hFc := va_free (wc := [(qA, .inr (0, [.ref qA_ring, .ref qA_buffer, .int A_firstPlace, .int A_forcedPlace, .int A_endPlace, .int A_wordsToFailure, .int A_opened])), (qA_ring, .inl (cA_ring, 65536, .inl A_ring)), (qA_buffer, .inl (cA_buffer, 200, .inl A_buffer))]) hD hS hA [0, 1, 2] rfl
  refine vx_callv (vx_runV (As := []) (rest := []) ⟨hx, hb, hml, hown, hbg⟩ (met_X0_requireOpen l hl9 dC dI qA qA_ring qA_buffer cA_ring cA_buffer s.heap.size A_ring A_buffer A_firstPlace A_forcedPlace A_endPlace A_wordsToFailure A_opened  _ _ hw) (cwV 0 hbg g_RX0_34 rfl rfl rfl (by decide +kernel) ⟨Nat.le_of_ble_eq_true rfl, Nat.le_of_ble_eq_true rfl⟩) ⟨pcX_A_b _ _ _ _ _ _ _ _ _ _ _ _ _ _ _ _, va_recv hK hP (ci := 0) (q0 := 0) rfl rfl, fun U hU hW => ⟨rfl, by rw [hU], by rw [hU]; exact hP, va_K.moved hW.alike hK, hD.weaken (fun _ _ _ _ => trivial), XW.go hXW0 hS hFc hU hW⟩⟩ rfl rfl hl.1 rfl (lv_room (Nat.le_of_ble_eq_true rfl)) dX0_back_1 ⟨Nat.le_of_ble_eq_true rfl, Nat.le_of_ble_eq_true rfl⟩) hS (fun q _ h => hFc q h) hFc (fun q _ h => hFc q h) (fun E9 ce9 q9 u9 t9 H_1 locs ht hvm hpx hBX hz1 hk1 hS hce hcv hcl => ?_) (fun u_1 t_1 H_1 locs ht hvm hw hB hz1 hk1 hS => ?_)
  · obtain ⟨E8, A_ring_x1, A_buffer_x1, A_firstPlace_x1, A_forcedPlace_x1, A_endPlace_x1, A_wordsToFailure_x1, A_opened_x1⟩ := u9
    obtain ⟨rfl, hP1, hK1, hD1⟩ := hBX
    rw [ht] at hP1
    have hP : va_P (dC, dI) vwCl [(qA, .inr (0, [.ref qA_ring, .ref qA_buffer, .int A_firstPlace_x1, .int A_forcedPlace_x1, .int A_endPlace_x1, .int A_wordsToFailure_x1, .int A_opened_x1])), (qA_ring, .inl (cA_ring, 65536, .inl A_ring_x1)), (qA_buffer, .inl (cA_buffer, 200, .inl A_buffer_x1))] H_1 := hP1
    have hD : va_D A [(qA, .inr (0, [.ref qA_ring, .ref qA_buffer, .int A_firstPlace_x1, .int A_forcedPlace_x1, .int A_endPlace_x1, .int A_wordsToFailure_x1, .int A_opened_x1])), (qA_ring, .inl (cA_ring, 65536, .inl A_ring_x1)), (qA_buffer, .inl (cA_buffer, 200, .inl A_buffer_x1))] := hD1.weaken (fun _ _ _ h => hFc _ h)
    subst hQQ
    exact vx_out (fun x hx => (hEx x hx).elim) hlocks hce hcv hcl (fun t ht ha => ⟨(E9, (A_ring_x1, A_buffer_x1, A_firstPlace_x1, A_forcedPlace_x1, A_endPlace_x1, A_wordsToFailure_x1, A_opened_x1)), hpx, ⟨rfl, by rw [ht]; exact hP, va_K.moved ha hK, hD⟩, hS.F ht⟩) hS.2.2 (Nat.le_of_ble_eq_true rfl) (Nat.le_of_ble_eq_true rfl)
  · obtain ⟨A_ring_1, A_buffer_1, A_firstPlace_1, A_forcedPlace_1, A_endPlace_1, A_wordsToFailure_1, A_opened_1⟩ := u_1
    obtain ⟨hP1, hK1, hD1⟩ := hB
    rw [ht] at hP1
    try dsimp only at hw
    have hP : va_P (dC, dI) vwCl [(qA, .inr (0, [.ref qA_ring, .ref qA_buffer, .int A_firstPlace_1, .int A_forcedPlace_1, .int A_endPlace_1, .int A_wordsToFailure_1, .int A_opened_1])), (qA_ring, .inl (cA_ring, 65536, .inl A_ring_1)), (qA_buffer, .inl (cA_buffer, 200, .inl A_buffer_1))] H_1 := hP1
    have hD : va_D A [(qA, .inr (0, [.ref qA_ring, .ref qA_buffer, .int A_firstPlace_1, .int A_forcedPlace_1, .int A_endPlace_1, .int A_wordsToFailure_1, .int A_opened_1])), (qA_ring, .inl (cA_ring, 65536, .inl A_ring_1)), (qA_buffer, .inl (cA_buffer, 200, .inl A_buffer_1))] := hD1.weaken (fun _ _ _ h => hFc _ h)
    refine W.widen (k := 1) (n := 6) (Nat.le_of_ble_eq_true rfl) (Nat.le_of_ble_eq_true rfl) ?_
    refine lv_aload_n hx hb dX0_back_4 rfl (lv_at hl 0 rfl) ?_
    refine lv_iload_n hx hb dX0_back_5 rfl (lv_at hl 1 rfl) ?_
    have hFc := va_free (wc := [(qA, .inr (0, [.ref qA_ring, .ref qA_buffer, .int A_firstPlace_1, .int A_forcedPlace_1, .int A_endPlace_1, .int A_wordsToFailure_1, .int A_opened_1])), (qA_ring, .inl (cA_ring, 65536, .inl A_ring_1)), (qA_buffer, .inl (cA_buffer, 200, .inl A_buffer_1))]) hD hS hA [0, 1, 2] rfl
    refine vx_callv (vx_runV (As := [.int x1]) (rest := []) ⟨hx, hb, hml, hown, hbg⟩ (met_X0_requireOwner l hl9 dC dI qA qA_ring qA_buffer cA_ring cA_buffer H_1.size A_ring_1 A_buffer_1 A_firstPlace_1 A_forcedPlace_1 A_endPlace_1 A_wordsToFailure_1 A_opened_1 x1 _ _ hw) (cwV 1 hbg g_RX0_48 rfl rfl rfl (by decide +kernel) ⟨Nat.le_of_ble_eq_true rfl, Nat.le_of_ble_eq_true rfl⟩) ⟨pcX_A_b _ _ _ _ _ _ _ _ _ _ _ _ _ _ _ _, va_recv hK hP (ci := 0) (q0 := 0) rfl rfl, fun U hU hW => ⟨rfl, by rw [hU], by rw [hU]; exact hP, va_K.moved hW.alike hK, hD.weaken (fun _ _ _ _ => trivial), XW.go hXW0 hS hFc hU hW⟩⟩ rfl rfl hl.1 rfl (lv_room (Nat.le_of_ble_eq_true rfl)) dX0_back_6 ⟨Nat.le_of_ble_eq_true rfl, Nat.le_of_ble_eq_true rfl⟩) hS (fun q _ h => hFc q h) hFc (fun q _ h => hFc q h) (fun E9 ce9 q9 u9 t9 H_2 locs ht hvm hpx hBX hz1 hk1 hS hce hcv hcl => ?_) (fun u_2 t_2 H_2 locs ht hvm hw hB hz1 hk1 hS => ?_)
    · obtain ⟨E8, A_ring_x2, A_buffer_x2, A_firstPlace_x2, A_forcedPlace_x2, A_endPlace_x2, A_wordsToFailure_x2, A_opened_x2⟩ := u9
      obtain ⟨rfl, hP1, hK1, hD1⟩ := hBX
      rw [ht] at hP1
      have hP : va_P (dC, dI) vwCl [(qA, .inr (0, [.ref qA_ring, .ref qA_buffer, .int A_firstPlace_x2, .int A_forcedPlace_x2, .int A_endPlace_x2, .int A_wordsToFailure_x2, .int A_opened_x2])), (qA_ring, .inl (cA_ring, 65536, .inl A_ring_x2)), (qA_buffer, .inl (cA_buffer, 200, .inl A_buffer_x2))] H_2 := hP1
      have hD : va_D A [(qA, .inr (0, [.ref qA_ring, .ref qA_buffer, .int A_firstPlace_x2, .int A_forcedPlace_x2, .int A_endPlace_x2, .int A_wordsToFailure_x2, .int A_opened_x2])), (qA_ring, .inl (cA_ring, 65536, .inl A_ring_x2)), (qA_buffer, .inl (cA_buffer, 200, .inl A_buffer_x2))] := hD1.weaken (fun _ _ _ h => hFc _ h)
      subst hQQ
      exact vx_out (fun x hx => (hEx x hx).elim) hlocks hce hcv hcl (fun t ht ha => ⟨(E9, (A_ring_x2, A_buffer_x2, A_firstPlace_x2, A_forcedPlace_x2, A_endPlace_x2, A_wordsToFailure_x2, A_opened_x2)), hpx, ⟨rfl, by rw [ht]; exact hP, va_K.moved ha hK, hD⟩, hS.F ht⟩) hS.2.2 (Nat.le_of_ble_eq_true rfl) (Nat.le_of_ble_eq_true rfl)
    · obtain ⟨A_ring_2, A_buffer_2, A_firstPlace_2, A_forcedPlace_2, A_endPlace_2, A_wordsToFailure_2, A_opened_2⟩ := u_2
      obtain ⟨hP1, hK1, hD1⟩ := hB
      rw [ht] at hP1
      try dsimp only at hw
      have hP : va_P (dC, dI) vwCl [(qA, .inr (0, [.ref qA_ring, .ref qA_buffer, .int A_firstPlace_2, .int A_forcedPlace_2, .int A_endPlace_2, .int A_wordsToFailure_2, .int A_opened_2])), (qA_ring, .inl (cA_ring, 65536, .inl A_ring_2)), (qA_buffer, .inl (cA_buffer, 200, .inl A_buffer_2))] H_2 := hP1
      have hD : va_D A [(qA, .inr (0, [.ref qA_ring, .ref qA_buffer, .int A_firstPlace_2, .int A_forcedPlace_2, .int A_endPlace_2, .int A_wordsToFailure_2, .int A_opened_2])), (qA_ring, .inl (cA_ring, 65536, .inl A_ring_2)), (qA_buffer, .inl (cA_buffer, 200, .inl A_buffer_2))] := hD1.weaken (fun _ _ _ h => hFc _ h)
      refine W.widen (k := 2) (n := 12) (Nat.le_of_ble_eq_true rfl) (Nat.le_of_ble_eq_true rfl) ?_
      refine lv_iload_n hx hb dX0_back_9 rfl (lv_at hl 3 rfl) ?_
      refine lv_if_ge (tgt := 23) hx hb dX0_back_10 (by decide) (fun c9 => ?_) (fun c9 => ?_)
      · have hw := hw.1 c9
        refine lv_aload_n hx hb dX0_back_23 rfl (lv_at hl 0 rfl) ?_
        refine lv_iload_n hx hb dX0_back_24 rfl (lv_at hl 1 rfl) ?_
        refine lv_iload_n hx hb dX0_back_25 rfl (lv_at hl 2 rfl) ?_
        refine lv_iload_n hx hb dX0_back_26 rfl (lv_at hl 3 rfl) ?_
        refine vp_callSi (W.runV (As := [.int x1, .int x2, .int x3]) (rest := []) ⟨hx, hb, hml, hown, hbg⟩ (met_X0_kthOnTheWay l dC dI qA qA_ring qA_buffer cA_ring cA_buffer A_ring_2 A_buffer_2 A_firstPlace_2 A_forcedPlace_2 A_endPlace_2 A_wordsToFailure_2 A_opened_2 x1 x2 x3 _ hw) (cwV 3 hbg g_RX0_109 rfl rfl rfl (by decide +kernel) ⟨Nat.le_of_ble_eq_true rfl, Nat.le_of_ble_eq_true rfl⟩) ⟨pcR_A_b _ _ _ _ _ _ _ _ _ _ _ _ _ _ _, va_recv hK hP (ci := 0) (q0 := 0) rfl rfl, fun U hU hW => ⟨rfl, by rw [hU]; exact hP, va_K.moved hW.alike hK⟩⟩ rfl rfl hl.1 rfl (lv_room (Nat.le_of_ble_eq_true rfl)) dX0_back_27 ⟨Nat.le_of_ble_eq_true rfl, Nat.le_of_ble_eq_true rfl⟩) (fun r_3 hw => ?_)
        try dsimp only at hw
        subst hQQ
        refine W.widen (k := 3) (n := 18) (Nat.le_of_ble_eq_true rfl) (Nat.le_of_ble_eq_true rfl) ?_
        refine vx_ret ?_
        exact W.iret (v := r_3) hx hb hr (fun t ht hW => ⟨⟨r_3, (A_ring_2, A_buffer_2, A_firstPlace_2, A_forcedPlace_2, A_endPlace_2, A_wordsToFailure_2, A_opened_2), rfl, hw, by rw [ht]; exact hP, va_K.moved hW.alike hK, hD⟩, hS.F ht⟩) hS.2.2 dX0_back_30
      · have hw := hw.2 c9
        subst hQQ
        obtain ⟨sa, hsa⟩ := hXW0.2.2.1 (RX0, 107, "k is not below 0") (by decide +kernel)
        exact vx_throwS (own := RX0) (cls := "java/lang/IllegalArgumentException") (names := ["java/lang/RuntimeException", "java/lang/Exception"]) hx hb hl9 hown (by decide +kernel) (by decide +kernel) (hbg _ kw_69) (hbg _ kw_70) hsa (vx_hat (L := vx_atS RX0 56 "java/lang/IllegalArgumentException" ["java/lang/RuntimeException", "java/lang/Exception"]) (B := [.castable "java/lang/IllegalArgumentException" "java/lang/IllegalArgumentException", .declares ⟨"java/lang/RuntimeException", "<init>", "(Ljava/lang/String;)V"⟩, .declares ⟨"java/lang/Exception", "<init>", "(Ljava/lang/String;)V"⟩, .declares ⟨"java/lang/Throwable", "<init>", "(Ljava/lang/String;)V"⟩]) (fun w hw => hbg w (xa_RX0_56 w hw)) (by decide +kernel) (vx_c (va_Nw.use rfl (hXW0.1 "java/lang/IllegalArgumentException" (by decide))) (vx_c (va_Nw.use rfl (hXW0.2.1 "java/lang/RuntimeException" (by decide))) (vx_c (va_Nw.use rfl (hXW0.2.1 "java/lang/Exception" (by decide))) (vx_c (va_Nw.use rfl (hXW0.2.1 "java/lang/Throwable" (by decide))) (vx_n)))))) (by decide +kernel) hXW0.2.2.2.2.1 hXW0.2.2.2.2.2 hS (hl.1.trans hml.symm) dX0_back_13 dX0_back_16 dX0_back_17 dX0_back_19 dX0_back_22 (fun x hx => (hEx x hx).elim) (Nat.le_of_ble_eq_true rfl) (Nat.le_of_ble_eq_true rfl) (Nat.le_of_ble_eq_true rfl) (Nat.le_of_ble_eq_true rfl) hlocks (fun t ha hsz hk => ⟨("java/lang/IllegalArgumentException", (A_ring_2, A_buffer_2, A_firstPlace_2, A_forcedPlace_2, A_endPlace_2, A_wordsToFailure_2, A_opened_2)), hw, ⟨rfl, hP.kept (fun k q hq => hk q.1 (hP k q hq).lt), va_K.moved ha hK, hD⟩, Nat.le_trans hS.1 hsz, fun q h1 h2 => (hk q (Nat.lt_of_lt_of_le h1 hS.1)).trans (hS.2.1 q h1 h2)⟩) hS.2.2 (Nat.le_of_ble_eq_true rfl) (Nat.le_of_ble_eq_true rfl)
def wl_X0_count_17 (post : Int32 → St_A → Prop) (px : String → St_A → Prop) : Nat → Int32 → Int32 → Int32 → (Nat → Int32) → (Nat → Int32) → Int32 → Int32 → Int32 → Int32 → Int32 → Prop
  | 0, _, _, _, _, _, _, _, _, _, _ => False
  | n17 + 1, y17_1, y17_2, y17_3, A_ring_L17, A_buffer_L17, A_firstPlace_L17, A_forcedPlace_L17, A_endPlace_L17, A_wordsToFailure_L17, A_opened_L17 =>
    (((13107 : Int32) ≤ y17_3 → post y17_1 (A_ring_L17, A_buffer_L17, A_firstPlace_L17, A_forcedPlace_L17, A_endPlace_L17, A_wordsToFailure_L17, A_opened_L17)) ∧ (¬ (13107 : Int32) ≤ y17_3 → ((y17_2 = (-1 : Int32) → post y17_1 (A_ring_L17, A_buffer_L17, A_firstPlace_L17, A_forcedPlace_L17, A_endPlace_L17, A_wordsToFailure_L17, A_opened_L17)) ∧ (¬ y17_2 = (-1 : Int32) → wp_X0_lastRecordBefore (fun r_1 => wl_X0_count_17 post px n17 (y17_1 + (1 : Int32)) r_1 (y17_3 + (1 : Int32)) A_ring_L17 A_buffer_L17 A_firstPlace_L17 A_forcedPlace_L17 A_endPlace_L17 A_wordsToFailure_L17 A_opened_L17) y17_2 A_ring_L17 A_buffer_L17 A_firstPlace_L17 A_forcedPlace_L17 A_endPlace_L17 A_wordsToFailure_L17 A_opened_L17))))
def wp_X0_count (post : Int32 → St_A → Prop) (px : String → St_A → Prop) (A_ring : Nat → Int32) (A_buffer : Nat → Int32) (A_firstPlace : Int32) (A_forcedPlace : Int32) (A_endPlace : Int32) (A_wordsToFailure : Int32) (A_opened : Int32) : Prop :=
  wp_X0_requireOpen (fun u_2 => match u_2 with | (A_ring_2, A_buffer_2, A_firstPlace_2, A_forcedPlace_2, A_endPlace_2, A_wordsToFailure_2, A_opened_2) => wp_X0_lastRecordBefore (fun r_3 => ∃ n, wl_X0_count_17 post px n (0 : Int32) r_3 (0 : Int32) A_ring_2 A_buffer_2 A_firstPlace_2 A_forcedPlace_2 A_endPlace_2 A_wordsToFailure_2 A_opened_2) A_endPlace_2 A_ring_2 A_buffer_2 A_firstPlace_2 A_forcedPlace_2 A_endPlace_2 A_wordsToFailure_2 A_opened_2) px A_ring A_buffer A_firstPlace A_forcedPlace A_endPlace A_wordsToFailure A_opened
set_option maxHeartbeats 4000000 in
set_option maxRecDepth 100000 in
theorem met_X0_count (l : Launch) (hl9 : l.stackTraces = false) (dC : Nat → ClassId) (dI : Nat → Nat → Nat) (qA qA_ring qA_buffer : Nat) (cA_ring cA_buffer : ClassId) (sz : Nat) (A_ring : Nat → Int32) (A_buffer : Nat → Int32) (A_firstPlace : Int32) (A_forcedPlace : Int32) (A_endPlace : Int32) (A_wordsToFailure : Int32) (A_opened : Int32) (post : Int32 → St_A → Prop) (px : String → St_A → Prop) (hw : wp_X0_count post px A_ring A_buffer A_firstPlace A_forcedPlace A_endPlace A_wordsToFailure A_opened) :
    vx_Met l yX0_count wsX0_count ({ frames := 7, cells := 1, slots := 6, locals := 116 } : Room) (pcX_A dC dI qA qA_ring qA_buffer cA_ring cA_buffer sz A_ring A_buffer A_firstPlace A_forcedPlace A_endPlace A_wordsToFailure A_opened [.ref qA]) (va_Qi post (at_A dC dI (va_A [(qA, .inr (0, [.ref qA_ring, .ref qA_buffer, .int A_firstPlace, .int A_forcedPlace, .int A_endPlace, .int A_wordsToFailure, .int A_opened])), (qA_ring, .inl (cA_ring, 65536, .inl A_ring)), (qA_buffer, .inl (cA_buffer, 200, .inl A_buffer))] sz) qA qA_ring qA_buffer cA_ring cA_buffer) (va_A [(qA, .inr (0, [.ref qA_ring, .ref qA_buffer, .int A_firstPlace, .int A_forcedPlace, .int A_endPlace, .int A_wordsToFailure, .int A_opened])), (qA_ring, .inl (cA_ring, 65536, .inl A_ring)), (qA_buffer, .inl (cA_buffer, 200, .inl A_buffer))] sz)) (vx_X (fun u => px u.1 u.2) (atx_A dC dI (va_A [(qA, .inr (0, [.ref qA_ring, .ref qA_buffer, .int A_firstPlace, .int A_forcedPlace, .int A_endPlace, .int A_wordsToFailure, .int A_opened])), (qA_ring, .inl (cA_ring, 65536, .inl A_ring)), (qA_buffer, .inl (cA_buffer, 200, .inl A_buffer))] sz) qA qA_ring qA_buffer cA_ring cA_buffer) (va_A [(qA, .inr (0, [.ref qA_ring, .ref qA_buffer, .int A_firstPlace, .int A_forcedPlace, .int A_endPlace, .int A_wordsToFailure, .int A_opened])), (qA_ring, .inl (cA_ring, 65536, .inl A_ring)), (qA_buffer, .inl (cA_buffer, 200, .inl A_buffer))] sz)) 1 6 (va_A [(qA, .inr (0, [.ref qA_ring, .ref qA_buffer, .int A_firstPlace, .int A_forcedPlace, .int A_endPlace, .int A_wordsToFailure, .int A_opened])), (qA_ring, .inl (cA_ring, 65536, .inl A_ring)), (qA_buffer, .inl (cA_buffer, 200, .inl A_buffer))] sz) := by
  refine vx_ofW (cc := cX0_count) (maxL := 4) (ret := (some .int)) (by decide) rfl ?_
  intro p e s m args below meth c s₁ B hml hEx hv
  obtain ⟨hav, hsz, hP, hK, hD0, hXW0⟩ := hv
  have hx := B.exec
  have hb := B.bytes
  have hr := B.returns
  have hts := atoms_spec (ws := wsX0_count) B.pre
  have hbg : ∀ w ∈ bigW, w.before args s = true := fun w h => hts w (List.mem_cons_of_mem _ h)
  have hown : s.vm.findClass RX0 = some m.cls := findClass_of_methodNamed B.named
  have hlocks := B.notSynchronized
  subst hsz
  have hD := hD0.self (sz := s.heap.size)
  generalize hAe : va_A [(qA, .inr (0, [.ref qA_ring, .ref qA_buffer, .int A_firstPlace, .int A_forcedPlace, .int A_endPlace, .int A_wordsToFailure, .int A_opened])), (qA_ring, .inl (cA_ring, 65536, .inl A_ring)), (qA_buffer, .inl (cA_buffer, 200, .inl A_buffer))] s.heap.size = A at hD hXW0 ⊢
  have hA : ∀ q : Nat, s.heap.size ≤ q → A q := fun q h => by rw [← hAe]; exact Or.inr h
  have hS : va_S A s.heap s.heap [] := va_S.rf
  have hP : va_P (dC, dI) vwCl [(qA, .inr (0, [.ref qA_ring, .ref qA_buffer, .int A_firstPlace, .int A_forcedPlace, .int A_endPlace, .int A_wordsToFailure, .int A_opened])), (qA_ring, .inl (cA_ring, 65536, .inl A_ring)), (qA_buffer, .inl (cA_buffer, 200, .inl A_buffer))] s.heap := hP
  generalize hQQ : vx_MQ below (va_Qi post (at_A dC dI A qA qA_ring qA_buffer cA_ring cA_buffer) A) (vx_X (fun u => px u.1 u.2) (atx_A dC dI A qA qA_ring qA_buffer cA_ring cA_buffer) A) args s 1 6 A = QQ
  have hl := lv_entry ([.ref qA]) (n := 4) (Nat.le_of_ble_eq_true rfl)
  rw [show entryFrame m args 4 = entryFrame m ([.ref qA] : List Value).toArray 4 by rw [hav], lg_entry_eq]
  generalize (lg_sl ([.ref qA]) ++ List.replicate (4 - (lg_sl ([.ref qA])).length) Slot.unset).toArray = ls at hl ⊢
  have hl : lv_has ls 4 [(0, .ref qA)] := hl
  unfold wp_X0_count at hw
  have hL17 : ∀ (n17 : Nat) (y17_1 : Int32) (y17_2 : Int32) (y17_3 : Int32) (A_ring_L17 : Nat → Int32) (A_buffer_L17 : Nat → Int32) (A_firstPlace_L17 : Int32) (A_forcedPlace_L17 : Int32) (A_endPlace_L17 : Int32) (A_wordsToFailure_L17 : Int32) (A_opened_L17 : Int32), wl_X0_count_17 post px n17 y17_1 y17_2 y17_3 A_ring_L17 A_buffer_L17 A_firstPlace_L17 A_forcedPlace_L17 A_endPlace_L17 A_wordsToFailure_L17 A_opened_L17 → ∀ (H : Heap) (locs : List Loc), va_P (dC, dI) vwCl [(qA, .inr (0, [.ref qA_ring, .ref qA_buffer, .int A_firstPlace_L17, .int A_forcedPlace_L17, .int A_endPlace_L17, .int A_wordsToFailure_L17, .int A_opened_L17])), (qA_ring, .inl (cA_ring, 65536, .inl A_ring_L17)), (qA_buffer, .inl (cA_buffer, 200, .inl A_buffer_L17))] H → va_D A [(qA, .inr (0, [.ref qA_ring, .ref qA_buffer, .int A_firstPlace_L17, .int A_forcedPlace_L17, .int A_endPlace_L17, .int A_wordsToFailure_L17, .int A_opened_L17])), (qA_ring, .inl (cA_ring, 65536, .inl A_ring_L17)), (qA_buffer, .inl (cA_buffer, 200, .inl A_buffer_L17))] → va_S A s.heap H locs → ∀ ls : Array Slot, lv_has ls 4 [(0, .ref qA), (1, .int y17_1), (2, .int y17_2), (3, .int y17_3)] → W p l e (headSpec wsX0_count ({ frames := 7, cells := 1, slots := 6, locals := 116 } : Room)).room s m args below meth c H locs 1 6 QQ (F0 m 17 ls []) := by
    intro n17
    induction n17 with
    | zero => intro y17_1 y17_2 y17_3 A_ring_L17 A_buffer_L17 A_firstPlace_L17 A_forcedPlace_L17 A_endPlace_L17 A_wordsToFailure_L17 A_opened_L17 hw; exact False.elim hw
    | succ n17 ih17 =>
      intro y17_1 y17_2 y17_3 A_ring_L17 A_buffer_L17 A_firstPlace_L17 A_forcedPlace_L17 A_endPlace_L17 A_wordsToFailure_L17 A_opened_L17 hw H locs hP hD hS ls hl
      rw [wl_X0_count_17] at hw
      refine lv_iload_n hx hb dX0_count_17 rfl (lv_at hl 3 rfl) ?_
      refine lv_sipush (v := (13107 : Int32)) hx hb dX0_count_18 (by decide) ?_
      refine lv_icmp_ge (tgt := 44) hx hb dX0_count_21 (by decide) (fun c9 => ?_) (fun c9 => ?_)
      · have hw := hw.1 c9
        refine lv_iload_n hx hb dX0_count_44 rfl (lv_at hl 1 rfl) ?_
        subst hQQ
        refine W.widen (k := 1) (n := 6) (Nat.le_of_ble_eq_true rfl) (Nat.le_of_ble_eq_true rfl) ?_
        refine vx_ret ?_
        exact W.iret (v := y17_1) hx hb hr (fun t ht hW => ⟨⟨y17_1, (A_ring_L17, A_buffer_L17, A_firstPlace_L17, A_forcedPlace_L17, A_endPlace_L17, A_wordsToFailure_L17, A_opened_L17), rfl, hw, by rw [ht]; exact hP, va_K.moved hW.alike hK, hD⟩, hS.F ht⟩) hS.2.2 dX0_count_45
      · have hw := hw.2 c9
        refine lv_iload_n hx hb dX0_count_24 rfl (lv_at hl 2 rfl) ?_
        refine lv_iconst (v := (-1 : Int32)) hx hb dX0_count_25 (by decide) ?_
        refine lv_icmp_eq (tgt := 44) hx hb dX0_count_26 (by decide) (fun c9 => ?_) (fun c9 => ?_)
        · have hw := hw.1 c9
          refine lv_iload_n hx hb dX0_count_44 rfl (lv_at hl 1 rfl) ?_
          subst hQQ
          refine W.widen (k := 1) (n := 6) (Nat.le_of_ble_eq_true rfl) (Nat.le_of_ble_eq_true rfl) ?_
          refine vx_ret ?_
          exact W.iret (v := y17_1) hx hb hr (fun t ht hW => ⟨⟨y17_1, (A_ring_L17, A_buffer_L17, A_firstPlace_L17, A_forcedPlace_L17, A_endPlace_L17, A_wordsToFailure_L17, A_opened_L17), rfl, hw, by rw [ht]; exact hP, va_K.moved hW.alike hK, hD⟩, hS.F ht⟩) hS.2.2 dX0_count_45
        · have hw := hw.2 c9
          refine lv_iinc (v := y17_1 + (1 : Int32)) (lv' := [(1, .int (y17_1 + (1 : Int32))), (0, .ref qA), (2, .int y17_2), (3, .int y17_3)]) hx hb dX0_count_29 hl (k := 1) rfl rfl (by decide) rfl (fun ls hl => ?_)
          refine lv_aload_n hx hb dX0_count_32 rfl (lv_at hl 1 rfl) ?_
          refine lv_iload_n hx hb dX0_count_33 rfl (lv_at hl 2 rfl) ?_
          refine vp_callSi (W.runV (As := [.int y17_2]) (rest := []) ⟨hx, hb, hml, hown, hbg⟩ (met_X0_lastRecordBefore l dC dI qA qA_ring qA_buffer cA_ring cA_buffer A_ring_L17 A_buffer_L17 A_firstPlace_L17 A_forcedPlace_L17 A_endPlace_L17 A_wordsToFailure_L17 A_opened_L17 y17_2 _ hw) (cwV 1 hbg g_RX0_88 rfl rfl rfl (by decide +kernel) ⟨Nat.le_of_ble_eq_true rfl, Nat.le_of_ble_eq_true rfl⟩) ⟨pcR_A_b _ _ _ _ _ _ _ _ _ _ _ _ _ _ _, va_recv hK hP (ci := 0) (q0 := 0) rfl rfl, fun U hU hW => ⟨rfl, by rw [hU]; exact hP, va_K.moved hW.alike hK⟩⟩ rfl rfl hl.1 rfl (lv_room (Nat.le_of_ble_eq_true rfl)) dX0_count_34 ⟨Nat.le_of_ble_eq_true rfl, Nat.le_of_ble_eq_true rfl⟩) (fun r_1 hw => ?_)
          try dsimp only at hw
          refine lv_istore_n (lv' := [(2, .int r_1), (1, .int (y17_1 + (1 : Int32))), (0, .ref qA), (3, .int y17_3)]) hx hb dX0_count_37 rfl hl (by decide) rfl (fun ls hl => ?_)
          refine lv_iinc (v := y17_3 + (1 : Int32)) (lv' := [(3, .int (y17_3 + (1 : Int32))), (2, .int r_1), (1, .int (y17_1 + (1 : Int32))), (0, .ref qA)]) hx hb dX0_count_38 hl (k := 3) rfl rfl (by decide) rfl (fun ls hl => ?_)
          refine lv_goto (tgt := 17) hx hb dX0_count_41 (by decide) ?_
          exact ih17 (y17_1 + (1 : Int32)) r_1 (y17_3 + (1 : Int32)) A_ring_L17 A_buffer_L17 A_firstPlace_L17 A_forcedPlace_L17 A_endPlace_L17 A_wordsToFailure_L17 A_opened_L17 hw _ _ hP hD hS ls (lv_sub hl [3, 2, 1, 0] rfl)
  refine lv_aload_n hx hb dX0_count_0 rfl (lv_at hl 0 rfl) ?_
  have hFc := va_free (wc := [(qA, .inr (0, [.ref qA_ring, .ref qA_buffer, .int A_firstPlace, .int A_forcedPlace, .int A_endPlace, .int A_wordsToFailure, .int A_opened])), (qA_ring, .inl (cA_ring, 65536, .inl A_ring)), (qA_buffer, .inl (cA_buffer, 200, .inl A_buffer))]) hD hS hA [0, 1, 2] rfl
  refine vx_callv (vx_runV (As := []) (rest := []) ⟨hx, hb, hml, hown, hbg⟩ (met_X0_requireOpen l hl9 dC dI qA qA_ring qA_buffer cA_ring cA_buffer s.heap.size A_ring A_buffer A_firstPlace A_forcedPlace A_endPlace A_wordsToFailure A_opened  _ _ hw) (cwV 0 hbg g_RX0_34 rfl rfl rfl (by decide +kernel) ⟨Nat.le_of_ble_eq_true rfl, Nat.le_of_ble_eq_true rfl⟩) ⟨pcX_A_b _ _ _ _ _ _ _ _ _ _ _ _ _ _ _ _, va_recv hK hP (ci := 0) (q0 := 0) rfl rfl, fun U hU hW => ⟨rfl, by rw [hU], by rw [hU]; exact hP, va_K.moved hW.alike hK, hD.weaken (fun _ _ _ _ => trivial), XW.go hXW0 hS hFc hU hW⟩⟩ rfl rfl hl.1 rfl (lv_room (Nat.le_of_ble_eq_true rfl)) dX0_count_1 ⟨Nat.le_of_ble_eq_true rfl, Nat.le_of_ble_eq_true rfl⟩) hS (fun q _ h => hFc q h) hFc (fun q _ h => hFc q h) (fun E9 ce9 q9 u9 t9 H_2 locs ht hvm hpx hBX hz1 hk1 hS hce hcv hcl => ?_) (fun u_2 t_2 H_2 locs ht hvm hw hB hz1 hk1 hS => ?_)
  · obtain ⟨E8, A_ring_x2, A_buffer_x2, A_firstPlace_x2, A_forcedPlace_x2, A_endPlace_x2, A_wordsToFailure_x2, A_opened_x2⟩ := u9
    obtain ⟨rfl, hP1, hK1, hD1⟩ := hBX
    rw [ht] at hP1
    have hP : va_P (dC, dI) vwCl [(qA, .inr (0, [.ref qA_ring, .ref qA_buffer, .int A_firstPlace_x2, .int A_forcedPlace_x2, .int A_endPlace_x2, .int A_wordsToFailure_x2, .int A_opened_x2])), (qA_ring, .inl (cA_ring, 65536, .inl A_ring_x2)), (qA_buffer, .inl (cA_buffer, 200, .inl A_buffer_x2))] H_2 := hP1
    have hD : va_D A [(qA, .inr (0, [.ref qA_ring, .ref qA_buffer, .int A_firstPlace_x2, .int A_forcedPlace_x2, .int A_endPlace_x2, .int A_wordsToFailure_x2, .int A_opened_x2])), (qA_ring, .inl (cA_ring, 65536, .inl A_ring_x2)), (qA_buffer, .inl (cA_buffer, 200, .inl A_buffer_x2))] := hD1.weaken (fun _ _ _ h => hFc _ h)
    subst hQQ
    exact vx_out (fun x hx => (hEx x hx).elim) hlocks hce hcv hcl (fun t ht ha => ⟨(E9, (A_ring_x2, A_buffer_x2, A_firstPlace_x2, A_forcedPlace_x2, A_endPlace_x2, A_wordsToFailure_x2, A_opened_x2)), hpx, ⟨rfl, by rw [ht]; exact hP, va_K.moved ha hK, hD⟩, hS.F ht⟩) hS.2.2 (Nat.le_of_ble_eq_true rfl) (Nat.le_of_ble_eq_true rfl)
  · obtain ⟨A_ring_2, A_buffer_2, A_firstPlace_2, A_forcedPlace_2, A_endPlace_2, A_wordsToFailure_2, A_opened_2⟩ := u_2
    obtain ⟨hP1, hK1, hD1⟩ := hB
    rw [ht] at hP1
    try dsimp only at hw
    have hP : va_P (dC, dI) vwCl [(qA, .inr (0, [.ref qA_ring, .ref qA_buffer, .int A_firstPlace_2, .int A_forcedPlace_2, .int A_endPlace_2, .int A_wordsToFailure_2, .int A_opened_2])), (qA_ring, .inl (cA_ring, 65536, .inl A_ring_2)), (qA_buffer, .inl (cA_buffer, 200, .inl A_buffer_2))] H_2 := hP1
    have hD : va_D A [(qA, .inr (0, [.ref qA_ring, .ref qA_buffer, .int A_firstPlace_2, .int A_forcedPlace_2, .int A_endPlace_2, .int A_wordsToFailure_2, .int A_opened_2])), (qA_ring, .inl (cA_ring, 65536, .inl A_ring_2)), (qA_buffer, .inl (cA_buffer, 200, .inl A_buffer_2))] := hD1.weaken (fun _ _ _ h => hFc _ h)
    refine W.widen (k := 1) (n := 6) (Nat.le_of_ble_eq_true rfl) (Nat.le_of_ble_eq_true rfl) ?_
    refine lv_iconst (v := (0 : Int32)) hx hb dX0_count_4 (by decide) ?_
    refine lv_istore_n (lv' := [(1, .int (0 : Int32)), (0, .ref qA)]) hx hb dX0_count_5 rfl hl (by decide) rfl (fun ls hl => ?_)
    refine lv_aload_n hx hb dX0_count_6 rfl (lv_at hl 1 rfl) ?_
    refine lv_aload_n hx hb dX0_count_7 rfl (lv_at hl 1 rfl) ?_
    refine va_get (D := (dC, dI)) (ci := 0) (v := .int A_endPlace_2) (C := RX0) (T := TX0) (N := 7) hx hb hbg in_X0 hown hK hP 0 rfl rfl 4 (by decide) (hbg _ kw_12) (fun _ h9 => h9) rfl dX0_count_8 ?_
    refine vp_callSi (W.runV (As := [.int A_endPlace_2]) (rest := []) ⟨hx, hb, hml, hown, hbg⟩ (met_X0_lastRecordBefore l dC dI qA qA_ring qA_buffer cA_ring cA_buffer A_ring_2 A_buffer_2 A_firstPlace_2 A_forcedPlace_2 A_endPlace_2 A_wordsToFailure_2 A_opened_2 A_endPlace_2 _ hw) (cwV 1 hbg g_RX0_88 rfl rfl rfl (by decide +kernel) ⟨Nat.le_of_ble_eq_true rfl, Nat.le_of_ble_eq_true rfl⟩) ⟨pcR_A_b _ _ _ _ _ _ _ _ _ _ _ _ _ _ _, va_recv hK hP (ci := 0) (q0 := 0) rfl rfl, fun U hU hW => ⟨rfl, by rw [hU]; exact hP, va_K.moved hW.alike hK⟩⟩ rfl rfl hl.1 rfl (lv_room (Nat.le_of_ble_eq_true rfl)) dX0_count_11 ⟨Nat.le_of_ble_eq_true rfl, Nat.le_of_ble_eq_true rfl⟩) (fun r_3 hw => ?_)
    try dsimp only at hw
    refine lv_istore_n (lv' := [(2, .int r_3), (1, .int (0 : Int32)), (0, .ref qA)]) hx hb dX0_count_14 rfl hl (by decide) rfl (fun ls hl => ?_)
    refine lv_iconst (v := (0 : Int32)) hx hb dX0_count_15 (by decide) ?_
    refine lv_istore_n (lv' := [(3, .int (0 : Int32)), (2, .int r_3), (1, .int (0 : Int32)), (0, .ref qA)]) hx hb dX0_count_16 rfl hl (by decide) rfl (fun ls hl => ?_)
    obtain ⟨n9, hw⟩ := hw
    exact hL17 n9 (0 : Int32) r_3 (0 : Int32) A_ring_2 A_buffer_2 A_firstPlace_2 A_forcedPlace_2 A_endPlace_2 A_wordsToFailure_2 A_opened_2 hw _ _ hP hD hS ls (lv_sub hl [3, 2, 1, 0] rfl)
def wp_X0_log (post : Int32 → St_A → Prop) (px : String → St_A → Prop) (x1 : Int32) (A_ring : Nat → Int32) (A_buffer : Nat → Int32) (A_firstPlace : Int32) (A_forcedPlace : Int32) (A_endPlace : Int32) (A_wordsToFailure : Int32) (A_opened : Int32) : Prop :=
  ((x1 = (0 : Int32) → post A_firstPlace (A_ring, A_buffer, A_firstPlace, A_forcedPlace, A_endPlace, A_wordsToFailure, A_opened)) ∧ (¬ x1 = (0 : Int32) → ((x1 = (1 : Int32) → post A_forcedPlace (A_ring, A_buffer, A_firstPlace, A_forcedPlace, A_endPlace, A_wordsToFailure, A_opened)) ∧ (¬ x1 = (1 : Int32) → ((x1 = (2 : Int32) → post A_endPlace (A_ring, A_buffer, A_firstPlace, A_forcedPlace, A_endPlace, A_wordsToFailure, A_opened)) ∧ (¬ x1 = (2 : Int32) → px "java/lang/IndexOutOfBoundsException" (A_ring, A_buffer, A_firstPlace, A_forcedPlace, A_endPlace, A_wordsToFailure, A_opened)))))))
set_option maxHeartbeats 4000000 in
set_option maxRecDepth 100000 in
theorem met_X0_log (l : Launch) (hl9 : l.stackTraces = false) (dC : Nat → ClassId) (dI : Nat → Nat → Nat) (qA qA_ring qA_buffer : Nat) (cA_ring cA_buffer : ClassId) (sz : Nat) (A_ring : Nat → Int32) (A_buffer : Nat → Int32) (A_firstPlace : Int32) (A_forcedPlace : Int32) (A_endPlace : Int32) (A_wordsToFailure : Int32) (A_opened : Int32) (x1 : Int32) (post : Int32 → St_A → Prop) (px : String → St_A → Prop) (hw : wp_X0_log post px x1 A_ring A_buffer A_firstPlace A_forcedPlace A_endPlace A_wordsToFailure A_opened) :
    vx_Met l yX0_log wsX0_log ({ frames := 6, cells := 1, slots := 6, locals := 96 } : Room) (pcX_A dC dI qA qA_ring qA_buffer cA_ring cA_buffer sz A_ring A_buffer A_firstPlace A_forcedPlace A_endPlace A_wordsToFailure A_opened [.ref qA, .int x1]) (va_Qi post (at_A dC dI (va_A [(qA, .inr (0, [.ref qA_ring, .ref qA_buffer, .int A_firstPlace, .int A_forcedPlace, .int A_endPlace, .int A_wordsToFailure, .int A_opened])), (qA_ring, .inl (cA_ring, 65536, .inl A_ring)), (qA_buffer, .inl (cA_buffer, 200, .inl A_buffer))] sz) qA qA_ring qA_buffer cA_ring cA_buffer) (va_A [(qA, .inr (0, [.ref qA_ring, .ref qA_buffer, .int A_firstPlace, .int A_forcedPlace, .int A_endPlace, .int A_wordsToFailure, .int A_opened])), (qA_ring, .inl (cA_ring, 65536, .inl A_ring)), (qA_buffer, .inl (cA_buffer, 200, .inl A_buffer))] sz)) (vx_X (fun u => px u.1 u.2) (atx_A dC dI (va_A [(qA, .inr (0, [.ref qA_ring, .ref qA_buffer, .int A_firstPlace, .int A_forcedPlace, .int A_endPlace, .int A_wordsToFailure, .int A_opened])), (qA_ring, .inl (cA_ring, 65536, .inl A_ring)), (qA_buffer, .inl (cA_buffer, 200, .inl A_buffer))] sz) qA qA_ring qA_buffer cA_ring cA_buffer) (va_A [(qA, .inr (0, [.ref qA_ring, .ref qA_buffer, .int A_firstPlace, .int A_forcedPlace, .int A_endPlace, .int A_wordsToFailure, .int A_opened])), (qA_ring, .inl (cA_ring, 65536, .inl A_ring)), (qA_buffer, .inl (cA_buffer, 200, .inl A_buffer))] sz)) 1 6 (va_A [(qA, .inr (0, [.ref qA_ring, .ref qA_buffer, .int A_firstPlace, .int A_forcedPlace, .int A_endPlace, .int A_wordsToFailure, .int A_opened])), (qA_ring, .inl (cA_ring, 65536, .inl A_ring)), (qA_buffer, .inl (cA_buffer, 200, .inl A_buffer))] sz) := by
  refine vx_ofW (cc := cX0_log) (maxL := 2) (ret := (some .int)) (by decide) rfl ?_
  intro p e s m args below meth c s₁ B hml hEx hv
  obtain ⟨hav, hsz, hP, hK, hD0, hXW0⟩ := hv
  have hx := B.exec
  have hb := B.bytes
  have hr := B.returns
  have hts := atoms_spec (ws := wsX0_log) B.pre
  have hbg : ∀ w ∈ bigW, w.before args s = true := fun w h => hts w (List.mem_cons_of_mem _ h)
  have hown : s.vm.findClass RX0 = some m.cls := findClass_of_methodNamed B.named
  have hlocks := B.notSynchronized
  subst hsz
  have hD := hD0.self (sz := s.heap.size)
  generalize hAe : va_A [(qA, .inr (0, [.ref qA_ring, .ref qA_buffer, .int A_firstPlace, .int A_forcedPlace, .int A_endPlace, .int A_wordsToFailure, .int A_opened])), (qA_ring, .inl (cA_ring, 65536, .inl A_ring)), (qA_buffer, .inl (cA_buffer, 200, .inl A_buffer))] s.heap.size = A at hD hXW0 ⊢
  have hA : ∀ q : Nat, s.heap.size ≤ q → A q := fun q h => by rw [← hAe]; exact Or.inr h
  have hS : va_S A s.heap s.heap [] := va_S.rf
  have hP : va_P (dC, dI) vwCl [(qA, .inr (0, [.ref qA_ring, .ref qA_buffer, .int A_firstPlace, .int A_forcedPlace, .int A_endPlace, .int A_wordsToFailure, .int A_opened])), (qA_ring, .inl (cA_ring, 65536, .inl A_ring)), (qA_buffer, .inl (cA_buffer, 200, .inl A_buffer))] s.heap := hP
  generalize hQQ : vx_MQ below (va_Qi post (at_A dC dI A qA qA_ring qA_buffer cA_ring cA_buffer) A) (vx_X (fun u => px u.1 u.2) (atx_A dC dI A qA qA_ring qA_buffer cA_ring cA_buffer) A) args s 1 6 A = QQ
  have hl := lv_entry ([.ref qA, .int x1]) (n := 2) (Nat.le_of_ble_eq_true rfl)
  rw [show entryFrame m args 2 = entryFrame m ([.ref qA, .int x1] : List Value).toArray 2 by rw [hav], lg_entry_eq]
  generalize (lg_sl ([.ref qA, .int x1]) ++ List.replicate (2 - (lg_sl ([.ref qA, .int x1])).length) Slot.unset).toArray = ls at hl ⊢
  have hl : lv_has ls 2 [(0, .ref qA), (1, .int x1)] := hl
  unfold wp_X0_log at hw
  refine lv_iload_n hx hb dX0_log_0 rfl (lv_at hl 1 rfl) ?_
  rcases Classical.em (x1 = (0 : Int32)) with c9_0 | c9_0
  · have hw := hw.1 c9_0
    refine lv_tableIn (tgt := 28) (off := 27) hx hb dX0_log_1 (by rw [c9_0]; decide) (by rw [c9_0]; decide) (by rw [c9_0]; rfl) (by decide) ?_
    refine lv_aload_n hx hb dX0_log_28 rfl (lv_at hl 0 rfl) ?_
    refine va_get (D := (dC, dI)) (ci := 0) (v := .int A_firstPlace) (C := RX0) (T := TX0) (N := 7) hx hb hbg in_X0 hown hK hP 0 rfl rfl 2 (by decide) (hbg _ kw_2) (fun _ h9 => h9) rfl dX0_log_29 ?_
    subst hQQ
    refine W.widen (k := 1) (n := 6) (Nat.le_of_ble_eq_true rfl) (Nat.le_of_ble_eq_true rfl) ?_
    refine vx_ret ?_
    exact W.iret (v := A_firstPlace) hx hb hr (fun t ht hW => ⟨⟨A_firstPlace, (A_ring, A_buffer, A_firstPlace, A_forcedPlace, A_endPlace, A_wordsToFailure, A_opened), rfl, hw, by rw [ht]; exact hP, va_K.moved hW.alike hK, hD⟩, hS.F ht⟩) hS.2.2 dX0_log_32
  · have hw := hw.2 c9_0
    rcases Classical.em (x1 = (1 : Int32)) with c9_1 | c9_1
    · have hw := hw.1 c9_1
      refine lv_tableIn (tgt := 33) (off := 32) hx hb dX0_log_1 (by rw [c9_1]; decide) (by rw [c9_1]; decide) (by rw [c9_1]; rfl) (by decide) ?_
      refine lv_aload_n hx hb dX0_log_33 rfl (lv_at hl 0 rfl) ?_
      refine va_get (D := (dC, dI)) (ci := 0) (v := .int A_forcedPlace) (C := RX0) (T := TX0) (N := 7) hx hb hbg in_X0 hown hK hP 0 rfl rfl 3 (by decide) (hbg _ kw_51) (fun _ h9 => h9) rfl dX0_log_34 ?_
      subst hQQ
      refine W.widen (k := 1) (n := 6) (Nat.le_of_ble_eq_true rfl) (Nat.le_of_ble_eq_true rfl) ?_
      refine vx_ret ?_
      exact W.iret (v := A_forcedPlace) hx hb hr (fun t ht hW => ⟨⟨A_forcedPlace, (A_ring, A_buffer, A_firstPlace, A_forcedPlace, A_endPlace, A_wordsToFailure, A_opened), rfl, hw, by rw [ht]; exact hP, va_K.moved hW.alike hK, hD⟩, hS.F ht⟩) hS.2.2 dX0_log_37
    · have hw := hw.2 c9_1
      rcases Classical.em (x1 = (2 : Int32)) with c9_2 | c9_2
      · have hw := hw.1 c9_2
        refine lv_tableIn (tgt := 38) (off := 37) hx hb dX0_log_1 (by rw [c9_2]; decide) (by rw [c9_2]; decide) (by rw [c9_2]; rfl) (by decide) ?_
        refine lv_aload_n hx hb dX0_log_38 rfl (lv_at hl 0 rfl) ?_
        refine va_get (D := (dC, dI)) (ci := 0) (v := .int A_endPlace) (C := RX0) (T := TX0) (N := 7) hx hb hbg in_X0 hown hK hP 0 rfl rfl 4 (by decide) (hbg _ kw_12) (fun _ h9 => h9) rfl dX0_log_39 ?_
        subst hQQ
        refine W.widen (k := 1) (n := 6) (Nat.le_of_ble_eq_true rfl) (Nat.le_of_ble_eq_true rfl) ?_
        refine vx_ret ?_
        exact W.iret (v := A_endPlace) hx hb hr (fun t ht hW => ⟨⟨A_endPlace, (A_ring, A_buffer, A_firstPlace, A_forcedPlace, A_endPlace, A_wordsToFailure, A_opened), rfl, hw, by rw [ht]; exact hP, va_K.moved hW.alike hK, hD⟩, hS.F ht⟩) hS.2.2 dX0_log_42
      · have hw := hw.2 c9_2
        refine lv_tableOut (tgt := 43) hx hb dX0_log_1 (by have t0 := lv_neT c9_0 (a := 0) (by decide); have t1 := lv_neT c9_1 (a := 1) (by decide); have t2 := lv_neT c9_2 (a := 2) (by decide); omega) (by decide) ?_
        subst hQQ
        obtain ⟨sa, hsa⟩ := hXW0.2.2.1 (RX0, 113, "which is 0 .. 2") (by decide +kernel)
        exact vx_throwS (own := RX0) (cls := "java/lang/IndexOutOfBoundsException") (names := ["java/lang/RuntimeException", "java/lang/Exception"]) hx hb hl9 hown (by decide +kernel) (by decide +kernel) (hbg _ kw_81) (hbg _ kw_82) hsa (vx_hat (L := vx_atS RX0 41 "java/lang/IndexOutOfBoundsException" ["java/lang/RuntimeException", "java/lang/Exception"]) (B := [.castable "java/lang/IndexOutOfBoundsException" "java/lang/IndexOutOfBoundsException", .declares ⟨"java/lang/RuntimeException", "<init>", "(Ljava/lang/String;)V"⟩, .declares ⟨"java/lang/Exception", "<init>", "(Ljava/lang/String;)V"⟩, .declares ⟨"java/lang/Throwable", "<init>", "(Ljava/lang/String;)V"⟩]) (fun w hw => hbg w (xa_RX0_41 w hw)) (by decide +kernel) (vx_c (va_Nw.use rfl (hXW0.1 "java/lang/IndexOutOfBoundsException" (by decide))) (vx_c (va_Nw.use rfl (hXW0.2.1 "java/lang/RuntimeException" (by decide))) (vx_c (va_Nw.use rfl (hXW0.2.1 "java/lang/Exception" (by decide))) (vx_c (va_Nw.use rfl (hXW0.2.1 "java/lang/Throwable" (by decide))) (vx_n)))))) (by decide +kernel) hXW0.2.2.2.2.1 hXW0.2.2.2.2.2 hS (hl.1.trans hml.symm) dX0_log_43 dX0_log_46 dX0_log_47 dX0_log_49 dX0_log_52 (fun x hx => (hEx x hx).elim) (Nat.le_of_ble_eq_true rfl) (Nat.le_of_ble_eq_true rfl) (Nat.le_of_ble_eq_true rfl) (Nat.le_of_ble_eq_true rfl) hlocks (fun t ha hsz hk => ⟨("java/lang/IndexOutOfBoundsException", (A_ring, A_buffer, A_firstPlace, A_forcedPlace, A_endPlace, A_wordsToFailure, A_opened)), hw, ⟨rfl, hP.kept (fun k q hq => hk q.1 (hP k q hq).lt), va_K.moved ha hK, hD⟩, Nat.le_trans hS.1 hsz, fun q h1 h2 => (hk q (Nat.lt_of_lt_of_le h1 hS.1)).trans (hS.2.1 q h1 h2)⟩) hS.2.2 (Nat.le_of_ble_eq_true rfl) (Nat.le_of_ble_eq_true rfl)
def wp_X0_cutAfter (post : St_A → Prop) (px : String → St_A → Prop) (x1 : Int32) (A_ring : Nat → Int32) (A_buffer : Nat → Int32) (A_firstPlace : Int32) (A_forcedPlace : Int32) (A_endPlace : Int32) (A_wordsToFailure : Int32) (A_opened : Int32) : Prop :=
  (((-1 : Int32) ≤ x1 → post (A_ring, A_buffer, A_firstPlace, A_forcedPlace, A_endPlace, x1, A_opened)) ∧ (¬ (-1 : Int32) ≤ x1 → px "java/lang/IllegalArgumentException" (A_ring, A_buffer, A_firstPlace, A_forcedPlace, A_endPlace, A_wordsToFailure, A_opened)))
set_option maxHeartbeats 4000000 in
set_option maxRecDepth 100000 in
theorem met_X0_cutAfter (l : Launch) (hl9 : l.stackTraces = false) (dC : Nat → ClassId) (dI : Nat → Nat → Nat) (qA qA_ring qA_buffer : Nat) (cA_ring cA_buffer : ClassId) (sz : Nat) (A_ring : Nat → Int32) (A_buffer : Nat → Int32) (A_firstPlace : Int32) (A_forcedPlace : Int32) (A_endPlace : Int32) (A_wordsToFailure : Int32) (A_opened : Int32) (x1 : Int32) (post : St_A → Prop) (px : String → St_A → Prop) (hw : wp_X0_cutAfter post px x1 A_ring A_buffer A_firstPlace A_forcedPlace A_endPlace A_wordsToFailure A_opened) :
    vx_Met l yX0_cutAfter wsX0_cutAfter ({ frames := 6, cells := 1, slots := 6, locals := 96 } : Room) (pcX_A dC dI qA qA_ring qA_buffer cA_ring cA_buffer sz A_ring A_buffer A_firstPlace A_forcedPlace A_endPlace A_wordsToFailure A_opened [.ref qA, .int x1]) (va_Qv post (at_A dC dI (va_A [(qA, .inr (0, [.ref qA_ring, .ref qA_buffer, .int A_firstPlace, .int A_forcedPlace, .int A_endPlace, .int A_wordsToFailure, .int A_opened])), (qA_ring, .inl (cA_ring, 65536, .inl A_ring)), (qA_buffer, .inl (cA_buffer, 200, .inl A_buffer))] sz) qA qA_ring qA_buffer cA_ring cA_buffer) (va_A [(qA, .inr (0, [.ref qA_ring, .ref qA_buffer, .int A_firstPlace, .int A_forcedPlace, .int A_endPlace, .int A_wordsToFailure, .int A_opened])), (qA_ring, .inl (cA_ring, 65536, .inl A_ring)), (qA_buffer, .inl (cA_buffer, 200, .inl A_buffer))] sz)) (vx_X (fun u => px u.1 u.2) (atx_A dC dI (va_A [(qA, .inr (0, [.ref qA_ring, .ref qA_buffer, .int A_firstPlace, .int A_forcedPlace, .int A_endPlace, .int A_wordsToFailure, .int A_opened])), (qA_ring, .inl (cA_ring, 65536, .inl A_ring)), (qA_buffer, .inl (cA_buffer, 200, .inl A_buffer))] sz) qA qA_ring qA_buffer cA_ring cA_buffer) (va_A [(qA, .inr (0, [.ref qA_ring, .ref qA_buffer, .int A_firstPlace, .int A_forcedPlace, .int A_endPlace, .int A_wordsToFailure, .int A_opened])), (qA_ring, .inl (cA_ring, 65536, .inl A_ring)), (qA_buffer, .inl (cA_buffer, 200, .inl A_buffer))] sz)) 1 6 (va_A [(qA, .inr (0, [.ref qA_ring, .ref qA_buffer, .int A_firstPlace, .int A_forcedPlace, .int A_endPlace, .int A_wordsToFailure, .int A_opened])), (qA_ring, .inl (cA_ring, 65536, .inl A_ring)), (qA_buffer, .inl (cA_buffer, 200, .inl A_buffer))] sz) := by
  refine vx_ofW (cc := cX0_cutAfter) (maxL := 2) (ret := none) (by decide) rfl ?_
  intro p e s m args below meth c s₁ B hml hEx hv
  obtain ⟨hav, hsz, hP, hK, hD0, hXW0⟩ := hv
  have hx := B.exec
  have hb := B.bytes
  have hr := B.returns
  have hts := atoms_spec (ws := wsX0_cutAfter) B.pre
  have hbg : ∀ w ∈ bigW, w.before args s = true := fun w h => hts w (List.mem_cons_of_mem _ h)
  have hown : s.vm.findClass RX0 = some m.cls := findClass_of_methodNamed B.named
  have hlocks := B.notSynchronized
  subst hsz
  have hD := hD0.self (sz := s.heap.size)
  generalize hAe : va_A [(qA, .inr (0, [.ref qA_ring, .ref qA_buffer, .int A_firstPlace, .int A_forcedPlace, .int A_endPlace, .int A_wordsToFailure, .int A_opened])), (qA_ring, .inl (cA_ring, 65536, .inl A_ring)), (qA_buffer, .inl (cA_buffer, 200, .inl A_buffer))] s.heap.size = A at hD hXW0 ⊢
  have hA : ∀ q : Nat, s.heap.size ≤ q → A q := fun q h => by rw [← hAe]; exact Or.inr h
  have hS : va_S A s.heap s.heap [] := va_S.rf
  have hP : va_P (dC, dI) vwCl [(qA, .inr (0, [.ref qA_ring, .ref qA_buffer, .int A_firstPlace, .int A_forcedPlace, .int A_endPlace, .int A_wordsToFailure, .int A_opened])), (qA_ring, .inl (cA_ring, 65536, .inl A_ring)), (qA_buffer, .inl (cA_buffer, 200, .inl A_buffer))] s.heap := hP
  generalize hQQ : vx_MQ below (va_Qv post (at_A dC dI A qA qA_ring qA_buffer cA_ring cA_buffer) A) (vx_X (fun u => px u.1 u.2) (atx_A dC dI A qA qA_ring qA_buffer cA_ring cA_buffer) A) args s 1 6 A = QQ
  have hl := lv_entry ([.ref qA, .int x1]) (n := 2) (Nat.le_of_ble_eq_true rfl)
  rw [show entryFrame m args 2 = entryFrame m ([.ref qA, .int x1] : List Value).toArray 2 by rw [hav], lg_entry_eq]
  generalize (lg_sl ([.ref qA, .int x1]) ++ List.replicate (2 - (lg_sl ([.ref qA, .int x1])).length) Slot.unset).toArray = ls at hl ⊢
  have hl : lv_has ls 2 [(0, .ref qA), (1, .int x1)] := hl
  unfold wp_X0_cutAfter at hw
  refine lv_iload_n hx hb dX0_cutAfter_0 rfl (lv_at hl 1 rfl) ?_
  refine lv_iconst (v := (-1 : Int32)) hx hb dX0_cutAfter_1 (by decide) ?_
  refine lv_icmp_ge (tgt := 15) hx hb dX0_cutAfter_2 (by decide) (fun c9 => ?_) (fun c9 => ?_)
  · have hw := hw.1 c9
    refine lv_aload_n hx hb dX0_cutAfter_15 rfl (lv_at hl 0 rfl) ?_
    refine lv_iload_n hx hb dX0_cutAfter_16 rfl (lv_at hl 1 rfl) ?_
    refine va_put (D := (dC, dI)) (ci := 0) (v := .int x1) (ty := .int) (C := RX0) (T := TX0) (N := 7) hx hb hbg in_X0 tyX0 tyX0_ok nmX0 hown hK hP hD hS 0 rfl rfl 5 (by decide) (hbg _ kw_52) (fun _ h9 => h9) rfl (by decide +kernel) rfl rfl (Nat.le_of_ble_eq_true rfl) dX0_cutAfter_17 (fun H_1 locs hP hD hS => ?_)
    have hP : va_P (dC, dI) vwCl [(qA, .inr (0, [.ref qA_ring, .ref qA_buffer, .int A_firstPlace, .int A_forcedPlace, .int A_endPlace, .int x1, .int A_opened])), (qA_ring, .inl (cA_ring, 65536, .inl A_ring)), (qA_buffer, .inl (cA_buffer, 200, .inl A_buffer))] H_1 := hP
    have hD : va_D A [(qA, .inr (0, [.ref qA_ring, .ref qA_buffer, .int A_firstPlace, .int A_forcedPlace, .int A_endPlace, .int x1, .int A_opened])), (qA_ring, .inl (cA_ring, 65536, .inl A_ring)), (qA_buffer, .inl (cA_buffer, 200, .inl A_buffer))] := hD
    subst hQQ
    refine W.widen (k := 1) (n := 6) (Nat.le_of_ble_eq_true rfl) (Nat.le_of_ble_eq_true rfl) ?_
    refine vx_ret ?_
    exact W.vret hx hb hr (fun t ht hW => ⟨⟨(A_ring, A_buffer, A_firstPlace, A_forcedPlace, A_endPlace, x1, A_opened), rfl, hw, by rw [ht]; exact hP, va_K.moved hW.alike hK, hD⟩, hS.F ht⟩) hS.2.2 dX0_cutAfter_20
  · have hw := hw.2 c9
    subst hQQ
    obtain ⟨sa, hsa⟩ := hXW0.2.2.1 (RX0, 115, "n is NONE or a number of words") (by decide +kernel)
    exact vx_throwS (own := RX0) (cls := "java/lang/IllegalArgumentException") (names := ["java/lang/RuntimeException", "java/lang/Exception"]) hx hb hl9 hown (by decide +kernel) (by decide +kernel) (hbg _ kw_69) (hbg _ kw_70) hsa (vx_hat (L := vx_atS RX0 56 "java/lang/IllegalArgumentException" ["java/lang/RuntimeException", "java/lang/Exception"]) (B := [.castable "java/lang/IllegalArgumentException" "java/lang/IllegalArgumentException", .declares ⟨"java/lang/RuntimeException", "<init>", "(Ljava/lang/String;)V"⟩, .declares ⟨"java/lang/Exception", "<init>", "(Ljava/lang/String;)V"⟩, .declares ⟨"java/lang/Throwable", "<init>", "(Ljava/lang/String;)V"⟩]) (fun w hw => hbg w (xa_RX0_56 w hw)) (by decide +kernel) (vx_c (va_Nw.use rfl (hXW0.1 "java/lang/IllegalArgumentException" (by decide))) (vx_c (va_Nw.use rfl (hXW0.2.1 "java/lang/RuntimeException" (by decide))) (vx_c (va_Nw.use rfl (hXW0.2.1 "java/lang/Exception" (by decide))) (vx_c (va_Nw.use rfl (hXW0.2.1 "java/lang/Throwable" (by decide))) (vx_n)))))) (by decide +kernel) hXW0.2.2.2.2.1 hXW0.2.2.2.2.2 hS (hl.1.trans hml.symm) dX0_cutAfter_5 dX0_cutAfter_8 dX0_cutAfter_9 dX0_cutAfter_11 dX0_cutAfter_14 (fun x hx => (hEx x hx).elim) (Nat.le_of_ble_eq_true rfl) (Nat.le_of_ble_eq_true rfl) (Nat.le_of_ble_eq_true rfl) (Nat.le_of_ble_eq_true rfl) hlocks (fun t ha hsz hk => ⟨("java/lang/IllegalArgumentException", (A_ring, A_buffer, A_firstPlace, A_forcedPlace, A_endPlace, A_wordsToFailure, A_opened)), hw, ⟨rfl, hP.kept (fun k q hq => hk q.1 (hP k q hq).lt), va_K.moved ha hK, hD⟩, Nat.le_trans hS.1 hsz, fun q h1 h2 => (hk q (Nat.lt_of_lt_of_le h1 hS.1)).trans (hS.2.1 q h1 h2)⟩) hS.2.2 (Nat.le_of_ble_eq_true rfl) (Nat.le_of_ble_eq_true rfl)
def wp_X0_open (post : Int32 → St_A → Prop) (px : String → St_A → Prop) (A_ring : Nat → Int32) (A_buffer : Nat → Int32) (A_firstPlace : Int32) (A_forcedPlace : Int32) (A_endPlace : Int32) (A_wordsToFailure : Int32) (A_opened : Int32) : Prop :=
  ((A_opened = (0 : Int32) → wp_X0_addVoidRest (fun u_1 => match u_1 with | (A_ring_1, A_buffer_1, A_firstPlace_1, A_forcedPlace_1, A_endPlace_1, A_wordsToFailure_1, A_opened_1) => wp_X0_writeUpTo (fun r_2 u_2 => match u_2 with | (A_ring_2, A_buffer_2, A_firstPlace_2, A_forcedPlace_2, A_endPlace_2, A_wordsToFailure_2, A_opened_2) => ((r_2 = (-1 : Int32) → post r_2 (A_ring_2, A_buffer_2, A_firstPlace_2, A_forcedPlace_2, A_endPlace_2, A_wordsToFailure_2, (0 : Int32))) ∧ (¬ r_2 = (-1 : Int32) → post r_2 (A_ring_2, A_buffer_2, A_firstPlace_2, A_forcedPlace_2, A_endPlace_2, A_wordsToFailure_2, (1 : Int32))))) A_endPlace_1 A_ring_1 A_buffer_1 A_firstPlace_1 A_forcedPlace_1 A_endPlace_1 A_wordsToFailure_1 A_opened_1) A_ring A_buffer A_firstPlace A_forcedPlace A_endPlace A_wordsToFailure A_opened) ∧ (¬ A_opened = (0 : Int32) → px "java/lang/IllegalStateException" (A_ring, A_buffer, A_firstPlace, A_forcedPlace, A_endPlace, A_wordsToFailure, A_opened)))
set_option maxHeartbeats 4000000 in
set_option maxRecDepth 100000 in
theorem met_X0_open (l : Launch) (hl9 : l.stackTraces = false) (dC : Nat → ClassId) (dI : Nat → Nat → Nat) (qA qA_ring qA_buffer : Nat) (cA_ring cA_buffer : ClassId) (sz : Nat) (A_ring : Nat → Int32) (A_buffer : Nat → Int32) (A_firstPlace : Int32) (A_forcedPlace : Int32) (A_endPlace : Int32) (A_wordsToFailure : Int32) (A_opened : Int32) (post : Int32 → St_A → Prop) (px : String → St_A → Prop) (hw : wp_X0_open post px A_ring A_buffer A_firstPlace A_forcedPlace A_endPlace A_wordsToFailure A_opened) :
    vx_Met l yX0_open wsX0_open ({ frames := 6, cells := 1, slots := 6, locals := 96 } : Room) (pcX_A dC dI qA qA_ring qA_buffer cA_ring cA_buffer sz A_ring A_buffer A_firstPlace A_forcedPlace A_endPlace A_wordsToFailure A_opened [.ref qA]) (va_Qi post (at_A dC dI (va_A [(qA, .inr (0, [.ref qA_ring, .ref qA_buffer, .int A_firstPlace, .int A_forcedPlace, .int A_endPlace, .int A_wordsToFailure, .int A_opened])), (qA_ring, .inl (cA_ring, 65536, .inl A_ring)), (qA_buffer, .inl (cA_buffer, 200, .inl A_buffer))] sz) qA qA_ring qA_buffer cA_ring cA_buffer) (va_A [(qA, .inr (0, [.ref qA_ring, .ref qA_buffer, .int A_firstPlace, .int A_forcedPlace, .int A_endPlace, .int A_wordsToFailure, .int A_opened])), (qA_ring, .inl (cA_ring, 65536, .inl A_ring)), (qA_buffer, .inl (cA_buffer, 200, .inl A_buffer))] sz)) (vx_X (fun u => px u.1 u.2) (atx_A dC dI (va_A [(qA, .inr (0, [.ref qA_ring, .ref qA_buffer, .int A_firstPlace, .int A_forcedPlace, .int A_endPlace, .int A_wordsToFailure, .int A_opened])), (qA_ring, .inl (cA_ring, 65536, .inl A_ring)), (qA_buffer, .inl (cA_buffer, 200, .inl A_buffer))] sz) qA qA_ring qA_buffer cA_ring cA_buffer) (va_A [(qA, .inr (0, [.ref qA_ring, .ref qA_buffer, .int A_firstPlace, .int A_forcedPlace, .int A_endPlace, .int A_wordsToFailure, .int A_opened])), (qA_ring, .inl (cA_ring, 65536, .inl A_ring)), (qA_buffer, .inl (cA_buffer, 200, .inl A_buffer))] sz)) 1 6 (va_A [(qA, .inr (0, [.ref qA_ring, .ref qA_buffer, .int A_firstPlace, .int A_forcedPlace, .int A_endPlace, .int A_wordsToFailure, .int A_opened])), (qA_ring, .inl (cA_ring, 65536, .inl A_ring)), (qA_buffer, .inl (cA_buffer, 200, .inl A_buffer))] sz) := by
  refine vx_ofW (cc := cX0_open) (maxL := 2) (ret := (some .int)) (by decide) rfl ?_
  intro p e s m args below meth c s₁ B hml hEx hv
  obtain ⟨hav, hsz, hP, hK, hD0, hXW0⟩ := hv
  have hx := B.exec
  have hb := B.bytes
  have hr := B.returns
  have hts := atoms_spec (ws := wsX0_open) B.pre
  have hbg : ∀ w ∈ bigW, w.before args s = true := fun w h => hts w (List.mem_cons_of_mem _ h)
  have hown : s.vm.findClass RX0 = some m.cls := findClass_of_methodNamed B.named
  have hlocks := B.notSynchronized
  subst hsz
  have hD := hD0.self (sz := s.heap.size)
  generalize hAe : va_A [(qA, .inr (0, [.ref qA_ring, .ref qA_buffer, .int A_firstPlace, .int A_forcedPlace, .int A_endPlace, .int A_wordsToFailure, .int A_opened])), (qA_ring, .inl (cA_ring, 65536, .inl A_ring)), (qA_buffer, .inl (cA_buffer, 200, .inl A_buffer))] s.heap.size = A at hD hXW0 ⊢
  have hA : ∀ q : Nat, s.heap.size ≤ q → A q := fun q h => by rw [← hAe]; exact Or.inr h
  have hS : va_S A s.heap s.heap [] := va_S.rf
  have hP : va_P (dC, dI) vwCl [(qA, .inr (0, [.ref qA_ring, .ref qA_buffer, .int A_firstPlace, .int A_forcedPlace, .int A_endPlace, .int A_wordsToFailure, .int A_opened])), (qA_ring, .inl (cA_ring, 65536, .inl A_ring)), (qA_buffer, .inl (cA_buffer, 200, .inl A_buffer))] s.heap := hP
  generalize hQQ : vx_MQ below (va_Qi post (at_A dC dI A qA qA_ring qA_buffer cA_ring cA_buffer) A) (vx_X (fun u => px u.1 u.2) (atx_A dC dI A qA qA_ring qA_buffer cA_ring cA_buffer) A) args s 1 6 A = QQ
  have hl := lv_entry ([.ref qA]) (n := 2) (Nat.le_of_ble_eq_true rfl)
  rw [show entryFrame m args 2 = entryFrame m ([.ref qA] : List Value).toArray 2 by rw [hav], lg_entry_eq]
  generalize (lg_sl ([.ref qA]) ++ List.replicate (2 - (lg_sl ([.ref qA])).length) Slot.unset).toArray = ls at hl ⊢
  have hl : lv_has ls 2 [(0, .ref qA)] := hl
  unfold wp_X0_open at hw
  refine lv_aload_n hx hb dX0_open_0 rfl (lv_at hl 0 rfl) ?_
  refine va_get (D := (dC, dI)) (ci := 0) (v := .int A_opened) (C := RX0) (T := TX0) (N := 7) hx hb hbg in_X0 hown hK hP 0 rfl rfl 6 (by decide) (hbg _ kw_45) (fun _ h9 => h9) rfl dX0_open_1 ?_
  refine lv_if_eq (tgt := 17) hx hb dX0_open_4 (by decide) (fun c9 => ?_) (fun c9 => ?_)
  · have hw := hw.1 c9
    refine lv_aload_n hx hb dX0_open_17 rfl (lv_at hl 0 rfl) ?_
    have hFc := va_free (wc := [(qA, .inr (0, [.ref qA_ring, .ref qA_buffer, .int A_firstPlace, .int A_forcedPlace, .int A_endPlace, .int A_wordsToFailure, .int A_opened])), (qA_ring, .inl (cA_ring, 65536, .inl A_ring)), (qA_buffer, .inl (cA_buffer, 200, .inl A_buffer))]) hD hS hA [0, 1, 2] rfl
    refine va_callv (va_runV (As := []) (rest := []) ⟨hx, hb, hml, hown, hbg⟩ (met_X0_addVoidRest l dC dI qA qA_ring qA_buffer cA_ring cA_buffer s.heap.size A_ring A_buffer A_firstPlace A_forcedPlace A_endPlace A_wordsToFailure A_opened  _ hw) (cwV 0 hbg g_RX0_122 rfl rfl rfl (by decide +kernel) ⟨Nat.le_of_ble_eq_true rfl, Nat.le_of_ble_eq_true rfl⟩) ⟨pcW_A_b _ _ _ _ _ _ _ _ _ _ _ _ _ _ _ _, va_recv hK hP (ci := 0) (q0 := 0) rfl rfl, fun U hU hW => ⟨rfl, by rw [hU], by rw [hU]; exact hP, va_K.moved hW.alike hK, hD.weaken (fun _ _ _ _ => trivial)⟩⟩ rfl rfl hl.1 rfl (lv_room (Nat.le_of_ble_eq_true rfl)) dX0_open_18 ⟨Nat.le_of_ble_eq_true rfl, Nat.le_of_ble_eq_true rfl⟩) hS (fun q _ h => hFc q h) hFc (fun u_1 t_1 H_1 locs ht hvm hw hB hz1 hk1 hS => ?_)
    obtain ⟨A_ring_1, A_buffer_1, A_firstPlace_1, A_forcedPlace_1, A_endPlace_1, A_wordsToFailure_1, A_opened_1⟩ := u_1
    obtain ⟨hP1, hK1, hD1⟩ := hB
    rw [ht] at hP1
    try dsimp only at hw
    have hP : va_P (dC, dI) vwCl [(qA, .inr (0, [.ref qA_ring, .ref qA_buffer, .int A_firstPlace_1, .int A_forcedPlace_1, .int A_endPlace_1, .int A_wordsToFailure_1, .int A_opened_1])), (qA_ring, .inl (cA_ring, 65536, .inl A_ring_1)), (qA_buffer, .inl (cA_buffer, 200, .inl A_buffer_1))] H_1 := hP1
    have hD : va_D A [(qA, .inr (0, [.ref qA_ring, .ref qA_buffer, .int A_firstPlace_1, .int A_forcedPlace_1, .int A_endPlace_1, .int A_wordsToFailure_1, .int A_opened_1])), (qA_ring, .inl (cA_ring, 65536, .inl A_ring_1)), (qA_buffer, .inl (cA_buffer, 200, .inl A_buffer_1))] := hD1.weaken (fun _ _ _ h => hFc _ h)
    refine lv_aload_n hx hb dX0_open_21 rfl (lv_at hl 0 rfl) ?_
    refine lv_aload_n hx hb dX0_open_22 rfl (lv_at hl 0 rfl) ?_
    refine va_get (D := (dC, dI)) (ci := 0) (v := .int A_endPlace_1) (C := RX0) (T := TX0) (N := 7) hx hb hbg in_X0 hown hK hP 0 rfl rfl 4 (by decide) (hbg _ kw_12) (fun _ h9 => h9) rfl dX0_open_23 ?_
    have hFc := va_free (wc := [(qA, .inr (0, [.ref qA_ring, .ref qA_buffer, .int A_firstPlace_1, .int A_forcedPlace_1, .int A_endPlace_1, .int A_wordsToFailure_1, .int A_opened_1])), (qA_ring, .inl (cA_ring, 65536, .inl A_ring_1)), (qA_buffer, .inl (cA_buffer, 200, .inl A_buffer_1))]) hD hS hA [0, 1, 2] rfl
    refine va_calli (va_runV (As := [.int A_endPlace_1]) (rest := []) ⟨hx, hb, hml, hown, hbg⟩ (met_X0_writeUpTo l dC dI qA qA_ring qA_buffer cA_ring cA_buffer H_1.size A_ring_1 A_buffer_1 A_firstPlace_1 A_forcedPlace_1 A_endPlace_1 A_wordsToFailure_1 A_opened_1 A_endPlace_1 _ hw) (cwV 1 hbg g_RX0_77 rfl rfl rfl (by decide +kernel) ⟨Nat.le_of_ble_eq_true rfl, Nat.le_of_ble_eq_true rfl⟩) ⟨pcW_A_b _ _ _ _ _ _ _ _ _ _ _ _ _ _ _ _, va_recv hK hP (ci := 0) (q0 := 0) rfl rfl, fun U hU hW => ⟨rfl, by rw [hU], by rw [hU]; exact hP, va_K.moved hW.alike hK, hD.weaken (fun _ _ _ _ => trivial)⟩⟩ rfl rfl hl.1 rfl (lv_room (Nat.le_of_ble_eq_true rfl)) dX0_open_26 ⟨Nat.le_of_ble_eq_true rfl, Nat.le_of_ble_eq_true rfl⟩) hS (fun q _ h => hFc q h) hFc (fun r_2 u_2 t_2 H_2 locs ht hvm hw hB hz1 hk1 hS => ?_)
    obtain ⟨A_ring_2, A_buffer_2, A_firstPlace_2, A_forcedPlace_2, A_endPlace_2, A_wordsToFailure_2, A_opened_2⟩ := u_2
    obtain ⟨hP1, hK1, hD1⟩ := hB
    rw [ht] at hP1
    try dsimp only at hw
    have hP : va_P (dC, dI) vwCl [(qA, .inr (0, [.ref qA_ring, .ref qA_buffer, .int A_firstPlace_2, .int A_forcedPlace_2, .int A_endPlace_2, .int A_wordsToFailure_2, .int A_opened_2])), (qA_ring, .inl (cA_ring, 65536, .inl A_ring_2)), (qA_buffer, .inl (cA_buffer, 200, .inl A_buffer_2))] H_2 := hP1
    have hD : va_D A [(qA, .inr (0, [.ref qA_ring, .ref qA_buffer, .int A_firstPlace_2, .int A_forcedPlace_2, .int A_endPlace_2, .int A_wordsToFailure_2, .int A_opened_2])), (qA_ring, .inl (cA_ring, 65536, .inl A_ring_2)), (qA_buffer, .inl (cA_buffer, 200, .inl A_buffer_2))] := hD1.weaken (fun _ _ _ h => hFc _ h)
    refine lv_istore_n (lv' := [(1, .int r_2), (0, .ref qA)]) hx hb dX0_open_29 rfl hl (by decide) rfl (fun ls hl => ?_)
    refine lv_aload_n hx hb dX0_open_30 rfl (lv_at hl 1 rfl) ?_
    refine lv_iload_n hx hb dX0_open_31 rfl (lv_at hl 0 rfl) ?_
    refine lv_iconst (v := (-1 : Int32)) hx hb dX0_open_32 (by decide) ?_
    refine lv_icmp_eq (tgt := 40) hx hb dX0_open_33 (by decide) (fun c9 => ?_) (fun c9 => ?_)
    · have hw := hw.1 c9
      refine lv_iconst (v := (0 : Int32)) hx hb dX0_open_40 (by decide) ?_
      refine va_put (D := (dC, dI)) (ci := 0) (v := .int (0 : Int32)) (ty := .boolean) (C := RX0) (T := TX0) (N := 7) hx hb hbg in_X0 tyX0 tyX0_ok nmX0 hown hK hP hD hS 0 rfl rfl 6 (by decide) (hbg _ kw_45) (fun _ h9 => h9) rfl (by decide +kernel) rfl rfl (Nat.le_of_ble_eq_true rfl) dX0_open_41 (fun H_3 locs hP hD hS => ?_)
      have hP : va_P (dC, dI) vwCl [(qA, .inr (0, [.ref qA_ring, .ref qA_buffer, .int A_firstPlace_2, .int A_forcedPlace_2, .int A_endPlace_2, .int A_wordsToFailure_2, .int (0 : Int32)])), (qA_ring, .inl (cA_ring, 65536, .inl A_ring_2)), (qA_buffer, .inl (cA_buffer, 200, .inl A_buffer_2))] H_3 := hP
      have hD : va_D A [(qA, .inr (0, [.ref qA_ring, .ref qA_buffer, .int A_firstPlace_2, .int A_forcedPlace_2, .int A_endPlace_2, .int A_wordsToFailure_2, .int (0 : Int32)])), (qA_ring, .inl (cA_ring, 65536, .inl A_ring_2)), (qA_buffer, .inl (cA_buffer, 200, .inl A_buffer_2))] := hD
      refine lv_iload_n hx hb dX0_open_44 rfl (lv_at hl 0 rfl) ?_
      subst hQQ
      refine W.widen (k := 1) (n := 6) (Nat.le_of_ble_eq_true rfl) (Nat.le_of_ble_eq_true rfl) ?_
      refine vx_ret ?_
      exact W.iret (v := r_2) hx hb hr (fun t ht hW => ⟨⟨r_2, (A_ring_2, A_buffer_2, A_firstPlace_2, A_forcedPlace_2, A_endPlace_2, A_wordsToFailure_2, (0 : Int32)), rfl, hw, by rw [ht]; exact hP, va_K.moved hW.alike hK, hD⟩, hS.F ht⟩) hS.2.2 dX0_open_45
    · have hw := hw.2 c9
      refine lv_iconst (v := (1 : Int32)) hx hb dX0_open_36 (by decide) ?_
      refine lv_goto (tgt := 41) hx hb dX0_open_37 (by decide) ?_
      refine va_put (D := (dC, dI)) (ci := 0) (v := .int (1 : Int32)) (ty := .boolean) (C := RX0) (T := TX0) (N := 7) hx hb hbg in_X0 tyX0 tyX0_ok nmX0 hown hK hP hD hS 0 rfl rfl 6 (by decide) (hbg _ kw_45) (fun _ h9 => h9) rfl (by decide +kernel) rfl rfl (Nat.le_of_ble_eq_true rfl) dX0_open_41 (fun H_4 locs hP hD hS => ?_)
      have hP : va_P (dC, dI) vwCl [(qA, .inr (0, [.ref qA_ring, .ref qA_buffer, .int A_firstPlace_2, .int A_forcedPlace_2, .int A_endPlace_2, .int A_wordsToFailure_2, .int (1 : Int32)])), (qA_ring, .inl (cA_ring, 65536, .inl A_ring_2)), (qA_buffer, .inl (cA_buffer, 200, .inl A_buffer_2))] H_4 := hP
      have hD : va_D A [(qA, .inr (0, [.ref qA_ring, .ref qA_buffer, .int A_firstPlace_2, .int A_forcedPlace_2, .int A_endPlace_2, .int A_wordsToFailure_2, .int (1 : Int32)])), (qA_ring, .inl (cA_ring, 65536, .inl A_ring_2)), (qA_buffer, .inl (cA_buffer, 200, .inl A_buffer_2))] := hD
      refine lv_iload_n hx hb dX0_open_44 rfl (lv_at hl 0 rfl) ?_
      subst hQQ
      refine W.widen (k := 1) (n := 6) (Nat.le_of_ble_eq_true rfl) (Nat.le_of_ble_eq_true rfl) ?_
      refine vx_ret ?_
      exact W.iret (v := r_2) hx hb hr (fun t ht hW => ⟨⟨r_2, (A_ring_2, A_buffer_2, A_firstPlace_2, A_forcedPlace_2, A_endPlace_2, A_wordsToFailure_2, (1 : Int32)), rfl, hw, by rw [ht]; exact hP, va_K.moved hW.alike hK, hD⟩, hS.F ht⟩) hS.2.2 dX0_open_45
  · have hw := hw.2 c9
    subst hQQ
    obtain ⟨sa, hsa⟩ := hXW0.2.2.1 (RX0, 120, "the book is open") (by decide +kernel)
    exact vx_throwS (own := RX0) (cls := "java/lang/IllegalStateException") (names := ["java/lang/RuntimeException", "java/lang/Exception"]) hx hb hl9 hown (by decide +kernel) (by decide +kernel) (hbg _ kw_67) (hbg _ kw_68) hsa (vx_hat (L := vx_atS RX0 84 "java/lang/IllegalStateException" ["java/lang/RuntimeException", "java/lang/Exception"]) (B := [.castable "java/lang/IllegalStateException" "java/lang/IllegalStateException", .declares ⟨"java/lang/RuntimeException", "<init>", "(Ljava/lang/String;)V"⟩, .declares ⟨"java/lang/Exception", "<init>", "(Ljava/lang/String;)V"⟩, .declares ⟨"java/lang/Throwable", "<init>", "(Ljava/lang/String;)V"⟩]) (fun w hw => hbg w (xa_RX0_84 w hw)) (by decide +kernel) (vx_c (va_Nw.use rfl (hXW0.1 "java/lang/IllegalStateException" (by decide))) (vx_c (va_Nw.use rfl (hXW0.2.1 "java/lang/RuntimeException" (by decide))) (vx_c (va_Nw.use rfl (hXW0.2.1 "java/lang/Exception" (by decide))) (vx_c (va_Nw.use rfl (hXW0.2.1 "java/lang/Throwable" (by decide))) (vx_n)))))) (by decide +kernel) hXW0.2.2.2.2.1 hXW0.2.2.2.2.2 hS (hl.1.trans hml.symm) dX0_open_7 dX0_open_10 dX0_open_11 dX0_open_13 dX0_open_16 (fun x hx => (hEx x hx).elim) (Nat.le_of_ble_eq_true rfl) (Nat.le_of_ble_eq_true rfl) (Nat.le_of_ble_eq_true rfl) (Nat.le_of_ble_eq_true rfl) hlocks (fun t ha hsz hk => ⟨("java/lang/IllegalStateException", (A_ring, A_buffer, A_firstPlace, A_forcedPlace, A_endPlace, A_wordsToFailure, A_opened)), hw, ⟨rfl, hP.kept (fun k q hq => hk q.1 (hP k q hq).lt), va_K.moved ha hK, hD⟩, Nat.le_trans hS.1 hsz, fun q h1 h2 => (hk q (Nat.lt_of_lt_of_le h1 hS.1)).trans (hS.2.1 q h1 h2)⟩) hS.2.2 (Nat.le_of_ble_eq_true rfl) (Nat.le_of_ble_eq_true rfl)
end
