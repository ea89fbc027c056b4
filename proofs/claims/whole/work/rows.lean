section
-- ===== PART A: goes FIRST, ahead of the names: the tables' words, and 'selects' of the private methods out of them =====
/-- a private method of a class that the tables say can be made, by its rows of tables_1 -/
def lw_okq (q : MethodName × Nat) : Prop := (q.1.cls ≠ "java/lang/invoke/MethodHandle" ∧ q.1.cls ≠ "java/lang/invoke/VarHandle") ∧ Cond.instantiable q.1.cls q.2 ∈ tables_1 ∧ Cond.privateMethod q.1 ∈ tables_1 ∧ Cond.instanceMethod q.1 ∈ tables_1
theorem lw_p0 : lw_okq (⟨"LogBroker", "openTransactions", "()I"⟩, 11) := ⟨⟨by decide +kernel, by decide +kernel⟩, List.mem_of_getElem? (i := 19) (by decide +kernel), List.mem_of_getElem? (i := 121) (by decide +kernel), List.mem_of_getElem? (i := 122) (by decide +kernel)⟩
theorem lw_p1 : lw_okq (⟨"java/lang/Throwable", "fillInStackTrace", "(I)Ljava/lang/Throwable;"⟩, 6) := ⟨⟨by decide +kernel, by decide +kernel⟩, List.mem_of_getElem? (i := 177) (by decide +kernel), List.mem_of_getElem? (i := 175) (by decide +kernel), List.mem_of_getElem? (i := 176) (by decide +kernel)⟩
theorem lw_p2 : lw_okq (⟨"LogBroker", "abortOpenTransactionOf", "(I)V"⟩, 11) := ⟨⟨by decide +kernel, by decide +kernel⟩, List.mem_of_getElem? (i := 19) (by decide +kernel), List.mem_of_getElem? (i := 273) (by decide +kernel), List.mem_of_getElem? (i := 274) (by decide +kernel)⟩
theorem lw_p3 : lw_okq (⟨"LogBroker", "mustHaveRoomForMarkers", "(I)V"⟩, 11) := ⟨⟨by decide +kernel, by decide +kernel⟩, List.mem_of_getElem? (i := 19) (by decide +kernel), List.mem_of_getElem? (i := 277) (by decide +kernel), List.mem_of_getElem? (i := 278) (by decide +kernel)⟩
theorem lw_p4 : lw_okq (⟨"LogBroker", "awaitsMarker", "(II)Z"⟩, 11) := ⟨⟨by decide +kernel, by decide +kernel⟩, List.mem_of_getElem? (i := 19) (by decide +kernel), List.mem_of_getElem? (i := 281) (by decide +kernel), List.mem_of_getElem? (i := 282) (by decide +kernel)⟩
theorem lw_p5 : lw_okq (⟨"LogBroker", "decide", "(LLogBroker$Session;Z)I"⟩, 11) := ⟨⟨by decide +kernel, by decide +kernel⟩, List.mem_of_getElem? (i := 19) (by decide +kernel), List.mem_of_getElem? (i := 313) (by decide +kernel), List.mem_of_getElem? (i := 314) (by decide +kernel)⟩
theorem lw_p6 : lw_okq (⟨"LogBroker", "write", "(LLogBroker$Log;LLogBroker$Entry;)I"⟩, 11) := ⟨⟨by decide +kernel, by decide +kernel⟩, List.mem_of_getElem? (i := 19) (by decide +kernel), List.mem_of_getElem? (i := 347) (by decide +kernel), List.mem_of_getElem? (i := 348) (by decide +kernel)⟩
theorem lw_p7 : lw_okq (⟨"LogBroker", "isCurrent", "(I)Z"⟩, 11) := ⟨⟨by decide +kernel, by decide +kernel⟩, List.mem_of_getElem? (i := 19) (by decide +kernel), List.mem_of_getElem? (i := 371) (by decide +kernel), List.mem_of_getElem? (i := 372) (by decide +kernel)⟩
theorem lw_p8 : lw_okq (⟨"LogBroker", "logAt", "(I)LLogBroker$Log;"⟩, 11) := ⟨⟨by decide +kernel, by decide +kernel⟩, List.mem_of_getElem? (i := 19) (by decide +kernel), List.mem_of_getElem? (i := 388) (by decide +kernel), List.mem_of_getElem? (i := 389) (by decide +kernel)⟩
theorem lw_p9 : lw_okq (⟨"LogBroker", "openedSession", "(I)LLogBroker$Session;"⟩, 11) := ⟨⟨by decide +kernel, by decide +kernel⟩, List.mem_of_getElem? (i := 19) (by decide +kernel), List.mem_of_getElem? (i := 394) (by decide +kernel), List.mem_of_getElem? (i := 395) (by decide +kernel)⟩
theorem lw_p10 : lw_okq (⟨"LogBroker", "mustBeCurrent", "(I)V"⟩, 11) := ⟨⟨by decide +kernel, by decide +kernel⟩, List.mem_of_getElem? (i := 19) (by decide +kernel), List.mem_of_getElem? (i := 423) (by decide +kernel), List.mem_of_getElem? (i := 424) (by decide +kernel)⟩
theorem lw_p11 : lw_okq (⟨"LogBrokerModel", "badSession", "(I)Z"⟩, 28) := ⟨⟨by decide +kernel, by decide +kernel⟩, List.mem_of_getElem? (i := 582) (by decide +kernel), List.mem_of_getElem? (i := 686) (by decide +kernel), List.mem_of_getElem? (i := 687) (by decide +kernel)⟩
theorem lw_p12 : lw_okq (⟨"LogBrokerModel", "roomToEnd", "(I)Z"⟩, 28) := ⟨⟨by decide +kernel, by decide +kernel⟩, List.mem_of_getElem? (i := 582) (by decide +kernel), List.mem_of_getElem? (i := 690) (by decide +kernel), List.mem_of_getElem? (i := 691) (by decide +kernel)⟩
theorem lw_p13 : lw_okq (⟨"LogBrokerModel", "takesPart", "(II)Z"⟩, 28) := ⟨⟨by decide +kernel, by decide +kernel⟩, List.mem_of_getElem? (i := 582) (by decide +kernel), List.mem_of_getElem? (i := 694) (by decide +kernel), List.mem_of_getElem? (i := 695) (by decide +kernel)⟩
theorem lw_p14 : lw_okq (⟨"LogBrokerModel", "finish", "(IZ)I"⟩, 28) := ⟨⟨by decide +kernel, by decide +kernel⟩, List.mem_of_getElem? (i := 582) (by decide +kernel), List.mem_of_getElem? (i := 698) (by decide +kernel), List.mem_of_getElem? (i := 699) (by decide +kernel)⟩
theorem lw_p15 : lw_okq (⟨"LogBrokerModel", "write", "(IIIII)I"⟩, 28) := ⟨⟨by decide +kernel, by decide +kernel⟩, List.mem_of_getElem? (i := 582) (by decide +kernel), List.mem_of_getElem? (i := 702) (by decide +kernel), List.mem_of_getElem? (i := 703) (by decide +kernel)⟩
def lw_privs_1 : List (MethodName × Nat) := [(⟨"LogBroker", "openTransactions", "()I"⟩, 11), (⟨"java/lang/Throwable", "fillInStackTrace", "(I)Ljava/lang/Throwable;"⟩, 6), (⟨"LogBroker", "abortOpenTransactionOf", "(I)V"⟩, 11), (⟨"LogBroker", "mustHaveRoomForMarkers", "(I)V"⟩, 11), (⟨"LogBroker", "awaitsMarker", "(II)Z"⟩, 11), (⟨"LogBroker", "decide", "(LLogBroker$Session;Z)I"⟩, 11), (⟨"LogBroker", "write", "(LLogBroker$Log;LLogBroker$Entry;)I"⟩, 11), (⟨"LogBroker", "isCurrent", "(I)Z"⟩, 11), (⟨"LogBroker", "logAt", "(I)LLogBroker$Log;"⟩, 11), (⟨"LogBroker", "openedSession", "(I)LLogBroker$Session;"⟩, 11), (⟨"LogBroker", "mustBeCurrent", "(I)V"⟩, 11), (⟨"LogBrokerModel", "badSession", "(I)Z"⟩, 28), (⟨"LogBrokerModel", "roomToEnd", "(I)Z"⟩, 28), (⟨"LogBrokerModel", "takesPart", "(II)Z"⟩, 28), (⟨"LogBrokerModel", "finish", "(IZ)I"⟩, 28), (⟨"LogBrokerModel", "write", "(IIIII)I"⟩, 28)]
theorem lw_r1 : ∀ q ∈ lw_privs_1, lw_okq q := List.forall_mem_cons.mpr ⟨lw_p0, List.forall_mem_cons.mpr ⟨lw_p1, List.forall_mem_cons.mpr ⟨lw_p2, List.forall_mem_cons.mpr ⟨lw_p3, List.forall_mem_cons.mpr ⟨lw_p4, List.forall_mem_cons.mpr ⟨lw_p5, List.forall_mem_cons.mpr ⟨lw_p6, List.forall_mem_cons.mpr ⟨lw_p7, List.forall_mem_cons.mpr ⟨lw_p8, List.forall_mem_cons.mpr ⟨lw_p9, List.forall_mem_cons.mpr ⟨lw_p10, List.forall_mem_cons.mpr ⟨lw_p11, List.forall_mem_cons.mpr ⟨lw_p12, List.forall_mem_cons.mpr ⟨lw_p13, List.forall_mem_cons.mpr ⟨lw_p14, List.forall_mem_cons.mpr ⟨lw_p15, fun _ h => absurd h List.not_mem_nil⟩⟩⟩⟩⟩⟩⟩⟩⟩⟩⟩⟩⟩⟩⟩⟩
theorem lw_p16 : lw_okq (⟨"LogBrokerModel", "shorten", "(I)V"⟩, 28) := ⟨⟨by decide +kernel, by decide +kernel⟩, List.mem_of_getElem? (i := 582) (by decide +kernel), List.mem_of_getElem? (i := 706) (by decide +kernel), List.mem_of_getElem? (i := 707) (by decide +kernel)⟩
theorem lw_p17 : lw_okq (⟨"LogBrokerModel", "closed", "(I)I"⟩, 28) := ⟨⟨by decide +kernel, by decide +kernel⟩, List.mem_of_getElem? (i := 582) (by decide +kernel), List.mem_of_getElem? (i := 710) (by decide +kernel), List.mem_of_getElem? (i := 711) (by decide +kernel)⟩
theorem lw_p18 : lw_okq (⟨"LogBrokerModel", "openBase", "(I)I"⟩, 28) := ⟨⟨by decide +kernel, by decide +kernel⟩, List.mem_of_getElem? (i := 582) (by decide +kernel), List.mem_of_getElem? (i := 714) (by decide +kernel), List.mem_of_getElem? (i := 715) (by decide +kernel)⟩
theorem lw_p19 : lw_okq (⟨"LogBrokerModel", "stable", "(I)I"⟩, 28) := ⟨⟨by decide +kernel, by decide +kernel⟩, List.mem_of_getElem? (i := 582) (by decide +kernel), List.mem_of_getElem? (i := 718) (by decide +kernel), List.mem_of_getElem? (i := 719) (by decide +kernel)⟩
theorem lw_p20 : lw_okq (⟨"LogBrokerModel", "badLog", "(I)Z"⟩, 28) := ⟨⟨by decide +kernel, by decide +kernel⟩, List.mem_of_getElem? (i := 582) (by decide +kernel), List.mem_of_getElem? (i := 726) (by decide +kernel), List.mem_of_getElem? (i := 727) (by decide +kernel)⟩
theorem lw_p21 : lw_okq (⟨"LogBrokerModel", "fenced", "(I)Z"⟩, 28) := ⟨⟨by decide +kernel, by decide +kernel⟩, List.mem_of_getElem? (i := 582) (by decide +kernel), List.mem_of_getElem? (i := 730) (by decide +kernel), List.mem_of_getElem? (i := 731) (by decide +kernel)⟩
theorem lw_p22 : lw_okq (⟨"LogBrokerModel", "search", "(IIZ)I"⟩, 28) := ⟨⟨by decide +kernel, by decide +kernel⟩, List.mem_of_getElem? (i := 582) (by decide +kernel), List.mem_of_getElem? (i := 746) (by decide +kernel), List.mem_of_getElem? (i := 747) (by decide +kernel)⟩
theorem lw_p23 : lw_okq (⟨"LogBrokerModel", "newer", "(III)Z"⟩, 28) := ⟨⟨by decide +kernel, by decide +kernel⟩, List.mem_of_getElem? (i := 582) (by decide +kernel), List.mem_of_getElem? (i := 758) (by decide +kernel), List.mem_of_getElem? (i := 759) (by decide +kernel)⟩
theorem lw_p24 : lw_okq (⟨"LogBrokerModel", "badMember", "(II)Z"⟩, 28) := ⟨⟨by decide +kernel, by decide +kernel⟩, List.mem_of_getElem? (i := 582) (by decide +kernel), List.mem_of_getElem? (i := 766) (by decide +kernel), List.mem_of_getElem? (i := 767) (by decide +kernel)⟩
theorem lw_p25 : lw_okq (⟨"LogBrokerModel", "change", "(I)I"⟩, 28) := ⟨⟨by decide +kernel, by decide +kernel⟩, List.mem_of_getElem? (i := 582) (by decide +kernel), List.mem_of_getElem? (i := 770) (by decide +kernel), List.mem_of_getElem? (i := 771) (by decide +kernel)⟩
theorem lw_p26 : lw_okq (⟨"LogBrokerModel", "whose", "(II)I"⟩, 28) := ⟨⟨by decide +kernel, by decide +kernel⟩, List.mem_of_getElem? (i := 582) (by decide +kernel), List.mem_of_getElem? (i := 782) (by decide +kernel), List.mem_of_getElem? (i := 783) (by decide +kernel)⟩
def lw_privs_2 : List (MethodName × Nat) := [(⟨"LogBrokerModel", "shorten", "(I)V"⟩, 28), (⟨"LogBrokerModel", "closed", "(I)I"⟩, 28), (⟨"LogBrokerModel", "openBase", "(I)I"⟩, 28), (⟨"LogBrokerModel", "stable", "(I)I"⟩, 28), (⟨"LogBrokerModel", "badLog", "(I)Z"⟩, 28), (⟨"LogBrokerModel", "fenced", "(I)Z"⟩, 28), (⟨"LogBrokerModel", "search", "(IIZ)I"⟩, 28), (⟨"LogBrokerModel", "newer", "(III)Z"⟩, 28), (⟨"LogBrokerModel", "badMember", "(II)Z"⟩, 28), (⟨"LogBrokerModel", "change", "(I)I"⟩, 28), (⟨"LogBrokerModel", "whose", "(II)I"⟩, 28)]
theorem lw_r2 : ∀ q ∈ lw_privs_2, lw_okq q := List.forall_mem_cons.mpr ⟨lw_p16, List.forall_mem_cons.mpr ⟨lw_p17, List.forall_mem_cons.mpr ⟨lw_p18, List.forall_mem_cons.mpr ⟨lw_p19, List.forall_mem_cons.mpr ⟨lw_p20, List.forall_mem_cons.mpr ⟨lw_p21, List.forall_mem_cons.mpr ⟨lw_p22, List.forall_mem_cons.mpr ⟨lw_p23, List.forall_mem_cons.mpr ⟨lw_p24, List.forall_mem_cons.mpr ⟨lw_p25, List.forall_mem_cons.mpr ⟨lw_p26, fun _ h => absurd h List.not_mem_nil⟩⟩⟩⟩⟩⟩⟩⟩⟩⟩⟩
def lw_privs : List (MethodName × Nat) := lw_privs_1 ++ (lw_privs_2)
def lw_tbl : List Cond := k2_sels lw_privs ++ tables_1
theorem lw_privs_ok : ∀ q ∈ lw_privs, lw_okq q := by
  show ∀ q ∈ lw_privs_1 ++ (lw_privs_2), lw_okq q
  exact List.forall_mem_append.mpr ⟨lw_r1, lw_r2⟩
end
section
/-! ===== BEGIN words of one list among another's, by their places ===== -/
theorem goodIn_r {big : List Cond} (ws : List Cond) (ps : List Nat) (hp : ws = ps.filterMap (fun i => big[i]?)) (h : ws.all goodWord = true) : GoodIn big ws := by
  intro w hw
  have h1 := List.all_eq_true.mp h w hw
  rw [hp] at hw
  obtain ⟨i, -, hi⟩ := List.mem_filterMap.mp hw
  have hm : w ∈ big := by first | exact List.mem_of_getElem? hi | exact List.getElem?_mem hi
  exact ⟨hm, good_of_word h1⟩
theorem goodIn_app {big a b : List Cond} (ha : GoodIn big a) (hb : GoodIn big b) : GoodIn big (a ++ b) := fun w h => (List.mem_append.mp h).elim (ha w) (hb w)
theorem goodIn_ca {big a b : List Cond} {c : Cond} (ha : GoodIn big (c :: a)) (hb : GoodIn big b) : GoodIn big (c :: (a ++ b)) := fun w h => (List.mem_cons.mp h).elim (fun e => ha w (List.mem_cons.mpr (Or.inl e))) (fun h => (List.mem_append.mp h).elim (fun h => ha w (List.mem_cons.mpr (Or.inr h))) (hb w))
theorem goodIn_sub {big ws : List Cond} (hm : ∀ w ∈ ws, w ∈ big) (h : ws.all goodWord = true) : GoodIn big ws := fun w hw => ⟨hm w hw, good_of_word (List.all_eq_true.mp h w hw)⟩
/-! ===== END ===== -/

/-! ===== BEGIN exceptions that leave a method, and their catching by the caller (launches without stack traces) ===== -/
section VXA
/-! The laws vx_back, vx_callV, vx_callS, vx_callSW, vx_throw0, vx_throwS follow proofs of the library, with one case more: JvmDerived/Free/Laws.lean (Back.of_free), Shelf42/LK1.lean (callV, callS), Shelf/KitTraced.lean (throwNew0V, throwNewS). -/
/-- where a method has thrown q: the class by its name, the cell, what was written, the world -/
def vx_T (XC : String → State → State → Prop) (st : State) (q : Addr) (t : State) (mc ms : Nat) (free : Addr → Prop) : Prop :=
  ∃ (E : String) (ce : Cell) (L : List Loc), XC E st t ∧ t.heap[q]? = some ce ∧ ce.vm = .none ∧ st.vm.findClass E = some ce.cls ∧ st.WarmedH t.vm ∧ st.sameButNew ({ t with vm := st.vm } : State) L mc ms ∧ ∀ z ∈ L, free z.base
def vx_Q (Qc : Array Value → State → Outcome → State → Prop) (XC : String → State → State → Prop) (mc ms : Nat) (free : Addr → Prop) : Array Value → State → Outcome → State → Prop := fun a st o t =>
  (Qc a st o t ∧ ∃ L, FrameEnd st o t L mc ms ∧ ∀ q ∈ L, free q.base) ∨ ∃ q, o = .threw q ∧ vx_T XC st q t mc ms free
/-- a callee that returns or throws -/
def vx_Met (l : Launch) (y : MethodName) (ws : List Cond) (rm : Room) (Pc : Array Value → State → Prop) (Qc : Array Value → State → Outcome → State → Prop) (XC : String → State → State → Prop) (mc ms : Nat) (free : Addr → Prop) : Prop :=
  MetFree l y (headSpec ws rm) Pc (fun _ _ _ _ _ => True) (vx_Q Qc XC mc ms free)
def vx_Post (XC : String → State → State → Prop) (mc ms : Nat) (free : Addr → Prop) : Pt → Array Value → Addr → Pt → Prop := fun A a q B =>
  ∃ (g : JFrame) (mk : MethodId) (t : State) (L : List Loc) (E : String) (ce : Cell), B.U.heap = t.heap ∧ B.U.vm = t.vm ∧ XC E (A.U.calling g mk a) t ∧ t.heap[q]? = some ce ∧ ce.vm = .none ∧ A.U.vm.findClass E = some ce.cls ∧ B.locs = A.locs ++ L ∧ (∀ z ∈ L, free z.base) ∧ B.cells = A.cells + mc ∧ B.slots = A.slots + ms
def vx_Back (l : Launch) (R : Room) (p : Program) (e : Env) (below : List Frame) (s : State) (sargs : Array Value) (y : MethodName) (len W9 : Nat)
    (Pre : Pt → Array Value → Prop) (Post : Pt → Array Value → Option Value → Pt → Prop) (PostX : Pt → Array Value → Addr → Pt → Prop) : Prop :=
  ∀ (m : MethodId) (meth : Method) (c : Code) (A : Pt) (g : JFrame) (ig : Instr) (mk : MethodId) (a : Array Value),
    Stand p l e R s m sargs below meth c A.U A.locs A.cells A.slots → g.method = m → g.locals.size = c.maxLocals → decode c.code g.pc = .ok (ig, len) →
    2 * g.monitorRoom + (g.stack.map fun v => v.category).sum ≤ W9 → A.U.methodNamed? y = some mk → Pre A a →
    (∃ (v : Option Value) (B : Pt), Stand p l e R s m sargs below meth c B.U B.locs B.cells B.slots ∧ Post A a v B ∧
      Steps p.tables e below (doInvoke e (A.U.setTop g) [] mk a).1 (B.U.setTop { g with pc := g.pc + len, stack := v.toList ++ g.stack })) ∨
    (∃ (q : Addr) (B : Pt), Stand p l e R s m sargs below meth c B.U B.locs B.cells B.slots ∧ PostX A a q B ∧
      Steps p.tables e below (doInvoke e (A.U.setTop g) [] mk a).1 ((B.U.setTop g).pushFrame (.throwing q)))
section Payer
variable {l : Launch} {R : Room} {p : Program} {e : Env} {below : List Frame} {s : State} {sargs : Array Value} {y : MethodName} {len W9 : Nat}
theorem vx_back {ws : List Cond} {rm : Room} {Pc : Array Value → State → Prop} {Qc : Array Value → State → Outcome → State → Prop} {XC : String → State → State → Prop} {mc ms : Nat} {free : Addr → Prop} {bytes : ByteArray} {maxL : Nat} {ret : Option FieldType}
    (hM : vx_Met l y ws rm Pc Qc XC mc ms free) (hblind : FrameBlind Pc) (hrc : rm.cells = mc) (hrs : rm.slots = ms)
    (hframes : rm.frames + 1 ≤ R.frames) (hlocals : W9 + (maxL + 11) + rm.locals ≤ R.locals)
    (hws : ∀ w ∈ ws, ∀ a' U, s.WarmedH U.vm → w.before a' U = true) (hcode : Cond.code y bytes maxL ret ∈ ws) (hinit : ∀ a' U, s.WarmedH U.vm → (Cond.initialized y.cls).before a' U = true) :
    vx_Back l R p e below s sargs y len W9 (PreOf R mc ms Pc) (PostOf Qc mc ms free) (vx_Post XC mc ms free) := by
  intro m meth c A g ig mk a X hg hsize hdg hW hn hp
  have h1 : (headSpec ws rm).pre.before a A.U = true := atoms_intro fun w hw => hws w hw _ _ X.warmed
  have h2 : (Cond.code y bytes maxL ret).before a A.U = true := hws _ hcode _ _ X.warmed
  have h3 : (Cond.initialized y.cls).before a A.U = true := hinit _ _ X.warmed
  have h4 : A.cells + (headSpec ws rm).room.cells ≤ R.cells := by rw [show (headSpec ws rm).room.cells = mc from hrc]; exact hp.1
  have h5 : A.slots + (headSpec ws rm).room.slots ≤ R.slots := by rw [show (headSpec ws rm).room.slots = ms from hrs]; exact hp.2.1
  have hPc : Pc a (A.U.calling g mk a) := hblind _ _ _ _ hp.2.2
  obtain ⟨U, Ls, c0, s0⟩ := A
  dsimp only [Pt.U, Pt.locs, Pt.cells, Pt.slots] at h1 h2 h3 h4 h5 X hn hPc ⊢
  obtain ⟨methY, cY, hmY, hcY, -, hlY, -, -, -, -⟩ := Cond.code_spec hn h2
  obtain ⟨kY, hkY, -⟩ := className_of_methodNamed hn
  have hinitY : kY.init = .initialized := Cond.initialized_spec (findClass_of_methodNamed hn) hkY h3
  have h : At U g.method c below := by rw [hg]; exact X.here
  have hlocals9 : W9 + (maxL + 11) + (headSpec ws rm).room.locals ≤ R.locals := hlocals
  have happ : (headSpec ws rm).appliesLoose y e.platform (U.calling g mk a) = true :=
    Spec.appliesLoose_calling (g := g) h hdg hn hkY hinitY
      (X.room_calling (g := g) (R' := (headSpec ws rm).room) hsize hmY hcY hframes (by rw [hlY]; omega) h4 h5) h1
  obtain ⟨mid, hmid⟩ := h.above
  have hfr : (U.setTop g).frames = (.java g :: mid) ++ below := by rw [State.frames_setTop' g h.top, hmid]; rfl
  obtain ⟨o, s₂, hsteps, -, hend, hq⟩ := Steps.callFree hM p X.admits X.cas X.clock (acts := []) hfr happ hPc trivial
  have hq' : vx_Q Qc XC mc ms free a (U.calling g mk a) o s₂ := hq
  rw [State.frames_setTop' g h.top] at hend
  obtain ⟨g₀, hg0⟩ := Option.isSome_iff_exists.mp h.top
  obtain ⟨r, hr⟩ := State.topJava?_eq_some.mp hg0
  have hr' : (({ U with heap := s₂.heap, slotsUsed := s₂.slotsUsed } : State).setVm s₂.vm).frames = .java g₀ :: r := hr
  rcases hq' with ⟨hqc, L, hfe, hL⟩ | ⟨q, rfl, E, ce, L, hx, hce, hcv, hcl, hW₂, hsm, hL⟩
  · obtain ⟨⟨v, rfl⟩, hW₂, e2, q2, q3, q4, q5, q6⟩ := id hfe
    have e3 : s₂ = ({ (U.calling g mk a).setFrames s₂.frames with heap := s₂.heap, slotsUsed := s₂.slotsUsed } : State).setVm s₂.vm := by
      have : s₂ = ({ s₂ with vm := (U.calling g mk a).vm } : State).setVm s₂.vm := rfl
      rw [e2] at this
      exact this
    obtain ⟨c₂, i₂, len₂, hc₂, hd₂, hf₂⟩ := hend
    have hW' : U.WarmedH s₂.vm := hW₂
    have hcc : c₂ = c := by
      have h1 : s₂.code? g.method = U.code? g.method := by
        rw [State.code?_eq, State.code?_eq, hW'.alike.method?]
      exact Option.some.inj (hc₂.symm.trans (h1.trans h.code))
    subst hcc
    have hlen : len₂ = len := by rw [hdg] at hd₂; cases hd₂; rfl
    subst hlen
    have hs₂ : s₂ = (({ U with heap := s₂.heap, slotsUsed := s₂.slotsUsed } : State).setVm s₂.vm).setTop { g with pc := g.pc + len₂, stack := v.toList ++ g.stack } := by
      refine e3.trans ?_
      rw [hf₂, State.calling_eq h.top, State.setFrames_setFrames, State.setTop_of_frames _ hr', hr]
      rfl
    have hsame : U.sameButNew ({ U with heap := s₂.heap, slotsUsed := s₂.slotsUsed } : State) L mc ms := by
      refine ⟨?_, q2, q3, q4, q5, q6⟩
      obtain ⟨t, ht, -⟩ := State.frames_cons hr
      show ({ U with heap := s₂.heap, slotsUsed := s₂.slotsUsed } : State) = { U.setFrames U.frames with heap := s₂.heap, slotsUsed := s₂.slotsUsed }
      rw [State.setFrames_self ht]
    subst hg
    refine Or.inl ⟨v, ⟨(({ U with heap := s₂.heap, slotsUsed := s₂.slotsUsed } : State).setVm s₂.vm), Ls ++ L, c0 + mc, s0 + ms⟩,
      ⟨X.admits, X.cas, X.clock, X.frames, X.room, X.hears, X.method, X.code, (X.here.setHeapUsed s₂.heap s₂.slotsUsed).setVm hW'.alike, X.tail, State.WarmedH.trans X.warmed hW', X.limits, X.bytes, X.same.trans (hsame.setVm s.vm)⟩,
      ⟨g, mk, s₂, L, rfl, rfl, hqc, rfl, hL, rfl, rfl⟩, ?_⟩
    show Steps p.tables e below _ ((({ U with heap := s₂.heap, slotsUsed := s₂.slotsUsed } : State).setVm s₂.vm).setTop { g with pc := g.pc + len₂, stack := v.toList ++ g.stack })
    rw [← hs₂]
    exact hsteps
  · obtain ⟨e2, q2, q3, q4, q5, q6⟩ := id hsm
    have e3 : s₂ = ({ (U.calling g mk a).setFrames s₂.frames with heap := s₂.heap, slotsUsed := s₂.slotsUsed } : State).setVm s₂.vm := by
      have : s₂ = ({ s₂ with vm := (U.calling g mk a).vm } : State).setVm s₂.vm := rfl
      rw [e2] at this
      exact this
    have hf₂ : s₂.frames = .throwing q :: .java g :: U.frames.tail := hend
    have hW' : U.WarmedH s₂.vm := hW₂
    have hs₂ : s₂ = ((({ U with heap := s₂.heap, slotsUsed := s₂.slotsUsed } : State).setVm s₂.vm).setTop g).pushFrame (.throwing q) := by
      refine e3.trans ?_
      rw [hf₂, State.calling_eq h.top, State.setFrames_setFrames, State.pushFrame, State.frames_setTop _ hr', State.setTop_of_frames _ hr', State.setFrames_setFrames, hr]
      rfl
    have hsame : U.sameButNew ({ U with heap := s₂.heap, slotsUsed := s₂.slotsUsed } : State) L mc ms := by
      refine ⟨?_, q2, q3, q4, q5, q6⟩
      obtain ⟨t, ht, -⟩ := State.frames_cons hr
      show ({ U with heap := s₂.heap, slotsUsed := s₂.slotsUsed } : State) = { U.setFrames U.frames with heap := s₂.heap, slotsUsed := s₂.slotsUsed }
      rw [State.setFrames_self ht]
    subst hg
    refine Or.inr ⟨q, ⟨(({ U with heap := s₂.heap, slotsUsed := s₂.slotsUsed } : State).setVm s₂.vm), Ls ++ L, c0 + mc, s0 + ms⟩,
      ⟨X.admits, X.cas, X.clock, X.frames, X.room, X.hears, X.method, X.code, (X.here.setHeapUsed s₂.heap s₂.slotsUsed).setVm hW'.alike, X.tail, State.WarmedH.trans X.warmed hW', X.limits, X.bytes, X.same.trans (hsame.setVm s.vm)⟩,
      ⟨g, mk, s₂, L, E, ce, rfl, rfl, hx, hce, hcv, hcl, rfl, hL, rfl, rfl⟩, ?_⟩
    show Steps p.tables e below _ (((({ U with heap := s₂.heap, slotsUsed := s₂.slotsUsed } : State).setVm s₂.vm).setTop g).pushFrame (.throwing q))
    rw [← hs₂]
    exact hsteps
end Payer
section Calls
variable {p : Program} {l : Launch} {e : Env} {R : Room} {s : State} {m : MethodId} {args : Array Value} {below : List Frame} {meth : Method} {c : Code} {T : State} {locs : List Loc} {cells slots : Nat}
theorem vx_callV (X : Stand p l e R s m args below meth c T locs cells slots) (hexec : p.tables.exec = Jvm.exec) {own C : String} {index : Nat} {y : MethodName} {bytes : ByteArray} {maxL : Nat} {ret : Option FieldType}
    (hown : s.vm.findClass own = some m.cls) (hlink : (Cond.methodLink own index y).before args s = true) (hinst : (Cond.instanceMethod y).before args s = true) (hsel : (Cond.selects C y y).before args s = true)
    (hcode : (Cond.code y bytes maxL ret).before args s = true) (hy : y.cls ≠ "java/lang/invoke/MethodHandle" ∧ y.cls ≠ "java/lang/invoke/VarHandle")
    {W9 : Nat} {Pre : Pt → Array Value → Prop} {Post : Pt → Array Value → Option Value → Pt → Prop} {PostX : Pt → Array Value → Addr → Pt → Prop} (hK : vx_Back l R p e below s args y 3 W9 Pre Post PostX)
    {b : Addr} {cellB : Cell} (hcell : T.heap[b]? = some cellB) (hobj : cellB.vm.isStatics = false) (hcls : s.vm.findClass C = some cellB.cls)
    {g : JFrame} (hg : g.method = m) (hsize : g.locals.size = c.maxLocals) {argsL rest : List Value} (hlen : ∀ sig, parseMethodDescriptor y.desc = some sig → argsL.length = sig.parameters.length)
    (hstack : g.stack = argsL.reverse ++ .ref b :: rest) (hW : 2 * g.monitorRoom + (rest.map fun v => v.category).sum ≤ W9) (hdg : decode c.code g.pc = .ok (.invokevirtual index, 3))
    (hpre : ∀ vm₁, s.WarmedH vm₁ → Pre ⟨T.setVm vm₁, locs, cells, slots⟩ (Value.ref b :: argsL).toArray) :
    (∃ (v : Option Value) (vm₁ : Vm) (B : Pt), s.WarmedH vm₁ ∧ Stand p l e R s m args below meth c B.U B.locs B.cells B.slots ∧ Post ⟨T.setVm vm₁, locs, cells, slots⟩ (Value.ref b :: argsL).toArray v B ∧
      ∀ target, Steps p.tables e below (B.U.setTop { g with pc := g.pc + 3, stack := v.toList ++ rest }) target → Steps p.tables e below (T.setTop g) target) ∨
    (∃ (q : Addr) (vm₁ : Vm) (B : Pt), s.WarmedH vm₁ ∧ Stand p l e R s m args below meth c B.U B.locs B.cells B.slots ∧ PostX ⟨T.setVm vm₁, locs, cells, slots⟩ (Value.ref b :: argsL).toArray q B ∧
      Steps p.tables e below (T.setTop g) ((B.U.setTop { g with stack := rest }).pushFrame (.throwing q))) := by
  obtain ⟨mk, methM, hnamed, hmethM, hstM, habM⟩ := Cond.instanceMethod_spec hinst
  obtain ⟨methM', cM, hmethM', -, -, -, -, -, -, hsigM⟩ := Cond.code_spec hnamed hcode
  cases hmethM.symm.trans hmethM'
  obtain ⟨c2, r2, m2, q1, q2, q3, q4, kP, hkP, hkPi⟩ := Cond.selects_spec hsel
  cases hcls.symm.trans q1
  cases (State.methodFound?_of_named hnamed hy).symm.trans q2
  cases hnamed.symm.trans q3
  have hselP : selectMethod e.platform s.vm cellB.cls mk = .method mk := by rw [Launch.admits_selectMethod X.admits]; exact q4
  obtain ⟨vm₁, X₁, hstep₁⟩ := X.invokevirtual hexec hown hlink hnamed hmethM hstM hkP hkPi hy (a := b) (cell := cellB) hcell
    (fun z h => by rw [h] at hobj; cases hobj) hselP hmethM habM hkP hkPi (g := g) hg (argsL := argsL) (rest := rest) (hlen _ hsigM) hstack hdg
  rcases hK m meth c ⟨T.setVm vm₁, locs, cells, slots⟩ { g with stack := rest } (.invokevirtual index) mk (Value.ref b :: argsL).toArray X₁ hg hsize hdg hW (X₁.named hnamed) (hpre vm₁ X₁.warmed) with ⟨v, B, X', hpost, hsteps⟩ | ⟨q, B, X', hpost, hsteps⟩
  · exact Or.inl ⟨v, vm₁, B, X₁.warmed, X', hpost, fun target h => hstep₁ _ fun acts => by rw [doInvoke_state]; exact hsteps.trans h⟩
  · exact Or.inr ⟨q, vm₁, B, X₁.warmed, X', hpost, hstep₁ _ fun acts => by rw [doInvoke_state]; exact hsteps⟩
theorem vx_callS (X : Stand p l e R s m args below meth c T locs cells slots) (hexec : p.tables.exec = Jvm.exec) {own : String} {index : Nat} {y : MethodName} {bytes : ByteArray} {maxL : Nat} {ret : Option FieldType}
    (hown : s.vm.findClass own = some m.cls) (hlink : (Cond.methodLink own index y).before args s = true) (hstat : (Cond.static y).before args s = true) (hinit : (Cond.initialized y.cls).before args s = true)
    (hcode : (Cond.code y bytes maxL ret).before args s = true) (hy : y.cls ≠ "java/lang/invoke/MethodHandle" ∧ y.cls ≠ "java/lang/invoke/VarHandle")
    {W9 : Nat} {Pre : Pt → Array Value → Prop} {Post : Pt → Array Value → Option Value → Pt → Prop} {PostX : Pt → Array Value → Addr → Pt → Prop} (hK : vx_Back l R p e below s args y 3 W9 Pre Post PostX)
    {g : JFrame} (hg : g.method = m) (hsize : g.locals.size = c.maxLocals) {argsL rest : List Value} (hlen : ∀ sig, parseMethodDescriptor y.desc = some sig → argsL.length = sig.parameters.length)
    (hstack : g.stack = argsL.reverse ++ rest) (hW : 2 * g.monitorRoom + (rest.map fun v => v.category).sum ≤ W9) (hdg : decode c.code g.pc = .ok (.invokestatic index, 3))
    (hpre : ∀ vm₁, s.WarmedH vm₁ → Pre ⟨T.setVm vm₁, locs, cells, slots⟩ argsL.toArray) :
    (∃ (v : Option Value) (vm₁ : Vm) (B : Pt), s.WarmedH vm₁ ∧ Stand p l e R s m args below meth c B.U B.locs B.cells B.slots ∧ Post ⟨T.setVm vm₁, locs, cells, slots⟩ argsL.toArray v B ∧
      ∀ target, Steps p.tables e below (B.U.setTop { g with pc := g.pc + 3, stack := v.toList ++ rest }) target → Steps p.tables e below (T.setTop g) target) ∨
    (∃ (q : Addr) (vm₁ : Vm) (B : Pt), s.WarmedH vm₁ ∧ Stand p l e R s m args below meth c B.U B.locs B.cells B.slots ∧ PostX ⟨T.setVm vm₁, locs, cells, slots⟩ argsL.toArray q B ∧
      Steps p.tables e below (T.setTop g) ((B.U.setTop { g with stack := rest }).pushFrame (.throwing q))) := by
  obtain ⟨mk, hnamed⟩ := Cond.code_named hcode
  obtain ⟨methM, cM, hmethM, -, -, -, -, -, -, hsigM⟩ := Cond.code_spec hnamed hcode
  have hstatic : methM.isStatic = true := Cond.static_spec hnamed hmethM hstat
  obtain ⟨kP, hkP, -⟩ := className_of_methodNamed hnamed
  have hinitP : kP.init = .initialized := Cond.initialized_spec (findClass_of_methodNamed hnamed) hkP hinit
  obtain ⟨vm₁, X₁, hstep₁⟩ := X.invokestatic hexec hown hlink hnamed hmethM hstatic hkP hinitP hy (g := g) hg (argsL := argsL) (rest := rest) (hlen _ hsigM) hstack hdg
  rcases hK m meth c ⟨T.setVm vm₁, locs, cells, slots⟩ { g with stack := rest } (.invokestatic index) mk argsL.toArray X₁ hg hsize hdg hW (X₁.named hnamed) (hpre vm₁ X₁.warmed) with ⟨v, B, X', hpost, hsteps⟩ | ⟨q, B, X', hpost, hsteps⟩
  · exact Or.inl ⟨v, vm₁, B, X₁.warmed, X', hpost, fun target h => hstep₁ _ fun acts => by rw [doInvoke_state]; exact hsteps.trans h⟩
  · exact Or.inr ⟨q, vm₁, B, X₁.warmed, X', hpost, hstep₁ _ fun acts => by rw [doInvoke_state]; exact hsteps⟩
end Calls
theorem vx_cls {s : State} {T : State} {vm₁ : Vm} {E : String} {k : ClassId} (hW : s.WarmedH vm₁) (h : (T.setVm vm₁).vm.findClass E = some k) : s.vm.findClass E = some k := by
  have h1 : vm₁.findClass E = some k := h
  rw [hW.alike.findClass] at h1
  exact h1
/-- the method's frame g, with q thrown over it -/
def vx_W (p : Program) (l : Launch) (e : Env) (R : Room) (s : State) (m : MethodId) (args : Array Value) (below : List Frame) (meth : Method) (c : Code) (H : Heap) (locs : List Loc) (cells slots : Nat) (Q : State → Prop) (g : JFrame) (q : Addr) : Prop :=
  ∀ T : State, T.heap = H → Stand p l e R s m args below meth c T locs cells slots → ∃ t, Steps p.tables e below ((T.setTop g).pushFrame (.throwing q)) t ∧ Q t
def vx_Run (p : Program) (l : Launch) (e : Env) (R : Room) (s : State) (m : MethodId) (args : Array Value) (below : List Frame) (meth : Method) (c : Code) (H : Heap) (locs : List Loc) (cells slots mc ms : Nat) (g : JFrame) (rest : List Value) (Qa : State → Outcome → State → Prop) (XC : String → State → State → Prop) (free : Addr → Prop) : Prop :=
  ∀ T : State, T.heap = H → Stand p l e R s m args below meth c T locs cells slots →
    (∃ (v : Option Value) (st₀ t T' : State) (L : List Loc), st₀.heap = H ∧ Stand p l e R s m args below meth c T' (locs ++ L) (cells + mc) (slots + ms) ∧ (∀ q ∈ L, free q.base) ∧ T'.heap = t.heap ∧ T'.vm = t.vm ∧ Qa st₀ (.returned v) t ∧
      Goes p e below T g T' { g with pc := g.pc + 3, stack := v.toList ++ rest }) ∨
    (∃ (q : Addr) (st₀ t T' : State) (L : List Loc) (E : String) (ce : Cell), st₀.heap = H ∧ Stand p l e R s m args below meth c T' (locs ++ L) (cells + mc) (slots + ms) ∧ (∀ z ∈ L, free z.base) ∧ T'.heap = t.heap ∧ T'.vm = t.vm ∧ XC E st₀ t ∧ t.heap[q]? = some ce ∧ ce.vm = .none ∧ s.vm.findClass E = some ce.cls ∧
      Steps p.tables e below (T.setTop g) ((T'.setTop { g with stack := rest }).pushFrame (.throwing q)))
def vx_X {S : Type} (px : S → Prop) (B : String → S → State → Prop) (A : Nat → Prop) : String → State → State → Prop := fun E st t => ∃ u : S, px u ∧ B E u t ∧ va_F A st t
section Runs
variable {p : Program} {l : Launch} {e : Env} {R : Room} {s : State} {m : MethodId} {args : Array Value} {below : List Frame} {meth : Method} {c : Code} {H : Heap} {locs : List Loc} {cells slots : Nat}
variable {y : MethodName} {bytes cc : ByteArray} {maxL nL mc ms n index : Nat} {ret : Option FieldType} {ws : List Cond} {rm : Room} {Pc : Array Value → State → Prop} {Qc : Array Value → State → Outcome → State → Prop} {XC : String → State → State → Prop} {free : Addr → Prop} {Ts : List Cond} {own C : String} {b : Addr} {As rest : List Value} {g : JFrame}
theorem vx_callBack (cb : CallB R s args own index y bytes maxL ret ws rm mc ms n) (hM : vx_Met l y ws rm Pc Qc XC mc ms free) (hbl : FrameBlind Pc) : vx_Back l R p e below s args y 3 8 (PreOf R mc ms Pc) (PostOf Qc mc ms free) (vx_Post XC mc ms free) := by
  obtain ⟨hrc, hrs, hfr, hlo, hws, hcw, -, hini, -⟩ := cb
  exact vx_back (bytes := bytes) (maxL := maxL) (ret := ret) hM hbl hrc hrs hfr hlo hws hcw (fun a' U hW => word_at hW (Or.inl (by first | rfl | simp [Cond.onTables, Cond.keeps, Cond.steady])) hini)
theorem vx_runV (S : CallFix p m c cc nL s args Ts own) (hM : vx_Met l y ws rm Pc Qc XC mc ms free) (cw : CallW R s args own C index y bytes maxL ret ws rm mc ms n) (hp : PreV s H C b Pc As)
    (hg : g.method = m) (hn : As.length = n) (hsize : g.locals.size = nL) (hstack : g.stack = As.reverse ++ .ref b :: rest) (hW : 2 * g.monitorRoom + (rest.map fun v => v.category).sum ≤ 8) (hdg : decode cc g.pc = .ok (.invokevirtual index, 3)) (hf : cells + mc ≤ R.cells ∧ slots + ms ≤ R.slots) :
    vx_Run p l e R s m args below meth c H locs cells slots mc ms g rest (Qc (Value.ref b :: As).toArray) XC free := by
  have hK : vx_Back l R p e below s args y 3 8 (PreOf R mc ms Pc) (PostOf Qc mc ms free) (vx_Post XC mc ms free) := vx_callBack cw.1 hM hp.1
  obtain ⟨⟨-, -, -, -, -, -, hcode, -, hy, hlen, hl⟩, hin, hse⟩ := cw
  obtain ⟨hx, hb, hml, ho, -⟩ := S
  obtain ⟨-, ⟨cellB, hcB, hoB, hclB⟩, hPc⟩ := hp
  intro T hT X
  rcases vx_callV X hx (C := C) (bytes := bytes) (maxL := maxL) (ret := ret) ho hl hin hse hcode hy hK (by rw [hT]; exact hcB) hoB hclB hg (hsize.trans hml.symm) (argsL := As) (rest := rest) (fun sig h => hn.trans (hlen sig h)) hstack hW (by rw [hb]; exact hdg)
    (fun vm₁ hW₁ => ⟨hf.1, hf.2, hPc (T.setVm vm₁) hT hW₁⟩) with ⟨v, vm₁, ⟨U', l2, c2, s2⟩, hW₁, X', ⟨g', mk, t, L, e1, e2, hq, h1, hL, h2, h3⟩, st⟩ | ⟨q, vm₁, ⟨U', l2, c2, s2⟩, hW₁, X', ⟨g', mk, t, L, E, ce, e1, e2, hq, hce, hcv, hcl, h1, hL, h2, h3⟩, st⟩
  · dsimp only [Pt.U, Pt.locs, Pt.cells, Pt.slots] at X' e1 e2 h1 h2 h3 st
    subst h1; subst h2; subst h3
    exact Or.inl ⟨v, (T.setVm vm₁).calling g' mk (Value.ref b :: As).toArray, t, U', L, hT, X', hL, e1, e2, hq, st⟩
  · dsimp only [Pt.U, Pt.locs, Pt.cells, Pt.slots] at X' e1 e2 h1 h2 h3 st hcl
    subst h1; subst h2; subst h3
    exact Or.inr ⟨q, (T.setVm vm₁).calling g' mk (Value.ref b :: As).toArray, t, U', L, E, ce, hT, X', hL, e1, e2, hq, hce, hcv, vx_cls hW₁ hcl, st⟩
theorem vx_runS (S : CallFix p m c cc nL s args Ts own) (hM : vx_Met l y ws rm Pc Qc XC mc ms free) (cw : CallB R s args own index y bytes maxL ret ws rm mc ms n ∧ (Cond.static y).before args s = true) (hp : PreS s H Pc As)
    (hg : g.method = m) (hn : As.length = n) (hsize : g.locals.size = nL) (hstack : g.stack = As.reverse ++ rest) (hW : 2 * g.monitorRoom + (rest.map fun v => v.category).sum ≤ 8) (hdg : decode cc g.pc = .ok (.invokestatic index, 3)) (hf : cells + mc ≤ R.cells ∧ slots + ms ≤ R.slots) :
    vx_Run p l e R s m args below meth c H locs cells slots mc ms g rest (Qc As.toArray) XC free := by
  have hK : vx_Back l R p e below s args y 3 8 (PreOf R mc ms Pc) (PostOf Qc mc ms free) (vx_Post XC mc ms free) := vx_callBack cw.1 hM hp.1
  obtain ⟨⟨-, -, -, -, -, -, hcode, hini, hy, hlen, hl⟩, hstt⟩ := cw
  obtain ⟨hx, hb, hml, ho, -⟩ := S
  intro T hT X
  rcases vx_callS X hx (bytes := bytes) (maxL := maxL) (ret := ret) ho hl hstt hini hcode hy hK hg (hsize.trans hml.symm) (argsL := As) (rest := rest) (fun sig h => hn.trans (hlen sig h)) hstack hW (by rw [hb]; exact hdg)
    (fun vm₁ hW₁ => ⟨hf.1, hf.2, hp.2 (T.setVm vm₁) hT hW₁⟩) with ⟨v, vm₁, ⟨U', l2, c2, s2⟩, hW₁, X', ⟨g', mk, t, L, e1, e2, hq, h1, hL, h2, h3⟩, st⟩ | ⟨q, vm₁, ⟨U', l2, c2, s2⟩, hW₁, X', ⟨g', mk, t, L, E, ce, e1, e2, hq, hce, hcv, hcl, h1, hL, h2, h3⟩, st⟩
  · dsimp only [Pt.U, Pt.locs, Pt.cells, Pt.slots] at X' e1 e2 h1 h2 h3 st
    subst h1; subst h2; subst h3
    exact Or.inl ⟨v, (T.setVm vm₁).calling g' mk As.toArray, t, U', L, hT, X', hL, e1, e2, hq, st⟩
  · dsimp only [Pt.U, Pt.locs, Pt.cells, Pt.slots] at X' e1 e2 h1 h2 h3 st hcl
    subst h1; subst h2; subst h3
    exact Or.inr ⟨q, (T.setVm vm₁).calling g' mk As.toArray, t, U', L, E, ce, hT, X', hL, e1, e2, hq, hce, hcv, vx_cls hW₁ hcl, st⟩
end Runs
section Rows
variable {p : Program} {l : Launch} {e : Env} {R : Room} {s : State} {m : MethodId} {args : Array Value} {below : List Frame} {meth : Method} {c : Code} {H : Heap} {locs : List Loc} {cells slots : Nat} {Q : State → Prop}
variable {mc ms : Nat} {free : Addr → Prop} {A0 A1 : Nat → Prop} {H0 : Heap} {a : Array Value} {pc : Nat} {ls : Array Slot} {st0 rest : List Value}
theorem vx_keep {st₀ t T' : State} {L : List Loc} (h0 : st₀.heap = H) (e1 : T'.heap = t.heap) (hS : va_S A0 H0 H locs) (hA : ∀ q, q < H.size → A1 q → A0 q) (hf : ∀ q, free q → A0 q) (hL : ∀ q ∈ L, free q.base) (hF : va_F A1 st₀ t) :
    H.size ≤ T'.heap.size ∧ (∀ q : Nat, q < H.size → ¬ A1 q → T'.heap[q]? = H[q]?) ∧ va_S A0 H0 T'.heap (locs ++ L) := by
  obtain ⟨hz, hk⟩ := hF
  rw [h0] at hz hk
  exact ⟨by rw [e1]; exact hz, fun q h1 h2 => by rw [e1]; exact hk q h1 h2,
    ⟨Nat.le_trans hS.1 (by rw [e1]; exact hz), fun q h1 h2 => by rw [e1, hk q (Nat.lt_of_lt_of_le h1 hS.1) (fun z => h2 (hA q (Nat.lt_of_lt_of_le h1 hS.1) z))]; exact hS.2.1 q h1 h2, fun q hq => by
      rcases List.mem_append.mp hq with h | h
      · exact hS.2.2 q h
      · exact hf _ (hL q h)⟩⟩
theorem vx_calli {S SX : Type} {post : Int32 → S → Prop} {px : SX → Prop} {B : S → State → Prop} {BX : String → SX → State → Prop} {AX : Nat → Prop} (hr : vx_Run p l e R s m args below meth c H locs cells slots mc ms (F0 m pc ls st0) rest (va_Qi post B A1 a) (vx_X px BX AX) free) (hS : va_S A0 H0 H locs) (hA : ∀ q, q < H.size → A1 q → A0 q) (hf : ∀ q, free q → A0 q) (hAX : ∀ q, q < H.size → AX q → A0 q)
    (kx : ∀ (E : String) (ce : Cell) (q9 : Addr) (u : SX) (t : State) (H1 : Heap) (locs1 : List Loc), t.heap = H1 → s.vm.Alike t.vm → px u → BX E u t → H.size ≤ H1.size → (∀ q : Nat, q < H.size → ¬ AX q → H1[q]? = H[q]?) → va_S A0 H0 H1 locs1 → H1[q9]? = some ce → ce.vm = .none → s.vm.findClass E = some ce.cls → vx_W p l e R s m args below meth c H1 locs1 (cells + mc) (slots + ms) Q (F0 m pc ls rest) q9)
    (kk : ∀ (r : Int32) (u : S) (t : State) (H1 : Heap) (locs1 : List Loc), t.heap = H1 → s.vm.Alike t.vm → post r u → B u t → H.size ≤ H1.size → (∀ q : Nat, q < H.size → ¬ A1 q → H1[q]? = H[q]?) → va_S A0 H0 H1 locs1 → W p l e R s m args below meth c H1 locs1 (cells + mc) (slots + ms) Q (F0 m (pc + 3) ls (.int r :: rest))) : W p l e R s m args below meth c H locs cells slots Q (F0 m pc ls st0) := by
  intro T hT X
  rcases hr T hT X with ⟨v, st₀, t, T', L, h0, X', hL, e1, e2, ⟨⟨r, u, hv, hp, hb⟩, hF⟩, st⟩ | ⟨q, st₀, t, T', L, E, ce, h0, X', hL, e1, e2, ⟨u, hp, hb, hF⟩, hce, hcv, hcl, st⟩
  · cases hv
    obtain ⟨k1, k2, k3⟩ := vx_keep h0 e1 hS hA hf hL hF
    obtain ⟨t2, a1, b1⟩ := kk r u t T'.heap (locs ++ L) e1.symm (by rw [← e2]; exact X'.warmed.alike) hp hb k1 k2 k3 T' rfl X'
    exact ⟨t2, st t2 a1, b1⟩
  · obtain ⟨k1, k2, k3⟩ := vx_keep h0 e1 hS hAX hf hL hF
    obtain ⟨t2, a1, b1⟩ := kx E ce q u t T'.heap (locs ++ L) e1.symm (by rw [← e2]; exact X'.warmed.alike) hp hb k1 k2 k3 (by rw [e1]; exact hce) hcv hcl T' rfl X'
    exact ⟨t2, st.trans a1, b1⟩
theorem vx_calll {S SX : Type} {post : Int64 → S → Prop} {px : SX → Prop} {B : S → State → Prop} {BX : String → SX → State → Prop} {AX : Nat → Prop} (hr : vx_Run p l e R s m args below meth c H locs cells slots mc ms (F0 m pc ls st0) rest (va_Ql post B A1 a) (vx_X px BX AX) free) (hS : va_S A0 H0 H locs) (hA : ∀ q, q < H.size → A1 q → A0 q) (hf : ∀ q, free q → A0 q) (hAX : ∀ q, q < H.size → AX q → A0 q)
    (kx : ∀ (E : String) (ce : Cell) (q9 : Addr) (u : SX) (t : State) (H1 : Heap) (locs1 : List Loc), t.heap = H1 → s.vm.Alike t.vm → px u → BX E u t → H.size ≤ H1.size → (∀ q : Nat, q < H.size → ¬ AX q → H1[q]? = H[q]?) → va_S A0 H0 H1 locs1 → H1[q9]? = some ce → ce.vm = .none → s.vm.findClass E = some ce.cls → vx_W p l e R s m args below meth c H1 locs1 (cells + mc) (slots + ms) Q (F0 m pc ls rest) q9)
    (kk : ∀ (r : Int64) (u : S) (t : State) (H1 : Heap) (locs1 : List Loc), t.heap = H1 → s.vm.Alike t.vm → post r u → B u t → H.size ≤ H1.size → (∀ q : Nat, q < H.size → ¬ A1 q → H1[q]? = H[q]?) → va_S A0 H0 H1 locs1 → W p l e R s m args below meth c H1 locs1 (cells + mc) (slots + ms) Q (F0 m (pc + 3) ls (.long r :: rest))) : W p l e R s m args below meth c H locs cells slots Q (F0 m pc ls st0) := by
  intro T hT X
  rcases hr T hT X with ⟨v, st₀, t, T', L, h0, X', hL, e1, e2, ⟨⟨r, u, hv, hp, hb⟩, hF⟩, st⟩ | ⟨q, st₀, t, T', L, E, ce, h0, X', hL, e1, e2, ⟨u, hp, hb, hF⟩, hce, hcv, hcl, st⟩
  · cases hv
    obtain ⟨k1, k2, k3⟩ := vx_keep h0 e1 hS hA hf hL hF
    obtain ⟨t2, a1, b1⟩ := kk r u t T'.heap (locs ++ L) e1.symm (by rw [← e2]; exact X'.warmed.alike) hp hb k1 k2 k3 T' rfl X'
    exact ⟨t2, st t2 a1, b1⟩
  · obtain ⟨k1, k2, k3⟩ := vx_keep h0 e1 hS hAX hf hL hF
    obtain ⟨t2, a1, b1⟩ := kx E ce q u t T'.heap (locs ++ L) e1.symm (by rw [← e2]; exact X'.warmed.alike) hp hb k1 k2 k3 (by rw [e1]; exact hce) hcv hcl T' rfl X'
    exact ⟨t2, st.trans a1, b1⟩
theorem vx_callf {S SX : Type} {post : UInt32 → S → Prop} {px : SX → Prop} {B : S → State → Prop} {BX : String → SX → State → Prop} {AX : Nat → Prop} (hr : vx_Run p l e R s m args below meth c H locs cells slots mc ms (F0 m pc ls st0) rest (va_Qf post B A1 a) (vx_X px BX AX) free) (hS : va_S A0 H0 H locs) (hA : ∀ q, q < H.size → A1 q → A0 q) (hf : ∀ q, free q → A0 q) (hAX : ∀ q, q < H.size → AX q → A0 q)
    (kx : ∀ (E : String) (ce : Cell) (q9 : Addr) (u : SX) (t : State) (H1 : Heap) (locs1 : List Loc), t.heap = H1 → s.vm.Alike t.vm → px u → BX E u t → H.size ≤ H1.size → (∀ q : Nat, q < H.size → ¬ AX q → H1[q]? = H[q]?) → va_S A0 H0 H1 locs1 → H1[q9]? = some ce → ce.vm = .none → s.vm.findClass E = some ce.cls → vx_W p l e R s m args below meth c H1 locs1 (cells + mc) (slots + ms) Q (F0 m pc ls rest) q9)
    (kk : ∀ (r : UInt32) (u : S) (t : State) (H1 : Heap) (locs1 : List Loc), t.heap = H1 → s.vm.Alike t.vm → post r u → B u t → H.size ≤ H1.size → (∀ q : Nat, q < H.size → ¬ A1 q → H1[q]? = H[q]?) → va_S A0 H0 H1 locs1 → W p l e R s m args below meth c H1 locs1 (cells + mc) (slots + ms) Q (F0 m (pc + 3) ls (.float r :: rest))) : W p l e R s m args below meth c H locs cells slots Q (F0 m pc ls st0) := by
  intro T hT X
  rcases hr T hT X with ⟨v, st₀, t, T', L, h0, X', hL, e1, e2, ⟨⟨r, u, hv, hp, hb⟩, hF⟩, st⟩ | ⟨q, st₀, t, T', L, E, ce, h0, X', hL, e1, e2, ⟨u, hp, hb, hF⟩, hce, hcv, hcl, st⟩
  · cases hv
    obtain ⟨k1, k2, k3⟩ := vx_keep h0 e1 hS hA hf hL hF
    obtain ⟨t2, a1, b1⟩ := kk r u t T'.heap (locs ++ L) e1.symm (by rw [← e2]; exact X'.warmed.alike) hp hb k1 k2 k3 T' rfl X'
    exact ⟨t2, st t2 a1, b1⟩
  · obtain ⟨k1, k2, k3⟩ := vx_keep h0 e1 hS hAX hf hL hF
    obtain ⟨t2, a1, b1⟩ := kx E ce q u t T'.heap (locs ++ L) e1.symm (by rw [← e2]; exact X'.warmed.alike) hp hb k1 k2 k3 (by rw [e1]; exact hce) hcv hcl T' rfl X'
    exact ⟨t2, st.trans a1, b1⟩
theorem vx_calld {S SX : Type} {post : UInt64 → S → Prop} {px : SX → Prop} {B : S → State → Prop} {BX : String → SX → State → Prop} {AX : Nat → Prop} (hr : vx_Run p l e R s m args below meth c H locs cells slots mc ms (F0 m pc ls st0) rest (va_Qd post B A1 a) (vx_X px BX AX) free) (hS : va_S A0 H0 H locs) (hA : ∀ q, q < H.size → A1 q → A0 q) (hf : ∀ q, free q → A0 q) (hAX : ∀ q, q < H.size → AX q → A0 q)
    (kx : ∀ (E : String) (ce : Cell) (q9 : Addr) (u : SX) (t : State) (H1 : Heap) (locs1 : List Loc), t.heap = H1 → s.vm.Alike t.vm → px u → BX E u t → H.size ≤ H1.size → (∀ q : Nat, q < H.size → ¬ AX q → H1[q]? = H[q]?) → va_S A0 H0 H1 locs1 → H1[q9]? = some ce → ce.vm = .none → s.vm.findClass E = some ce.cls → vx_W p l e R s m args below meth c H1 locs1 (cells + mc) (slots + ms) Q (F0 m pc ls rest) q9)
    (kk : ∀ (r : UInt64) (u : S) (t : State) (H1 : Heap) (locs1 : List Loc), t.heap = H1 → s.vm.Alike t.vm → post r u → B u t → H.size ≤ H1.size → (∀ q : Nat, q < H.size → ¬ A1 q → H1[q]? = H[q]?) → va_S A0 H0 H1 locs1 → W p l e R s m args below meth c H1 locs1 (cells + mc) (slots + ms) Q (F0 m (pc + 3) ls (.double r :: rest))) : W p l e R s m args below meth c H locs cells slots Q (F0 m pc ls st0) := by
  intro T hT X
  rcases hr T hT X with ⟨v, st₀, t, T', L, h0, X', hL, e1, e2, ⟨⟨r, u, hv, hp, hb⟩, hF⟩, st⟩ | ⟨q, st₀, t, T', L, E, ce, h0, X', hL, e1, e2, ⟨u, hp, hb, hF⟩, hce, hcv, hcl, st⟩
  · cases hv
    obtain ⟨k1, k2, k3⟩ := vx_keep h0 e1 hS hA hf hL hF
    obtain ⟨t2, a1, b1⟩ := kk r u t T'.heap (locs ++ L) e1.symm (by rw [← e2]; exact X'.warmed.alike) hp hb k1 k2 k3 T' rfl X'
    exact ⟨t2, st t2 a1, b1⟩
  · obtain ⟨k1, k2, k3⟩ := vx_keep h0 e1 hS hAX hf hL hF
    obtain ⟨t2, a1, b1⟩ := kx E ce q u t T'.heap (locs ++ L) e1.symm (by rw [← e2]; exact X'.warmed.alike) hp hb k1 k2 k3 (by rw [e1]; exact hce) hcv hcl T' rfl X'
    exact ⟨t2, st.trans a1, b1⟩
theorem vx_callv {S SX : Type} {post : S → Prop} {px : SX → Prop} {B : S → State → Prop} {BX : String → SX → State → Prop} {AX : Nat → Prop} (hr : vx_Run p l e R s m args below meth c H locs cells slots mc ms (F0 m pc ls st0) rest (va_Qv post B A1 a) (vx_X px BX AX) free) (hS : va_S A0 H0 H locs) (hA : ∀ q, q < H.size → A1 q → A0 q) (hf : ∀ q, free q → A0 q) (hAX : ∀ q, q < H.size → AX q → A0 q)
    (kx : ∀ (E : String) (ce : Cell) (q9 : Addr) (u : SX) (t : State) (H1 : Heap) (locs1 : List Loc), t.heap = H1 → s.vm.Alike t.vm → px u → BX E u t → H.size ≤ H1.size → (∀ q : Nat, q < H.size → ¬ AX q → H1[q]? = H[q]?) → va_S A0 H0 H1 locs1 → H1[q9]? = some ce → ce.vm = .none → s.vm.findClass E = some ce.cls → vx_W p l e R s m args below meth c H1 locs1 (cells + mc) (slots + ms) Q (F0 m pc ls rest) q9)
    (kk : ∀ (u : S) (t : State) (H1 : Heap) (locs1 : List Loc), t.heap = H1 → s.vm.Alike t.vm → post u → B u t → H.size ≤ H1.size → (∀ q : Nat, q < H.size → ¬ A1 q → H1[q]? = H[q]?) → va_S A0 H0 H1 locs1 → W p l e R s m args below meth c H1 locs1 (cells + mc) (slots + ms) Q (F0 m (pc + 3) ls (rest))) : W p l e R s m args below meth c H locs cells slots Q (F0 m pc ls st0) := by
  intro T hT X
  rcases hr T hT X with ⟨v, st₀, t, T', L, h0, X', hL, e1, e2, ⟨⟨u, hv, hp, hb⟩, hF⟩, st⟩ | ⟨q, st₀, t, T', L, E, ce, h0, X', hL, e1, e2, ⟨u, hp, hb, hF⟩, hce, hcv, hcl, st⟩
  · cases hv
    obtain ⟨k1, k2, k3⟩ := vx_keep h0 e1 hS hA hf hL hF
    obtain ⟨t2, a1, b1⟩ := kk u t T'.heap (locs ++ L) e1.symm (by rw [← e2]; exact X'.warmed.alike) hp hb k1 k2 k3 T' rfl X'
    exact ⟨t2, st t2 a1, b1⟩
  · obtain ⟨k1, k2, k3⟩ := vx_keep h0 e1 hS hAX hf hL hF
    obtain ⟨t2, a1, b1⟩ := kx E ce q u t T'.heap (locs ++ L) e1.symm (by rw [← e2]; exact X'.warmed.alike) hp hb k1 k2 k3 (by rw [e1]; exact hce) hcv hcl T' rfl X'
    exact ⟨t2, st.trans a1, b1⟩
/-- caught by the row x of this method's table; the rows ahead don't take it -/
theorem vx_catch {own name : String} {E : String} {ce : Cell} {q : Addr} (hown : s.vm.findClass own = some m.cls) (pre : List ExceptionTableEntry) (x : ExceptionTableEntry) (suf : List ExceptionTableEntry) (hsplit : c.exceptionTable.toList = pre ++ x :: suf)
    (hpass : ∀ z ∈ pre, covers z pc = false ∨ (z.catchType ≠ 0 ∧ ∃ nm : String, (Cond.classLink own z.catchType nm).before args s = true ∧ va_Nc E nm s)) (hx : covers x pc = true) (h0 : x.catchType ≠ 0)
    (hlink : (Cond.classLink own x.catchType name).before args s = true) (hcast : (Cond.castable E name).before args s = true) (hcell : H[q]? = some ce) (hv : ce.vm = .none) (hcl : s.vm.findClass E = some ce.cls)
    (kk : W p l e R s m args below meth c H locs cells slots Q (F0 m x.handlerPc ls [.ref q])) : vx_W p l e R s m args below meth c H locs cells slots Q (F0 m pc ls rest) q := by
  intro T hT X
  have hpl : e.platform.magicAccessors = ({} : Platform).magicAccessors := by rw [X.admits.platform]
  obtain ⟨c3, c4, hc3, hc4, hasg⟩ := Cond.castable_spec hcast
  cases Option.some.inj (hc3.symm.trans hcl)
  obtain ⟨c5, hc5, hcl5⟩ := Cond.classLink_spec hown hlink e.platform hpl
  cases Option.some.inj (hc4.symm.trans hc5)
  obtain ⟨vm', X', st⟩ := X.thenCaughtThrough q (g := F0 m pc ls rest) rfl (Steps.refl _) (by rw [hT]; exact hcell) (by rw [hv]; rfl) (by obtain ⟨k9, h9, -⟩ := Vm.findClass_spec hcl; exact ⟨k9, h9⟩) pre x suf hsplit
    (fun z hz => by
      rcases hpass z hz with h | ⟨hz0, nm, hl1, hn1⟩
      · exact Or.inl h
      · obtain ⟨c6, hc6, hcl6⟩ := Cond.classLink_spec hown hl1 e.platform hpl
        obtain ⟨a8, b8, h1, h2, h3⟩ := hn1
        cases Option.some.inj (h1.symm.trans hcl)
        cases Option.some.inj (h2.symm.trans hc6)
        exact Or.inr ⟨hz0, _, hcl6, h3⟩) hx (Or.inr ⟨h0, c4, hcl5, hasg⟩)
  obtain ⟨t, a1, b1⟩ := kk (T.setVm vm') hT X'
  exact ⟨t, st.trans a1, b1⟩
end Rows
section Ends
variable {p : Program} {l : Launch} {e : Env} {R : Room} {s : State} {m : MethodId} {args : Array Value} {below : List Frame} {meth : Method} {c : Code} {H : Heap} {locs : List Loc} {cells slots : Nat} {Q : State → Prop}
variable {mc ms : Nat} {free : Addr → Prop} {A0 A1 : Nat → Prop} {H0 : Heap} {a : Array Value} {ls : Array Slot} {st0 rest : List Value}
variable {Qc : Array Value → State → Outcome → State → Prop} {XC : String → State → State → Prop}
/-- what a body that may throw owes at its end -/
def vx_MQ (below : List Frame) (Qc : Array Value → State → Outcome → State → Prop) (XC : String → State → State → Prop) (a : Array Value) (s : State) (mc ms : Nat) (free : Addr → Prop) : State → Prop := fun t =>
  ∃ o, t.status = .running ∧ Ended t below o ∧ vx_Q Qc XC mc ms free a s o t
theorem vx_ret {g : JFrame} {mc ms : Nat} (k : W p l e R s m args below meth c H locs cells slots (MQ below Qc args s mc ms free) g) : W p l e R s m args below meth c H locs cells slots (vx_MQ below Qc XC args s mc ms free) g := by
  intro T hT X
  obtain ⟨t, a1, o, b1, b2, b3, b4⟩ := k T hT X
  exact ⟨t, a1, o, b1, b2, Or.inl ⟨b3, b4⟩⟩
/-- not caught here: it goes on to the caller -/
theorem vx_widen {g : JFrame} {q : Addr} {k n : Nat} (h1 : cells ≤ k) (h2 : slots ≤ n) (kk : vx_W p l e R s m args below meth c H locs k n Q g q) : vx_W p l e R s m args below meth c H locs cells slots Q g q := fun T hT X => kk T hT (stand_widen X h1 h2)
theorem vx_out {pc : Nat} {E : String} {ce : Cell} {q : Addr} {mc ms : Nat} (hout : ∀ x ∈ c.exceptionTable.toList, covers x pc = false) (hlocks : meth.locks = false) (hcell : H[q]? = some ce) (hv : ce.vm = .none) (hcl : s.vm.findClass E = some ce.cls)
    (hx : ∀ t : State, t.heap = H → s.vm.Alike t.vm → XC E s t) (hf : ∀ z ∈ locs, free z.base) (hc : cells ≤ mc) (hs : slots ≤ ms) :
    vx_W p l e R s m args below meth c H locs cells slots (vx_MQ below Qc XC args s mc ms free) (F0 m pc ls rest) q := by
  intro T hT X
  obtain ⟨st1, hrun, hend, hW, hsm⟩ := X.leaveThrown q (g := F0 m pc ls rest) rfl rfl rfl hout hlocks
  have hcell9 : (T.setFrames (.throwing q :: below)).heap[q]? = some ce := by
    show T.heap[q]? = some ce
    rw [hT]; exact hcell
  exact ⟨_, st1, .threw q, hrun, hend, Or.inr ⟨q, rfl, E, ce, locs, hx _ hT hW.alike, hcell9, hv, hcl, hW, hsm.mono hc hs, hf⟩⟩
theorem vx_frame {U : State} {k n : Nat} (h : s.sameButNew ({ U with vm := s.vm } : State) locs k n) : s.heap.size ≤ U.heap.size ∧ ∀ q : Nat, q < s.heap.size → (∀ z ∈ locs, z.base ≠ q) → U.heap[q]? = s.heap[q]? := by
  obtain ⟨-, h2, -, -, -, h6⟩ := h
  refine ⟨h2, fun q hq hz => ?_⟩
  obtain ⟨c9, e1, e2, e3, e4⟩ := h6 q _ (Array.getElem?_eq_getElem hq)
  have hs : c9.slots = (s.heap[q]).slots := Array.ext_getElem? fun i => e4 i fun hm => hz _ hm rfl
  have h9 : c9 = s.heap[q] := by
    rw [hs] at e2
    exact e2
  have e5 : U.heap[q]? = some c9 := e1
  rw [e5, h9, Array.getElem?_eq_getElem hq]
/-- the words of a throw but the four that speak of the heap -/
def vx_no (w : Cond) : Bool := decide (w ≠ .isRef (.static Bundle.tN "UNASSIGNED_STACK" Bundle.steD)) && decide (w ≠ .isRef (.static Bundle.tN "SUPPRESSED_SENTINEL" Bundle.listD)) && decide (w ≠ .laysStatic Bundle.tN "UNASSIGNED_STACK" Bundle.steD) && decide (w ≠ .laysStatic Bundle.tN "SUPPRESSED_SENTINEL" Bundle.listD)
def vx_at0 (own : String) (ic : Nat) (X : String) (names : List String) : List Cond := (Bundle.ownAtoms0 own ic X names).filter vx_no
def vx_atS (own : String) (ic : Nat) (X : String) (names : List String) : List Cond := (Bundle.ownAtoms own ic X names).filter vx_no
/-- a word that the tables alone decide, or a good one -/
def vx_ot (w : Cond) : Bool := w.onTables || goodWord w
theorem vx_ot_at {args a' : Array Value} {s U : State} {w : Cond} (hW : s.WarmedH U.vm) (hvm : s.vm = U.vm) (hg : vx_ot w = true) (h : w.before args s = true) : w.before a' U = true := by
  simp only [vx_ot, Bool.or_eq_true] at hg
  rcases hg with hg | hg
  · exact va_tabs hg hvm h
  · exact word_at hW (good_of_word hg) h
/-- a list's words: the good ones out of the method's own list, the others by premises of their own -/
theorem vx_hat {args : Array Value} {s : State} {L B : List Cond} (h1 : ∀ w ∈ L.filter goodWord, w.before args s = true) (h2 : ∀ w ∈ L.filter (fun w => !goodWord w), w ∈ B) (h3 : ∀ w ∈ B, w.before args s = true) : ∀ w ∈ L, w.before args s = true := by
  intro w hw
  by_cases g : goodWord w = true
  · exact h1 w (List.mem_filter.mpr ⟨hw, g⟩)
  · refine h3 w (h2 w (List.mem_filter.mpr ⟨hw, ?_⟩))
    show (!goodWord w) = true
    cases hgw : goodWord w
    · rfl
    · exact absurd hgw g
theorem vx_c {args : Array Value} {s : State} {w : Cond} {B : List Cond} (h : w.before args s = true) (t : ∀ w ∈ B, w.before args s = true) : ∀ w' ∈ w :: B, w'.before args s = true := fun w' h' => (List.mem_cons.mp h').elim (fun e => by rw [e]; exact h) (t w')
theorem vx_n {args : Array Value} {s : State} : ∀ w ∈ ([] : List Cond), w.before args s = true := fun _ h => nomatch h
theorem vx_own {args : Array Value} {s : State} {L : List Cond} (h1 : ∀ w ∈ L.filter vx_no, w.before args s = true)
    (hU : (Cond.isRef (.static Bundle.tN "UNASSIGNED_STACK" Bundle.steD)).before args s = true) (hN : (Cond.isRef (.static Bundle.tN "SUPPRESSED_SENTINEL" Bundle.listD)).before args s = true)
    (lU : (Cond.laysStatic Bundle.tN "UNASSIGNED_STACK" Bundle.steD).before args s = true) (lN : (Cond.laysStatic Bundle.tN "SUPPRESSED_SENTINEL" Bundle.listD).before args s = true) : ∀ w ∈ L, w.before args s = true := by
  intro w hw
  by_cases e1 : w = .isRef (.static Bundle.tN "UNASSIGNED_STACK" Bundle.steD)
  · rw [e1]; exact hU
  · by_cases e2 : w = .isRef (.static Bundle.tN "SUPPRESSED_SENTINEL" Bundle.listD)
    · rw [e2]; exact hN
    · by_cases e3 : w = .laysStatic Bundle.tN "UNASSIGNED_STACK" Bundle.steD
      · rw [e3]; exact lU
      · by_cases e4 : w = .laysStatic Bundle.tN "SUPPRESSED_SENTINEL" Bundle.listD
        · rw [e4]; exact lN
        · exact h1 w (List.mem_filter.mpr ⟨hw, by unfold vx_no; rw [decide_eq_true e1, decide_eq_true e2, decide_eq_true e3, decide_eq_true e4]; rfl⟩)
/-- where a static field lies, its class's statics cell in H -/
def vx_L (C n d : String) (A : Nat → Prop) (U : State) (H : Heap) : Prop := ∃ (c : ClassId) (k : Class) (i : Nat) (f : Field) (a : Nat) (cell : Cell), U.vm.findClass C = some c ∧ U.fieldFound? C n d = some (c, k, i, f) ∧ f.isStatic = true ∧ k.statics = some a ∧ H[a]? = some cell ∧ cell.vm.isStatics = true ∧ cell.cls = c ∧ f.slot < cell.slots.size ∧ k.staticTypes[f.slot]? = some f.type ∧ ¬ A a
theorem vx_L.moved {C n d : String} {A : Nat → Prop} {u U : State} {H : Heap} (hvm : u.vm.Alike U.vm) (h : vx_L C n d A u H) : vx_L C n d A U H := by
  obtain ⟨c, k, i, f, a, cell, h1, h2, h3, h4, h5, h6, h7, h8, h9, h10⟩ := h
  obtain ⟨k', hi', he⟩ := State.fieldFound?_setVm hvm h2
  exact ⟨c, k', i, f, a, cell, by rw [hvm.findClass]; exact h1, hi', h3, by rw [he]; exact h4, h5, h6, h7, h8, by rw [he]; exact h9, h10⟩
theorem vx_L.kept {C n d : String} {A : Nat → Prop} {U : State} {H H1 : Heap} (h : vx_L C n d A U H) (hq : ∀ a : Nat, a < H.size → ¬ A a → H1[a]? = H[a]?) : vx_L C n d A U H1 := by
  obtain ⟨c, k, i, f, a, cell, h1, h2, h3, h4, h5, h6, h7, h8, h9, h10⟩ := h
  exact ⟨c, k, i, f, a, cell, h1, h2, h3, h4, by rw [hq a (Array.getElem?_eq_some_iff.mp h5).1 h10]; exact h5, h6, h7, h8, h9, h10⟩
theorem vx_L.narrow {C n d : String} {A B : Nat → Prop} {U : State} {H : Heap} (h : vx_L C n d A U H) (hAB : ∀ q, B q → A q) : vx_L C n d B U H := by
  obtain ⟨c, k, i, f, a, cell, h1, h2, h3, h4, h5, h6, h7, h8, h9, h10⟩ := h
  exact ⟨c, k, i, f, a, cell, h1, h2, h3, h4, h5, h6, h7, h8, h9, fun z => h10 (hAB _ z)⟩
theorem vx_L.word {C n d : String} {A : Nat → Prop} {s : State} {args : Array Value} (h : vx_L C n d A s s.heap) : (Cond.laysStatic C n d).before args s = true := by
  obtain ⟨c, k, i, f, a, cell, h1, h2, h3, h4, h5, h6, h7, h8, h9, -⟩ := h
  show (Cond.laysStatic C n d).holds args s none s [] = true
  exact Cond.laysStatic_of h1 h2 h3 h4 h5 h6 h7 h8 h9
/-- .. and what it holds: null or some reference -/
def vx_Zq (C n d : String) (A : Nat → Prop) (U : State) (H : Heap) : Prop := va_Zq C n d A U H ∧ vx_L C n d A U H
theorem vx_Zq.moved {C n d : String} {A : Nat → Prop} {u U : State} {H : Heap} (hvm : u.vm.Alike U.vm) (h : vx_Zq C n d A u H) : vx_Zq C n d A U H := ⟨va_Zq.moved hvm h.1, vx_L.moved hvm h.2⟩
theorem vx_Zq.kept {C n d : String} {A : Nat → Prop} {U : State} {H H1 : Heap} (h : vx_Zq C n d A U H) (hq : ∀ a : Nat, a < H.size → ¬ A a → H1[a]? = H[a]?) : vx_Zq C n d A U H1 := ⟨va_Zq.kept h.1 hq, vx_L.kept h.2 hq⟩
theorem vx_Zq.narrow {C n d : String} {A B : Nat → Prop} {U : State} {H : Heap} (h : vx_Zq C n d A U H) (hAB : ∀ q, B q → A q) : vx_Zq C n d B U H := ⟨va_Zq.narrow h.1 hAB, vx_L.narrow h.2 hAB⟩
theorem vx_Zqof {args : Array Value} {s : State} {C n d : String} {A : Nat → Prop} (hl : (Cond.laysStatic C n d).before args s = true) (hini : (Cond.initialized C).before args s = true) (h : (Cond.isRef (.static C n d)).before args s = true) (hA : ∀ a : Nat, a < s.heap.size → ¬ A a) : vx_Zq C n d A s s.heap := by
  refine ⟨va_Zqof hl hini h hA, ?_⟩
  obtain ⟨c, k, i, f, a, cell, h1, h2, h3, h4, h5, h6, h7, h8, h9⟩ := Cond.laysStatic_spec hl
  exact ⟨c, k, i, f, a, cell, h1, h2, h3, h4, h5, h6, h7, h8, h9, hA a (Array.getElem?_eq_some_iff.mp h5).1⟩
theorem vx_isRef {C n d : String} {v : Value} {A : Nat → Prop} {s : State} {args : Array Value} (h : va_Z C n d v A s s.heap) (hv : v.isRef = true) : (Cond.isRef (.static C n d)).before args s = true := by
  obtain ⟨cf, kf, fi, f, a, cell, h1, h2, h3, h4, h5, h6, h7, -⟩ := h
  have he : (Term.static C n d).eval args s none [] s = some v := by
    simp [Term.eval, State.fieldNamed?, h1, h2, h4, h5, h6, h7]
  simp only [Cond.before, Cond.holds, Cond.value, he]
  cases v <;> simp_all [Value.isRef]
theorem vx_isRefq {C n d : String} {A : Nat → Prop} {s : State} {args : Array Value} (h : va_Zq C n d A s s.heap) : (Cond.isRef (.static C n d)).before args s = true := by
  rcases h with h | ⟨t, h⟩
  · exact vx_isRef h rfl
  · exact vx_isRef h rfl
/-- the same frame, seen from here: as if the method were called anew in this heap -/
theorem vx_rebase {T : State} (X : Stand p l e R s m args below meth c T locs cells slots) {R' : Room} (hf : R'.frames ≤ R.frames) (hl : R'.locals ≤ R.locals) (hc : cells + R'.cells ≤ R.cells) (hs : slots + R'.slots ≤ R.slots) :
    Stand p l e R' ((T.setVm s.vm).setFrames (.invoking m args :: below)) m args below meth c T [] 0 0 := by
  have htop : (T.setVm s.vm).topJava?.isSome := X.here.top
  have hF : ((T.setVm s.vm).setFrames (.invoking m args :: below)).frames = .invoking m args :: below := State.frames_setFrames _ (State.cur_lt_of_top htop)
  obtain ⟨g₀, hg0⟩ := Option.isSome_iff_exists.mp htop
  obtain ⟨r, hr⟩ := State.topJava?_eq_some.mp hg0
  have hl9 : e.platform.stackLimits (T.setVm s.vm).me = e.platform.stackLimits s.me := X.limits
  have hb9 : (T.setVm s.vm).me.stackBytes = s.me.stackBytes := X.bytes
  refine ⟨X.admits, X.cas, X.clock, hF, ?_, X.hears, X.method, X.code, X.here, X.tail, X.warmed, ?_, ?_, ?_⟩
  · have h := X.room
    have hU : ((T.setVm s.vm).setFrames (.invoking m args :: below)).localsInUse = s.localsInUse := by
      rw [State.localsInUse_invoking hF (meth := meth) (c := c) X.method X.code, State.localsInUse_invoking X.frames X.method X.code]
    simp only [State.hasRoom, Bool.and_eq_true, decide_eq_true_eq] at h ⊢
    obtain ⟨⟨⟨⟨h1, h2, h3, h4, h5, h6⟩, h7⟩, h8⟩, h9⟩ := h
    rw [X.frames, List.length_cons] at h2 h3
    have q1 := X.heapSize
    have q2 := X.used
    simp only [hF, hU, List.length_cons, State.stackLimits_setFrames, State.stackBytes_setFrames, hl9, hb9]
    refine ⟨⟨⟨⟨by omega, by omega, by omega, by omega, by omega, h6⟩, ?_⟩, ?_⟩, X.book⟩
    · show T.heap.size + R'.cells ≤ e.platform.maxCells
      omega
    · show T.slotsUsed + R'.slots ≤ e.platform.maxSlots
      omega
  · rw [State.stackLimits_setFrames]; rfl
  · rw [State.stackBytes_setFrames]; rfl
  · refine ⟨?_, Nat.le_refl _, Nat.le_refl _, ?_, ?_, fun a c9 h9 => ⟨c9, h9, rfl, rfl, fun _ _ => rfl⟩⟩
    · obtain ⟨t, ht, -⟩ := State.frames_cons hr
      show T.setVm s.vm = { ((T.setVm s.vm).setFrames (.invoking m args :: below)).setFrames (T.setVm s.vm).frames with heap := T.heap, slotsUsed := T.slotsUsed }
      rw [State.setFrames_setFrames, State.setFrames_self ht]
      rfl
    · show T.slotsUsed = T.slotsUsed + ((T.heap.toList.drop T.heap.size).map (·.slots.size)).sum
      rw [List.drop_eq_nil_of_le (Nat.le_of_eq Array.length_toList)]
      rfl
    · show ((T.heap.toList.drop T.heap.size).map (·.slots.size)).sum ≤ 0
      rw [List.drop_eq_nil_of_le (Nat.le_of_eq Array.length_toList)]
      exact Nat.le_refl _
/-- 'throw new E()': new; dup; invokespecial; athrow -/
theorem vx_throw0 {cc : ByteArray} {pc : Nat} (hexec : p.tables.exec = Jvm.exec) (hb : c.code = cc) (hl : l.stackTraces = false) {own cls : String} {names : List String} {ik ic mc ms : Nat} {A : Nat → Prop}
    (hown : s.vm.findClass own = some m.cls) (hcls : Bundle.fit cls = true) (hnames : ∀ n ∈ names, Bundle.fit n = true)
    (hk : (Cond.classLink own ik cls).before args s = true) (hini : (Cond.initialized cls).before args s = true) (hat : ∀ w ∈ vx_at0 own ic cls names, w.before args s = true)
    (hgood : ∀ w ∈ Cond.classLink own ik cls :: Cond.initialized cls :: vx_at0 own ic cls names, vx_ot w = true)
    (hU : vx_Zq Bundle.tN "UNASSIGNED_STACK" Bundle.steD A s s.heap) (hN : vx_Zq Bundle.tN "SUPPRESSED_SENTINEL" Bundle.listD A s s.heap) (hS : va_S A s.heap H locs) (hsize : ls.size = c.maxLocals)
    (d0 : decode cc pc = .ok (.new ik, 3)) (d3 : decode cc (pc + 3) = .ok (.dup, 1)) (d4 : decode cc (pc + 4) = .ok (.invokespecial ic, 3)) (d7 : decode cc (pc + 7) = .ok (.athrow, 1))
    (hout : ∀ x ∈ c.exceptionTable.toList, covers x (pc + 7) = false)
    (hRframes : names.length + 3 < R.frames) (hRlocals : (rest.map fun v => v.category).sum + (13 * (names.length + 1) + 42) ≤ R.locals) (hRcells : cells + 1 ≤ R.cells) (hRslots : slots + 6 ≤ R.slots) (hlocks : meth.locks = false)
    (hx : ∀ t : State, s.vm.Alike t.vm → H.size ≤ t.heap.size → (∀ q : Nat, q < H.size → t.heap[q]? = H[q]?) → XC cls s t)
    (hf : ∀ z ∈ locs, free z.base) (hc : cells + 1 ≤ mc) (hs : slots + 6 ≤ ms) :
    W p l e R s m args below meth c H locs cells slots (vx_MQ below Qc XC args s mc ms free) (F0 m pc ls rest) := by
  intro T hT X
  have htr : e.platform.stackTraces = false := (show e.platform.stackTraces = l.stackTraces by rw [X.admits.platform]).trans hl
  have Y := vx_rebase X (R' := { frames := R.frames, locals := R.locals, cells := 1, slots := 6 }) (Nat.le_refl _) (Nat.le_refl _) hRcells hRslots
  obtain ⟨s', hA⟩ : ∃ z, z = (T.setVm s.vm).setFrames (.invoking m args :: below) := ⟨_, rfl⟩
  rw [← hA] at Y
  have hvm : s'.vm = s.vm := by rw [hA]; rfl
  have hhp : s'.heap = H := by rw [hA]; exact hT
  have hW0 : s.WarmedH s'.vm := by rw [hvm]; exact State.WarmedH.refl s
  have hat' : ∀ w ∈ vx_at0 own ic cls names, w.before args s' = true := fun w hw => vx_ot_at hW0 hvm.symm (hgood w (List.mem_cons_of_mem _ (List.mem_cons_of_mem _ hw))) (hat w hw)
  have hk' : (Cond.classLink own ik cls).before args s' = true := vx_ot_at hW0 hvm.symm (hgood _ List.mem_cons_self) hk
  have hini' : (Cond.initialized cls).before args s' = true := vx_ot_at hW0 hvm.symm (hgood _ (List.mem_cons_of_mem _ List.mem_cons_self)) hini
  have hU' : vx_Zq Bundle.tN "UNASSIGNED_STACK" Bundle.steD A s' s'.heap := by rw [hhp]; exact vx_Zq.moved hW0.alike (hU.kept hS.2.1)
  have hN' : vx_Zq Bundle.tN "SUPPRESSED_SENTINEL" Bundle.listD A s' s'.heap := by rw [hhp]; exact vx_Zq.moved hW0.alike (hN.kept hS.2.1)
  have h : ∀ w ∈ Bundle.ownAtoms0 own ic cls names, w.before args s' = true := vx_own hat' (vx_isRefq hU'.1) (vx_isRefq hN'.1) hU'.2.word hN'.2.word
  have hown' : s'.vm.findClass own = some m.cls := by rw [hvm]; exact hown
  have hins : (Cond.instantiable cls 6).before args s' = true := h _ (by simp [Bundle.ownAtoms0])
  obtain ⟨vm₁, cX, kX, hfX, hkX, -, -, X₁, st1⟩ := Y.newCold hexec (own := own) (C := cls) (index := ik) (n := 6) hown' hk' hins hini'
    (g := F0 m pc ls rest) rfl (by rw [hb]; exact d0) (Nat.le_refl _) (Nat.le_refl _)
  generalize hT1 : (T.setVm vm₁).pushCell { cls := cX, slots := kX.instanceTypes.map defaultValue, vm := .none } = T1 at X₁ st1
  have hcat : (Value.ref T.heap.size).category = 1 := rfl
  have hcellA : T1.heap[T.heap.size]? = some (freshCell cX kX) := by rw [← hT1]; exact State.heap_pushCell_size _ _
  have d3' : decode c.code (pc + 3) = .ok (.dup, 1) := by rw [hb]; exact d3
  obtain ⟨U, hsteps, hrun, hend, hW, hsame, ce, hce, hO⟩ := X₁.ctorThrow0 hexec htr (own := own) (cls := cls) (names := names) (ic := ic) hown' hcls hnames h (fun x hx => nomatch hx) hfX hkX hcellA (by rw [hhp, hT]; exact Nat.le_refl _)
    (g := { method := m, pc := pc + 4, locals := ls, stack := .ref T.heap.size :: .ref T.heap.size :: rest, locked := none }) rfl hsize rfl rfl (rest := rest) rfl
    (by rw [hb]; exact d4) (by rw [hb]; exact d7) hout hRframes (by simp only [List.map_cons, List.sum_cons, hcat]; omega) hlocks
  obtain ⟨f1, f2⟩ := vx_frame hsame
  rw [hhp] at f1 f2
  have hWs : s.WarmedH U.vm := State.WarmedH.trans hW0 hW
  have hcl : s.vm.findClass cls = some ce.cls := by
    have h9 := hO.cls
    rw [hvm] at h9
    exact h9
  have hall : s.sameButNew ({ U with vm := s.vm } : State) locs mc ms := by
    subst hA
    obtain ⟨e1, e2⟩ := hsame
    rw [State.setFrames_setFrames] at e1
    have h2 : (T.setVm s.vm).sameButNew ({ U with vm := s.vm } : State) [] (0 + 1) (0 + 6) := ⟨e1, e2⟩
    have h3 := X.same.trans h2
    rw [List.append_nil] at h3
    exact h3.mono hc hs
  refine ⟨U, ?_, .threw T.heap.size, hrun, hend, Or.inr ⟨T.heap.size, rfl, cls, ce, locs, hx U hWs.alike f1 (fun q hq => f2 q hq (fun z hz => nomatch hz)), hce, hO.vm, hcl, hWs, hall, hf⟩⟩
  refine st1 _ ?_
  show Steps p.tables e below (T1.setTop { method := m, pc := pc + 3, locals := ls, stack := .ref T.heap.size :: rest, locked := none }) _
  jvm_step X₁.here [X₁.here.top, hexec, d3', Value.category]
  exact hsteps
/-- 'throw new E("text")': new; dup; ldc; invokespecial; athrow -/
theorem vx_throwS {cc : ByteArray} {pc : Nat} (hexec : p.tables.exec = Jvm.exec) (hb : c.code = cc) (hl : l.stackTraces = false) {own cls text : String} {names : List String} {ik is ic mc ms sa : Nat} {A : Nat → Prop}
    (hown : s.vm.findClass own = some m.cls) (hcls : Bundle.fit cls = true) (hnames : ∀ n ∈ names, Bundle.fit n = true)
    (hk : (Cond.classLink own ik cls).before args s = true) (hini : (Cond.initialized cls).before args s = true) (hstr : vk_R own is text sa s) (hat : ∀ w ∈ vx_atS own ic cls names, w.before args s = true)
    (hgood : ∀ w ∈ Cond.classLink own ik cls :: Cond.initialized cls :: vx_atS own ic cls names, vx_ot w = true)
    (hU : vx_Zq Bundle.tN "UNASSIGNED_STACK" Bundle.steD A s s.heap) (hN : vx_Zq Bundle.tN "SUPPRESSED_SENTINEL" Bundle.listD A s s.heap) (hS : va_S A s.heap H locs) (hsize : ls.size = c.maxLocals)
    (d0 : decode cc pc = .ok (.new ik, 3)) (d3 : decode cc (pc + 3) = .ok (.dup, 1)) (d4 : decode cc (pc + 4) = .ok (.ldc is, 2)) (d6 : decode cc (pc + 6) = .ok (.invokespecial ic, 3)) (d9 : decode cc (pc + 9) = .ok (.athrow, 1))
    (hout : ∀ x ∈ c.exceptionTable.toList, covers x (pc + 9) = false)
    (hRframes : names.length + 3 < R.frames) (hRlocals : (rest.map fun v => v.category).sum + (13 * (names.length + 1) + 43) ≤ R.locals) (hRcells : cells + 1 ≤ R.cells) (hRslots : slots + 6 ≤ R.slots) (hlocks : meth.locks = false)
    (hx : ∀ t : State, s.vm.Alike t.vm → H.size ≤ t.heap.size → (∀ q : Nat, q < H.size → t.heap[q]? = H[q]?) → XC cls s t)
    (hf : ∀ z ∈ locs, free z.base) (hc : cells + 1 ≤ mc) (hs : slots + 6 ≤ ms) :
    W p l e R s m args below meth c H locs cells slots (vx_MQ below Qc XC args s mc ms free) (F0 m pc ls rest) := by
  intro T hT X
  have htr : e.platform.stackTraces = false := (show e.platform.stackTraces = l.stackTraces by rw [X.admits.platform]).trans hl
  have Y := vx_rebase X (R' := { frames := R.frames, locals := R.locals, cells := 1, slots := 6 }) (Nat.le_refl _) (Nat.le_refl _) hRcells hRslots
  obtain ⟨s', hA⟩ : ∃ z, z = (T.setVm s.vm).setFrames (.invoking m args :: below) := ⟨_, rfl⟩
  rw [← hA] at Y
  have hvm : s'.vm = s.vm := by rw [hA]; rfl
  have hhp : s'.heap = H := by rw [hA]; exact hT
  have hW0 : s.WarmedH s'.vm := by rw [hvm]; exact State.WarmedH.refl s
  have hat' : ∀ w ∈ vx_atS own ic cls names, w.before args s' = true := fun w hw => vx_ot_at hW0 hvm.symm (hgood w (List.mem_cons_of_mem _ (List.mem_cons_of_mem _ hw))) (hat w hw)
  have hk' : (Cond.classLink own ik cls).before args s' = true := vx_ot_at hW0 hvm.symm (hgood _ List.mem_cons_self) hk
  have hini' : (Cond.initialized cls).before args s' = true := vx_ot_at hW0 hvm.symm (hgood _ (List.mem_cons_of_mem _ List.mem_cons_self)) hini
  have hU' : vx_Zq Bundle.tN "UNASSIGNED_STACK" Bundle.steD A s' s'.heap := by rw [hhp]; exact vx_Zq.moved hW0.alike (hU.kept hS.2.1)
  have hN' : vx_Zq Bundle.tN "SUPPRESSED_SENTINEL" Bundle.listD A s' s'.heap := by rw [hhp]; exact vx_Zq.moved hW0.alike (hN.kept hS.2.1)
  have h : ∀ w ∈ Bundle.ownAtoms own ic cls names, w.before args s' = true := vx_own hat' (vx_isRefq hU'.1) (vx_isRefq hN'.1) hU'.2.word hN'.2.word
  have hown' : s'.vm.findClass own = some m.cls := by rw [hvm]; exact hown
  have hins : (Cond.instantiable cls 6).before args s' = true := h _ (by simp [Bundle.ownAtoms])
  obtain ⟨vm₁, cX, kX, hfX, hkX, -, -, X₁, st1⟩ := Y.newCold hexec (own := own) (C := cls) (index := ik) (n := 6) hown' hk' hins hini'
    (g := F0 m pc ls rest) rfl (by rw [hb]; exact d0) (Nat.le_refl _) (Nat.le_refl _)
  generalize hT1 : (T.setVm vm₁).pushCell { cls := cX, slots := kX.instanceTypes.map defaultValue, vm := .none } = T1 at X₁ st1
  have hcat : (Value.ref T.heap.size).category = 1 := rfl
  have hcellA : T1.heap[T.heap.size]? = some (freshCell cX kX) := by rw [← hT1]; exact State.heap_pushCell_size _ _
  have d3' : decode c.code (pc + 3) = .ok (.dup, 1) := by rw [hb]; exact d3
  have d4' : decode c.code (pc + 4) = .ok (.ldc is, 2) := by rw [hb]; exact d4
  have hstr' : vk_R own is text sa s' := vk_R.warm hW0 hstr
  obtain ⟨U, hsteps, hrun, hend, hW, hsame, ce, hce, hO⟩ := X₁.ctorThrowS hexec htr (own := own) (cls := cls) (names := names) (ic := ic) hown' hcls hnames h (fun x hx => nomatch hx) hfX hkX hcellA (by rw [hhp, hT]; exact Nat.le_refl _) (msg := .ref sa) rfl
    (g := { method := m, pc := pc + 6, locals := ls, stack := .ref sa :: .ref T.heap.size :: .ref T.heap.size :: rest, locked := none }) rfl hsize rfl rfl (rest := rest) rfl
    (by rw [hb]; exact d6) (by rw [hb]; exact d9) hout hRframes (by simp only [List.map_cons, List.sum_cons, hcat]; omega) hlocks
  obtain ⟨f1, f2⟩ := vx_frame hsame
  rw [hhp] at f1 f2
  have hWs : s.WarmedH U.vm := State.WarmedH.trans hW0 hW
  have hcl : s.vm.findClass cls = some ce.cls := by
    have h9 := hO.cls
    rw [hvm] at h9
    exact h9
  have hall : s.sameButNew ({ U with vm := s.vm } : State) locs mc ms := by
    subst hA
    obtain ⟨e1, e2⟩ := hsame
    rw [State.setFrames_setFrames] at e1
    have h2 : (T.setVm s.vm).sameButNew ({ U with vm := s.vm } : State) [] (0 + 1) (0 + 6) := ⟨e1, e2⟩
    have h3 := X.same.trans h2
    rw [List.append_nil] at h3
    exact h3.mono hc hs
  refine ⟨U, ?_, .threw T.heap.size, hrun, hend, Or.inr ⟨T.heap.size, rfl, cls, ce, locs, hx U hWs.alike f1 (fun q hq => f2 q hq (fun z hz => nomatch hz)), hce, hO.vm, hcl, hWs, hall, hf⟩⟩
  refine st1 _ ?_
  show Steps p.tables e below (T1.setTop { method := m, pc := pc + 3, locals := ls, stack := .ref T.heap.size :: rest, locked := none }) _
  jvm_step X₁.here [X₁.here.top, hexec, d3', Value.category]
  exact X₁.ldcString hexec (own := own) (text := text) (index := is) (a := sa) hown' hstr'.1 hstr'.2
    (g := { method := m, pc := pc + 4, locals := ls, stack := .ref T.heap.size :: .ref T.heap.size :: rest, locked := none }) rfl d4' _ hsteps
/-- 'throw new E("text")', the text by a wide index -/
theorem vx_throwSW {cc : ByteArray} {pc : Nat} (hexec : p.tables.exec = Jvm.exec) (hb : c.code = cc) (hl : l.stackTraces = false) {own cls text : String} {names : List String} {ik is ic mc ms sa : Nat} {A : Nat → Prop}
    (hown : s.vm.findClass own = some m.cls) (hcls : Bundle.fit cls = true) (hnames : ∀ n ∈ names, Bundle.fit n = true)
    (hk : (Cond.classLink own ik cls).before args s = true) (hini : (Cond.initialized cls).before args s = true) (hstr : vk_R own is text sa s) (hat : ∀ w ∈ vx_atS own ic cls names, w.before args s = true)
    (hgood : ∀ w ∈ Cond.classLink own ik cls :: Cond.initialized cls :: vx_atS own ic cls names, vx_ot w = true)
    (hU : vx_Zq Bundle.tN "UNASSIGNED_STACK" Bundle.steD A s s.heap) (hN : vx_Zq Bundle.tN "SUPPRESSED_SENTINEL" Bundle.listD A s s.heap) (hS : va_S A s.heap H locs) (hsize : ls.size = c.maxLocals)
    (d0 : decode cc pc = .ok (.new ik, 3)) (d3 : decode cc (pc + 3) = .ok (.dup, 1)) (d4 : decode cc (pc + 4) = .ok (.ldc_w is, 3)) (d7 : decode cc (pc + 7) = .ok (.invokespecial ic, 3)) (d10 : decode cc (pc + 10) = .ok (.athrow, 1))
    (hout : ∀ x ∈ c.exceptionTable.toList, covers x (pc + 10) = false)
    (hRframes : names.length + 3 < R.frames) (hRlocals : (rest.map fun v => v.category).sum + (13 * (names.length + 1) + 43) ≤ R.locals) (hRcells : cells + 1 ≤ R.cells) (hRslots : slots + 6 ≤ R.slots) (hlocks : meth.locks = false)
    (hx : ∀ t : State, s.vm.Alike t.vm → H.size ≤ t.heap.size → (∀ q : Nat, q < H.size → t.heap[q]? = H[q]?) → XC cls s t)
    (hf : ∀ z ∈ locs, free z.base) (hc : cells + 1 ≤ mc) (hs : slots + 6 ≤ ms) :
    W p l e R s m args below meth c H locs cells slots (vx_MQ below Qc XC args s mc ms free) (F0 m pc ls rest) := by
  intro T hT X
  have htr : e.platform.stackTraces = false := (show e.platform.stackTraces = l.stackTraces by rw [X.admits.platform]).trans hl
  have Y := vx_rebase X (R' := { frames := R.frames, locals := R.locals, cells := 1, slots := 6 }) (Nat.le_refl _) (Nat.le_refl _) hRcells hRslots
  obtain ⟨s', hA⟩ : ∃ z, z = (T.setVm s.vm).setFrames (.invoking m args :: below) := ⟨_, rfl⟩
  rw [← hA] at Y
  have hvm : s'.vm = s.vm := by rw [hA]; rfl
  have hhp : s'.heap = H := by rw [hA]; exact hT
  have hW0 : s.WarmedH s'.vm := by rw [hvm]; exact State.WarmedH.refl s
  have hat' : ∀ w ∈ vx_atS own ic cls names, w.before args s' = true := fun w hw => vx_ot_at hW0 hvm.symm (hgood w (List.mem_cons_of_mem _ (List.mem_cons_of_mem _ hw))) (hat w hw)
  have hk' : (Cond.classLink own ik cls).before args s' = true := vx_ot_at hW0 hvm.symm (hgood _ List.mem_cons_self) hk
  have hini' : (Cond.initialized cls).before args s' = true := vx_ot_at hW0 hvm.symm (hgood _ (List.mem_cons_of_mem _ List.mem_cons_self)) hini
  have hU' : vx_Zq Bundle.tN "UNASSIGNED_STACK" Bundle.steD A s' s'.heap := by rw [hhp]; exact vx_Zq.moved hW0.alike (hU.kept hS.2.1)
  have hN' : vx_Zq Bundle.tN "SUPPRESSED_SENTINEL" Bundle.listD A s' s'.heap := by rw [hhp]; exact vx_Zq.moved hW0.alike (hN.kept hS.2.1)
  have h : ∀ w ∈ Bundle.ownAtoms own ic cls names, w.before args s' = true := vx_own hat' (vx_isRefq hU'.1) (vx_isRefq hN'.1) hU'.2.word hN'.2.word
  have hown' : s'.vm.findClass own = some m.cls := by rw [hvm]; exact hown
  have hins : (Cond.instantiable cls 6).before args s' = true := h _ (by simp [Bundle.ownAtoms])
  obtain ⟨vm₁, cX, kX, hfX, hkX, -, -, X₁, st1⟩ := Y.newCold hexec (own := own) (C := cls) (index := ik) (n := 6) hown' hk' hins hini'
    (g := F0 m pc ls rest) rfl (by rw [hb]; exact d0) (Nat.le_refl _) (Nat.le_refl _)
  generalize hT1 : (T.setVm vm₁).pushCell { cls := cX, slots := kX.instanceTypes.map defaultValue, vm := .none } = T1 at X₁ st1
  have hcat : (Value.ref T.heap.size).category = 1 := rfl
  have hcellA : T1.heap[T.heap.size]? = some (freshCell cX kX) := by rw [← hT1]; exact State.heap_pushCell_size _ _
  have d3' : decode c.code (pc + 3) = .ok (.dup, 1) := by rw [hb]; exact d3
  have d4' : decode c.code (pc + 4) = .ok (.ldc_w is, 3) := by rw [hb]; exact d4
  have hstr' : vk_R own is text sa s' := vk_R.warm hW0 hstr
  obtain ⟨U, hsteps, hrun, hend, hW, hsame, ce, hce, hO⟩ := X₁.ctorThrowS hexec htr (own := own) (cls := cls) (names := names) (ic := ic) hown' hcls hnames h (fun x hx => nomatch hx) hfX hkX hcellA (by rw [hhp, hT]; exact Nat.le_refl _) (msg := .ref sa) rfl
    (g := { method := m, pc := pc + 7, locals := ls, stack := .ref sa :: .ref T.heap.size :: .ref T.heap.size :: rest, locked := none }) rfl hsize rfl rfl (rest := rest) rfl
    (by rw [hb]; exact d7) (by rw [hb]; exact d10) hout hRframes (by simp only [List.map_cons, List.sum_cons, hcat]; omega) hlocks
  obtain ⟨f1, f2⟩ := vx_frame hsame
  rw [hhp] at f1 f2
  have hWs : s.WarmedH U.vm := State.WarmedH.trans hW0 hW
  have hcl : s.vm.findClass cls = some ce.cls := by
    have h9 := hO.cls
    rw [hvm] at h9
    exact h9
  have hall : s.sameButNew ({ U with vm := s.vm } : State) locs mc ms := by
    subst hA
    obtain ⟨e1, e2⟩ := hsame
    rw [State.setFrames_setFrames] at e1
    have h2 : (T.setVm s.vm).sameButNew ({ U with vm := s.vm } : State) [] (0 + 1) (0 + 6) := ⟨e1, e2⟩
    have h3 := X.same.trans h2
    rw [List.append_nil] at h3
    exact h3.mono hc hs
  refine ⟨U, ?_, .threw T.heap.size, hrun, hend, Or.inr ⟨T.heap.size, rfl, cls, ce, locs, hx U hWs.alike f1 (fun q hq => f2 q hq (fun z hz => nomatch hz)), hce, hO.vm, hcl, hWs, hall, hf⟩⟩
  refine st1 _ ?_
  show Steps p.tables e below (T1.setTop { method := m, pc := pc + 3, locals := ls, stack := .ref T.heap.size :: rest, locked := none }) _
  jvm_step X₁.here [X₁.here.top, hexec, d3', Value.category]
  exact X₁.ldcStringW hexec (own := own) (text := text) (index := is) (a := sa) hown' hstr'.1 hstr'.2
    (g := { method := m, pc := pc + 4, locals := ls, stack := .ref T.heap.size :: .ref T.heap.size :: rest, locked := none }) rfl d4' _ hsteps
end Ends
section Bodies
variable {l : Launch}
theorem vx_ofW {y : MethodName} {ws ws' : List Cond} {rm : Room} {Pc : Array Value → State → Prop} {Qc : Array Value → State → Outcome → State → Prop} {XC : String → State → State → Prop} {mc ms : Nat} {free : Addr → Prop} {cc : ByteArray} {maxL : Nat} {ret : Option FieldType}
    (hy : plainName y.cls = true) (hw : ws = Cond.code y cc maxL ret :: ws')
    (body : ∀ p e s m args below meth c s₁, BodyLoose p l y (headSpec ws rm) cc maxL ret e s m args below meth c s₁ → c.maxLocals = maxL → (∀ x ∈ c.exceptionTable.toList, False) → Pc args s →
      W p l e (headSpec ws rm).room s m args below meth c s.heap [] 0 0 (vx_MQ below Qc XC args s mc ms free) (entryFrame m args maxL)) : vx_Met l y ws rm Pc Qc XC mc ms free := by
  refine MetFree.of_bodyS (code := cc) (maxLocals := maxL) (ret := ret) hy ?_ ?_
  · intro args s m h hn
    obtain ⟨meth, c, h1, h2, h3, h4, h5, h6, -, -⟩ := Cond.code_spec hn (atoms_spec (ws := ws) h _ (by rw [hw]; exact List.mem_cons_self))
    exact ⟨meth, c, h1, h2, h3, h4, h5, h6⟩
  · intro p e s m args below meth c s₁ B hml hP _
    have hh0 : s₁.heap = s.heap := by rw [B.state]; rfl
    have ht : ∀ x ∈ c.exceptionTable.toList, False := by
      obtain ⟨meth9, c9, h1, h2, -, -, -, -, h7, -⟩ := Cond.code_spec B.named (atoms_spec (ws := ws) B.pre _ (by rw [hw]; exact List.mem_cons_self))
      cases Option.some.inj (h1.symm.trans B.method)
      cases Option.some.inj (h2.symm.trans (Stand.of_body B).code)
      intro x hx
      rw [Array.isEmpty_iff.mp h7] at hx
      cases hx
    obtain ⟨t, a1, o, b1, b2, b3⟩ := body p e s m args below meth c s₁ B hml ht hP s₁ hh0 (Stand.of_body B)
    exact ⟨t, o, a1, b1, b2, b3⟩
/-- the table of a body with handlers -/
theorem vx_table {p : Program} {x y : MethodName} {S : Spec} {cc bytes : ByteArray} {maxL maxL' : Nat} {ret ret' : Option FieldType} {e : Env} {s s₁ : State} {m : MethodId} {args : Array Value} {below : List Frame} {meth : Method} {c : Code} {hh : List (Nat × Nat × Nat × Nat)}
    (B : BodyLoose p l y S cc maxL ret e s m args below meth c s₁) (h : (Cond.codeWith y bytes maxL' ret' hh).before args s = true) : c.exceptionTable.toList = tableOf hh := by
  obtain ⟨m9, meth9, c9, hn9, h1, h2, -, -, h6, -⟩ := Cond.codeWith_spec h
  cases Option.some.inj (hn9.symm.trans B.named)
  cases Option.some.inj (h1.symm.trans B.method)
  cases Option.some.inj (h2.symm.trans (Stand.of_body B).code)
  rw [← h6, table_eq]
end Bodies
end VXA
/-! ===== END ===== -/
/-! ===== BEGIN a static call of a method with an exception table ===== -/
section VXS
variable {p : Program} {l : Launch} {e : Env} {R : Room} {s : State} {m : MethodId} {args : Array Value} {below : List Frame} {meth : Method} {c : Code} {T : State} {H : Heap} {locs : List Loc} {cells slots : Nat}
abbrev vx_CSW (R : Room) (s : State) (args : Array Value) (own : String) (index : Nat) (y : MethodName) (bytes : ByteArray) (maxL : Nat) (ret : Option FieldType) (hh : List (Nat × Nat × Nat × Nat)) (ws : List Cond) (rm : Room) (mc ms n : Nat) : Prop :=
  (rm.cells = mc ∧ rm.slots = ms ∧ rm.frames + 1 ≤ R.frames ∧ 8 + (maxL + 11) + rm.locals ≤ R.locals ∧ (∀ w ∈ ws, ∀ (a' : Array Value) (U : State), s.WarmedH U.vm → w.before a' U = true) ∧ Cond.codeWith y bytes maxL ret hh ∈ ws) ∧
  (Cond.codeWith y bytes maxL ret hh).before args s = true ∧ (Cond.initialized y.cls).before args s = true ∧ (y.cls ≠ "java/lang/invoke/MethodHandle" ∧ y.cls ≠ "java/lang/invoke/VarHandle") ∧
  (∀ sig, parseMethodDescriptor y.desc = some sig → n = sig.parameters.length) ∧ (Cond.methodLink own index y).before args s = true ∧ (Cond.static y).before args s = true
theorem vx_cwSW {own : String} {index maxL mc ms : Nat} {y : MethodName} {bytes : ByteArray} {ret : Option FieldType} {hh : List (Nat × Nat × Nat × Nat)} {Ts ws ws' : List Cond} {rm : Room} (n : Nat) (ht : ∀ w ∈ Ts, w.before args s = true) (hT : GoodIn Ts (va_wsS own index y ws)) (hw : ws = Cond.codeWith y bytes maxL ret hh :: ws') (hrc : rm.cells = mc) (hrs : rm.slots = ms)
    (hd : y.cls ≠ "java/lang/invoke/MethodHandle" ∧ y.cls ≠ "java/lang/invoke/VarHandle" ∧ (parseMethodDescriptor y.desc).map (fun d => d.parameters.length) = some n) (hR : rm.frames + 1 ≤ R.frames ∧ 8 + (maxL + 11) + rm.locals ≤ R.locals) :
    vx_CSW R s args own index y bytes maxL ret hh ws rm mc ms n := by
  have ok : ∀ w ∈ va_wsS own index y ws, w.before args s = true := fun w h => ht w (hT w h).1
  have hG : GoodIn Ts ws := fun w h => hT w (by unfold va_wsS; exact List.mem_append_right _ h)
  have hc : Cond.codeWith y bytes maxL ret hh ∈ ws := by rw [hw]; exact List.mem_cons_self
  refine ⟨⟨hrc, hrs, hR.1, hR.2, pay_in ht hG, hc⟩, ht _ (hG _ hc).1, ok _ (by simp [va_wsS]), ⟨hd.1, hd.2.1⟩, fun sig h => ?_, ok _ (by simp [va_wsS]), ok _ (by simp [va_wsS])⟩
  have h2 := hd.2.2
  rw [h] at h2
  exact (Option.some.inj h2).symm
theorem vx_callSW (X : Stand p l e R s m args below meth c T locs cells slots) (hexec : p.tables.exec = Jvm.exec) {own : String} {index : Nat} {y : MethodName} {bytes : ByteArray} {maxL : Nat} {ret : Option FieldType} {hh : List (Nat × Nat × Nat × Nat)}
    (hown : s.vm.findClass own = some m.cls) (hlink : (Cond.methodLink own index y).before args s = true) (hstat : (Cond.static y).before args s = true) (hinit : (Cond.initialized y.cls).before args s = true)
    (hcode : (Cond.codeWith y bytes maxL ret hh).before args s = true) (hy : y.cls ≠ "java/lang/invoke/MethodHandle" ∧ y.cls ≠ "java/lang/invoke/VarHandle")
    {W9 : Nat} {Pre : Pt → Array Value → Prop} {Post : Pt → Array Value → Option Value → Pt → Prop} (hK : Back l R p e below s args y 3 W9 Pre Post)
    {g : JFrame} (hg : g.method = m) (hsize : g.locals.size = c.maxLocals) {argsL rest : List Value} (hlen : ∀ sig, parseMethodDescriptor y.desc = some sig → argsL.length = sig.parameters.length)
    (hstack : g.stack = argsL.reverse ++ rest) (hW : 2 * g.monitorRoom + (rest.map fun v => v.category).sum ≤ W9) (hdg : decode c.code g.pc = .ok (.invokestatic index, 3))
    (hpre : ∀ vm₁, s.WarmedH vm₁ → Pre ⟨T.setVm vm₁, locs, cells, slots⟩ argsL.toArray) :
    ∃ (v : Option Value) (vm₁ : Vm) (B : Pt), s.WarmedH vm₁ ∧ Stand p l e R s m args below meth c B.U B.locs B.cells B.slots ∧ Post ⟨T.setVm vm₁, locs, cells, slots⟩ argsL.toArray v B ∧
      ∀ target, Steps p.tables e below (B.U.setTop { g with pc := g.pc + 3, stack := v.toList ++ rest }) target → Steps p.tables e below (T.setTop g) target := by
  obtain ⟨mk, methM, cM, hnamed, hmethM, -, -, -, -, -, -, hsigM⟩ := Cond.codeWith_spec hcode
  have hstatic : methM.isStatic = true := Cond.static_spec hnamed hmethM hstat
  obtain ⟨kP, hkP, -⟩ := className_of_methodNamed hnamed
  have hinitP : kP.init = .initialized := Cond.initialized_spec (findClass_of_methodNamed hnamed) hkP hinit
  obtain ⟨vm₁, X₁, hstep₁⟩ := X.invokestatic hexec hown hlink hnamed hmethM hstatic hkP hinitP hy (g := g) hg (argsL := argsL) (rest := rest) (hlen _ hsigM) hstack hdg
  obtain ⟨v, B, X', hpost, hsteps⟩ := hK m meth c ⟨T.setVm vm₁, locs, cells, slots⟩ { g with stack := rest } (.invokestatic index) mk argsL.toArray X₁ hg hsize hdg hW (X₁.named hnamed) (hpre vm₁ X₁.warmed)
  exact ⟨v, vm₁, B, X₁.warmed, X', hpost, fun target h => hstep₁ _ fun acts => by rw [doInvoke_state]; exact hsteps.trans h⟩
theorem vx_runSW {y : MethodName} {bytes cc : ByteArray} {maxL nL mc ms n index : Nat} {ret : Option FieldType} {hh : List (Nat × Nat × Nat × Nat)} {ws : List Cond} {rm : Room} {Pc : Array Value → State → Prop} {Qc : Array Value → State → Outcome → State → Prop} {free : Addr → Prop} {Ts : List Cond} {own : String} {As rest : List Value} {g : JFrame}
    (S : CallFix p m c cc nL s args Ts own) (hM : Met l y ws rm Pc Qc mc ms free) (cw : vx_CSW R s args own index y bytes maxL ret hh ws rm mc ms n) (hp : PreS s H Pc As)
    (hg : g.method = m) (hn : As.length = n) (hsize : g.locals.size = nL) (hstack : g.stack = As.reverse ++ rest) (hW : 2 * g.monitorRoom + (rest.map fun v => v.category).sum ≤ 8) (hdg : decode cc g.pc = .ok (.invokestatic index, 3)) (hf : cells + mc ≤ R.cells ∧ slots + ms ≤ R.slots) :
    va_Run p l e R s m args below meth c H locs cells slots mc ms g rest (Qc As.toArray) (free) := by
  obtain ⟨⟨hrc, hrs, hfr, hlo, hws, hcw⟩, hcode, hini, hy, hlen, hl, hstt⟩ := cw
  have hK : Back l R p e below s args y 3 8 (PreOf R mc ms Pc) (PostOf Qc mc ms free) := va_backW (hh := hh) (bytes := bytes) (maxL := maxL) (ret := ret) hM hp.1 hrc hrs hfr hlo hws hcw (fun a' U hW => word_at hW (Or.inl (by first | rfl | simp [Cond.onTables, Cond.keeps, Cond.steady])) hini)
  obtain ⟨hx, hb, hml, ho, -⟩ := S
  intro T hT X
  obtain ⟨v, vm₁, ⟨U', l2, c2, s2⟩, hW₁, X', ⟨g', mk, t, L, e1, e2, hq, h1, hL, h2, h3⟩, st⟩ := vx_callSW X hx (hh := hh) (bytes := bytes) (maxL := maxL) (ret := ret) ho hl hstt hini hcode hy hK hg (hsize.trans hml.symm) (argsL := As) (rest := rest) (fun sig h => hn.trans (hlen sig h)) hstack hW (by rw [hb]; exact hdg)
    (fun vm₁ hW₁ => ⟨hf.1, hf.2, hp.2 (T.setVm vm₁) hT hW₁⟩)
  dsimp only [Pt.U, Pt.locs, Pt.cells, Pt.slots] at X' e1 e2 h1 h2 h3 st
  subst h1; subst h2; subst h3
  exact ⟨v, (T.setVm vm₁).calling g' mk As.toArray, t, U', L, hT, X', hL, e1, e2, hq, st⟩
/-- not caught here, past rows that name other classes: it goes on to the caller -/
theorem vx_outP {p : Program} {l : Launch} {e : Env} {R : Room} {s : State} {m : MethodId} {args : Array Value} {below : List Frame} {meth : Method} {c : Code} {H : Heap} {locs : List Loc} {cells slots : Nat} {free : Addr → Prop} {ls : Array Slot} {rest : List Value} {Qc : Array Value → State → Outcome → State → Prop} {XC : String → State → State → Prop}
    {pc : Nat} {own E : String} {ce : Cell} {q : Addr} {mc ms : Nat} (hown : s.vm.findClass own = some m.cls) (hlocks : meth.locks = false)
    (hpass : ∀ z ∈ c.exceptionTable.toList, covers z pc = false ∨ (z.catchType ≠ 0 ∧ ∃ nm : String, (Cond.classLink own z.catchType nm).before args s = true ∧ va_Nc E nm s)) (hcell : H[q]? = some ce) (hv : ce.vm = .none) (hcl : s.vm.findClass E = some ce.cls)
    (hx : ∀ t : State, t.heap = H → s.vm.Alike t.vm → XC E s t) (hf : ∀ z ∈ locs, free z.base) (hc : cells ≤ mc) (hs : slots ≤ ms) :
    vx_W p l e R s m args below meth c H locs cells slots (vx_MQ below Qc XC args s mc ms free) (F0 m pc ls rest) q := by
  intro T hT X
  have hpl : e.platform.magicAccessors = ({} : Platform).magicAccessors := by rw [X.admits.platform]
  obtain ⟨vm', hW', X', st⟩ := X.outThrough hlocks q (g := F0 m pc ls rest) rfl rfl rfl (cell := ce) (by rw [hT]; exact hcell) (by rw [hv]; rfl)
    (by obtain ⟨k9, h9, -⟩ := Vm.findClass_spec hcl; exact ⟨k9, h9⟩) (fun z hz => by
      rcases hpass z hz with h | ⟨hz0, nm, hl1, hn1⟩
      · exact Or.inl h
      · obtain ⟨c6, hc6, hcl6⟩ := Cond.classLink_spec hown hl1 e.platform hpl
        obtain ⟨a8, b8, h1, h2, h3⟩ := hn1
        cases Option.some.inj (h1.symm.trans hcl)
        cases Option.some.inj (h2.symm.trans hc6)
        exact Or.inr ⟨hz0, _, hcl6, h3⟩)
  obtain ⟨g₀, hfr⟩ := X'.frames_eq
  have hcell9 : ((T.setVm vm').setFrames (.throwing q :: below)).heap[q]? = some ce := by
    show T.heap[q]? = some ce
    rw [hT]; exact hcell
  have hend : Ended ((T.setVm vm').setFrames (.throwing q :: below)) below (.threw q) := State.frames_setFrames _ (State.cur_lt_of_frames hfr)
  refine ⟨(T.setVm vm').setFrames (.throwing q :: below), ?_, .threw q, X'.here.running, hend, Or.inr ⟨q, rfl, E, ce, locs, hx _ hT (X'.ends _).1.alike, hcell9, hv, hcl, (X'.ends _).1, (X'.ends _).2.mono hc hs, hf⟩⟩
  rw [X.pushThrowing_eq]
  exact st
/-- a thing of a world lies in the heap -/
theorem vx_lt {D : va_G} {cl : List vw_C} {ws : va_W} {H1 : Heap} (h : va_P D cl ws H1) {k : Nat} {q : Nat × va_E} (hk : ws[k]? = some q) : q.1 < H1.size := (h k q hk).lt
end VXS
/-! ===== END ===== -/
/-! ===== BEGIN methods with a table of their own: called by a name, returning or throwing ===== -/
section VXH
/-! vx_backW, vx_callVX, vx_callSX, vx_callVW, vx_runVW, vx_runVX, vx_runSX, vx_ofWH follow the same proofs as their sisters above (Free/Laws.lean, Shelf42/LK1.lean); vx_outP calls Shelf42/NT130.lean (outThrough). -/
section
variable {l : Launch} {R : Room} {p : Program} {e : Env} {below : List Frame} {s : State} {sargs : Array Value} {y : MethodName} {len W9 : Nat}
theorem vx_backW {ws : List Cond} {rm : Room} {Pc : Array Value → State → Prop} {Qc : Array Value → State → Outcome → State → Prop} {XC : String → State → State → Prop} {mc ms : Nat} {free : Addr → Prop} {bytes : ByteArray} {maxL : Nat} {ret : Option FieldType} {hh : List (Nat × Nat × Nat × Nat)}
    (hM : vx_Met l y ws rm Pc Qc XC mc ms free) (hblind : FrameBlind Pc) (hrc : rm.cells = mc) (hrs : rm.slots = ms)
    (hframes : rm.frames + 1 ≤ R.frames) (hlocals : W9 + (maxL + 11) + rm.locals ≤ R.locals)
    (hws : ∀ w ∈ ws, ∀ a' U, s.WarmedH U.vm → w.before a' U = true) (hcode : Cond.codeWith y bytes maxL ret hh ∈ ws) (hinit : ∀ a' U, s.WarmedH U.vm → (Cond.initialized y.cls).before a' U = true) :
    vx_Back l R p e below s sargs y len W9 (PreOf R mc ms Pc) (PostOf Qc mc ms free) (vx_Post XC mc ms free) := by
  intro m meth c A g ig mk a X hg hsize hdg hW hn hp
  have h1 : (headSpec ws rm).pre.before a A.U = true := atoms_intro fun w hw => hws w hw _ _ X.warmed
  have h2 : (Cond.codeWith y bytes maxL ret hh).before a A.U = true := hws _ hcode _ _ X.warmed
  have h3 : (Cond.initialized y.cls).before a A.U = true := hinit _ _ X.warmed
  have h4 : A.cells + (headSpec ws rm).room.cells ≤ R.cells := by rw [show (headSpec ws rm).room.cells = mc from hrc]; exact hp.1
  have h5 : A.slots + (headSpec ws rm).room.slots ≤ R.slots := by rw [show (headSpec ws rm).room.slots = ms from hrs]; exact hp.2.1
  have hPc : Pc a (A.U.calling g mk a) := hblind _ _ _ _ hp.2.2
  obtain ⟨U, Ls, c0, s0⟩ := A
  dsimp only [Pt.U, Pt.locs, Pt.cells, Pt.slots] at h1 h2 h3 h4 h5 X hn hPc ⊢
  obtain ⟨m9, methY, cY, hn9, hmY, hcY, -, hlY, -⟩ := Cond.codeWith_spec h2
  cases Option.some.inj (hn9.symm.trans hn)
  obtain ⟨kY, hkY, -⟩ := className_of_methodNamed hn
  have hinitY : kY.init = .initialized := Cond.initialized_spec (findClass_of_methodNamed hn) hkY h3
  have h : At U g.method c below := by rw [hg]; exact X.here
  have hlocals9 : W9 + (maxL + 11) + (headSpec ws rm).room.locals ≤ R.locals := hlocals
  have happ : (headSpec ws rm).appliesLoose y e.platform (U.calling g mk a) = true :=
    Spec.appliesLoose_calling (g := g) h hdg hn hkY hinitY
      (X.room_calling (g := g) (R' := (headSpec ws rm).room) hsize hmY hcY hframes (by rw [hlY]; omega) h4 h5) h1
  obtain ⟨mid, hmid⟩ := h.above
  have hfr : (U.setTop g).frames = (.java g :: mid) ++ below := by rw [State.frames_setTop' g h.top, hmid]; rfl
  obtain ⟨o, s₂, hsteps, -, hend, hq⟩ := Steps.callFree hM p X.admits X.cas X.clock (acts := []) hfr happ hPc trivial
  have hq' : vx_Q Qc XC mc ms free a (U.calling g mk a) o s₂ := hq
  rw [State.frames_setTop' g h.top] at hend
  obtain ⟨g₀, hg0⟩ := Option.isSome_iff_exists.mp h.top
  obtain ⟨r, hr⟩ := State.topJava?_eq_some.mp hg0
  have hr' : (({ U with heap := s₂.heap, slotsUsed := s₂.slotsUsed } : State).setVm s₂.vm).frames = .java g₀ :: r := hr
  rcases hq' with ⟨hqc, L, hfe, hL⟩ | ⟨q, rfl, E, ce, L, hx, hce, hcv, hcl, hW₂, hsm, hL⟩
  · obtain ⟨⟨v, rfl⟩, hW₂, e2, q2, q3, q4, q5, q6⟩ := id hfe
    have e3 : s₂ = ({ (U.calling g mk a).setFrames s₂.frames with heap := s₂.heap, slotsUsed := s₂.slotsUsed } : State).setVm s₂.vm := by
      have : s₂ = ({ s₂ with vm := (U.calling g mk a).vm } : State).setVm s₂.vm := rfl
      rw [e2] at this
      exact this
    obtain ⟨c₂, i₂, len₂, hc₂, hd₂, hf₂⟩ := hend
    have hW' : U.WarmedH s₂.vm := hW₂
    have hcc : c₂ = c := by
      have h1 : s₂.code? g.method = U.code? g.method := by
        rw [State.code?_eq, State.code?_eq, hW'.alike.method?]
      exact Option.some.inj (hc₂.symm.trans (h1.trans h.code))
    subst hcc
    have hlen : len₂ = len := by rw [hdg] at hd₂; cases hd₂; rfl
    subst hlen
    have hs₂ : s₂ = (({ U with heap := s₂.heap, slotsUsed := s₂.slotsUsed } : State).setVm s₂.vm).setTop { g with pc := g.pc + len₂, stack := v.toList ++ g.stack } := by
      refine e3.trans ?_
      rw [hf₂, State.calling_eq h.top, State.setFrames_setFrames, State.setTop_of_frames _ hr', hr]
      rfl
    have hsame : U.sameButNew ({ U with heap := s₂.heap, slotsUsed := s₂.slotsUsed } : State) L mc ms := by
      refine ⟨?_, q2, q3, q4, q5, q6⟩
      obtain ⟨t, ht, -⟩ := State.frames_cons hr
      show ({ U with heap := s₂.heap, slotsUsed := s₂.slotsUsed } : State) = { U.setFrames U.frames with heap := s₂.heap, slotsUsed := s₂.slotsUsed }
      rw [State.setFrames_self ht]
    subst hg
    refine Or.inl ⟨v, ⟨(({ U with heap := s₂.heap, slotsUsed := s₂.slotsUsed } : State).setVm s₂.vm), Ls ++ L, c0 + mc, s0 + ms⟩,
      ⟨X.admits, X.cas, X.clock, X.frames, X.room, X.hears, X.method, X.code, (X.here.setHeapUsed s₂.heap s₂.slotsUsed).setVm hW'.alike, X.tail, State.WarmedH.trans X.warmed hW', X.limits, X.bytes, X.same.trans (hsame.setVm s.vm)⟩,
      ⟨g, mk, s₂, L, rfl, rfl, hqc, rfl, hL, rfl, rfl⟩, ?_⟩
    show Steps p.tables e below _ ((({ U with heap := s₂.heap, slotsUsed := s₂.slotsUsed } : State).setVm s₂.vm).setTop { g with pc := g.pc + len₂, stack := v.toList ++ g.stack })
    rw [← hs₂]
    exact hsteps
  · obtain ⟨e2, q2, q3, q4, q5, q6⟩ := id hsm
    have e3 : s₂ = ({ (U.calling g mk a).setFrames s₂.frames with heap := s₂.heap, slotsUsed := s₂.slotsUsed } : State).setVm s₂.vm := by
      have : s₂ = ({ s₂ with vm := (U.calling g mk a).vm } : State).setVm s₂.vm := rfl
      rw [e2] at this
      exact this
    have hf₂ : s₂.frames = .throwing q :: .java g :: U.frames.tail := hend
    have hW' : U.WarmedH s₂.vm := hW₂
    have hs₂ : s₂ = ((({ U with heap := s₂.heap, slotsUsed := s₂.slotsUsed } : State).setVm s₂.vm).setTop g).pushFrame (.throwing q) := by
      refine e3.trans ?_
      rw [hf₂, State.calling_eq h.top, State.setFrames_setFrames, State.pushFrame, State.frames_setTop _ hr', State.setTop_of_frames _ hr', State.setFrames_setFrames, hr]
      rfl
    have hsame : U.sameButNew ({ U with heap := s₂.heap, slotsUsed := s₂.slotsUsed } : State) L mc ms := by
      refine ⟨?_, q2, q3, q4, q5, q6⟩
      obtain ⟨t, ht, -⟩ := State.frames_cons hr
      show ({ U with heap := s₂.heap, slotsUsed := s₂.slotsUsed } : State) = { U.setFrames U.frames with heap := s₂.heap, slotsUsed := s₂.slotsUsed }
      rw [State.setFrames_self ht]
    subst hg
    refine Or.inr ⟨q, ⟨(({ U with heap := s₂.heap, slotsUsed := s₂.slotsUsed } : State).setVm s₂.vm), Ls ++ L, c0 + mc, s0 + ms⟩,
      ⟨X.admits, X.cas, X.clock, X.frames, X.room, X.hears, X.method, X.code, (X.here.setHeapUsed s₂.heap s₂.slotsUsed).setVm hW'.alike, X.tail, State.WarmedH.trans X.warmed hW', X.limits, X.bytes, X.same.trans (hsame.setVm s.vm)⟩,
      ⟨g, mk, s₂, L, E, ce, rfl, rfl, hx, hce, hcv, hcl, rfl, hL, rfl, rfl⟩, ?_⟩
    show Steps p.tables e below _ (((({ U with heap := s₂.heap, slotsUsed := s₂.slotsUsed } : State).setVm s₂.vm).setTop g).pushFrame (.throwing q))
    rw [← hs₂]
    exact hsteps
end
variable {p : Program} {l : Launch} {e : Env} {R : Room} {s : State} {m : MethodId} {args : Array Value} {below : List Frame} {meth : Method} {c : Code} {T : State} {H : Heap} {locs : List Loc} {cells slots : Nat}
theorem vx_callVX (X : Stand p l e R s m args below meth c T locs cells slots) (hexec : p.tables.exec = Jvm.exec) {own C : String} {index : Nat} {y : MethodName} {bytes : ByteArray} {maxL : Nat} {ret : Option FieldType} {hh : List (Nat × Nat × Nat × Nat)}
    (hown : s.vm.findClass own = some m.cls) (hlink : (Cond.methodLink own index y).before args s = true) (hinst : (Cond.instanceMethod y).before args s = true) (hsel : (Cond.selects C y y).before args s = true)
    (hcode : (Cond.codeWith y bytes maxL ret hh).before args s = true) (hy : y.cls ≠ "java/lang/invoke/MethodHandle" ∧ y.cls ≠ "java/lang/invoke/VarHandle")
    {W9 : Nat} {Pre : Pt → Array Value → Prop} {Post : Pt → Array Value → Option Value → Pt → Prop} {PostX : Pt → Array Value → Addr → Pt → Prop} (hK : vx_Back l R p e below s args y 3 W9 Pre Post PostX)
    {b : Addr} {cellB : Cell} (hcell : T.heap[b]? = some cellB) (hobj : cellB.vm.isStatics = false) (hcls : s.vm.findClass C = some cellB.cls)
    {g : JFrame} (hg : g.method = m) (hsize : g.locals.size = c.maxLocals) {argsL rest : List Value} (hlen : ∀ sig, parseMethodDescriptor y.desc = some sig → argsL.length = sig.parameters.length)
    (hstack : g.stack = argsL.reverse ++ .ref b :: rest) (hW : 2 * g.monitorRoom + (rest.map fun v => v.category).sum ≤ W9) (hdg : decode c.code g.pc = .ok (.invokevirtual index, 3))
    (hpre : ∀ vm₁, s.WarmedH vm₁ → Pre ⟨T.setVm vm₁, locs, cells, slots⟩ (Value.ref b :: argsL).toArray) :
    (∃ (v : Option Value) (vm₁ : Vm) (B : Pt), s.WarmedH vm₁ ∧ Stand p l e R s m args below meth c B.U B.locs B.cells B.slots ∧ Post ⟨T.setVm vm₁, locs, cells, slots⟩ (Value.ref b :: argsL).toArray v B ∧
      ∀ target, Steps p.tables e below (B.U.setTop { g with pc := g.pc + 3, stack := v.toList ++ rest }) target → Steps p.tables e below (T.setTop g) target) ∨
    (∃ (q : Addr) (vm₁ : Vm) (B : Pt), s.WarmedH vm₁ ∧ Stand p l e R s m args below meth c B.U B.locs B.cells B.slots ∧ PostX ⟨T.setVm vm₁, locs, cells, slots⟩ (Value.ref b :: argsL).toArray q B ∧
      Steps p.tables e below (T.setTop g) ((B.U.setTop { g with stack := rest }).pushFrame (.throwing q))) := by
  obtain ⟨mk, methM, hnamed, hmethM, hstM, habM⟩ := Cond.instanceMethod_spec hinst
  obtain ⟨m8, methM', cM, hn8, hmethM', -, -, -, -, -, -, hsigM⟩ := Cond.codeWith_spec hcode
  cases Option.some.inj (hn8.symm.trans hnamed)
  cases hmethM.symm.trans hmethM'
  obtain ⟨c2, r2, m2, q1, q2, q3, q4, kP, hkP, hkPi⟩ := Cond.selects_spec hsel
  cases hcls.symm.trans q1
  cases (State.methodFound?_of_named hnamed hy).symm.trans q2
  cases hnamed.symm.trans q3
  have hselP : selectMethod e.platform s.vm cellB.cls mk = .method mk := by rw [Launch.admits_selectMethod X.admits]; exact q4
  obtain ⟨vm₁, X₁, hstep₁⟩ := X.invokevirtual hexec hown hlink hnamed hmethM hstM hkP hkPi hy (a := b) (cell := cellB) hcell
    (fun z h => by rw [h] at hobj; cases hobj) hselP hmethM habM hkP hkPi (g := g) hg (argsL := argsL) (rest := rest) (hlen _ hsigM) hstack hdg
  rcases hK m meth c ⟨T.setVm vm₁, locs, cells, slots⟩ { g with stack := rest } (.invokevirtual index) mk (Value.ref b :: argsL).toArray X₁ hg hsize hdg hW (X₁.named hnamed) (hpre vm₁ X₁.warmed) with ⟨v, B, X', hpost, hsteps⟩ | ⟨q, B, X', hpost, hsteps⟩
  · exact Or.inl ⟨v, vm₁, B, X₁.warmed, X', hpost, fun target h => hstep₁ _ fun acts => by rw [doInvoke_state]; exact hsteps.trans h⟩
  · exact Or.inr ⟨q, vm₁, B, X₁.warmed, X', hpost, hstep₁ _ fun acts => by rw [doInvoke_state]; exact hsteps⟩
theorem vx_callSX (X : Stand p l e R s m args below meth c T locs cells slots) (hexec : p.tables.exec = Jvm.exec) {own : String} {index : Nat} {y : MethodName} {bytes : ByteArray} {maxL : Nat} {ret : Option FieldType} {hh : List (Nat × Nat × Nat × Nat)}
    (hown : s.vm.findClass own = some m.cls) (hlink : (Cond.methodLink own index y).before args s = true) (hstat : (Cond.static y).before args s = true) (hinit : (Cond.initialized y.cls).before args s = true)
    (hcode : (Cond.codeWith y bytes maxL ret hh).before args s = true) (hy : y.cls ≠ "java/lang/invoke/MethodHandle" ∧ y.cls ≠ "java/lang/invoke/VarHandle")
    {W9 : Nat} {Pre : Pt → Array Value → Prop} {Post : Pt → Array Value → Option Value → Pt → Prop} {PostX : Pt → Array Value → Addr → Pt → Prop} (hK : vx_Back l R p e below s args y 3 W9 Pre Post PostX)
    {g : JFrame} (hg : g.method = m) (hsize : g.locals.size = c.maxLocals) {argsL rest : List Value} (hlen : ∀ sig, parseMethodDescriptor y.desc = some sig → argsL.length = sig.parameters.length)
    (hstack : g.stack = argsL.reverse ++ rest) (hW : 2 * g.monitorRoom + (rest.map fun v => v.category).sum ≤ W9) (hdg : decode c.code g.pc = .ok (.invokestatic index, 3))
    (hpre : ∀ vm₁, s.WarmedH vm₁ → Pre ⟨T.setVm vm₁, locs, cells, slots⟩ argsL.toArray) :
    (∃ (v : Option Value) (vm₁ : Vm) (B : Pt), s.WarmedH vm₁ ∧ Stand p l e R s m args below meth c B.U B.locs B.cells B.slots ∧ Post ⟨T.setVm vm₁, locs, cells, slots⟩ argsL.toArray v B ∧
      ∀ target, Steps p.tables e below (B.U.setTop { g with pc := g.pc + 3, stack := v.toList ++ rest }) target → Steps p.tables e below (T.setTop g) target) ∨
    (∃ (q : Addr) (vm₁ : Vm) (B : Pt), s.WarmedH vm₁ ∧ Stand p l e R s m args below meth c B.U B.locs B.cells B.slots ∧ PostX ⟨T.setVm vm₁, locs, cells, slots⟩ argsL.toArray q B ∧
      Steps p.tables e below (T.setTop g) ((B.U.setTop { g with stack := rest }).pushFrame (.throwing q))) := by
  obtain ⟨mk, methM, cM, hnamed, hmethM, -, -, -, -, -, -, hsigM⟩ := Cond.codeWith_spec hcode
  have hstatic : methM.isStatic = true := Cond.static_spec hnamed hmethM hstat
  obtain ⟨kP, hkP, -⟩ := className_of_methodNamed hnamed
  have hinitP : kP.init = .initialized := Cond.initialized_spec (findClass_of_methodNamed hnamed) hkP hinit
  obtain ⟨vm₁, X₁, hstep₁⟩ := X.invokestatic hexec hown hlink hnamed hmethM hstatic hkP hinitP hy (g := g) hg (argsL := argsL) (rest := rest) (hlen _ hsigM) hstack hdg
  rcases hK m meth c ⟨T.setVm vm₁, locs, cells, slots⟩ { g with stack := rest } (.invokestatic index) mk argsL.toArray X₁ hg hsize hdg hW (X₁.named hnamed) (hpre vm₁ X₁.warmed) with ⟨v, B, X', hpost, hsteps⟩ | ⟨q, B, X', hpost, hsteps⟩
  · exact Or.inl ⟨v, vm₁, B, X₁.warmed, X', hpost, fun target h => hstep₁ _ fun acts => by rw [doInvoke_state]; exact hsteps.trans h⟩
  · exact Or.inr ⟨q, vm₁, B, X₁.warmed, X', hpost, hstep₁ _ fun acts => by rw [doInvoke_state]; exact hsteps⟩
theorem vx_callVW (X : Stand p l e R s m args below meth c T locs cells slots) (hexec : p.tables.exec = Jvm.exec) {own C : String} {index : Nat} {y : MethodName} {bytes : ByteArray} {maxL : Nat} {ret : Option FieldType} {hh : List (Nat × Nat × Nat × Nat)}
    (hown : s.vm.findClass own = some m.cls) (hlink : (Cond.methodLink own index y).before args s = true) (hinst : (Cond.instanceMethod y).before args s = true) (hsel : (Cond.selects C y y).before args s = true)
    (hcode : (Cond.codeWith y bytes maxL ret hh).before args s = true) (hy : y.cls ≠ "java/lang/invoke/MethodHandle" ∧ y.cls ≠ "java/lang/invoke/VarHandle")
    {W9 : Nat} {Pre : Pt → Array Value → Prop} {Post : Pt → Array Value → Option Value → Pt → Prop} (hK : Back l R p e below s args y 3 W9 Pre Post)
    {b : Addr} {cellB : Cell} (hcell : T.heap[b]? = some cellB) (hobj : cellB.vm.isStatics = false) (hcls : s.vm.findClass C = some cellB.cls)
    {g : JFrame} (hg : g.method = m) (hsize : g.locals.size = c.maxLocals) {argsL rest : List Value} (hlen : ∀ sig, parseMethodDescriptor y.desc = some sig → argsL.length = sig.parameters.length)
    (hstack : g.stack = argsL.reverse ++ .ref b :: rest) (hW : 2 * g.monitorRoom + (rest.map fun v => v.category).sum ≤ W9) (hdg : decode c.code g.pc = .ok (.invokevirtual index, 3))
    (hpre : ∀ vm₁, s.WarmedH vm₁ → Pre ⟨T.setVm vm₁, locs, cells, slots⟩ (Value.ref b :: argsL).toArray) :
    ∃ (v : Option Value) (vm₁ : Vm) (B : Pt), s.WarmedH vm₁ ∧ Stand p l e R s m args below meth c B.U B.locs B.cells B.slots ∧ Post ⟨T.setVm vm₁, locs, cells, slots⟩ (Value.ref b :: argsL).toArray v B ∧
      ∀ target, Steps p.tables e below (B.U.setTop { g with pc := g.pc + 3, stack := v.toList ++ rest }) target → Steps p.tables e below (T.setTop g) target := by
  obtain ⟨mk, methM, hnamed, hmethM, hstM, habM⟩ := Cond.instanceMethod_spec hinst
  obtain ⟨m8, methM', cM, hn8, hmethM', -, -, -, -, -, -, hsigM⟩ := Cond.codeWith_spec hcode
  cases Option.some.inj (hn8.symm.trans hnamed)
  cases hmethM.symm.trans hmethM'
  obtain ⟨c2, r2, m2, q1, q2, q3, q4, kP, hkP, hkPi⟩ := Cond.selects_spec hsel
  cases hcls.symm.trans q1
  cases (State.methodFound?_of_named hnamed hy).symm.trans q2
  cases hnamed.symm.trans q3
  have hselP : selectMethod e.platform s.vm cellB.cls mk = .method mk := by rw [Launch.admits_selectMethod X.admits]; exact q4
  obtain ⟨vm₁, X₁, hstep₁⟩ := X.invokevirtual hexec hown hlink hnamed hmethM hstM hkP hkPi hy (a := b) (cell := cellB) hcell
    (fun z h => by rw [h] at hobj; cases hobj) hselP hmethM habM hkP hkPi (g := g) hg (argsL := argsL) (rest := rest) (hlen _ hsigM) hstack hdg
  obtain ⟨v, B, X', hpost, hsteps⟩ := hK m meth c ⟨T.setVm vm₁, locs, cells, slots⟩ { g with stack := rest } (.invokevirtual index) mk (Value.ref b :: argsL).toArray X₁ hg hsize hdg hW (X₁.named hnamed) (hpre vm₁ X₁.warmed)
  exact ⟨v, vm₁, B, X₁.warmed, X', hpost, fun target h => hstep₁ _ fun acts => by rw [doInvoke_state]; exact hsteps.trans h⟩
abbrev vx_CVW (R : Room) (s : State) (args : Array Value) (own C : String) (index : Nat) (y : MethodName) (bytes : ByteArray) (maxL : Nat) (ret : Option FieldType) (hh : List (Nat × Nat × Nat × Nat)) (ws : List Cond) (rm : Room) (mc ms n : Nat) : Prop :=
  (rm.cells = mc ∧ rm.slots = ms ∧ rm.frames + 1 ≤ R.frames ∧ 8 + (maxL + 11) + rm.locals ≤ R.locals ∧ (∀ w ∈ ws, ∀ (a' : Array Value) (U : State), s.WarmedH U.vm → w.before a' U = true) ∧ Cond.codeWith y bytes maxL ret hh ∈ ws) ∧
  (Cond.codeWith y bytes maxL ret hh).before args s = true ∧ (Cond.initialized y.cls).before args s = true ∧ (y.cls ≠ "java/lang/invoke/MethodHandle" ∧ y.cls ≠ "java/lang/invoke/VarHandle") ∧
  (∀ sig, parseMethodDescriptor y.desc = some sig → n = sig.parameters.length) ∧ (Cond.methodLink own index y).before args s = true ∧ (Cond.instanceMethod y).before args s = true ∧ (Cond.selects C y y).before args s = true
theorem vx_cwVW {own C : String} {index maxL mc ms : Nat} {y : MethodName} {bytes : ByteArray} {ret : Option FieldType} {hh : List (Nat × Nat × Nat × Nat)} {Ts ws ws' : List Cond} {rm : Room} (n : Nat) (ht : ∀ w ∈ Ts, w.before args s = true) (hT : GoodIn Ts (wsV own index C y ws)) (hw : ws = Cond.codeWith y bytes maxL ret hh :: ws') (hrc : rm.cells = mc) (hrs : rm.slots = ms)
    (hd : y.cls = C ∧ y.cls ≠ "java/lang/invoke/MethodHandle" ∧ y.cls ≠ "java/lang/invoke/VarHandle" ∧ (parseMethodDescriptor y.desc).map (fun d => d.parameters.length) = some n) (hR : rm.frames + 1 ≤ R.frames ∧ 8 + (maxL + 11) + rm.locals ≤ R.locals) :
    vx_CVW R s args own C index y bytes maxL ret hh ws rm mc ms n := by
  obtain ⟨hC, hd⟩ := hd
  subst hC
  have ok : ∀ w ∈ wsV own index y.cls y ws, w.before args s = true := fun w h => ht w (hT w h).1
  have hG : GoodIn Ts ws := fun w h => hT w (by unfold wsV; exact List.mem_append_right _ h)
  have hc : Cond.codeWith y bytes maxL ret hh ∈ ws := by rw [hw]; exact List.mem_cons_self
  refine ⟨⟨hrc, hrs, hR.1, hR.2, pay_in ht hG, hc⟩, ht _ (hG _ hc).1, ok _ (by simp [wsV]), ⟨hd.1, hd.2.1⟩, fun sig h => ?_, ok _ (by simp [wsV]), ok _ (by simp [wsV]), ok _ (by simp [wsV])⟩
  have h2 := hd.2.2
  rw [h] at h2
  exact (Option.some.inj h2).symm
theorem vx_runVW {y : MethodName} {bytes cc : ByteArray} {maxL nL mc ms n index : Nat} {ret : Option FieldType} {hh : List (Nat × Nat × Nat × Nat)} {ws : List Cond} {rm : Room} {Pc : Array Value → State → Prop} {Qc : Array Value → State → Outcome → State → Prop} {free : Addr → Prop} {Ts : List Cond} {own C : String} {b : Addr} {As rest : List Value} {g : JFrame}
    (S : CallFix p m c cc nL s args Ts own) (hM : Met l y ws rm Pc Qc mc ms free) (cw : vx_CVW R s args own C index y bytes maxL ret hh ws rm mc ms n) (hp : PreV s H C b Pc As)
    (hg : g.method = m) (hn : As.length = n) (hsize : g.locals.size = nL) (hstack : g.stack = As.reverse ++ .ref b :: rest) (hW : 2 * g.monitorRoom + (rest.map fun v => v.category).sum ≤ 8) (hdg : decode cc g.pc = .ok (.invokevirtual index, 3)) (hf : cells + mc ≤ R.cells ∧ slots + ms ≤ R.slots) :
    va_Run p l e R s m args below meth c H locs cells slots mc ms g rest (Qc (Value.ref b :: As).toArray) free := by
  obtain ⟨⟨hrc, hrs, hfr, hlo, hws, hcw⟩, hcode, hini, hy, hlen, hl, hin, hse⟩ := cw
  have hK : Back l R p e below s args y 3 8 (PreOf R mc ms Pc) (PostOf Qc mc ms free) := va_backW (hh := hh) (bytes := bytes) (maxL := maxL) (ret := ret) hM hp.1 hrc hrs hfr hlo hws hcw (fun a' U hW => word_at hW (Or.inl (by first | rfl | simp [Cond.onTables, Cond.keeps, Cond.steady])) hini)
  obtain ⟨hx, hb, hml, ho, -⟩ := S
  obtain ⟨-, ⟨cellB, hcB, hoB, hclB⟩, hPc⟩ := hp
  intro T hT X
  obtain ⟨v, vm₁, ⟨U', l2, c2, s2⟩, hW₁, X', ⟨g', mk, t, L, e1, e2, hq, h1, hL, h2, h3⟩, st⟩ := vx_callVW X hx (C := C) (hh := hh) (bytes := bytes) (maxL := maxL) (ret := ret) ho hl hin hse hcode hy hK (by rw [hT]; exact hcB) hoB hclB hg (hsize.trans hml.symm) (argsL := As) (rest := rest) (fun sig h => hn.trans (hlen sig h)) hstack hW (by rw [hb]; exact hdg)
    (fun vm₁ hW₁ => ⟨hf.1, hf.2, hPc (T.setVm vm₁) hT hW₁⟩)
  dsimp only [Pt.U, Pt.locs, Pt.cells, Pt.slots] at X' e1 e2 h1 h2 h3 st
  subst h1; subst h2; subst h3
  exact ⟨v, (T.setVm vm₁).calling g' mk (Value.ref b :: As).toArray, t, U', L, hT, X', hL, e1, e2, hq, st⟩
section
variable {y : MethodName} {bytes cc : ByteArray} {maxL nL mc ms n index : Nat} {ret : Option FieldType} {ws : List Cond} {rm : Room} {Pc : Array Value → State → Prop} {Qc : Array Value → State → Outcome → State → Prop} {XC : String → State → State → Prop} {free : Addr → Prop} {Ts : List Cond} {own C : String} {b : Addr} {As rest : List Value} {g : JFrame}
theorem vx_runVX {hh : List (Nat × Nat × Nat × Nat)} (S : CallFix p m c cc nL s args Ts own) (hM : vx_Met l y ws rm Pc Qc XC mc ms free) (cw : vx_CVW R s args own C index y bytes maxL ret hh ws rm mc ms n) (hp : PreV s H C b Pc As)
    (hg : g.method = m) (hn : As.length = n) (hsize : g.locals.size = nL) (hstack : g.stack = As.reverse ++ .ref b :: rest) (hW : 2 * g.monitorRoom + (rest.map fun v => v.category).sum ≤ 8) (hdg : decode cc g.pc = .ok (.invokevirtual index, 3)) (hf : cells + mc ≤ R.cells ∧ slots + ms ≤ R.slots) :
    vx_Run p l e R s m args below meth c H locs cells slots mc ms g rest (Qc (Value.ref b :: As).toArray) XC free := by
  obtain ⟨⟨hrc, hrs, hfr, hlo, hws, hcw⟩, hcode, hini, hy, hlen, hl, hin, hse⟩ := cw
  have hK : vx_Back l R p e below s args y 3 8 (PreOf R mc ms Pc) (PostOf Qc mc ms free) (vx_Post XC mc ms free) := vx_backW (hh := hh) (bytes := bytes) (maxL := maxL) (ret := ret) hM hp.1 hrc hrs hfr hlo hws hcw (fun a' U hW => word_at hW (Or.inl (by first | rfl | simp [Cond.onTables, Cond.keeps, Cond.steady])) hini)
  obtain ⟨hx, hb, hml, ho, -⟩ := S
  obtain ⟨-, ⟨cellB, hcB, hoB, hclB⟩, hPc⟩ := hp
  intro T hT X
  rcases vx_callVX X hx (C := C) (hh := hh) (bytes := bytes) (maxL := maxL) (ret := ret) ho hl hin hse hcode hy hK (by rw [hT]; exact hcB) hoB hclB hg (hsize.trans hml.symm) (argsL := As) (rest := rest) (fun sig h => hn.trans (hlen sig h)) hstack hW (by rw [hb]; exact hdg)
    (fun vm₁ hW₁ => ⟨hf.1, hf.2, hPc (T.setVm vm₁) hT hW₁⟩) with ⟨v, vm₁, ⟨U', l2, c2, s2⟩, hW₁, X', ⟨g', mk, t, L, e1, e2, hq, h1, hL, h2, h3⟩, st⟩ | ⟨q, vm₁, ⟨U', l2, c2, s2⟩, hW₁, X', ⟨g', mk, t, L, E, ce, e1, e2, hq, hce, hcv, hcl, h1, hL, h2, h3⟩, st⟩
  · dsimp only [Pt.U, Pt.locs, Pt.cells, Pt.slots] at X' e1 e2 h1 h2 h3 st
    subst h1; subst h2; subst h3
    exact Or.inl ⟨v, (T.setVm vm₁).calling g' mk (Value.ref b :: As).toArray, t, U', L, hT, X', hL, e1, e2, hq, st⟩
  · dsimp only [Pt.U, Pt.locs, Pt.cells, Pt.slots] at X' e1 e2 h1 h2 h3 st hcl
    subst h1; subst h2; subst h3
    exact Or.inr ⟨q, (T.setVm vm₁).calling g' mk (Value.ref b :: As).toArray, t, U', L, E, ce, hT, X', hL, e1, e2, hq, hce, hcv, vx_cls hW₁ hcl, st⟩
theorem vx_runSX {hh : List (Nat × Nat × Nat × Nat)} (S : CallFix p m c cc nL s args Ts own) (hM : vx_Met l y ws rm Pc Qc XC mc ms free) (cw : vx_CSW R s args own index y bytes maxL ret hh ws rm mc ms n) (hp : PreS s H Pc As)
    (hg : g.method = m) (hn : As.length = n) (hsize : g.locals.size = nL) (hstack : g.stack = As.reverse ++ rest) (hW : 2 * g.monitorRoom + (rest.map fun v => v.category).sum ≤ 8) (hdg : decode cc g.pc = .ok (.invokestatic index, 3)) (hf : cells + mc ≤ R.cells ∧ slots + ms ≤ R.slots) :
    vx_Run p l e R s m args below meth c H locs cells slots mc ms g rest (Qc As.toArray) XC free := by
  obtain ⟨⟨hrc, hrs, hfr, hlo, hws, hcw⟩, hcode, hini, hy, hlen, hl, hstt⟩ := cw
  have hK : vx_Back l R p e below s args y 3 8 (PreOf R mc ms Pc) (PostOf Qc mc ms free) (vx_Post XC mc ms free) := vx_backW (hh := hh) (bytes := bytes) (maxL := maxL) (ret := ret) hM hp.1 hrc hrs hfr hlo hws hcw (fun a' U hW => word_at hW (Or.inl (by first | rfl | simp [Cond.onTables, Cond.keeps, Cond.steady])) hini)
  obtain ⟨hx, hb, hml, ho, -⟩ := S
  intro T hT X
  rcases vx_callSX X hx (hh := hh) (bytes := bytes) (maxL := maxL) (ret := ret) ho hl hstt hini hcode hy hK hg (hsize.trans hml.symm) (argsL := As) (rest := rest) (fun sig h => hn.trans (hlen sig h)) hstack hW (by rw [hb]; exact hdg)
    (fun vm₁ hW₁ => ⟨hf.1, hf.2, hp.2 (T.setVm vm₁) hT hW₁⟩) with ⟨v, vm₁, ⟨U', l2, c2, s2⟩, hW₁, X', ⟨g', mk, t, L, e1, e2, hq, h1, hL, h2, h3⟩, st⟩ | ⟨q, vm₁, ⟨U', l2, c2, s2⟩, hW₁, X', ⟨g', mk, t, L, E, ce, e1, e2, hq, hce, hcv, hcl, h1, hL, h2, h3⟩, st⟩
  · dsimp only [Pt.U, Pt.locs, Pt.cells, Pt.slots] at X' e1 e2 h1 h2 h3 st
    subst h1; subst h2; subst h3
    exact Or.inl ⟨v, (T.setVm vm₁).calling g' mk As.toArray, t, U', L, hT, X', hL, e1, e2, hq, st⟩
  · dsimp only [Pt.U, Pt.locs, Pt.cells, Pt.slots] at X' e1 e2 h1 h2 h3 st hcl
    subst h1; subst h2; subst h3
    exact Or.inr ⟨q, (T.setVm vm₁).calling g' mk As.toArray, t, U', L, E, ce, hT, X', hL, e1, e2, hq, hce, hcv, vx_cls hW₁ hcl, st⟩
end
end VXH
theorem vx_ofWH {l : Launch} {y : MethodName} {ws ws' : List Cond} {rm : Room} {Pc : Array Value → State → Prop} {Qc : Array Value → State → Outcome → State → Prop} {XC : String → State → State → Prop} {mc ms : Nat} {free : Addr → Prop} {cc : ByteArray} {maxL : Nat} {ret : Option FieldType} {hh : List (Nat × Nat × Nat × Nat)}
    (hy : plainName y.cls = true) (hw : ws = Cond.codeWith y cc maxL ret hh :: ws')
    (body : ∀ p e s m args below meth c s₁, BodyLoose p l y (headSpec ws rm) cc maxL ret e s m args below meth c s₁ → c.maxLocals = maxL → Pc args s →
      W p l e (headSpec ws rm).room s m args below meth c s.heap [] 0 0 (vx_MQ below Qc XC args s mc ms free) (entryFrame m args maxL)) : vx_Met l y ws rm Pc Qc XC mc ms free := by
  refine MetFree.of_bodyS (code := cc) (maxLocals := maxL) (ret := ret) hy ?_ ?_
  · intro args s m h hn
    obtain ⟨m9, meth, c, hn9, h1, h2, h3, h4, -, h5, h6, -⟩ := Cond.codeWith_spec (atoms_spec (ws := ws) h _ (by rw [hw]; exact List.mem_cons_self))
    cases hn.symm.trans hn9
    exact ⟨meth, c, h1, h2, h3, h4, h5, h6⟩
  · intro p e s m args below meth c s₁ B hml hP _
    have hh0 : s₁.heap = s.heap := by rw [B.state]; rfl
    obtain ⟨t, a1, o, b1, b2, b3⟩ := body p e s m args below meth c s₁ B hml hP s₁ hh0 (Stand.of_body B)
    exact ⟨t, o, a1, b1, b2, b3⟩
/-! ===== END ===== -/
end
section
/-! THE ABSTRACT STORE: cells are named by numbers; ad carries a name to its address; the store is four functions: which names are there, their ints, their references (names), their longs. The kind of a name is fixed: an object of a class, or an array of a type and a length. -/
/-- a value by names: its references are names -/
def zv (ad : Nat → Nat) (v : Value) : Value := match v with
  | .ref n => .ref (ad n)
  | w => w
def zq (ad : Nat → Nat) (q : Nat × Value) : Nat × Value := (q.1, zv ad q.2)
theorem zv_cat (ad : Nat → Nat) (v : Value) : (zv ad v).category = v.category := by cases v <;> rfl
theorem zv_rf (ad : Nat → Nat) (r : Option Nat) : zv ad (va_rf r) = va_rf (r.map ad) := by cases r <;> rfl
abbrev zS : Type := (Nat → Bool) × (Nat → Nat → Int32) × (Nat → Nat → Option Nat) × (Nat → Nat → Int64)
/-- the kinds: of a name (class number, or array type and length), whether a field is a reference, how many fields a class has -/
abbrev zK : Type := (Nat → Nat ⊕ (Nat × Nat)) × (Nat → Nat → Bool) × (Nat → Nat)
def z2 {α : Type} (f : Nat → Nat → α) (n k : Nat) (x : α) : Nat → Nat → α := fun a b => if a = n ∧ b = k then x else f a b
theorem z2_s {α : Type} {f : Nat → Nat → α} {n k : Nat} {x : α} : z2 f n k x n k = x := if_pos ⟨rfl, rfl⟩
theorem z2_n {α : Type} {f : Nat → Nat → α} {n k a b : Nat} {x : α} (h : a ≠ n ∨ b ≠ k) : z2 f n k x a b = f a b := if_neg (fun q => h.elim (fun h => h q.1) (fun h => h q.2))
/-- the store with one int, one reference, one long written -/
def zsi (S : zS) (n k : Nat) (x : Int32) : zS := (S.1, z2 S.2.1 n k x, S.2.2)
def zsp (S : zS) (n k : Nat) (r : Option Nat) : zS := (S.1, S.2.1, z2 S.2.2.1 n k r, S.2.2.2)
def zsl (S : zS) (n k : Nat) (x : Int64) : zS := (S.1, S.2.1, S.2.2.1, z2 S.2.2.2 n k x)
def zo (S : zS) (v : Value) : Prop := match v with
  | .ref n => n = 0 ∨ S.1 n = true
  | _ => True
def zok (S : zS) (L : List (Nat × Value)) (st : List Value) : Prop := (∀ q ∈ L, zo S q.2) ∧ ∀ v ∈ st, zo S v
theorem zok.c {S : zS} {L : List (Nat × Value)} {st : List Value} {v : Value} (h : zok S L st) (hv : zo S v) : zok S L (v :: st) := ⟨h.1, fun w hw => (List.mem_cons.mp hw).elim (fun e => by rw [e]; exact hv) (h.2 w)⟩
theorem zok.t {S : zS} {L : List (Nat × Value)} {st : List Value} {v : Value} (h : zok S L (v :: st)) : zok S L st := ⟨h.1, fun w hw => h.2 w (List.mem_cons_of_mem _ hw)⟩
theorem zok.h {S : zS} {L : List (Nat × Value)} {st : List Value} {v : Value} (h : zok S L (v :: st)) : zo S v := h.2 v List.mem_cons_self
theorem zok.l {S : zS} {L : List (Nat × Value)} {st : List Value} (h : zok S L st) {j i : Nat} {v : Value} (hj : L[j]? = some (i, v)) : zo S v := h.1 (i, v) (List.mem_of_getElem? hj)
def zf (i : Nat) : Nat × Value → Bool := fun q => !(q.1 == i) && !(q.1 + 1 == i && q.2.category == 2)
theorem zok.s {S : zS} {L L' : List (Nat × Value)} {st : List Value} {v : Value} {i : Nat} (h : zok S L st) (hv : zo S v) (hl : (i, v) :: L.filter (zf i) = L') : zok S L' st := by
  subst hl
  refine ⟨fun q hq => ?_, h.2⟩
  rcases List.mem_cons.mp hq with rfl | hq
  · exact hv
  · exact h.1 q (List.mem_filter.mp hq).1
theorem zq_at {ad : Nat → Nat} {L : List (Nat × Value)} {j i : Nat} {v : Value} (h : L[j]? = some (i, v)) : (L.map (zq ad))[j]? = some (i, zv ad v) := by
  rw [List.getElem?_map, h]; rfl
theorem zq_filter (ad : Nat → Nat) (i : Nat) (L : List (Nat × Value)) : (L.map (zq ad)).filter (fun q => !(q.1 == i) && !(q.1 + 1 == i && q.2.category == 2)) = (L.filter (zf i)).map (zq ad) := by
  induction L with
  | nil => rfl
  | cons q L ih =>
    have e : (!((zq ad q).1 == i) && !((zq ad q).1 + 1 == i && (zq ad q).2.category == 2)) = zf i q := by
      show (!(q.1 == i) && !(q.1 + 1 == i && (zv ad q.2).category == 2)) = _
      rw [zv_cat]; rfl
    rw [List.map_cons, List.filter_cons, List.filter_cons, e, ih]
    by_cases h : zf i q = true
    · rw [if_pos h, if_pos h, List.map_cons]
    · rw [if_neg h, if_neg h]
theorem zq_store {ad : Nat → Nat} {i : Nat} {v : Value} {L L' : List (Nat × Value)} (hl : (i, v) :: L.filter (zf i) = L') : (i, zv ad v) :: (L.map (zq ad)).filter (fun q => !(q.1 == i) && !(q.1 + 1 == i && q.2.category == 2)) = L'.map (zq ad) := by
  subst hl; rw [zq_filter]; rfl
/-- the fields of an object, the cell of a name -/
def zF (K : zK) (ad : Nat → Nat) (S : zS) (ci n : Nat) : List Value := (List.range (K.2.2 ci)).map (fun k => if K.2.1 ci k = true then va_rf ((S.2.2.1 n k).map ad) else .int (S.2.1 n k))
def zAr (ad : Nat → Nat) (S : zS) (t len n : Nat) : vp_A := (len, if t < 2 then .inl (S.2.1 n) else if t = 2 then .inr (.inl (S.2.2.2 n)) else .inr (.inr (.inr (.inr (fun i => (S.2.2.1 n i).map ad)))))
def zC (K : zK) (dA : Nat → ClassId) (ad : Nat → Nat) (S : zS) (n : Nat) : va_E := match K.1 n with
  | .inl ci => .inr (ci, zF K ad S ci n)
  | .inr (t, len) => .inl (dA t, zAr ad S t len n)
def zW (K : zK) (dA : Nat → ClassId) (ad : Nat → Nat) (S : zS) (dl : List Nat) : va_W := dl.map (fun n => (ad n, zC K dA ad S n))
def zext (ad : Nat → Nat) (S : zS) (ad' : Nat → Nat) (S' : zS) : Prop := (∀ n, S.1 n = true → S'.1 n = true ∧ ad' n = ad n) ∧ ad' 0 = ad 0
theorem zext.rf {ad : Nat → Nat} {S : zS} : zext ad S ad S := ⟨fun _ h => ⟨h, rfl⟩, rfl⟩
theorem zext.tr {a1 a2 a3 : Nat → Nat} {S1 S2 S3 : zS} (h : zext a1 S1 a2 S2) (g : zext a2 S2 a3 S3) : zext a1 S1 a3 S3 := ⟨fun n hn => ⟨(g.1 n (h.1 n hn).1).1, ((g.1 n (h.1 n hn).1).2).trans (h.1 n hn).2⟩, g.2.trans h.2⟩
def zH (D : va_G) (cl : List vw_C) (K : zK) (dA : Nat → ClassId) (A : Nat → Prop) (O : (Nat → Nat) × zS) (ad : Nat → Nat) (S : zS) (H : Heap) : Prop :=
  zext O.1 O.2 ad S ∧ (∀ n k x, S.2.2.1 n k = some x → S.1 x = true) ∧ (∀ n, S.1 n = false → ∀ k, S.2.1 n k = 0 ∧ S.2.2.1 n k = none ∧ S.2.2.2 n k = 0) ∧ S.1 0 = false ∧
  ∃ dl : List Nat, dl.Nodup ∧ (∀ n, n ∈ dl ↔ S.1 n = true) ∧ va_P D cl (zW K dA ad S dl) H ∧ va_D A (zW K dA ad S dl)
theorem zC_o {K : zK} {dA : Nat → ClassId} {ad : Nat → Nat} {S : zS} {n ci : Nat} (h : K.1 n = .inl ci) : zC K dA ad S n = .inr (ci, zF K ad S ci n) := by unfold zC; rw [h]
theorem zC_a {K : zK} {dA : Nat → ClassId} {ad : Nat → Nat} {S : zS} {n t len : Nat} (h : K.1 n = .inr (t, len)) : zC K dA ad S n = .inl (dA t, zAr ad S t len n) := by unfold zC; rw [h]
theorem zW_at {K : zK} {dA : Nat → ClassId} {ad : Nat → Nat} {S : zS} {dl : List Nat} {i n : Nat} (hi : dl[i]? = some n) : (zW K dA ad S dl)[i]? = some (ad n, zC K dA ad S n) := by
  unfold zW; rw [List.getElem?_map, hi]; rfl
theorem zF_i {K : zK} {ad : Nat → Nat} {S : zS} {ci n k : Nat} (hk : k < K.2.2 ci) (h : K.2.1 ci k = false) : (zF K ad S ci n)[k]? = some (.int (S.2.1 n k)) := by
  unfold zF; rw [List.getElem?_map, List.getElem?_range hk]; simp [h]
theorem zF_r {K : zK} {ad : Nat → Nat} {S : zS} {ci n k : Nat} (hk : k < K.2.2 ci) (h : K.2.1 ci k = true) : (zF K ad S ci n)[k]? = some (va_rf ((S.2.2.1 n k).map ad)) := by
  unfold zF; rw [List.getElem?_map, List.getElem?_range hk]; simp [h]
theorem zF_len {K : zK} {ad : Nat → Nat} {S : zS} {ci n : Nat} : (zF K ad S ci n).length = K.2.2 ci := by unfold zF; simp
/-- one cell has changed -/
theorem zW_set {K : zK} {dA : Nat → ClassId} {ad : Nat → Nat} {S S' : zS} {dl : List Nat} {i n : Nat} {e : va_E} (hnd : dl.Nodup) (hi : dl[i]? = some n) (he : e = zC K dA ad S' n) (ho : ∀ q, q ≠ n → zC K dA ad S q = zC K dA ad S' q) : (zW K dA ad S dl).set i (ad n, e) = zW K dA ad S' dl := by
  apply List.ext_getElem?
  intro j
  have hil : i < dl.length := (List.getElem?_eq_some_iff.mp hi).1
  by_cases hj : i = j
  · subst hj
    rw [List.getElem?_set_self (by unfold zW; simpa using hil), zW_at hi, he]
  · rw [List.getElem?_set_ne hj]
    cases hq : dl[j]? with
    | none => unfold zW; rw [List.getElem?_map, List.getElem?_map, hq]; rfl
    | some q =>
      rw [zW_at hq, zW_at hq, ho q]
      intro e9
      subst e9
      exact hj ((List.getElem?_inj hil hnd).mp (hi.trans hq.symm))
theorem zC_oth {K : zK} {dA : Nat → ClassId} {ad : Nat → Nat} {S S' : zS} {q : Nat} (h1 : S.2.1 q = S'.2.1 q) (h2 : S.2.2.1 q = S'.2.2.1 q) (h3 : S.2.2.2 q = S'.2.2.2 q) : zC K dA ad S q = zC K dA ad S' q := by
  unfold zC
  cases K.1 q with
  | inl ci => simp only [zF, h1, h2]
  | inr a => simp only [zAr, h1, h2, h3]
theorem z2_o {α : Type} {f : Nat → Nat → α} {n k q : Nat} {x : α} (h : q ≠ n) : f q = z2 f n k x q := by
  funext b; rw [z2_n (Or.inl h)]
theorem zF_seti {K : zK} {ad : Nat → Nat} {S : zS} {ci n k : Nat} {x : Int32} (h : K.2.1 ci k = false) : (zF K ad S ci n).set k (.int x) = zF K ad (zsi S n k x) ci n := by
  apply List.ext_getElem?
  intro j
  by_cases hj : j < K.2.2 ci
  · by_cases e : k = j
    · subst e
      rw [List.getElem?_set_self (by rw [zF_len]; exact hj), zF_i hj h]
      show _ = some (Value.int (z2 S.2.1 n k x n k)); rw [z2_s]
    · rw [List.getElem?_set_ne e]
      cases hr : K.2.1 ci j with
      | false => rw [zF_i hj hr, zF_i hj hr]; show _ = some (Value.int (z2 S.2.1 n k x n j)); rw [z2_n (Or.inr (Ne.symm e))]
      | true => rw [zF_r hj hr, zF_r hj hr]; rfl
  · rw [List.getElem?_eq_none (by rw [List.length_set, zF_len]; omega), List.getElem?_eq_none (by rw [zF_len]; omega)]
theorem zF_setr {K : zK} {ad : Nat → Nat} {S : zS} {ci n k : Nat} {r : Option Nat} (h : K.2.1 ci k = true) : (zF K ad S ci n).set k (va_rf (r.map ad)) = zF K ad (zsp S n k r) ci n := by
  apply List.ext_getElem?
  intro j
  by_cases hj : j < K.2.2 ci
  · by_cases e : k = j
    · subst e
      rw [List.getElem?_set_self (by rw [zF_len]; exact hj), zF_r hj h]
      show _ = some (va_rf ((z2 S.2.2.1 n k r n k).map ad)); rw [z2_s]
    · rw [List.getElem?_set_ne e]
      cases hr : K.2.1 ci j with
      | false => rw [zF_i hj hr, zF_i hj hr]; rfl
      | true => rw [zF_r hj hr, zF_r hj hr]; show _ = some (va_rf ((z2 S.2.2.1 n k r n j).map ad)); rw [z2_n (Or.inr (Ne.symm e))]
  · rw [List.getElem?_eq_none (by rw [List.length_set, zF_len]; omega), List.getElem?_eq_none (by rw [zF_len]; omega)]
/-- the world after a write: the same names, one cell otherwise -/
theorem zH_wr {D : va_G} {cl : List vw_C} {K : zK} {dA : Nat → ClassId} {A : Nat → Prop} {O : (Nat → Nat) × zS} {ad : Nat → Nat} {S S' : zS} {H H1 : Heap} {dl : List Nat} {i n : Nat} {e : va_E} (hH : zH D cl K dA A O ad S H) (hd1 : S'.1 = S.1) (hn : S.1 n = true)
    (hcl : ∀ a k x, S'.2.2.1 a k = some x → S.1 x = true) (ho : ∀ q, q ≠ n → S'.2.1 q = S.2.1 q ∧ S'.2.2.1 q = S.2.2.1 q ∧ S'.2.2.2 q = S.2.2.2 q) (hnd : dl.Nodup) (hdl : ∀ q, q ∈ dl ↔ S.1 q = true) (hi : dl[i]? = some n) (he : e = zC K dA ad S' n)
    (hP : va_P D cl ((zW K dA ad S dl).set i (ad n, e)) H1) (hD : va_D A ((zW K dA ad S dl).set i (ad n, e))) : zH D cl K dA A O ad S' H1 := by
  obtain ⟨h0, -, hz, h00, -⟩ := hH
  have e1 : (zW K dA ad S dl).set i (ad n, e) = zW K dA ad S' dl := zW_set hnd hi he (fun q hq => zC_oth (ho q hq).1.symm (ho q hq).2.1.symm (ho q hq).2.2.symm)
  rw [e1] at hP hD
  refine ⟨⟨fun a h => ⟨by rw [hd1]; exact (h0.1 a h).1, (h0.1 a h).2⟩, h0.2⟩, fun a k x h => by rw [hd1]; exact hcl a k x h, fun q hq k => ?_, by rw [hd1]; exact h00, dl, hnd, fun q => by rw [hd1]; exact hdl q, hP, hD⟩
  rw [hd1] at hq
  have hqn : q ≠ n := fun e9 => by rw [e9, hn] at hq; cases hq
  obtain ⟨o1, o2, o3⟩ := ho q hqn
  rw [o1, o2, o3]
  exact hz q hq k
def zadd (S : zS) (n : Nat) : zS := (fun q => if q = n then true else S.1 q, S.2)
def zup (ad : Nat → Nat) (n q : Nat) : Nat → Nat := fun x => if x = n then q else ad x
theorem zup_s {ad : Nat → Nat} {n q : Nat} : zup ad n q n = q := if_pos rfl
theorem zup_n {ad : Nat → Nat} {n q x : Nat} (h : x ≠ n) : zup ad n q x = ad x := if_neg h
theorem zadd_s {S : zS} {n : Nat} : (zadd S n).1 n = true := if_pos rfl
theorem zadd_n {S : zS} {n q : Nat} (h : q ≠ n) : (zadd S n).1 q = S.1 q := if_neg h
theorem zadd_t {S : zS} {n q : Nat} (h : S.1 q = true) : (zadd S n).1 q = true := by
  by_cases e : q = n
  · rw [e]; exact zadd_s
  · rw [zadd_n e]; exact h
/-- the map of names has grown: what was there stays -/
theorem zv_ext {ad ad' : Nat → Nat} {S : zS} {v : Value} (hv : zo S v) (h0 : ad' 0 = ad 0) (h : ∀ n, S.1 n = true → ad' n = ad n) : zv ad' v = zv ad v := by
  cases v with
  | ref n =>
    rcases hv with h1 | h1
    · subst h1; show Value.ref _ = Value.ref _; rw [h0]
    · show Value.ref _ = Value.ref _; rw [h n h1]
  | _ => rfl
theorem zq_ext {ad ad' : Nat → Nat} {S : zS} {L : List (Nat × Value)} {st : List Value} (hv : zok S L st) (h0 : ad' 0 = ad 0) (h : ∀ n, S.1 n = true → ad' n = ad n) : L.map (zq ad') = L.map (zq ad) ∧ st.map (zv ad') = st.map (zv ad) :=
  ⟨List.map_congr_left fun q hq => by show (q.1, _) = (q.1, _); rw [zv_ext (hv.1 q hq) h0 h], List.map_congr_left fun v hq => zv_ext (hv.2 v hq) h0 h⟩
theorem zo_mono {S S' : zS} {v : Value} (h : ∀ n, S.1 n = true → S'.1 n = true) (hv : zo S v) : zo S' v := by
  cases v with
  | ref n => exact hv.imp id (h n)
  | _ => trivial
theorem zok_mono {S S' : zS} {L : List (Nat × Value)} {st : List Value} (h : ∀ n, S.1 n = true → S'.1 n = true) (hv : zok S L st) : zok S' L st := ⟨fun q hq => zo_mono h (hv.1 q hq), fun q hq => zo_mono h (hv.2 q hq)⟩
theorem zC_ext {K : zK} {dA : Nat → ClassId} {ad ad' : Nat → Nat} {S : zS} {q : Nat} (hcl : ∀ n k x, S.2.2.1 n k = some x → ad' x = ad x) : zC K dA ad' S q = zC K dA ad S q := by
  have e : ∀ n k, (S.2.2.1 n k).map ad' = (S.2.2.1 n k).map ad := fun n k => by
    cases h : S.2.2.1 n k with
    | none => rfl
    | some x => show some _ = some _; rw [hcl n k x h]
  unfold zC
  cases K.1 q with
  | inl ci => simp only [zF, e]
  | inr a => simp only [zAr, e]
theorem zC_add {K : zK} {dA : Nat → ClassId} {ad : Nat → Nat} {S : zS} {n q : Nat} : zC K dA ad (zadd S n) q = zC K dA ad S q := zC_oth rfl rfl rfl
/-- a new cell, under a name that was free -/
theorem zH_new {D : va_G} {cl : List vw_C} {K : zK} {dA : Nat → ClassId} {A : Nat → Prop} {O : (Nat → Nat) × zS} {ad : Nat → Nat} {S : zS} {H H1 : Heap} {dl : List Nat} {n q : Nat} {e : va_E} (hH : zH D cl K dA A O ad S H) (hn : S.1 n = false) (hn0 : n ≠ 0) (hnd : dl.Nodup) (hdl : ∀ q, q ∈ dl ↔ S.1 q = true)
    (he : e = zC K dA ad S n) (hP : va_P D cl (zW K dA ad S dl ++ [(q, e)]) H1) (hD : va_D A (zW K dA ad S dl ++ [(q, e)])) : zH D cl K dA A O (zup ad n q) (zadd S n) H1 := by
  obtain ⟨h0, hcl, hz, h00, -⟩ := hH
  have hcx : ∀ a k x, S.2.2.1 a k = some x → zup ad n q x = ad x := fun a k x h => zup_n (fun e9 => by have := hcl a k x h; rw [e9, hn] at this; cases this)
  have hnl : n ∉ dl := fun h => by rw [(hdl n).mp h] at hn; cases hn
  have e1 : zW K dA (zup ad n q) (zadd S n) (dl ++ [n]) = zW K dA ad S dl ++ [(q, e)] := by
    unfold zW
    rw [List.map_append]
    congr 1
    · refine List.map_congr_left fun x hx => ?_
      have hxn : x ≠ n := fun e9 => hnl (e9 ▸ hx)
      rw [zup_n hxn, zC_add, zC_ext hcx]
    · show [(zup ad n q n, zC K dA (zup ad n q) (zadd S n) n)] = _
      rw [zup_s, zC_add, zC_ext hcx, he]
  refine ⟨⟨fun a h => ⟨zadd_t (h0.1 a h).1, (zup_n (fun e9 => by have h9 := (h0.1 a h).1; rw [e9, hn] at h9; cases h9)).trans (h0.1 a h).2⟩, (zup_n (Ne.symm hn0)).trans h0.2⟩, fun a k x h => zadd_t (hcl a k x h), fun x hx k => ?_, by rw [zadd_n (Ne.symm hn0)]; exact h00, dl ++ [n], ?_, fun x => ?_, by rw [e1]; exact hP, by rw [e1]; exact hD⟩
  · have hxn : x ≠ n := fun e9 => by rw [e9, zadd_s] at hx; cases hx
    rw [zadd_n hxn] at hx
    exact hz x hx k
  · exact List.nodup_append.mpr ⟨hnd, by simp, fun a ha b hb => by rw [List.mem_singleton.mp hb]; exact fun e9 => hnl (e9 ▸ ha)⟩
  · by_cases e9 : x = n
    · subst e9; simp [zadd_s]
    · rw [zadd_n e9, ← hdl x]; simp [e9]
/-- the walk over the abstract store: whatever the addresses are, the machine goes on from here -/
def AW (p : Program) (l : Launch) (e : Env) (R : Room) (s : State) (m : MethodId) (args : Array Value) (below : List Frame) (meth : Method) (c : Code) (D : va_G) (cl : List vw_C) (K : zK) (dA : Nat → ClassId) (A : Nat → Prop) (O : (Nat → Nat) × zS) (nL : Nat) (S : zS) (kc ks : Nat) (Q : State → Prop) (pc : Nat) (L : List (Nat × Value)) (st : List Value) : Prop :=
  ∀ (ad : Nat → Nat) (H : Heap) (locs : List Loc) (ls : Array Slot), zH D cl K dA A O ad S H → va_S A s.heap H locs → lv_has ls nL (L.map (zq ad)) → zok S L st → W p l e R s m args below meth c H locs kc ks Q (F0 m pc ls (st.map (zv ad)))
/-- what a method's body knows all along -/
def zX (p : Program) (s : State) (m : MethodId) (args : Array Value) (c : Code) (D : va_G) (cl : List vw_C) (K : zK) (A : Nat → Prop) (cc : ByteArray) (nL : Nat) (own : String) (Ts : List Cond) (tys : List (ClassId × FieldType)) (G : (Nat → Prop) → State → Prop) : Prop :=
  p.tables.exec = Jvm.exec ∧ c.code = cc ∧ c.maxLocals = nL ∧ s.vm.findClass own = some m.cls ∧ (∀ w ∈ Ts, w.before args s = true) ∧ va_K D cl tys s ∧ (∀ q, s.heap.size ≤ q → A q) ∧ K.1 0 = .inr (999, 0) ∧ G A s
section ZR
variable {p : Program} {l : Launch} {e : Env} {R : Room} {s : State} {m : MethodId} {args : Array Value} {below : List Frame} {meth : Method} {c : Code} {kc ks : Nat} {Q : State → Prop}
variable {D : va_G} {cl : List vw_C} {K : zK} {dA : Nat → ClassId} {A : Nat → Prop} {O : (Nat → Nat) × zS} {cc : ByteArray} {nL : Nat} {own : String} {Ts : List Cond} {tys : List (ClassId × FieldType)} {G : (Nat → Prop) → State → Prop} {S : zS} {pc : Nat} {L : List (Nat × Value)} {st : List Value}
theorem z_iconst (X : zX p s m args c D cl K A cc nL own Ts tys G) {n : Int} {v : Int32} (hd : decode cc pc = .ok (.iconst n, 1)) (hv : Int32.ofInt n = v) (k : AW p l e R s m args below meth c D cl K dA A O nL S kc ks Q (pc + 1) L (.int v :: st)) : AW p l e R s m args below meth c D cl K dA A O nL S kc ks Q pc L (st) := fun ad H locs ls hH hS hl ho => lv_iconst X.1 X.2.1 hd hv (k ad H locs ls hH hS hl (ho.c trivial))
theorem z_bipush (X : zX p s m args c D cl K A cc nL own Ts tys G) {n : Int} {v : Int32} (hd : decode cc pc = .ok (.bipush n, 2)) (hv : (Int8.ofInt n).toInt32 = v) (k : AW p l e R s m args below meth c D cl K dA A O nL S kc ks Q (pc + 2) L (.int v :: st)) : AW p l e R s m args below meth c D cl K dA A O nL S kc ks Q pc L (st) := fun ad H locs ls hH hS hl ho => lv_bipush X.1 X.2.1 hd hv (k ad H locs ls hH hS hl (ho.c trivial))
theorem z_sipush (X : zX p s m args c D cl K A cc nL own Ts tys G) {n : Int} {v : Int32} (hd : decode cc pc = .ok (.sipush n, 3)) (hv : (Int16.ofInt n).toInt32 = v) (k : AW p l e R s m args below meth c D cl K dA A O nL S kc ks Q (pc + 3) L (.int v :: st)) : AW p l e R s m args below meth c D cl K dA A O nL S kc ks Q pc L (st) := fun ad H locs ls hH hS hl ho => lv_sipush X.1 X.2.1 hd hv (k ad H locs ls hH hS hl (ho.c trivial))
theorem z_null (X : zX p s m args c D cl K A cc nL own Ts tys G)  (hd : decode cc pc = .ok (.aconst_null, 1))  (k : AW p l e R s m args below meth c D cl K dA A O nL S kc ks Q (pc + 1) L (.null :: st)) : AW p l e R s m args below meth c D cl K dA A O nL S kc ks Q pc L (st) := fun ad H locs ls hH hS hl ho => lv_null X.1 X.2.1 hd (k ad H locs ls hH hS hl (ho.c trivial))
theorem z_iadd (X : zX p s m args c D cl K A cc nL own Ts tys G) {x y : Int32} (hd : decode cc pc = .ok (.iadd, 1))  (k : AW p l e R s m args below meth c D cl K dA A O nL S kc ks Q (pc + 1) L (.int (x + y) :: st)) : AW p l e R s m args below meth c D cl K dA A O nL S kc ks Q pc L (.int y :: .int x :: st) := fun ad H locs ls hH hS hl ho => lv_iadd (x := x) (y := y) X.1 X.2.1 hd (k ad H locs ls hH hS hl (ho.t.t.c trivial))
theorem z_isub (X : zX p s m args c D cl K A cc nL own Ts tys G) {x y : Int32} (hd : decode cc pc = .ok (.isub, 1))  (k : AW p l e R s m args below meth c D cl K dA A O nL S kc ks Q (pc + 1) L (.int (x - y) :: st)) : AW p l e R s m args below meth c D cl K dA A O nL S kc ks Q pc L (.int y :: .int x :: st) := fun ad H locs ls hH hS hl ho => lv_isub (x := x) (y := y) X.1 X.2.1 hd (k ad H locs ls hH hS hl (ho.t.t.c trivial))
theorem z_imul (X : zX p s m args c D cl K A cc nL own Ts tys G) {x y : Int32} (hd : decode cc pc = .ok (.imul, 1))  (k : AW p l e R s m args below meth c D cl K dA A O nL S kc ks Q (pc + 1) L (.int (x * y) :: st)) : AW p l e R s m args below meth c D cl K dA A O nL S kc ks Q pc L (.int y :: .int x :: st) := fun ad H locs ls hH hS hl ho => lv_imul (x := x) (y := y) X.1 X.2.1 hd (k ad H locs ls hH hS hl (ho.t.t.c trivial))
theorem z_iand (X : zX p s m args c D cl K A cc nL own Ts tys G) {x y : Int32} (hd : decode cc pc = .ok (.iand, 1))  (k : AW p l e R s m args below meth c D cl K dA A O nL S kc ks Q (pc + 1) L (.int (x &&& y) :: st)) : AW p l e R s m args below meth c D cl K dA A O nL S kc ks Q pc L (.int y :: .int x :: st) := fun ad H locs ls hH hS hl ho => lv_iand (x := x) (y := y) X.1 X.2.1 hd (k ad H locs ls hH hS hl (ho.t.t.c trivial))
theorem z_ior (X : zX p s m args c D cl K A cc nL own Ts tys G) {x y : Int32} (hd : decode cc pc = .ok (.ior, 1))  (k : AW p l e R s m args below meth c D cl K dA A O nL S kc ks Q (pc + 1) L (.int (x ||| y) :: st)) : AW p l e R s m args below meth c D cl K dA A O nL S kc ks Q pc L (.int y :: .int x :: st) := fun ad H locs ls hH hS hl ho => lv_ior (x := x) (y := y) X.1 X.2.1 hd (k ad H locs ls hH hS hl (ho.t.t.c trivial))
theorem z_ixor (X : zX p s m args c D cl K A cc nL own Ts tys G) {x y : Int32} (hd : decode cc pc = .ok (.ixor, 1))  (k : AW p l e R s m args below meth c D cl K dA A O nL S kc ks Q (pc + 1) L (.int (x ^^^ y) :: st)) : AW p l e R s m args below meth c D cl K dA A O nL S kc ks Q pc L (.int y :: .int x :: st) := fun ad H locs ls hH hS hl ho => lv_ixor (x := x) (y := y) X.1 X.2.1 hd (k ad H locs ls hH hS hl (ho.t.t.c trivial))
theorem z_ishl (X : zX p s m args c D cl K A cc nL own Ts tys G) {x y : Int32} (hd : decode cc pc = .ok (.ishl, 1))  (k : AW p l e R s m args below meth c D cl K dA A O nL S kc ks Q (pc + 1) L (.int (x <<< (y &&& 31)) :: st)) : AW p l e R s m args below meth c D cl K dA A O nL S kc ks Q pc L (.int y :: .int x :: st) := fun ad H locs ls hH hS hl ho => lv_ishl (x := x) (y := y) X.1 X.2.1 hd (k ad H locs ls hH hS hl (ho.t.t.c trivial))
theorem z_ishr (X : zX p s m args c D cl K A cc nL own Ts tys G) {x y : Int32} (hd : decode cc pc = .ok (.ishr, 1))  (k : AW p l e R s m args below meth c D cl K dA A O nL S kc ks Q (pc + 1) L (.int (x >>> (y &&& 31)) :: st)) : AW p l e R s m args below meth c D cl K dA A O nL S kc ks Q pc L (.int y :: .int x :: st) := fun ad H locs ls hH hS hl ho => lv_ishr (x := x) (y := y) X.1 X.2.1 hd (k ad H locs ls hH hS hl (ho.t.t.c trivial))
theorem z_idiv (X : zX p s m args c D cl K A cc nL own Ts tys G) {x y : Int32} (hd : decode cc pc = .ok (.idiv, 1)) (hne : ¬ y = 0) (k : AW p l e R s m args below meth c D cl K dA A O nL S kc ks Q (pc + 1) L (.int (x / y) :: st)) : AW p l e R s m args below meth c D cl K dA A O nL S kc ks Q pc L (.int y :: .int x :: st) := fun ad H locs ls hH hS hl ho => lv_idiv (x := x) (y := y) X.1 X.2.1 hd hne (k ad H locs ls hH hS hl (ho.t.t.c trivial))
theorem z_irem (X : zX p s m args c D cl K A cc nL own Ts tys G) {x y : Int32} (hd : decode cc pc = .ok (.irem, 1)) (hne : ¬ y = 0) (k : AW p l e R s m args below meth c D cl K dA A O nL S kc ks Q (pc + 1) L (.int (x - x / y * y) :: st)) : AW p l e R s m args below meth c D cl K dA A O nL S kc ks Q pc L (.int y :: .int x :: st) := fun ad H locs ls hH hS hl ho => lv_irem (x := x) (y := y) X.1 X.2.1 hd hne (k ad H locs ls hH hS hl (ho.t.t.c trivial))
theorem z_ineg (X : zX p s m args c D cl K A cc nL own Ts tys G) {x : Int32} (hd : decode cc pc = .ok (.ineg, 1))  (k : AW p l e R s m args below meth c D cl K dA A O nL S kc ks Q (pc + 1) L (.int (-x) :: st)) : AW p l e R s m args below meth c D cl K dA A O nL S kc ks Q pc L (.int x :: st) := fun ad H locs ls hH hS hl ho => lv_ineg (x := x) X.1 X.2.1 hd (k ad H locs ls hH hS hl (ho.t.c trivial))
theorem z_i2l (X : zX p s m args c D cl K A cc nL own Ts tys G) {x : Int32} {v : Int64} (hd : decode cc pc = .ok (.i2l, 1)) (hv : x.toInt64 = v) (k : AW p l e R s m args below meth c D cl K dA A O nL S kc ks Q (pc + 1) L (.long v :: st)) : AW p l e R s m args below meth c D cl K dA A O nL S kc ks Q pc L (.int x :: st) := fun ad H locs ls hH hS hl ho => lv_i2l (x := x) X.1 X.2.1 hd hv (k ad H locs ls hH hS hl (ho.t.c trivial))
theorem z_lcmp (X : zX p s m args c D cl K A cc nL own Ts tys G) {x y : Int64} (hd : decode cc pc = .ok (.lcmp, 1))  (k : AW p l e R s m args below meth c D cl K dA A O nL S kc ks Q (pc + 1) L (.int (lg_cmp x y) :: st)) : AW p l e R s m args below meth c D cl K dA A O nL S kc ks Q pc L (.long y :: .long x :: st) := fun ad H locs ls hH hS hl ho => W.lcmp (x := x) (y := y) X.1 X.2.1 hd (k ad H locs ls hH hS hl (ho.t.t.c trivial))
theorem z_dup (X : zX p s m args c D cl K A cc nL own Ts tys G) {v : Value} (hd : decode cc pc = .ok (.dup, 1)) (hv : v.category = 1) (k : AW p l e R s m args below meth c D cl K dA A O nL S kc ks Q (pc + 1) L (v :: v :: st)) : AW p l e R s m args below meth c D cl K dA A O nL S kc ks Q pc L (v :: st) := fun ad H locs ls hH hS hl ho => lv_dup (va := zv ad v) X.1 X.2.1 hd ((zv_cat ad v).trans hv) (k ad H locs ls hH hS hl (ho.c ho.h))
theorem z_pop (X : zX p s m args c D cl K A cc nL own Ts tys G) {v : Value} (hd : decode cc pc = .ok (.pop, 1)) (hv : v.category = 1) (k : AW p l e R s m args below meth c D cl K dA A O nL S kc ks Q (pc + 1) L (st)) : AW p l e R s m args below meth c D cl K dA A O nL S kc ks Q pc L (v :: st) := fun ad H locs ls hH hS hl ho => lv_pop (va := zv ad v) X.1 X.2.1 hd ((zv_cat ad v).trans hv) (k ad H locs ls hH hS hl ho.t)
theorem z_dup2 (X : zX p s m args c D cl K A cc nL own Ts tys G) {v w : Value} (hd : decode cc pc = .ok (.dup2, 1)) (hv : v.category = 1) (hw : w.category = 1) (k : AW p l e R s m args below meth c D cl K dA A O nL S kc ks Q (pc + 1) L (v :: w :: v :: w :: st)) : AW p l e R s m args below meth c D cl K dA A O nL S kc ks Q pc L (v :: w :: st) := fun ad H locs ls hH hS hl ho => lv_dup2_11 (va := zv ad v) (vb := zv ad w) X.1 X.2.1 hd ((zv_cat ad v).trans hv) ((zv_cat ad w).trans hw) (k ad H locs ls hH hS hl ((ho.c ho.t.h).c ho.h))
theorem z_dup_x1 (X : zX p s m args c D cl K A cc nL own Ts tys G) {v w : Value} (hd : decode cc pc = .ok (.dup_x1, 1)) (hv : v.category = 1) (hw : w.category = 1) (k : AW p l e R s m args below meth c D cl K dA A O nL S kc ks Q (pc + 1) L (v :: w :: v :: st)) : AW p l e R s m args below meth c D cl K dA A O nL S kc ks Q pc L (v :: w :: st) := fun ad H locs ls hH hS hl ho => lv_dup_x1 (va := zv ad v) (vb := zv ad w) X.1 X.2.1 hd ((zv_cat ad v).trans hv) ((zv_cat ad w).trans hw) (k ad H locs ls hH hS hl (((ho.t.t.c ho.h).c ho.t.h).c ho.h))
theorem z_iload_n (X : zX p s m args c D cl K A cc nL own Ts tys G) {k0 : Fin 4} {i j : Nat} {x : Int32} (hd : decode cc pc = .ok (.iload_n k0, 1)) (hi : (k0 : Nat) = i) (hj : L[j]? = some (i, .int x)) (k : AW p l e R s m args below meth c D cl K dA A O nL S kc ks Q (pc + 1) L (.int x :: st)) : AW p l e R s m args below meth c D cl K dA A O nL S kc ks Q pc L (st) := fun ad H locs ls hH hS hl ho => lv_iload_n (x := x) X.1 X.2.1 hd hi (lv_at hl j (zq_at hj)) (k ad H locs ls hH hS hl (ho.c trivial))
theorem z_iload (X : zX p s m args c D cl K A cc nL own Ts tys G) {i j : Nat} {x : Int32} (hd : decode cc pc = .ok (.iload i, 2)) (hj : L[j]? = some (i, .int x)) (k : AW p l e R s m args below meth c D cl K dA A O nL S kc ks Q (pc + 2) L (.int x :: st)) : AW p l e R s m args below meth c D cl K dA A O nL S kc ks Q pc L (st) := fun ad H locs ls hH hS hl ho => lv_iload (x := x) X.1 X.2.1 hd (lv_at hl j (zq_at hj)) (k ad H locs ls hH hS hl (ho.c trivial))
theorem z_aload_n (X : zX p s m args c D cl K A cc nL own Ts tys G) {k0 : Fin 4} {i j : Nat} {x : Nat} (hd : decode cc pc = .ok (.aload_n k0, 1)) (hi : (k0 : Nat) = i) (hj : L[j]? = some (i, .ref x)) (k : AW p l e R s m args below meth c D cl K dA A O nL S kc ks Q (pc + 1) L (.ref x :: st)) : AW p l e R s m args below meth c D cl K dA A O nL S kc ks Q pc L (st) := fun ad H locs ls hH hS hl ho => lv_aload_n (x := ad x) X.1 X.2.1 hd hi (lv_at hl j (zq_at hj)) (k ad H locs ls hH hS hl (ho.c (ho.l hj)))
theorem z_aload (X : zX p s m args c D cl K A cc nL own Ts tys G) {i j : Nat} {x : Nat} (hd : decode cc pc = .ok (.aload i, 2)) (hj : L[j]? = some (i, .ref x)) (k : AW p l e R s m args below meth c D cl K dA A O nL S kc ks Q (pc + 2) L (.ref x :: st)) : AW p l e R s m args below meth c D cl K dA A O nL S kc ks Q pc L (st) := fun ad H locs ls hH hS hl ho => lv_aload (x := ad x) X.1 X.2.1 hd (lv_at hl j (zq_at hj)) (k ad H locs ls hH hS hl (ho.c (ho.l hj)))
theorem z_istore_n (X : zX p s m args c D cl K A cc nL own Ts tys G) {k0 : Fin 4} {i : Nat} {x : Int32} {L' : List (Nat × Value)} (hd : decode cc pc = .ok (.istore_n k0, 1)) (hi : (k0 : Nat) = i) (hn : i < nL) (hl9 : (i, Value.int x) :: L.filter (zf i) = L') (k : AW p l e R s m args below meth c D cl K dA A O nL S kc ks Q (pc + 1) L' (st)) : AW p l e R s m args below meth c D cl K dA A O nL S kc ks Q pc L (Value.int x :: st) := fun ad H locs ls hH hS hl ho => lv_istore_n (x := x) X.1 X.2.1 hd hi hl hn (zq_store hl9) (fun ls' h' => k ad H locs ls' hH hS h' (ho.t.s ho.h hl9))
theorem z_istore (X : zX p s m args c D cl K A cc nL own Ts tys G) {i : Nat} {x : Int32} {L' : List (Nat × Value)} (hd : decode cc pc = .ok (.istore i, 2))  (hn : i < nL) (hl9 : (i, Value.int x) :: L.filter (zf i) = L') (k : AW p l e R s m args below meth c D cl K dA A O nL S kc ks Q (pc + 2) L' (st)) : AW p l e R s m args below meth c D cl K dA A O nL S kc ks Q pc L (Value.int x :: st) := fun ad H locs ls hH hS hl ho => lv_istore (x := x) X.1 X.2.1 hd hl hn (zq_store hl9) (fun ls' h' => k ad H locs ls' hH hS h' (ho.t.s ho.h hl9))
theorem z_astore_n (X : zX p s m args c D cl K A cc nL own Ts tys G) {k0 : Fin 4} {i : Nat} {x : Nat} {L' : List (Nat × Value)} (hd : decode cc pc = .ok (.astore_n k0, 1)) (hi : (k0 : Nat) = i) (hn : i < nL) (hl9 : (i, Value.ref x) :: L.filter (zf i) = L') (k : AW p l e R s m args below meth c D cl K dA A O nL S kc ks Q (pc + 1) L' (st)) : AW p l e R s m args below meth c D cl K dA A O nL S kc ks Q pc L (Value.ref x :: st) := fun ad H locs ls hH hS hl ho => lv_astore_n (x := ad x) X.1 X.2.1 hd hi hl hn (zq_store hl9) (fun ls' h' => k ad H locs ls' hH hS h' (ho.t.s ho.h hl9))
theorem z_astore (X : zX p s m args c D cl K A cc nL own Ts tys G) {i : Nat} {x : Nat} {L' : List (Nat × Value)} (hd : decode cc pc = .ok (.astore i, 2))  (hn : i < nL) (hl9 : (i, Value.ref x) :: L.filter (zf i) = L') (k : AW p l e R s m args below meth c D cl K dA A O nL S kc ks Q (pc + 2) L' (st)) : AW p l e R s m args below meth c D cl K dA A O nL S kc ks Q pc L (Value.ref x :: st) := fun ad H locs ls hH hS hl ho => lv_astore (x := ad x) X.1 X.2.1 hd hl hn (zq_store hl9) (fun ls' h' => k ad H locs ls' hH hS h' (ho.t.s ho.h hl9))
theorem z_astore_nN (X : zX p s m args c D cl K A cc nL own Ts tys G) {k0 : Fin 4} {i : Nat} {L' : List (Nat × Value)} (hd : decode cc pc = .ok (.astore_n k0, 1)) (hi : (k0 : Nat) = i) (hn : i < nL) (hl9 : (i, Value.null) :: L.filter (zf i) = L') (k : AW p l e R s m args below meth c D cl K dA A O nL S kc ks Q (pc + 1) L' (st)) : AW p l e R s m args below meth c D cl K dA A O nL S kc ks Q pc L (Value.null :: st) := fun ad H locs ls hH hS hl ho => lv_astore_nN X.1 X.2.1 hd hi hl hn (zq_store hl9) (fun ls' h' => k ad H locs ls' hH hS h' (ho.t.s ho.h hl9))
theorem z_astoreN (X : zX p s m args c D cl K A cc nL own Ts tys G) {i : Nat} {L' : List (Nat × Value)} (hd : decode cc pc = .ok (.astore i, 2))  (hn : i < nL) (hl9 : (i, Value.null) :: L.filter (zf i) = L') (k : AW p l e R s m args below meth c D cl K dA A O nL S kc ks Q (pc + 2) L' (st)) : AW p l e R s m args below meth c D cl K dA A O nL S kc ks Q pc L (Value.null :: st) := fun ad H locs ls hH hS hl ho => lv_astoreN X.1 X.2.1 hd hl hn (zq_store hl9) (fun ls' h' => k ad H locs ls' hH hS h' (ho.t.s ho.h hl9))
theorem z_aload_nN (X : zX p s m args c D cl K A cc nL own Ts tys G) {k0 : Fin 4} {i j : Nat} (hd : decode cc pc = .ok (.aload_n k0, 1)) (hi : (k0 : Nat) = i) (hj : L[j]? = some (i, .null)) (k : AW p l e R s m args below meth c D cl K dA A O nL S kc ks Q (pc + 1) L (.null :: st)) : AW p l e R s m args below meth c D cl K dA A O nL S kc ks Q pc L (st) := fun ad H locs ls hH hS hl ho => lv_aload_nN X.1 X.2.1 hd hi (lv_at hl j (zq_at hj)) (k ad H locs ls hH hS hl (ho.c trivial))
theorem z_aloadN (X : zX p s m args c D cl K A cc nL own Ts tys G) {i j : Nat} (hd : decode cc pc = .ok (.aload i, 2)) (hj : L[j]? = some (i, .null)) (k : AW p l e R s m args below meth c D cl K dA A O nL S kc ks Q (pc + 2) L (.null :: st)) : AW p l e R s m args below meth c D cl K dA A O nL S kc ks Q pc L (st) := fun ad H locs ls hH hS hl ho => lv_aloadN X.1 X.2.1 hd (lv_at hl j (zq_at hj)) (k ad H locs ls hH hS hl (ho.c trivial))
theorem z_iinc (X : zX p s m args c D cl K A cc nL own Ts tys G) {i j : Nat} {n : Int} {x v : Int32} {L' : List (Nat × Value)} (hd : decode cc pc = .ok (.iinc i n, 3)) (hj : L[j]? = some (i, .int x)) (hv : x + Int32.ofInt n = v) (hn : i < nL) (hl9 : (i, Value.int v) :: L.filter (zf i) = L') (k : AW p l e R s m args below meth c D cl K dA A O nL S kc ks Q (pc + 3) L' (st)) : AW p l e R s m args below meth c D cl K dA A O nL S kc ks Q pc L (st) := fun ad H locs ls hH hS hl ho => lv_iinc (x := x) (v := v) X.1 X.2.1 hd hl (k := j) (zq_at hj) hv hn (zq_store (v := .int v) hl9) (fun ls' h' => k ad H locs ls' hH hS h' (ho.s (v := .int v) trivial hl9))
theorem z_if_eq (X : zX p s m args c D cl K A cc nL own Ts tys G) {x : Int32} {off : Int} {tgt : Nat} (hd : decode cc pc = .ok (.ifCond .eq off, 3)) (ht : (pc : Int) + off = (tgt : Int)) (kt : x = 0 → AW p l e R s m args below meth c D cl K dA A O nL S kc ks Q tgt L (st)) (kf : ¬ x = 0 → AW p l e R s m args below meth c D cl K dA A O nL S kc ks Q (pc + 3) L (st)) : AW p l e R s m args below meth c D cl K dA A O nL S kc ks Q pc L (.int x :: st) := fun ad H locs ls hH hS hl ho => lv_if_eq (x := x) X.1 X.2.1 hd ht (fun h => kt h ad H locs ls hH hS hl ho.t) (fun h => kf h ad H locs ls hH hS hl ho.t)
theorem z_icmp_eq (X : zX p s m args c D cl K A cc nL own Ts tys G) {x y : Int32} {off : Int} {tgt : Nat} (hd : decode cc pc = .ok (.if_icmp .eq off, 3)) (ht : (pc : Int) + off = (tgt : Int)) (kt : x = y → AW p l e R s m args below meth c D cl K dA A O nL S kc ks Q tgt L (st)) (kf : ¬ x = y → AW p l e R s m args below meth c D cl K dA A O nL S kc ks Q (pc + 3) L (st)) : AW p l e R s m args below meth c D cl K dA A O nL S kc ks Q pc L (.int y :: .int x :: st) := fun ad H locs ls hH hS hl ho => lv_icmp_eq (x := x) (y := y) X.1 X.2.1 hd ht (fun h => kt h ad H locs ls hH hS hl ho.t.t) (fun h => kf h ad H locs ls hH hS hl ho.t.t)
theorem z_if_ne (X : zX p s m args c D cl K A cc nL own Ts tys G) {x : Int32} {off : Int} {tgt : Nat} (hd : decode cc pc = .ok (.ifCond .ne off, 3)) (ht : (pc : Int) + off = (tgt : Int)) (kt : ¬ x = 0 → AW p l e R s m args below meth c D cl K dA A O nL S kc ks Q tgt L (st)) (kf : x = 0 → AW p l e R s m args below meth c D cl K dA A O nL S kc ks Q (pc + 3) L (st)) : AW p l e R s m args below meth c D cl K dA A O nL S kc ks Q pc L (.int x :: st) := fun ad H locs ls hH hS hl ho => lv_if_ne (x := x) X.1 X.2.1 hd ht (fun h => kt h ad H locs ls hH hS hl ho.t) (fun h => kf h ad H locs ls hH hS hl ho.t)
theorem z_icmp_ne (X : zX p s m args c D cl K A cc nL own Ts tys G) {x y : Int32} {off : Int} {tgt : Nat} (hd : decode cc pc = .ok (.if_icmp .ne off, 3)) (ht : (pc : Int) + off = (tgt : Int)) (kt : ¬ x = y → AW p l e R s m args below meth c D cl K dA A O nL S kc ks Q tgt L (st)) (kf : x = y → AW p l e R s m args below meth c D cl K dA A O nL S kc ks Q (pc + 3) L (st)) : AW p l e R s m args below meth c D cl K dA A O nL S kc ks Q pc L (.int y :: .int x :: st) := fun ad H locs ls hH hS hl ho => lv_icmp_ne (x := x) (y := y) X.1 X.2.1 hd ht (fun h => kt h ad H locs ls hH hS hl ho.t.t) (fun h => kf h ad H locs ls hH hS hl ho.t.t)
theorem z_if_lt (X : zX p s m args c D cl K A cc nL own Ts tys G) {x : Int32} {off : Int} {tgt : Nat} (hd : decode cc pc = .ok (.ifCond .lt off, 3)) (ht : (pc : Int) + off = (tgt : Int)) (kt : x < 0 → AW p l e R s m args below meth c D cl K dA A O nL S kc ks Q tgt L (st)) (kf : ¬ x < 0 → AW p l e R s m args below meth c D cl K dA A O nL S kc ks Q (pc + 3) L (st)) : AW p l e R s m args below meth c D cl K dA A O nL S kc ks Q pc L (.int x :: st) := fun ad H locs ls hH hS hl ho => lv_if_lt (x := x) X.1 X.2.1 hd ht (fun h => kt h ad H locs ls hH hS hl ho.t) (fun h => kf h ad H locs ls hH hS hl ho.t)
theorem z_icmp_lt (X : zX p s m args c D cl K A cc nL own Ts tys G) {x y : Int32} {off : Int} {tgt : Nat} (hd : decode cc pc = .ok (.if_icmp .lt off, 3)) (ht : (pc : Int) + off = (tgt : Int)) (kt : x < y → AW p l e R s m args below meth c D cl K dA A O nL S kc ks Q tgt L (st)) (kf : ¬ x < y → AW p l e R s m args below meth c D cl K dA A O nL S kc ks Q (pc + 3) L (st)) : AW p l e R s m args below meth c D cl K dA A O nL S kc ks Q pc L (.int y :: .int x :: st) := fun ad H locs ls hH hS hl ho => lv_icmp_lt (x := x) (y := y) X.1 X.2.1 hd ht (fun h => kt h ad H locs ls hH hS hl ho.t.t) (fun h => kf h ad H locs ls hH hS hl ho.t.t)
theorem z_if_ge (X : zX p s m args c D cl K A cc nL own Ts tys G) {x : Int32} {off : Int} {tgt : Nat} (hd : decode cc pc = .ok (.ifCond .ge off, 3)) (ht : (pc : Int) + off = (tgt : Int)) (kt : 0 ≤ x → AW p l e R s m args below meth c D cl K dA A O nL S kc ks Q tgt L (st)) (kf : ¬ 0 ≤ x → AW p l e R s m args below meth c D cl K dA A O nL S kc ks Q (pc + 3) L (st)) : AW p l e R s m args below meth c D cl K dA A O nL S kc ks Q pc L (.int x :: st) := fun ad H locs ls hH hS hl ho => lv_if_ge (x := x) X.1 X.2.1 hd ht (fun h => kt h ad H locs ls hH hS hl ho.t) (fun h => kf h ad H locs ls hH hS hl ho.t)
theorem z_icmp_ge (X : zX p s m args c D cl K A cc nL own Ts tys G) {x y : Int32} {off : Int} {tgt : Nat} (hd : decode cc pc = .ok (.if_icmp .ge off, 3)) (ht : (pc : Int) + off = (tgt : Int)) (kt : y ≤ x → AW p l e R s m args below meth c D cl K dA A O nL S kc ks Q tgt L (st)) (kf : ¬ y ≤ x → AW p l e R s m args below meth c D cl K dA A O nL S kc ks Q (pc + 3) L (st)) : AW p l e R s m args below meth c D cl K dA A O nL S kc ks Q pc L (.int y :: .int x :: st) := fun ad H locs ls hH hS hl ho => lv_icmp_ge (x := x) (y := y) X.1 X.2.1 hd ht (fun h => kt h ad H locs ls hH hS hl ho.t.t) (fun h => kf h ad H locs ls hH hS hl ho.t.t)
theorem z_if_gt (X : zX p s m args c D cl K A cc nL own Ts tys G) {x : Int32} {off : Int} {tgt : Nat} (hd : decode cc pc = .ok (.ifCond .gt off, 3)) (ht : (pc : Int) + off = (tgt : Int)) (kt : 0 < x → AW p l e R s m args below meth c D cl K dA A O nL S kc ks Q tgt L (st)) (kf : ¬ 0 < x → AW p l e R s m args below meth c D cl K dA A O nL S kc ks Q (pc + 3) L (st)) : AW p l e R s m args below meth c D cl K dA A O nL S kc ks Q pc L (.int x :: st) := fun ad H locs ls hH hS hl ho => lv_if_gt (x := x) X.1 X.2.1 hd ht (fun h => kt h ad H locs ls hH hS hl ho.t) (fun h => kf h ad H locs ls hH hS hl ho.t)
theorem z_icmp_gt (X : zX p s m args c D cl K A cc nL own Ts tys G) {x y : Int32} {off : Int} {tgt : Nat} (hd : decode cc pc = .ok (.if_icmp .gt off, 3)) (ht : (pc : Int) + off = (tgt : Int)) (kt : y < x → AW p l e R s m args below meth c D cl K dA A O nL S kc ks Q tgt L (st)) (kf : ¬ y < x → AW p l e R s m args below meth c D cl K dA A O nL S kc ks Q (pc + 3) L (st)) : AW p l e R s m args below meth c D cl K dA A O nL S kc ks Q pc L (.int y :: .int x :: st) := fun ad H locs ls hH hS hl ho => lv_icmp_gt (x := x) (y := y) X.1 X.2.1 hd ht (fun h => kt h ad H locs ls hH hS hl ho.t.t) (fun h => kf h ad H locs ls hH hS hl ho.t.t)
theorem z_if_le (X : zX p s m args c D cl K A cc nL own Ts tys G) {x : Int32} {off : Int} {tgt : Nat} (hd : decode cc pc = .ok (.ifCond .le off, 3)) (ht : (pc : Int) + off = (tgt : Int)) (kt : x ≤ 0 → AW p l e R s m args below meth c D cl K dA A O nL S kc ks Q tgt L (st)) (kf : ¬ x ≤ 0 → AW p l e R s m args below meth c D cl K dA A O nL S kc ks Q (pc + 3) L (st)) : AW p l e R s m args below meth c D cl K dA A O nL S kc ks Q pc L (.int x :: st) := fun ad H locs ls hH hS hl ho => lv_if_le (x := x) X.1 X.2.1 hd ht (fun h => kt h ad H locs ls hH hS hl ho.t) (fun h => kf h ad H locs ls hH hS hl ho.t)
theorem z_icmp_le (X : zX p s m args c D cl K A cc nL own Ts tys G) {x y : Int32} {off : Int} {tgt : Nat} (hd : decode cc pc = .ok (.if_icmp .le off, 3)) (ht : (pc : Int) + off = (tgt : Int)) (kt : x ≤ y → AW p l e R s m args below meth c D cl K dA A O nL S kc ks Q tgt L (st)) (kf : ¬ x ≤ y → AW p l e R s m args below meth c D cl K dA A O nL S kc ks Q (pc + 3) L (st)) : AW p l e R s m args below meth c D cl K dA A O nL S kc ks Q pc L (.int y :: .int x :: st) := fun ad H locs ls hH hS hl ho => lv_icmp_le (x := x) (y := y) X.1 X.2.1 hd ht (fun h => kt h ad H locs ls hH hS hl ho.t.t) (fun h => kf h ad H locs ls hH hS hl ho.t.t)
theorem z_goto (X : zX p s m args c D cl K A cc nL own Ts tys G) {off : Int} {tgt : Nat} (hd : decode cc pc = .ok (.goto off, 3)) (ht : (pc : Int) + off = (tgt : Int)) (k : AW p l e R s m args below meth c D cl K dA A O nL S kc ks Q tgt L (st)) : AW p l e R s m args below meth c D cl K dA A O nL S kc ks Q pc L (st) := fun ad H locs ls hH hS hl ho => lv_goto X.1 X.2.1 hd ht (k ad H locs ls hH hS hl ho)
theorem z_ifnull (X : zX p s m args c D cl K A cc nL own Ts tys G) {x : Nat} {off : Int} (hd : decode cc pc = .ok (.ifnull off, 3)) (k : AW p l e R s m args below meth c D cl K dA A O nL S kc ks Q (pc + 3) L (st)) : AW p l e R s m args below meth c D cl K dA A O nL S kc ks Q pc L (.ref x :: st) := fun ad H locs ls hH hS hl ho => lv_ifnull (x := ad x) X.1 X.2.1 hd (k ad H locs ls hH hS hl ho.t)
theorem z_ifnullN (X : zX p s m args c D cl K A cc nL own Ts tys G) {off : Int} {tgt : Nat} (hd : decode cc pc = .ok (.ifnull off, 3)) (ht : (pc : Int) + off = (tgt : Int)) (k : AW p l e R s m args below meth c D cl K dA A O nL S kc ks Q tgt L (st)) : AW p l e R s m args below meth c D cl K dA A O nL S kc ks Q pc L (.null :: st) := fun ad H locs ls hH hS hl ho => lv_ifnullN X.1 X.2.1 hd ht (k ad H locs ls hH hS hl ho.t)
theorem z_ifnonnull (X : zX p s m args c D cl K A cc nL own Ts tys G) {x : Nat} {off : Int} {tgt : Nat} (hd : decode cc pc = .ok (.ifnonnull off, 3)) (ht : (pc : Int) + off = (tgt : Int)) (k : AW p l e R s m args below meth c D cl K dA A O nL S kc ks Q tgt L (st)) : AW p l e R s m args below meth c D cl K dA A O nL S kc ks Q pc L (.ref x :: st) := fun ad H locs ls hH hS hl ho => lv_ifnonnull (x := ad x) X.1 X.2.1 hd ht (k ad H locs ls hH hS hl ho.t)
theorem z_ifnonnullN (X : zX p s m args c D cl K A cc nL own Ts tys G) {off : Int} (hd : decode cc pc = .ok (.ifnonnull off, 3)) (k : AW p l e R s m args below meth c D cl K dA A O nL S kc ks Q (pc + 3) L (st)) : AW p l e R s m args below meth c D cl K dA A O nL S kc ks Q pc L (.null :: st) := fun ad H locs ls hH hS hl ho => lv_ifnonnullN X.1 X.2.1 hd (k ad H locs ls hH hS hl ho.t)
theorem z_tableIn (X : zX p s m args c D cl K A cc nL own Ts tys G) {dflt lo hi : Int} {offs : Array Int} {len : Nat} {x : Int32} {off : Int} {tgt : Nat} (hd : decode cc pc = .ok (.tableswitch dflt lo hi offs, len)) (h1 : ¬ x.toInt < lo) (h2 : ¬ hi < x.toInt) (h3 : offs[(x.toInt - lo).toNat]? = some off) (ht : (pc : Int) + off = (tgt : Int)) (k : AW p l e R s m args below meth c D cl K dA A O nL S kc ks Q tgt L (st)) : AW p l e R s m args below meth c D cl K dA A O nL S kc ks Q pc L (.int x :: st) := fun ad H locs ls hH hS hl ho => lv_tableIn (x := x) X.1 X.2.1 hd h1 h2 h3 ht (k ad H locs ls hH hS hl ho.t)
theorem z_tableOut (X : zX p s m args c D cl K A cc nL own Ts tys G) {dflt lo hi : Int} {offs : Array Int} {len : Nat} {x : Int32} {tgt : Nat} (hd : decode cc pc = .ok (.tableswitch dflt lo hi offs, len)) (h : x.toInt < lo ∨ hi < x.toInt) (ht : (pc : Int) + dflt = (tgt : Int)) (k : AW p l e R s m args below meth c D cl K dA A O nL S kc ks Q tgt L (st)) : AW p l e R s m args below meth c D cl K dA A O nL S kc ks Q pc L (.int x :: st) := fun ad H locs ls hH hS hl ho => lv_tableOut (x := x) X.1 X.2.1 hd h ht (k ad H locs ls hH hS hl ho.t)
theorem z_geti (X : zX p s m args c D cl K A cc nL own Ts tys G) {C ref : String} {T : u_T} {N ci index n k : Nat} (hin : ∀ w ∈ u_ws C T N, w ∈ Ts) (hc : cl[ci]? = some (C, T, N)) (hN : K.2.2 ci = N) (hkd : K.1 n = .inl ci) (hk : k < N) (hlk : Cond.fieldLink own index ref (T k).2.1 (T k).2.2.1 ∈ Ts) (hrf : (T k).1 = ref) (hft : K.2.1 ci k = false) (hd : decode cc pc = .ok (.getfield index, 3)) {v : Int32} (hv : S.2.1 n k = v) (kk : AW p l e R s m args below meth c D cl K dA A O nL S kc ks Q (pc + 3) L (.int v :: st)) : AW p l e R s m args below meth c D cl K dA A O nL S kc ks Q pc L (.ref n :: st) := by
  intro ad H locs ls hH hS hl ho
  obtain ⟨h0, hcl, hz, h00, dl, hnd, hdl, hP, hD⟩ := id hH
  have hdm : S.1 n = true := (ho.h).elim (fun e9 => by rw [e9, X.2.2.2.2.2.2.2.1] at hkd; cases hkd) id
  obtain ⟨i, hi⟩ := List.getElem?_of_mem ((hdl n).mpr hdm)
  have he : (zW K dA ad S dl)[i]? = some (ad n, .inr (ci, zF K ad S ci n)) := by rw [zW_at hi, zC_o hkd]
  subst hv
  exact va_get X.1 X.2.1 X.2.2.2.2.1 hin X.2.2.2.1 X.2.2.2.2.2.1 hP i he hc k hk (X.2.2.2.2.1 _ hlk) (fun x9 h9 => by rw [← hrf]; exact h9) (zF_i (by rw [hN]; exact hk) hft) hd (kk ad H locs ls hH hS hl (ho.t.c trivial))
theorem z_getr (X : zX p s m args c D cl K A cc nL own Ts tys G) {C ref : String} {T : u_T} {N ci index n k : Nat} {x : Nat} (hin : ∀ w ∈ u_ws C T N, w ∈ Ts) (hc : cl[ci]? = some (C, T, N)) (hN : K.2.2 ci = N) (hkd : K.1 n = .inl ci) (hk : k < N) (hlk : Cond.fieldLink own index ref (T k).2.1 (T k).2.2.1 ∈ Ts) (hrf : (T k).1 = ref) (hft : K.2.1 ci k = true) (hx : S.2.2.1 n k = some x) (hd : decode cc pc = .ok (.getfield index, 3)) (kk : AW p l e R s m args below meth c D cl K dA A O nL S kc ks Q (pc + 3) L (.ref x :: st)) : AW p l e R s m args below meth c D cl K dA A O nL S kc ks Q pc L (.ref n :: st) := by
  intro ad H locs ls hH hS hl ho
  obtain ⟨h0, hcl, hz, h00, dl, hnd, hdl, hP, hD⟩ := id hH
  have hdm : S.1 n = true := (ho.h).elim (fun e9 => by rw [e9, X.2.2.2.2.2.2.2.1] at hkd; cases hkd) id
  obtain ⟨i, hi⟩ := List.getElem?_of_mem ((hdl n).mpr hdm)
  have he : (zW K dA ad S dl)[i]? = some (ad n, .inr (ci, zF K ad S ci n)) := by rw [zW_at hi, zC_o hkd]
  have h9 := zF_r (ad := ad) (S := S) (n := n) (by rw [hN]; exact hk) hft
  rw [hx] at h9
  exact va_get X.1 X.2.1 X.2.2.2.2.1 hin X.2.2.2.1 X.2.2.2.2.2.1 hP i he hc k hk (X.2.2.2.2.1 _ hlk) (fun x9 h9 => by rw [← hrf]; exact h9) h9 hd (kk ad H locs ls hH hS hl (ho.t.c (Or.inr (hcl n k x hx))))
theorem z_getn (X : zX p s m args c D cl K A cc nL own Ts tys G) {C ref : String} {T : u_T} {N ci index n k : Nat} (hin : ∀ w ∈ u_ws C T N, w ∈ Ts) (hc : cl[ci]? = some (C, T, N)) (hN : K.2.2 ci = N) (hkd : K.1 n = .inl ci) (hk : k < N) (hlk : Cond.fieldLink own index ref (T k).2.1 (T k).2.2.1 ∈ Ts) (hrf : (T k).1 = ref) (hft : K.2.1 ci k = true) (hx : S.2.2.1 n k = none) (hd : decode cc pc = .ok (.getfield index, 3)) (kk : AW p l e R s m args below meth c D cl K dA A O nL S kc ks Q (pc + 3) L (.null :: st)) : AW p l e R s m args below meth c D cl K dA A O nL S kc ks Q pc L (.ref n :: st) := by
  intro ad H locs ls hH hS hl ho
  obtain ⟨h0, hcl, hz, h00, dl, hnd, hdl, hP, hD⟩ := id hH
  have hdm : S.1 n = true := (ho.h).elim (fun e9 => by rw [e9, X.2.2.2.2.2.2.2.1] at hkd; cases hkd) id
  obtain ⟨i, hi⟩ := List.getElem?_of_mem ((hdl n).mpr hdm)
  have he : (zW K dA ad S dl)[i]? = some (ad n, .inr (ci, zF K ad S ci n)) := by rw [zW_at hi, zC_o hkd]
  have h9 := zF_r (ad := ad) (S := S) (n := n) (by rw [hN]; exact hk) hft
  rw [hx] at h9
  exact va_get X.1 X.2.1 X.2.2.2.2.1 hin X.2.2.2.1 X.2.2.2.2.2.1 hP i he hc k hk (X.2.2.2.2.1 _ hlk) (fun x9 h9 => by rw [← hrf]; exact h9) h9 hd (kk ad H locs ls hH hS hl (ho.t.c trivial))
theorem z_puti (X : zX p s m args c D cl K A cc nL own Ts tys G) {C ref : String} {T : u_T} {N ci index n k : Nat} {x : Int32} {ty : FieldType} (hin : ∀ w ∈ u_ws C T N, w ∈ Ts) (hc : cl[ci]? = some (C, T, N)) (hN : K.2.2 ci = N) (hkd : K.1 n = .inl ci) (hk : k < N) (hlk : Cond.fieldLink own index ref (T k).2.1 (T k).2.2.1 ∈ Ts) (hrf : (T k).1 = ref) (ty0 : Nat → FieldType) (hty : ∀ k, k < N → parseFieldDescriptor (T k).2.2.1 = some (ty0 k)) (hnm : ∀ a, a < N → ∀ b, b < N → a ≠ b → (T a).2.1 ≠ (T b).2.1) (hfin : (T k).2.2.2 = false) (hft : K.2.1 ci k = false) (hpd : parseFieldDescriptor (T k).2.2.1 = some ty) (hnr : narrow ty (.int x) = .int x) (hfi : fits ty (.int x) = true) (hd : decode cc pc = .ok (.putfield index, 3)) (kk : AW p l e R s m args below meth c D cl K dA A O nL (zsi S n k x) kc ks Q (pc + 3) L (st)) : AW p l e R s m args below meth c D cl K dA A O nL S kc ks Q pc L (.int x :: .ref n :: st) := by
  intro ad H locs ls hH hS hl ho
  obtain ⟨h0, hcl, hz, h00, dl, hnd, hdl, hP, hD⟩ := id hH
  have hdm : S.1 n = true := (ho.t.h).elim (fun e9 => by rw [e9, X.2.2.2.2.2.2.2.1] at hkd; cases hkd) id
  obtain ⟨i, hi⟩ := List.getElem?_of_mem ((hdl n).mpr hdm)
  have he : (zW K dA ad S dl)[i]? = some (ad n, .inr (ci, zF K ad S ci n)) := by rw [zW_at hi, zC_o hkd]
  exact va_put X.1 X.2.1 X.2.2.2.2.1 hin ty0 hty hnm X.2.2.2.1 X.2.2.2.2.2.1 hP hD hS i he hc k hk (X.2.2.2.2.1 _ hlk) (fun x9 h9 => by rw [← hrf]; exact h9) hfin (v := .int x) hpd hnr hfi (by rw [zF_len, hN]; exact hk) hd (fun H1 locs1 hP1 hD1 hS1 => kk ad H1 locs1 ls (zH_wr (S' := (zsi S n k x)) hH rfl hdm (hcl) (fun q hq => ⟨(z2_o hq).symm, rfl, rfl⟩) hnd hdl hi (by rw [zC_o hkd, zF_seti hft]) hP1 hD1) hS1 hl (show zok (zsi S n k x) L st from ho.t.t))
theorem z_putiF (X : zX p s m args c D cl K A cc nL own Ts tys G) {C ref : String} {T : u_T} {N ci index n k : Nat} {x : Int32} {ty : FieldType} (hin : ∀ w ∈ u_ws C T N, w ∈ Ts) (hc : cl[ci]? = some (C, T, N)) (hN : K.2.2 ci = N) (hkd : K.1 n = .inl ci) (hk : k < N) (hlk : Cond.fieldLink own index ref (T k).2.1 (T k).2.2.1 ∈ Ts) (hrf : (T k).1 = ref) (ty0 : Nat → FieldType) (hty : ∀ k, k < N → parseFieldDescriptor (T k).2.2.1 = some (ty0 k)) (hnm : ∀ a, a < N → ∀ b, b < N → a ≠ b → (T a).2.1 ≠ (T b).2.1) (hfin : (T k).2.2.2 = true) (hin2 : meth.name = "<init>") (hdecl : (T k).1 = own) (hft : K.2.1 ci k = false) (hpd : parseFieldDescriptor (T k).2.2.1 = some ty) (hnr : narrow ty (.int x) = .int x) (hfi : fits ty (.int x) = true) (hd : decode cc pc = .ok (.putfield index, 3)) (kk : AW p l e R s m args below meth c D cl K dA A O nL (zsi S n k x) kc ks Q (pc + 3) L (st)) : AW p l e R s m args below meth c D cl K dA A O nL S kc ks Q pc L (.int x :: .ref n :: st) := by
  intro ad H locs ls hH hS hl ho
  obtain ⟨h0, hcl, hz, h00, dl, hnd, hdl, hP, hD⟩ := id hH
  have hdm : S.1 n = true := (ho.t.h).elim (fun e9 => by rw [e9, X.2.2.2.2.2.2.2.1] at hkd; cases hkd) id
  obtain ⟨i, hi⟩ := List.getElem?_of_mem ((hdl n).mpr hdm)
  have he : (zW K dA ad S dl)[i]? = some (ad n, .inr (ci, zF K ad S ci n)) := by rw [zW_at hi, zC_o hkd]
  exact va_putF X.1 X.2.1 X.2.2.2.2.1 hin ty0 hty hnm X.2.2.2.1 X.2.2.2.2.2.1 hP hD hS i he hc k hk (X.2.2.2.2.1 _ hlk) (fun x9 h9 => by rw [← hrf]; exact h9) hfin hin2 hdecl (v := .int x) hpd hnr hfi (by rw [zF_len, hN]; exact hk) hd (fun H1 locs1 hP1 hD1 hS1 => kk ad H1 locs1 ls (zH_wr (S' := (zsi S n k x)) hH rfl hdm (hcl) (fun q hq => ⟨(z2_o hq).symm, rfl, rfl⟩) hnd hdl hi (by rw [zC_o hkd, zF_seti hft]) hP1 hD1) hS1 hl (show zok (zsi S n k x) L st from ho.t.t))
theorem z_putr (X : zX p s m args c D cl K A cc nL own Ts tys G) {C ref : String} {T : u_T} {N ci index n k : Nat} {x : Nat} {cn : String} (hin : ∀ w ∈ u_ws C T N, w ∈ Ts) (hc : cl[ci]? = some (C, T, N)) (hN : K.2.2 ci = N) (hkd : K.1 n = .inl ci) (hk : k < N) (hlk : Cond.fieldLink own index ref (T k).2.1 (T k).2.2.1 ∈ Ts) (hrf : (T k).1 = ref) (ty0 : Nat → FieldType) (hty : ∀ k, k < N → parseFieldDescriptor (T k).2.2.1 = some (ty0 k)) (hnm : ∀ a, a < N → ∀ b, b < N → a ≠ b → (T a).2.1 ≠ (T b).2.1) (hfin : (T k).2.2.2 = false) (hft : K.2.1 ci k = true) (hpd : parseFieldDescriptor (T k).2.2.1 = some (.object cn) ∨ ∃ t, parseFieldDescriptor (T k).2.2.1 = some (.array t)) (hx0 : x ≠ 0) (hd : decode cc pc = .ok (.putfield index, 3)) (kk : AW p l e R s m args below meth c D cl K dA A O nL (zsp S n k (some x)) kc ks Q (pc + 3) L (st)) : AW p l e R s m args below meth c D cl K dA A O nL S kc ks Q pc L (.ref x :: .ref n :: st) := by
  intro ad H locs ls hH hS hl ho
  obtain ⟨h0, hcl, hz, h00, dl, hnd, hdl, hP, hD⟩ := id hH
  have hdm : S.1 n = true := (ho.t.h).elim (fun e9 => by rw [e9, X.2.2.2.2.2.2.2.1] at hkd; cases hkd) id
  obtain ⟨i, hi⟩ := List.getElem?_of_mem ((hdl n).mpr hdm)
  have he : (zW K dA ad S dl)[i]? = some (ad n, .inr (ci, zF K ad S ci n)) := by rw [zW_at hi, zC_o hkd]
  rcases hpd with hpd | ⟨t9, hpd⟩
  · exact va_put X.1 X.2.1 X.2.2.2.2.1 hin ty0 hty hnm X.2.2.2.1 X.2.2.2.2.2.1 hP hD hS i he hc k hk (X.2.2.2.2.1 _ hlk) (fun x9 h9 => by rw [← hrf]; exact h9) hfin (v := .ref (ad x)) hpd rfl rfl (by rw [zF_len, hN]; exact hk) hd (fun H1 locs1 hP1 hD1 hS1 => kk ad H1 locs1 ls (zH_wr (S' := (zsp S n k (some x))) hH rfl hdm (fun a9 k9 x9 h9 => by
    by_cases e9 : a9 = n ∧ k9 = k
    · have h8 : some x = some x9 := by rw [← h9]; show some x = z2 S.2.2.1 n k (some x) a9 k9; rw [e9.1, e9.2, z2_s]
      cases h8
      exact (ho.h).elim (fun e8 => absurd e8 hx0) id
    · exact hcl a9 k9 x9 (by rw [← h9]; show _ = z2 S.2.2.1 n k (some x) a9 k9; unfold z2; rw [if_neg e9])) (fun q hq => ⟨rfl, (z2_o hq).symm, rfl⟩) hnd hdl hi (by rw [zC_o hkd]; exact congrArg (fun z => Sum.inr (ci, z)) (zF_setr (r := some x) hft)) hP1 hD1) hS1 hl (show zok (zsp S n k (some x)) L st from ho.t.t))
  · exact va_put X.1 X.2.1 X.2.2.2.2.1 hin ty0 hty hnm X.2.2.2.1 X.2.2.2.2.2.1 hP hD hS i he hc k hk (X.2.2.2.2.1 _ hlk) (fun x9 h9 => by rw [← hrf]; exact h9) hfin (v := .ref (ad x)) hpd rfl rfl (by rw [zF_len, hN]; exact hk) hd (fun H1 locs1 hP1 hD1 hS1 => kk ad H1 locs1 ls (zH_wr (S' := (zsp S n k (some x))) hH rfl hdm (fun a9 k9 x9 h9 => by
    by_cases e9 : a9 = n ∧ k9 = k
    · have h8 : some x = some x9 := by rw [← h9]; show some x = z2 S.2.2.1 n k (some x) a9 k9; rw [e9.1, e9.2, z2_s]
      cases h8
      exact (ho.h).elim (fun e8 => absurd e8 hx0) id
    · exact hcl a9 k9 x9 (by rw [← h9]; show _ = z2 S.2.2.1 n k (some x) a9 k9; unfold z2; rw [if_neg e9])) (fun q hq => ⟨rfl, (z2_o hq).symm, rfl⟩) hnd hdl hi (by rw [zC_o hkd]; exact congrArg (fun z => Sum.inr (ci, z)) (zF_setr (r := some x) hft)) hP1 hD1) hS1 hl (show zok (zsp S n k (some x)) L st from ho.t.t))
theorem z_putrF (X : zX p s m args c D cl K A cc nL own Ts tys G) {C ref : String} {T : u_T} {N ci index n k : Nat} {x : Nat} {cn : String} (hin : ∀ w ∈ u_ws C T N, w ∈ Ts) (hc : cl[ci]? = some (C, T, N)) (hN : K.2.2 ci = N) (hkd : K.1 n = .inl ci) (hk : k < N) (hlk : Cond.fieldLink own index ref (T k).2.1 (T k).2.2.1 ∈ Ts) (hrf : (T k).1 = ref) (ty0 : Nat → FieldType) (hty : ∀ k, k < N → parseFieldDescriptor (T k).2.2.1 = some (ty0 k)) (hnm : ∀ a, a < N → ∀ b, b < N → a ≠ b → (T a).2.1 ≠ (T b).2.1) (hfin : (T k).2.2.2 = true) (hin2 : meth.name = "<init>") (hdecl : (T k).1 = own) (hft : K.2.1 ci k = true) (hpd : parseFieldDescriptor (T k).2.2.1 = some (.object cn) ∨ ∃ t, parseFieldDescriptor (T k).2.2.1 = some (.array t)) (hx0 : x ≠ 0) (hd : decode cc pc = .ok (.putfield index, 3)) (kk : AW p l e R s m args below meth c D cl K dA A O nL (zsp S n k (some x)) kc ks Q (pc + 3) L (st)) : AW p l e R s m args below meth c D cl K dA A O nL S kc ks Q pc L (.ref x :: .ref n :: st) := by
  intro ad H locs ls hH hS hl ho
  obtain ⟨h0, hcl, hz, h00, dl, hnd, hdl, hP, hD⟩ := id hH
  have hdm : S.1 n = true := (ho.t.h).elim (fun e9 => by rw [e9, X.2.2.2.2.2.2.2.1] at hkd; cases hkd) id
  obtain ⟨i, hi⟩ := List.getElem?_of_mem ((hdl n).mpr hdm)
  have he : (zW K dA ad S dl)[i]? = some (ad n, .inr (ci, zF K ad S ci n)) := by rw [zW_at hi, zC_o hkd]
  rcases hpd with hpd | ⟨t9, hpd⟩
  · exact va_putF X.1 X.2.1 X.2.2.2.2.1 hin ty0 hty hnm X.2.2.2.1 X.2.2.2.2.2.1 hP hD hS i he hc k hk (X.2.2.2.2.1 _ hlk) (fun x9 h9 => by rw [← hrf]; exact h9) hfin hin2 hdecl (v := .ref (ad x)) hpd rfl rfl (by rw [zF_len, hN]; exact hk) hd (fun H1 locs1 hP1 hD1 hS1 => kk ad H1 locs1 ls (zH_wr (S' := (zsp S n k (some x))) hH rfl hdm (fun a9 k9 x9 h9 => by
    by_cases e9 : a9 = n ∧ k9 = k
    · have h8 : some x = some x9 := by rw [← h9]; show some x = z2 S.2.2.1 n k (some x) a9 k9; rw [e9.1, e9.2, z2_s]
      cases h8
      exact (ho.h).elim (fun e8 => absurd e8 hx0) id
    · exact hcl a9 k9 x9 (by rw [← h9]; show _ = z2 S.2.2.1 n k (some x) a9 k9; unfold z2; rw [if_neg e9])) (fun q hq => ⟨rfl, (z2_o hq).symm, rfl⟩) hnd hdl hi (by rw [zC_o hkd]; exact congrArg (fun z => Sum.inr (ci, z)) (zF_setr (r := some x) hft)) hP1 hD1) hS1 hl (show zok (zsp S n k (some x)) L st from ho.t.t))
  · exact va_putF X.1 X.2.1 X.2.2.2.2.1 hin ty0 hty hnm X.2.2.2.1 X.2.2.2.2.2.1 hP hD hS i he hc k hk (X.2.2.2.2.1 _ hlk) (fun x9 h9 => by rw [← hrf]; exact h9) hfin hin2 hdecl (v := .ref (ad x)) hpd rfl rfl (by rw [zF_len, hN]; exact hk) hd (fun H1 locs1 hP1 hD1 hS1 => kk ad H1 locs1 ls (zH_wr (S' := (zsp S n k (some x))) hH rfl hdm (fun a9 k9 x9 h9 => by
    by_cases e9 : a9 = n ∧ k9 = k
    · have h8 : some x = some x9 := by rw [← h9]; show some x = z2 S.2.2.1 n k (some x) a9 k9; rw [e9.1, e9.2, z2_s]
      cases h8
      exact (ho.h).elim (fun e8 => absurd e8 hx0) id
    · exact hcl a9 k9 x9 (by rw [← h9]; show _ = z2 S.2.2.1 n k (some x) a9 k9; unfold z2; rw [if_neg e9])) (fun q hq => ⟨rfl, (z2_o hq).symm, rfl⟩) hnd hdl hi (by rw [zC_o hkd]; exact congrArg (fun z => Sum.inr (ci, z)) (zF_setr (r := some x) hft)) hP1 hD1) hS1 hl (show zok (zsp S n k (some x)) L st from ho.t.t))
theorem z_iald (X : zX p s m args c D cl K A cc nL own Ts tys G) {n len t0 j9 : Nat} {v : Int32} (hkd : K.1 n = .inr (0, len)) (ht : tys[t0]? = some (dA 0, .int)) (hj : j9 < len) (hlen : len < 2 ^ 31) (hd : decode cc pc = .ok (.iaload, 1)) (hv : S.2.1 n j9 = v) (kk : AW p l e R s m args below meth c D cl K dA A O nL S kc ks Q (pc + 1) L (.int v :: st)) : AW p l e R s m args below meth c D cl K dA A O nL S kc ks Q pc L (.int (nI j9) :: .ref n :: st) := by
  intro ad H locs ls hH hS hl ho
  obtain ⟨h0, hcl, hz, h00, dl, hnd, hdl, hP, hD⟩ := id hH
  have ht9 : ¬ (999 = 0) := by decide
  have hdm : S.1 n = true := (ho.t.h).elim (fun e9 => by rw [e9, X.2.2.2.2.2.2.2.1] at hkd; exact absurd (congrArg Prod.fst (Sum.inr.inj hkd)) ht9) id
  obtain ⟨i, hi⟩ := List.getElem?_of_mem ((hdl n).mpr hdm)
  subst hv
  exact va_iald (cA := dA 0) (f := S.2.1 n) X.1 X.2.1 X.2.2.2.2.2.1 hP i t0 (by rw [zW_at hi, zC_a hkd]; rfl) ht (vp_in_nI hj hlen) hd (by rw [nI_clamp (Nat.lt_trans hj hlen)]; exact kk ad H locs ls hH hS hl (ho.t.t.c trivial))
theorem z_zald (X : zX p s m args c D cl K A cc nL own Ts tys G) {n len t0 j9 : Nat} {v : Int32} (hkd : K.1 n = .inr (1, len)) (ht : tys[t0]? = some (dA 1, .boolean)) (hj : j9 < len) (hlen : len < 2 ^ 31) (hd : decode cc pc = .ok (.baload, 1)) (hv : S.2.1 n j9 = v) (kk : AW p l e R s m args below meth c D cl K dA A O nL S kc ks Q (pc + 1) L (.int v :: st)) : AW p l e R s m args below meth c D cl K dA A O nL S kc ks Q pc L (.int (nI j9) :: .ref n :: st) := by
  intro ad H locs ls hH hS hl ho
  obtain ⟨h0, hcl, hz, h00, dl, hnd, hdl, hP, hD⟩ := id hH
  have ht9 : ¬ (999 = 1) := by decide
  have hdm : S.1 n = true := (ho.t.h).elim (fun e9 => by rw [e9, X.2.2.2.2.2.2.2.1] at hkd; exact absurd (congrArg Prod.fst (Sum.inr.inj hkd)) ht9) id
  obtain ⟨i, hi⟩ := List.getElem?_of_mem ((hdl n).mpr hdm)
  subst hv
  exact va_zald (cA := dA 1) (f := S.2.1 n) X.1 X.2.1 X.2.2.2.2.2.1 hP i t0 (by rw [zW_at hi, zC_a hkd]; rfl) ht (vp_in_nI hj hlen) hd (by rw [nI_clamp (Nat.lt_trans hj hlen)]; exact kk ad H locs ls hH hS hl (ho.t.t.c trivial))
theorem z_lald (X : zX p s m args c D cl K A cc nL own Ts tys G) {n len t0 j9 : Nat} {v : Int64} (hkd : K.1 n = .inr (2, len)) (ht : tys[t0]? = some (dA 2, .long)) (hj : j9 < len) (hlen : len < 2 ^ 31) (hd : decode cc pc = .ok (.laload, 1)) (hv : S.2.2.2 n j9 = v) (kk : AW p l e R s m args below meth c D cl K dA A O nL S kc ks Q (pc + 1) L (.long v :: st)) : AW p l e R s m args below meth c D cl K dA A O nL S kc ks Q pc L (.int (nI j9) :: .ref n :: st) := by
  intro ad H locs ls hH hS hl ho
  obtain ⟨h0, hcl, hz, h00, dl, hnd, hdl, hP, hD⟩ := id hH
  have ht9 : ¬ (999 = 2) := by decide
  have hdm : S.1 n = true := (ho.t.h).elim (fun e9 => by rw [e9, X.2.2.2.2.2.2.2.1] at hkd; exact absurd (congrArg Prod.fst (Sum.inr.inj hkd)) ht9) id
  obtain ⟨i, hi⟩ := List.getElem?_of_mem ((hdl n).mpr hdm)
  subst hv
  exact va_lald (cA := dA 2) (f := S.2.2.2 n) X.1 X.2.1 X.2.2.2.2.2.1 hP i t0 (by rw [zW_at hi, zC_a hkd]; rfl) ht (vp_in_nI hj hlen) hd (by rw [nI_clamp (Nat.lt_trans hj hlen)]; exact kk ad H locs ls hH hS hl (ho.t.t.c trivial))
theorem z_aald (X : zX p s m args c D cl K A cc nL own Ts tys G) {n len t0 t j9 : Nat} {C : String} {x : Nat} (hkd : K.1 n = .inr (t, len)) (ht9 : ¬ 999 = t) (ht0 : ¬ t < 2) (ht1 : ¬ t = 2) (ht : tys[t0]? = some (dA t, .object C)) (hj : j9 < len) (hlen : len < 2 ^ 31) (hx : S.2.2.1 n j9 = some x) (hd : decode cc pc = .ok (.aaload, 1)) (kk : AW p l e R s m args below meth c D cl K dA A O nL S kc ks Q (pc + 1) L (.ref x :: st)) : AW p l e R s m args below meth c D cl K dA A O nL S kc ks Q pc L (.int (nI j9) :: .ref n :: st) := by
  intro ad H locs ls hH hS hl ho
  obtain ⟨h0, hcl, hz, h00, dl, hnd, hdl, hP, hD⟩ := id hH
  have hdm : S.1 n = true := (ho.t.h).elim (fun e9 => by rw [e9, X.2.2.2.2.2.2.2.1] at hkd; exact absurd (congrArg Prod.fst (Sum.inr.inj hkd)) ht9) id
  obtain ⟨i, hi⟩ := List.getElem?_of_mem ((hdl n).mpr hdm)
  have hq9 : zAr ad S t len n = (len, .inr (.inr (.inr (.inr (fun j => (S.2.2.1 n j).map ad))))) := by unfold zAr; rw [if_neg ht0, if_neg ht1]
  exact va_aldq (cA := dA t) (f := fun j => (S.2.2.1 n j).map ad) X.1 X.2.1 X.2.2.2.2.2.1 hP i t0 (by rw [zW_at hi, zC_a hkd, hq9]) ht (vp_in_nI hj hlen) hd (by rw [nI_clamp (Nat.lt_trans hj hlen), hx]; exact kk ad H locs ls hH hS hl (ho.t.t.c (Or.inr (hcl n _ x hx))))
theorem z_aaldN (X : zX p s m args c D cl K A cc nL own Ts tys G) {n len t0 t j9 : Nat} {C : String} (hkd : K.1 n = .inr (t, len)) (ht9 : ¬ 999 = t) (ht0 : ¬ t < 2) (ht1 : ¬ t = 2) (ht : tys[t0]? = some (dA t, .object C)) (hj : j9 < len) (hlen : len < 2 ^ 31) (hx : S.2.2.1 n j9 = none) (hd : decode cc pc = .ok (.aaload, 1)) (kk : AW p l e R s m args below meth c D cl K dA A O nL S kc ks Q (pc + 1) L (.null :: st)) : AW p l e R s m args below meth c D cl K dA A O nL S kc ks Q pc L (.int (nI j9) :: .ref n :: st) := by
  intro ad H locs ls hH hS hl ho
  obtain ⟨h0, hcl, hz, h00, dl, hnd, hdl, hP, hD⟩ := id hH
  have hdm : S.1 n = true := (ho.t.h).elim (fun e9 => by rw [e9, X.2.2.2.2.2.2.2.1] at hkd; exact absurd (congrArg Prod.fst (Sum.inr.inj hkd)) ht9) id
  obtain ⟨i, hi⟩ := List.getElem?_of_mem ((hdl n).mpr hdm)
  have hq9 : zAr ad S t len n = (len, .inr (.inr (.inr (.inr (fun j => (S.2.2.1 n j).map ad))))) := by unfold zAr; rw [if_neg ht0, if_neg ht1]
  exact va_aldq (cA := dA t) (f := fun j => (S.2.2.1 n j).map ad) X.1 X.2.1 X.2.2.2.2.2.1 hP i t0 (by rw [zW_at hi, zC_a hkd, hq9]) ht (vp_in_nI hj hlen) hd (by rw [nI_clamp (Nat.lt_trans hj hlen), hx]; exact kk ad H locs ls hH hS hl (ho.t.t.c trivial))
theorem z_iast (X : zX p s m args c D cl K A cc nL own Ts tys G) {n len t0 j9 : Nat} {x : Int32} (hkd : K.1 n = .inr (0, len)) (ht : tys[t0]? = some (dA 0, .int)) (hj : j9 < len) (hlen : len < 2 ^ 31) (hd : decode cc pc = .ok (.iastore, 1)) (kk : AW p l e R s m args below meth c D cl K dA A O nL (zsi S n j9 x) kc ks Q (pc + 1) L (st)) : AW p l e R s m args below meth c D cl K dA A O nL S kc ks Q pc L (.int x :: .int (nI j9) :: .ref n :: st) := by
  intro ad H locs ls hH hS hl ho
  obtain ⟨h0, hcl, hz, h00, dl, hnd, hdl, hP, hD⟩ := id hH
  have ht9 : ¬ (999 = 0) := by decide
  have hdm : S.1 n = true := (ho.t.t.h).elim (fun e9 => by rw [e9, X.2.2.2.2.2.2.2.1] at hkd; exact absurd (congrArg Prod.fst (Sum.inr.inj hkd)) ht9) id
  obtain ⟨i, hi⟩ := List.getElem?_of_mem ((hdl n).mpr hdm)
  exact va_iast (cA := dA 0) (f := S.2.1 n) X.1 X.2.1 X.2.2.2.2.2.1 hP hD hS i t0 (by rw [zW_at hi, zC_a hkd]; rfl) ht (vp_in_nI hj hlen) hd (fun H1 locs1 hP1 hD1 hS1 => kk ad H1 locs1 ls (zH_wr (S' := (zsi S n j9 x)) hH rfl hdm hcl (fun q hq => ⟨(z2_o hq).symm, rfl, rfl⟩) hnd hdl hi (by
    rw [zC_a hkd, nI_clamp (Nat.lt_trans hj hlen)]
    refine congrArg (fun z => Sum.inl (dA 0, len, Sum.inl z)) ?_
    funext j
    by_cases hj : j = j9
    · subst hj; simp [upd, zsi, z2]
    · simp [upd, zsi, z2, hj]) hP1 hD1) hS1 hl (show zok (zsi S n j9 x) L st from ho.t.t.t))
theorem z_zast (X : zX p s m args c D cl K A cc nL own Ts tys G) {n len t0 j9 : Nat} {x : Int32} (hkd : K.1 n = .inr (1, len)) (ht : tys[t0]? = some (dA 1, .boolean)) (hj : j9 < len) (hlen : len < 2 ^ 31) (hx01 : x = 0 ∨ x = 1) (hd : decode cc pc = .ok (.bastore, 1)) (kk : AW p l e R s m args below meth c D cl K dA A O nL (zsi S n j9 x) kc ks Q (pc + 1) L (st)) : AW p l e R s m args below meth c D cl K dA A O nL S kc ks Q pc L (.int x :: .int (nI j9) :: .ref n :: st) := by
  intro ad H locs ls hH hS hl ho
  obtain ⟨h0, hcl, hz, h00, dl, hnd, hdl, hP, hD⟩ := id hH
  have ht9 : ¬ (999 = 1) := by decide
  have hn9 : vp_nar .boolean x = x := by rcases hx01 with h | h <;> (subst h; decide)
  have hdm : S.1 n = true := (ho.t.t.h).elim (fun e9 => by rw [e9, X.2.2.2.2.2.2.2.1] at hkd; exact absurd (congrArg Prod.fst (Sum.inr.inj hkd)) ht9) id
  obtain ⟨i, hi⟩ := List.getElem?_of_mem ((hdl n).mpr hdm)
  exact va_zast (cA := dA 1) (f := S.2.1 n) X.1 X.2.1 X.2.2.2.2.2.1 hP hD hS i t0 (by rw [zW_at hi, zC_a hkd]; rfl) ht (vp_in_nI hj hlen) hd (fun H1 locs1 hP1 hD1 hS1 => kk ad H1 locs1 ls (zH_wr (S' := (zsi S n j9 x)) hH rfl hdm hcl (fun q hq => ⟨(z2_o hq).symm, rfl, rfl⟩) hnd hdl hi (by
    rw [zC_a hkd, nI_clamp (Nat.lt_trans hj hlen), hn9]
    refine congrArg (fun z => Sum.inl (dA 1, len, Sum.inl z)) ?_
    funext j
    by_cases hj : j = j9
    · subst hj; simp [upd, zsi, z2]
    · simp [upd, zsi, z2, hj]) hP1 hD1) hS1 hl (show zok (zsi S n j9 x) L st from ho.t.t.t))
theorem z_last (X : zX p s m args c D cl K A cc nL own Ts tys G) {n len t0 j9 : Nat} {x : Int64} (hkd : K.1 n = .inr (2, len)) (ht : tys[t0]? = some (dA 2, .long)) (hj : j9 < len) (hlen : len < 2 ^ 31) (hd : decode cc pc = .ok (.lastore, 1)) (kk : AW p l e R s m args below meth c D cl K dA A O nL (zsl S n j9 x) kc ks Q (pc + 1) L (st)) : AW p l e R s m args below meth c D cl K dA A O nL S kc ks Q pc L (.long x :: .int (nI j9) :: .ref n :: st) := by
  intro ad H locs ls hH hS hl ho
  obtain ⟨h0, hcl, hz, h00, dl, hnd, hdl, hP, hD⟩ := id hH
  have ht9 : ¬ (999 = 2) := by decide
  have hdm : S.1 n = true := (ho.t.t.h).elim (fun e9 => by rw [e9, X.2.2.2.2.2.2.2.1] at hkd; exact absurd (congrArg Prod.fst (Sum.inr.inj hkd)) ht9) id
  obtain ⟨i, hi⟩ := List.getElem?_of_mem ((hdl n).mpr hdm)
  exact va_last (cA := dA 2) (f := S.2.2.2 n) X.1 X.2.1 X.2.2.2.2.2.1 hP hD hS i t0 (by rw [zW_at hi, zC_a hkd]; rfl) ht (vp_in_nI hj hlen) hd (fun H1 locs1 hP1 hD1 hS1 => kk ad H1 locs1 ls (zH_wr (S' := (zsl S n j9 x)) hH rfl hdm hcl (fun q hq => ⟨rfl, rfl, (z2_o hq).symm⟩) hnd hdl hi (by
    rw [zC_a hkd, nI_clamp (Nat.lt_trans hj hlen)]
    refine congrArg (fun z => Sum.inl (dA 2, len, Sum.inr (Sum.inl z))) ?_
    funext j
    by_cases hj : j = j9
    · subst hj; simp [vp_updL, zsl, z2]
    · simp [vp_updL, zsl, z2, hj]) hP1 hD1) hS1 hl (show zok (zsl S n j9 x) L st from ho.t.t.t))
theorem z_aast (X : zX p s m args c D cl K A cc nL own Ts tys G) {n len t0 t j9 : Nat} {C : String} {x ci : Nat} {r : vw_C} (hkd : K.1 n = .inr (t, len)) (ht9 : ¬ 999 = t) (ht0 : ¬ t < 2) (ht1 : ¬ t = 2) (ht : tys[t0]? = some (dA t, .object C)) (hj : j9 < len) (hlen : len < 2 ^ 31) (hkx : K.1 x = .inl ci) (hr : cl[ci]? = some r) (hrC : r.1 = C) (hd : decode cc pc = .ok (.aastore, 1)) (kk : AW p l e R s m args below meth c D cl K dA A O nL (zsp S n j9 (some x)) kc ks Q (pc + 1) L (st)) : AW p l e R s m args below meth c D cl K dA A O nL S kc ks Q pc L (.ref x :: .int (nI j9) :: .ref n :: st) := by
  intro ad H locs ls hH hS hl ho
  obtain ⟨h0, hcl, hz, h00, dl, hnd, hdl, hP, hD⟩ := id hH
  have hdm : S.1 n = true := (ho.t.t.h).elim (fun e9 => by rw [e9, X.2.2.2.2.2.2.2.1] at hkd; exact absurd (congrArg Prod.fst (Sum.inr.inj hkd)) ht9) id
  obtain ⟨i, hi⟩ := List.getElem?_of_mem ((hdl n).mpr hdm)
  have hq9 : zAr ad S t len n = (len, .inr (.inr (.inr (.inr (fun j => (S.2.2.1 n j).map ad))))) := by unfold zAr; rw [if_neg ht0, if_neg ht1]
  have hdx : S.1 x = true := (ho.h).elim (fun e9 => by rw [e9, X.2.2.2.2.2.2.2.1] at hkx; cases hkx) id
  obtain ⟨ix, hix⟩ := List.getElem?_of_mem ((hdl x).mpr hdx)
  exact va_astq (cA := dA t) (f := fun j => (S.2.2.1 n j).map ad) X.1 X.2.1 X.2.2.2.2.2.1 hP hD hS i t0 ix ci (r := r) (v := ad x) (by rw [zW_at hi, zC_a hkd, hq9]) (by rw [hrC]; exact ht) (by rw [zW_at hix, zC_o hkx]) hr (vp_in_nI hj hlen) hd (fun H1 locs1 hP1 hD1 hS1 => kk ad H1 locs1 ls (zH_wr (S' := (zsp S n j9 (some x))) hH rfl hdm (fun a9 k9 x9 h9 => by
    by_cases e9 : a9 = n ∧ k9 = j9
    · have h8 : (some x) = some x9 := by rw [← h9]; show (some x) = z2 S.2.2.1 n j9 (some x) a9 k9; rw [e9.1, e9.2, z2_s]
      cases h8
      exact hdx
    · exact hcl a9 k9 x9 (by rw [← h9]; show _ = z2 S.2.2.1 n j9 (some x) a9 k9; unfold z2; rw [if_neg e9])) (fun q hq => ⟨rfl, (z2_o hq).symm, rfl⟩) hnd hdl hi (by
    rw [zC_a hkd, nI_clamp (Nat.lt_trans hj hlen)]
    unfold zAr
    rw [if_neg ht0, if_neg ht1]
    refine congrArg (fun z => Sum.inl (dA t, len, Sum.inr (Sum.inr (Sum.inr (Sum.inr z))))) ?_
    funext j
    by_cases hj : j = j9
    · subst hj; simp [va_up, zsp, z2]
    · simp [va_up, zsp, z2, hj]) hP1 hD1) hS1 hl (show zok (zsp S n j9 (some x)) L st from ho.t.t.t))
theorem z_aastN (X : zX p s m args c D cl K A cc nL own Ts tys G) {n len t0 t j9 : Nat} {C : String} (hkd : K.1 n = .inr (t, len)) (ht9 : ¬ 999 = t) (ht0 : ¬ t < 2) (ht1 : ¬ t = 2) (ht : tys[t0]? = some (dA t, .object C)) (hj : j9 < len) (hlen : len < 2 ^ 31)  (hd : decode cc pc = .ok (.aastore, 1)) (kk : AW p l e R s m args below meth c D cl K dA A O nL (zsp S n j9 none) kc ks Q (pc + 1) L (st)) : AW p l e R s m args below meth c D cl K dA A O nL S kc ks Q pc L (.null :: .int (nI j9) :: .ref n :: st) := by
  intro ad H locs ls hH hS hl ho
  obtain ⟨h0, hcl, hz, h00, dl, hnd, hdl, hP, hD⟩ := id hH
  have hdm : S.1 n = true := (ho.t.t.h).elim (fun e9 => by rw [e9, X.2.2.2.2.2.2.2.1] at hkd; exact absurd (congrArg Prod.fst (Sum.inr.inj hkd)) ht9) id
  obtain ⟨i, hi⟩ := List.getElem?_of_mem ((hdl n).mpr hdm)
  have hq9 : zAr ad S t len n = (len, .inr (.inr (.inr (.inr (fun j => (S.2.2.1 n j).map ad))))) := by unfold zAr; rw [if_neg ht0, if_neg ht1]
  exact va_astqN (cA := dA t) (f := fun j => (S.2.2.1 n j).map ad) X.1 X.2.1 X.2.2.2.2.2.1 hP hD hS i t0  (by rw [zW_at hi, zC_a hkd, hq9]) ht (vp_in_nI hj hlen) hd (fun H1 locs1 hP1 hD1 hS1 => kk ad H1 locs1 ls (zH_wr (S' := (zsp S n j9 none)) hH rfl hdm (fun a9 k9 x9 h9 => by
    by_cases e9 : a9 = n ∧ k9 = j9
    · have h8 : (none : Option Nat) = some x9 := by rw [← h9]; show (none : Option Nat) = z2 S.2.2.1 n j9 (none : Option Nat) a9 k9; rw [e9.1, e9.2, z2_s]
      cases h8
    · exact hcl a9 k9 x9 (by rw [← h9]; show _ = z2 S.2.2.1 n j9 (none : Option Nat) a9 k9; unfold z2; rw [if_neg e9])) (fun q hq => ⟨rfl, (z2_o hq).symm, rfl⟩) hnd hdl hi (by
    rw [zC_a hkd, nI_clamp (Nat.lt_trans hj hlen)]
    unfold zAr
    rw [if_neg ht0, if_neg ht1]
    refine congrArg (fun z => Sum.inl (dA t, len, Sum.inr (Sum.inr (Sum.inr (Sum.inr z))))) ?_
    funext j
    by_cases hj : j = j9
    · subst hj; simp [va_up, zsp, z2]
    · simp [va_up, zsp, z2, hj]) hP1 hD1) hS1 hl (show zok (zsp S n j9 none) L st from ho.t.t.t))
theorem z_alen (X : zX p s m args c D cl K A cc nL own Ts tys G) {n len t0 t : Nat} {ty : FieldType} {v : Int32} (hkd : K.1 n = .inr (t, len)) (ht9 : ¬ 999 = t) (ht : tys[t0]? = some (dA t, ty)) (hv : Int32.ofNat len = v) (hd : decode cc pc = .ok (.arraylength, 1)) (kk : AW p l e R s m args below meth c D cl K dA A O nL S kc ks Q (pc + 1) L (.int v :: st)) : AW p l e R s m args below meth c D cl K dA A O nL S kc ks Q pc L (.ref n :: st) := by
  intro ad H locs ls hH hS hl ho
  obtain ⟨h0, hcl, hz, h00, dl, hnd, hdl, hP, hD⟩ := id hH
  have hdm : S.1 n = true := (ho.h).elim (fun e9 => by rw [e9, X.2.2.2.2.2.2.2.1] at hkd; exact absurd (congrArg Prod.fst (Sum.inr.inj hkd)) ht9) id
  obtain ⟨i, hi⟩ := List.getElem?_of_mem ((hdl n).mpr hdm)
  exact va_alen (cA := dA t) (x := zAr ad S t len n) X.1 X.2.1 X.2.2.2.2.2.1 hP i t0 (by rw [zW_at hi, zC_a hkd]) ht hv hd (kk ad H locs ls hH hS hl (ho.t.c trivial))
theorem z_new (X : zX p s m args c D cl K A cc nL own Ts tys G) {C : String} {T : u_T} {N ci index n : Nat} (hin : ∀ w ∈ u_ws C T N, w ∈ Ts) (hc : cl[ci]? = some (C, T, N)) (hN : K.2.2 ci = N) (hkd : K.1 n = .inl ci) (hnf : S.1 n = false) (hn0 : n ≠ 0) (ty : Nat → FieldType) (hty : ∀ k, k < N → parseFieldDescriptor (T k).2.2.1 = some (ty k)) (hdf : ∀ k, k < N → defaultValue (ty k) = if K.2.1 ci k = true then .null else .int 0) (hcl0 : Cond.classLink own index C ∈ Ts) (hins : Cond.instantiable C N ∈ Ts) (hini : Cond.initialized C ∈ Ts) (hcells : kc + 1 ≤ R.cells) (hslots : ks + N ≤ R.slots) (hd : decode cc pc = .ok (.new index, 3)) (kk : AW p l e R s m args below meth c D cl K dA A O nL (zadd S n) (kc + 1) (ks + N) Q (pc + 3) L (.ref n :: st)) : AW p l e R s m args below meth c D cl K dA A O nL S kc ks Q pc L (st) := by
  intro ad H locs ls hH hS hl ho
  obtain ⟨h0, hcl, hz, h00, dl, hnd, hdl, hP, hD⟩ := id hH
  have zx0 : ∀ q : Nat, zup ad n q 0 = ad 0 := fun q => zup_n (Ne.symm hn0)
  have zx1 : ∀ q n9 : Nat, S.1 n9 = true → zup ad n q n9 = ad n9 := fun q n9 h9 => zup_n (fun e9 => by rw [e9, hnf] at h9; cases h9)
  have zI : ∀ k9, S.2.1 n k9 = 0 ∧ S.2.2.1 n k9 = none ∧ S.2.2.2 n k9 = 0 := hz n hnf
  refine va_new (fs := zF K ad S ci n) X.1 X.2.1 X.2.2.2.2.1 hin ty hty X.2.2.2.1 (X.2.2.2.2.1 _ hcl0) (X.2.2.2.2.1 _ hins) (X.2.2.2.2.1 _ hini) X.2.2.2.2.2.1 hP hD hS X.2.2.2.2.2.2.1 hc (fun j hj => ?_) hcells hslots hd (fun q H1 hP1 hD1 hS1 => ?_)
  · rw [hdf j hj]
    unfold vp_V
    rw [List.getD_eq_getElem?_getD]
    cases hr : K.2.1 ci j with
    | false => rw [zF_i (by rw [hN]; exact hj) hr, (zI j).1]; rfl
    | true => rw [zF_r (by rw [hN]; exact hj) hr, (zI j).2.1]; rfl
  · exact (by
    have e9 := zq_ext (ho) (zx0 q) (zx1 q)
    have w9 := kk (zup ad n q) H1 locs ls (zH_new hH hnf hn0 hnd hdl ((zC_o hkd).symm) hP1 hD1) hS1 (by rw [e9.1]; exact hl) ((zok_mono (fun q9 h9 => zadd_t h9) (ho)).c (Or.inr zadd_s))
    rw [List.map_cons, e9.2, show zv (zup ad n q) (.ref n) = .ref q from congrArg Value.ref zup_s] at w9
    exact w9)
theorem z_newi (X : zX p s m args c D cl K A cc nL own Ts tys G) {n len t0 : Nat} {i9 : Int32} (hkd : K.1 n = .inr (0, len)) (ht : tys[t0]? = some (dA 0, .int)) (hnf : S.1 n = false) (hn0 : n ≠ 0) (hi9 : ¬ i9 < 0) (hlen : i9.toNatClampNeg = len) (hby : len * 4 ≤ 536870912) (hac : Cond.arrayClass .int ∈ Ts) (hcells : kc + 1 ≤ R.cells) (hslots : ks + len ≤ R.slots) (hd : decode cc pc = .ok (.newarray .int, 2)) (kk : AW p l e R s m args below meth c D cl K dA A O nL (zadd S n) (kc + 1) (ks + len) Q (pc + 2) L (.ref n :: st)) : AW p l e R s m args below meth c D cl K dA A O nL S kc ks Q pc L (.int i9 :: st) := by
  intro ad H locs ls hH hS hl ho
  obtain ⟨h0, hcl, hz, h00, dl, hnd, hdl, hP, hD⟩ := id hH
  have zx0 : ∀ q : Nat, zup ad n q 0 = ad 0 := fun q => zup_n (Ne.symm hn0)
  have zx1 : ∀ q n9 : Nat, S.1 n9 = true → zup ad n q n9 = ad n9 := fun q n9 h9 => zup_n (fun e9 => by rw [e9, hnf] at h9; cases h9)
  have zI : ∀ k9, S.2.1 n k9 = 0 ∧ S.2.2.1 n k9 = none ∧ S.2.2.2 n k9 = 0 := hz n hnf
  refine va_newa (atype := .int) (ty := .int) (a0 := zAr ad S 0 len n) X.1 X.2.1 (X.2.2.2.2.1 _ hac) rfl X.2.2.2.2.2.1 hP hD hS X.2.2.2.2.2.2.1 (fun cA => ?_) hi9 hlen hby hcells hslots hd (fun q cA H1 hK1 hP1 hD1 hS1 => ?_)
  · show arrV cA len (fun j => Value.int (S.2.1 n j)) = _
    congr 1
    funext j
    rw [(zI j).1]
    rfl
  · have hcA : cA = dA 0 := by
      have r1 : va_RA s cA .int := (hK1.2 tys.length (cA, .int) (by rw [List.getElem?_append_right (Nat.le_refl _), Nat.sub_self]; rfl)).2
      have r2 : va_RA s (dA 0) .int := (X.2.2.2.2.2.1.2 t0 _ ht).2
      exact Option.some.inj (r1.symm.trans r2)
    subst hcA
    exact (by
    have e9 := zq_ext (ho.t) (zx0 q) (zx1 q)
    have w9 := kk (zup ad n q) H1 locs ls (zH_new hH hnf hn0 hnd hdl ((zC_a hkd).symm) hP1 hD1) hS1 (by rw [e9.1]; exact hl) ((zok_mono (fun q9 h9 => zadd_t h9) (ho.t)).c (Or.inr zadd_s))
    rw [List.map_cons, e9.2, show zv (zup ad n q) (.ref n) = .ref q from congrArg Value.ref zup_s] at w9
    exact w9)
theorem z_newz (X : zX p s m args c D cl K A cc nL own Ts tys G) {n len t0 : Nat} {i9 : Int32} (hkd : K.1 n = .inr (1, len)) (ht : tys[t0]? = some (dA 1, .boolean)) (hnf : S.1 n = false) (hn0 : n ≠ 0) (hi9 : ¬ i9 < 0) (hlen : i9.toNatClampNeg = len) (hby : len * 1 ≤ 536870912) (hac : Cond.arrayClass .boolean ∈ Ts) (hcells : kc + 1 ≤ R.cells) (hslots : ks + len ≤ R.slots) (hd : decode cc pc = .ok (.newarray .boolean, 2)) (kk : AW p l e R s m args below meth c D cl K dA A O nL (zadd S n) (kc + 1) (ks + len) Q (pc + 2) L (.ref n :: st)) : AW p l e R s m args below meth c D cl K dA A O nL S kc ks Q pc L (.int i9 :: st) := by
  intro ad H locs ls hH hS hl ho
  obtain ⟨h0, hcl, hz, h00, dl, hnd, hdl, hP, hD⟩ := id hH
  have zx0 : ∀ q : Nat, zup ad n q 0 = ad 0 := fun q => zup_n (Ne.symm hn0)
  have zx1 : ∀ q n9 : Nat, S.1 n9 = true → zup ad n q n9 = ad n9 := fun q n9 h9 => zup_n (fun e9 => by rw [e9, hnf] at h9; cases h9)
  have zI : ∀ k9, S.2.1 n k9 = 0 ∧ S.2.2.1 n k9 = none ∧ S.2.2.2 n k9 = 0 := hz n hnf
  refine va_newa (atype := .boolean) (ty := .boolean) (a0 := zAr ad S 1 len n) X.1 X.2.1 (X.2.2.2.2.1 _ hac) rfl X.2.2.2.2.2.1 hP hD hS X.2.2.2.2.2.2.1 (fun cA => ?_) hi9 hlen hby hcells hslots hd (fun q cA H1 hK1 hP1 hD1 hS1 => ?_)
  · show arrV cA len (fun j => Value.int (S.2.1 n j)) = _
    congr 1
    funext j
    rw [(zI j).1]
    rfl
  · have hcA : cA = dA 1 := by
      have r1 : va_RA s cA .boolean := (hK1.2 tys.length (cA, .boolean) (by rw [List.getElem?_append_right (Nat.le_refl _), Nat.sub_self]; rfl)).2
      have r2 : va_RA s (dA 1) .boolean := (X.2.2.2.2.2.1.2 t0 _ ht).2
      exact Option.some.inj (r1.symm.trans r2)
    subst hcA
    exact (by
    have e9 := zq_ext (ho.t) (zx0 q) (zx1 q)
    have w9 := kk (zup ad n q) H1 locs ls (zH_new hH hnf hn0 hnd hdl ((zC_a hkd).symm) hP1 hD1) hS1 (by rw [e9.1]; exact hl) ((zok_mono (fun q9 h9 => zadd_t h9) (ho.t)).c (Or.inr zadd_s))
    rw [List.map_cons, e9.2, show zv (zup ad n q) (.ref n) = .ref q from congrArg Value.ref zup_s] at w9
    exact w9)
theorem z_newl (X : zX p s m args c D cl K A cc nL own Ts tys G) {n len t0 : Nat} {i9 : Int32} (hkd : K.1 n = .inr (2, len)) (ht : tys[t0]? = some (dA 2, .long)) (hnf : S.1 n = false) (hn0 : n ≠ 0) (hi9 : ¬ i9 < 0) (hlen : i9.toNatClampNeg = len) (hby : len * 8 ≤ 536870912) (hac : Cond.arrayClass .long ∈ Ts) (hcells : kc + 1 ≤ R.cells) (hslots : ks + len ≤ R.slots) (hd : decode cc pc = .ok (.newarray .long, 2)) (kk : AW p l e R s m args below meth c D cl K dA A O nL (zadd S n) (kc + 1) (ks + len) Q (pc + 2) L (.ref n :: st)) : AW p l e R s m args below meth c D cl K dA A O nL S kc ks Q pc L (.int i9 :: st) := by
  intro ad H locs ls hH hS hl ho
  obtain ⟨h0, hcl, hz, h00, dl, hnd, hdl, hP, hD⟩ := id hH
  have zx0 : ∀ q : Nat, zup ad n q 0 = ad 0 := fun q => zup_n (Ne.symm hn0)
  have zx1 : ∀ q n9 : Nat, S.1 n9 = true → zup ad n q n9 = ad n9 := fun q n9 h9 => zup_n (fun e9 => by rw [e9, hnf] at h9; cases h9)
  have zI : ∀ k9, S.2.1 n k9 = 0 ∧ S.2.2.1 n k9 = none ∧ S.2.2.2 n k9 = 0 := hz n hnf
  refine va_newa (atype := .long) (ty := .long) (a0 := zAr ad S 2 len n) X.1 X.2.1 (X.2.2.2.2.1 _ hac) rfl X.2.2.2.2.2.1 hP hD hS X.2.2.2.2.2.2.1 (fun cA => ?_) hi9 hlen hby hcells hslots hd (fun q cA H1 hK1 hP1 hD1 hS1 => ?_)
  · show arrV cA len (fun j => Value.long (S.2.2.2 n j)) = _
    congr 1
    funext j
    rw [(zI j).2.2]
    rfl
  · have hcA : cA = dA 2 := by
      have r1 : va_RA s cA .long := (hK1.2 tys.length (cA, .long) (by rw [List.getElem?_append_right (Nat.le_refl _), Nat.sub_self]; rfl)).2
      have r2 : va_RA s (dA 2) .long := (X.2.2.2.2.2.1.2 t0 _ ht).2
      exact Option.some.inj (r1.symm.trans r2)
    subst hcA
    exact (by
    have e9 := zq_ext (ho.t) (zx0 q) (zx1 q)
    have w9 := kk (zup ad n q) H1 locs ls (zH_new hH hnf hn0 hnd hdl ((zC_a hkd).symm) hP1 hD1) hS1 (by rw [e9.1]; exact hl) ((zok_mono (fun q9 h9 => zadd_t h9) (ho.t)).c (Or.inr zadd_s))
    rw [List.map_cons, e9.2, show zv (zup ad n q) (.ref n) = .ref q from congrArg Value.ref zup_s] at w9
    exact w9)
theorem z_anew (X : zX p s m args c D cl K A cc nL own Ts tys G) {n len t0 t index : Nat} {i9 : Int32} {C : String} (hkd : K.1 n = .inr (t, len)) (ht0 : ¬ t < 2) (ht1 : ¬ t = 2) (ht : tys[t0]? = some (dA t, .object C)) (hnf : S.1 n = false) (hn0 : n ≠ 0) (hi9 : ¬ i9 < 0) (hlen : i9.toNatClampNeg = len) (hby : len * 4 ≤ 536870912) (hcl0 : Cond.classLink own index C ∈ Ts) (hao : va_AO C s) (hcells : kc + 1 ≤ R.cells) (hslots : ks + len ≤ R.slots) (hd : decode cc pc = .ok (.anewarray index, 3)) (kk : AW p l e R s m args below meth c D cl K dA A O nL (zadd S n) (kc + 1) (ks + len) Q (pc + 3) L (.ref n :: st)) : AW p l e R s m args below meth c D cl K dA A O nL S kc ks Q pc L (.int i9 :: st) := by
  intro ad H locs ls hH hS hl ho
  obtain ⟨h0, hcl, hz, h00, dl, hnd, hdl, hP, hD⟩ := id hH
  have zx0 : ∀ q : Nat, zup ad n q 0 = ad 0 := fun q => zup_n (Ne.symm hn0)
  have zx1 : ∀ q n9 : Nat, S.1 n9 = true → zup ad n q n9 = ad n9 := fun q n9 h9 => zup_n (fun e9 => by rw [e9, hnf] at h9; cases h9)
  have zI : ∀ k9, S.2.1 n k9 = 0 ∧ S.2.2.1 n k9 = none ∧ S.2.2.2 n k9 = 0 := hz n hnf
  have hq9 : zAr ad S t len n = (len, .inr (.inr (.inr (.inr (fun _ => none))))) := by
    unfold zAr
    rw [if_neg ht0, if_neg ht1]
    refine congrArg (fun z => (len, Sum.inr (Sum.inr (Sum.inr (Sum.inr z))))) ?_
    funext j
    rw [(zI j).2.1]; rfl
  refine va_newq X.1 X.2.1 X.2.2.2.1 (X.2.2.2.2.1 _ hcl0) hao X.2.2.2.2.2.1 hP hD hS X.2.2.2.2.2.2.1 hi9 hlen hby hcells hslots hd (fun q cA H1 hK1 hP1 hD1 hS1 => ?_)
  have hcA : cA = dA t := by
    have r1 : va_RA s cA (.object C) := (hK1.2 tys.length (cA, .object C) (by rw [List.getElem?_append_right (Nat.le_refl _), Nat.sub_self]; rfl)).2
    have r2 : va_RA s (dA t) (.object C) := (X.2.2.2.2.2.1.2 t0 _ ht).2
    obtain ⟨_, _, _, _, _, r1⟩ := r1
    obtain ⟨_, _, _, _, _, r2⟩ := r2
    exact Option.some.inj (r1.symm.trans r2)
  subst hcA
  exact (by
    have e9 := zq_ext (ho.t) (zx0 q) (zx1 q)
    have w9 := kk (zup ad n q) H1 locs ls (zH_new hH hnf hn0 hnd hdl (by rw [zC_a hkd, hq9]) hP1 hD1) hS1 (by rw [e9.1]; exact hl) ((zok_mono (fun q9 h9 => zadd_t h9) (ho.t)).c (Or.inr zadd_s))
    rw [List.map_cons, e9.2, show zv (zup ad n q) (.ref n) = .ref q from congrArg Value.ref zup_s] at w9
    exact w9)
theorem z_icmp_eqN (X : zX p s m args c D cl K A cc nL own Ts tys G) {a b : Nat} {off : Int} {tgt : Nat} (hd : decode cc pc = .ok (.if_icmp .eq off, 3)) (ht : (pc : Int) + off = (tgt : Int)) (ha : a < 2 ^ 31) (hb : b < 2 ^ 31) (kt : a = b → AW p l e R s m args below meth c D cl K dA A O nL S kc ks Q tgt L (st)) (kf : ¬ a = b → AW p l e R s m args below meth c D cl K dA A O nL S kc ks Q (pc + 3) L (st)) : AW p l e R s m args below meth c D cl K dA A O nL S kc ks Q pc L (.int (nI b) :: .int (nI a) :: st) := z_icmp_eq X hd ht (fun h => kt ((nI_eq ha hb).mp h)) (fun h => kf (fun q => h ((nI_eq ha hb).mpr q)))
theorem z_icmp_ltN (X : zX p s m args c D cl K A cc nL own Ts tys G) {a b : Nat} {off : Int} {tgt : Nat} (hd : decode cc pc = .ok (.if_icmp .lt off, 3)) (ht : (pc : Int) + off = (tgt : Int)) (ha : a < 2 ^ 31) (hb : b < 2 ^ 31) (kt : a < b → AW p l e R s m args below meth c D cl K dA A O nL S kc ks Q tgt L (st)) (kf : ¬ a < b → AW p l e R s m args below meth c D cl K dA A O nL S kc ks Q (pc + 3) L (st)) : AW p l e R s m args below meth c D cl K dA A O nL S kc ks Q pc L (.int (nI b) :: .int (nI a) :: st) := z_icmp_lt X hd ht (fun h => kt ((nI_ltI ha hb).mp h)) (fun h => kf (fun q => h ((nI_ltI ha hb).mpr q)))
theorem z_icmp_leN (X : zX p s m args c D cl K A cc nL own Ts tys G) {a b : Nat} {off : Int} {tgt : Nat} (hd : decode cc pc = .ok (.if_icmp .le off, 3)) (ht : (pc : Int) + off = (tgt : Int)) (ha : a < 2 ^ 31) (hb : b < 2 ^ 31) (kt : a ≤ b → AW p l e R s m args below meth c D cl K dA A O nL S kc ks Q tgt L (st)) (kf : ¬ a ≤ b → AW p l e R s m args below meth c D cl K dA A O nL S kc ks Q (pc + 3) L (st)) : AW p l e R s m args below meth c D cl K dA A O nL S kc ks Q pc L (.int (nI b) :: .int (nI a) :: st) := z_icmp_le X hd ht (fun h => kt ((nI_leI ha hb).mp h)) (fun h => kf (fun q => h ((nI_leI ha hb).mpr q)))
theorem z_icmp_geN (X : zX p s m args c D cl K A cc nL own Ts tys G) {a b : Nat} {off : Int} {tgt : Nat} (hd : decode cc pc = .ok (.if_icmp .ge off, 3)) (ht : (pc : Int) + off = (tgt : Int)) (ha : a < 2 ^ 31) (hb : b < 2 ^ 31) (kt : b ≤ a → AW p l e R s m args below meth c D cl K dA A O nL S kc ks Q tgt L (st)) (kf : ¬ b ≤ a → AW p l e R s m args below meth c D cl K dA A O nL S kc ks Q (pc + 3) L (st)) : AW p l e R s m args below meth c D cl K dA A O nL S kc ks Q pc L (.int (nI b) :: .int (nI a) :: st) := z_icmp_ge X hd ht (fun h => kt ((nI_leI hb ha).mp h)) (fun h => kf (fun q => h ((nI_leI hb ha).mpr q)))
theorem z_icmp_gtN (X : zX p s m args c D cl K A cc nL own Ts tys G) {a b : Nat} {off : Int} {tgt : Nat} (hd : decode cc pc = .ok (.if_icmp .gt off, 3)) (ht : (pc : Int) + off = (tgt : Int)) (ha : a < 2 ^ 31) (hb : b < 2 ^ 31) (kt : b < a → AW p l e R s m args below meth c D cl K dA A O nL S kc ks Q tgt L (st)) (kf : ¬ b < a → AW p l e R s m args below meth c D cl K dA A O nL S kc ks Q (pc + 3) L (st)) : AW p l e R s m args below meth c D cl K dA A O nL S kc ks Q pc L (.int (nI b) :: .int (nI a) :: st) := z_icmp_gt X hd ht (fun h => kt ((nI_ltI hb ha).mp h)) (fun h => kf (fun q => h ((nI_ltI hb ha).mpr q)))
theorem z_icmp_neN (X : zX p s m args c D cl K A cc nL own Ts tys G) {a b : Nat} {off : Int} {tgt : Nat} (hd : decode cc pc = .ok (.if_icmp .ne off, 3)) (ht : (pc : Int) + off = (tgt : Int)) (ha : a < 2 ^ 31) (hb : b < 2 ^ 31) (kt : ¬ a = b → AW p l e R s m args below meth c D cl K dA A O nL S kc ks Q tgt L (st)) (kf : a = b → AW p l e R s m args below meth c D cl K dA A O nL S kc ks Q (pc + 3) L (st)) : AW p l e R s m args below meth c D cl K dA A O nL S kc ks Q pc L (.int (nI b) :: .int (nI a) :: st) := z_icmp_ne X hd ht (fun h => kt (fun q => h ((nI_eq ha hb).mpr q))) (fun h => kf ((nI_eq ha hb).mp h))
theorem z_top {x y : Int32} (h : x = y) (k : AW p l e R s m args below meth c D cl K dA A O nL S kc ks Q pc L (.int y :: st)) : AW p l e R s m args below meth c D cl K dA A O nL S kc ks Q pc L (.int x :: st) := h ▸ k
theorem z_sto {S' : zS} (h : S = S') (k : AW p l e R s m args below meth c D cl K dA A O nL S' kc ks Q pc L (st)) : AW p l e R s m args below meth c D cl K dA A O nL S kc ks Q pc L (st) := h ▸ k
theorem z_wide {kc9 ks9 : Nat} (h1 : kc ≤ kc9) (h2 : ks ≤ ks9) (k : AW p l e R s m args below meth c D cl K dA A O nL S kc9 ks9 Q pc L (st)) : AW p l e R s m args below meth c D cl K dA A O nL S kc ks Q pc L (st) := fun ad H locs ls hH hS hl ho => W.widen h1 h2 (k ad H locs ls hH hS hl ho)
theorem z_loc {L' : List (Nat × Value)} (ps : List Nat) (hp : lv_pick L ps = L') (k : AW p l e R s m args below meth c D cl K dA A O nL S kc ks Q pc L' (st)) : AW p l e R s m args below meth c D cl K dA A O nL S kc ks Q pc L (st) := fun ad H locs ls hH hS hl ho => k ad H locs ls hH hS ⟨hl.1, hl.2.1, fun q hq => by
  obtain ⟨q9, h9, e9⟩ := List.mem_map.mp hq
  subst e9
  rw [← hp] at h9
  obtain ⟨k9, -, hk9⟩ := List.mem_filterMap.mp h9
  exact hl.2.2 _ (List.mem_map.mpr ⟨q9, List.mem_of_getElem? hk9, rfl⟩)⟩ ⟨fun q hq => by
  rw [← hp] at hq
  obtain ⟨k9, -, hk9⟩ := List.mem_filterMap.mp hq
  exact ho.1 q (List.mem_of_getElem? hk9), ho.2⟩
end ZR
/-! CALLS AND CONTRACTS over the abstract store -/
def zPc (D : va_G) (cl : List vw_C) (K : zK) (dA : Nat → ClassId) (A : Nat → Prop) (ad : Nat → Nat) (S : zS) (G : (Nat → Prop) → State → Prop) (As : List Value) : Array Value → State → Prop := fun v U => v = (As.map (zv ad)).toArray ∧ zH D cl K dA A (ad, S) ad S U.heap ∧ (∀ q, U.heap.size ≤ q → A q) ∧ G A U
def zQc (D : va_G) (cl : List vw_C) (K : zK) (dA : Nat → ClassId) (A : Nat → Prop) (ad : Nat → Nat) (S : zS) (Post : Option Value → zS → Prop) : Array Value → State → Outcome → State → Prop := fun _ st o t => (∃ (v : Option Value) (ad' : Nat → Nat) (S' : zS), o = .returned (v.map (zv ad')) ∧ Post v S' ∧ zH D cl K dA A (ad, S) ad' S' t.heap ∧ ∀ w, v = some w → zo S' w) ∧ va_F A st t
def zXC (D : va_G) (cl : List vw_C) (K : zK) (dA : Nat → ClassId) (A : Nat → Prop) (ad : Nat → Nat) (S : zS) (PX : String → zS → Prop) : String → State → State → Prop := fun E st t => (∃ (ad' : Nat → Nat) (S' : zS), PX E S' ∧ zH D cl K dA A (ad, S) ad' S' t.heap) ∧ va_F A st t
/-- a method's contract: at these arguments, in this store, it returns with Post, or throws with PX -/
def zMet (l : Launch) (D : va_G) (cl : List vw_C) (K : zK) (dA : Nat → ClassId) (G : (Nat → Prop) → State → Prop) (y : MethodName) (ws : List Cond) (rm : Room) (mc ms : Nat) (As : List Value) (S : zS) (Post : Option Value → zS → Prop) (PX : String → zS → Prop) : Prop :=
  ∀ (A : Nat → Prop) (ad : Nat → Nat), (∀ v ∈ As, zo S v) → vx_Met l y ws rm (zPc D cl K dA A ad S G As) (zQc D cl K dA A ad S Post) (zXC D cl K dA A ad S PX) mc ms A
def zGm (G : (Nat → Prop) → State → Prop) : Prop := ∀ (A : Nat → Prop) (s t : State), s.WarmedH t.vm → s.heap.size ≤ t.heap.size → (∀ q : Nat, q < s.heap.size → ¬ A q → t.heap[q]? = s.heap[q]?) → G A s → G A t
/-- q is thrown over the frame -/
def AWX (p : Program) (l : Launch) (e : Env) (R : Room) (s : State) (m : MethodId) (args : Array Value) (below : List Frame) (meth : Method) (c : Code) (D : va_G) (cl : List vw_C) (K : zK) (dA : Nat → ClassId) (A : Nat → Prop) (O : (Nat → Nat) × zS) (nL : Nat) (S : zS) (kc ks : Nat) (Q : State → Prop) (pc : Nat) (L : List (Nat × Value)) (st : List Value) (E : String) : Prop :=
  ∀ (ad : Nat → Nat) (H : Heap) (locs : List Loc) (ls : Array Slot) (ce : Cell) (q : Addr), zH D cl K dA A O ad S H → va_S A s.heap H locs → lv_has ls nL (L.map (zq ad)) → zok S L st → H[q]? = some ce → ce.vm = .none → s.vm.findClass E = some ce.cls → vx_W p l e R s m args below meth c H locs kc ks Q (F0 m pc ls (st.map (zv ad))) q
theorem zPc_blind {D : va_G} {cl : List vw_C} {K : zK} {dA : Nat → ClassId} {A : Nat → Prop} {ad : Nat → Nat} {S : zS} {G : (Nat → Prop) → State → Prop} {As : List Value} (hG : zGm G) : FrameBlind (zPc D cl K dA A ad S G As) := by
  intro a U g mk h
  obtain ⟨h1, h2, h3, h4⟩ := h
  exact ⟨h1, h2, h3, hG A U (U.calling g mk a) (State.WarmedH.refl U) (Nat.le_refl _) (fun _ _ _ => rfl) h4⟩
/-- a method that never throws, as the kit's Met -/
theorem z_toMet {l : Launch} {y : MethodName} {ws : List Cond} {rm : Room} {Pc : Array Value → State → Prop} {Qc : Array Value → State → Outcome → State → Prop} {XC : String → State → State → Prop} {mc ms : Nat} {free : Addr → Prop} (hX : ∀ E st t, ¬ XC E st t) (h : vx_Met l y ws rm Pc Qc XC mc ms free) : Met l y ws rm Pc Qc mc ms free := by
  intro p e h1 h2 h3 s m args below h4 h5 h6 h7
  obtain ⟨n, o, a1, a2, a3, a4⟩ := h p e h1 h2 h3 s m args below h4 h5 h6 h7
  refine ⟨n, o, a1, a2, a3, ?_⟩
  rcases a4 with a4 | ⟨q, -, E, ce, L, hx, -⟩
  · exact a4
  · exact absurd hx (hX E _ _)
section ZC
variable {p : Program} {l : Launch} {e : Env} {R : Room} {s : State} {m : MethodId} {args : Array Value} {below : List Frame} {meth : Method} {c : Code} {kc ks : Nat} {Q : State → Prop}
variable {D : va_G} {cl : List vw_C} {K : zK} {dA : Nat → ClassId} {A : Nat → Prop} {O : (Nat → Nat) × zS} {cc : ByteArray} {nL : Nat} {own : String} {Ts : List Cond} {tys : List (ClassId × FieldType)} {G : (Nat → Prop) → State → Prop} {S : zS} {pc : Nat} {L : List (Nat × Value)} {st : List Value}
theorem z_run {ad : Nat → Nat} {H : Heap} {locs : List Loc} {ls : Array Slot} {st0 rest : List Value} {a : Array Value} {mc ms : Nat} {Post : Option Value → zS → Prop} {PX : String → zS → Prop}
    (hr : vx_Run p l e R s m args below meth c H locs kc ks mc ms (F0 m pc ls st0) (rest.map (zv ad)) (zQc D cl K dA A ad S Post a) (zXC D cl K dA A ad S PX) A)
    (hH : zH D cl K dA A O ad S H) (hS : va_S A s.heap H locs) (hl : lv_has ls nL (L.map (zq ad))) (ho : zok S L rest)
    (kk : ∀ (v : Option Value) (S' : zS), Post v S' → AW p l e R s m args below meth c D cl K dA A O nL S' (kc + mc) (ks + ms) Q (pc + 3) L (v.toList ++ rest))
    (kx : ∀ (E : String) (S' : zS), PX E S' → AWX p l e R s m args below meth c D cl K dA A O nL S' (kc + mc) (ks + ms) Q pc L rest E) : W p l e R s m args below meth c H locs kc ks Q (F0 m pc ls st0) := by
  intro T hT X
  rcases hr T hT X with ⟨v, st₀, t, T', L9, h0, X', hL, e1, e2, ⟨⟨v', ad', S', hv, hp, hH', hw⟩, hF⟩, st⟩ | ⟨q, st₀, t, T', L9, E, ce, h0, X', hL, e1, e2, ⟨⟨ad', S', hp, hH'⟩, hF⟩, hce, hcv, hcl, st⟩
  · have hx : zext ad S ad' S' := hH'.1
    have hH9 : zH D cl K dA A O ad' S' t.heap := ⟨hH.1.tr hx, hH'.2⟩
    obtain ⟨k1, k2, k3⟩ := vx_keep (A0 := A) (A1 := A) h0 e1 hS (fun q _ h => h) (fun q h => h) hL hF
    have hv' : v = v'.map (zv ad') := Outcome.returned.inj hv
    have e9 := zq_ext ho hx.2 (fun n h => (hx.1 n h).2)
    have ho' : zok S' L rest := zok_mono (fun n h => (hx.1 n h).1) ho
    have w := kk v' S' hp ad' T'.heap (locs ++ L9) ls (by rw [e1]; exact hH9) k3 (by rw [e9.1]; exact hl) ⟨ho'.1, fun z hz => by
      rcases List.mem_append.mp hz with h | h
      · exact hw z (by cases v' with
          | none => cases h
          | some y => rw [List.mem_singleton.mp h])
      · exact ho'.2 z h⟩
    rw [List.map_append, e9.2, show (v'.toList).map (zv ad') = v.toList by rw [hv']; cases v' <;> rfl] at w
    obtain ⟨t2, a1, b1⟩ := w T' rfl X'
    exact ⟨t2, st t2 a1, b1⟩
  · have hx : zext ad S ad' S' := hH'.1
    have hH9 : zH D cl K dA A O ad' S' t.heap := ⟨hH.1.tr hx, hH'.2⟩
    obtain ⟨k1, k2, k3⟩ := vx_keep (A0 := A) (A1 := A) h0 e1 hS (fun q _ h => h) (fun q h => h) hL hF
    have e9 := zq_ext ho hx.2 (fun n h => (hx.1 n h).2)
    have ho' : zok S' L rest := zok_mono (fun n h => (hx.1 n h).1) ho
    have w := kx E S' hp ad' T'.heap (locs ++ L9) ls ce q (by rw [e1]; exact hH9) k3 (by rw [e9.1]; exact hl) ho' (by rw [e1]; exact hce) hcv hcl
    rw [e9.2] at w
    obtain ⟨t2, a1, b1⟩ := w T' rfl X'
    exact ⟨t2, st.trans a1, b1⟩
theorem z_room {st : List Value} {ad : Nat → Nat} (h : (st.map fun v => v.category).sum ≤ 8) : ((st.map (zv ad)).map fun v => v.category).sum ≤ 8 := by
  rw [List.map_map, show ((fun v : Value => v.category) ∘ zv ad) = (fun v : Value => v.category) from funext fun v => zv_cat ad v]; exact h
theorem z_rev {As rest st0 : List Value} {b : Value} {ad : Nat → Nat} (h : As.reverse ++ b :: rest = st0) : st0.map (zv ad) = (As.map (zv ad)).reverse ++ zv ad b :: rest.map (zv ad) := by
  rw [← h, List.map_append, List.map_cons, List.map_reverse]
theorem z_rev0 {As rest st0 : List Value} {ad : Nat → Nat} (h : As.reverse ++ rest = st0) : st0.map (zv ad) = (As.map (zv ad)).reverse ++ rest.map (zv ad) := by
  rw [← h, List.map_append, List.map_reverse]
theorem z_callV (X : zX p s m args c D cl K A cc nL own Ts tys G) (hG : zGm G) {y : MethodName} {bytes : ByteArray} {maxL mc ms index nm ci n : Nat} {ret : Option FieldType} {ws : List Cond} {rm : Room} {C : String} {r : vw_C} {As rest st0 : List Value} {Post : Option Value → zS → Prop} {PX : String → zS → Prop}
    (hM : zMet l D cl K dA G y ws rm mc ms (.ref nm :: As) S Post PX) (cw : CallW R s args own C index y bytes maxL ret ws rm mc ms n) (hkd : K.1 nm = .inl ci) (hc : cl[ci]? = some r) (hC : r.1 = C) (hn : As.length = n) (hst : As.reverse ++ .ref nm :: rest = st0)
    (hw : (rest.map fun v => v.category).sum ≤ 8) (hd : decode cc pc = .ok (.invokevirtual index, 3)) (hf : kc + mc ≤ R.cells ∧ ks + ms ≤ R.slots)
    (kk : ∀ (v : Option Value) (S' : zS), Post v S' → AW p l e R s m args below meth c D cl K dA A O nL S' (kc + mc) (ks + ms) Q (pc + 3) L (v.toList ++ rest))
    (kx : ∀ (E : String) (S' : zS), PX E S' → AWX p l e R s m args below meth c D cl K dA A O nL S' (kc + mc) (ks + ms) Q pc L rest E) : AW p l e R s m args below meth c D cl K dA A O nL S kc ks Q pc L st0 := by
  intro ad H locs ls hH hS hl ho
  obtain ⟨h0, hcl, hz, h00, dl, hnd, hdl, hP, hD⟩ := id hH
  have hoA : ∀ v ∈ (Value.ref nm :: As), zo S v := fun v hv => ho.2 v (by
    rw [← hst]
    rcases List.mem_cons.mp hv with e9 | h9
    · rw [e9]; exact List.mem_append_right _ List.mem_cons_self
    · exact List.mem_append_left _ (List.mem_reverse.mpr h9))
  have hor : zok S L rest := ⟨ho.1, fun v hv => ho.2 v (by rw [← hst]; exact List.mem_append_right _ (List.mem_cons_of_mem _ hv))⟩
  have hdm : S.1 nm = true := (hoA _ List.mem_cons_self).elim (fun e9 => by rw [e9, X.2.2.2.2.2.2.2.1] at hkd; cases hkd) id
  obtain ⟨i, hi⟩ := List.getElem?_of_mem ((hdl nm).mpr hdm)
  have he : (zW K dA ad S dl)[i]? = some (ad nm, .inr (ci, zF K ad S ci nm)) := by rw [zW_at hi, zC_o hkd]
  refine z_run (a := (Value.ref (ad nm) :: As.map (zv ad)).toArray) (vx_runV (C := C) (As := As.map (zv ad)) (b := ad nm) ⟨X.1, X.2.1, X.2.2.1, X.2.2.2.1, X.2.2.2.2.1⟩ (hM A ad hoA) cw ⟨zPc_blind hG, by rw [← hC]; exact va_recv X.2.2.2.2.2.1 hP hc he, fun U hU hW => ⟨rfl, by rw [hU]; exact ⟨zext.rf, hH.2⟩, fun q hq => X.2.2.2.2.2.2.1 q (Nat.le_trans hS.1 (by rw [← hU]; exact hq)), hG A s U hW (by rw [hU]; exact hS.1) (fun q h1 h2 => by rw [hU]; exact hS.2.1 q h1 h2) X.2.2.2.2.2.2.2.2⟩⟩ rfl (by rw [List.length_map]; exact hn) hl.1 (z_rev hst) (lv_room (z_room hw)) hd hf) hH hS hl hor kk kx
theorem z_callS (X : zX p s m args c D cl K A cc nL own Ts tys G) (hG : zGm G) {y : MethodName} {bytes : ByteArray} {maxL mc ms index n : Nat} {ret : Option FieldType} {ws : List Cond} {rm : Room} {As rest st0 : List Value} {Post : Option Value → zS → Prop} {PX : String → zS → Prop}
    (hM : zMet l D cl K dA G y ws rm mc ms As S Post PX) (cw : CallB R s args own index y bytes maxL ret ws rm mc ms n ∧ (Cond.static y).before args s = true) (hn : As.length = n) (hst : As.reverse ++ rest = st0)
    (hw : (rest.map fun v => v.category).sum ≤ 8) (hd : decode cc pc = .ok (.invokestatic index, 3)) (hf : kc + mc ≤ R.cells ∧ ks + ms ≤ R.slots)
    (kk : ∀ (v : Option Value) (S' : zS), Post v S' → AW p l e R s m args below meth c D cl K dA A O nL S' (kc + mc) (ks + ms) Q (pc + 3) L (v.toList ++ rest))
    (kx : ∀ (E : String) (S' : zS), PX E S' → AWX p l e R s m args below meth c D cl K dA A O nL S' (kc + mc) (ks + ms) Q pc L rest E) : AW p l e R s m args below meth c D cl K dA A O nL S kc ks Q pc L st0 := by
  intro ad H locs ls hH hS hl ho
  have hoA : ∀ v ∈ As, zo S v := fun v hv => ho.2 v (by rw [← hst]; exact List.mem_append_left _ (List.mem_reverse.mpr hv))
  have hor : zok S L rest := ⟨ho.1, fun v hv => ho.2 v (by rw [← hst]; exact List.mem_append_right _ hv)⟩
  refine z_run (a := (As.map (zv ad)).toArray) (vx_runS (As := As.map (zv ad)) ⟨X.1, X.2.1, X.2.2.1, X.2.2.2.1, X.2.2.2.2.1⟩ (hM A ad hoA) cw ⟨zPc_blind hG, fun U hU hW => ⟨rfl, by rw [hU]; exact ⟨zext.rf, hH.2⟩, fun q hq => X.2.2.2.2.2.2.1 q (Nat.le_trans hS.1 (by rw [← hU]; exact hq)), hG A s U hW (by rw [hU]; exact hS.1) (fun q h1 h2 => by rw [hU]; exact hS.2.1 q h1 h2) X.2.2.2.2.2.2.2.2⟩⟩ rfl (by rw [List.length_map]; exact hn) hl.1 (z_rev0 hst) (lv_room (z_room hw)) hd hf) hH hS hl hor kk kx
theorem z_callI (X : zX p s m args c D cl K A cc nL own Ts tys G) (hG : zGm G) {y : MethodName} {bytes : ByteArray} {maxL mc ms index nm n : Nat} {ws : List Cond} {rm : Room} {As rest st0 : List Value} {Post : Option Value → zS → Prop} {PX : String → zS → Prop} (hPX : ∀ E S', ¬ PX E S')
    (hM : zMet l D cl K dA G y ws rm mc ms (.ref nm :: As) S Post PX) (cw : CallB R s args own index y bytes maxL none ws rm mc ms n ∧ y.name = "<init>" ∧ (Cond.instanceMethod y).before args s = true) (hn : As.length = n) (hst : As.reverse ++ .ref nm :: rest = st0)
    (hw : (rest.map fun v => v.category).sum ≤ 8) (hd : decode cc pc = .ok (.invokespecial index, 3)) (hf : kc + mc ≤ R.cells ∧ ks + ms ≤ R.slots)
    (kk : ∀ (v : Option Value) (S' : zS), Post v S' → AW p l e R s m args below meth c D cl K dA A O nL S' (kc + mc) (ks + ms) Q (pc + 3) L (v.toList ++ rest)) : AW p l e R s m args below meth c D cl K dA A O nL S kc ks Q pc L st0 := by
  intro ad H locs ls hH hS hl ho
  have hoA : ∀ v ∈ (Value.ref nm :: As), zo S v := fun v hv => ho.2 v (by
    rw [← hst]
    rcases List.mem_cons.mp hv with e9 | h9
    · rw [e9]; exact List.mem_append_right _ List.mem_cons_self
    · exact List.mem_append_left _ (List.mem_reverse.mpr h9))
  have hor : zok S L rest := ⟨ho.1, fun v hv => ho.2 v (by rw [← hst]; exact List.mem_append_right _ (List.mem_cons_of_mem _ hv))⟩
  have hr := va_runI (locs := locs) (cells := kc) (slots := ks) (e := e) (below := below) (meth := meth) (g := F0 m pc ls (st0.map (zv ad))) (rest := rest.map (zv ad)) (As := As.map (zv ad)) (b := ad nm) ⟨X.1, X.2.1, X.2.2.1, X.2.2.2.1, X.2.2.2.2.1⟩ (z_toMet (fun E st t h => h.1.elim fun a h => h.elim fun b h => hPX E b h.1) (hM A ad hoA)) cw ⟨zPc_blind hG, fun U hU hW => ⟨rfl, by rw [hU]; exact ⟨zext.rf, hH.2⟩, fun q hq => X.2.2.2.2.2.2.1 q (Nat.le_trans hS.1 (by rw [← hU]; exact hq)), hG A s U hW (by rw [hU]; exact hS.1) (fun q h1 h2 => by rw [hU]; exact hS.2.1 q h1 h2) X.2.2.2.2.2.2.2.2⟩⟩ rfl (by rw [List.length_map]; exact hn) hl.1 (z_rev hst) (lv_room (z_room hw)) hd hf
  exact z_run (PX := PX) (fun T hT X9 => Or.inl (hr T hT X9)) hH hS hl hor kk (fun E S' h => absurd h (hPX E S'))
/-- not caught in this method -/
theorem z_out {Post : Option Value → zS → Prop} {PX : String → zS → Prop} {mc ms : Nat} {E : String} (hout : ∀ x ∈ c.exceptionTable.toList, covers x pc = false) (hlocks : meth.locks = false) (hPX : PX E S) (hc : kc ≤ mc) (hs : ks ≤ ms) :
    AWX p l e R s m args below meth c D cl K dA A O nL S kc ks (vx_MQ below (zQc D cl K dA A O.1 O.2 Post) (zXC D cl K dA A O.1 O.2 PX) args s mc ms A) pc L st E := by
  intro ad H locs ls ce q hH hS hl ho h1 h2 h3
  exact vx_out hout hlocks h1 h2 h3 (fun t ht ha => ⟨⟨ad, S, hPX, by rw [ht]; exact hH⟩, hS.F ht⟩) hS.2.2 hc hs
end ZC
/-! ENDS, ENTRY, CATCHING, THROWING over the abstract store -/
theorem zargs (ad : Nat → Nat) : ∀ (vs : List Value) (i : Nat), lv_args i (vs.map (zv ad)) = (lv_args i vs).map (zq ad)
  | [], _ => rfl
  | v :: vs, i => by
    show (i, zv ad v) :: lv_args (if (zv ad v).category = 2 then i + 2 else i + 1) (vs.map (zv ad)) = (i, zv ad v) :: (lv_args (if v.category = 2 then i + 2 else i + 1) vs).map (zq ad)
    rw [zv_cat, zargs ad vs]
theorem zslen (ad : Nat → Nat) : ∀ (vs : List Value), (lg_sl (vs.map (zv ad))).length = (lg_sl vs).length
  | [] => rfl
  | v :: vs => by
    have h := zslen ad vs
    simp only [lg_sl, List.map_cons, List.flatMap_cons, List.length_append] at h ⊢
    rw [zv_cat]
    rw [h]
    by_cases hc : v.category = 2
    · simp [hc]
    · simp [hc]
theorem zargs_mem {vs : List Value} : ∀ {i : Nat} {q : Nat × Value}, q ∈ lv_args i vs → q.2 ∈ vs := by
  induction vs with
  | nil => intro i q h; cases h
  | cons v vs ih =>
    intro i q h
    rcases List.mem_cons.mp h with e | h
    · rw [e]; exact List.mem_cons_self
    · exact List.mem_cons_of_mem _ (ih h)
theorem zH_kept {D : va_G} {cl : List vw_C} {K : zK} {dA : Nat → ClassId} {A : Nat → Prop} {O : (Nat → Nat) × zS} {ad : Nat → Nat} {S : zS} {H H1 : Heap} (h : zH D cl K dA A O ad S H) (hk : ∀ q : Nat, q < H.size → H1[q]? = H[q]?) : zH D cl K dA A O ad S H1 := by
  obtain ⟨h0, hcl, hz, h00, dl, hnd, hdl, hP, hD⟩ := h
  exact ⟨h0, hcl, hz, h00, dl, hnd, hdl, hP.kept (fun k q hq => hk q.1 ((hP k q hq).lt)), hD⟩
section ZE
variable {p : Program} {l : Launch} {e : Env} {R : Room} {s : State} {m : MethodId} {args : Array Value} {below : List Frame} {meth : Method} {c : Code} {kc ks mc ms : Nat} {Q : State → Prop}
variable {D : va_G} {cl : List vw_C} {K : zK} {dA : Nat → ClassId} {A : Nat → Prop} {O : (Nat → Nat) × zS} {cc : ByteArray} {nL : Nat} {own : String} {Ts : List Cond} {tys : List (ClassId × FieldType)} {G : (Nat → Prop) → State → Prop} {S : zS} {pc : Nat} {L : List (Nat × Value)} {st : List Value} {Post : Option Value → zS → Prop} {PX : String → zS → Prop}
theorem z_iret (X : zX p s m args c D cl K A cc nL own Ts tys G) {v : Int32} (hlocks : meth.locks = false) (hr : meth.sig.returnType = some .int) (hd : decode cc pc = .ok (.ireturn, 1)) (hc : kc ≤ mc) (hs : ks ≤ ms) (hp : Post (some (.int v)) S) : AW p l e R s m args below meth c D cl K dA A O nL S kc ks (vx_MQ below (zQc D cl K dA A O.1 O.2 Post) (zXC D cl K dA A O.1 O.2 PX) args s mc ms A) pc L [.int v] :=
  fun ad H locs ls hH hS hl ho => W.widen hc hs (vx_ret (W.iret (v := v) X.1 X.2.1 hr (fun t ht hW => ⟨⟨some (.int v), ad, S, rfl, hp, by rw [ht]; exact hH, fun w hw => by cases hw; trivial⟩, hS.F ht⟩) hS.2.2 hd hlocks))
theorem z_zret (X : zX p s m args c D cl K A cc nL own Ts tys G) {v : Int32} (hlocks : meth.locks = false) (hr : meth.sig.returnType = some .boolean) (hd : decode cc pc = .ok (.ireturn, 1)) (hn : narrow .boolean (.int v) = .int v) (hc : kc ≤ mc) (hs : ks ≤ ms) (hp : Post (some (.int v)) S) : AW p l e R s m args below meth c D cl K dA A O nL S kc ks (vx_MQ below (zQc D cl K dA A O.1 O.2 Post) (zXC D cl K dA A O.1 O.2 PX) args s mc ms A) pc L [.int v] :=
  fun ad H locs ls hH hS hl ho => W.widen hc hs (vx_ret (W.zret (v := v) X.1 X.2.1 hr hn (fun t ht hW => ⟨⟨some (.int v), ad, S, rfl, hp, by rw [ht]; exact hH, fun w hw => by cases hw; trivial⟩, hS.F ht⟩) hS.2.2 hd hlocks))
theorem z_aret (X : zX p s m args c D cl K A cc nL own Ts tys G) {n : Nat} {rt : FieldType} (hlocks : meth.locks = false) (hr : meth.sig.returnType = some rt) (hrt : (∃ n, rt = .object n) ∨ ∃ t, rt = .array t) (hd : decode cc pc = .ok (.areturn, 1)) (hc : kc ≤ mc) (hs : ks ≤ ms) (hp : Post (some (.ref n)) S) : AW p l e R s m args below meth c D cl K dA A O nL S kc ks (vx_MQ below (zQc D cl K dA A O.1 O.2 Post) (zXC D cl K dA A O.1 O.2 PX) args s mc ms A) pc L [.ref n] :=
  fun ad H locs ls hH hS hl ho => W.widen hc hs (vx_ret (W.aret (v := .ref (ad n)) X.1 X.2.1 hr hrt (Or.inr ⟨_, rfl⟩) (fun t ht hW => ⟨⟨some (.ref n), ad, S, rfl, hp, by rw [ht]; exact hH, fun w hw => by cases hw; exact ho.h⟩, hS.F ht⟩) hS.2.2 hd hlocks))
theorem z_vret (X : zX p s m args c D cl K A cc nL own Ts tys G) (hlocks : meth.locks = false) (hr : meth.sig.returnType = none) (hd : decode cc pc = .ok (.return_, 1)) (hc : kc ≤ mc) (hs : ks ≤ ms) (hp : Post none S) : AW p l e R s m args below meth c D cl K dA A O nL S kc ks (vx_MQ below (zQc D cl K dA A O.1 O.2 Post) (zXC D cl K dA A O.1 O.2 PX) args s mc ms A) pc L [] :=
  fun ad H locs ls hH hS hl ho => W.widen hc hs (vx_ret (W.vret X.1 X.2.1 hr (fun t ht hW => ⟨⟨none, ad, S, rfl, hp, by rw [ht]; exact hH, fun w hw => by cases hw⟩, hS.F ht⟩) hS.2.2 hd hlocks))
theorem z_catch_n (X : zX p s m args c D cl K A cc nL own Ts tys G) {nm E : String} {k0 : Fin 4} {i : Nat} {L' : List (Nat × Value)} (pre : List ExceptionTableEntry) (x : ExceptionTableEntry) (suf : List ExceptionTableEntry) (hsplit : c.exceptionTable.toList = pre ++ x :: suf)
    (hpass : ∀ z ∈ pre, covers z pc = false ∨ (z.catchType ≠ 0 ∧ ∃ nm : String, (Cond.classLink own z.catchType nm).before args s = true ∧ va_Nc E nm s)) (hx : covers x pc = true) (h0 : x.catchType ≠ 0)
    (hlink : (Cond.classLink own x.catchType nm).before args s = true) (hcast : (Cond.castable E nm).before args s = true) (hd : decode cc x.handlerPc = .ok (.astore_n k0, 1)) (hi : (k0 : Nat) = i) (hn : i < nL) (hl9 : L.filter (zf i) = L')
    (k : AW p l e R s m args below meth c D cl K dA A O nL S kc ks Q (x.handlerPc + 1) L' []) : AWX p l e R s m args below meth c D cl K dA A O nL S kc ks Q pc L st E := by
  intro ad H locs ls ce q hH hS hl ho h1 h2 h3
  refine vx_catch X.2.2.2.1 pre x suf hsplit hpass hx h0 hlink hcast h1 h2 h3 (lv_astore_n (x := q) (lv' := (i, .ref q) :: L'.map (zq ad)) X.1 X.2.1 hd hi hl hn (by rw [zq_filter, hl9]) (fun ls' h' => k ad H locs ls' hH hS ⟨h'.1, h'.2.1, fun q9 hq9 => h'.2.2 q9 (List.mem_cons_of_mem _ hq9)⟩ ⟨fun q9 h9 => ho.1 q9 ?_, fun _ h => nomatch h⟩))
  rw [← hl9] at h9
  exact (List.mem_filter.mp h9).1
theorem z_catch (X : zX p s m args c D cl K A cc nL own Ts tys G) {nm E : String} {i : Nat} {L' : List (Nat × Value)} (pre : List ExceptionTableEntry) (x : ExceptionTableEntry) (suf : List ExceptionTableEntry) (hsplit : c.exceptionTable.toList = pre ++ x :: suf)
    (hpass : ∀ z ∈ pre, covers z pc = false ∨ (z.catchType ≠ 0 ∧ ∃ nm : String, (Cond.classLink own z.catchType nm).before args s = true ∧ va_Nc E nm s)) (hx : covers x pc = true) (h0 : x.catchType ≠ 0)
    (hlink : (Cond.classLink own x.catchType nm).before args s = true) (hcast : (Cond.castable E nm).before args s = true) (hd : decode cc x.handlerPc = .ok (.astore i, 2)) (hn : i < nL) (hl9 : L.filter (zf i) = L')
    (k : AW p l e R s m args below meth c D cl K dA A O nL S kc ks Q (x.handlerPc + 2) L' []) : AWX p l e R s m args below meth c D cl K dA A O nL S kc ks Q pc L st E := by
  intro ad H locs ls ce q hH hS hl ho h1 h2 h3
  refine vx_catch X.2.2.2.1 pre x suf hsplit hpass hx h0 hlink hcast h1 h2 h3 (lv_astore (x := q) (lv' := (i, .ref q) :: L'.map (zq ad)) X.1 X.2.1 hd hl hn (by rw [zq_filter, hl9]) (fun ls' h' => k ad H locs ls' hH hS ⟨h'.1, h'.2.1, fun q9 hq9 => h'.2.2 q9 (List.mem_cons_of_mem _ hq9)⟩ ⟨fun q9 h9 => ho.1 q9 ?_, fun _ h => nomatch h⟩))
  rw [← hl9] at h9
  exact (List.mem_filter.mp h9).1
end ZE
section ZM
variable {l : Launch} {D : va_G} {cl : List vw_C} {K : zK} {dA : Nat → ClassId} {G : (Nat → Prop) → State → Prop} {y : MethodName} {ws ws' : List Cond} {rm : Room} {mc ms maxL : Nat} {As : List Value} {S : zS} {Post : Option Value → zS → Prop} {PX : String → zS → Prop} {cc : ByteArray} {ret : Option FieldType} {tys : List (ClassId × FieldType)}
theorem z_met (hy : plainName y.cls = true) (hw : ws = Cond.code y cc maxL ret :: ws') (hGK : ∀ A s, G A s → va_K D cl tys s) (hK0 : K.1 0 = .inr (999, 0)) (hlen : (lg_sl As).length ≤ maxL)
    (body : ∀ (p : Program) (e : Env) (s : State) (m : MethodId) (args : Array Value) (below : List Frame) (meth : Method) (c : Code) (A : Nat → Prop) (ad : Nat → Nat), zX p s m args c D cl K A cc maxL y.cls ws tys G → meth.sig.returnType = ret → meth.locks = false → meth.name = y.name → (∀ x ∈ c.exceptionTable.toList, False) →
      AW p l e rm s m args below meth c D cl K dA A (ad, S) maxL S 0 0 (vx_MQ below (zQc D cl K dA A ad S Post) (zXC D cl K dA A ad S PX) args s mc ms A) 0 (lv_args 0 As) []) : zMet l D cl K dA G y ws rm mc ms As S Post PX := by
  intro A ad hoA
  refine vx_ofW (cc := cc) (maxL := maxL) (ret := ret) hy hw ?_
  intro p e s m args below meth c s₁ B hml hex hv
  obtain ⟨rfl, hH, hA, hG⟩ := hv
  have hl := lv_entry (As.map (zv ad)) (n := maxL) (by rw [zslen]; exact hlen)
  rw [lg_entry_eq]
  rw [zargs] at hl
  exact body p e s m _ below meth c A ad ⟨B.exec, B.bytes, hml, findClass_of_methodNamed B.named, atoms_spec (ws := ws) B.pre, hGK A s hG, hA, hK0, hG⟩ B.returns B.notSynchronized (name_of_methodNamed B.named B.method).1 hex ad s.heap [] _ hH va_S.rf hl ⟨fun q hq => hoA _ (zargs_mem hq), fun _ h => nomatch h⟩
theorem z_metH {hh : List (Nat × Nat × Nat × Nat)} (hy : plainName y.cls = true) (hw : ws = Cond.codeWith y cc maxL ret hh :: ws') (hGK : ∀ A s, G A s → va_K D cl tys s) (hK0 : K.1 0 = .inr (999, 0)) (hlen : (lg_sl As).length ≤ maxL)
    (body : ∀ (p : Program) (e : Env) (s : State) (m : MethodId) (args : Array Value) (below : List Frame) (meth : Method) (c : Code) (A : Nat → Prop) (ad : Nat → Nat), zX p s m args c D cl K A cc maxL y.cls ws tys G → meth.sig.returnType = ret → meth.locks = false → c.exceptionTable.toList = tableOf hh →
      AW p l e rm s m args below meth c D cl K dA A (ad, S) maxL S 0 0 (vx_MQ below (zQc D cl K dA A ad S Post) (zXC D cl K dA A ad S PX) args s mc ms A) 0 (lv_args 0 As) []) : zMet l D cl K dA G y ws rm mc ms As S Post PX := by
  intro A ad hoA
  refine vx_ofWH (cc := cc) (maxL := maxL) (ret := ret) (hh := hh) hy hw ?_
  intro p e s m args below meth c s₁ B hml hv
  obtain ⟨rfl, hH, hA, hG⟩ := hv
  have hl := lv_entry (As.map (zv ad)) (n := maxL) (by rw [zslen]; exact hlen)
  rw [lg_entry_eq]
  rw [zargs] at hl
  exact body p e s m _ below meth c A ad ⟨B.exec, B.bytes, hml, findClass_of_methodNamed B.named, atoms_spec (ws := ws) B.pre, hGK A s hG, hA, hK0, hG⟩ B.returns B.notSynchronized (vx_table (x := y) B (atoms_spec (ws := ws) B.pre _ (by rw [hw]; exact List.mem_cons_self))) ad s.heap [] _ hH va_S.rf hl ⟨fun q hq => hoA _ (zargs_mem hq), fun _ h => nomatch h⟩
end ZM
section ZT
variable {p : Program} {l : Launch} {e : Env} {R : Room} {s : State} {m : MethodId} {args : Array Value} {below : List Frame} {meth : Method} {c : Code} {kc ks mc ms : Nat}
variable {D : va_G} {cl : List vw_C} {K : zK} {dA : Nat → ClassId} {A : Nat → Prop} {O : (Nat → Nat) × zS} {cc : ByteArray} {nL : Nat} {own : String} {Ts : List Cond} {tys : List (ClassId × FieldType)} {G : (Nat → Prop) → State → Prop} {S : zS} {pc : Nat} {L : List (Nat × Value)} {Post : Option Value → zS → Prop} {PX : String → zS → Prop}
theorem z_throwS (X : zX p s m args c D cl K A cc nL own Ts tys G) (hl0 : l.stackTraces = false) {cls text : String} {names : List String} {ik is ic sa : Nat} (hcls : Bundle.fit cls = true) (hnames : ∀ n ∈ names, Bundle.fit n = true)
    (hk : (Cond.classLink own ik cls).before args s = true) (hini : (Cond.initialized cls).before args s = true) (hstr : vk_R own is text sa s) (hat : ∀ w ∈ vx_atS own ic cls names, w.before args s = true)
    (hgood : ∀ w ∈ Cond.classLink own ik cls :: Cond.initialized cls :: vx_atS own ic cls names, vx_ot w = true)
    (hU : vx_Zq Bundle.tN "UNASSIGNED_STACK" Bundle.steD A s s.heap) (hN : vx_Zq Bundle.tN "SUPPRESSED_SENTINEL" Bundle.listD A s s.heap)
    (d0 : decode cc pc = .ok (.new ik, 3)) (d3 : decode cc (pc + 3) = .ok (.dup, 1)) (d4 : decode cc (pc + 4) = .ok (.ldc is, 2)) (d6 : decode cc (pc + 6) = .ok (.invokespecial ic, 3)) (d9 : decode cc (pc + 9) = .ok (.athrow, 1))
    (hout : ∀ x ∈ c.exceptionTable.toList, covers x (pc + 9) = false)
    (hRf : names.length + 3 < R.frames) (hRl : 13 * (names.length + 1) + 43 ≤ R.locals) (hRc : kc + 1 ≤ R.cells) (hRs : ks + 6 ≤ R.slots) (hlocks : meth.locks = false) (hc : kc + 1 ≤ mc) (hs : ks + 6 ≤ ms) (hPX : PX cls S) :
    AW p l e R s m args below meth c D cl K dA A O nL S kc ks (vx_MQ below (zQc D cl K dA A O.1 O.2 Post) (zXC D cl K dA A O.1 O.2 PX) args s mc ms A) pc L [] :=
  fun ad H locs ls hH hS hl ho => vx_throwS X.1 X.2.1 hl0 X.2.2.2.1 hcls hnames hk hini hstr hat hgood hU hN hS (hl.1.trans X.2.2.1.symm) d0 d3 d4 d6 d9 hout hRf (by show 0 + _ ≤ _; omega) hRc hRs hlocks (fun t ha h1 h2 => ⟨⟨ad, S, hPX, zH_kept hH h2⟩, ⟨Nat.le_trans hS.1 h1, fun q q1 q2 => (h2 q (Nat.lt_of_lt_of_le q1 hS.1)).trans (hS.2.1 q q1 q2)⟩⟩) hS.2.2 hc hs
theorem z_throwSW (X : zX p s m args c D cl K A cc nL own Ts tys G) (hl0 : l.stackTraces = false) {cls text : String} {names : List String} {ik is ic sa : Nat} (hcls : Bundle.fit cls = true) (hnames : ∀ n ∈ names, Bundle.fit n = true)
    (hk : (Cond.classLink own ik cls).before args s = true) (hini : (Cond.initialized cls).before args s = true) (hstr : vk_R own is text sa s) (hat : ∀ w ∈ vx_atS own ic cls names, w.before args s = true)
    (hgood : ∀ w ∈ Cond.classLink own ik cls :: Cond.initialized cls :: vx_atS own ic cls names, vx_ot w = true)
    (hU : vx_Zq Bundle.tN "UNASSIGNED_STACK" Bundle.steD A s s.heap) (hN : vx_Zq Bundle.tN "SUPPRESSED_SENTINEL" Bundle.listD A s s.heap)
    (d0 : decode cc pc = .ok (.new ik, 3)) (d3 : decode cc (pc + 3) = .ok (.dup, 1)) (d4 : decode cc (pc + 4) = .ok (.ldc_w is, 3)) (d7 : decode cc (pc + 7) = .ok (.invokespecial ic, 3)) (d10 : decode cc (pc + 10) = .ok (.athrow, 1))
    (hout : ∀ x ∈ c.exceptionTable.toList, covers x (pc + 10) = false)
    (hRf : names.length + 3 < R.frames) (hRl : 13 * (names.length + 1) + 43 ≤ R.locals) (hRc : kc + 1 ≤ R.cells) (hRs : ks + 6 ≤ R.slots) (hlocks : meth.locks = false) (hc : kc + 1 ≤ mc) (hs : ks + 6 ≤ ms) (hPX : PX cls S) :
    AW p l e R s m args below meth c D cl K dA A O nL S kc ks (vx_MQ below (zQc D cl K dA A O.1 O.2 Post) (zXC D cl K dA A O.1 O.2 PX) args s mc ms A) pc L [] :=
  fun ad H locs ls hH hS hl ho => vx_throwSW X.1 X.2.1 hl0 X.2.2.2.1 hcls hnames hk hini hstr hat hgood hU hN hS (hl.1.trans X.2.2.1.symm) d0 d3 d4 d7 d10 hout hRf (by show 0 + _ ≤ _; omega) hRc hRs hlocks (fun t ha h1 h2 => ⟨⟨ad, S, hPX, zH_kept hH h2⟩, ⟨Nat.le_trans hS.1 h1, fun q q1 q2 => (h2 q (Nat.lt_of_lt_of_le q1 hS.1)).trans (hS.2.1 q q1 q2)⟩⟩) hS.2.2 hc hs
end ZT
/-! what stands all along outside the store: tables, statics of Throwable, texts, castings -/
def zG (D : va_G) (cl : List vw_C) (tys : List (ClassId × FieldType)) (cast : List (String × String)) (decl : List MethodName) (texts : List (String × Nat × String)) (over : List String) (nc : List (String × String)) : (Nat → Prop) → State → Prop := fun A U =>
  va_K D cl tys U ∧ vx_Zq Bundle.tN "UNASSIGNED_STACK" Bundle.steD A U U.heap ∧ vx_Zq Bundle.tN "SUPPRESSED_SENTINEL" Bundle.listD A U U.heap ∧ (∀ q ∈ cast, va_Nw (.castable q.1 q.2) U) ∧ (∀ y ∈ decl, va_Nw (.declares y) U) ∧ (∀ q ∈ texts, ∃ sa, vk_R q.1 q.2.1 q.2.2 sa U) ∧ (∀ C ∈ over, va_AO C U) ∧ ∀ q ∈ nc, va_Nc q.1 q.2 U
theorem zG_m {D : va_G} {cl : List vw_C} {tys : List (ClassId × FieldType)} {cast : List (String × String)} {decl : List MethodName} {texts : List (String × Nat × String)} {over : List String} {nc : List (String × String)} : zGm (zG D cl tys cast decl texts over nc) := by
  intro A s t hW hz hk h
  obtain ⟨h1, h2, h3, h4, h5, h6, h7, h8⟩ := h
  refine ⟨va_K.moved hW.alike h1, vx_Zq.moved hW.alike (h2.kept hk), vx_Zq.moved hW.alike (h3.kept hk), fun q hq => va_Nw.warmC hW (h4 q hq), fun y hy => va_Nw.warmD hW (h5 y hy), fun q hq => ?_, fun C hC => va_AO.moved hW.alike (h7 C hC), fun q hq => va_Nc.moved hW.alike (h8 q hq)⟩
  obtain ⟨sa, h9⟩ := h6 q hq
  exact ⟨sa, vk_R.warm hW h9⟩
end
