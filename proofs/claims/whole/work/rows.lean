section
-- ===== PART A: goes FIRST, ahead of the names: the tables' words, and 'selects' of the private methods out of them =====
/-- a private method of a class that the tables say can be made, by its rows of tables_1 -/
def lw_okq (q : MethodName × Nat) : Prop := (q.1.cls ≠ "java/lang/invoke/MethodHandle" ∧ q.1.cls ≠ "java/lang/invoke/VarHandle") ∧ Cond.instantiable q.1.cls q.2 ∈ tables_1 ∧ Cond.privateMethod q.1 ∈ tables_1 ∧ Cond.instanceMethod q.1 ∈ tables_1
theorem lw_p0 : lw_okq (⟨"LogBroker", "openTransactions", "()I"⟩, 11) := ⟨⟨by decide +kernel, by decide +kernel⟩, List.mem_of_getElem? (i := 19) (by decide +kernel), List.mem_of_getElem? (i := 121) (by decide +kernel), List.mem_of_getElem? (i := 122) (by decide +kernel)⟩
theorem lw_p1 : lw_okq (⟨"java/lang/Throwable", "fillInStackTrace", "(I)Ljava/lang/Throwable;"⟩, 6) := ⟨⟨by decide +kernel, by decide +kernel⟩, List.mem_of_getElem? (i := 177) (by decide +kernel), List.mem_of_getElem? (i := 175) (by decide +kernel), List.mem_of_getElem? (i := 176) (by decide +kernel)⟩
theorem lw_p2 : lw_okq (⟨"LogBroker", "abortOpenTransactionOf", "(I)V"⟩, 11) := ⟨⟨by decide +kernel, by decide +kernel⟩, List.mem_of_getElem? (i := 19) (by decide +kernel), List.mem_of_getElem? (i := 273) (by decide +kernel), List.mem_of_getElem? (i := 274) (by decide +kernel)⟩
theorem lw_p3 : lw_okq (⟨"LogBroker", "mustHaveRoomForMarkers", "(I)V"⟩, 11) := ⟨⟨by decide +kernel, by decide +kernel⟩, List.mem_of_getElem? (i := 19) (by decide +kernel), List.mem_of_getElem? (i := 277) (by decide +kernel), List.mem_of_getElem? (i := 278) (by decide +kernel)⟩
theorem lw_p4 : lw_okq (⟨"LogBroker", "awaitsMarker", "(II)Z"⟩, 11) := ⟨⟨by decide +kernel, by decide +kernel⟩, List.mem_of_getElem? (i := 19) (by decide +kernel), List.mem_of_getElem? (i := 281) (by decide +kernel), List.mem_of_getElem? (i := 282) (by decide +kernel)⟩
theorem lw_p5 : lw_okq (⟨"LogBroker", "decide", "(LLogBroker$Session;Z)I"⟩, 11) := ⟨⟨by decide +kernel, by decide +kernel⟩, List.mem_of_getElem? (i := 19) (by decide +kernel), List.mem_of_getElem? (i := 313) (by decide +kernel), List.mem_of_getElem? (i := 314) (by decide +kernel)⟩
theorem lw_p6 : lw_okq (⟨"LogBroker", "write", "(LLogBroker$Log;LLogBroker$Entry;)I"⟩, 11) := ⟨⟨by decide +kernel, by decide +kernel⟩, List.mem_of_getElem? (i := 19) (by decide +kernel), List.mem_of_getElem? (i := 347) (by decide +kernel), List.mem_of_getElem? (i := 348) (by decide +kernel)⟩
theorem lw_p7 : lw_okq (⟨"LogBroker", "isCurrent", "(I)Z"⟩, 11) := ⟨⟨by decide +kernel, by decide +kernel⟩, List.mem_of_getElem? (i := 19) (by decide +kernel), List.mem_of_getElem? (i := 371) (by decide +kernel), List.mem_of_getElem? (i := 372) (by decide +kernel)⟩
theorem lw_p8 : lw_okq (⟨"LogBroker", "logAt", "(I)LLogBroker$Log;"⟩, 11) := ⟨⟨by decide +kernel, by decide +kernel⟩, List.mem_of_getElem? (i := 19) (by decide +kernel), List.mem_of_getElem? (i := 388) (by decide +kernel), List.mem_of_getElem? (i := 389) (by decide +kernel)⟩
theorem lw_p9 : lw_okq (⟨"LogBroker", "openedSession", "(I)LLogBroker$Session;"⟩, 11) := ⟨⟨by decide +kernel, by decide +kernel⟩, List.mem_of_getElem? (i := 19) (by decide +kernel), List.mem_of_getElem? (i := 394) (by decide +kernel), List.mem_of_getElem? (i := 395) (by decide +kernel)⟩
theorem lw_p10 : lw_okq (⟨"LogBroker", "mustBeCurrent", "(I)V"⟩, 11) := ⟨⟨by decide +kernel, by decide +kernel⟩, List.mem_of_getElem? (i := 19) (by decide +kernel), List.mem_of_getElem? (i := 423) (by decide +kernel), List.mem_of_getElem? (i := 424) (by decide +kernel)⟩
theorem lw_p11 : lw_okq (⟨"LogBrokerModel", "badSession", "(I)Z"⟩, 28) := ⟨⟨by decide +kernel, by decide +kernel⟩, List.mem_of_getElem? (i := 582) (by decide +kernel), List.mem_of_getElem? (i := 686) (by decide +kernel), List.mem_of_getElem? (i := 687) (by decide +kernel)⟩
theorem lw_p12 : lw_okq (⟨"LogBrokerModel", "roomToEnd", "(I)Z"⟩, 28) := ⟨⟨by decide +kernel, by decide +kernel⟩, List.mem_of_getElem? (i := 582) (by decide +kernel), List.mem_of_getElem? (i := 690) (by decide +kernel), List.mem_of_getElem? (i := 691) (by decide +kernel)⟩
theorem lw_p13 : lw_okq (⟨"LogBrokerModel", "takesPart", "(II)Z"⟩, 28) := ⟨⟨by decide +kernel, by decide +kernel⟩, List.mem_of_getElem? (i := 582) (by decide +kernel), List.mem_of_getElem? (i := 694) (by decide +kernel), List.mem_of_getElem? (i := 695) (by decide +kernel)⟩
theorem lw_p14 : lw_okq (⟨"LogBrokerModel", "finish", "(IZ)I"⟩, 28) := ⟨⟨by decide +kernel, by decide +kernel⟩, List.mem_of_getElem? (i := 582) (by decide +kernel), List.mem_of_getElem? (i := 698) (by decide +kernel), List.mem_of_getElem? (i := 699) (by decide +kernel)⟩
theorem lw_p15 : lw_okq (⟨"LogBrokerModel", "write", "(IIIII)I"⟩, 28) := ⟨⟨by decide +kernel, by decide +kernel⟩, List.mem_of_getElem? (i := 582) (by decide +kernel), List.mem_of_getElem? (i := 702) (by decide +kernel), List.mem_of_getElem? (i := 703) (by decide +kernel)⟩
def lw_privs_1 : List (MethodName × Nat) := [(⟨"LogBroker", "openTransactions", "()I"⟩, 11), (⟨"java/lang/Throwable", "fillInStackTrace", "(I)Ljava/lang/Throwable;"⟩, 6), (⟨"LogBroker", "abortOpenTransactionOf", "(I)V"⟩, 11), (⟨"LogBroker", "mustHaveRoomForMarkers", "(I)V"⟩, 11), (⟨"LogBroker", "awaitsMarker", "(II)Z"⟩, 11), (⟨"LogBroker", "decide", "(LLogBroker$Session;Z)I"⟩, 11), (⟨"LogBroker", "write", "(LLogBroker$Log;LLogBroker$Entry;)I"⟩, 11), (⟨"LogBroker", "isCurrent", "(I)Z"⟩, 11), (⟨"LogBroker", "logAt", "(I)LLogBroker$Log;"⟩, 11), (⟨"LogBroker", "openedSession", "(I)LLogBroker$Session;"⟩, 11), (⟨"LogBroker", "mustBeCurrent", "(I)V"⟩, 11), (⟨"LogBrokerModel", "badSession", "(I)Z"⟩, 28), (⟨"LogBrokerModel", "roomToEnd", "(I)Z"⟩, 28), (⟨"LogBrokerModel", "takesPart", "(II)Z"⟩, 28), (⟨"LogBrokerModel", "finish", "(IZ)I"⟩, 28), (⟨"LogBrokerModel", "write", "(IIIII)I"⟩, 28)]
theorem lw_r1 : ∀ q ∈ lw_privs_1, lw_okq q := List.forall_mem_cons.mpr ⟨lw_p0, List.forall_mem_cons.mpr ⟨lw_p1, List.forall_mem_cons.mpr ⟨lw_p2, List.forall_mem_cons.mpr ⟨lw_p3, List.forall_mem_cons.mpr ⟨lw_p4, List.forall_mem_cons.mpr ⟨lw_p5, List.forall_mem_cons.mpr ⟨lw_p6, List.forall_mem_cons.mpr ⟨lw_p7, List.forall_mem_cons.mpr ⟨lw_p8, List.forall_mem_cons.mpr ⟨lw_p9, List.forall_mem_cons.mpr ⟨lw_p10, List.forall_mem_cons.mpr ⟨lw_p11, List.forall_mem_cons.mpr ⟨lw_p12, List.forall_mem_cons.mpr ⟨lw_p13, List.forall_mem_cons.mpr ⟨lw_p14, List.forall_mem_cons.mpr ⟨lw_p15, fun _ h => absurd h List.not_mem_nil⟩⟩⟩⟩⟩⟩⟩⟩⟩⟩⟩⟩⟩⟩⟩⟩
theorem lw_p16 : lw_okq (⟨"LogBrokerModel", "shorten", "(I)V"⟩, 28) := ⟨⟨by decide +kernel, by decide +kernel⟩, List.mem_of_getElem? (i := 582) (by decide +kernel), List.mem_of_getElem? (i := 706) (by decide +kernel), List.mem_of_getElem? (i := 707) (by decide +kernel)⟩
theorem lw_p17 : lw_okq (⟨"LogBrokerModel", "closed", "(I)I"⟩, 28) := ⟨⟨by decide +kernel, by decide +kernel⟩, List.mem_of_getElem? (i := 582) (by decide +kernel), List.mem_of_getElem? (i := 710) (by decide +kernel), List.mem_of_getElem? (i := 711) (by decide +kernel)⟩
theorem lw_p18 : lw_okq (⟨"LogBrokerModel", "openBase", "(I)I"⟩, 28) := ⟨⟨by decide +kernel, by decide +kernel⟩, List.mem_of_getElem? (i := 582) (by decide +kernel), List.mem_of_getElem? (i := 714) (by decide +kernel), List.mem_of_getElem? (i := 715) (by decide +kernel)⟩
theorem lw_p19 : lw_okq (⟨"LogBrokerModel", "stable", "(I)I"⟩, 28) := ⟨⟨by decide +kernel, by decide +kernel⟩, List.mem_of_getElem? (i := 582) (by decide +kernel), List.mem_of_getElem? (i := 718) (by decide +kernel), List.mem_of_getElem? (i := 719) (by decide +kernel)⟩
theorem lw_p20 : lw_okq (⟨"LogBrokerModel", "badLog", "(I)Z"⟩, 28) := ⟨⟨by decide +kernel, by decide +kernel⟩, List.mem_of_getElem? (i := 582) (by decide +kernel), List.mem_of_getElem? (i := 726) (by decide +kernel), List.mem_of_getElem? (i := 727) (by decide +kernel)⟩
theorem lw_p21 : lw_okq (⟨"LogBrokerModel", "fenced", "(I)Z"⟩, 28) := ⟨⟨by decide +kernel, by decide +kernel⟩, List.mem_of_getElem? (i := 582) (by decide +kernel), List.mem_of_getElem? (i := 730) (by decide +kernel), List.mem_of_getElem? (i := 731) (by decide +kernel)⟩
theorem lw_p22 : lw_okq (⟨"LogBrokerModel", "search", "(IIZ)I"⟩, 28) := ⟨⟨by decide +kernel, by decide +kernel⟩, List.mem_of_getElem? (i := 582) (by decide +kernel), List.mem_of_getElem? (i := 746) (by decide +kernel), List.mem_of_getElem? (i := 747) (by decide +kernel)⟩
theorem lw_p23 : lw_okq (⟨"LogBrokerModel", "newer", "(III)Z"⟩, 28) := ⟨⟨by decide +kernel, by decide +kernel⟩, List.mem_of_getElem? (i := 582) (by decide +kernel), List.mem_of_getElem? (i := 758) (by decide +kernel), List.mem_of_getElem? (i := 759) (by decide +kernel)⟩
theorem lw_p24 : lw_okq (⟨"LogBrokerModel", "badMember", "(II)Z"⟩, 28) := ⟨⟨by decide +kernel, by decide +kernel⟩, List.mem_of_getElem? (i := 582) (by decide +kernel), List.mem_of_getElem? (i := 766) (by decide +kernel), List.mem_of_getElem? (i := 767) (by decide +kernel)⟩
theorem lw_p25 : lw_okq (⟨"LogBrokerModel", "change", "(I)I"⟩, 28) := ⟨⟨by decide +kernel, by decide +kernel⟩, List.mem_of_getElem? (i := 582) (by decide +kernel), List.mem_of_getElem? (i := 770) (by decide +kernel), List.mem_of_getElem? (i := 771) (by decide +kernel)⟩
theorem lw_p26 : lw_okq (⟨"LogBrokerModel", "whose", "(II)I"⟩, 28) := ⟨⟨by decide +kernel, by decide +kernel⟩, List.mem_of_getElem? (i := 582) (by decide +kernel), List.mem_of_getElem? (i := 782) (by decide +kernel), List.mem_of_getElem? (i := 783) (by decide +kernel)⟩
def lw_privs_2 : List (MethodName × Nat) := [(⟨"LogBrokerModel", "shorten", "(I)V"⟩, 28), (⟨"LogBrokerModel", "closed", "(I)I"⟩, 28), (⟨"LogBrokerModel", "openBase", "(I)I"⟩, 28), (⟨"LogBrokerModel", "stable", "(I)I"⟩, 28), (⟨"LogBrokerModel", "badLog", "(I)Z"⟩, 28), (⟨"LogBrokerModel", "fenced", "(I)Z"⟩, 28), (⟨"LogBrokerModel", "search", "(IIZ)I"⟩, 28), (⟨"LogBrokerModel", "newer", "(III)Z"⟩, 28), (⟨"LogBrokerModel", "badMember", "(II)Z"⟩, 28), (⟨"LogBrokerModel", "change", "(I)I"⟩, 28), (⟨"LogBrokerModel", "whose", "(II)I"⟩, 28)]
theorem lw_r2 : ∀ q ∈ lw_privs_2, lw_okq q := List.forall_mem_cons.mpr ⟨lw_p16, List.forall_mem_cons.mpr ⟨lw_p17, List.forall_mem_cons.mpr ⟨lw_p18, List.forall_mem_cons.mpr ⟨lw_p19, List.forall_mem_cons.mpr ⟨lw_p20, List.forall_mem_cons.mpr ⟨lw_p21, List.forall_mem_cons.mpr ⟨lw_p22, List.forall_mem_cons.mpr ⟨lw_p23, List.forall_mem_cons.mpr ⟨lw_p24, List.forall_mem_cons.mpr ⟨lw_p25, List.forall_mem_cons.mpr ⟨lw_p26, fun _ h => absurd h List.not_mem_nil⟩⟩⟩⟩⟩⟩⟩⟩⟩⟩⟩
def lw_privs : List (MethodName × Nat) := lw_privs_1 ++ (lw_privs_2)
def lw_tbl : List Cond := k2_sels lw_privs ++ tables_1
theorem lw_privs_ok : ∀ q ∈ lw_privs, lw_okq q := by
  show ∀ q ∈ lw_privs_1 ++ (lw_privs_2), lw_okq q
  exact List.forall_mem_append.mpr ⟨lw_r1, lw_r2⟩
end
section
/-! ===== BEGIN words of one list among another's, by their places ===== -/
theorem goodIn_r {big : List Cond} (ws : List Cond) (ps : List Nat) (hp : ws = ps.filterMap (fun i => big[i]?)) (h : ws.all goodWord = true) : GoodIn big ws := by
  intro w hw
  have h1 := List.all_eq_true.mp h w hw
  rw [hp] at hw
  obtain ⟨i, -, hi⟩ := List.mem_filterMap.mp hw
  have hm : w ∈ big := by first | exact List.mem_of_getElem? hi | exact List.getElem?_mem hi
  exact ⟨hm, good_of_word h1⟩
theorem goodIn_app {big a b : List Cond} (ha : GoodIn big a) (hb : GoodIn big b) : GoodIn big (a ++ b) := fun w h => (List.mem_append.mp h).elim (ha w) (hb w)
theorem goodIn_ca {big a b : List Cond} {c : Cond} (ha : GoodIn big (c :: a)) (hb : GoodIn big b) : GoodIn big (c :: (a ++ b)) := fun w h => (List.mem_cons.mp h).elim (fun e => ha w (List.mem_cons.mpr (Or.inl e))) (fun h => (List.mem_append.mp h).elim (fun h => ha w (List.mem_cons.mpr (Or.inr h))) (hb w))
theorem goodIn_sub {big ws : List Cond} (hm : ∀ w ∈ ws, w ∈ big) (h : ws.all goodWord = true) : GoodIn big ws := fun w hw => ⟨hm w hw, good_of_word (List.all_eq_true.mp h w hw)⟩
/-! ===== END ===== -/

/-! ===== BEGIN exceptions that leave a method, and their catching by the caller (launches without stack traces) ===== -/
section VXA
/-! The laws vx_back, vx_callV, vx_callS, vx_callSW, vx_throw0, vx_throwS follow proofs of the library, with one case more: JvmDerived/Free/Laws.lean (Back.of_free), Shelf42/LK1.lean (callV, callS), Shelf/KitTraced.lean (throwNew0V, throwNewS). -/
/-- where a method has thrown q: the class by its name, the cell, what was written, the world -/
def vx_T (XC : String → State → State → Prop) (st : State) (q : Addr) (t : State) (mc ms : Nat) (free : Addr → Prop) : Prop :=
  ∃ (E : String) (ce : Cell) (L : List Loc), XC E st t ∧ t.heap[q]? = some ce ∧ ce.vm = .none ∧ st.vm.findClass E = some ce.cls ∧ st.WarmedH t.vm ∧ st.sameButNew ({ t with vm := st.vm } : State) L mc ms ∧ ∀ z ∈ L, free z.base
def vx_Q (Qc : Array Value → State → Outcome → State → Prop) (XC : String → State → State → Prop) (mc ms : Nat) (free : Addr → Prop) : Array Value → State → Outcome → State → Prop := fun a st o t =>
  (Qc a st o t ∧ ∃ L, FrameEnd st o t L mc ms ∧ ∀ q ∈ L, free q.base) ∨ ∃ q, o = .threw q ∧ vx_T XC st q t mc ms free
/-- a callee that returns or throws -/
def vx_Met (l : Launch) (y : MethodName) (ws : List Cond) (rm : Room) (Pc : Array Value → State → Prop) (Qc : Array Value → State → Outcome → State → Prop) (XC : String → State → State → Prop) (mc ms : Nat) (free : Addr → Prop) : Prop :=
  MetFree l y (headSpec ws rm) Pc (fun _ _ _ _ _ => True) (vx_Q Qc XC mc ms free)
def vx_Post (XC : String → State → State → Prop) (mc ms : Nat) (free : Addr → Prop) : Pt → Array Value → Addr → Pt → Prop := fun A a q B =>
  ∃ (g : JFrame) (mk : MethodId) (t : State) (L : List Loc) (E : String) (ce : Cell), B.U.heap = t.heap ∧ B.U.vm = t.vm ∧ XC E (A.U.calling g mk a) t ∧ t.heap[q]? = some ce ∧ ce.vm = .none ∧ A.U.vm.findClass E = some ce.cls ∧ B.locs = A.locs ++ L ∧ (∀ z ∈ L, free z.base) ∧ B.cells = A.cells + mc ∧ B.slots = A.slots + ms
def vx_Back (l : Launch) (R : Room) (p : Program) (e : Env) (below : List Frame) (s : State) (sargs : Array Value) (y : MethodName) (len W9 : Nat)
    (Pre : Pt → Array Value → Prop) (Post : Pt → Array Value → Option Value → Pt → Prop) (PostX : Pt → Array Value → Addr → Pt → Prop) : Prop :=
  ∀ (m : MethodId) (meth : Method) (c : Code) (A : Pt) (g : JFrame) (ig : Instr) (mk : MethodId) (a : Array Value),
    Stand p l e R s m sargs below meth c A.U A.locs A.cells A.slots → g.method = m → g.locals.size = c.maxLocals → decode c.code g.pc = .ok (ig, len) →
    2 * g.monitorRoom + (g.stack.map fun v => v.category).sum ≤ W9 → A.U.methodNamed? y = some mk → Pre A a →
    (∃ (v : Option Value) (B : Pt), Stand p l e R s m sargs below meth c B.U B.locs B.cells B.slots ∧ Post A a v B ∧
      Steps p.tables e below (doInvoke e (A.U.setTop g) [] mk a).1 (B.U.setTop { g with pc := g.pc + len, stack := v.toList ++ g.stack })) ∨
    (∃ (q : Addr) (B : Pt), Stand p l e R s m sargs below meth c B.U B.locs B.cells B.slots ∧ PostX A a q B ∧
      Steps p.tables e below (doInvoke e (A.U.setTop g) [] mk a).1 ((B.U.setTop g).pushFrame (.throwing q)))
section Payer
variable {l : Launch} {R : Room} {p : Program} {e : Env} {below : List Frame} {s : State} {sargs : Array Value} {y : MethodName} {len W9 : Nat}
theorem vx_back {ws : List Cond} {rm : Room} {Pc : Array Value → State → Prop} {Qc : Array Value → State → Outcome → State → Prop} {XC : String → State → State → Prop} {mc ms : Nat} {free : Addr → Prop} {bytes : ByteArray} {maxL : Nat} {ret : Option FieldType}
    (hM : vx_Met l y ws rm Pc Qc XC mc ms free) (hblind : FrameBlind Pc) (hrc : rm.cells = mc) (hrs : rm.slots = ms)
    (hframes : rm.frames + 1 ≤ R.frames) (hlocals : W9 + (maxL + 11) + rm.locals ≤ R.locals)
    (hws : ∀ w ∈ ws, ∀ a' U, s.WarmedH U.vm → w.before a' U = true) (hcode : Cond.code y bytes maxL ret ∈ ws) (hinit : ∀ a' U, s.WarmedH U.vm → (Cond.initialized y.cls).before a' U = true) :
    vx_Back l R p e below s sargs y len W9 (PreOf R mc ms Pc) (PostOf Qc mc ms free) (vx_Post XC mc ms free) := by
  intro m meth c A g ig mk a X hg hsize hdg hW hn hp
  have h1 : (headSpec ws rm).pre.before a A.U = true := atoms_intro fun w hw => hws w hw _ _ X.warmed
  have h2 : (Cond.code y bytes maxL ret).before a A.U = true := hws _ hcode _ _ X.warmed
  have h3 : (Cond.initialized y.cls).before a A.U = true := hinit _ _ X.warmed
  have h4 : A.cells + (headSpec ws rm).room.cells ≤ R.cells := by rw [show (headSpec ws rm).room.cells = mc from hrc]; exact hp.1
  have h5 : A.slots + (headSpec ws rm).room.slots ≤ R.slots := by rw [show (headSpec ws rm).room.slots = ms from hrs]; exact hp.2.1
  have hPc : Pc a (A.U.calling g mk a) := hblind _ _ _ _ hp.2.2
  obtain ⟨U, Ls, c0, s0⟩ := A
  dsimp only [Pt.U, Pt.locs, Pt.cells, Pt.slots] at h1 h2 h3 h4 h5 X hn hPc ⊢
  obtain ⟨methY, cY, hmY, hcY, -, hlY, -, -, -, -⟩ := Cond.code_spec hn h2
  obtain ⟨kY, hkY, -⟩ := className_of_methodNamed hn
  have hinitY : kY.init = .initialized := Cond.initialized_spec (findClass_of_methodNamed hn) hkY h3
  have h : At U g.method c below := by rw [hg]; exact X.here
  have hlocals9 : W9 + (maxL + 11) + (headSpec ws rm).room.locals ≤ R.locals := hlocals
  have happ : (headSpec ws rm).appliesLoose y e.platform (U.calling g mk a) = true :=
    Spec.appliesLoose_calling (g := g) h hdg hn hkY hinitY
      (X.room_calling (g := g) (R' := (headSpec ws rm).room) hsize hmY hcY hframes (by rw [hlY]; omega) h4 h5) h1
  obtain ⟨mid, hmid⟩ := h.above
  have hfr : (U.setTop g).frames = (.java g :: mid) ++ below := by rw [State.frames_setTop' g h.top, hmid]; rfl
  obtain ⟨o, s₂, hsteps, -, hend, hq⟩ := Steps.callFree hM p X.admits X.cas X.clock (acts := []) hfr happ hPc trivial
  have hq' : vx_Q Qc XC mc ms free a (U.calling g mk a) o s₂ := hq
  rw [State.frames_setTop' g h.top] at hend
  obtain ⟨g₀, hg0⟩ := Option.isSome_iff_exists.mp h.top
  obtain ⟨r, hr⟩ := State.topJava?_eq_some.mp hg0
  have hr' : (({ U with heap := s₂.heap, slotsUsed := s₂.slotsUsed } : State).setVm s₂.vm).frames = .java g₀ :: r := hr
  rcases hq' with ⟨hqc, L, hfe, hL⟩ | ⟨q, rfl, E, ce, L, hx, hce, hcv, hcl, hW₂, hsm, hL⟩
  · obtain ⟨⟨v, rfl⟩, hW₂, e2, q2, q3, q4, q5, q6⟩ := id hfe
    have e3 : s₂ = ({ (U.calling g mk a).setFrames s₂.frames with heap := s₂.heap, slotsUsed := s₂.slotsUsed } : State).setVm s₂.vm := by
      have : s₂ = ({ s₂ with vm := (U.calling g mk a).vm } : State).setVm s₂.vm := rfl
      rw [e2] at this
      exact this
    obtain ⟨c₂, i₂, len₂, hc₂, hd₂, hf₂⟩ := hend
    have hW' : U.WarmedH s₂.vm := hW₂
    have hcc : c₂ = c := by
      have h1 : s₂.code? g.method = U.code? g.method := by
        rw [State.code?_eq, State.code?_eq, hW'.alike.method?]
      exact Option.some.inj (hc₂.symm.trans (h1.trans h.code))
    subst hcc
    have hlen : len₂ = len := by rw [hdg] at hd₂; cases hd₂; rfl
    subst hlen
    have hs₂ : s₂ = (({ U with heap := s₂.heap, slotsUsed := s₂.slotsUsed } : State).setVm s₂.vm).setTop { g with pc := g.pc + len₂, stack := v.toList ++ g.stack } := by
      refine e3.trans ?_
      rw [hf₂, State.calling_eq h.top, State.setFrames_setFrames, State.setTop_of_frames _ hr', hr]
      rfl
    have hsame : U.sameButNew ({ U with heap := s₂.heap, slotsUsed := s₂.slotsUsed } : State) L mc ms := by
      refine ⟨?_, q2, q3, q4, q5, q6⟩
      obtain ⟨t, ht, -⟩ := State.frames_cons hr
      show ({ U with heap := s₂.heap, slotsUsed := s₂.slotsUsed } : State) = { U.setFrames U.frames with heap := s₂.heap, slotsUsed := s₂.slotsUsed }
      rw [State.setFrames_self ht]
    subst hg
    refine Or.inl ⟨v, ⟨(({ U with heap := s₂.heap, slotsUsed := s₂.slotsUsed } : State).setVm s₂.vm), Ls ++ L, c0 + mc, s0 + ms⟩,
      ⟨X.admits, X.cas, X.clock, X.frames, X.room, X.hears, X.method, X.code, (X.here.setHeapUsed s₂.heap s₂.slotsUsed).setVm hW'.alike, X.tail, State.WarmedH.trans X.warmed hW', X.limits, X.bytes, X.same.trans (hsame.setVm s.vm)⟩,
      ⟨g, mk, s₂, L, rfl, rfl, hqc, rfl, hL, rfl, rfl⟩, ?_⟩
    show Steps p.tables e below _ ((({ U with heap := s₂.heap, slotsUsed := s₂.slotsUsed } : State).setVm s₂.vm).setTop { g with pc := g.pc + len₂, stack := v.toList ++ g.stack })
    rw [← hs₂]
    exact hsteps
  · obtain ⟨e2, q2, q3, q4, q5, q6⟩ := id hsm
    have e3 : s₂ = ({ (U.calling g mk a).setFrames s₂.frames with heap := s₂.heap, slotsUsed := s₂.slotsUsed } : State).setVm s₂.vm := by
      have : s₂ = ({ s₂ with vm := (U.calling g mk a).vm } : State).setVm s₂.vm := rfl
      rw [e2] at this
      exact this
    have hf₂ : s₂.frames = .throwing q :: .java g :: U.frames.tail := hend
    have hW' : U.WarmedH s₂.vm := hW₂
    have hs₂ : s₂ = ((({ U with heap := s₂.heap, slotsUsed := s₂.slotsUsed } : State).setVm s₂.vm).setTop g).pushFrame (.throwing q) := by
      refine e3.trans ?_
      rw [hf₂, State.calling_eq h.top, State.setFrames_setFrames, State.pushFrame, State.frames_setTop _ hr', State.setTop_of_frames _ hr', State.setFrames_setFrames, hr]
      rfl
    have hsame : U.sameButNew ({ U with heap := s₂.heap, slotsUsed := s₂.slotsUsed } : State) L mc ms := by
      refine ⟨?_, q2, q3, q4, q5, q6⟩
      obtain ⟨t, ht, -⟩ := State.frames_cons hr
      show ({ U with heap := s₂.heap, slotsUsed := s₂.slotsUsed } : State) = { U.setFrames U.frames with heap := s₂.heap, slotsUsed := s₂.slotsUsed }
      rw [State.setFrames_self ht]
    subst hg
    refine Or.inr ⟨q, ⟨(({ U with heap := s₂.heap, slotsUsed := s₂.slotsUsed } : State).setVm s₂.vm), Ls ++ L, c0 + mc, s0 + ms⟩,
      ⟨X.admits, X.cas, X.clock, X.frames, X.room, X.hears, X.method, X.code, (X.here.setHeapUsed s₂.heap s₂.slotsUsed).setVm hW'.alike, X.tail, State.WarmedH.trans X.warmed hW', X.limits, X.bytes, X.same.trans (hsame.setVm s.vm)⟩,
      ⟨g, mk, s₂, L, E, ce, rfl, rfl, hx, hce, hcv, hcl, rfl, hL, rfl, rfl⟩, ?_⟩
    show Steps p.tables e below _ (((({ U with heap := s₂.heap, slotsUsed := s₂.slotsUsed } : State).setVm s₂.vm).setTop g).pushFrame (.throwing q))
    rw [← hs₂]
    exact hsteps
end Payer
section Calls
variable {p : Program} {l : Launch} {e : Env} {R : Room} {s : State} {m : MethodId} {args : Array Value} {below : List Frame} {meth : Method} {c : Code} {T : State} {locs : List Loc} {cells slots : Nat}
theorem vx_callV (X : Stand p l e R s m args below meth c T locs cells slots) (hexec : p.tables.exec = Jvm.exec) {own C : String} {index : Nat} {y : MethodName} {bytes : ByteArray} {maxL : Nat} {ret : Option FieldType}
    (hown : s.vm.findClass own = some m.cls) (hlink : (Cond.methodLink own index y).before args s = true) (hinst : (Cond.instanceMethod y).before args s = true) (hsel : (Cond.selects C y y).before args s = true)
    (hcode : (Cond.code y bytes maxL ret).before args s = true) (hy : y.cls ≠ "java/lang/invoke/MethodHandle" ∧ y.cls ≠ "java/lang/invoke/VarHandle")
    {W9 : Nat} {Pre : Pt → Array Value → Prop} {Post : Pt → Array Value → Option Value → Pt → Prop} {PostX : Pt → Array Value → Addr → Pt → Prop} (hK : vx_Back l R p e below s args y 3 W9 Pre Post PostX)
    {b : Addr} {cellB : Cell} (hcell : T.heap[b]? = some cellB) (hobj : cellB.vm.isStatics = false) (hcls : s.vm.findClass C = some cellB.cls)
    {g : JFrame} (hg : g.method = m) (hsize : g.locals.size = c.maxLocals) {argsL rest : List Value} (hlen : ∀ sig, parseMethodDescriptor y.desc = some sig → argsL.length = sig.parameters.length)
    (hstack : g.stack = argsL.reverse ++ .ref b :: rest) (hW : 2 * g.monitorRoom + (rest.map fun v => v.category).sum ≤ W9) (hdg : decode c.code g.pc = .ok (.invokevirtual index, 3))
    (hpre : ∀ vm₁, s.WarmedH vm₁ → Pre ⟨T.setVm vm₁, locs, cells, slots⟩ (Value.ref b :: argsL).toArray) :
    (∃ (v : Option Value) (vm₁ : Vm) (B : Pt), s.WarmedH vm₁ ∧ Stand p l e R s m args below meth c B.U B.locs B.cells B.slots ∧ Post ⟨T.setVm vm₁, locs, cells, slots⟩ (Value.ref b :: argsL).toArray v B ∧
      ∀ target, Steps p.tables e below (B.U.setTop { g with pc := g.pc + 3, stack := v.toList ++ rest }) target → Steps p.tables e below (T.setTop g) target) ∨
    (∃ (q : Addr) (vm₁ : Vm) (B : Pt), s.WarmedH vm₁ ∧ Stand p l e R s m args below meth c B.U B.locs B.cells B.slots ∧ PostX ⟨T.setVm vm₁, locs, cells, slots⟩ (Value.ref b :: argsL).toArray q B ∧
      Steps p.tables e below (T.setTop g) ((B.U.setTop { g with stack := rest }).pushFrame (.throwing q))) := by
  obtain ⟨mk, methM, hnamed, hmethM, hstM, habM⟩ := Cond.instanceMethod_spec hinst
  obtain ⟨methM', cM, hmethM', -, -, -, -, -, -, hsigM⟩ := Cond.code_spec hnamed hcode
  cases hmethM.symm.trans hmethM'
  obtain ⟨c2, r2, m2, q1, q2, q3, q4, kP, hkP, hkPi⟩ := Cond.selects_spec hsel
  cases hcls.symm.trans q1
  cases (State.methodFound?_of_named hnamed hy).symm.trans q2
  cases hnamed.symm.trans q3
  have hselP : selectMethod e.platform s.vm cellB.cls mk = .method mk := by rw [Launch.admits_selectMethod X.admits]; exact q4
  obtain ⟨vm₁, X₁, hstep₁⟩ := X.invokevirtual hexec hown hlink hnamed hmethM hstM hkP hkPi hy (a := b) (cell := cellB) hcell
    (fun z h => by rw [h] at hobj; cases hobj) hselP hmethM habM hkP hkPi (g := g) hg (argsL := argsL) (rest := rest) (hlen _ hsigM) hstack hdg
  rcases hK m meth c ⟨T.setVm vm₁, locs, cells, slots⟩ { g with stack := rest } (.invokevirtual index) mk (Value.ref b :: argsL).toArray X₁ hg hsize hdg hW (X₁.named hnamed) (hpre vm₁ X₁.warmed) with ⟨v, B, X', hpost, hsteps⟩ | ⟨q, B, X', hpost, hsteps⟩
  · exact Or.inl ⟨v, vm₁, B, X₁.warmed, X', hpost, fun target h => hstep₁ _ fun acts => by rw [doInvoke_state]; exact hsteps.trans h⟩
  · exact Or.inr ⟨q, vm₁, B, X₁.warmed, X', hpost, hstep₁ _ fun acts => by rw [doInvoke_state]; exact hsteps⟩
theorem vx_callS (X : Stand p l e R s m args below meth c T locs cells slots) (hexec : p.tables.exec = Jvm.exec) {own : String} {index : Nat} {y : MethodName} {bytes : ByteArray} {maxL : Nat} {ret : Option FieldType}
    (hown : s.vm.findClass own = some m.cls) (hlink : (Cond.methodLink own index y).before args s = true) (hstat : (Cond.static y).before args s = true) (hinit : (Cond.initialized y.cls).before args s = true)
    (hcode : (Cond.code y bytes maxL ret).before args s = true) (hy : y.cls ≠ "java/lang/invoke/MethodHandle" ∧ y.cls ≠ "java/lang/invoke/VarHandle")
    {W9 : Nat} {Pre : Pt → Array Value → Prop} {Post : Pt → Array Value → Option Value → Pt → Prop} {PostX : Pt → Array Value → Addr → Pt → Prop} (hK : vx_Back l R p e below s args y 3 W9 Pre Post PostX)
    {g : JFrame} (hg : g.method = m) (hsize : g.locals.size = c.maxLocals) {argsL rest : List Value} (hlen : ∀ sig, parseMethodDescriptor y.desc = some sig → argsL.length = sig.parameters.length)
    (hstack : g.stack = argsL.reverse ++ rest) (hW : 2 * g.monitorRoom + (rest.map fun v => v.category).sum ≤ W9) (hdg : decode c.code g.pc = .ok (.invokestatic index, 3))
    (hpre : ∀ vm₁, s.WarmedH vm₁ → Pre ⟨T.setVm vm₁, locs, cells, slots⟩ argsL.toArray) :
    (∃ (v : Option Value) (vm₁ : Vm) (B : Pt), s.WarmedH vm₁ ∧ Stand p l e R s m args below meth c B.U B.locs B.cells B.slots ∧ Post ⟨T.setVm vm₁, locs, cells, slots⟩ argsL.toArray v B ∧
      ∀ target, Steps p.tables e below (B.U.setTop { g with pc := g.pc + 3, stack := v.toList ++ rest }) target → Steps p.tables e below (T.setTop g) target) ∨
    (∃ (q : Addr) (vm₁ : Vm) (B : Pt), s.WarmedH vm₁ ∧ Stand p l e R s m args below meth c B.U B.locs B.cells B.slots ∧ PostX ⟨T.setVm vm₁, locs, cells, slots⟩ argsL.toArray q B ∧
      Steps p.tables e below (T.setTop g) ((B.U.setTop { g with stack := rest }).pushFrame (.throwing q))) := by
  obtain ⟨mk, hnamed⟩ := Cond.code_named hcode
  obtain ⟨methM, cM, hmethM, -, -, -, -, -, -, hsigM⟩ := Cond.code_spec hnamed hcode
  have hstatic : methM.isStatic = true := Cond.static_spec hnamed hmethM hstat
  obtain ⟨kP, hkP, -⟩ := className_of_methodNamed hnamed
  have hinitP : kP.init = .initialized := Cond.initialized_spec (findClass_of_methodNamed hnamed) hkP hinit
  obtain ⟨vm₁, X₁, hstep₁⟩ := X.invokestatic hexec hown hlink hnamed hmethM hstatic hkP hinitP hy (g := g) hg (argsL := argsL) (rest := rest) (hlen _ hsigM) hstack hdg
  rcases hK m meth c ⟨T.setVm vm₁, locs, cells, slots⟩ { g with stack := rest } (.invokestatic index) mk argsL.toArray X₁ hg hsize hdg hW (X₁.named hnamed) (hpre vm₁ X₁.warmed) with ⟨v, B, X', hpost, hsteps⟩ | ⟨q, B, X', hpost, hsteps⟩
  · exact Or.inl ⟨v, vm₁, B, X₁.warmed, X', hpost, fun target h => hstep₁ _ fun acts => by rw [doInvoke_state]; exact hsteps.trans h⟩
  · exact Or.inr ⟨q, vm₁, B, X₁.warmed, X', hpost, hstep₁ _ fun acts => by rw [doInvoke_state]; exact hsteps⟩
end Calls
theorem vx_cls {s : State} {T : State} {vm₁ : Vm} {E : String} {k : ClassId} (hW : s.WarmedH vm₁) (h : (T.setVm vm₁).vm.findClass E = some k) : s.vm.findClass E = some k := by
  have h1 : vm₁.findClass E = some k := h
  rw [hW.alike.findClass] at h1
  exact h1
/-- the method's frame g, with q thrown over it -/
def vx_W (p : Program) (l : Launch) (e : Env) (R : Room) (s : State) (m : MethodId) (args : Array Value) (below : List Frame) (meth : Method) (c : Code) (H : Heap) (locs : List Loc) (cells slots : Nat) (Q : State → Prop) (g : JFrame) (q : Addr) : Prop :=
  ∀ T : State, T.heap = H → Stand p l e R s m args below meth c T locs cells slots → ∃ t, Steps p.tables e below ((T.setTop g).pushFrame (.throwing q)) t ∧ Q t
def vx_Run (p : Program) (l : Launch) (e : Env) (R : Room) (s : State) (m : MethodId) (args : Array Value) (below : List Frame) (meth : Method) (c : Code) (H : Heap) (locs : List Loc) (cells slots mc ms : Nat) (g : JFrame) (rest : List Value) (Qa : State → Outcome → State → Prop) (XC : String → State → State → Prop) (free : Addr → Prop) : Prop :=
  ∀ T : State, T.heap = H → Stand p l e R s m args below meth c T locs cells slots →
    (∃ (v : Option Value) (st₀ t T' : State) (L : List Loc), st₀.heap = H ∧ Stand p l e R s m args below meth c T' (locs ++ L) (cells + mc) (slots + ms) ∧ (∀ q ∈ L, free q.base) ∧ T'.heap = t.heap ∧ T'.vm = t.vm ∧ Qa st₀ (.returned v) t ∧
      Goes p e below T g T' { g with pc := g.pc + 3, stack := v.toList ++ rest }) ∨
    (∃ (q : Addr) (st₀ t T' : State) (L : List Loc) (E : String) (ce : Cell), st₀.heap = H ∧ Stand p l e R s m args below meth c T' (locs ++ L) (cells + mc) (slots + ms) ∧ (∀ z ∈ L, free z.base) ∧ T'.heap = t.heap ∧ T'.vm = t.vm ∧ XC E st₀ t ∧ t.heap[q]? = some ce ∧ ce.vm = .none ∧ s.vm.findClass E = some ce.cls ∧
      Steps p.tables e below (T.setTop g) ((T'.setTop { g with stack := rest }).pushFrame (.throwing q)))
def vx_X {S : Type} (px : S → Prop) (B : String → S → State → Prop) (A : Nat → Prop) : String → State → State → Prop := fun E st t => ∃ u : S, px u ∧ B E u t ∧ va_F A st t
section Runs
variable {p : Program} {l : Launch} {e : Env} {R : Room} {s : State} {m : MethodId} {args : Array Value} {below : List Frame} {meth : Method} {c : Code} {H : Heap} {locs : List Loc} {cells slots : Nat}
variable {y : MethodName} {bytes cc : ByteArray} {maxL nL mc ms n index : Nat} {ret : Option FieldType} {ws : List Cond} {rm : Room} {Pc : Array Value → State → Prop} {Qc : Array Value → State → Outcome → State → Prop} {XC : String → State → State → Prop} {free : Addr → Prop} {Ts : List Cond} {own C : String} {b : Addr} {As rest : List Value} {g : JFrame}
theorem vx_callBack (cb : CallB R s args own index y bytes maxL ret ws rm mc ms n) (hM : vx_Met l y ws rm Pc Qc XC mc ms free) (hbl : FrameBlind Pc) : vx_Back l R p e below s args y 3 8 (PreOf R mc ms Pc) (PostOf Qc mc ms free) (vx_Post XC mc ms free) := by
  obtain ⟨hrc, hrs, hfr, hlo, hws, hcw, -, hini, -⟩ := cb
  exact vx_back (bytes := bytes) (maxL := maxL) (ret := ret) hM hbl hrc hrs hfr hlo hws hcw (fun a' U hW => word_at hW (Or.inl (by first | rfl | simp [Cond.onTables, Cond.keeps, Cond.steady])) hini)
theorem vx_runV (S : CallFix p m c cc nL s args Ts own) (hM : vx_Met l y ws rm Pc Qc XC mc ms free) (cw : CallW R s args own C index y bytes maxL ret ws rm mc ms n) (hp : PreV s H C b Pc As)
    (hg : g.method = m) (hn : As.length = n) (hsize : g.locals.size = nL) (hstack : g.stack = As.reverse ++ .ref b :: rest) (hW : 2 * g.monitorRoom + (rest.map fun v => v.category).sum ≤ 8) (hdg : decode cc g.pc = .ok (.invokevirtual index, 3)) (hf : cells + mc ≤ R.cells ∧ slots + ms ≤ R.slots) :
    vx_Run p l e R s m args below meth c H locs cells slots mc ms g rest (Qc (Value.ref b :: As).toArray) XC free := by
  have hK : vx_Back l R p e below s args y 3 8 (PreOf R mc ms Pc) (PostOf Qc mc ms free) (vx_Post XC mc ms free) := vx_callBack cw.1 hM hp.1
  obtain ⟨⟨-, -, -, -, -, -, hcode, -, hy, hlen, hl⟩, hin, hse⟩ := cw
  obtain ⟨hx, hb, hml, ho, -⟩ := S
  obtain ⟨-, ⟨cellB, hcB, hoB, hclB⟩, hPc⟩ := hp
  intro T hT X
  rcases vx_callV X hx (C := C) (bytes := bytes) (maxL := maxL) (ret := ret) ho hl hin hse hcode hy hK (by rw [hT]; exact hcB) hoB hclB hg (hsize.trans hml.symm) (argsL := As) (rest := rest) (fun sig h => hn.trans (hlen sig h)) hstack hW (by rw [hb]; exact hdg)
    (fun vm₁ hW₁ => ⟨hf.1, hf.2, hPc (T.setVm vm₁) hT hW₁⟩) with ⟨v, vm₁, ⟨U', l2, c2, s2⟩, hW₁, X', ⟨g', mk, t, L, e1, e2, hq, h1, hL, h2, h3⟩, st⟩ | ⟨q, vm₁, ⟨U', l2, c2, s2⟩, hW₁, X', ⟨g', mk, t, L, E, ce, e1, e2, hq, hce, hcv, hcl, h1, hL, h2, h3⟩, st⟩
  · dsimp only [Pt.U, Pt.locs, Pt.cells, Pt.slots] at X' e1 e2 h1 h2 h3 st
    subst h1; subst h2; subst h3
    exact Or.inl ⟨v, (T.setVm vm₁).calling g' mk (Value.ref b :: As).toArray, t, U', L, hT, X', hL, e1, e2, hq, st⟩
  · dsimp only [Pt.U, Pt.locs, Pt.cells, Pt.slots] at X' e1 e2 h1 h2 h3 st hcl
    subst h1; subst h2; subst h3
    exact Or.inr ⟨q, (T.setVm vm₁).calling g' mk (Value.ref b :: As).toArray, t, U', L, E, ce, hT, X', hL, e1, e2, hq, hce, hcv, vx_cls hW₁ hcl, st⟩
theorem vx_runS (S : CallFix p m c cc nL s args Ts own) (hM : vx_Met l y ws rm Pc Qc XC mc ms free) (cw : CallB R s args own index y bytes maxL ret ws rm mc ms n ∧ (Cond.static y).before args s = true) (hp : PreS s H Pc As)
    (hg : g.method = m) (hn : As.length = n) (hsize : g.locals.size = nL) (hstack : g.stack = As.reverse ++ rest) (hW : 2 * g.monitorRoom + (rest.map fun v => v.category).sum ≤ 8) (hdg : decode cc g.pc = .ok (.invokestatic index, 3)) (hf : cells + mc ≤ R.cells ∧ slots + ms ≤ R.slots) :
    vx_Run p l e R s m args below meth c H locs cells slots mc ms g rest (Qc As.toArray) XC free := by
  have hK : vx_Back l R p e below s args y 3 8 (PreOf R mc ms Pc) (PostOf Qc mc ms free) (vx_Post XC mc ms free) := vx_callBack cw.1 hM hp.1
  obtain ⟨⟨-, -, -, -, -, -, hcode, hini, hy, hlen, hl⟩, hstt⟩ := cw
  obtain ⟨hx, hb, hml, ho, -⟩ := S
  intro T hT X
  rcases vx_callS X hx (bytes := bytes) (maxL := maxL) (ret := ret) ho hl hstt hini hcode hy hK hg (hsize.trans hml.symm) (argsL := As) (rest := rest) (fun sig h => hn.trans (hlen sig h)) hstack hW (by rw [hb]; exact hdg)
    (fun vm₁ hW₁ => ⟨hf.1, hf.2, hp.2 (T.setVm vm₁) hT hW₁⟩) with ⟨v, vm₁, ⟨U', l2, c2, s2⟩, hW₁, X', ⟨g', mk, t, L, e1, e2, hq, h1, hL, h2, h3⟩, st⟩ | ⟨q, vm₁, ⟨U', l2, c2, s2⟩, hW₁, X', ⟨g', mk, t, L, E, ce, e1, e2, hq, hce, hcv, hcl, h1, hL, h2, h3⟩, st⟩
  · dsimp only [Pt.U, Pt.locs, Pt.cells, Pt.slots] at X' e1 e2 h1 h2 h3 st
    subst h1; subst h2; subst h3
    exact Or.inl ⟨v, (T.setVm vm₁).calling g' mk As.toArray, t, U', L, hT, X', hL, e1, e2, hq, st⟩
  · dsimp only [Pt.U, Pt.locs, Pt.cells, Pt.slots] at X' e1 e2 h1 h2 h3 st hcl
    subst h1; subst h2; subst h3
    exact Or.inr ⟨q, (T.setVm vm₁).calling g' mk As.toArray, t, U', L, E, ce, hT, X', hL, e1, e2, hq, hce, hcv, vx_cls hW₁ hcl, st⟩
end Runs
section Rows
variable {p : Program} {l : Launch} {e : Env} {R : Room} {s : State} {m : MethodId} {args : Array Value} {below : List Frame} {meth : Method} {c : Code} {H : Heap} {locs : List Loc} {cells slots : Nat} {Q : State → Prop}
variable {mc ms : Nat} {free : Addr → Prop} {A0 A1 : Nat → Prop} {H0 : Heap} {a : Array Value} {pc : Nat} {ls : Array Slot} {st0 rest : List Value}
theorem vx_keep {st₀ t T' : State} {L : List Loc} (h0 : st₀.heap = H) (e1 : T'.heap = t.heap) (hS : va_S A0 H0 H locs) (hA : ∀ q, q < H.size → A1 q → A0 q) (hf : ∀ q, free q → A0 q) (hL : ∀ q ∈ L, free q.base) (hF : va_F A1 st₀ t) :
    H.size ≤ T'.heap.size ∧ (∀ q : Nat, q < H.size → ¬ A1 q → T'.heap[q]? = H[q]?) ∧ va_S A0 H0 T'.heap (locs ++ L) := by
  obtain ⟨hz, hk⟩ := hF
  rw [h0] at hz hk
  exact ⟨by rw [e1]; exact hz, fun q h1 h2 => by rw [e1]; exact hk q h1 h2,
    ⟨Nat.le_trans hS.1 (by rw [e1]; exact hz), fun q h1 h2 => by rw [e1, hk q (Nat.lt_of_lt_of_le h1 hS.1) (fun z => h2 (hA q (Nat.lt_of_lt_of_le h1 hS.1) z))]; exact hS.2.1 q h1 h2, fun q hq => by
      rcases List.mem_append.mp hq with h | h
      · exact hS.2.2 q h
      · exact hf _ (hL q h)⟩⟩
theorem vx_calli {S SX : Type} {post : Int32 → S → Prop} {px : SX → Prop} {B : S → State → Prop} {BX : String → SX → State → Prop} {AX : Nat → Prop} (hr : vx_Run p l e R s m args below meth c H locs cells slots mc ms (F0 m pc ls st0) rest (va_Qi post B A1 a) (vx_X px BX AX) free) (hS : va_S A0 H0 H locs) (hA : ∀ q, q < H.size → A1 q → A0 q) (hf : ∀ q, free q → A0 q) (hAX : ∀ q, q < H.size → AX q → A0 q)
    (kx : ∀ (E : String) (ce : Cell) (q9 : Addr) (u : SX) (t : State) (H1 : Heap) (locs1 : List Loc), t.heap = H1 → s.vm.Alike t.vm → px u → BX E u t → H.size ≤ H1.size → (∀ q : Nat, q < H.size → ¬ AX q → H1[q]? = H[q]?) → va_S A0 H0 H1 locs1 → H1[q9]? = some ce → ce.vm = .none → s.vm.findClass E = some ce.cls → vx_W p l e R s m args below meth c H1 locs1 (cells + mc) (slots + ms) Q (F0 m pc ls rest) q9)
    (kk : ∀ (r : Int32) (u : S) (t : State) (H1 : Heap) (locs1 : List Loc), t.heap = H1 → s.vm.Alike t.vm → post r u → B u t → H.size ≤ H1.size → (∀ q : Nat, q < H.size → ¬ A1 q → H1[q]? = H[q]?) → va_S A0 H0 H1 locs1 → W p l e R s m args below meth c H1 locs1 (cells + mc) (slots + ms) Q (F0 m (pc + 3) ls (.int r :: rest))) : W p l e R s m args below meth c H locs cells slots Q (F0 m pc ls st0) := by
  intro T hT X
  rcases hr T hT X with ⟨v, st₀, t, T', L, h0, X', hL, e1, e2, ⟨⟨r, u, hv, hp, hb⟩, hF⟩, st⟩ | ⟨q, st₀, t, T', L, E, ce, h0, X', hL, e1, e2, ⟨u, hp, hb, hF⟩, hce, hcv, hcl, st⟩
  · cases hv
    obtain ⟨k1, k2, k3⟩ := vx_keep h0 e1 hS hA hf hL hF
    obtain ⟨t2, a1, b1⟩ := kk r u t T'.heap (locs ++ L) e1.symm (by rw [← e2]; exact X'.warmed.alike) hp hb k1 k2 k3 T' rfl X'
    exact ⟨t2, st t2 a1, b1⟩
  · obtain ⟨k1, k2, k3⟩ := vx_keep h0 e1 hS hAX hf hL hF
    obtain ⟨t2, a1, b1⟩ := kx E ce q u t T'.heap (locs ++ L) e1.symm (by rw [← e2]; exact X'.warmed.alike) hp hb k1 k2 k3 (by rw [e1]; exact hce) hcv hcl T' rfl X'
    exact ⟨t2, st.trans a1, b1⟩
theorem vx_calll {S SX : Type} {post : Int64 → S → Prop} {px : SX → Prop} {B : S → State → Prop} {BX : String → SX → State → Prop} {AX : Nat → Prop} (hr : vx_Run p l e R s m args below meth c H locs cells slots mc ms (F0 m pc ls st0) rest (va_Ql post B A1 a) (vx_X px BX AX) free) (hS : va_S A0 H0 H locs) (hA : ∀ q, q < H.size → A1 q → A0 q) (hf : ∀ q, free q → A0 q) (hAX : ∀ q, q < H.size → AX q → A0 q)
    (kx : ∀ (E : String) (ce : Cell) (q9 : Addr) (u : SX) (t : State) (H1 : Heap) (locs1 : List Loc), t.heap = H1 → s.vm.Alike t.vm → px u → BX E u t → H.size ≤ H1.size → (∀ q : Nat, q < H.size → ¬ AX q → H1[q]? = H[q]?) → va_S A0 H0 H1 locs1 → H1[q9]? = some ce → ce.vm = .none → s.vm.findClass E = some ce.cls → vx_W p l e R s m args below meth c H1 locs1 (cells + mc) (slots + ms) Q (F0 m pc ls rest) q9)
    (kk : ∀ (r : Int64) (u : S) (t : State) (H1 : Heap) (locs1 : List Loc), t.heap = H1 → s.vm.Alike t.vm → post r u → B u t → H.size ≤ H1.size → (∀ q : Nat, q < H.size → ¬ A1 q → H1[q]? = H[q]?) → va_S A0 H0 H1 locs1 → W p l e R s m args below meth c H1 locs1 (cells + mc) (slots + ms) Q (F0 m (pc + 3) ls (.long r :: rest))) : W p l e R s m args below meth c H locs cells slots Q (F0 m pc ls st0) := by
  intro T hT X
  rcases hr T hT X with ⟨v, st₀, t, T', L, h0, X', hL, e1, e2, ⟨⟨r, u, hv, hp, hb⟩, hF⟩, st⟩ | ⟨q, st₀, t, T', L, E, ce, h0, X', hL, e1, e2, ⟨u, hp, hb, hF⟩, hce, hcv, hcl, st⟩
  · cases hv
    obtain ⟨k1, k2, k3⟩ := vx_keep h0 e1 hS hA hf hL hF
    obtain ⟨t2, a1, b1⟩ := kk r u t T'.heap (locs ++ L) e1.symm (by rw [← e2]; exact X'.warmed.alike) hp hb k1 k2 k3 T' rfl X'
    exact ⟨t2, st t2 a1, b1⟩
  · obtain ⟨k1, k2, k3⟩ := vx_keep h0 e1 hS hAX hf hL hF
    obtain ⟨t2, a1, b1⟩ := kx E ce q u t T'.heap (locs ++ L) e1.symm (by rw [← e2]; exact X'.warmed.alike) hp hb k1 k2 k3 (by rw [e1]; exact hce) hcv hcl T' rfl X'
    exact ⟨t2, st.trans a1, b1⟩
theorem vx_callf {S SX : Type} {post : UInt32 → S → Prop} {px : SX → Prop} {B : S → State → Prop} {BX : String → SX → State → Prop} {AX : Nat → Prop} (hr : vx_Run p l e R s m args below meth c H locs cells slots mc ms (F0 m pc ls st0) rest (va_Qf post B A1 a) (vx_X px BX AX) free) (hS : va_S A0 H0 H locs) (hA : ∀ q, q < H.size → A1 q → A0 q) (hf : ∀ q, free q → A0 q) (hAX : ∀ q, q < H.size → AX q → A0 q)
    (kx : ∀ (E : String) (ce : Cell) (q9 : Addr) (u : SX) (t : State) (H1 : Heap) (locs1 : List Loc), t.heap = H1 → s.vm.Alike t.vm → px u → BX E u t → H.size ≤ H1.size → (∀ q : Nat, q < H.size → ¬ AX q → H1[q]? = H[q]?) → va_S A0 H0 H1 locs1 → H1[q9]? = some ce → ce.vm = .none → s.vm.findClass E = some ce.cls → vx_W p l e R s m args below meth c H1 locs1 (cells + mc) (slots + ms) Q (F0 m pc ls rest) q9)
    (kk : ∀ (r : UInt32) (u : S) (t : State) (H1 : Heap) (locs1 : List Loc), t.heap = H1 → s.vm.Alike t.vm → post r u → B u t → H.size ≤ H1.size → (∀ q : Nat, q < H.size → ¬ A1 q → H1[q]? = H[q]?) → va_S A0 H0 H1 locs1 → W p l e R s m args below meth c H1 locs1 (cells + mc) (slots + ms) Q (F0 m (pc + 3) ls (.float r :: rest))) : W p l e R s m args below meth c H locs cells slots Q (F0 m pc ls st0) := by
  intro T hT X
  rcases hr T hT X with ⟨v, st₀, t, T', L, h0, X', hL, e1, e2, ⟨⟨r, u, hv, hp, hb⟩, hF⟩, st⟩ | ⟨q, st₀, t, T', L, E, ce, h0, X', hL, e1, e2, ⟨u, hp, hb, hF⟩, hce, hcv, hcl, st⟩
  · cases hv
    obtain ⟨k1, k2, k3⟩ := vx_keep h0 e1 hS hA hf hL hF
    obtain ⟨t2, a1, b1⟩ := kk r u t T'.heap (locs ++ L) e1.symm (by rw [← e2]; exact X'.warmed.alike) hp hb k1 k2 k3 T' rfl X'
    exact ⟨t2, st t2 a1, b1⟩
  · obtain ⟨k1, k2, k3⟩ := vx_keep h0 e1 hS hAX hf hL hF
    obtain ⟨t2, a1, b1⟩ := kx E ce q u t T'.heap (locs ++ L) e1.symm (by rw [← e2]; exact X'.warmed.alike) hp hb k1 k2 k3 (by rw [e1]; exact hce) hcv hcl T' rfl X'
    exact ⟨t2, st.trans a1, b1⟩
theorem vx_calld {S SX : Type} {post : UInt64 → S → Prop} {px : SX → Prop} {B : S → State → Prop} {BX : String → SX → State → Prop} {AX : Nat → Prop} (hr : vx_Run p l e R s m args below meth c H locs cells slots mc ms (F0 m pc ls st0) rest (va_Qd post B A1 a) (vx_X px BX AX) free) (hS : va_S A0 H0 H locs) (hA : ∀ q, q < H.size → A1 q → A0 q) (hf : ∀ q, free q → A0 q) (hAX : ∀ q, q < H.size → AX q → A0 q)
    (kx : ∀ (E : String) (ce : Cell) (q9 : Addr) (u : SX) (t : State) (H1 : Heap) (locs1 : List Loc), t.heap = H1 → s.vm.Alike t.vm → px u → BX E u t → H.size ≤ H1.size → (∀ q : Nat, q < H.size → ¬ AX q → H1[q]? = H[q]?) → va_S A0 H0 H1 locs1 → H1[q9]? = some ce → ce.vm = .none → s.vm.findClass E = some ce.cls → vx_W p l e R s m args below meth c H1 locs1 (cells + mc) (slots + ms) Q (F0 m pc ls rest) q9)
    (kk : ∀ (r : UInt64) (u : S) (t : State) (H1 : Heap) (locs1 : List Loc), t.heap = H1 → s.vm.Alike t.vm → post r u → B u t → H.size ≤ H1.size → (∀ q : Nat, q < H.size → ¬ A1 q → H1[q]? = H[q]?) → va_S A0 H0 H1 locs1 → W p l e R s m args below meth c H1 locs1 (cells + mc) (slots + ms) Q (F0 m (pc + 3) ls (.double r :: rest))) : W p l e R s m args below meth c H locs cells slots Q (F0 m pc ls st0) := by
  intro T hT X
  rcases hr T hT X with ⟨v, st₀, t, T', L, h0, X', hL, e1, e2, ⟨⟨r, u, hv, hp, hb⟩, hF⟩, st⟩ | ⟨q, st₀, t, T', L, E, ce, h0, X', hL, e1, e2, ⟨u, hp, hb, hF⟩, hce, hcv, hcl, st⟩
  · cases hv
    obtain ⟨k1, k2, k3⟩ := vx_keep h0 e1 hS hA hf hL hF
    obtain ⟨t2, a1, b1⟩ := kk r u t T'.heap (locs ++ L) e1.symm (by rw [← e2]; exact X'.warmed.alike) hp hb k1 k2 k3 T' rfl X'
    exact ⟨t2, st t2 a1, b1⟩
  · obtain ⟨k1, k2, k3⟩ := vx_keep h0 e1 hS hAX hf hL hF
    obtain ⟨t2, a1, b1⟩ := kx E ce q u t T'.heap (locs ++ L) e1.symm (by rw [← e2]; exact X'.warmed.alike) hp hb k1 k2 k3 (by rw [e1]; exact hce) hcv hcl T' rfl X'
    exact ⟨t2, st.trans a1, b1⟩
theorem vx_callv {S SX : Type} {post : S → Prop} {px : SX → Prop} {B : S → State → Prop} {BX : String → SX → State → Prop} {AX : Nat → Prop} (hr : vx_Run p l e R s m args below meth c H locs cells slots mc ms (F0 m pc ls st0) rest (va_Qv post B A1 a) (vx_X px BX AX) free) (hS : va_S A0 H0 H locs) (hA : ∀ q, q < H.size → A1 q → A0 q) (hf : ∀ q, free q → A0 q) (hAX : ∀ q, q < H.size → AX q → A0 q)
    (kx : ∀ (E : String) (ce : Cell) (q9 : Addr) (u : SX) (t : State) (H1 : Heap) (locs1 : List Loc), t.heap = H1 → s.vm.Alike t.vm → px u → BX E u t → H.size ≤ H1.size → (∀ q : Nat, q < H.size → ¬ AX q → H1[q]? = H[q]?) → va_S A0 H0 H1 locs1 → H1[q9]? = some ce → ce.vm = .none → s.vm.findClass E = some ce.cls → vx_W p l e R s m args below meth c H1 locs1 (cells + mc) (slots + ms) Q (F0 m pc ls rest) q9)
    (kk : ∀ (u : S) (t : State) (H1 : Heap) (locs1 : List Loc), t.heap = H1 → s.vm.Alike t.vm → post u → B u t → H.size ≤ H1.size → (∀ q : Nat, q < H.size → ¬ A1 q → H1[q]? = H[q]?) → va_S A0 H0 H1 locs1 → W p l e R s m args below meth c H1 locs1 (cells + mc) (slots + ms) Q (F0 m (pc + 3) ls (rest))) : W p l e R s m args below meth c H locs cells slots Q (F0 m pc ls st0) := by
  intro T hT X
  rcases hr T hT X with ⟨v, st₀, t, T', L, h0, X', hL, e1, e2, ⟨⟨u, hv, hp, hb⟩, hF⟩, st⟩ | ⟨q, st₀, t, T', L, E, ce, h0, X', hL, e1, e2, ⟨u, hp, hb, hF⟩, hce, hcv, hcl, st⟩
  · cases hv
    obtain ⟨k1, k2, k3⟩ := vx_keep h0 e1 hS hA hf hL hF
    obtain ⟨t2, a1, b1⟩ := kk u t T'.heap (locs ++ L) e1.symm (by rw [← e2]; exact X'.warmed.alike) hp hb k1 k2 k3 T' rfl X'
    exact ⟨t2, st t2 a1, b1⟩
  · obtain ⟨k1, k2, k3⟩ := vx_keep h0 e1 hS hAX hf hL hF
    obtain ⟨t2, a1, b1⟩ := kx E ce q u t T'.heap (locs ++ L) e1.symm (by rw [← e2]; exact X'.warmed.alike) hp hb k1 k2 k3 (by rw [e1]; exact hce) hcv hcl T' rfl X'
    exact ⟨t2, st.trans a1, b1⟩
/-- caught by the row x of this method's table; the rows ahead don't take it -/
theorem vx_catch {own name : String} {E : String} {ce : Cell} {q : Addr} (hown : s.vm.findClass own = some m.cls) (pre : List ExceptionTableEntry) (x : ExceptionTableEntry) (suf : List ExceptionTableEntry) (hsplit : c.exceptionTable.toList = pre ++ x :: suf)
    (hpass : ∀ z ∈ pre, covers z pc = false ∨ (z.catchType ≠ 0 ∧ ∃ nm : String, (Cond.classLink own z.catchType nm).before args s = true ∧ va_Nc E nm s)) (hx : covers x pc = true) (h0 : x.catchType ≠ 0)
    (hlink : (Cond.classLink own x.catchType name).before args s = true) (hcast : (Cond.castable E name).before args s = true) (hcell : H[q]? = some ce) (hv : ce.vm = .none) (hcl : s.vm.findClass E = some ce.cls)
    (kk : W p l e R s m args below meth c H locs cells slots Q (F0 m x.handlerPc ls [.ref q])) : vx_W p l e R s m args below meth c H locs cells slots Q (F0 m pc ls rest) q := by
  intro T hT X
  have hpl : e.platform.magicAccessors = ({} : Platform).magicAccessors := by rw [X.admits.platform]
  obtain ⟨c3, c4, hc3, hc4, hasg⟩ := Cond.castable_spec hcast
  cases Option.some.inj (hc3.symm.trans hcl)
  obtain ⟨c5, hc5, hcl5⟩ := Cond.classLink_spec hown hlink e.platform hpl
  cases Option.some.inj (hc4.symm.trans hc5)
  obtain ⟨vm', X', st⟩ := X.thenCaughtThrough q (g := F0 m pc ls rest) rfl (Steps.refl _) (by rw [hT]; exact hcell) (by rw [hv]; rfl) (by obtain ⟨k9, h9, -⟩ := Vm.findClass_spec hcl; exact ⟨k9, h9⟩) pre x suf hsplit
    (fun z hz => by
      rcases hpass z hz with h | ⟨hz0, nm, hl1, hn1⟩
      · exact Or.inl h
      · obtain ⟨c6, hc6, hcl6⟩ := Cond.classLink_spec hown hl1 e.platform hpl
        obtain ⟨a8, b8, h1, h2, h3⟩ := hn1
        cases Option.some.inj (h1.symm.trans hcl)
        cases Option.some.inj (h2.symm.trans hc6)
        exact Or.inr ⟨hz0, _, hcl6, h3⟩) hx (Or.inr ⟨h0, c4, hcl5, hasg⟩)
  obtain ⟨t, a1, b1⟩ := kk (T.setVm vm') hT X'
  exact ⟨t, st.trans a1, b1⟩
end Rows
section Ends
variable {p : Program} {l : Launch} {e : Env} {R : Room} {s : State} {m : MethodId} {args : Array Value} {below : List Frame} {meth : Method} {c : Code} {H : Heap} {locs : List Loc} {cells slots : Nat} {Q : State → Prop}
variable {mc ms : Nat} {free : Addr → Prop} {A0 A1 : Nat → Prop} {H0 : Heap} {a : Array Value} {ls : Array Slot} {st0 rest : List Value}
variable {Qc : Array Value → State → Outcome → State → Prop} {XC : String → State → State → Prop}
/-- what a body that may throw owes at its end -/
def vx_MQ (below : List Frame) (Qc : Array Value → State → Outcome → State → Prop) (XC : String → State → State → Prop) (a : Array Value) (s : State) (mc ms : Nat) (free : Addr → Prop) : State → Prop := fun t =>
  ∃ o, t.status = .running ∧ Ended t below o ∧ vx_Q Qc XC mc ms free a s o t
theorem vx_ret {g : JFrame} {mc ms : Nat} (k : W p l e R s m args below meth c H locs cells slots (MQ below Qc args s mc ms free) g) : W p l e R s m args below meth c H locs cells slots (vx_MQ below Qc XC args s mc ms free) g := by
  intro T hT X
  obtain ⟨t, a1, o, b1, b2, b3, b4⟩ := k T hT X
  exact ⟨t, a1, o, b1, b2, Or.inl ⟨b3, b4⟩⟩
/-- not caught here: it goes on to the caller -/
theorem vx_widen {g : JFrame} {q : Addr} {k n : Nat} (h1 : cells ≤ k) (h2 : slots ≤ n) (kk : vx_W p l e R s m args below meth c H locs k n Q g q) : vx_W p l e R s m args below meth c H locs cells slots Q g q := fun T hT X => kk T hT (stand_widen X h1 h2)
theorem vx_out {pc : Nat} {E : String} {ce : Cell} {q : Addr} {mc ms : Nat} (hout : ∀ x ∈ c.exceptionTable.toList, covers x pc = false) (hlocks : meth.locks = false) (hcell : H[q]? = some ce) (hv : ce.vm = .none) (hcl : s.vm.findClass E = some ce.cls)
    (hx : ∀ t : State, t.heap = H → s.vm.Alike t.vm → XC E s t) (hf : ∀ z ∈ locs, free z.base) (hc : cells ≤ mc) (hs : slots ≤ ms) :
    vx_W p l e R s m args below meth c H locs cells slots (vx_MQ below Qc XC args s mc ms free) (F0 m pc ls rest) q := by
  intro T hT X
  obtain ⟨st1, hrun, hend, hW, hsm⟩ := X.leaveThrown q (g := F0 m pc ls rest) rfl rfl rfl hout hlocks
  have hcell9 : (T.setFrames (.throwing q :: below)).heap[q]? = some ce := by
    show T.heap[q]? = some ce
    rw [hT]; exact hcell
  exact ⟨_, st1, .threw q, hrun, hend, Or.inr ⟨q, rfl, E, ce, locs, hx _ hT hW.alike, hcell9, hv, hcl, hW, hsm.mono hc hs, hf⟩⟩
theorem vx_frame {U : State} {k n : Nat} (h : s.sameButNew ({ U with vm := s.vm } : State) locs k n) : s.heap.size ≤ U.heap.size ∧ ∀ q : Nat, q < s.heap.size → (∀ z ∈ locs, z.base ≠ q) → U.heap[q]? = s.heap[q]? := by
  obtain ⟨-, h2, -, -, -, h6⟩ := h
  refine ⟨h2, fun q hq hz => ?_⟩
  obtain ⟨c9, e1, e2, e3, e4⟩ := h6 q _ (Array.getElem?_eq_getElem hq)
  have hs : c9.slots = (s.heap[q]).slots := Array.ext_getElem? fun i => e4 i fun hm => hz _ hm rfl
  have h9 : c9 = s.heap[q] := by
    rw [hs] at e2
    exact e2
  have e5 : U.heap[q]? = some c9 := e1
  rw [e5, h9, Array.getElem?_eq_getElem hq]
/-- the words of a throw but the four that speak of the heap -/
def vx_no (w : Cond) : Bool := decide (w ≠ .isRef (.static Bundle.tN "UNASSIGNED_STACK" Bundle.steD)) && decide (w ≠ .isRef (.static Bundle.tN "SUPPRESSED_SENTINEL" Bundle.listD)) && decide (w ≠ .laysStatic Bundle.tN "UNASSIGNED_STACK" Bundle.steD) && decide (w ≠ .laysStatic Bundle.tN "SUPPRESSED_SENTINEL" Bundle.listD)
def vx_at0 (own : String) (ic : Nat) (X : String) (names : List String) : List Cond := (Bundle.ownAtoms0 own ic X names).filter vx_no
def vx_atS (own : String) (ic : Nat) (X : String) (names : List String) : List Cond := (Bundle.ownAtoms own ic X names).filter vx_no
/-- a word that the tables alone decide, or a good one -/
def vx_ot (w : Cond) : Bool := w.onTables || goodWord w
theorem vx_ot_at {args a' : Array Value} {s U : State} {w : Cond} (hW : s.WarmedH U.vm) (hvm : s.vm = U.vm) (hg : vx_ot w = true) (h : w.before args s = true) : w.before a' U = true := by
  simp only [vx_ot, Bool.or_eq_true] at hg
  rcases hg with hg | hg
  · exact va_tabs hg hvm h
  · exact word_at hW (good_of_word hg) h
/-- a list's words: the good ones out of the method's own list, the others by premises of their own -/
theorem vx_hat {args : Array Value} {s : State} {L B : List Cond} (h1 : ∀ w ∈ L.filter goodWord, w.before args s = true) (h2 : ∀ w ∈ L.filter (fun w => !goodWord w), w ∈ B) (h3 : ∀ w ∈ B, w.before args s = true) : ∀ w ∈ L, w.before args s = true := by
  intro w hw
  by_cases g : goodWord w = true
  · exact h1 w (List.mem_filter.mpr ⟨hw, g⟩)
  · refine h3 w (h2 w (List.mem_filter.mpr ⟨hw, ?_⟩))
    show (!goodWord w) = true
    cases hgw : goodWord w
    · rfl
    · exact absurd hgw g
theorem vx_c {args : Array Value} {s : State} {w : Cond} {B : List Cond} (h : w.before args s = true) (t : ∀ w ∈ B, w.before args s = true) : ∀ w' ∈ w :: B, w'.before args s = true := fun w' h' => (List.mem_cons.mp h').elim (fun e => by rw [e]; exact h) (t w')
theorem vx_n {args : Array Value} {s : State} : ∀ w ∈ ([] : List Cond), w.before args s = true := fun _ h => nomatch h
theorem vx_own {args : Array Value} {s : State} {L : List Cond} (h1 : ∀ w ∈ L.filter vx_no, w.before args s = true)
    (hU : (Cond.isRef (.static Bundle.tN "UNASSIGNED_STACK" Bundle.steD)).before args s = true) (hN : (Cond.isRef (.static Bundle.tN "SUPPRESSED_SENTINEL" Bundle.listD)).before args s = true)
    (lU : (Cond.laysStatic Bundle.tN "UNASSIGNED_STACK" Bundle.steD).before args s = true) (lN : (Cond.laysStatic Bundle.tN "SUPPRESSED_SENTINEL" Bundle.listD).before args s = true) : ∀ w ∈ L, w.before args s = true := by
  intro w hw
  by_cases e1 : w = .isRef (.static Bundle.tN "UNASSIGNED_STACK" Bundle.steD)
  · rw [e1]; exact hU
  · by_cases e2 : w = .isRef (.static Bundle.tN "SUPPRESSED_SENTINEL" Bundle.listD)
    · rw [e2]; exact hN
    · by_cases e3 : w = .laysStatic Bundle.tN "UNASSIGNED_STACK" Bundle.steD
      · rw [e3]; exact lU
      · by_cases e4 : w = .laysStatic Bundle.tN "SUPPRESSED_SENTINEL" Bundle.listD
        · rw [e4]; exact lN
        · exact h1 w (List.mem_filter.mpr ⟨hw, by unfold vx_no; rw [decide_eq_true e1, decide_eq_true e2, decide_eq_true e3, decide_eq_true e4]; rfl⟩)
/-- where a static field lies, its class's statics cell in H -/
def vx_L (C n d : String) (A : Nat → Prop) (U : State) (H : Heap) : Prop := ∃ (c : ClassId) (k : Class) (i : Nat) (f : Field) (a : Nat) (cell : Cell), U.vm.findClass C = some c ∧ U.fieldFound? C n d = some (c, k, i, f) ∧ f.isStatic = true ∧ k.statics = some a ∧ H[a]? = some cell ∧ cell.vm.isStatics = true ∧ cell.cls = c ∧ f.slot < cell.slots.size ∧ k.staticTypes[f.slot]? = some f.type ∧ ¬ A a
theorem vx_L.moved {C n d : String} {A : Nat → Prop} {u U : State} {H : Heap} (hvm : u.vm.Alike U.vm) (h : vx_L C n d A u H) : vx_L C n d A U H := by
  obtain ⟨c, k, i, f, a, cell, h1, h2, h3, h4, h5, h6, h7, h8, h9, h10⟩ := h
  obtain ⟨k', hi', he⟩ := State.fieldFound?_setVm hvm h2
  exact ⟨c, k', i, f, a, cell, by rw [hvm.findClass]; exact h1, hi', h3, by rw [he]; exact h4, h5, h6, h7, h8, by rw [he]; exact h9, h10⟩
theorem vx_L.kept {C n d : String} {A : Nat → Prop} {U : State} {H H1 : Heap} (h : vx_L C n d A U H) (hq : ∀ a : Nat, a < H.size → ¬ A a → H1[a]? = H[a]?) : vx_L C n d A U H1 := by
  obtain ⟨c, k, i, f, a, cell, h1, h2, h3, h4, h5, h6, h7, h8, h9, h10⟩ := h
  exact ⟨c, k, i, f, a, cell, h1, h2, h3, h4, by rw [hq a (Array.getElem?_eq_some_iff.mp h5).1 h10]; exact h5, h6, h7, h8, h9, h10⟩
theorem vx_L.narrow {C n d : String} {A B : Nat → Prop} {U : State} {H : Heap} (h : vx_L C n d A U H) (hAB : ∀ q, B q → A q) : vx_L C n d B U H := by
  obtain ⟨c, k, i, f, a, cell, h1, h2, h3, h4, h5, h6, h7, h8, h9, h10⟩ := h
  exact ⟨c, k, i, f, a, cell, h1, h2, h3, h4, h5, h6, h7, h8, h9, fun z => h10 (hAB _ z)⟩
theorem vx_L.word {C n d : String} {A : Nat → Prop} {s : State} {args : Array Value} (h : vx_L C n d A s s.heap) : (Cond.laysStatic C n d).before args s = true := by
  obtain ⟨c, k, i, f, a, cell, h1, h2, h3, h4, h5, h6, h7, h8, h9, -⟩ := h
  show (Cond.laysStatic C n d).holds args s none s [] = true
  exact Cond.laysStatic_of h1 h2 h3 h4 h5 h6 h7 h8 h9
/-- .. and what it holds: null or some reference -/
def vx_Zq (C n d : String) (A : Nat → Prop) (U : State) (H : Heap) : Prop := va_Zq C n d A U H ∧ vx_L C n d A U H
theorem vx_Zq.moved {C n d : String} {A : Nat → Prop} {u U : State} {H : Heap} (hvm : u.vm.Alike U.vm) (h : vx_Zq C n d A u H) : vx_Zq C n d A U H := ⟨va_Zq.moved hvm h.1, vx_L.moved hvm h.2⟩
theorem vx_Zq.kept {C n d : String} {A : Nat → Prop} {U : State} {H H1 : Heap} (h : vx_Zq C n d A U H) (hq : ∀ a : Nat, a < H.size → ¬ A a → H1[a]? = H[a]?) : vx_Zq C n d A U H1 := ⟨va_Zq.kept h.1 hq, vx_L.kept h.2 hq⟩
theorem vx_Zq.narrow {C n d : String} {A B : Nat → Prop} {U : State} {H : Heap} (h : vx_Zq C n d A U H) (hAB : ∀ q, B q → A q) : vx_Zq C n d B U H := ⟨va_Zq.narrow h.1 hAB, vx_L.narrow h.2 hAB⟩
theorem vx_Zqof {args : Array Value} {s : State} {C n d : String} {A : Nat → Prop} (hl : (Cond.laysStatic C n d).before args s = true) (hini : (Cond.initialized C).before args s = true) (h : (Cond.isRef (.static C n d)).before args s = true) (hA : ∀ a : Nat, a < s.heap.size → ¬ A a) : vx_Zq C n d A s s.heap := by
  refine ⟨va_Zqof hl hini h hA, ?_⟩
  obtain ⟨c, k, i, f, a, cell, h1, h2, h3, h4, h5, h6, h7, h8, h9⟩ := Cond.laysStatic_spec hl
  exact ⟨c, k, i, f, a, cell, h1, h2, h3, h4, h5, h6, h7, h8, h9, hA a (Array.getElem?_eq_some_iff.mp h5).1⟩
theorem vx_isRef {C n d : String} {v : Value} {A : Nat → Prop} {s : State} {args : Array Value} (h : va_Z C n d v A s s.heap) (hv : v.isRef = true) : (Cond.isRef (.static C n d)).before args s = true := by
  obtain ⟨cf, kf, fi, f, a, cell, h1, h2, h3, h4, h5, h6, h7, -⟩ := h
  have he : (Term.static C n d).eval args s none [] s = some v := by
    simp [Term.eval, State.fieldNamed?, h1, h2, h4, h5, h6, h7]
  simp only [Cond.before, Cond.holds, Cond.value, he]
  cases v <;> simp_all [Value.isRef]
theorem vx_isRefq {C n d : String} {A : Nat → Prop} {s : State} {args : Array Value} (h : va_Zq C n d A s s.heap) : (Cond.isRef (.static C n d)).before args s = true := by
  rcases h with h | ⟨t, h⟩
  · exact vx_isRef h rfl
  · exact vx_isRef h rfl
/-- the same frame, seen from here: as if the method were called anew in this heap -/
theorem vx_rebase {T : State} (X : Stand p l e R s m args below meth c T locs cells slots) {R' : Room} (hf : R'.frames ≤ R.frames) (hl : R'.locals ≤ R.locals) (hc : cells + R'.cells ≤ R.cells) (hs : slots + R'.slots ≤ R.slots) :
    Stand p l e R' ((T.setVm s.vm).setFrames (.invoking m args :: below)) m args below meth c T [] 0 0 := by
  have htop : (T.setVm s.vm).topJava?.isSome := X.here.top
  have hF : ((T.setVm s.vm).setFrames (.invoking m args :: below)).frames = .invoking m args :: below := State.frames_setFrames _ (State.cur_lt_of_top htop)
  obtain ⟨g₀, hg0⟩ := Option.isSome_iff_exists.mp htop
  obtain ⟨r, hr⟩ := State.topJava?_eq_some.mp hg0
  have hl9 : e.platform.stackLimits (T.setVm s.vm).me = e.platform.stackLimits s.me := X.limits
  have hb9 : (T.setVm s.vm).me.stackBytes = s.me.stackBytes := X.bytes
  refine ⟨X.admits, X.cas, X.clock, hF, ?_, X.hears, X.method, X.code, X.here, X.tail, X.warmed, ?_, ?_, ?_⟩
  · have h := X.room
    have hU : ((T.setVm s.vm).setFrames (.invoking m args :: below)).localsInUse = s.localsInUse := by
      rw [State.localsInUse_invoking hF (meth := meth) (c := c) X.method X.code, State.localsInUse_invoking X.frames X.method X.code]
    simp only [State.hasRoom, Bool.and_eq_true, decide_eq_true_eq] at h ⊢
    obtain ⟨⟨⟨⟨h1, h2, h3, h4, h5, h6⟩, h7⟩, h8⟩, h9⟩ := h
    rw [X.frames, List.length_cons] at h2 h3
    have q1 := X.heapSize
    have q2 := X.used
    simp only [hF, hU, List.length_cons, State.stackLimits_setFrames, State.stackBytes_setFrames, hl9, hb9]
    refine ⟨⟨⟨⟨by omega, by omega, by omega, by omega, by omega, h6⟩, ?_⟩, ?_⟩, X.book⟩
    · show T.heap.size + R'.cells ≤ e.platform.maxCells
      omega
    · show T.slotsUsed + R'.slots ≤ e.platform.maxSlots
      omega
  · rw [State.stackLimits_setFrames]; rfl
  · rw [State.stackBytes_setFrames]; rfl
  · refine ⟨?_, Nat.le_refl _, Nat.le_refl _, ?_, ?_, fun a c9 h9 => ⟨c9, h9, rfl, rfl, fun _ _ => rfl⟩⟩
    · obtain ⟨t, ht, -⟩ := State.frames_cons hr
      show T.setVm s.vm = { ((T.setVm s.vm).setFrames (.invoking m args :: below)).setFrames (T.setVm s.vm).frames with heap := T.heap, slotsUsed := T.slotsUsed }
      rw [State.setFrames_setFrames, State.setFrames_self ht]
      rfl
    · show T.slotsUsed = T.slotsUsed + ((T.heap.toList.drop T.heap.size).map (·.slots.size)).sum
      rw [List.drop_eq_nil_of_le (Nat.le_of_eq Array.length_toList)]
      rfl
    · show ((T.heap.toList.drop T.heap.size).map (·.slots.size)).sum ≤ 0
      rw [List.drop_eq_nil_of_le (Nat.le_of_eq Array.length_toList)]
      exact Nat.le_refl _
/-- 'throw new E()': new; dup; invokespecial; athrow -/
theorem vx_throw0 {cc : ByteArray} {pc : Nat} (hexec : p.tables.exec = Jvm.exec) (hb : c.code = cc) (hl : l.stackTraces = false) {own cls : String} {names : List String} {ik ic mc ms : Nat} {A : Nat → Prop}
    (hown : s.vm.findClass own = some m.cls) (hcls : Bundle.fit cls = true) (hnames : ∀ n ∈ names, Bundle.fit n = true)
    (hk : (Cond.classLink own ik cls).before args s = true) (hini : (Cond.initialized cls).before args s = true) (hat : ∀ w ∈ vx_at0 own ic cls names, w.before args s = true)
    (hgood : ∀ w ∈ Cond.classLink own ik cls :: Cond.initialized cls :: vx_at0 own ic cls names, vx_ot w = true)
    (hU : vx_Zq Bundle.tN "UNASSIGNED_STACK" Bundle.steD A s s.heap) (hN : vx_Zq Bundle.tN "SUPPRESSED_SENTINEL" Bundle.listD A s s.heap) (hS : va_S A s.heap H locs) (hsize : ls.size = c.maxLocals)
    (d0 : decode cc pc = .ok (.new ik, 3)) (d3 : decode cc (pc + 3) = .ok (.dup, 1)) (d4 : decode cc (pc + 4) = .ok (.invokespecial ic, 3)) (d7 : decode cc (pc + 7) = .ok (.athrow, 1))
    (hout : ∀ x ∈ c.exceptionTable.toList, covers x (pc + 7) = false)
    (hRframes : names.length + 3 < R.frames) (hRlocals : (rest.map fun v => v.category).sum + (13 * (names.length + 1) + 42) ≤ R.locals) (hRcells : cells + 1 ≤ R.cells) (hRslots : slots + 6 ≤ R.slots) (hlocks : meth.locks = false)
    (hx : ∀ t : State, s.vm.Alike t.vm → H.size ≤ t.heap.size → (∀ q : Nat, q < H.size → t.heap[q]? = H[q]?) → XC cls s t)
    (hf : ∀ z ∈ locs, free z.base) (hc : cells + 1 ≤ mc) (hs : slots + 6 ≤ ms) :
    W p l e R s m args below meth c H locs cells slots (vx_MQ below Qc XC args s mc ms free) (F0 m pc ls rest) := by
  intro T hT X
  have htr : e.platform.stackTraces = false := (show e.platform.stackTraces = l.stackTraces by rw [X.admits.platform]).trans hl
  have Y := vx_rebase X (R' := { frames := R.frames, locals := R.locals, cells := 1, slots := 6 }) (Nat.le_refl _) (Nat.le_refl _) hRcells hRslots
  obtain ⟨s', hA⟩ : ∃ z, z = (T.setVm s.vm).setFrames (.invoking m args :: below) := ⟨_, rfl⟩
  rw [← hA] at Y
  have hvm : s'.vm = s.vm := by rw [hA]; rfl
  have hhp : s'.heap = H := by rw [hA]; exact hT
  have hW0 : s.WarmedH s'.vm := by rw [hvm]; exact State.WarmedH.refl s
  have hat' : ∀ w ∈ vx_at0 own ic cls names, w.before args s' = true := fun w hw => vx_ot_at hW0 hvm.symm (hgood w (List.mem_cons_of_mem _ (List.mem_cons_of_mem _ hw))) (hat w hw)
  have hk' : (Cond.classLink own ik cls).before args s' = true := vx_ot_at hW0 hvm.symm (hgood _ List.mem_cons_self) hk
  have hini' : (Cond.initialized cls).before args s' = true := vx_ot_at hW0 hvm.symm (hgood _ (List.mem_cons_of_mem _ List.mem_cons_self)) hini
  have hU' : vx_Zq Bundle.tN "UNASSIGNED_STACK" Bundle.steD A s' s'.heap := by rw [hhp]; exact vx_Zq.moved hW0.alike (hU.kept hS.2.1)
  have hN' : vx_Zq Bundle.tN "SUPPRESSED_SENTINEL" Bundle.listD A s' s'.heap := by rw [hhp]; exact vx_Zq.moved hW0.alike (hN.kept hS.2.1)
  have h : ∀ w ∈ Bundle.ownAtoms0 own ic cls names, w.before args s' = true := vx_own hat' (vx_isRefq hU'.1) (vx_isRefq hN'.1) hU'.2.word hN'.2.word
  have hown' : s'.vm.findClass own = some m.cls := by rw [hvm]; exact hown
  have hins : (Cond.instantiable cls 6).before args s' = true := h _ (by simp [Bundle.ownAtoms0])
  obtain ⟨vm₁, cX, kX, hfX, hkX, -, -, X₁, st1⟩ := Y.newCold hexec (own := own) (C := cls) (index := ik) (n := 6) hown' hk' hins hini'
    (g := F0 m pc ls rest) rfl (by rw [hb]; exact d0) (Nat.le_refl _) (Nat.le_refl _)
  generalize hT1 : (T.setVm vm₁).pushCell { cls := cX, slots := kX.instanceTypes.map defaultValue, vm := .none } = T1 at X₁ st1
  have hcat : (Value.ref T.heap.size).category = 1 := rfl
  have hcellA : T1.heap[T.heap.size]? = some (freshCell cX kX) := by rw [← hT1]; exact State.heap_pushCell_size _ _
  have d3' : decode c.code (pc + 3) = .ok (.dup, 1) := by rw [hb]; exact d3
  obtain ⟨U, hsteps, hrun, hend, hW, hsame, ce, hce, hO⟩ := X₁.ctorThrow0 hexec htr (own := own) (cls := cls) (names := names) (ic := ic) hown' hcls hnames h (fun x hx => nomatch hx) hfX hkX hcellA (by rw [hhp, hT]; exact Nat.le_refl _)
    (g := { method := m, pc := pc + 4, locals := ls, stack := .ref T.heap.size :: .ref T.heap.size :: rest, locked := none }) rfl hsize rfl rfl (rest := rest) rfl
    (by rw [hb]; exact d4) (by rw [hb]; exact d7) hout hRframes (by simp only [List.map_cons, List.sum_cons, hcat]; omega) hlocks
  obtain ⟨f1, f2⟩ := vx_frame hsame
  rw [hhp] at f1 f2
  have hWs : s.WarmedH U.vm := State.WarmedH.trans hW0 hW
  have hcl : s.vm.findClass cls = some ce.cls := by
    have h9 := hO.cls
    rw [hvm] at h9
    exact h9
  have hall : s.sameButNew ({ U with vm := s.vm } : State) locs mc ms := by
    subst hA
    obtain ⟨e1, e2⟩ := hsame
    rw [State.setFrames_setFrames] at e1
    have h2 : (T.setVm s.vm).sameButNew ({ U with vm := s.vm } : State) [] (0 + 1) (0 + 6) := ⟨e1, e2⟩
    have h3 := X.same.trans h2
    rw [List.append_nil] at h3
    exact h3.mono hc hs
  refine ⟨U, ?_, .threw T.heap.size, hrun, hend, Or.inr ⟨T.heap.size, rfl, cls, ce, locs, hx U hWs.alike f1 (fun q hq => f2 q hq (fun z hz => nomatch hz)), hce, hO.vm, hcl, hWs, hall, hf⟩⟩
  refine st1 _ ?_
  show Steps p.tables e below (T1.setTop { method := m, pc := pc + 3, locals := ls, stack := .ref T.heap.size :: rest, locked := none }) _
  jvm_step X₁.here [X₁.here.top, hexec, d3', Value.category]
  exact hsteps
/-- 'throw new E("text")': new; dup; ldc; invokespecial; athrow -/
theorem vx_throwS {cc : ByteArray} {pc : Nat} (hexec : p.tables.exec = Jvm.exec) (hb : c.code = cc) (hl : l.stackTraces = false) {own cls text : String} {names : List String} {ik is ic mc ms sa : Nat} {A : Nat → Prop}
    (hown : s.vm.findClass own = some m.cls) (hcls : Bundle.fit cls = true) (hnames : ∀ n ∈ names, Bundle.fit n = true)
    (hk : (Cond.classLink own ik cls).before args s = true) (hini : (Cond.initialized cls).before args s = true) (hstr : vk_R own is text sa s) (hat : ∀ w ∈ vx_atS own ic cls names, w.before args s = true)
    (hgood : ∀ w ∈ Cond.classLink own ik cls :: Cond.initialized cls :: vx_atS own ic cls names, vx_ot w = true)
    (hU : vx_Zq Bundle.tN "UNASSIGNED_STACK" Bundle.steD A s s.heap) (hN : vx_Zq Bundle.tN "SUPPRESSED_SENTINEL" Bundle.listD A s s.heap) (hS : va_S A s.heap H locs) (hsize : ls.size = c.maxLocals)
    (d0 : decode cc pc = .ok (.new ik, 3)) (d3 : decode cc (pc + 3) = .ok (.dup, 1)) (d4 : decode cc (pc + 4) = .ok (.ldc is, 2)) (d6 : decode cc (pc + 6) = .ok (.invokespecial ic, 3)) (d9 : decode cc (pc + 9) = .ok (.athrow, 1))
    (hout : ∀ x ∈ c.exceptionTable.toList, covers x (pc + 9) = false)
    (hRframes : names.length + 3 < R.frames) (hRlocals : (rest.map fun v => v.category).sum + (13 * (names.length + 1) + 43) ≤ R.locals) (hRcells : cells + 1 ≤ R.cells) (hRslots : slots + 6 ≤ R.slots) (hlocks : meth.locks = false)
    (hx : ∀ t : State, s.vm.Alike t.vm → H.size ≤ t.heap.size → (∀ q : Nat, q < H.size → t.heap[q]? = H[q]?) → XC cls s t)
    (hf : ∀ z ∈ locs, free z.base) (hc : cells + 1 ≤ mc) (hs : slots + 6 ≤ ms) :
    W p l e R s m args below meth c H locs cells slots (vx_MQ below Qc XC args s mc ms free) (F0 m pc ls rest) := by
  intro T hT X
  have htr : e.platform.stackTraces = false := (show e.platform.stackTraces = l.stackTraces by rw [X.admits.platform]).trans hl
  have Y := vx_rebase X (R' := { frames := R.frames, locals := R.locals, cells := 1, slots := 6 }) (Nat.le_refl _) (Nat.le_refl _) hRcells hRslots
  obtain ⟨s', hA⟩ : ∃ z, z = (T.setVm s.vm).setFrames (.invoking m args :: below) := ⟨_, rfl⟩
  rw [← hA] at Y
  have hvm : s'.vm = s.vm := by rw [hA]; rfl
  have hhp : s'.heap = H := by rw [hA]; exact hT
  have hW0 : s.WarmedH s'.vm := by rw [hvm]; exact State.WarmedH.refl s
  have hat' : ∀ w ∈ vx_atS own ic cls names, w.before args s' = true := fun w hw => vx_ot_at hW0 hvm.symm (hgood w (List.mem_cons_of_mem _ (List.mem_cons_of_mem _ hw))) (hat w hw)
  have hk' : (Cond.classLink own ik cls).before args s' = true := vx_ot_at hW0 hvm.symm (hgood _ List.mem_cons_self) hk
  have hini' : (Cond.initialized cls).before args s' = true := vx_ot_at hW0 hvm.symm (hgood _ (List.mem_cons_of_mem _ List.mem_cons_self)) hini
  have hU' : vx_Zq Bundle.tN "UNASSIGNED_STACK" Bundle.steD A s' s'.heap := by rw [hhp]; exact vx_Zq.moved hW0.alike (hU.kept hS.2.1)
  have hN' : vx_Zq Bundle.tN "SUPPRESSED_SENTINEL" Bundle.listD A s' s'.heap := by rw [hhp]; exact vx_Zq.moved hW0.alike (hN.kept hS.2.1)
  have h : ∀ w ∈ Bundle.ownAtoms own ic cls names, w.before args s' = true := vx_own hat' (vx_isRefq hU'.1) (vx_isRefq hN'.1) hU'.2.word hN'.2.word
  have hown' : s'.vm.findClass own = some m.cls := by rw [hvm]; exact hown
  have hins : (Cond.instantiable cls 6).before args s' = true := h _ (by simp [Bundle.ownAtoms])
  obtain ⟨vm₁, cX, kX, hfX, hkX, -, -, X₁, st1⟩ := Y.newCold hexec (own := own) (C := cls) (index := ik) (n := 6) hown' hk' hins hini'
    (g := F0 m pc ls rest) rfl (by rw [hb]; exact d0) (Nat.le_refl _) (Nat.le_refl _)
  generalize hT1 : (T.setVm vm₁).pushCell { cls := cX, slots := kX.instanceTypes.map defaultValue, vm := .none } = T1 at X₁ st1
  have hcat : (Value.ref T.heap.size).category = 1 := rfl
  have hcellA : T1.heap[T.heap.size]? = some (freshCell cX kX) := by rw [← hT1]; exact State.heap_pushCell_size _ _
  have d3' : decode c.code (pc + 3) = .ok (.dup, 1) := by rw [hb]; exact d3
  have d4' : decode c.code (pc + 4) = .ok (.ldc is, 2) := by rw [hb]; exact d4
  have hstr' : vk_R own is text sa s' := vk_R.warm hW0 hstr
  obtain ⟨U, hsteps, hrun, hend, hW, hsame, ce, hce, hO⟩ := X₁.ctorThrowS hexec htr (own := own) (cls := cls) (names := names) (ic := ic) hown' hcls hnames h (fun x hx => nomatch hx) hfX hkX hcellA (by rw [hhp, hT]; exact Nat.le_refl _) (msg := .ref sa) rfl
    (g := { method := m, pc := pc + 6, locals := ls, stack := .ref sa :: .ref T.heap.size :: .ref T.heap.size :: rest, locked := none }) rfl hsize rfl rfl (rest := rest) rfl
    (by rw [hb]; exact d6) (by rw [hb]; exact d9) hout hRframes (by simp only [List.map_cons, List.sum_cons, hcat]; omega) hlocks
  obtain ⟨f1, f2⟩ := vx_frame hsame
  rw [hhp] at f1 f2
  have hWs : s.WarmedH U.vm := State.WarmedH.trans hW0 hW
  have hcl : s.vm.findClass cls = some ce.cls := by
    have h9 := hO.cls
    rw [hvm] at h9
    exact h9
  have hall : s.sameButNew ({ U with vm := s.vm } : State) locs mc ms := by
    subst hA
    obtain ⟨e1, e2⟩ := hsame
    rw [State.setFrames_setFrames] at e1
    have h2 : (T.setVm s.vm).sameButNew ({ U with vm := s.vm } : State) [] (0 + 1) (0 + 6) := ⟨e1, e2⟩
    have h3 := X.same.trans h2
    rw [List.append_nil] at h3
    exact h3.mono hc hs
  refine ⟨U, ?_, .threw T.heap.size, hrun, hend, Or.inr ⟨T.heap.size, rfl, cls, ce, locs, hx U hWs.alike f1 (fun q hq => f2 q hq (fun z hz => nomatch hz)), hce, hO.vm, hcl, hWs, hall, hf⟩⟩
  refine st1 _ ?_
  show Steps p.tables e below (T1.setTop { method := m, pc := pc + 3, locals := ls, stack := .ref T.heap.size :: rest, locked := none }) _
  jvm_step X₁.here [X₁.here.top, hexec, d3', Value.category]
  exact X₁.ldcString hexec (own := own) (text := text) (index := is) (a := sa) hown' hstr'.1 hstr'.2
    (g := { method := m, pc := pc + 4, locals := ls, stack := .ref T.heap.size :: .ref T.heap.size :: rest, locked := none }) rfl d4' _ hsteps
/-- 'throw new E("text")', the text by a wide index -/
theorem vx_throwSW {cc : ByteArray} {pc : Nat} (hexec : p.tables.exec = Jvm.exec) (hb : c.code = cc) (hl : l.stackTraces = false) {own cls text : String} {names : List String} {ik is ic mc ms sa : Nat} {A : Nat → Prop}
    (hown : s.vm.findClass own = some m.cls) (hcls : Bundle.fit cls = true) (hnames : ∀ n ∈ names, Bundle.fit n = true)
    (hk : (Cond.classLink own ik cls).before args s = true) (hini : (Cond.initialized cls).before args s = true) (hstr : vk_R own is text sa s) (hat : ∀ w ∈ vx_atS own ic cls names, w.before args s = true)
    (hgood : ∀ w ∈ Cond.classLink own ik cls :: Cond.initialized cls :: vx_atS own ic cls names, vx_ot w = true)
    (hU : vx_Zq Bundle.tN "UNASSIGNED_STACK" Bundle.steD A s s.heap) (hN : vx_Zq Bundle.tN "SUPPRESSED_SENTINEL" Bundle.listD A s s.heap) (hS : va_S A s.heap H locs) (hsize : ls.size = c.maxLocals)
    (d0 : decode cc pc = .ok (.new ik, 3)) (d3 : decode cc (pc + 3) = .ok (.dup, 1)) (d4 : decode cc (pc + 4) = .ok (.ldc_w is, 3)) (d7 : decode cc (pc + 7) = .ok (.invokespecial ic, 3)) (d10 : decode cc (pc + 10) = .ok (.athrow, 1))
    (hout : ∀ x ∈ c.exceptionTable.toList, covers x (pc + 10) = false)
    (hRframes : names.length + 3 < R.frames) (hRlocals : (rest.map fun v => v.category).sum + (13 * (names.length + 1) + 43) ≤ R.locals) (hRcells : cells + 1 ≤ R.cells) (hRslots : slots + 6 ≤ R.slots) (hlocks : meth.locks = false)
    (hx : ∀ t : State, s.vm.Alike t.vm → H.size ≤ t.heap.size → (∀ q : Nat, q < H.size → t.heap[q]? = H[q]?) → XC cls s t)
    (hf : ∀ z ∈ locs, free z.base) (hc : cells + 1 ≤ mc) (hs : slots + 6 ≤ ms) :
    W p l e R s m args below meth c H locs cells slots (vx_MQ below Qc XC args s mc ms free) (F0 m pc ls rest) := by
  intro T hT X
  have htr : e.platform.stackTraces = false := (show e.platform.stackTraces = l.stackTraces by rw [X.admits.platform]).trans hl
  have Y := vx_rebase X (R' := { frames := R.frames, locals := R.locals, cells := 1, slots := 6 }) (Nat.le_refl _) (Nat.le_refl _) hRcells hRslots
  obtain ⟨s', hA⟩ : ∃ z, z = (T.setVm s.vm).setFrames (.invoking m args :: below) := ⟨_, rfl⟩
  rw [← hA] at Y
  have hvm : s'.vm = s.vm := by rw [hA]; rfl
  have hhp : s'.heap = H := by rw [hA]; exact hT
  have hW0 : s.WarmedH s'.vm := by rw [hvm]; exact State.WarmedH.refl s
  have hat' : ∀ w ∈ vx_atS own ic cls names, w.before args s' = true := fun w hw => vx_ot_at hW0 hvm.symm (hgood w (List.mem_cons_of_mem _ (List.mem_cons_of_mem _ hw))) (hat w hw)
  have hk' : (Cond.classLink own ik cls).before args s' = true := vx_ot_at hW0 hvm.symm (hgood _ List.mem_cons_self) hk
  have hini' : (Cond.initialized cls).before args s' = true := vx_ot_at hW0 hvm.symm (hgood _ (List.mem_cons_of_mem _ List.mem_cons_self)) hini
  have hU' : vx_Zq Bundle.tN "UNASSIGNED_STACK" Bundle.steD A s' s'.heap := by rw [hhp]; exact vx_Zq.moved hW0.alike (hU.kept hS.2.1)
  have hN' : vx_Zq Bundle.tN "SUPPRESSED_SENTINEL" Bundle.listD A s' s'.heap := by rw [hhp]; exact vx_Zq.moved hW0.alike (hN.kept hS.2.1)
  have h : ∀ w ∈ Bundle.ownAtoms own ic cls names, w.before args s' = true := vx_own hat' (vx_isRefq hU'.1) (vx_isRefq hN'.1) hU'.2.word hN'.2.word
  have hown' : s'.vm.findClass own = some m.cls := by rw [hvm]; exact hown
  have hins : (Cond.instantiable cls 6).before args s' = true := h _ (by simp [Bundle.ownAtoms])
  obtain ⟨vm₁, cX, kX, hfX, hkX, -, -, X₁, st1⟩ := Y.newCold hexec (own := own) (C := cls) (index := ik) (n := 6) hown' hk' hins hini'
    (g := F0 m pc ls rest) rfl (by rw [hb]; exact d0) (Nat.le_refl _) (Nat.le_refl _)
  generalize hT1 : (T.setVm vm₁).pushCell { cls := cX, slots := kX.instanceTypes.map defaultValue, vm := .none } = T1 at X₁ st1
  have hcat : (Value.ref T.heap.size).category = 1 := rfl
  have hcellA : T1.heap[T.heap.size]? = some (freshCell cX kX) := by rw [← hT1]; exact State.heap_pushCell_size _ _
  have d3' : decode c.code (pc + 3) = .ok (.dup, 1) := by rw [hb]; exact d3
  have d4' : decode c.code (pc + 4) = .ok (.ldc_w is, 3) := by rw [hb]; exact d4
  have hstr' : vk_R own is text sa s' := vk_R.warm hW0 hstr
  obtain ⟨U, hsteps, hrun, hend, hW, hsame, ce, hce, hO⟩ := X₁.ctorThrowS hexec htr (own := own) (cls := cls) (names := names) (ic := ic) hown' hcls hnames h (fun x hx => nomatch hx) hfX hkX hcellA (by rw [hhp, hT]; exact Nat.le_refl _) (msg := .ref sa) rfl
    (g := { method := m, pc := pc + 7, locals := ls, stack := .ref sa :: .ref T.heap.size :: .ref T.heap.size :: rest, locked := none }) rfl hsize rfl rfl (rest := rest) rfl
    (by rw [hb]; exact d7) (by rw [hb]; exact d10) hout hRframes (by simp only [List.map_cons, List.sum_cons, hcat]; omega) hlocks
  obtain ⟨f1, f2⟩ := vx_frame hsame
  rw [hhp] at f1 f2
  have hWs : s.WarmedH U.vm := State.WarmedH.trans hW0 hW
  have hcl : s.vm.findClass cls = some ce.cls := by
    have h9 := hO.cls
    rw [hvm] at h9
    exact h9
  have hall : s.sameButNew ({ U with vm := s.vm } : State) locs mc ms := by
    subst hA
    obtain ⟨e1, e2⟩ := hsame
    rw [State.setFrames_setFrames] at e1
    have h2 : (T.setVm s.vm).sameButNew ({ U with vm := s.vm } : State) [] (0 + 1) (0 + 6) := ⟨e1, e2⟩
    have h3 := X.same.trans h2
    rw [List.append_nil] at h3
    exact h3.mono hc hs
  refine ⟨U, ?_, .threw T.heap.size, hrun, hend, Or.inr ⟨T.heap.size, rfl, cls, ce, locs, hx U hWs.alike f1 (fun q hq => f2 q hq (fun z hz => nomatch hz)), hce, hO.vm, hcl, hWs, hall, hf⟩⟩
  refine st1 _ ?_
  show Steps p.tables e below (T1.setTop { method := m, pc := pc + 3, locals := ls, stack := .ref T.heap.size :: rest, locked := none }) _
  jvm_step X₁.here [X₁.here.top, hexec, d3', Value.category]
  exact X₁.ldcStringW hexec (own := own) (text := text) (index := is) (a := sa) hown' hstr'.1 hstr'.2
    (g := { method := m, pc := pc + 4, locals := ls, stack := .ref T.heap.size :: .ref T.heap.size :: rest, locked := none }) rfl d4' _ hsteps
end Ends
section Bodies
variable {l : Launch}
theorem vx_ofW {y : MethodName} {ws ws' : List Cond} {rm : Room} {Pc : Array Value → State → Prop} {Qc : Array Value → State → Outcome → State → Prop} {XC : String → State → State → Prop} {mc ms : Nat} {free : Addr → Prop} {cc : ByteArray} {maxL : Nat} {ret : Option FieldType}
    (hy : plainName y.cls = true) (hw : ws = Cond.code y cc maxL ret :: ws')
    (body : ∀ p e s m args below meth c s₁, BodyLoose p l y (headSpec ws rm) cc maxL ret e s m args below meth c s₁ → c.maxLocals = maxL → (∀ x ∈ c.exceptionTable.toList, False) → Pc args s →
      W p l e (headSpec ws rm).room s m args below meth c s.heap [] 0 0 (vx_MQ below Qc XC args s mc ms free) (entryFrame m args maxL)) : vx_Met l y ws rm Pc Qc XC mc ms free := by
  refine MetFree.of_bodyS (code := cc) (maxLocals := maxL) (ret := ret) hy ?_ ?_
  · intro args s m h hn
    obtain ⟨meth, c, h1, h2, h3, h4, h5, h6, -, -⟩ := Cond.code_spec hn (atoms_spec (ws := ws) h _ (by rw [hw]; exact List.mem_cons_self))
    exact ⟨meth, c, h1, h2, h3, h4, h5, h6⟩
  · intro p e s m args below meth c s₁ B hml hP _
    have hh0 : s₁.heap = s.heap := by rw [B.state]; rfl
    have ht : ∀ x ∈ c.exceptionTable.toList, False := by
      obtain ⟨meth9, c9, h1, h2, -, -, -, -, h7, -⟩ := Cond.code_spec B.named (atoms_spec (ws := ws) B.pre _ (by rw [hw]; exact List.mem_cons_self))
      cases Option.some.inj (h1.symm.trans B.method)
      cases Option.some.inj (h2.symm.trans (Stand.of_body B).code)
      intro x hx
      rw [Array.isEmpty_iff.mp h7] at hx
      cases hx
    obtain ⟨t, a1, o, b1, b2, b3⟩ := body p e s m args below meth c s₁ B hml ht hP s₁ hh0 (Stand.of_body B)
    exact ⟨t, o, a1, b1, b2, b3⟩
/-- the table of a body with handlers -/
theorem vx_table {p : Program} {x y : MethodName} {S : Spec} {cc bytes : ByteArray} {maxL maxL' : Nat} {ret ret' : Option FieldType} {e : Env} {s s₁ : State} {m : MethodId} {args : Array Value} {below : List Frame} {meth : Method} {c : Code} {hh : List (Nat × Nat × Nat × Nat)}
    (B : BodyLoose p l y S cc maxL ret e s m args below meth c s₁) (h : (Cond.codeWith y bytes maxL' ret' hh).before args s = true) : c.exceptionTable.toList = tableOf hh := by
  obtain ⟨m9, meth9, c9, hn9, h1, h2, -, -, h6, -⟩ := Cond.codeWith_spec h
  cases Option.some.inj (hn9.symm.trans B.named)
  cases Option.some.inj (h1.symm.trans B.method)
  cases Option.some.inj (h2.symm.trans (Stand.of_body B).code)
  rw [← h6, table_eq]
end Bodies
end VXA
/-! ===== END ===== -/
/-! ===== BEGIN a static call of a method with an exception table ===== -/
section VXS
variable {p : Program} {l : Launch} {e : Env} {R : Room} {s : State} {m : MethodId} {args : Array Value} {below : List Frame} {meth : Method} {c : Code} {T : State} {H : Heap} {locs : List Loc} {cells slots : Nat}
abbrev vx_CSW (R : Room) (s : State) (args : Array Value) (own : String) (index : Nat) (y : MethodName) (bytes : ByteArray) (maxL : Nat) (ret : Option FieldType) (hh : List (Nat × Nat × Nat × Nat)) (ws : List Cond) (rm : Room) (mc ms n : Nat) : Prop :=
  (rm.cells = mc ∧ rm.slots = ms ∧ rm.frames + 1 ≤ R.frames ∧ 8 + (maxL + 11) + rm.locals ≤ R.locals ∧ (∀ w ∈ ws, ∀ (a' : Array Value) (U : State), s.WarmedH U.vm → w.before a' U = true) ∧ Cond.codeWith y bytes maxL ret hh ∈ ws) ∧
  (Cond.codeWith y bytes maxL ret hh).before args s = true ∧ (Cond.initialized y.cls).before args s = true ∧ (y.cls ≠ "java/lang/invoke/MethodHandle" ∧ y.cls ≠ "java/lang/invoke/VarHandle") ∧
  (∀ sig, parseMethodDescriptor y.desc = some sig → n = sig.parameters.length) ∧ (Cond.methodLink own index y).before args s = true ∧ (Cond.static y).before args s = true
theorem vx_cwSW {own : String} {index maxL mc ms : Nat} {y : MethodName} {bytes : ByteArray} {ret : Option FieldType} {hh : List (Nat × Nat × Nat × Nat)} {Ts ws ws' : List Cond} {rm : Room} (n : Nat) (ht : ∀ w ∈ Ts, w.before args s = true) (hT : GoodIn Ts (va_wsS own index y ws)) (hw : ws = Cond.codeWith y bytes maxL ret hh :: ws') (hrc : rm.cells = mc) (hrs : rm.slots = ms)
    (hd : y.cls ≠ "java/lang/invoke/MethodHandle" ∧ y.cls ≠ "java/lang/invoke/VarHandle" ∧ (parseMethodDescriptor y.desc).map (fun d => d.parameters.length) = some n) (hR : rm.frames + 1 ≤ R.frames ∧ 8 + (maxL + 11) + rm.locals ≤ R.locals) :
    vx_CSW R s args own index y bytes maxL ret hh ws rm mc ms n := by
  have ok : ∀ w ∈ va_wsS own index y ws, w.before args s = true := fun w h => ht w (hT w h).1
  have hG : GoodIn Ts ws := fun w h => hT w (by unfold va_wsS; exact List.mem_append_right _ h)
  have hc : Cond.codeWith y bytes maxL ret hh ∈ ws := by rw [hw]; exact List.mem_cons_self
  refine ⟨⟨hrc, hrs, hR.1, hR.2, pay_in ht hG, hc⟩, ht _ (hG _ hc).1, ok _ (by simp [va_wsS]), ⟨hd.1, hd.2.1⟩, fun sig h => ?_, ok _ (by simp [va_wsS]), ok _ (by simp [va_wsS])⟩
  have h2 := hd.2.2
  rw [h] at h2
  exact (Option.some.inj h2).symm
theorem vx_callSW (X : Stand p l e R s m args below meth c T locs cells slots) (hexec : p.tables.exec = Jvm.exec) {own : String} {index : Nat} {y : MethodName} {bytes : ByteArray} {maxL : Nat} {ret : Option FieldType} {hh : List (Nat × Nat × Nat × Nat)}
    (hown : s.vm.findClass own = some m.cls) (hlink : (Cond.methodLink own index y).before args s = true) (hstat : (Cond.static y).before args s = true) (hinit : (Cond.initialized y.cls).before args s = true)
    (hcode : (Cond.codeWith y bytes maxL ret hh).before args s = true) (hy : y.cls ≠ "java/lang/invoke/MethodHandle" ∧ y.cls ≠ "java/lang/invoke/VarHandle")
    {W9 : Nat} {Pre : Pt → Array Value → Prop} {Post : Pt → Array Value → Option Value → Pt → Prop} (hK : Back l R p e below s args y 3 W9 Pre Post)
    {g : JFrame} (hg : g.method = m) (hsize : g.locals.size = c.maxLocals) {argsL rest : List Value} (hlen : ∀ sig, parseMethodDescriptor y.desc = some sig → argsL.length = sig.parameters.length)
    (hstack : g.stack = argsL.reverse ++ rest) (hW : 2 * g.monitorRoom + (rest.map fun v => v.category).sum ≤ W9) (hdg : decode c.code g.pc = .ok (.invokestatic index, 3))
    (hpre : ∀ vm₁, s.WarmedH vm₁ → Pre ⟨T.setVm vm₁, locs, cells, slots⟩ argsL.toArray) :
    ∃ (v : Option Value) (vm₁ : Vm) (B : Pt), s.WarmedH vm₁ ∧ Stand p l e R s m args below meth c B.U B.locs B.cells B.slots ∧ Post ⟨T.setVm vm₁, locs, cells, slots⟩ argsL.toArray v B ∧
      ∀ target, Steps p.tables e below (B.U.setTop { g with pc := g.pc + 3, stack := v.toList ++ rest }) target → Steps p.tables e below (T.setTop g) target := by
  obtain ⟨mk, methM, cM, hnamed, hmethM, -, -, -, -, -, -, hsigM⟩ := Cond.codeWith_spec hcode
  have hstatic : methM.isStatic = true := Cond.static_spec hnamed hmethM hstat
  obtain ⟨kP, hkP, -⟩ := className_of_methodNamed hnamed
  have hinitP : kP.init = .initialized := Cond.initialized_spec (findClass_of_methodNamed hnamed) hkP hinit
  obtain ⟨vm₁, X₁, hstep₁⟩ := X.invokestatic hexec hown hlink hnamed hmethM hstatic hkP hinitP hy (g := g) hg (argsL := argsL) (rest := rest) (hlen _ hsigM) hstack hdg
  obtain ⟨v, B, X', hpost, hsteps⟩ := hK m meth c ⟨T.setVm vm₁, locs, cells, slots⟩ { g with stack := rest } (.invokestatic index) mk argsL.toArray X₁ hg hsize hdg hW (X₁.named hnamed) (hpre vm₁ X₁.warmed)
  exact ⟨v, vm₁, B, X₁.warmed, X', hpost, fun target h => hstep₁ _ fun acts => by rw [doInvoke_state]; exact hsteps.trans h⟩
theorem vx_runSW {y : MethodName} {bytes cc : ByteArray} {maxL nL mc ms n index : Nat} {ret : Option FieldType} {hh : List (Nat × Nat × Nat × Nat)} {ws : List Cond} {rm : Room} {Pc : Array Value → State → Prop} {Qc : Array Value → State → Outcome → State → Prop} {free : Addr → Prop} {Ts : List Cond} {own : String} {As rest : List Value} {g : JFrame}
    (S : CallFix p m c cc nL s args Ts own) (hM : Met l y ws rm Pc Qc mc ms free) (cw : vx_CSW R s args own index y bytes maxL ret hh ws rm mc ms n) (hp : PreS s H Pc As)
    (hg : g.method = m) (hn : As.length = n) (hsize : g.locals.size = nL) (hstack : g.stack = As.reverse ++ rest) (hW : 2 * g.monitorRoom + (rest.map fun v => v.category).sum ≤ 8) (hdg : decode cc g.pc = .ok (.invokestatic index, 3)) (hf : cells + mc ≤ R.cells ∧ slots + ms ≤ R.slots) :
    va_Run p l e R s m args below meth c H locs cells slots mc ms g rest (Qc As.toArray) (free) := by
  obtain ⟨⟨hrc, hrs, hfr, hlo, hws, hcw⟩, hcode, hini, hy, hlen, hl, hstt⟩ := cw
  have hK : Back l R p e below s args y 3 8 (PreOf R mc ms Pc) (PostOf Qc mc ms free) := va_backW (hh := hh) (bytes := bytes) (maxL := maxL) (ret := ret) hM hp.1 hrc hrs hfr hlo hws hcw (fun a' U hW => word_at hW (Or.inl (by first | rfl | simp [Cond.onTables, Cond.keeps, Cond.steady])) hini)
  obtain ⟨hx, hb, hml, ho, -⟩ := S
  intro T hT X
  obtain ⟨v, vm₁, ⟨U', l2, c2, s2⟩, hW₁, X', ⟨g', mk, t, L, e1, e2, hq, h1, hL, h2, h3⟩, st⟩ := vx_callSW X hx (hh := hh) (bytes := bytes) (maxL := maxL) (ret := ret) ho hl hstt hini hcode hy hK hg (hsize.trans hml.symm) (argsL := As) (rest := rest) (fun sig h => hn.trans (hlen sig h)) hstack hW (by rw [hb]; exact hdg)
    (fun vm₁ hW₁ => ⟨hf.1, hf.2, hp.2 (T.setVm vm₁) hT hW₁⟩)
  dsimp only [Pt.U, Pt.locs, Pt.cells, Pt.slots] at X' e1 e2 h1 h2 h3 st
  subst h1; subst h2; subst h3
  exact ⟨v, (T.setVm vm₁).calling g' mk As.toArray, t, U', L, hT, X', hL, e1, e2, hq, st⟩
/-- not caught here, past rows that name other classes: it goes on to the caller -/
theorem vx_outP {p : Program} {l : Launch} {e : Env} {R : Room} {s : State} {m : MethodId} {args : Array Value} {below : List Frame} {meth : Method} {c : Code} {H : Heap} {locs : List Loc} {cells slots : Nat} {free : Addr → Prop} {ls : Array Slot} {rest : List Value} {Qc : Array Value → State → Outcome → State → Prop} {XC : String → State → State → Prop}
    {pc : Nat} {own E : String} {ce : Cell} {q : Addr} {mc ms : Nat} (hown : s.vm.findClass own = some m.cls) (hlocks : meth.locks = false)
    (hpass : ∀ z ∈ c.exceptionTable.toList, covers z pc = false ∨ (z.catchType ≠ 0 ∧ ∃ nm : String, (Cond.classLink own z.catchType nm).before args s = true ∧ va_Nc E nm s)) (hcell : H[q]? = some ce) (hv : ce.vm = .none) (hcl : s.vm.findClass E = some ce.cls)
    (hx : ∀ t : State, t.heap = H → s.vm.Alike t.vm → XC E s t) (hf : ∀ z ∈ locs, free z.base) (hc : cells ≤ mc) (hs : slots ≤ ms) :
    vx_W p l e R s m args below meth c H locs cells slots (vx_MQ below Qc XC args s mc ms free) (F0 m pc ls rest) q := by
  intro T hT X
  have hpl : e.platform.magicAccessors = ({} : Platform).magicAccessors := by rw [X.admits.platform]
  obtain ⟨vm', hW', X', st⟩ := X.outThrough hlocks q (g := F0 m pc ls rest) rfl rfl rfl (cell := ce) (by rw [hT]; exact hcell) (by rw [hv]; rfl)
    (by obtain ⟨k9, h9, -⟩ := Vm.findClass_spec hcl; exact ⟨k9, h9⟩) (fun z hz => by
      rcases hpass z hz with h | ⟨hz0, nm, hl1, hn1⟩
      · exact Or.inl h
      · obtain ⟨c6, hc6, hcl6⟩ := Cond.classLink_spec hown hl1 e.platform hpl
        obtain ⟨a8, b8, h1, h2, h3⟩ := hn1
        cases Option.some.inj (h1.symm.trans hcl)
        cases Option.some.inj (h2.symm.trans hc6)
        exact Or.inr ⟨hz0, _, hcl6, h3⟩)
  obtain ⟨g₀, hfr⟩ := X'.frames_eq
  have hcell9 : ((T.setVm vm').setFrames (.throwing q :: below)).heap[q]? = some ce := by
    show T.heap[q]? = some ce
    rw [hT]; exact hcell
  have hend : Ended ((T.setVm vm').setFrames (.throwing q :: below)) below (.threw q) := State.frames_setFrames _ (State.cur_lt_of_frames hfr)
  refine ⟨(T.setVm vm').setFrames (.throwing q :: below), ?_, .threw q, X'.here.running, hend, Or.inr ⟨q, rfl, E, ce, locs, hx _ hT (X'.ends _).1.alike, hcell9, hv, hcl, (X'.ends _).1, (X'.ends _).2.mono hc hs, hf⟩⟩
  rw [X.pushThrowing_eq]
  exact st
/-- a thing of a world lies in the heap -/
theorem vx_lt {D : va_G} {cl : List vw_C} {ws : va_W} {H1 : Heap} (h : va_P D cl ws H1) {k : Nat} {q : Nat × va_E} (hk : ws[k]? = some q) : q.1 < H1.size := (h k q hk).lt
end VXS
/-! ===== END ===== -/
/-! ===== BEGIN methods with a table of their own: called by a name, returning or throwing ===== -/
section VXH
/-! vx_backW, vx_callVX, vx_callSX, vx_callVW, vx_runVW, vx_runVX, vx_runSX, vx_ofWH follow the same proofs as their sisters above (Free/Laws.lean, Shelf42/LK1.lean); vx_outP calls Shelf42/NT130.lean (outThrough). -/
section
variable {l : Launch} {R : Room} {p : Program} {e : Env} {below : List Frame} {s : State} {sargs : Array Value} {y : MethodName} {len W9 : Nat}
theorem vx_backW {ws : List Cond} {rm : Room} {Pc : Array Value → State → Prop} {Qc : Array Value → State → Outcome → State → Prop} {XC : String → State → State → Prop} {mc ms : Nat} {free : Addr → Prop} {bytes : ByteArray} {maxL : Nat} {ret : Option FieldType} {hh : List (Nat × Nat × Nat × Nat)}
    (hM : vx_Met l y ws rm Pc Qc XC mc ms free) (hblind : FrameBlind Pc) (hrc : rm.cells = mc) (hrs : rm.slots = ms)
    (hframes : rm.frames + 1 ≤ R.frames) (hlocals : W9 + (maxL + 11) + rm.locals ≤ R.locals)
    (hws : ∀ w ∈ ws, ∀ a' U, s.WarmedH U.vm → w.before a' U = true) (hcode : Cond.codeWith y bytes maxL ret hh ∈ ws) (hinit : ∀ a' U, s.WarmedH U.vm → (Cond.initialized y.cls).before a' U = true) :
    vx_Back l R p e below s sargs y len W9 (PreOf R mc ms Pc) (PostOf Qc mc ms free) (vx_Post XC mc ms free) := by
  intro m meth c A g ig mk a X hg hsize hdg hW hn hp
  have h1 : (headSpec ws rm).pre.before a A.U = true := atoms_intro fun w hw => hws w hw _ _ X.warmed
  have h2 : (Cond.codeWith y bytes maxL ret hh).before a A.U = true := hws _ hcode _ _ X.warmed
  have h3 : (Cond.initialized y.cls).before a A.U = true := hinit _ _ X.warmed
  have h4 : A.cells + (headSpec ws rm).room.cells ≤ R.cells := by rw [show (headSpec ws rm).room.cells = mc from hrc]; exact hp.1
  have h5 : A.slots + (headSpec ws rm).room.slots ≤ R.slots := by rw [show (headSpec ws rm).room.slots = ms from hrs]; exact hp.2.1
  have hPc : Pc a (A.U.calling g mk a) := hblind _ _ _ _ hp.2.2
  obtain ⟨U, Ls, c0, s0⟩ := A
  dsimp only [Pt.U, Pt.locs, Pt.cells, Pt.slots] at h1 h2 h3 h4 h5 X hn hPc ⊢
  obtain ⟨m9, methY, cY, hn9, hmY, hcY, -, hlY, -⟩ := Cond.codeWith_spec h2
  cases Option.some.inj (hn9.symm.trans hn)
  obtain ⟨kY, hkY, -⟩ := className_of_methodNamed hn
  have hinitY : kY.init = .initialized := Cond.initialized_spec (findClass_of_methodNamed hn) hkY h3
  have h : At U g.method c below := by rw [hg]; exact X.here
  have hlocals9 : W9 + (maxL + 11) + (headSpec ws rm).room.locals ≤ R.locals := hlocals
  have happ : (headSpec ws rm).appliesLoose y e.platform (U.calling g mk a) = true :=
    Spec.appliesLoose_calling (g := g) h hdg hn hkY hinitY
      (X.room_calling (g := g) (R' := (headSpec ws rm).room) hsize hmY hcY hframes (by rw [hlY]; omega) h4 h5) h1
  obtain ⟨mid, hmid⟩ := h.above
  have hfr : (U.setTop g).frames = (.java g :: mid) ++ below := by rw [State.frames_setTop' g h.top, hmid]; rfl
  obtain ⟨o, s₂, hsteps, -, hend, hq⟩ := Steps.callFree hM p X.admits X.cas X.clock (acts := []) hfr happ hPc trivial
  have hq' : vx_Q Qc XC mc ms free a (U.calling g mk a) o s₂ := hq
  rw [State.frames_setTop' g h.top] at hend
  obtain ⟨g₀, hg0⟩ := Option.isSome_iff_exists.mp h.top
  obtain ⟨r, hr⟩ := State.topJava?_eq_some.mp hg0
  have hr' : (({ U with heap := s₂.heap, slotsUsed := s₂.slotsUsed } : State).setVm s₂.vm).frames = .java g₀ :: r := hr
  rcases hq' with ⟨hqc, L, hfe, hL⟩ | ⟨q, rfl, E, ce, L, hx, hce, hcv, hcl, hW₂, hsm, hL⟩
  · obtain ⟨⟨v, rfl⟩, hW₂, e2, q2, q3, q4, q5, q6⟩ := id hfe
    have e3 : s₂ = ({ (U.calling g mk a).setFrames s₂.frames with heap := s₂.heap, slotsUsed := s₂.slotsUsed } : State).setVm s₂.vm := by
      have : s₂ = ({ s₂ with vm := (U.calling g mk a).vm } : State).setVm s₂.vm := rfl
      rw [e2] at this
      exact this
    obtain ⟨c₂, i₂, len₂, hc₂, hd₂, hf₂⟩ := hend
    have hW' : U.WarmedH s₂.vm := hW₂
    have hcc : c₂ = c := by
      have h1 : s₂.code? g.method = U.code? g.method := by
        rw [State.code?_eq, State.code?_eq, hW'.alike.method?]
      exact Option.some.inj (hc₂.symm.trans (h1.trans h.code))
    subst hcc
    have hlen : len₂ = len := by rw [hdg] at hd₂; cases hd₂; rfl
    subst hlen
    have hs₂ : s₂ = (({ U with heap := s₂.heap, slotsUsed := s₂.slotsUsed } : State).setVm s₂.vm).setTop { g with pc := g.pc + len₂, stack := v.toList ++ g.stack } := by
      refine e3.trans ?_
      rw [hf₂, State.calling_eq h.top, State.setFrames_setFrames, State.setTop_of_frames _ hr', hr]
      rfl
    have hsame : U.sameButNew ({ U with heap := s₂.heap, slotsUsed := s₂.slotsUsed } : State) L mc ms := by
      refine ⟨?_, q2, q3, q4, q5, q6⟩
      obtain ⟨t, ht, -⟩ := State.frames_cons hr
      show ({ U with heap := s₂.heap, slotsUsed := s₂.slotsUsed } : State) = { U.setFrames U.frames with heap := s₂.heap, slotsUsed := s₂.slotsUsed }
      rw [State.setFrames_self ht]
    subst hg
    refine Or.inl ⟨v, ⟨(({ U with heap := s₂.heap, slotsUsed := s₂.slotsUsed } : State).setVm s₂.vm), Ls ++ L, c0 + mc, s0 + ms⟩,
      ⟨X.admits, X.cas, X.clock, X.frames, X.room, X.hears, X.method, X.code, (X.here.setHeapUsed s₂.heap s₂.slotsUsed).setVm hW'.alike, X.tail, State.WarmedH.trans X.warmed hW', X.limits, X.bytes, X.same.trans (hsame.setVm s.vm)⟩,
      ⟨g, mk, s₂, L, rfl, rfl, hqc, rfl, hL, rfl, rfl⟩, ?_⟩
    show Steps p.tables e below _ ((({ U with heap := s₂.heap, slotsUsed := s₂.slotsUsed } : State).setVm s₂.vm).setTop { g with pc := g.pc + len₂, stack := v.toList ++ g.stack })
    rw [← hs₂]
    exact hsteps
  · obtain ⟨e2, q2, q3, q4, q5, q6⟩ := id hsm
    have e3 : s₂ = ({ (U.calling g mk a).setFrames s₂.frames with heap := s₂.heap, slotsUsed := s₂.slotsUsed } : State).setVm s₂.vm := by
      have : s₂ = ({ s₂ with vm := (U.calling g mk a).vm } : State).setVm s₂.vm := rfl
      rw [e2] at this
      exact this
    have hf₂ : s₂.frames = .throwing q :: .java g :: U.frames.tail := hend
    have hW' : U.WarmedH s₂.vm := hW₂
    have hs₂ : s₂ = ((({ U with heap := s₂.heap, slotsUsed := s₂.slotsUsed } : State).setVm s₂.vm).setTop g).pushFrame (.throwing q) := by
      refine e3.trans ?_
      rw [hf₂, State.calling_eq h.top, State.setFrames_setFrames, State.pushFrame, State.frames_setTop _ hr', State.setTop_of_frames _ hr', State.setFrames_setFrames, hr]
      rfl
    have hsame : U.sameButNew ({ U with heap := s₂.heap, slotsUsed := s₂.slotsUsed } : State) L mc ms := by
      refine ⟨?_, q2, q3, q4, q5, q6⟩
      obtain ⟨t, ht, -⟩ := State.frames_cons hr
      show ({ U with heap := s₂.heap, slotsUsed := s₂.slotsUsed } : State) = { U.setFrames U.frames with heap := s₂.heap, slotsUsed := s₂.slotsUsed }
      rw [State.setFrames_self ht]
    subst hg
    refine Or.inr ⟨q, ⟨(({ U with heap := s₂.heap, slotsUsed := s₂.slotsUsed } : State).setVm s₂.vm), Ls ++ L, c0 + mc, s0 + ms⟩,
      ⟨X.admits, X.cas, X.clock, X.frames, X.room, X.hears, X.method, X.code, (X.here.setHeapUsed s₂.heap s₂.slotsUsed).setVm hW'.alike, X.tail, State.WarmedH.trans X.warmed hW', X.limits, X.bytes, X.same.trans (hsame.setVm s.vm)⟩,
      ⟨g, mk, s₂, L, E, ce, rfl, rfl, hx, hce, hcv, hcl, rfl, hL, rfl, rfl⟩, ?_⟩
    show Steps p.tables e below _ (((({ U with heap := s₂.heap, slotsUsed := s₂.slotsUsed } : State).setVm s₂.vm).setTop g).pushFrame (.throwing q))
    rw [← hs₂]
    exact hsteps
end
variable {p : Program} {l : Launch} {e : Env} {R : Room} {s : State} {m : MethodId} {args : Array Value} {below : List Frame} {meth : Method} {c : Code} {T : State} {H : Heap} {locs : List Loc} {cells slots : Nat}
theorem vx_callVX (X : Stand p l e R s m args below meth c T locs cells slots) (hexec : p.tables.exec = Jvm.exec) {own C : String} {index : Nat} {y : MethodName} {bytes : ByteArray} {maxL : Nat} {ret : Option FieldType} {hh : List (Nat × Nat × Nat × Nat)}
    (hown : s.vm.findClass own = some m.cls) (hlink : (Cond.methodLink own index y).before args s = true) (hinst : (Cond.instanceMethod y).before args s = true) (hsel : (Cond.selects C y y).before args s = true)
    (hcode : (Cond.codeWith y bytes maxL ret hh).before args s = true) (hy : y.cls ≠ "java/lang/invoke/MethodHandle" ∧ y.cls ≠ "java/lang/invoke/VarHandle")
    {W9 : Nat} {Pre : Pt → Array Value → Prop} {Post : Pt → Array Value → Option Value → Pt → Prop} {PostX : Pt → Array Value → Addr → Pt → Prop} (hK : vx_Back l R p e below s args y 3 W9 Pre Post PostX)
    {b : Addr} {cellB : Cell} (hcell : T.heap[b]? = some cellB) (hobj : cellB.vm.isStatics = false) (hcls : s.vm.findClass C = some cellB.cls)
    {g : JFrame} (hg : g.method = m) (hsize : g.locals.size = c.maxLocals) {argsL rest : List Value} (hlen : ∀ sig, parseMethodDescriptor y.desc = some sig → argsL.length = sig.parameters.length)
    (hstack : g.stack = argsL.reverse ++ .ref b :: rest) (hW : 2 * g.monitorRoom + (rest.map fun v => v.category).sum ≤ W9) (hdg : decode c.code g.pc = .ok (.invokevirtual index, 3))
    (hpre : ∀ vm₁, s.WarmedH vm₁ → Pre ⟨T.setVm vm₁, locs, cells, slots⟩ (Value.ref b :: argsL).toArray) :
    (∃ (v : Option Value) (vm₁ : Vm) (B : Pt), s.WarmedH vm₁ ∧ Stand p l e R s m args below meth c B.U B.locs B.cells B.slots ∧ Post ⟨T.setVm vm₁, locs, cells, slots⟩ (Value.ref b :: argsL).toArray v B ∧
      ∀ target, Steps p.tables e below (B.U.setTop { g with pc := g.pc + 3, stack := v.toList ++ rest }) target → Steps p.tables e below (T.setTop g) target) ∨
    (∃ (q : Addr) (vm₁ : Vm) (B : Pt), s.WarmedH vm₁ ∧ Stand p l e R s m args below meth c B.U B.locs B.cells B.slots ∧ PostX ⟨T.setVm vm₁, locs, cells, slots⟩ (Value.ref b :: argsL).toArray q B ∧
      Steps p.tables e below (T.setTop g) ((B.U.setTop { g with stack := rest }).pushFrame (.throwing q))) := by
  obtain ⟨mk, methM, hnamed, hmethM, hstM, habM⟩ := Cond.instanceMethod_spec hinst
  obtain ⟨m8, methM', cM, hn8, hmethM', -, -, -, -, -, -, hsigM⟩ := Cond.codeWith_spec hcode
  cases Option.some.inj (hn8.symm.trans hnamed)
  cases hmethM.symm.trans hmethM'
  obtain ⟨c2, r2, m2, q1, q2, q3, q4, kP, hkP, hkPi⟩ := Cond.selects_spec hsel
  cases hcls.symm.trans q1
  cases (State.methodFound?_of_named hnamed hy).symm.trans q2
  cases hnamed.symm.trans q3
  have hselP : selectMethod e.platform s.vm cellB.cls mk = .method mk := by rw [Launch.admits_selectMethod X.admits]; exact q4
  obtain ⟨vm₁, X₁, hstep₁⟩ := X.invokevirtual hexec hown hlink hnamed hmethM hstM hkP hkPi hy (a := b) (cell := cellB) hcell
    (fun z h => by rw [h] at hobj; cases hobj) hselP hmethM habM hkP hkPi (g := g) hg (argsL := argsL) (rest := rest) (hlen _ hsigM) hstack hdg
  rcases hK m meth c ⟨T.setVm vm₁, locs, cells, slots⟩ { g with stack := rest } (.invokevirtual index) mk (Value.ref b :: argsL).toArray X₁ hg hsize hdg hW (X₁.named hnamed) (hpre vm₁ X₁.warmed) with ⟨v, B, X', hpost, hsteps⟩ | ⟨q, B, X', hpost, hsteps⟩
  · exact Or.inl ⟨v, vm₁, B, X₁.warmed, X', hpost, fun target h => hstep₁ _ fun acts => by rw [doInvoke_state]; exact hsteps.trans h⟩
  · exact Or.inr ⟨q, vm₁, B, X₁.warmed, X', hpost, hstep₁ _ fun acts => by rw [doInvoke_state]; exact hsteps⟩
theorem vx_callSX (X : Stand p l e R s m args below meth c T locs cells slots) (hexec : p.tables.exec = Jvm.exec) {own : String} {index : Nat} {y : MethodName} {bytes : ByteArray} {maxL : Nat} {ret : Option FieldType} {hh : List (Nat × Nat × Nat × Nat)}
    (hown : s.vm.findClass own = some m.cls) (hlink : (Cond.methodLink own index y).before args s = true) (hstat : (Cond.static y).before args s = true) (hinit : (Cond.initialized y.cls).before args s = true)
    (hcode : (Cond.codeWith y bytes maxL ret hh).before args s = true) (hy : y.cls ≠ "java/lang/invoke/MethodHandle" ∧ y.cls ≠ "java/lang/invoke/VarHandle")
    {W9 : Nat} {Pre : Pt → Array Value → Prop} {Post : Pt → Array Value → Option Value → Pt → Prop} {PostX : Pt → Array Value → Addr → Pt → Prop} (hK : vx_Back l R p e below s args y 3 W9 Pre Post PostX)
    {g : JFrame} (hg : g.method = m) (hsize : g.locals.size = c.maxLocals) {argsL rest : List Value} (hlen : ∀ sig, parseMethodDescriptor y.desc = some sig → argsL.length = sig.parameters.length)
    (hstack : g.stack = argsL.reverse ++ rest) (hW : 2 * g.monitorRoom + (rest.map fun v => v.category).sum ≤ W9) (hdg : decode c.code g.pc = .ok (.invokestatic index, 3))
    (hpre : ∀ vm₁, s.WarmedH vm₁ → Pre ⟨T.setVm vm₁, locs, cells, slots⟩ argsL.toArray) :
    (∃ (v : Option Value) (vm₁ : Vm) (B : Pt), s.WarmedH vm₁ ∧ Stand p l e R s m args below meth c B.U B.locs B.cells B.slots ∧ Post ⟨T.setVm vm₁, locs, cells, slots⟩ argsL.toArray v B ∧
      ∀ target, Steps p.tables e below (B.U.setTop { g with pc := g.pc + 3, stack := v.toList ++ rest }) target → Steps p.tables e below (T.setTop g) target) ∨
    (∃ (q : Addr) (vm₁ : Vm) (B : Pt), s.WarmedH vm₁ ∧ Stand p l e R s m args below meth c B.U B.locs B.cells B.slots ∧ PostX ⟨T.setVm vm₁, locs, cells, slots⟩ argsL.toArray q B ∧
      Steps p.tables e below (T.setTop g) ((B.U.setTop { g with stack := rest }).pushFrame (.throwing q))) := by
  obtain ⟨mk, methM, cM, hnamed, hmethM, -, -, -, -, -, -, hsigM⟩ := Cond.codeWith_spec hcode
  have hstatic : methM.isStatic = true := Cond.static_spec hnamed hmethM hstat
  obtain ⟨kP, hkP, -⟩ := className_of_methodNamed hnamed
  have hinitP : kP.init = .initialized := Cond.initialized_spec (findClass_of_methodNamed hnamed) hkP hinit
  obtain ⟨vm₁, X₁, hstep₁⟩ := X.invokestatic hexec hown hlink hnamed hmethM hstatic hkP hinitP hy (g := g) hg (argsL := argsL) (rest := rest) (hlen _ hsigM) hstack hdg
  rcases hK m meth c ⟨T.setVm vm₁, locs, cells, slots⟩ { g with stack := rest } (.invokestatic index) mk argsL.toArray X₁ hg hsize hdg hW (X₁.named hnamed) (hpre vm₁ X₁.warmed) with ⟨v, B, X', hpost, hsteps⟩ | ⟨q, B, X', hpost, hsteps⟩
  · exact Or.inl ⟨v, vm₁, B, X₁.warmed, X', hpost, fun target h => hstep₁ _ fun acts => by rw [doInvoke_state]; exact hsteps.trans h⟩
  · exact Or.inr ⟨q, vm₁, B, X₁.warmed, X', hpost, hstep₁ _ fun acts => by rw [doInvoke_state]; exact hsteps⟩
theorem vx_callVW (X : Stand p l e R s m args below meth c T locs cells slots) (hexec : p.tables.exec = Jvm.exec) {own C : String} {index : Nat} {y : MethodName} {bytes : ByteArray} {maxL : Nat} {ret : Option FieldType} {hh : List (Nat × Nat × Nat × Nat)}
    (hown : s.vm.findClass own = some m.cls) (hlink : (Cond.methodLink own index y).before args s = true) (hinst : (Cond.instanceMethod y).before args s = true) (hsel : (Cond.selects C y y).before args s = true)
    (hcode : (Cond.codeWith y bytes maxL ret hh).before args s = true) (hy : y.cls ≠ "java/lang/invoke/MethodHandle" ∧ y.cls ≠ "java/lang/invoke/VarHandle")
    {W9 : Nat} {Pre : Pt → Array Value → Prop} {Post : Pt → Array Value → Option Value → Pt → Prop} (hK : Back l R p e below s args y 3 W9 Pre Post)
    {b : Addr} {cellB : Cell} (hcell : T.heap[b]? = some cellB) (hobj : cellB.vm.isStatics = false) (hcls : s.vm.findClass C = some cellB.cls)
    {g : JFrame} (hg : g.method = m) (hsize : g.locals.size = c.maxLocals) {argsL rest : List Value} (hlen : ∀ sig, parseMethodDescriptor y.desc = some sig → argsL.length = sig.parameters.length)
    (hstack : g.stack = argsL.reverse ++ .ref b :: rest) (hW : 2 * g.monitorRoom + (rest.map fun v => v.category).sum ≤ W9) (hdg : decode c.code g.pc = .ok (.invokevirtual index, 3))
    (hpre : ∀ vm₁, s.WarmedH vm₁ → Pre ⟨T.setVm vm₁, locs, cells, slots⟩ (Value.ref b :: argsL).toArray) :
    ∃ (v : Option Value) (vm₁ : Vm) (B : Pt), s.WarmedH vm₁ ∧ Stand p l e R s m args below meth c B.U B.locs B.cells B.slots ∧ Post ⟨T.setVm vm₁, locs, cells, slots⟩ (Value.ref b :: argsL).toArray v B ∧
      ∀ target, Steps p.tables e below (B.U.setTop { g with pc := g.pc + 3, stack := v.toList ++ rest }) target → Steps p.tables e below (T.setTop g) target := by
  obtain ⟨mk, methM, hnamed, hmethM, hstM, habM⟩ := Cond.instanceMethod_spec hinst
  obtain ⟨m8, methM', cM, hn8, hmethM', -, -, -, -, -, -, hsigM⟩ := Cond.codeWith_spec hcode
  cases Option.some.inj (hn8.symm.trans hnamed)
  cases hmethM.symm.trans hmethM'
  obtain ⟨c2, r2, m2, q1, q2, q3, q4, kP, hkP, hkPi⟩ := Cond.selects_spec hsel
  cases hcls.symm.trans q1
  cases (State.methodFound?_of_named hnamed hy).symm.trans q2
  cases hnamed.symm.trans q3
  have hselP : selectMethod e.platform s.vm cellB.cls mk = .method mk := by rw [Launch.admits_selectMethod X.admits]; exact q4
  obtain ⟨vm₁, X₁, hstep₁⟩ := X.invokevirtual hexec hown hlink hnamed hmethM hstM hkP hkPi hy (a := b) (cell := cellB) hcell
    (fun z h => by rw [h] at hobj; cases hobj) hselP hmethM habM hkP hkPi (g := g) hg (argsL := argsL) (rest := rest) (hlen _ hsigM) hstack hdg
  obtain ⟨v, B, X', hpost, hsteps⟩ := hK m meth c ⟨T.setVm vm₁, locs, cells, slots⟩ { g with stack := rest } (.invokevirtual index) mk (Value.ref b :: argsL).toArray X₁ hg hsize hdg hW (X₁.named hnamed) (hpre vm₁ X₁.warmed)
  exact ⟨v, vm₁, B, X₁.warmed, X', hpost, fun target h => hstep₁ _ fun acts => by rw [doInvoke_state]; exact hsteps.trans h⟩
abbrev vx_CVW (R : Room) (s : State) (args : Array Value) (own C : String) (index : Nat) (y : MethodName) (bytes : ByteArray) (maxL : Nat) (ret : Option FieldType) (hh : List (Nat × Nat × Nat × Nat)) (ws : List Cond) (rm : Room) (mc ms n : Nat) : Prop :=
  (rm.cells = mc ∧ rm.slots = ms ∧ rm.frames + 1 ≤ R.frames ∧ 8 + (maxL + 11) + rm.locals ≤ R.locals ∧ (∀ w ∈ ws, ∀ (a' : Array Value) (U : State), s.WarmedH U.vm → w.before a' U = true) ∧ Cond.codeWith y bytes maxL ret hh ∈ ws) ∧
  (Cond.codeWith y bytes maxL ret hh).before args s = true ∧ (Cond.initialized y.cls).before args s = true ∧ (y.cls ≠ "java/lang/invoke/MethodHandle" ∧ y.cls ≠ "java/lang/invoke/VarHandle") ∧
  (∀ sig, parseMethodDescriptor y.desc = some sig → n = sig.parameters.length) ∧ (Cond.methodLink own index y).before args s = true ∧ (Cond.instanceMethod y).before args s = true ∧ (Cond.selects C y y).before args s = true
theorem vx_cwVW {own C : String} {index maxL mc ms : Nat} {y : MethodName} {bytes : ByteArray} {ret : Option FieldType} {hh : List (Nat × Nat × Nat × Nat)} {Ts ws ws' : List Cond} {rm : Room} (n : Nat) (ht : ∀ w ∈ Ts, w.before args s = true) (hT : GoodIn Ts (wsV own index C y ws)) (hw : ws = Cond.codeWith y bytes maxL ret hh :: ws') (hrc : rm.cells = mc) (hrs : rm.slots = ms)
    (hd : y.cls = C ∧ y.cls ≠ "java/lang/invoke/MethodHandle" ∧ y.cls ≠ "java/lang/invoke/VarHandle" ∧ (parseMethodDescriptor y.desc).map (fun d => d.parameters.length) = some n) (hR : rm.frames + 1 ≤ R.frames ∧ 8 + (maxL + 11) + rm.locals ≤ R.locals) :
    vx_CVW R s args own C index y bytes maxL ret hh ws rm mc ms n := by
  obtain ⟨hC, hd⟩ := hd
  subst hC
  have ok : ∀ w ∈ wsV own index y.cls y ws, w.before args s = true := fun w h => ht w (hT w h).1
  have hG : GoodIn Ts ws := fun w h => hT w (by unfold wsV; exact List.mem_append_right _ h)
  have hc : Cond.codeWith y bytes maxL ret hh ∈ ws := by rw [hw]; exact List.mem_cons_self
  refine ⟨⟨hrc, hrs, hR.1, hR.2, pay_in ht hG, hc⟩, ht _ (hG _ hc).1, ok _ (by simp [wsV]), ⟨hd.1, hd.2.1⟩, fun sig h => ?_, ok _ (by simp [wsV]), ok _ (by simp [wsV]), ok _ (by simp [wsV])⟩
  have h2 := hd.2.2
  rw [h] at h2
  exact (Option.some.inj h2).symm
theorem vx_runVW {y : MethodName} {bytes cc : ByteArray} {maxL nL mc ms n index : Nat} {ret : Option FieldType} {hh : List (Nat × Nat × Nat × Nat)} {ws : List Cond} {rm : Room} {Pc : Array Value → State → Prop} {Qc : Array Value → State → Outcome → State → Prop} {free : Addr → Prop} {Ts : List Cond} {own C : String} {b : Addr} {As rest : List Value} {g : JFrame}
    (S : CallFix p m c cc nL s args Ts own) (hM : Met l y ws rm Pc Qc mc ms free) (cw : vx_CVW R s args own C index y bytes maxL ret hh ws rm mc ms n) (hp : PreV s H C b Pc As)
    (hg : g.method = m) (hn : As.length = n) (hsize : g.locals.size = nL) (hstack : g.stack = As.reverse ++ .ref b :: rest) (hW : 2 * g.monitorRoom + (rest.map fun v => v.category).sum ≤ 8) (hdg : decode cc g.pc = .ok (.invokevirtual index, 3)) (hf : cells + mc ≤ R.cells ∧ slots + ms ≤ R.slots) :
    va_Run p l e R s m args below meth c H locs cells slots mc ms g rest (Qc (Value.ref b :: As).toArray) free := by
  obtain ⟨⟨hrc, hrs, hfr, hlo, hws, hcw⟩, hcode, hini, hy, hlen, hl, hin, hse⟩ := cw
  have hK : Back l R p e below s args y 3 8 (PreOf R mc ms Pc) (PostOf Qc mc ms free) := va_backW (hh := hh) (bytes := bytes) (maxL := maxL) (ret := ret) hM hp.1 hrc hrs hfr hlo hws hcw (fun a' U hW => word_at hW (Or.inl (by first | rfl | simp [Cond.onTables, Cond.keeps, Cond.steady])) hini)
  obtain ⟨hx, hb, hml, ho, -⟩ := S
  obtain ⟨-, ⟨cellB, hcB, hoB, hclB⟩, hPc⟩ := hp
  intro T hT X
  obtain ⟨v, vm₁, ⟨U', l2, c2, s2⟩, hW₁, X', ⟨g', mk, t, L, e1, e2, hq, h1, hL, h2, h3⟩, st⟩ := vx_callVW X hx (C := C) (hh := hh) (bytes := bytes) (maxL := maxL) (ret := ret) ho hl hin hse hcode hy hK (by rw [hT]; exact hcB) hoB hclB hg (hsize.trans hml.symm) (argsL := As) (rest := rest) (fun sig h => hn.trans (hlen sig h)) hstack hW (by rw [hb]; exact hdg)
    (fun vm₁ hW₁ => ⟨hf.1, hf.2, hPc (T.setVm vm₁) hT hW₁⟩)
  dsimp only [Pt.U, Pt.locs, Pt.cells, Pt.slots] at X' e1 e2 h1 h2 h3 st
  subst h1; subst h2; subst h3
  exact ⟨v, (T.setVm vm₁).calling g' mk (Value.ref b :: As).toArray, t, U', L, hT, X', hL, e1, e2, hq, st⟩
section
variable {y : MethodName} {bytes cc : ByteArray} {maxL nL mc ms n index : Nat} {ret : Option FieldType} {ws : List Cond} {rm : Room} {Pc : Array Value → State → Prop} {Qc : Array Value → State → Outcome → State → Prop} {XC : String → State → State → Prop} {free : Addr → Prop} {Ts : List Cond} {own C : String} {b : Addr} {As rest : List Value} {g : JFrame}
theorem vx_runVX {hh : List (Nat × Nat × Nat × Nat)} (S : CallFix p m c cc nL s args Ts own) (hM : vx_Met l y ws rm Pc Qc XC mc ms free) (cw : vx_CVW R s args own C index y bytes maxL ret hh ws rm mc ms n) (hp : PreV s H C b Pc As)
    (hg : g.method = m) (hn : As.length = n) (hsize : g.locals.size = nL) (hstack : g.stack = As.reverse ++ .ref b :: rest) (hW : 2 * g.monitorRoom + (rest.map fun v => v.category).sum ≤ 8) (hdg : decode cc g.pc = .ok (.invokevirtual index, 3)) (hf : cells + mc ≤ R.cells ∧ slots + ms ≤ R.slots) :
    vx_Run p l e R s m args below meth c H locs cells slots mc ms g rest (Qc (Value.ref b :: As).toArray) XC free := by
  obtain ⟨⟨hrc, hrs, hfr, hlo, hws, hcw⟩, hcode, hini, hy, hlen, hl, hin, hse⟩ := cw
  have hK : vx_Back l R p e below s args y 3 8 (PreOf R mc ms Pc) (PostOf Qc mc ms free) (vx_Post XC mc ms free) := vx_backW (hh := hh) (bytes := bytes) (maxL := maxL) (ret := ret) hM hp.1 hrc hrs hfr hlo hws hcw (fun a' U hW => word_at hW (Or.inl (by first | rfl | simp [Cond.onTables, Cond.keeps, Cond.steady])) hini)
  obtain ⟨hx, hb, hml, ho, -⟩ := S
  obtain ⟨-, ⟨cellB, hcB, hoB, hclB⟩, hPc⟩ := hp
  intro T hT X
  rcases vx_callVX X hx (C := C) (hh := hh) (bytes := bytes) (maxL := maxL) (ret := ret) ho hl hin hse hcode hy hK (by rw [hT]; exact hcB) hoB hclB hg (hsize.trans hml.symm) (argsL := As) (rest := rest) (fun sig h => hn.trans (hlen sig h)) hstack hW (by rw [hb]; exact hdg)
    (fun vm₁ hW₁ => ⟨hf.1, hf.2, hPc (T.setVm vm₁) hT hW₁⟩) with ⟨v, vm₁, ⟨U', l2, c2, s2⟩, hW₁, X', ⟨g', mk, t, L, e1, e2, hq, h1, hL, h2, h3⟩, st⟩ | ⟨q, vm₁, ⟨U', l2, c2, s2⟩, hW₁, X', ⟨g', mk, t, L, E, ce, e1, e2, hq, hce, hcv, hcl, h1, hL, h2, h3⟩, st⟩
  · dsimp only [Pt.U, Pt.locs, Pt.cells, Pt.slots] at X' e1 e2 h1 h2 h3 st
    subst h1; subst h2; subst h3
    exact Or.inl ⟨v, (T.setVm vm₁).calling g' mk (Value.ref b :: As).toArray, t, U', L, hT, X', hL, e1, e2, hq, st⟩
  · dsimp only [Pt.U, Pt.locs, Pt.cells, Pt.slots] at X' e1 e2 h1 h2 h3 st hcl
    subst h1; subst h2; subst h3
    exact Or.inr ⟨q, (T.setVm vm₁).calling g' mk (Value.ref b :: As).toArray, t, U', L, E, ce, hT, X', hL, e1, e2, hq, hce, hcv, vx_cls hW₁ hcl, st⟩
theorem vx_runSX {hh : List (Nat × Nat × Nat × Nat)} (S : CallFix p m c cc nL s args Ts own) (hM : vx_Met l y ws rm Pc Qc XC mc ms free) (cw : vx_CSW R s args own index y bytes maxL ret hh ws rm mc ms n) (hp : PreS s H Pc As)
    (hg : g.method = m) (hn : As.length = n) (hsize : g.locals.size = nL) (hstack : g.stack = As.reverse ++ rest) (hW : 2 * g.monitorRoom + (rest.map fun v => v.category).sum ≤ 8) (hdg : decode cc g.pc = .ok (.invokestatic index, 3)) (hf : cells + mc ≤ R.cells ∧ slots + ms ≤ R.slots) :
    vx_Run p l e R s m args below meth c H locs cells slots mc ms g rest (Qc As.toArray) XC free := by
  obtain ⟨⟨hrc, hrs, hfr, hlo, hws, hcw⟩, hcode, hini, hy, hlen, hl, hstt⟩ := cw
  have hK : vx_Back l R p e below s args y 3 8 (PreOf R mc ms Pc) (PostOf Qc mc ms free) (vx_Post XC mc ms free) := vx_backW (hh := hh) (bytes := bytes) (maxL := maxL) (ret := ret) hM hp.1 hrc hrs hfr hlo hws hcw (fun a' U hW => word_at hW (Or.inl (by first | rfl | simp [Cond.onTables, Cond.keeps, Cond.steady])) hini)
  obtain ⟨hx, hb, hml, ho, -⟩ := S
  intro T hT X
  rcases vx_callSX X hx (hh := hh) (bytes := bytes) (maxL := maxL) (ret := ret) ho hl hstt hini hcode hy hK hg (hsize.trans hml.symm) (argsL := As) (rest := rest) (fun sig h => hn.trans (hlen sig h)) hstack hW (by rw [hb]; exact hdg)
    (fun vm₁ hW₁ => ⟨hf.1, hf.2, hp.2 (T.setVm vm₁) hT hW₁⟩) with ⟨v, vm₁, ⟨U', l2, c2, s2⟩, hW₁, X', ⟨g', mk, t, L, e1, e2, hq, h1, hL, h2, h3⟩, st⟩ | ⟨q, vm₁, ⟨U', l2, c2, s2⟩, hW₁, X', ⟨g', mk, t, L, E, ce, e1, e2, hq, hce, hcv, hcl, h1, hL, h2, h3⟩, st⟩
  · dsimp only [Pt.U, Pt.locs, Pt.cells, Pt.slots] at X' e1 e2 h1 h2 h3 st
    subst h1; subst h2; subst h3
    exact Or.inl ⟨v, (T.setVm vm₁).calling g' mk As.toArray, t, U', L, hT, X', hL, e1, e2, hq, st⟩
  · dsimp only [Pt.U, Pt.locs, Pt.cells, Pt.slots] at X' e1 e2 h1 h2 h3 st hcl
    subst h1; subst h2; subst h3
    exact Or.inr ⟨q, (T.setVm vm₁).calling g' mk As.toArray, t, U', L, E, ce, hT, X', hL, e1, e2, hq, hce, hcv, vx_cls hW₁ hcl, st⟩
end
end VXH
theorem vx_ofWH {l : Launch} {y : MethodName} {ws ws' : List Cond} {rm : Room} {Pc : Array Value → State → Prop} {Qc : Array Value → State → Outcome → State → Prop} {XC : String → State → State → Prop} {mc ms : Nat} {free : Addr → Prop} {cc : ByteArray} {maxL : Nat} {ret : Option FieldType} {hh : List (Nat × Nat × Nat × Nat)}
    (hy : plainName y.cls = true) (hw : ws = Cond.codeWith y cc maxL ret hh :: ws')
    (body : ∀ p e s m args below meth c s₁, BodyLoose p l y (headSpec ws rm) cc maxL ret e s m args below meth c s₁ → c.maxLocals = maxL → Pc args s →
      W p l e (headSpec ws rm).room s m args below meth c s.heap [] 0 0 (vx_MQ below Qc XC args s mc ms free) (entryFrame m args maxL)) : vx_Met l y ws rm Pc Qc XC mc ms free := by
  refine MetFree.of_bodyS (code := cc) (maxLocals := maxL) (ret := ret) hy ?_ ?_
  · intro args s m h hn
    obtain ⟨m9, meth, c, hn9, h1, h2, h3, h4, -, h5, h6, -⟩ := Cond.codeWith_spec (atoms_spec (ws := ws) h _ (by rw [hw]; exact List.mem_cons_self))
    cases hn.symm.trans hn9
    exact ⟨meth, c, h1, h2, h3, h4, h5, h6⟩
  · intro p e s m args below meth c s₁ B hml hP _
    have hh0 : s₁.heap = s.heap := by rw [B.state]; rfl
    obtain ⟨t, a1, o, b1, b2, b3⟩ := body p e s m args below meth c s₁ B hml hP s₁ hh0 (Stand.of_body B)
    exact ⟨t, o, a1, b1, b2, b3⟩
/-! ===== END ===== -/
end
section
/-! THE ABSTRACT STORE: cells are named by numbers; ad carries a name to its address; the store is four functions: which names are there, their ints, their references (names), their longs. The kind of a name is fixed: an object of a class, or an array of a type and a length. -/
/-- a value by names: its references are names -/
def zv (ad : Nat → Nat) (v : Value) : Value := match v with
  | .ref n => .ref (ad n)
  | w => w
def zq (ad : Nat → Nat) (q : Nat × Value) : Nat × Value := (q.1, zv ad q.2)
theorem zv_cat (ad : Nat → Nat) (v : Value) : (zv ad v).category = v.category := by cases v <;> rfl
theorem zv_rf (ad : Nat → Nat) (r : Option Nat) : zv ad (va_rf r) = va_rf (r.map ad) := by cases r <;> rfl
abbrev zS : Type := (Nat → Bool) × (Nat → Nat → Int32) × (Nat → Nat → Option Nat) × (Nat → Nat → Int64)
/-- the kinds: of a name (class number, or array type and length), whether a field is a reference, how many fields a class has -/
abbrev zK : Type := (Nat → Nat ⊕ (Nat × Nat)) × (Nat → Nat → Bool) × (Nat → Nat)
def z2 {α : Type} (f : Nat → Nat → α) (n k : Nat) (x : α) : Nat → Nat → α := fun a b => if a = n ∧ b = k then x else f a b
theorem z2_s {α : Type} {f : Nat → Nat → α} {n k : Nat} {x : α} : z2 f n k x n k = x := if_pos ⟨rfl, rfl⟩
theorem z2_n {α : Type} {f : Nat → Nat → α} {n k a b : Nat} {x : α} (h : a ≠ n ∨ b ≠ k) : z2 f n k x a b = f a b := if_neg (fun q => h.elim (fun h => h q.1) (fun h => h q.2))
/-- the store with one int, one reference, one long written -/
def zsi (S : zS) (n k : Nat) (x : Int32) : zS := (S.1, z2 S.2.1 n k x, S.2.2)
def zsp (S : zS) (n k : Nat) (r : Option Nat) : zS := (S.1, S.2.1, z2 S.2.2.1 n k r, S.2.2.2)
def zsl (S : zS) (n k : Nat) (x : Int64) : zS := (S.1, S.2.1, S.2.2.1, z2 S.2.2.2 n k x)
def zo (S : zS) (v : Value) : Prop := match v with
  | .ref n => n = 0 ∨ S.1 n = true
  | _ => True
def zok (S : zS) (L : List (Nat × Value)) (st : List Value) : Prop := (∀ q ∈ L, zo S q.2) ∧ ∀ v ∈ st, zo S v
theorem zok.c {S : zS} {L : List (Nat × Value)} {st : List Value} {v : Value} (h : zok S L st) (hv : zo S v) : zok S L (v :: st) := ⟨h.1, fun w hw => (List.mem_cons.mp hw).elim (fun e => by rw [e]; exact hv) (h.2 w)⟩
theorem zok.t {S : zS} {L : List (Nat × Value)} {st : List Value} {v : Value} (h : zok S L (v :: st)) : zok S L st := ⟨h.1, fun w hw => h.2 w (List.mem_cons_of_mem _ hw)⟩
theorem zok.h {S : zS} {L : List (Nat × Value)} {st : List Value} {v : Value} (h : zok S L (v :: st)) : zo S v := h.2 v List.mem_cons_self
theorem zok.l {S : zS} {L : List (Nat × Value)} {st : List Value} (h : zok S L st) {j i : Nat} {v : Value} (hj : L[j]? = some (i, v)) : zo S v := h.1 (i, v) (List.mem_of_getElem? hj)
def zf (i : Nat) : Nat × Value → Bool := fun q => !(q.1 == i) && !(q.1 + 1 == i && q.2.category == 2)
theorem zok.s {S : zS} {L L' : List (Nat × Value)} {st : List Value} {v : Value} {i : Nat} (h : zok S L st) (hv : zo S v) (hl : (i, v) :: L.filter (zf i) = L') : zok S L' st := by
  subst hl
  refine ⟨fun q hq => ?_, h.2⟩
  rcases List.mem_cons.mp hq with rfl | hq
  · exact hv
  · exact h.1 q (List.mem_filter.mp hq).1
theorem zq_at {ad : Nat → Nat} {L : List (Nat × Value)} {j i : Nat} {v : Value} (h : L[j]? = some (i, v)) : (L.map (zq ad))[j]? = some (i, zv ad v) := by
  rw [List.getElem?_map, h]; rfl
theorem zq_filter (ad : Nat → Nat) (i : Nat) (L : List (Nat × Value)) : (L.map (zq ad)).filter (fun q => !(q.1 == i) && !(q.1 + 1 == i && q.2.category == 2)) = (L.filter (zf i)).map (zq ad) := by
  induction L with
  | nil => rfl
  | cons q L ih =>
    have e : (!((zq ad q).1 == i) && !((zq ad q).1 + 1 == i && (zq ad q).2.category == 2)) = zf i q := by
      show (!(q.1 == i) && !(q.1 + 1 == i && (zv ad q.2).category == 2)) = _
      rw [zv_cat]; rfl
    rw [List.map_cons, List.filter_cons, List.filter_cons, e, ih]
    by_cases h : zf i q = true
    · rw [if_pos h, if_pos h, List.map_cons]
    · rw [if_neg h, if_neg h]
theorem zq_store {ad : Nat → Nat} {i : Nat} {v : Value} {L L' : List (Nat × Value)} (hl : (i, v) :: L.filter (zf i) = L') : (i, zv ad v) :: (L.map (zq ad)).filter (fun q => !(q.1 == i) && !(q.1 + 1 == i && q.2.category == 2)) = L'.map (zq ad) := by
  subst hl; rw [zq_filter]; rfl
/-- the fields of an object, the cell of a name -/
def zF (K : zK) (ad : Nat → Nat) (S : zS) (ci n : Nat) : List Value := (List.range (K.2.2 ci)).map (fun k => if K.2.1 ci k = true then va_rf ((S.2.2.1 n k).map ad) else .int (S.2.1 n k))
def zAr (ad : Nat → Nat) (S : zS) (t len n : Nat) : vp_A := (len, if t < 2 then .inl (S.2.1 n) else if t = 2 then .inr (.inl (S.2.2.2 n)) else .inr (.inr (.inr (.inr (fun i => (S.2.2.1 n i).map ad)))))
def zC (K : zK) (dA : Nat → ClassId) (ad : Nat → Nat) (S : zS) (n : Nat) : va_E := match K.1 n with
  | .inl ci => .inr (ci, zF K ad S ci n)
  | .inr (t, len) => .inl (dA t, zAr ad S t len n)
def zW (K : zK) (dA : Nat → ClassId) (ad : Nat → Nat) (S : zS) (dl : List Nat) : va_W := dl.map (fun n => (ad n, zC K dA ad S n))
def zext (ad : Nat → Nat) (S : zS) (ad' : Nat → Nat) (S' : zS) : Prop := (∀ n, S.1 n = true → S'.1 n = true ∧ ad' n = ad n) ∧ ad' 0 = ad 0
theorem zext.rf {ad : Nat → Nat} {S : zS} : zext ad S ad S := ⟨fun _ h => ⟨h, rfl⟩, rfl⟩
theorem zext.tr {a1 a2 a3 : Nat → Nat} {S1 S2 S3 : zS} (h : zext a1 S1 a2 S2) (g : zext a2 S2 a3 S3) : zext a1 S1 a3 S3 := ⟨fun n hn => ⟨(g.1 n (h.1 n hn).1).1, ((g.1 n (h.1 n hn).1).2).trans (h.1 n hn).2⟩, g.2.trans h.2⟩
def zH (D : va_G) (cl : List vw_C) (K : zK) (dA : Nat → ClassId) (A : Nat → Prop) (O : (Nat → Nat) × zS) (ad : Nat → Nat) (S : zS) (H : Heap) : Prop :=
  zext O.1 O.2 ad S ∧ (∀ n k x, S.2.2.1 n k = some x → S.1 x = true) ∧ (∀ n, S.1 n = false → ∀ k, S.2.1 n k = 0 ∧ S.2.2.1 n k = none ∧ S.2.2.2 n k = 0) ∧ S.1 0 = false ∧
  ∃ dl : List Nat, dl.Nodup ∧ (∀ n, n ∈ dl ↔ S.1 n = true) ∧ va_P D cl (zW K dA ad S dl) H ∧ va_D A (zW K dA ad S dl)
theorem zC_o {K : zK} {dA : Nat → ClassId} {ad : Nat → Nat} {S : zS} {n ci : Nat} (h : K.1 n = .inl ci) : zC K dA ad S n = .inr (ci, zF K ad S ci n) := by unfold zC; rw [h]
theorem zC_a {K : zK} {dA : Nat → ClassId} {ad : Nat → Nat} {S : zS} {n t len : Nat} (h : K.1 n = .inr (t, len)) : zC K dA ad S n = .inl (dA t, zAr ad S t len n) := by unfold zC; rw [h]
theorem zW_at {K : zK} {dA : Nat → ClassId} {ad : Nat → Nat} {S : zS} {dl : List Nat} {i n : Nat} (hi : dl[i]? = some n) : (zW K dA ad S dl)[i]? = some (ad n, zC K dA ad S n) := by
  unfold zW; rw [List.getElem?_map, hi]; rfl
theorem zF_i {K : zK} {ad : Nat → Nat} {S : zS} {ci n k : Nat} (hk : k < K.2.2 ci) (h : K.2.1 ci k = false) : (zF K ad S ci n)[k]? = some (.int (S.2.1 n k)) := by
  unfold zF; rw [List.getElem?_map, List.getElem?_range hk]; simp [h]
theorem zF_r {K : zK} {ad : Nat → Nat} {S : zS} {ci n k : Nat} (hk : k < K.2.2 ci) (h : K.2.1 ci k = true) : (zF K ad S ci n)[k]? = some (va_rf ((S.2.2.1 n k).map ad)) := by
  unfold zF; rw [List.getElem?_map, List.getElem?_range hk]; simp [h]
theorem zF_len {K : zK} {ad : Nat → Nat} {S : zS} {ci n : Nat} : (zF K ad S ci n).length = K.2.2 ci := by unfold zF; simp
/-- one cell has changed -/
theorem zW_set {K : zK} {dA : Nat → ClassId} {ad : Nat → Nat} {S S' : zS} {dl : List Nat} {i n : Nat} {e : va_E} (hnd : dl.Nodup) (hi : dl[i]? = some n) (he : e = zC K dA ad S' n) (ho : ∀ q, q ≠ n → zC K dA ad S q = zC K dA ad S' q) : (zW K dA ad S dl).set i (ad n, e) = zW K dA ad S' dl := by
  apply List.ext_getElem?
  intro j
  have hil : i < dl.length := (List.getElem?_eq_some_iff.mp hi).1
  by_cases hj : i = j
  · subst hj
    rw [List.getElem?_set_self (by unfold zW; simpa using hil), zW_at hi, he]
  · rw [List.getElem?_set_ne hj]
    cases hq : dl[j]? with
    | none => unfold zW; rw [List.getElem?_map, List.getElem?_map, hq]; rfl
    | some q =>
      rw [zW_at hq, zW_at hq, ho q]
      intro e9
      subst e9
      exact hj ((List.getElem?_inj hil hnd).mp (hi.trans hq.symm))
theorem zC_oth {K : zK} {dA : Nat → ClassId} {ad : Nat → Nat} {S S' : zS} {q : Nat} (h1 : S.2.1 q = S'.2.1 q) (h2 : S.2.2.1 q = S'.2.2.1 q) (h3 : S.2.2.2 q = S'.2.2.2 q) : zC K dA ad S q = zC K dA ad S' q := by
  unfold zC
  cases K.1 q with
  | inl ci => simp only [zF, h1, h2]
  | inr a => simp only [zAr, h1, h2, h3]
theorem z2_o {α : Type} {f : Nat → Nat → α} {n k q : Nat} {x : α} (h : q ≠ n) : f q = z2 f n k x q := by
  funext b; rw [z2_n (Or.inl h)]
theorem zF_seti {K : zK} {ad : Nat → Nat} {S : zS} {ci n k : Nat} {x : Int32} (h : K.2.1 ci k = false) : (zF K ad S ci n).set k (.int x) = zF K ad (zsi S n k x) ci n := by
  apply List.ext_getElem?
  intro j
  by_cases hj : j < K.2.2 ci
  · by_cases e : k = j
    · subst e
      rw [List.getElem?_set_self (by rw [zF_len]; exact hj), zF_i hj h]
      show _ = some (Value.int (z2 S.2.1 n k x n k)); rw [z2_s]
    · rw [List.getElem?_set_ne e]
      cases hr : K.2.1 ci j with
      | false => rw [zF_i hj hr, zF_i hj hr]; show _ = some (Value.int (z2 S.2.1 n k x n j)); rw [z2_n (Or.inr (Ne.symm e))]
      | true => rw [zF_r hj hr, zF_r hj hr]; rfl
  · rw [List.getElem?_eq_none (by rw [List.length_set, zF_len]; omega), List.getElem?_eq_none (by rw [zF_len]; omega)]
theorem zF_setr {K : zK} {ad : Nat → Nat} {S : zS} {ci n k : Nat} {r : Option Nat} (h : K.2.1 ci k = true) : (zF K ad S ci n).set k (va_rf (r.map ad)) = zF K ad (zsp S n k r) ci n := by
  apply List.ext_getElem?
  intro j
  by_cases hj : j < K.2.2 ci
  · by_cases e : k = j
    · subst e
      rw [List.getElem?_set_self (by rw [zF_len]; exact hj), zF_r hj h]
      show _ = some (va_rf ((z2 S.2.2.1 n k r n k).map ad)); rw [z2_s]
    · rw [List.getElem?_set_ne e]
      cases hr : K.2.1 ci j with
      | false => rw [zF_i hj hr, zF_i hj hr]; rfl
      | true => rw [zF_r hj hr, zF_r hj hr]; show _ = some (va_rf ((z2 S.2.2.1 n k r n j).map ad)); rw [z2_n (Or.inr (Ne.symm e))]
  · rw [List.getElem?_eq_none (by rw [List.length_set, zF_len]; omega), List.getElem?_eq_none (by rw [zF_len]; omega)]
/-- the world after a write: the same names, one cell otherwise -/
theorem zH_wr {D : va_G} {cl : List vw_C} {K : zK} {dA : Nat → ClassId} {A : Nat → Prop} {O : (Nat → Nat) × zS} {ad : Nat → Nat} {S S' : zS} {H H1 : Heap} {dl : List Nat} {i n : Nat} {e : va_E} (hH : zH D cl K dA A O ad S H) (hd1 : S'.1 = S.1) (hn : S.1 n = true)
    (hcl : ∀ a k x, S'.2.2.1 a k = some x → S.1 x = true) (ho : ∀ q, q ≠ n → S'.2.1 q = S.2.1 q ∧ S'.2.2.1 q = S.2.2.1 q ∧ S'.2.2.2 q = S.2.2.2 q) (hnd : dl.Nodup) (hdl : ∀ q, q ∈ dl ↔ S.1 q = true) (hi : dl[i]? = some n) (he : e = zC K dA ad S' n)
    (hP : va_P D cl ((zW K dA ad S dl).set i (ad n, e)) H1) (hD : va_D A ((zW K dA ad S dl).set i (ad n, e))) : zH D cl K dA A O ad S' H1 := by
  obtain ⟨h0, -, hz, h00, -⟩ := hH
  have e1 : (zW K dA ad S dl).set i (ad n, e) = zW K dA ad S' dl := zW_set hnd hi he (fun q hq => zC_oth (ho q hq).1.symm (ho q hq).2.1.symm (ho q hq).2.2.symm)
  rw [e1] at hP hD
  refine ⟨⟨fun a h => ⟨by rw [hd1]; exact (h0.1 a h).1, (h0.1 a h).2⟩, h0.2⟩, fun a k x h => by rw [hd1]; exact hcl a k x h, fun q hq k => ?_, by rw [hd1]; exact h00, dl, hnd, fun q => by rw [hd1]; exact hdl q, hP, hD⟩
  rw [hd1] at hq
  have hqn : q ≠ n := fun e9 => by rw [e9, hn] at hq; cases hq
  obtain ⟨o1, o2, o3⟩ := ho q hqn
  rw [o1, o2, o3]
  exact hz q hq k
def zadd (S : zS) (n : Nat) : zS := (fun q => if q = n then true else S.1 q, S.2)
def zup (ad : Nat → Nat) (n q : Nat) : Nat → Nat := fun x => if x = n then q else ad x
theorem zup_s {ad : Nat → Nat} {n q : Nat} : zup ad n q n = q := if_pos rfl
theorem zup_n {ad : Nat → Nat} {n q x : Nat} (h : x ≠ n) : zup ad n q x = ad x := if_neg h
theorem zadd_s {S : zS} {n : Nat} : (zadd S n).1 n = true := if_pos rfl
theorem zadd_n {S : zS} {n q : Nat} (h : q ≠ n) : (zadd S n).1 q = S.1 q := if_neg h
theorem zadd_t {S : zS} {n q : Nat} (h : S.1 q = true) : (zadd S n).1 q = true := by
  by_cases e : q = n
  · rw [e]; exact zadd_s
  · rw [zadd_n e]; exact h
/-- the map of names has grown: what was there stays -/
theorem zv_ext {ad ad' : Nat → Nat} {S : zS} {v : Value} (hv : zo S v) (h0 : ad' 0 = ad 0) (h : ∀ n, S.1 n = true → ad' n = ad n) : zv ad' v = zv ad v := by
  cases v with
  | ref n =>
    rcases hv with h1 | h1
    · subst h1; show Value.ref _ = Value.ref _; rw [h0]
    · show Value.ref _ = Value.ref _; rw [h n h1]
  | _ => rfl
theorem zq_ext {ad ad' : Nat → Nat} {S : zS} {L : List (Nat × Value)} {st : List Value} (hv : zok S L st) (h0 : ad' 0 = ad 0) (h : ∀ n, S.1 n = true → ad' n = ad n) : L.map (zq ad') = L.map (zq ad) ∧ st.map (zv ad') = st.map (zv ad) :=
  ⟨List.map_congr_left fun q hq => by show (q.1, _) = (q.1, _); rw [zv_ext (hv.1 q hq) h0 h], List.map_congr_left fun v hq => zv_ext (hv.2 v hq) h0 h⟩
theorem zo_mono {S S' : zS} {v : Value} (h : ∀ n, S.1 n = true → S'.1 n = true) (hv : zo S v) : zo S' v := by
  cases v with
  | ref n => exact hv.imp id (h n)
  | _ => trivial
theorem zok_mono {S S' : zS} {L : List (Nat × Value)} {st : List Value} (h : ∀ n, S.1 n = true → S'.1 n = true) (hv : zok S L st) : zok S' L st := ⟨fun q hq => zo_mono h (hv.1 q hq), fun q hq => zo_mono h (hv.2 q hq)⟩
theorem zC_ext {K : zK} {dA : Nat → ClassId} {ad ad' : Nat → Nat} {S : zS} {q : Nat} (hcl : ∀ n k x, S.2.2.1 n k = some x → ad' x = ad x) : zC K dA ad' S q = zC K dA ad S q := by
  have e : ∀ n k, (S.2.2.1 n k).map ad' = (S.2.2.1 n k).map ad := fun n k => by
    cases h : S.2.2.1 n k with
    | none => rfl
    | some x => show some _ = some _; rw [hcl n k x h]
  unfold zC
  cases K.1 q with
  | inl ci => simp only [zF, e]
  | inr a => simp only [zAr, e]
theorem zC_add {K : zK} {dA : Nat → ClassId} {ad : Nat → Nat} {S : zS} {n q : Nat} : zC K dA ad (zadd S n) q = zC K dA ad S q := zC_oth rfl rfl rfl
/-- a new cell, under a name that was free -/
theorem zH_new {D : va_G} {cl : List vw_C} {K : zK} {dA : Nat → ClassId} {A : Nat → Prop} {O : (Nat → Nat) × zS} {ad : Nat → Nat} {S : zS} {H H1 : Heap} {dl : List Nat} {n q : Nat} {e : va_E} (hH : zH D cl K dA A O ad S H) (hn : S.1 n = false) (hn0 : n ≠ 0) (hnd : dl.Nodup) (hdl : ∀ q, q ∈ dl ↔ S.1 q = true)
    (he : e = zC K dA ad S n) (hP : va_P D cl (zW K dA ad S dl ++ [(q, e)]) H1) (hD : va_D A (zW K dA ad S dl ++ [(q, e)])) : zH D cl K dA A O (zup ad n q) (zadd S n) H1 := by
  obtain ⟨h0, hcl, hz, h00, -⟩ := hH
  have hcx : ∀ a k x, S.2.2.1 a k = some x → zup ad n q x = ad x := fun a k x h => zup_n (fun e9 => by have := hcl a k x h; rw [e9, hn] at this; cases this)
  have hnl : n ∉ dl := fun h => by rw [(hdl n).mp h] at hn; cases hn
  have e1 : zW K dA (zup ad n q) (zadd S n) (dl ++ [n]) = zW K dA ad S dl ++ [(q, e)] := by
    unfold zW
    rw [List.map_append]
    congr 1
    · refine List.map_congr_left fun x hx => ?_
      have hxn : x ≠ n := fun e9 => hnl (e9 ▸ hx)
      rw [zup_n hxn, zC_add, zC_ext hcx]
    · show [(zup ad n q n, zC K dA (zup ad n q) (zadd S n) n)] = _
      rw [zup_s, zC_add, zC_ext hcx, he]
  refine ⟨⟨fun a h => ⟨zadd_t (h0.1 a h).1, (zup_n (fun e9 => by have h9 := (h0.1 a h).1; rw [e9, hn] at h9; cases h9)).trans (h0.1 a h).2⟩, (zup_n (Ne.symm hn0)).trans h0.2⟩, fun a k x h => zadd_t (hcl a k x h), fun x hx k => ?_, by rw [zadd_n (Ne.symm hn0)]; exact h00, dl ++ [n], ?_, fun x => ?_, by rw [e1]; exact hP, by rw [e1]; exact hD⟩
  · have hxn : x ≠ n := fun e9 => by rw [e9, zadd_s] at hx; cases hx
    rw [zadd_n hxn] at hx
    exact hz x hx k
  · exact List.nodup_append.mpr ⟨hnd, by simp, fun a ha b hb => by rw [List.mem_singleton.mp hb]; exact fun e9 => hnl (e9 ▸ ha)⟩
  · by_cases e9 : x = n
    · subst e9; simp [zadd_s]
    · rw [zadd_n e9, ← hdl x]; simp [e9]
/-- the walk over the abstract store: whatever the addresses are, the machine goes on from here -/
def AW (p : Program) (l : Launch) (e : Env) (R : Room) (s : State) (m : MethodId) (args : Array Value) (below : List Frame) (meth : Method) (c : Code) (D : va_G) (cl : List vw_C) (K : zK) (dA : Nat → ClassId) (A : Nat → Prop) (O : (Nat → Nat) × zS) (nL : Nat) (S : zS) (kc ks : Nat) (Q : State → Prop) (pc : Nat) (L : List (Nat × Value)) (st : List Value) : Prop :=
  ∀ (ad : Nat → Nat) (H : Heap) (locs : List Loc) (ls : Array Slot), zH D cl K dA A O ad S H → va_S A s.heap H locs → lv_has ls nL (L.map (zq ad)) → zok S L st → W p l e R s m args below meth c H locs kc ks Q (F0 m pc ls (st.map (zv ad)))
/-- what a method's body knows all along -/
def zX (p : Program) (s : State) (m : MethodId) (args : Array Value) (c : Code) (D : va_G) (cl : List vw_C) (K : zK) (A : Nat → Prop) (cc : ByteArray) (nL : Nat) (own : String) (Ts : List Cond) (tys : List (ClassId × FieldType)) (G : (Nat → Prop) → State → Prop) : Prop :=
  p.tables.exec = Jvm.exec ∧ c.code = cc ∧ c.maxLocals = nL ∧ s.vm.findClass own = some m.cls ∧ (∀ w ∈ Ts, w.before args s = true) ∧ va_K D cl tys s ∧ (∀ q, s.heap.size ≤ q → A q) ∧ K.1 0 = .inr (999, 0) ∧ G A s
section ZR
variable {p : Program} {l : Launch} {e : Env} {R : Room} {s : State} {m : MethodId} {args : Array Value} {below : List Frame} {meth : Method} {c : Code} {kc ks : Nat} {Q : State → Prop}
variable {D : va_G} {cl : List vw_C} {K : zK} {dA : Nat → ClassId} {A : Nat → Prop} {O : (Nat → Nat) × zS} {cc : ByteArray} {nL : Nat} {own : String} {Ts : List Cond} {tys : List (ClassId × FieldType)} {G : (Nat → Prop) → State → Prop} {S : zS} {pc : Nat} {L : List (Nat × Value)} {st : List Value}
theorem z_iconst (X : zX p s m args c D cl K A cc nL own Ts tys G) {n : Int} {v : Int32} (hd : decode cc pc = .ok (.iconst n, 1)) (hv : Int32.ofInt n = v) (k : AW p l e R s m args below meth c D cl K dA A O nL S kc ks Q (pc + 1) L (.int v :: st)) : AW p l e R s m args below meth c D cl K dA A O nL S kc ks Q pc L (st) := fun ad H locs ls hH hS hl ho => lv_iconst X.1 X.2.1 hd hv (k ad H locs ls hH hS hl (ho.c trivial))
theorem z_bipush (X : zX p s m args c D cl K A cc nL own Ts tys G) {n : Int} {v : Int32} (hd : decode cc pc = .ok (.bipush n, 2)) (hv : (Int8.ofInt n).toInt32 = v) (k : AW p l e R s m args below meth c D cl K dA A O nL S kc ks Q (pc + 2) L (.int v :: st)) : AW p l e R s m args below meth c D cl K dA A O nL S kc ks Q pc L (st) := fun ad H locs ls hH hS hl ho => lv_bipush X.1 X.2.1 hd hv (k ad H locs ls hH hS hl (ho.c trivial))
theorem z_sipush (X : zX p s m args c D cl K A cc nL own Ts tys G) {n : Int} {v : Int32} (hd : decode cc pc = .ok (.sipush n, 3)) (hv : (Int16.ofInt n).toInt32 = v) (k : AW p l e R s m args below meth c D cl K dA A O nL S kc ks Q (pc + 3) L (.int v :: st)) : AW p l e R s m args below meth c D cl K dA A O nL S kc ks Q pc L (st) := fun ad H locs ls hH hS hl ho => lv_sipush X.1 X.2.1 hd hv (k ad H locs ls hH hS hl (ho.c trivial))
theorem z_null (X : zX p s m args c D cl K A cc nL own Ts tys G)  (hd : decode cc pc = .ok (.aconst_null, 1))  (k : AW p l e R s m args below meth c D cl K dA A O nL S kc ks Q (pc + 1) L (.null :: st)) : AW p l e R s m args below meth c D cl K dA A O nL S kc ks Q pc L (st) := fun ad H locs ls hH hS hl ho => lv_null X.1 X.2.1 hd (k ad H locs ls hH hS hl (ho.c trivial))
theorem z_iadd (X : zX p s m args c D cl K A cc nL own Ts tys G) {x y : Int32} (hd : decode cc pc = .ok (.iadd, 1))  (k : AW p l e R s m args below meth c D cl K dA A O nL S kc ks Q (pc + 1) L (.int (x + y) :: st)) : AW p l e R s m args below meth c D cl K dA A O nL S kc ks Q pc L (.int y :: .int x :: st) := fun ad H locs ls hH hS hl ho => lv_iadd (x := x) (y := y) X.1 X.2.1 hd (k ad H locs ls hH hS hl (ho.t.t.c trivial))
theorem z_isub (X : zX p s m args c D cl K A cc nL own Ts tys G) {x y : Int32} (hd : decode cc pc = .ok (.isub, 1))  (k : AW p l e R s m args below meth c D cl K dA A O nL S kc ks Q (pc + 1) L (.int (x - y) :: st)) : AW p l e R s m args below meth c D cl K dA A O nL S kc ks Q pc L (.int y :: .int x :: st) := fun ad H locs ls hH hS hl ho => lv_isub (x := x) (y := y) X.1 X.2.1 hd (k ad H locs ls hH hS hl (ho.t.t.c trivial))
theorem z_imul (X : zX p s m args c D cl K A cc nL own Ts tys G) {x y : Int32} (hd : decode cc pc = .ok (.imul, 1))  (k : AW p l e R s m args below meth c D cl K dA A O nL S kc ks Q (pc + 1) L (.int (x * y) :: st)) : AW p l e R s m args below meth c D cl K dA A O nL S kc ks Q pc L (.int y :: .int x :: st) := fun ad H locs ls hH hS hl ho => lv_imul (x := x) (y := y) X.1 X.2.1 hd (k ad H locs ls hH hS hl (ho.t.t.c trivial))
theorem z_iand (X : zX p s m args c D cl K A cc nL own Ts tys G) {x y : Int32} (hd : decode cc pc = .ok (.iand, 1))  (k : AW p l e R s m args below meth c D cl K dA A O nL S kc ks Q (pc + 1) L (.int (x &&& y) :: st)) : AW p l e R s m args below meth c D cl K dA A O nL S kc ks Q pc L (.int y :: .int x :: st) := fun ad H locs ls hH hS hl ho => lv_iand (x := x) (y := y) X.1 X.2.1 hd (k ad H locs ls hH hS hl (ho.t.t.c trivial))
theorem z_ior (X : zX p s m args c D cl K A cc nL own Ts tys G) {x y : Int32} (hd : decode cc pc = .ok (.ior, 1))  (k : AW p l e R s m args below meth c D cl K dA A O nL S kc ks Q (pc + 1) L (.int (x ||| y) :: st)) : AW p l e R s m args below meth c D cl K dA A O nL S kc ks Q pc L (.int y :: .int x :: st) := fun ad H locs ls hH hS hl ho => lv_ior (x := x) (y := y) X.1 X.2.1 hd (k ad H locs ls hH hS hl (ho.t.t.c trivial))
theorem z_ixor (X : zX p s m args c D cl K A cc nL own Ts tys G) {x y : Int32} (hd : decode cc pc = .ok (.ixor, 1))  (k : AW p l e R s m args below meth c D cl K dA A O nL S kc ks Q (pc + 1) L (.int (x ^^^ y) :: st)) : AW p l e R s m args below meth c D cl K dA A O nL S kc ks Q pc L (.int y :: .int x :: st) := fun ad H locs ls hH hS hl ho => lv_ixor (x := x) (y := y) X.1 X.2.1 hd (k ad H locs ls hH hS hl (ho.t.t.c trivial))
theorem z_ishl (X : zX p s m args c D cl K A cc nL own Ts tys G) {x y : Int32} (hd : decode cc pc = .ok (.ishl, 1))  (k : AW p l e R s m args below meth c D cl K dA A O nL S kc ks Q (pc + 1) L (.int (x <<< (y &&& 31)) :: st)) : AW p l e R s m args below meth c D cl K dA A O nL S kc ks Q pc L (.int y :: .int x :: st) := fun ad H locs ls hH hS hl ho => lv_ishl (x := x) (y := y) X.1 X.2.1 hd (k ad H locs ls hH hS hl (ho.t.t.c trivial))
theorem z_ishr (X : zX p s m args c D cl K A cc nL own Ts tys G) {x y : Int32} (hd : decode cc pc = .ok (.ishr, 1))  (k : AW p l e R s m args below meth c D cl K dA A O nL S kc ks Q (pc + 1) L (.int (x >>> (y &&& 31)) :: st)) : AW p l e R s m args below meth c D cl K dA A O nL S kc ks Q pc L (.int y :: .int x :: st) := fun ad H locs ls hH hS hl ho => lv_ishr (x := x) (y := y) X.1 X.2.1 hd (k ad H locs ls hH hS hl (ho.t.t.c trivial))
theorem z_idiv (X : zX p s m args c D cl K A cc nL own Ts tys G) {x y : Int32} (hd : decode cc pc = .ok (.idiv, 1)) (hne : ¬ y = 0) (k : AW p l e R s m args below meth c D cl K dA A O nL S kc ks Q (pc + 1) L (.int (x / y) :: st)) : AW p l e R s m args below meth c D cl K dA A O nL S kc ks Q pc L (.int y :: .int x :: st) := fun ad H locs ls hH hS hl ho => lv_idiv (x := x) (y := y) X.1 X.2.1 hd hne (k ad H locs ls hH hS hl (ho.t.t.c trivial))
theorem z_irem (X : zX p s m args c D cl K A cc nL own Ts tys G) {x y : Int32} (hd : decode cc pc = .ok (.irem, 1)) (hne : ¬ y = 0) (k : AW p l e R s m args below meth c D cl K dA A O nL S kc ks Q (pc + 1) L (.int (x - x / y * y) :: st)) : AW p l e R s m args below meth c D cl K dA A O nL S kc ks Q pc L (.int y :: .int x :: st) := fun ad H locs ls hH hS hl ho => lv_irem (x := x) (y := y) X.1 X.2.1 hd hne (k ad H locs ls hH hS hl (ho.t.t.c trivial))
theorem z_ineg (X : zX p s m args c D cl K A cc nL own Ts tys G) {x : Int32} (hd : decode cc pc = .ok (.ineg, 1))  (k : AW p l e R s m args below meth c D cl K dA A O nL S kc ks Q (pc + 1) L (.int (-x) :: st)) : AW p l e R s m args below meth c D cl K dA A O nL S kc ks Q pc L (.int x :: st) := fun ad H locs ls hH hS hl ho => lv_ineg (x := x) X.1 X.2.1 hd (k ad H locs ls hH hS hl (ho.t.c trivial))
theorem z_i2l (X : zX p s m args c D cl K A cc nL own Ts tys G) {x : Int32} {v : Int64} (hd : decode cc pc = .ok (.i2l, 1)) (hv : x.toInt64 = v) (k : AW p l e R s m args below meth c D cl K dA A O nL S kc ks Q (pc + 1) L (.long v :: st)) : AW p l e R s m args below meth c D cl K dA A O nL S kc ks Q pc L (.int x :: st) := fun ad H locs ls hH hS hl ho => lv_i2l (x := x) X.1 X.2.1 hd hv (k ad H locs ls hH hS hl (ho.t.c trivial))
theorem z_lcmp (X : zX p s m args c D cl K A cc nL own Ts tys G) {x y : Int64} (hd : decode cc pc = .ok (.lcmp, 1))  (k : AW p l e R s m args below meth c D cl K dA A O nL S kc ks Q (pc + 1) L (.int (lg_cmp x y) :: st)) : AW p l e R s m args below meth c D cl K dA A O nL S kc ks Q pc L (.long y :: .long x :: st) := fun ad H locs ls hH hS hl ho => W.lcmp (x := x) (y := y) X.1 X.2.1 hd (k ad H locs ls hH hS hl (ho.t.t.c trivial))
theorem z_dup (X : zX p s m args c D cl K A cc nL own Ts tys G) {v : Value} (hd : decode cc pc = .ok (.dup, 1)) (hv : v.category = 1) (k : AW p l e R s m args below meth c D cl K dA A O nL S kc ks Q (pc + 1) L (v :: v :: st)) : AW p l e R s m args below meth c D cl K dA A O nL S kc ks Q pc L (v :: st) := fun ad H locs ls hH hS hl ho => lv_dup (va := zv ad v) X.1 X.2.1 hd ((zv_cat ad v).trans hv) (k ad H locs ls hH hS hl (ho.c ho.h))
theorem z_pop (X : zX p s m args c D cl K A cc nL own Ts tys G) {v : Value} (hd : decode cc pc = .ok (.pop, 1)) (hv : v.category = 1) (k : AW p l e R s m args below meth c D cl K dA A O nL S kc ks Q (pc + 1) L (st)) : AW p l e R s m args below meth c D cl K dA A O nL S kc ks Q pc L (v :: st) := fun ad H locs ls hH hS hl ho => lv_pop (va := zv ad v) X.1 X.2.1 hd ((zv_cat ad v).trans hv) (k ad H locs ls hH hS hl ho.t)
theorem z_dup2 (X : zX p s m args c D cl K A cc nL own Ts tys G) {v w : Value} (hd : decode cc pc = .ok (.dup2, 1)) (hv : v.category = 1) (hw : w.category = 1) (k : AW p l e R s m args below meth c D cl K dA A O nL S kc ks Q (pc + 1) L (v :: w :: v :: w :: st)) : AW p l e R s m args below meth c D cl K dA A O nL S kc ks Q pc L (v :: w :: st) := fun ad H locs ls hH hS hl ho => lv_dup2_11 (va := zv ad v) (vb := zv ad w) X.1 X.2.1 hd ((zv_cat ad v).trans hv) ((zv_cat ad w).trans hw) (k ad H locs ls hH hS hl ((ho.c ho.t.h).c ho.h))
theorem z_dup_x1 (X : zX p s m args c D cl K A cc nL own Ts tys G) {v w : Value} (hd : decode cc pc = .ok (.dup_x1, 1)) (hv : v.category = 1) (hw : w.category = 1) (k : AW p l e R s m args below meth c D cl K dA A O nL S kc ks Q (pc + 1) L (v :: w :: v :: st)) : AW p l e R s m args below meth c D cl K dA A O nL S kc ks Q pc L (v :: w :: st) := fun ad H locs ls hH hS hl ho => lv_dup_x1 (va := zv ad v) (vb := zv ad w) X.1 X.2.1 hd ((zv_cat ad v).trans hv) ((zv_cat ad w).trans hw) (k ad H locs ls hH hS hl (((ho.t.t.c ho.h).c ho.t.h).c ho.h))
theorem z_iload_n (X : zX p s m args c D cl K A cc nL own Ts tys G) {k0 : Fin 4} {i j : Nat} {x : Int32} (hd : decode cc pc = .ok (.iload_n k0, 1)) (hi : (k0 : Nat) = i) (hj : L[j]? = some (i, .int x)) (k : AW p l e R s m args below meth c D cl K dA A O nL S kc ks Q (pc + 1) L (.int x :: st)) : AW p l e R s m args below meth c D cl K dA A O nL S kc ks Q pc L (st) := fun ad H locs ls hH hS hl ho => lv_iload_n (x := x) X.1 X.2.1 hd hi (lv_at hl j (zq_at hj)) (k ad H locs ls hH hS hl (ho.c trivial))
theorem z_iload (X : zX p s m args c D cl K A cc nL own Ts tys G) {i j : Nat} {x : Int32} (hd : decode cc pc = .ok (.iload i, 2)) (hj : L[j]? = some (i, .int x)) (k : AW p l e R s m args below meth c D cl K dA A O nL S kc ks Q (pc + 2) L (.int x :: st)) : AW p l e R s m args below meth c D cl K dA A O nL S kc ks Q pc L (st) := fun ad H locs ls hH hS hl ho => lv_iload (x := x) X.1 X.2.1 hd (lv_at hl j (zq_at hj)) (k ad H locs ls hH hS hl (ho.c trivial))
theorem z_aload_n (X : zX p s m args c D cl K A cc nL own Ts tys G) {k0 : Fin 4} {i j : Nat} {x : Nat} (hd : decode cc pc = .ok (.aload_n k0, 1)) (hi : (k0 : Nat) = i) (hj : L[j]? = some (i, .ref x)) (k : AW p l e R s m args below meth c D cl K dA A O nL S kc ks Q (pc + 1) L (.ref x :: st)) : AW p l e R s m args below meth c D cl K dA A O nL S kc ks Q pc L (st) := fun ad H locs ls hH hS hl ho => lv_aload_n (x := ad x) X.1 X.2.1 hd hi (lv_at hl j (zq_at hj)) (k ad H locs ls hH hS hl (ho.c (ho.l hj)))
theorem z_aload (X : zX p s m args c D cl K A cc nL own Ts tys G) {i j : Nat} {x : Nat} (hd : decode cc pc = .ok (.aload i, 2)) (hj : L[j]? = some (i, .ref x)) (k : AW p l e R s m args below meth c D cl K dA A O nL S kc ks Q (pc + 2) L (.ref x :: st)) : AW p l e R s m args below meth c D cl K dA A O nL S kc ks Q pc L (st) := fun ad H locs ls hH hS hl ho => lv_aload (x := ad x) X.1 X.2.1 hd (lv_at hl j (zq_at hj)) (k ad H locs ls hH hS hl (ho.c (ho.l hj)))
theorem z_istore_n (X : zX p s m args c D cl K A cc nL own Ts tys G) {k0 : Fin 4} {i : Nat} {x : Int32} {L' : List (Nat × Value)} (hd : decode cc pc = .ok (.istore_n k0, 1)) (hi : (k0 : Nat) = i) (hn : i < nL) (hl9 : (i, Value.int x) :: L.filter (zf i) = L') (k : AW p l e R s m args below meth c D cl K dA A O nL S kc ks Q (pc + 1) L' (st)) : AW p l e R s m args below meth c D cl K dA A O nL S kc ks Q pc L (Value.int x :: st) := fun ad H locs ls hH hS hl ho => lv_istore_n (x := x) X.1 X.2.1 hd hi hl hn (zq_store hl9) (fun ls' h' => k ad H locs ls' hH hS h' (ho.t.s ho.h hl9))
theorem z_istore (X : zX p s m args c D cl K A cc nL own Ts tys G) {i : Nat} {x : Int32} {L' : List (Nat × Value)} (hd : decode cc pc = .ok (.istore i, 2))  (hn : i < nL) (hl9 : (i, Value.int x) :: L.filter (zf i) = L') (k : AW p l e R s m args below meth c D cl K dA A O nL S kc ks Q (pc + 2) L' (st)) : AW p l e R s m args below meth c D cl K dA A O nL S kc ks Q pc L (Value.int x :: st) := fun ad H locs ls hH hS hl ho => lv_istore (x := x) X.1 X.2.1 hd hl hn (zq_store hl9) (fun ls' h' => k ad H locs ls' hH hS h' (ho.t.s ho.h hl9))
theorem z_astore_n (X : zX p s m args c D cl K A cc nL own Ts tys G) {k0 : Fin 4} {i : Nat} {x : Nat} {L' : List (Nat × Value)} (hd : decode cc pc = .ok (.astore_n k0, 1)) (hi : (k0 : Nat) = i) (hn : i < nL) (hl9 : (i, Value.ref x) :: L.filter (zf i) = L') (k : AW p l e R s m args below meth c D cl K dA A O nL S kc ks Q (pc + 1) L' (st)) : AW p l e R s m args below meth c D cl K dA A O nL S kc ks Q pc L (Value.ref x :: st) := fun ad H locs ls hH hS hl ho => lv_astore_n (x := ad x) X.1 X.2.1 hd hi hl hn (zq_store hl9) (fun ls' h' => k ad H locs ls' hH hS h' (ho.t.s ho.h hl9))
theorem z_astore (X : zX p s m args c D cl K A cc nL own Ts tys G) {i : Nat} {x : Nat} {L' : List (Nat × Value)} (hd : decode cc pc = .ok (.astore i, 2))  (hn : i < nL) (hl9 : (i, Value.ref x) :: L.filter (zf i) = L') (k : AW p l e R s m args below meth c D cl K dA A O nL S kc ks Q (pc + 2) L' (st)) : AW p l e R s m args below meth c D cl K dA A O nL S kc ks Q pc L (Value.ref x :: st) := fun ad H locs ls hH hS hl ho => lv_astore (x := ad x) X.1 X.2.1 hd hl hn (zq_store hl9) (fun ls' h' => k ad H locs ls' hH hS h' (ho.t.s ho.h hl9))
theorem z_astore_nN (X : zX p s m args c D cl K A cc nL own Ts tys G) {k0 : Fin 4} {i : Nat} {L' : List (Nat × Value)} (hd : decode cc pc = .ok (.astore_n k0, 1)) (hi : (k0 : Nat) = i) (hn : i < nL) (hl9 : (i, Value.null) :: L.filter (zf i) = L') (k : AW p l e R s m args below meth c D cl K dA A O nL S kc ks Q (pc + 1) L' (st)) : AW p l e R s m args below meth c D cl K dA A O nL S kc ks Q pc L (Value.null :: st) := fun ad H locs ls hH hS hl ho => lv_astore_nN X.1 X.2.1 hd hi hl hn (zq_store hl9) (fun ls' h' => k ad H locs ls' hH hS h' (ho.t.s ho.h hl9))
theorem z_astoreN (X : zX p s m args c D cl K A cc nL own Ts tys G) {i : Nat} {L' : List (Nat × Value)} (hd : decode cc pc = .ok (.astore i, 2))  (hn : i < nL) (hl9 : (i, Value.null) :: L.filter (zf i) = L') (k : AW p l e R s m args below meth c D cl K dA A O nL S kc ks Q (pc + 2) L' (st)) : AW p l e R s m args below meth c D cl K dA A O nL S kc ks Q pc L (Value.null :: st) := fun ad H locs ls hH hS hl ho => lv_astoreN X.1 X.2.1 hd hl hn (zq_store hl9) (fun ls' h' => k ad H locs ls' hH hS h' (ho.t.s ho.h hl9))
theorem z_aload_nN (X : zX p s m args c D cl K A cc nL own Ts tys G) {k0 : Fin 4} {i j : Nat} (hd : decode cc pc = .ok (.aload_n k0, 1)) (hi : (k0 : Nat) = i) (hj : L[j]? = some (i, .null)) (k : AW p l e R s m args below meth c D cl K dA A O nL S kc ks Q (pc + 1) L (.null :: st)) : AW p l e R s m args below meth c D cl K dA A O nL S kc ks Q pc L (st) := fun ad H locs ls hH hS hl ho => lv_aload_nN X.1 X.2.1 hd hi (lv_at hl j (zq_at hj)) (k ad H locs ls hH hS hl (ho.c trivial))
theorem z_aloadN (X : zX p s m args c D cl K A cc nL own Ts tys G) {i j : Nat} (hd : decode cc pc = .ok (.aload i, 2)) (hj : L[j]? = some (i, .null)) (k : AW p l e R s m args below meth c D cl K dA A O nL S kc ks Q (pc + 2) L (.null :: st)) : AW p l e R s m args below meth c D cl K dA A O nL S kc ks Q pc L (st) := fun ad H locs ls hH hS hl ho => lv_aloadN X.1 X.2.1 hd (lv_at hl j (zq_at hj)) (k ad H locs ls hH hS hl (ho.c trivial))
theorem z_iinc (X : zX p s m args c D cl K A cc nL own Ts tys G) {i j : Nat} {n : Int} {x v : Int32} {L' : List (Nat × Value)} (hd : decode cc pc = .ok (.iinc i n, 3)) (hj : L[j]? = some (i, .int x)) (hv : x + Int32.ofInt n = v) (hn : i < nL) (hl9 : (i, Value.int v) :: L.filter (zf i) = L') (k : AW p l e R s m args below meth c D cl K dA A O nL S kc ks Q (pc + 3) L' (st)) : AW p l e R s m args below meth c D cl K dA A O nL S kc ks Q pc L (st) := fun ad H locs ls hH hS hl ho => lv_iinc (x := x) (v := v) X.1 X.2.1 hd hl (k := j) (zq_at hj) hv hn (zq_store (v := .int v) hl9) (fun ls' h' => k ad H locs ls' hH hS h' (ho.s (v := .int v) trivial hl9))
theorem z_if_eq (X : zX p s m args c D cl K A cc nL own Ts tys G) {x : Int32} {off : Int} {tgt : Nat} (hd : decode cc pc = .ok (.ifCond .eq off, 3)) (ht : (pc : Int) + off = (tgt : Int)) (kt : x = 0 → AW p l e R s m args below meth c D cl K dA A O nL S kc ks Q tgt L (st)) (kf : ¬ x = 0 → AW p l e R s m args below meth c D cl K dA A O nL S kc ks Q (pc + 3) L (st)) : AW p l e R s m args below meth c D cl K dA A O nL S kc ks Q pc L (.int x :: st) := fun ad H locs ls hH hS hl ho => lv_if_eq (x := x) X.1 X.2.1 hd ht (fun h => kt h ad H locs ls hH hS hl ho.t) (fun h => kf h ad H locs ls hH hS hl ho.t)
theorem z_icmp_eq (X : zX p s m args c D cl K A cc nL own Ts tys G) {x y : Int32} {off : Int} {tgt : Nat} (hd : decode cc pc = .ok (.if_icmp .eq off, 3)) (ht : (pc : Int) + off = (tgt : Int)) (kt : x = y → AW p l e R s m args below meth c D cl K dA A O nL S kc ks Q tgt L (st)) (kf : ¬ x = y → AW p l e R s m args below meth c D cl K dA A O nL S kc ks Q (pc + 3) L (st)) : AW p l e R s m args below meth c D cl K dA A O nL S kc ks Q pc L (.int y :: .int x :: st) := fun ad H locs ls hH hS hl ho => lv_icmp_eq (x := x) (y := y) X.1 X.2.1 hd ht (fun h => kt h ad H locs ls hH hS hl ho.t.t) (fun h => kf h ad H locs ls hH hS hl ho.t.t)
theorem z_if_ne (X : zX p s m args c D cl K A cc nL own Ts tys G) {x : Int32} {off : Int} {tgt : Nat} (hd : decode cc pc = .ok (.ifCond .ne off, 3)) (ht : (pc : Int) + off = (tgt : Int)) (kt : ¬ x = 0 → AW p l e R s m args below meth c D cl K dA A O nL S kc ks Q tgt L (st)) (kf : x = 0 → AW p l e R s m args below meth c D cl K dA A O nL S kc ks Q (pc + 3) L (st)) : AW p l e R s m args below meth c D cl K dA A O nL S kc ks Q pc L (.int x :: st) := fun ad H locs ls hH hS hl ho => lv_if_ne (x := x) X.1 X.2.1 hd ht (fun h => kt h ad H locs ls hH hS hl ho.t) (fun h => kf h ad H locs ls hH hS hl ho.t)
theorem z_icmp_ne (X : zX p s m args c D cl K A cc nL own Ts tys G) {x y : Int32} {off : Int} {tgt : Nat} (hd : decode cc pc = .ok (.if_icmp .ne off, 3)) (ht : (pc : Int) + off = (tgt : Int)) (kt : ¬ x = y → AW p l e R s m args below meth c D cl K dA A O nL S kc ks Q tgt L (st)) (kf : x = y → AW p l e R s m args below meth c D cl K dA A O nL S kc ks Q (pc + 3) L (st)) : AW p l e R s m args below meth c D cl K dA A O nL S kc ks Q pc L (.int y :: .int x :: st) := fun ad H locs ls hH hS hl ho => lv_icmp_ne (x := x) (y := y) X.1 X.2.1 hd ht (fun h => kt h ad H locs ls hH hS hl ho.t.t) (fun h => kf h ad H locs ls hH hS hl ho.t.t)
theorem z_if_lt (X : zX p s m args c D cl K A cc nL own Ts tys G) {x : Int32} {off : Int} {tgt : Nat} (hd : decode cc pc = .ok (.ifCond .lt off, 3)) (ht : (pc : Int) + off = (tgt : Int)) (kt : x < 0 → AW p l e R s m args below meth c D cl K dA A O nL S kc ks Q tgt L (st)) (kf : ¬ x < 0 → AW p l e R s m args below meth c D cl K dA A O nL S kc ks Q (pc + 3) L (st)) : AW p l e R s m args below meth c D cl K dA A O nL S kc ks Q pc L (.int x :: st) := fun ad H locs ls hH hS hl ho => lv_if_lt (x := x) X.1 X.2.1 hd ht (fun h => kt h ad H locs ls hH hS hl ho.t) (fun h => kf h ad H locs ls hH hS hl ho.t)
theorem z_icmp_lt (X : zX p s m args c D cl K A cc nL own Ts tys G) {x y : Int32} {off : Int} {tgt : Nat} (hd : decode cc pc = .ok (.if_icmp .lt off, 3)) (ht : (pc : Int) + off = (tgt : Int)) (kt : x < y → AW p l e R s m args below meth c D cl K dA A O nL S kc ks Q tgt L (st)) (kf : ¬ x < y → AW p l e R s m args below meth c D cl K dA A O nL S kc ks Q (pc + 3) L (st)) : AW p l e R s m args below meth c D cl K dA A O nL S kc ks Q pc L (.int y :: .int x :: st) := fun ad H locs ls hH hS hl ho => lv_icmp_lt (x := x) (y := y) X.1 X.2.1 hd ht (fun h => kt h ad H locs ls hH hS hl ho.t.t) (fun h => kf h ad H locs ls hH hS hl ho.t.t)
theorem z_if_ge (X : zX p s m args c D cl K A cc nL own Ts tys G) {x : Int32} {off : Int} {tgt : Nat} (hd : decode cc pc = .ok (.ifCond .ge off, 3)) (ht : (pc : Int) + off = (tgt : Int)) (kt : 0 ≤ x → AW p l e R s m args below meth c D cl K dA A O nL S kc ks Q tgt L (st)) (kf : ¬ 0 ≤ x → AW p l e R s m args below meth c D cl K dA A O nL S kc ks Q (pc + 3) L (st)) : AW p l e R s m args below meth c D cl K dA A O nL S kc ks Q pc L (.int x :: st) := fun ad H locs ls hH hS hl ho => lv_if_ge (x := x) X.1 X.2.1 hd ht (fun h => kt h ad H locs ls hH hS hl ho.t) (fun h => kf h ad H locs ls hH hS hl ho.t)
theorem z_icmp_ge (X : zX p s m args c D cl K A cc nL own Ts tys G) {x y : Int32} {off : Int} {tgt : Nat} (hd : decode cc pc = .ok (.if_icmp .ge off, 3)) (ht : (pc : Int) + off = (tgt : Int)) (kt : y ≤ x → AW p l e R s m args below meth c D cl K dA A O nL S kc ks Q tgt L (st)) (kf : ¬ y ≤ x → AW p l e R s m args below meth c D cl K dA A O nL S kc ks Q (pc + 3) L (st)) : AW p l e R s m args below meth c D cl K dA A O nL S kc ks Q pc L (.int y :: .int x :: st) := fun ad H locs ls hH hS hl ho => lv_icmp_ge (x := x) (y := y) X.1 X.2.1 hd ht (fun h => kt h ad H locs ls hH hS hl ho.t.t) (fun h => kf h ad H locs ls hH hS hl ho.t.t)
theorem z_if_gt (X : zX p s m args c D cl K A cc nL own Ts tys G) {x : Int32} {off : Int} {tgt : Nat} (hd : decode cc pc = .ok (.ifCond .gt off, 3)) (ht : (pc : Int) + off = (tgt : Int)) (kt : 0 < x → AW p l e R s m args below meth c D cl K dA A O nL S kc ks Q tgt L (st)) (kf : ¬ 0 < x → AW p l e R s m args below meth c D cl K dA A O nL S kc ks Q (pc + 3) L (st)) : AW p l e R s m args below meth c D cl K dA A O nL S kc ks Q pc L (.int x :: st) := fun ad H locs ls hH hS hl ho => lv_if_gt (x := x) X.1 X.2.1 hd ht (fun h => kt h ad H locs ls hH hS hl ho.t) (fun h => kf h ad H locs ls hH hS hl ho.t)
theorem z_icmp_gt (X : zX p s m args c D cl K A cc nL own Ts tys G) {x y : Int32} {off : Int} {tgt : Nat} (hd : decode cc pc = .ok (.if_icmp .gt off, 3)) (ht : (pc : Int) + off = (tgt : Int)) (kt : y < x → AW p l e R s m args below meth c D cl K dA A O nL S kc ks Q tgt L (st)) (kf : ¬ y < x → AW p l e R s m args below meth c D cl K dA A O nL S kc ks Q (pc + 3) L (st)) : AW p l e R s m args below meth c D cl K dA A O nL S kc ks Q pc L (.int y :: .int x :: st) := fun ad H locs ls hH hS hl ho => lv_icmp_gt (x := x) (y := y) X.1 X.2.1 hd ht (fun h => kt h ad H locs ls hH hS hl ho.t.t) (fun h => kf h ad H locs ls hH hS hl ho.t.t)
theorem z_if_le (X : zX p s m args c D cl K A cc nL own Ts tys G) {x : Int32} {off : Int} {tgt : Nat} (hd : decode cc pc = .ok (.ifCond .le off, 3)) (ht : (pc : Int) + off = (tgt : Int)) (kt : x ≤ 0 → AW p l e R s m args below meth c D cl K dA A O nL S kc ks Q tgt L (st)) (kf : ¬ x ≤ 0 → AW p l e R s m args below meth c D cl K dA A O nL S kc ks Q (pc + 3) L (st)) : AW p l e R s m args below meth c D cl K dA A O nL S kc ks Q pc L (.int x :: st) := fun ad H locs ls hH hS hl ho => lv_if_le (x := x) X.1 X.2.1 hd ht (fun h => kt h ad H locs ls hH hS hl ho.t) (fun h => kf h ad H locs ls hH hS hl ho.t)
theorem z_icmp_le (X : zX p s m args c D cl K A cc nL own Ts tys G) {x y : Int32} {off : Int} {tgt : Nat} (hd : decode cc pc = .ok (.if_icmp .le off, 3)) (ht : (pc : Int) + off = (tgt : Int)) (kt : x ≤ y → AW p l e R s m args below meth c D cl K dA A O nL S kc ks Q tgt L (st)) (kf : ¬ x ≤ y → AW p l e R s m args below meth c D cl K dA A O nL S kc ks Q (pc + 3) L (st)) : AW p l e R s m args below meth c D cl K dA A O nL S kc ks Q pc L (.int y :: .int x :: st) := fun ad H locs ls hH hS hl ho => lv_icmp_le (x := x) (y := y) X.1 X.2.1 hd ht (fun h => kt h ad H locs ls hH hS hl ho.t.t) (fun h => kf h ad H locs ls hH hS hl ho.t.t)
theorem z_goto (X : zX p s m args c D cl K A cc nL own Ts tys G) {off : Int} {tgt : Nat} (hd : decode cc pc = .ok (.goto off, 3)) (ht : (pc : Int) + off = (tgt : Int)) (k : AW p l e R s m args below meth c D cl K dA A O nL S kc ks Q tgt L (st)) : AW p l e R s m args below meth c D cl K dA A O nL S kc ks Q pc L (st) := fun ad H locs ls hH hS hl ho => lv_goto X.1 X.2.1 hd ht (k ad H locs ls hH hS hl ho)
theorem z_ifnull (X : zX p s m args c D cl K A cc nL own Ts tys G) {x : Nat} {off : Int} (hd : decode cc pc = .ok (.ifnull off, 3)) (k : AW p l e R s m args below meth c D cl K dA A O nL S kc ks Q (pc + 3) L (st)) : AW p l e R s m args below meth c D cl K dA A O nL S kc ks Q pc L (.ref x :: st) := fun ad H locs ls hH hS hl ho => lv_ifnull (x := ad x) X.1 X.2.1 hd (k ad H locs ls hH hS hl ho.t)
theorem z_ifnullN (X : zX p s m args c D cl K A cc nL own Ts tys G) {off : Int} {tgt : Nat} (hd : decode cc pc = .ok (.ifnull off, 3)) (ht : (pc : Int) + off = (tgt : Int)) (k : AW p l e R s m args below meth c D cl K dA A O nL S kc ks Q tgt L (st)) : AW p l e R s m args below meth c D cl K dA A O nL S kc ks Q pc L (.null :: st) := fun ad H locs ls hH hS hl ho => lv_ifnullN X.1 X.2.1 hd ht (k ad H locs ls hH hS hl ho.t)
theorem z_ifnonnull (X : zX p s m args c D cl K A cc nL own Ts tys G) {x : Nat} {off : Int} {tgt : Nat} (hd : decode cc pc = .ok (.ifnonnull off, 3)) (ht : (pc : Int) + off = (tgt : Int)) (k : AW p l e R s m args below meth c D cl K dA A O nL S kc ks Q tgt L (st)) : AW p l e R s m args below meth c D cl K dA A O nL S kc ks Q pc L (.ref x :: st) := fun ad H locs ls hH hS hl ho => lv_ifnonnull (x := ad x) X.1 X.2.1 hd ht (k ad H locs ls hH hS hl ho.t)
theorem z_ifnonnullN (X : zX p s m args c D cl K A cc nL own Ts tys G) {off : Int} (hd : decode cc pc = .ok (.ifnonnull off, 3)) (k : AW p l e R s m args below meth c D cl K dA A O nL S kc ks Q (pc + 3) L (st)) : AW p l e R s m args below meth c D cl K dA A O nL S kc ks Q pc L (.null :: st) := fun ad H locs ls hH hS hl ho => lv_ifnonnullN X.1 X.2.1 hd (k ad H locs ls hH hS hl ho.t)
theorem z_tableIn (X : zX p s m args c D cl K A cc nL own Ts tys G) {dflt lo hi : Int} {offs : Array Int} {len : Nat} {x : Int32} {off : Int} {tgt : Nat} (hd : decode cc pc = .ok (.tableswitch dflt lo hi offs, len)) (h1 : ¬ x.toInt < lo) (h2 : ¬ hi < x.toInt) (h3 : offs[(x.toInt - lo).toNat]? = some off) (ht : (pc : Int) + off = (tgt : Int)) (k : AW p l e R s m args below meth c D cl K dA A O nL S kc ks Q tgt L (st)) : AW p l e R s m args below meth c D cl K dA A O nL S kc ks Q pc L (.int x :: st) := fun ad H locs ls hH hS hl ho => lv_tableIn (x := x) X.1 X.2.1 hd h1 h2 h3 ht (k ad H locs ls hH hS hl ho.t)
theorem z_tableOut (X : zX p s m args c D cl K A cc nL own Ts tys G) {dflt lo hi : Int} {offs : Array Int} {len : Nat} {x : Int32} {tgt : Nat} (hd : decode cc pc = .ok (.tableswitch dflt lo hi offs, len)) (h : x.toInt < lo ∨ hi < x.toInt) (ht : (pc : Int) + dflt = (tgt : Int)) (k : AW p l e R s m args below meth c D cl K dA A O nL S kc ks Q tgt L (st)) : AW p l e R s m args below meth c D cl K dA A O nL S kc ks Q pc L (.int x :: st) := fun ad H locs ls hH hS hl ho => lv_tableOut (x := x) X.1 X.2.1 hd h ht (k ad H locs ls hH hS hl ho.t)
theorem z_geti (X : zX p s m args c D cl K A cc nL own Ts tys G) {C ref : String} {T : u_T} {N ci index n k : Nat} (hin : ∀ w ∈ u_ws C T N, w ∈ Ts) (hc : cl[ci]? = some (C, T, N)) (hN : K.2.2 ci = N) (hkd : K.1 n = .inl ci) (hk : k < N) (hlk : Cond.fieldLink own index ref (T k).2.1 (T k).2.2.1 ∈ Ts) (hrf : (T k).1 = ref) (hft : K.2.1 ci k = false) (hd : decode cc pc = .ok (.getfield index, 3)) {v : Int32} (hv : S.2.1 n k = v) (kk : AW p l e R s m args below meth c D cl K dA A O nL S kc ks Q (pc + 3) L (.int v :: st)) : AW p l e R s m args below meth c D cl K dA A O nL S kc ks Q pc L (.ref n :: st) := by
  intro ad H locs ls hH hS hl ho
  obtain ⟨h0, hcl, hz, h00, dl, hnd, hdl, hP, hD⟩ := id hH
  have hdm : S.1 n = true := (ho.h).elim (fun e9 => by rw [e9, X.2.2.2.2.2.2.2.1] at hkd; cases hkd) id
  obtain ⟨i, hi⟩ := List.getElem?_of_mem ((hdl n).mpr hdm)
  have he : (zW K dA ad S dl)[i]? = some (ad n, .inr (ci, zF K ad S ci n)) := by rw [zW_at hi, zC_o hkd]
  subst hv
  exact va_get X.1 X.2.1 X.2.2.2.2.1 hin X.2.2.2.1 X.2.2.2.2.2.1 hP i he hc k hk (X.2.2.2.2.1 _ hlk) (fun x9 h9 => by rw [← hrf]; exact h9) (zF_i (by rw [hN]; exact hk) hft) hd (kk ad H locs ls hH hS hl (ho.t.c trivial))
theorem z_getr (X : zX p s m args c D cl K A cc nL own Ts tys G) {C ref : String} {T : u_T} {N ci index n k : Nat} {x : Nat} (hin : ∀ w ∈ u_ws C T N, w ∈ Ts) (hc : cl[ci]? = some (C, T, N)) (hN : K.2.2 ci = N) (hkd : K.1 n = .inl ci) (hk : k < N) (hlk : Cond.fieldLink own index ref (T k).2.1 (T k).2.2.1 ∈ Ts) (hrf : (T k).1 = ref) (hft : K.2.1 ci k = true) (hx : S.2.2.1 n k = some x) (hd : decode cc pc = .ok (.getfield index, 3)) (kk : AW p l e R s m args below meth c D cl K dA A O nL S kc ks Q (pc + 3) L (.ref x :: st)) : AW p l e R s m args below meth c D cl K dA A O nL S kc ks Q pc L (.ref n :: st) := by
  intro ad H locs ls hH hS hl ho
  obtain ⟨h0, hcl, hz, h00, dl, hnd, hdl, hP, hD⟩ := id hH
  have hdm : S.1 n = true := (ho.h).elim (fun e9 => by rw [e9, X.2.2.2.2.2.2.2.1] at hkd; cases hkd) id
  obtain ⟨i, hi⟩ := List.getElem?_of_mem ((hdl n).mpr hdm)
  have he : (zW K dA ad S dl)[i]? = some (ad n, .inr (ci, zF K ad S ci n)) := by rw [zW_at hi, zC_o hkd]
  have h9 := zF_r (ad := ad) (S := S) (n := n) (by rw [hN]; exact hk) hft
  rw [hx] at h9
  exact va_get X.1 X.2.1 X.2.2.2.2.1 hin X.2.2.2.1 X.2.2.2.2.2.1 hP i he hc k hk (X.2.2.2.2.1 _ hlk) (fun x9 h9 => by rw [← hrf]; exact h9) h9 hd (kk ad H locs ls hH hS hl (ho.t.c (Or.inr (hcl n k x hx))))
theorem z_getn (X : zX p s m args c D cl K A cc nL own Ts tys G) {C ref : String} {T : u_T} {N ci index n k : Nat} (hin : ∀ w ∈ u_ws C T N, w ∈ Ts) (hc : cl[ci]? = some (C, T, N)) (hN : K.2.2 ci = N) (hkd : K.1 n = .inl ci) (hk : k < N) (hlk : Cond.fieldLink own index ref (T k).2.1 (T k).2.2.1 ∈ Ts) (hrf : (T k).1 = ref) (hft : K.2.1 ci k = true) (hx : S.2.2.1 n k = none) (hd : decode cc pc = .ok (.getfield index, 3)) (kk : AW p l e R s m args below meth c D cl K dA A O nL S kc ks Q (pc + 3) L (.null :: st)) : AW p l e R s m args below meth c D cl K dA A O nL S kc ks Q pc L (.ref n :: st) := by
  intro ad H locs ls hH hS hl ho
  obtain ⟨h0, hcl, hz, h00, dl, hnd, hdl, hP, hD⟩ := id hH
  have hdm : S.1 n = true := (ho.h).elim (fun e9 => by rw [e9, X.2.2.2.2.2.2.2.1] at hkd; cases hkd) id
  obtain ⟨i, hi⟩ := List.getElem?_of_mem ((hdl n).mpr hdm)
  have he : (zW K dA ad S dl)[i]? = some (ad n, .inr (ci, zF K ad S ci n)) := by rw [zW_at hi, zC_o hkd]
  have h9 := zF_r (ad := ad) (S := S) (n := n) (by rw [hN]; exact hk) hft
  rw [hx] at h9
  exact va_get X.1 X.2.1 X.2.2.2.2.1 hin X.2.2.2.1 X.2.2.2.2.2.1 hP i he hc k hk (X.2.2.2.2.1 _ hlk) (fun x9 h9 => by rw [← hrf]; exact h9) h9 hd (kk ad H locs ls hH hS hl (ho.t.c trivial))
theorem z_puti (X : zX p s m args c D cl K A cc nL own Ts tys G) {C ref : String} {T : u_T} {N ci index n k : Nat} {x : Int32} {ty : FieldType} (hin : ∀ w ∈ u_ws C T N, w ∈ Ts) (hc : cl[ci]? = some (C, T, N)) (hN : K.2.2 ci = N) (hkd : K.1 n = .inl ci) (hk : k < N) (hlk : Cond.fieldLink own index ref (T k).2.1 (T k).2.2.1 ∈ Ts) (hrf : (T k).1 = ref) (ty0 : Nat → FieldType) (hty : ∀ k, k < N → parseFieldDescriptor (T k).2.2.1 = some (ty0 k)) (hnm : ∀ a, a < N → ∀ b, b < N → a ≠ b → (T a).2.1 ≠ (T b).2.1) (hfin : (T k).2.2.2 = false) (hft : K.2.1 ci k = false) (hpd : parseFieldDescriptor (T k).2.2.1 = some ty) (hnr : narrow ty (.int x) = .int x) (hfi : fits ty (.int x) = true) (hd : decode cc pc = .ok (.putfield index, 3)) (kk : AW p l e R s m args below meth c D cl K dA A O nL (zsi S n k x) kc ks Q (pc + 3) L (st)) : AW p l e R s m args below meth c D cl K dA A O nL S kc ks Q pc L (.int x :: .ref n :: st) := by
  intro ad H locs ls hH hS hl ho
  obtain ⟨h0, hcl, hz, h00, dl, hnd, hdl, hP, hD⟩ := id hH
  have hdm : S.1 n = true := (ho.t.h).elim (fun e9 => by rw [e9, X.2.2.2.2.2.2.2.1] at hkd; cases hkd) id
  obtain ⟨i, hi⟩ := List.getElem?_of_mem ((hdl n).mpr hdm)
  have he : (zW K dA ad S dl)[i]? = some (ad n, .inr (ci, zF K ad S ci n)) := by rw [zW_at hi, zC_o hkd]
  exact va_put X.1 X.2.1 X.2.2.2.2.1 hin ty0 hty hnm X.2.2.2.1 X.2.2.2.2.2.1 hP hD hS i he hc k hk (X.2.2.2.2.1 _ hlk) (fun x9 h9 => by rw [← hrf]; exact h9) hfin (v := .int x) hpd hnr hfi (by rw [zF_len, hN]; exact hk) hd (fun H1 locs1 hP1 hD1 hS1 => kk ad H1 locs1 ls (zH_wr (S' := (zsi S n k x)) hH rfl hdm (hcl) (fun q hq => ⟨(z2_o hq).symm, rfl, rfl⟩) hnd hdl hi (by rw [zC_o hkd, zF_seti hft]) hP1 hD1) hS1 hl (show zok (zsi S n k x) L st from ho.t.t))
theorem z_putiF (X : zX p s m args c D cl K A cc nL own Ts tys G) {C ref : String} {T : u_T} {N ci index n k : Nat} {x : Int32} {ty : FieldType} (hin : ∀ w ∈ u_ws C T N, w ∈ Ts) (hc : cl[ci]? = some (C, T, N)) (hN : K.2.2 ci = N) (hkd : K.1 n = .inl ci) (hk : k < N) (hlk : Cond.fieldLink own index ref (T k).2.1 (T k).2.2.1 ∈ Ts) (hrf : (T k).1 = ref) (ty0 : Nat → FieldType) (hty : ∀ k, k < N → parseFieldDescriptor (T k).2.2.1 = some (ty0 k)) (hnm : ∀ a, a < N → ∀ b, b < N → a ≠ b → (T a).2.1 ≠ (T b).2.1) (hfin : (T k).2.2.2 = true) (hin2 : meth.name = "<init>") (hdecl : (T k).1 = own) (hft : K.2.1 ci k = false) (hpd : parseFieldDescriptor (T k).2.2.1 = some ty) (hnr : narrow ty (.int x) = .int x) (hfi : fits ty (.int x) = true) (hd : decode cc pc = .ok (.putfield index, 3)) (kk : AW p l e R s m args below meth c D cl K dA A O nL (zsi S n k x) kc ks Q (pc + 3) L (st)) : AW p l e R s m args below meth c D cl K dA A O nL S kc ks Q pc L (.int x :: .ref n :: st) := by
  intro ad H locs ls hH hS hl ho
  obtain ⟨h0, hcl, hz, h00, dl, hnd, hdl, hP, hD⟩ := id hH
  have hdm : S.1 n = true := (ho.t.h).elim (fun e9 => by rw [e9, X.2.2.2.2.2.2.2.1] at hkd; cases hkd) id
  obtain ⟨i, hi⟩ := List.getElem?_of_mem ((hdl n).mpr hdm)
  have he : (zW K dA ad S dl)[i]? = some (ad n, .inr (ci, zF K ad S ci n)) := by rw [zW_at hi, zC_o hkd]
  exact va_putF X.1 X.2.1 X.2.2.2.2.1 hin ty0 hty hnm X.2.2.2.1 X.2.2.2.2.2.1 hP hD hS i he hc k hk (X.2.2.2.2.1 _ hlk) (fun x9 h9 => by rw [← hrf]; exact h9) hfin hin2 hdecl (v := .int x) hpd hnr hfi (by rw [zF_len, hN]; exact hk) hd (fun H1 locs1 hP1 hD1 hS1 => kk ad H1 locs1 ls (zH_wr (S' := (zsi S n k x)) hH rfl hdm (hcl) (fun q hq => ⟨(z2_o hq).symm, rfl, rfl⟩) hnd hdl hi (by rw [zC_o hkd, zF_seti hft]) hP1 hD1) hS1 hl (show zok (zsi S n k x) L st from ho.t.t))
theorem z_putr (X : zX p s m args c D cl K A cc nL own Ts tys G) {C ref : String} {T : u_T} {N ci index n k : Nat} {x : Nat} {cn : String} (hin : ∀ w ∈ u_ws C T N, w ∈ Ts) (hc : cl[ci]? = some (C, T, N)) (hN : K.2.2 ci = N) (hkd : K.1 n = .inl ci) (hk : k < N) (hlk : Cond.fieldLink own index ref (T k).2.1 (T k).2.2.1 ∈ Ts) (hrf : (T k).1 = ref) (ty0 : Nat → FieldType) (hty : ∀ k, k < N → parseFieldDescriptor (T k).2.2.1 = some (ty0 k)) (hnm : ∀ a, a < N → ∀ b, b < N → a ≠ b → (T a).2.1 ≠ (T b).2.1) (hfin : (T k).2.2.2 = false) (hft : K.2.1 ci k = true) (hpd : parseFieldDescriptor (T k).2.2.1 = some (.object cn) ∨ ∃ t, parseFieldDescriptor (T k).2.2.1 = some (.array t)) (hx0 : x ≠ 0) (hd : decode cc pc = .ok (.putfield index, 3)) (kk : AW p l e R s m args below meth c D cl K dA A O nL (zsp S n k (some x)) kc ks Q (pc + 3) L (st)) : AW p l e R s m args below meth c D cl K dA A O nL S kc ks Q pc L (.ref x :: .ref n :: st) := by
  intro ad H locs ls hH hS hl ho
  obtain ⟨h0, hcl, hz, h00, dl, hnd, hdl, hP, hD⟩ := id hH
  have hdm : S.1 n = true := (ho.t.h).elim (fun e9 => by rw [e9, X.2.2.2.2.2.2.2.1] at hkd; cases hkd) id
  obtain ⟨i, hi⟩ := List.getElem?_of_mem ((hdl n).mpr hdm)
  have he : (zW K dA ad S dl)[i]? = some (ad n, .inr (ci, zF K ad S ci n)) := by rw [zW_at hi, zC_o hkd]
  rcases hpd with hpd | ⟨t9, hpd⟩
  · exact va_put X.1 X.2.1 X.2.2.2.2.1 hin ty0 hty hnm X.2.2.2.1 X.2.2.2.2.2.1 hP hD hS i he hc k hk (X.2.2.2.2.1 _ hlk) (fun x9 h9 => by rw [← hrf]; exact h9) hfin (v := .ref (ad x)) hpd rfl rfl (by rw [zF_len, hN]; exact hk) hd (fun H1 locs1 hP1 hD1 hS1 => kk ad H1 locs1 ls (zH_wr (S' := (zsp S n k (some x))) hH rfl hdm (fun a9 k9 x9 h9 => by
    by_cases e9 : a9 = n ∧ k9 = k
    · have h8 : some x = some x9 := by rw [← h9]; show some x = z2 S.2.2.1 n k (some x) a9 k9; rw [e9.1, e9.2, z2_s]
      cases h8
      exact (ho.h).elim (fun e8 => absurd e8 hx0) id
    · exact hcl a9 k9 x9 (by rw [← h9]; show _ = z2 S.2.2.1 n k (some x) a9 k9; unfold z2; rw [if_neg e9])) (fun q hq => ⟨rfl, (z2_o hq).symm, rfl⟩) hnd hdl hi (by rw [zC_o hkd]; exact congrArg (fun z => Sum.inr (ci, z)) (zF_setr (r := some x) hft)) hP1 hD1) hS1 hl (show zok (zsp S n k (some x)) L st from ho.t.t))
  · exact va_put X.1 X.2.1 X.2.2.2.2.1 hin ty0 hty hnm X.2.2.2.1 X.2.2.2.2.2.1 hP hD hS i he hc k hk (X.2.2.2.2.1 _ hlk) (fun x9 h9 => by rw [← hrf]; exact h9) hfin (v := .ref (ad x)) hpd rfl rfl (by rw [zF_len, hN]; exact hk) hd (fun H1 locs1 hP1 hD1 hS1 => kk ad H1 locs1 ls (zH_wr (S' := (zsp S n k (some x))) hH rfl hdm (fun a9 k9 x9 h9 => by
    by_cases e9 : a9 = n ∧ k9 = k
    · have h8 : some x = some x9 := by rw [← h9]; show some x = z2 S.2.2.1 n k (some x) a9 k9; rw [e9.1, e9.2, z2_s]
      cases h8
      exact (ho.h).elim (fun e8 => absurd e8 hx0) id
    · exact hcl a9 k9 x9 (by rw [← h9]; show _ = z2 S.2.2.1 n k (some x) a9 k9; unfold z2; rw [if_neg e9])) (fun q hq => ⟨rfl, (z2_o hq).symm, rfl⟩) hnd hdl hi (by rw [zC_o hkd]; exact congrArg (fun z => Sum.inr (ci, z)) (zF_setr (r := some x) hft)) hP1 hD1) hS1 hl (show zok (zsp S n k (some x)) L st from ho.t.t))
theorem z_putrF (X : zX p s m args c D cl K A cc nL own Ts tys G) {C ref : String} {T : u_T} {N ci index n k : Nat} {x : Nat} {cn : String} (hin : ∀ w ∈ u_ws C T N, w ∈ Ts) (hc : cl[ci]? = some (C, T, N)) (hN : K.2.2 ci = N) (hkd : K.1 n = .inl ci) (hk : k < N) (hlk : Cond.fieldLink own index ref (T k).2.1 (T k).2.2.1 ∈ Ts) (hrf : (T k).1 = ref) (ty0 : Nat → FieldType) (hty : ∀ k, k < N → parseFieldDescriptor (T k).2.2.1 = some (ty0 k)) (hnm : ∀ a, a < N → ∀ b, b < N → a ≠ b → (T a).2.1 ≠ (T b).2.1) (hfin : (T k).2.2.2 = true) (hin2 : meth.name = "<init>") (hdecl : (T k).1 = own) (hft : K.2.1 ci k = true) (hpd : parseFieldDescriptor (T k).2.2.1 = some (.object cn) ∨ ∃ t, parseFieldDescriptor (T k).2.2.1 = some (.array t)) (hx0 : x ≠ 0) (hd : decode cc pc = .ok (.putfield index, 3)) (kk : AW p l e R s m args below meth c D cl K dA A O nL (zsp S n k (some x)) kc ks Q (pc + 3) L (st)) : AW p l e R s m args below meth c D cl K dA A O nL S kc ks Q pc L (.ref x :: .ref n :: st) := by
  intro ad H locs ls hH hS hl ho
  obtain ⟨h0, hcl, hz, h00, dl, hnd, hdl, hP, hD⟩ := id hH
  have hdm : S.1 n = true := (ho.t.h).elim (fun e9 => by rw [e9, X.2.2.2.2.2.2.2.1] at hkd; cases hkd) id
  obtain ⟨i, hi⟩ := List.getElem?_of_mem ((hdl n).mpr hdm)
  have he : (zW K dA ad S dl)[i]? = some (ad n, .inr (ci, zF K ad S ci n)) := by rw [zW_at hi, zC_o hkd]
  rcases hpd with hpd | ⟨t9, hpd⟩
  · exact va_putF X.1 X.2.1 X.2.2.2.2.1 hin ty0 hty hnm X.2.2.2.1 X.2.2.2.2.2.1 hP hD hS i he hc k hk (X.2.2.2.2.1 _ hlk) (fun x9 h9 => by rw [← hrf]; exact h9) hfin hin2 hdecl (v := .ref (ad x)) hpd rfl rfl (by rw [zF_len, hN]; exact hk) hd (fun H1 locs1 hP1 hD1 hS1 => kk ad H1 locs1 ls (zH_wr (S' := (zsp S n k (some x))) hH rfl hdm (fun a9 k9 x9 h9 => by
    by_cases e9 : a9 = n ∧ k9 = k
    · have h8 : some x = some x9 := by rw [← h9]; show some x = z2 S.2.2.1 n k (some x) a9 k9; rw [e9.1, e9.2, z2_s]
      cases h8
      exact (ho.h).elim (fun e8 => absurd e8 hx0) id
    · exact hcl a9 k9 x9 (by rw [← h9]; show _ = z2 S.2.2.1 n k (some x) a9 k9; unfold z2; rw [if_neg e9])) (fun q hq => ⟨rfl, (z2_o hq).symm, rfl⟩) hnd hdl hi (by rw [zC_o hkd]; exact congrArg (fun z => Sum.inr (ci, z)) (zF_setr (r := some x) hft)) hP1 hD1) hS1 hl (show zok (zsp S n k (some x)) L st from ho.t.t))
  · exact va_putF X.1 X.2.1 X.2.2.2.2.1 hin ty0 hty hnm X.2.2.2.1 X.2.2.2.2.2.1 hP hD hS i he hc k hk (X.2.2.2.2.1 _ hlk) (fun x9 h9 => by rw [← hrf]; exact h9) hfin hin2 hdecl (v := .ref (ad x)) hpd rfl rfl (by rw [zF_len, hN]; exact hk) hd (fun H1 locs1 hP1 hD1 hS1 => kk ad H1 locs1 ls (zH_wr (S' := (zsp S n k (some x))) hH rfl hdm (fun a9 k9 x9 h9 => by
    by_cases e9 : a9 = n ∧ k9 = k
    · have h8 : some x = some x9 := by rw [← h9]; show some x = z2 S.2.2.1 n k (some x) a9 k9; rw [e9.1, e9.2, z2_s]
      cases h8
      exact (ho.h).elim (fun e8 => absurd e8 hx0) id
    · exact hcl a9 k9 x9 (by rw [← h9]; show _ = z2 S.2.2.1 n k (some x) a9 k9; unfold z2; rw [if_neg e9])) (fun q hq => ⟨rfl, (z2_o hq).symm, rfl⟩) hnd hdl hi (by rw [zC_o hkd]; exact congrArg (fun z => Sum.inr (ci, z)) (zF_setr (r := some x) hft)) hP1 hD1) hS1 hl (show zok (zsp S n k (some x)) L st from ho.t.t))
theorem z_iald (X : zX p s m args c D cl K A cc nL own Ts tys G) {n len t0 j9 : Nat} {v : Int32} (hkd : K.1 n = .inr (0, len)) (ht : tys[t0]? = some (dA 0, .int)) (hj : j9 < len) (hlen : len < 2 ^ 31) (hd : decode cc pc = .ok (.iaload, 1)) (hv : S.2.1 n j9 = v) (kk : AW p l e R s m args below meth c D cl K dA A O nL S kc ks Q (pc + 1) L (.int v :: st)) : AW p l e R s m args below meth c D cl K dA A O nL S kc ks Q pc L (.int (nI j9) :: .ref n :: st) := by
  intro ad H locs ls hH hS hl ho
  obtain ⟨h0, hcl, hz, h00, dl, hnd, hdl, hP, hD⟩ := id hH
  have ht9 : ¬ (999 = 0) := by decide
  have hdm : S.1 n = true := (ho.t.h).elim (fun e9 => by rw [e9, X.2.2.2.2.2.2.2.1] at hkd; exact absurd (congrArg Prod.fst (Sum.inr.inj hkd)) ht9) id
  obtain ⟨i, hi⟩ := List.getElem?_of_mem ((hdl n).mpr hdm)
  subst hv
  exact va_iald (cA := dA 0) (f := S.2.1 n) X.1 X.2.1 X.2.2.2.2.2.1 hP i t0 (by rw [zW_at hi, zC_a hkd]; rfl) ht (vp_in_nI hj hlen) hd (by rw [nI_clamp (Nat.lt_trans hj hlen)]; exact kk ad H locs ls hH hS hl (ho.t.t.c trivial))
theorem z_zald (X : zX p s m args c D cl K A cc nL own Ts tys G) {n len t0 j9 : Nat} {v : Int32} (hkd : K.1 n = .inr (1, len)) (ht : tys[t0]? = some (dA 1, .boolean)) (hj : j9 < len) (hlen : len < 2 ^ 31) (hd : decode cc pc = .ok (.baload, 1)) (hv : S.2.1 n j9 = v) (kk : AW p l e R s m args below meth c D cl K dA A O nL S kc ks Q (pc + 1) L (.int v :: st)) : AW p l e R s m args below meth c D cl K dA A O nL S kc ks Q pc L (.int (nI j9) :: .ref n :: st) := by
  intro ad H locs ls hH hS hl ho
  obtain ⟨h0, hcl, hz, h00, dl, hnd, hdl, hP, hD⟩ := id hH
  have ht9 : ¬ (999 = 1) := by decide
  have hdm : S.1 n = true := (ho.t.h).elim (fun e9 => by rw [e9, X.2.2.2.2.2.2.2.1] at hkd; exact absurd (congrArg Prod.fst (Sum.inr.inj hkd)) ht9) id
  obtain ⟨i, hi⟩ := List.getElem?_of_mem ((hdl n).mpr hdm)
  subst hv
  exact va_zald (cA := dA 1) (f := S.2.1 n) X.1 X.2.1 X.2.2.2.2.2.1 hP i t0 (by rw [zW_at hi, zC_a hkd]; rfl) ht (vp_in_nI hj hlen) hd (by rw [nI_clamp (Nat.lt_trans hj hlen)]; exact kk ad H locs ls hH hS hl (ho.t.t.c trivial))
theorem z_lald (X : zX p s m args c D cl K A cc nL own Ts tys G) {n len t0 j9 : Nat} {v : Int64} (hkd : K.1 n = .inr (2, len)) (ht : tys[t0]? = some (dA 2, .long)) (hj : j9 < len) (hlen : len < 2 ^ 31) (hd : decode cc pc = .ok (.laload, 1)) (hv : S.2.2.2 n j9 = v) (kk : AW p l e R s m args below meth c D cl K dA A O nL S kc ks Q (pc + 1) L (.long v :: st)) : AW p l e R s m args below meth c D cl K dA A O nL S kc ks Q pc L (.int (nI j9) :: .ref n :: st) := by
  intro ad H locs ls hH hS hl ho
  obtain ⟨h0, hcl, hz, h00, dl, hnd, hdl, hP, hD⟩ := id hH
  have ht9 : ¬ (999 = 2) := by decide
  have hdm : S.1 n = true := (ho.t.h).elim (fun e9 => by rw [e9, X.2.2.2.2.2.2.2.1] at hkd; exact absurd (congrArg Prod.fst (Sum.inr.inj hkd)) ht9) id
  obtain ⟨i, hi⟩ := List.getElem?_of_mem ((hdl n).mpr hdm)
  subst hv
  exact va_lald (cA := dA 2) (f := S.2.2.2 n) X.1 X.2.1 X.2.2.2.2.2.1 hP i t0 (by rw [zW_at hi, zC_a hkd]; rfl) ht (vp_in_nI hj hlen) hd (by rw [nI_clamp (Nat.lt_trans hj hlen)]; exact kk ad H locs ls hH hS hl (ho.t.t.c trivial))
theorem z_aald (X : zX p s m args c D cl K A cc nL own Ts tys G) {n len t0 t j9 : Nat} {C : String} {x : Nat} (hkd : K.1 n = .inr (t, len)) (ht9 : ¬ 999 = t) (ht0 : ¬ t < 2) (ht1 : ¬ t = 2) (ht : tys[t0]? = some (dA t, .object C)) (hj : j9 < len) (hlen : len < 2 ^ 31) (hx : S.2.2.1 n j9 = some x) (hd : decode cc pc = .ok (.aaload, 1)) (kk : AW p l e R s m args below meth c D cl K dA A O nL S kc ks Q (pc + 1) L (.ref x :: st)) : AW p l e R s m args below meth c D cl K dA A O nL S kc ks Q pc L (.int (nI j9) :: .ref n :: st) := by
  intro ad H locs ls hH hS hl ho
  obtain ⟨h0, hcl, hz, h00, dl, hnd, hdl, hP, hD⟩ := id hH
  have hdm : S.1 n = true := (ho.t.h).elim (fun e9 => by rw [e9, X.2.2.2.2.2.2.2.1] at hkd; exact absurd (congrArg Prod.fst (Sum.inr.inj hkd)) ht9) id
  obtain ⟨i, hi⟩ := List.getElem?_of_mem ((hdl n).mpr hdm)
  have hq9 : zAr ad S t len n = (len, .inr (.inr (.inr (.inr (fun j => (S.2.2.1 n j).map ad))))) := by unfold zAr; rw [if_neg ht0, if_neg ht1]
  exact va_aldq (cA := dA t) (f := fun j => (S.2.2.1 n j).map ad) X.1 X.2.1 X.2.2.2.2.2.1 hP i t0 (by rw [zW_at hi, zC_a hkd, hq9]) ht (vp_in_nI hj hlen) hd (by rw [nI_clamp (Nat.lt_trans hj hlen), hx]; exact kk ad H locs ls hH hS hl (ho.t.t.c (Or.inr (hcl n _ x hx))))
theorem z_aaldN (X : zX p s m args c D cl K A cc nL own Ts tys G) {n len t0 t j9 : Nat} {C : String} (hkd : K.1 n = .inr (t, len)) (ht9 : ¬ 999 = t) (ht0 : ¬ t < 2) (ht1 : ¬ t = 2) (ht : tys[t0]? = some (dA t, .object C)) (hj : j9 < len) (hlen : len < 2 ^ 31) (hx : S.2.2.1 n j9 = none) (hd : decode cc pc = .ok (.aaload, 1)) (kk : AW p l e R s m args below meth c D cl K dA A O nL S kc ks Q (pc + 1) L (.null :: st)) : AW p l e R s m args below meth c D cl K dA A O nL S kc ks Q pc L (.int (nI j9) :: .ref n :: st) := by
  intro ad H locs ls hH hS hl ho
  obtain ⟨h0, hcl, hz, h00, dl, hnd, hdl, hP, hD⟩ := id hH
  have hdm : S.1 n = true := (ho.t.h).elim (fun e9 => by rw [e9, X.2.2.2.2.2.2.2.1] at hkd; exact absurd (congrArg Prod.fst (Sum.inr.inj hkd)) ht9) id
  obtain ⟨i, hi⟩ := List.getElem?_of_mem ((hdl n).mpr hdm)
  have hq9 : zAr ad S t len n = (len, .inr (.inr (.inr (.inr (fun j => (S.2.2.1 n j).map ad))))) := by unfold zAr; rw [if_neg ht0, if_neg ht1]
  exact va_aldq (cA := dA t) (f := fun j => (S.2.2.1 n j).map ad) X.1 X.2.1 X.2.2.2.2.2.1 hP i t0 (by rw [zW_at hi, zC_a hkd, hq9]) ht (vp_in_nI hj hlen) hd (by rw [nI_clamp (Nat.lt_trans hj hlen), hx]; exact kk ad H locs ls hH hS hl (ho.t.t.c trivial))
theorem z_iast (X : zX p s m args c D cl K A cc nL own Ts tys G) {n len t0 j9 : Nat} {x : Int32} (hkd : K.1 n = .inr (0, len)) (ht : tys[t0]? = some (dA 0, .int)) (hj : j9 < len) (hlen : len < 2 ^ 31) (hd : decode cc pc = .ok (.iastore, 1)) (kk : AW p l e R s m args below meth c D cl K dA A O nL (zsi S n j9 x) kc ks Q (pc + 1) L (st)) : AW p l e R s m args below meth c D cl K dA A O nL S kc ks Q pc L (.int x :: .int (nI j9) :: .ref n :: st) := by
  intro ad H locs ls hH hS hl ho
  obtain ⟨h0, hcl, hz, h00, dl, hnd, hdl, hP, hD⟩ := id hH
  have ht9 : ¬ (999 = 0) := by decide
  have hdm : S.1 n = true := (ho.t.t.h).elim (fun e9 => by rw [e9, X.2.2.2.2.2.2.2.1] at hkd; exact absurd (congrArg Prod.fst (Sum.inr.inj hkd)) ht9) id
  obtain ⟨i, hi⟩ := List.getElem?_of_mem ((hdl n).mpr hdm)
  exact va_iast (cA := dA 0) (f := S.2.1 n) X.1 X.2.1 X.2.2.2.2.2.1 hP hD hS i t0 (by rw [zW_at hi, zC_a hkd]; rfl) ht (vp_in_nI hj hlen) hd (fun H1 locs1 hP1 hD1 hS1 => kk ad H1 locs1 ls (zH_wr (S' := (zsi S n j9 x)) hH rfl hdm hcl (fun q hq => ⟨(z2_o hq).symm, rfl, rfl⟩) hnd hdl hi (by
    rw [zC_a hkd, nI_clamp (Nat.lt_trans hj hlen)]
    refine congrArg (fun z => Sum.inl (dA 0, len, Sum.inl z)) ?_
    funext j
    by_cases hj : j = j9
    · subst hj; simp [upd, zsi, z2]
    · simp [upd, zsi, z2, hj]) hP1 hD1) hS1 hl (show zok (zsi S n j9 x) L st from ho.t.t.t))
theorem z_zast (X : zX p s m args c D cl K A cc nL own Ts tys G) {n len t0 j9 : Nat} {x : Int32} (hkd : K.1 n = .inr (1, len)) (ht : tys[t0]? = some (dA 1, .boolean)) (hj : j9 < len) (hlen : len < 2 ^ 31) (hx01 : x = 0 ∨ x = 1) (hd : decode cc pc = .ok (.bastore, 1)) (kk : AW p l e R s m args below meth c D cl K dA A O nL (zsi S n j9 x) kc ks Q (pc + 1) L (st)) : AW p l e R s m args below meth c D cl K dA A O nL S kc ks Q pc L (.int x :: .int (nI j9) :: .ref n :: st) := by
  intro ad H locs ls hH hS hl ho
  obtain ⟨h0, hcl, hz, h00, dl, hnd, hdl, hP, hD⟩ := id hH
  have ht9 : ¬ (999 = 1) := by decide
  have hn9 : vp_nar .boolean x = x := by rcases hx01 with h | h <;> (subst h; decide)
  have hdm : S.1 n = true := (ho.t.t.h).elim (fun e9 => by rw [e9, X.2.2.2.2.2.2.2.1] at hkd; exact absurd (congrArg Prod.fst (Sum.inr.inj hkd)) ht9) id
  obtain ⟨i, hi⟩ := List.getElem?_of_mem ((hdl n).mpr hdm)
  exact va_zast (cA := dA 1) (f := S.2.1 n) X.1 X.2.1 X.2.2.2.2.2.1 hP hD hS i t0 (by rw [zW_at hi, zC_a hkd]; rfl) ht (vp_in_nI hj hlen) hd (fun H1 locs1 hP1 hD1 hS1 => kk ad H1 locs1 ls (zH_wr (S' := (zsi S n j9 x)) hH rfl hdm hcl (fun q hq => ⟨(z2_o hq).symm, rfl, rfl⟩) hnd hdl hi (by
    rw [zC_a hkd, nI_clamp (Nat.lt_trans hj hlen), hn9]
    refine congrArg (fun z => Sum.inl (dA 1, len, Sum.inl z)) ?_
    funext j
    by_cases hj : j = j9
    · subst hj; simp [upd, zsi, z2]
    · simp [upd, zsi, z2, hj]) hP1 hD1) hS1 hl (show zok (zsi S n j9 x) L st from ho.t.t.t))
theorem z_last (X : zX p s m args c D cl K A cc nL own Ts tys G) {n len t0 j9 : Nat} {x : Int64} (hkd : K.1 n = .inr (2, len)) (ht : tys[t0]? = some (dA 2, .long)) (hj : j9 < len) (hlen : len < 2 ^ 31) (hd : decode cc pc = .ok (.lastore, 1)) (kk : AW p l e R s m args below meth c D cl K dA A O nL (zsl S n j9 x) kc ks Q (pc + 1) L (st)) : AW p l e R s m args below meth c D cl K dA A O nL S kc ks Q pc L (.long x :: .int (nI j9) :: .ref n :: st) := by
  intro ad H locs ls hH hS hl ho
  obtain ⟨h0, hcl, hz, h00, dl, hnd, hdl, hP, hD⟩ := id hH
  have ht9 : ¬ (999 = 2) := by decide
  have hdm : S.1 n = true := (ho.t.t.h).elim (fun e9 => by rw [e9, X.2.2.2.2.2.2.2.1] at hkd; exact absurd (congrArg Prod.fst (Sum.inr.inj hkd)) ht9) id
  obtain ⟨i, hi⟩ := List.getElem?_of_mem ((hdl n).mpr hdm)
  exact va_last (cA := dA 2) (f := S.2.2.2 n) X.1 X.2.1 X.2.2.2.2.2.1 hP hD hS i t0 (by rw [zW_at hi, zC_a hkd]; rfl) ht (vp_in_nI hj hlen) hd (fun H1 locs1 hP1 hD1 hS1 => kk ad H1 locs1 ls (zH_wr (S' := (zsl S n j9 x)) hH rfl hdm hcl (fun q hq => ⟨rfl, rfl, (z2_o hq).symm⟩) hnd hdl hi (by
    rw [zC_a hkd, nI_clamp (Nat.lt_trans hj hlen)]
    refine congrArg (fun z => Sum.inl (dA 2, len, Sum.inr (Sum.inl z))) ?_
    funext j
    by_cases hj : j = j9
    · subst hj; simp [vp_updL, zsl, z2]
    · simp [vp_updL, zsl, z2, hj]) hP1 hD1) hS1 hl (show zok (zsl S n j9 x) L st from ho.t.t.t))
theorem z_aast (X : zX p s m args c D cl K A cc nL own Ts tys G) {n len t0 t j9 : Nat} {C : String} {x ci : Nat} {r : vw_C} (hkd : K.1 n = .inr (t, len)) (ht9 : ¬ 999 = t) (ht0 : ¬ t < 2) (ht1 : ¬ t = 2) (ht : tys[t0]? = some (dA t, .object C)) (hj : j9 < len) (hlen : len < 2 ^ 31) (hkx : K.1 x = .inl ci) (hr : cl[ci]? = some r) (hrC : r.1 = C) (hd : decode cc pc = .ok (.aastore, 1)) (kk : AW p l e R s m args below meth c D cl K dA A O nL (zsp S n j9 (some x)) kc ks Q (pc + 1) L (st)) : AW p l e R s m args below meth c D cl K dA A O nL S kc ks Q pc L (.ref x :: .int (nI j9) :: .ref n :: st) := by
  intro ad H locs ls hH hS hl ho
  obtain ⟨h0, hcl, hz, h00, dl, hnd, hdl, hP, hD⟩ := id hH
  have hdm : S.1 n = true := (ho.t.t.h).elim (fun e9 => by rw [e9, X.2.2.2.2.2.2.2.1] at hkd; exact absurd (congrArg Prod.fst (Sum.inr.inj hkd)) ht9) id
  obtain ⟨i, hi⟩ := List.getElem?_of_mem ((hdl n).mpr hdm)
  have hq9 : zAr ad S t len n = (len, .inr (.inr (.inr (.inr (fun j => (S.2.2.1 n j).map ad))))) := by unfold zAr; rw [if_neg ht0, if_neg ht1]
  have hdx : S.1 x = true := (ho.h).elim (fun e9 => by rw [e9, X.2.2.2.2.2.2.2.1] at hkx; cases hkx) id
  obtain ⟨ix, hix⟩ := List.getElem?_of_mem ((hdl x).mpr hdx)
  exact va_astq (cA := dA t) (f := fun j => (S.2.2.1 n j).map ad) X.1 X.2.1 X.2.2.2.2.2.1 hP hD hS i t0 ix ci (r := r) (v := ad x) (by rw [zW_at hi, zC_a hkd, hq9]) (by rw [hrC]; exact ht) (by rw [zW_at hix, zC_o hkx]) hr (vp_in_nI hj hlen) hd (fun H1 locs1 hP1 hD1 hS1 => kk ad H1 locs1 ls (zH_wr (S' := (zsp S n j9 (some x))) hH rfl hdm (fun a9 k9 x9 h9 => by
    by_cases e9 : a9 = n ∧ k9 = j9
    · have h8 : (some x) = some x9 := by rw [← h9]; show (some x) = z2 S.2.2.1 n j9 (some x) a9 k9; rw [e9.1, e9.2, z2_s]
      cases h8
      exact hdx
    · exact hcl a9 k9 x9 (by rw [← h9]; show _ = z2 S.2.2.1 n j9 (some x) a9 k9; unfold z2; rw [if_neg e9])) (fun q hq => ⟨rfl, (z2_o hq).symm, rfl⟩) hnd hdl hi (by
    rw [zC_a hkd, nI_clamp (Nat.lt_trans hj hlen)]
    unfold zAr
    rw [if_neg ht0, if_neg ht1]
    refine congrArg (fun z => Sum.inl (dA t, len, Sum.inr (Sum.inr (Sum.inr (Sum.inr z))))) ?_
    funext j
    by_cases hj : j = j9
    · subst hj; simp [va_up, zsp, z2]
    · simp [va_up, zsp, z2, hj]) hP1 hD1) hS1 hl (show zok (zsp S n j9 (some x)) L st from ho.t.t.t))
theorem z_aastN (X : zX p s m args c D cl K A cc nL own Ts tys G) {n len t0 t j9 : Nat} {C : String} (hkd : K.1 n = .inr (t, len)) (ht9 : ¬ 999 = t) (ht0 : ¬ t < 2) (ht1 : ¬ t = 2) (ht : tys[t0]? = some (dA t, .object C)) (hj : j9 < len) (hlen : len < 2 ^ 31)  (hd : decode cc pc = .ok (.aastore, 1)) (kk : AW p l e R s m args below meth c D cl K dA A O nL (zsp S n j9 none) kc ks Q (pc + 1) L (st)) : AW p l e R s m args below meth c D cl K dA A O nL S kc ks Q pc L (.null :: .int (nI j9) :: .ref n :: st) := by
  intro ad H locs ls hH hS hl ho
  obtain ⟨h0, hcl, hz, h00, dl, hnd, hdl, hP, hD⟩ := id hH
  have hdm : S.1 n = true := (ho.t.t.h).elim (fun e9 => by rw [e9, X.2.2.2.2.2.2.2.1] at hkd; exact absurd (congrArg Prod.fst (Sum.inr.inj hkd)) ht9) id
  obtain ⟨i, hi⟩ := List.getElem?_of_mem ((hdl n).mpr hdm)
  have hq9 : zAr ad S t len n = (len, .inr (.inr (.inr (.inr (fun j => (S.2.2.1 n j).map ad))))) := by unfold zAr; rw [if_neg ht0, if_neg ht1]
  exact va_astqN (cA := dA t) (f := fun j => (S.2.2.1 n j).map ad) X.1 X.2.1 X.2.2.2.2.2.1 hP hD hS i t0  (by rw [zW_at hi, zC_a hkd, hq9]) ht (vp_in_nI hj hlen) hd (fun H1 locs1 hP1 hD1 hS1 => kk ad H1 locs1 ls (zH_wr (S' := (zsp S n j9 none)) hH rfl hdm (fun a9 k9 x9 h9 => by
    by_cases e9 : a9 = n ∧ k9 = j9
    · have h8 : (none : Option Nat) = some x9 := by rw [← h9]; show (none : Option Nat) = z2 S.2.2.1 n j9 (none : Option Nat) a9 k9; rw [e9.1, e9.2, z2_s]
      cases h8
    · exact hcl a9 k9 x9 (by rw [← h9]; show _ = z2 S.2.2.1 n j9 (none : Option Nat) a9 k9; unfold z2; rw [if_neg e9])) (fun q hq => ⟨rfl, (z2_o hq).symm, rfl⟩) hnd hdl hi (by
    rw [zC_a hkd, nI_clamp (Nat.lt_trans hj hlen)]
    unfold zAr
    rw [if_neg ht0, if_neg ht1]
    refine congrArg (fun z => Sum.inl (dA t, len, Sum.inr (Sum.inr (Sum.inr (Sum.inr z))))) ?_
    funext j
    by_cases hj : j = j9
    · subst hj; simp [va_up, zsp, z2]
    · simp [va_up, zsp, z2, hj]) hP1 hD1) hS1 hl (show zok (zsp S n j9 none) L st from ho.t.t.t))
theorem z_alen (X : zX p s m args c D cl K A cc nL own Ts tys G) {n len t0 t : Nat} {ty : FieldType} {v : Int32} (hkd : K.1 n = .inr (t, len)) (ht9 : ¬ 999 = t) (ht : tys[t0]? = some (dA t, ty)) (hv : Int32.ofNat len = v) (hd : decode cc pc = .ok (.arraylength, 1)) (kk : AW p l e R s m args below meth c D cl K dA A O nL S kc ks Q (pc + 1) L (.int v :: st)) : AW p l e R s m args below meth c D cl K dA A O nL S kc ks Q pc L (.ref n :: st) := by
  intro ad H locs ls hH hS hl ho
  obtain ⟨h0, hcl, hz, h00, dl, hnd, hdl, hP, hD⟩ := id hH
  have hdm : S.1 n = true := (ho.h).elim (fun e9 => by rw [e9, X.2.2.2.2.2.2.2.1] at hkd; exact absurd (congrArg Prod.fst (Sum.inr.inj hkd)) ht9) id
  obtain ⟨i, hi⟩ := List.getElem?_of_mem ((hdl n).mpr hdm)
  exact va_alen (cA := dA t) (x := zAr ad S t len n) X.1 X.2.1 X.2.2.2.2.2.1 hP i t0 (by rw [zW_at hi, zC_a hkd]) ht hv hd (kk ad H locs ls hH hS hl (ho.t.c trivial))
theorem z_new (X : zX p s m args c D cl K A cc nL own Ts tys G) {C : String} {T : u_T} {N ci index n : Nat} (hin : ∀ w ∈ u_ws C T N, w ∈ Ts) (hc : cl[ci]? = some (C, T, N)) (hN : K.2.2 ci = N) (hkd : K.1 n = .inl ci) (hnf : S.1 n = false) (hn0 : n ≠ 0) (ty : Nat → FieldType) (hty : ∀ k, k < N → parseFieldDescriptor (T k).2.2.1 = some (ty k)) (hdf : ∀ k, k < N → defaultValue (ty k) = if K.2.1 ci k = true then .null else .int 0) (hcl0 : Cond.classLink own index C ∈ Ts) (hins : Cond.instantiable C N ∈ Ts) (hini : Cond.initialized C ∈ Ts) (hcells : kc + 1 ≤ R.cells) (hslots : ks + N ≤ R.slots) (hd : decode cc pc = .ok (.new index, 3)) (kk : AW p l e R s m args below meth c D cl K dA A O nL (zadd S n) (kc + 1) (ks + N) Q (pc + 3) L (.ref n :: st)) : AW p l e R s m args below meth c D cl K dA A O nL S kc ks Q pc L (st) := by
  intro ad H locs ls hH hS hl ho
  obtain ⟨h0, hcl, hz, h00, dl, hnd, hdl, hP, hD⟩ := id hH
  have zx0 : ∀ q : Nat, zup ad n q 0 = ad 0 := fun q => zup_n (Ne.symm hn0)
  have zx1 : ∀ q n9 : Nat, S.1 n9 = true → zup ad n q n9 = ad n9 := fun q n9 h9 => zup_n (fun e9 => by rw [e9, hnf] at h9; cases h9)
  have zI : ∀ k9, S.2.1 n k9 = 0 ∧ S.2.2.1 n k9 = none ∧ S.2.2.2 n k9 = 0 := hz n hnf
  refine va_new (fs := zF K ad S ci n) X.1 X.2.1 X.2.2.2.2.1 hin ty hty X.2.2.2.1 (X.2.2.2.2.1 _ hcl0) (X.2.2.2.2.1 _ hins) (X.2.2.2.2.1 _ hini) X.2.2.2.2.2.1 hP hD hS X.2.2.2.2.2.2.1 hc (fun j hj => ?_) hcells hslots hd (fun q H1 hP1 hD1 hS1 => ?_)
  · rw [hdf j hj]
    unfold vp_V
    rw [List.getD_eq_getElem?_getD]
    cases hr : K.2.1 ci j with
    | false => rw [zF_i (by rw [hN]; exact hj) hr, (zI j).1]; rfl
    | true => rw [zF_r (by rw [hN]; exact hj) hr, (zI j).2.1]; rfl
  · exact (by
    have e9 := zq_ext (ho) (zx0 q) (zx1 q)
    have w9 := kk (zup ad n q) H1 locs ls (zH_new hH hnf hn0 hnd hdl ((zC_o hkd).symm) hP1 hD1) hS1 (by rw [e9.1]; exact hl) ((zok_mono (fun q9 h9 => zadd_t h9) (ho)).c (Or.inr zadd_s))
    rw [List.map_cons, e9.2, show zv (zup ad n q) (.ref n) = .ref q from congrArg Value.ref zup_s] at w9
    exact w9)
theorem z_newi (X : zX p s m args c D cl K A cc nL own Ts tys G) {n len t0 : Nat} {i9 : Int32} (hkd : K.1 n = .inr (0, len)) (ht : tys[t0]? = some (dA 0, .int)) (hnf : S.1 n = false) (hn0 : n ≠ 0) (hi9 : ¬ i9 < 0) (hlen : i9.toNatClampNeg = len) (hby : len * 4 ≤ 536870912) (hac : Cond.arrayClass .int ∈ Ts) (hcells : kc + 1 ≤ R.cells) (hslots : ks + len ≤ R.slots) (hd : decode cc pc = .ok (.newarray .int, 2)) (kk : AW p l e R s m args below meth c D cl K dA A O nL (zadd S n) (kc + 1) (ks + len) Q (pc + 2) L (.ref n :: st)) : AW p l e R s m args below meth c D cl K dA A O nL S kc ks Q pc L (.int i9 :: st) := by
  intro ad H locs ls hH hS hl ho
  obtain ⟨h0, hcl, hz, h00, dl, hnd, hdl, hP, hD⟩ := id hH
  have zx0 : ∀ q : Nat, zup ad n q 0 = ad 0 := fun q => zup_n (Ne.symm hn0)
  have zx1 : ∀ q n9 : Nat, S.1 n9 = true → zup ad n q n9 = ad n9 := fun q n9 h9 => zup_n (fun e9 => by rw [e9, hnf] at h9; cases h9)
  have zI : ∀ k9, S.2.1 n k9 = 0 ∧ S.2.2.1 n k9 = none ∧ S.2.2.2 n k9 = 0 := hz n hnf
  refine va_newa (atype := .int) (ty := .int) (a0 := zAr ad S 0 len n) X.1 X.2.1 (X.2.2.2.2.1 _ hac) rfl X.2.2.2.2.2.1 hP hD hS X.2.2.2.2.2.2.1 (fun cA => ?_) hi9 hlen hby hcells hslots hd (fun q cA H1 hK1 hP1 hD1 hS1 => ?_)
  · show arrV cA len (fun j => Value.int (S.2.1 n j)) = _
    congr 1
    funext j
    rw [(zI j).1]
    rfl
  · have hcA : cA = dA 0 := by
      have r1 : va_RA s cA .int := (hK1.2 tys.length (cA, .int) (by rw [List.getElem?_append_right (Nat.le_refl _), Nat.sub_self]; rfl)).2
      have r2 : va_RA s (dA 0) .int := (X.2.2.2.2.2.1.2 t0 _ ht).2
      exact Option.some.inj (r1.symm.trans r2)
    subst hcA
    exact (by
    have e9 := zq_ext (ho.t) (zx0 q) (zx1 q)
    have w9 := kk (zup ad n q) H1 locs ls (zH_new hH hnf hn0 hnd hdl ((zC_a hkd).symm) hP1 hD1) hS1 (by rw [e9.1]; exact hl) ((zok_mono (fun q9 h9 => zadd_t h9) (ho.t)).c (Or.inr zadd_s))
    rw [List.map_cons, e9.2, show zv (zup ad n q) (.ref n) = .ref q from congrArg Value.ref zup_s] at w9
    exact w9)
theorem z_newz (X : zX p s m args c D cl K A cc nL own Ts tys G) {n len t0 : Nat} {i9 : Int32} (hkd : K.1 n = .inr (1, len)) (ht : tys[t0]? = some (dA 1, .boolean)) (hnf : S.1 n = false) (hn0 : n ≠ 0) (hi9 : ¬ i9 < 0) (hlen : i9.toNatClampNeg = len) (hby : len * 1 ≤ 536870912) (hac : Cond.arrayClass .boolean ∈ Ts) (hcells : kc + 1 ≤ R.cells) (hslots : ks + len ≤ R.slots) (hd : decode cc pc = .ok (.newarray .boolean, 2)) (kk : AW p l e R s m args below meth c D cl K dA A O nL (zadd S n) (kc + 1) (ks + len) Q (pc + 2) L (.ref n :: st)) : AW p l e R s m args below meth c D cl K dA A O nL S kc ks Q pc L (.int i9 :: st) := by
  intro ad H locs ls hH hS hl ho
  obtain ⟨h0, hcl, hz, h00, dl, hnd, hdl, hP, hD⟩ := id hH
  have zx0 : ∀ q : Nat, zup ad n q 0 = ad 0 := fun q => zup_n (Ne.symm hn0)
  have zx1 : ∀ q n9 : Nat, S.1 n9 = true → zup ad n q n9 = ad n9 := fun q n9 h9 => zup_n (fun e9 => by rw [e9, hnf] at h9; cases h9)
  have zI : ∀ k9, S.2.1 n k9 = 0 ∧ S.2.2.1 n k9 = none ∧ S.2.2.2 n k9 = 0 := hz n hnf
  refine va_newa (atype := .boolean) (ty := .boolean) (a0 := zAr ad S 1 len n) X.1 X.2.1 (X.2.2.2.2.1 _ hac) rfl X.2.2.2.2.2.1 hP hD hS X.2.2.2.2.2.2.1 (fun cA => ?_) hi9 hlen hby hcells hslots hd (fun q cA H1 hK1 hP1 hD1 hS1 => ?_)
  · show arrV cA len (fun j => Value.int (S.2.1 n j)) = _
    congr 1
    funext j
    rw [(zI j).1]
    rfl
  · have hcA : cA = dA 1 := by
      have r1 : va_RA s cA .boolean := (hK1.2 tys.length (cA, .boolean) (by rw [List.getElem?_append_right (Nat.le_refl _), Nat.sub_self]; rfl)).2
      have r2 : va_RA s (dA 1) .boolean := (X.2.2.2.2.2.1.2 t0 _ ht).2
      exact Option.some.inj (r1.symm.trans r2)
    subst hcA
    exact (by
    have e9 := zq_ext (ho.t) (zx0 q) (zx1 q)
    have w9 := kk (zup ad n q) H1 locs ls (zH_new hH hnf hn0 hnd hdl ((zC_a hkd).symm) hP1 hD1) hS1 (by rw [e9.1]; exact hl) ((zok_mono (fun q9 h9 => zadd_t h9) (ho.t)).c (Or.inr zadd_s))
    rw [List.map_cons, e9.2, show zv (zup ad n q) (.ref n) = .ref q from congrArg Value.ref zup_s] at w9
    exact w9)
theorem z_newl (X : zX p s m args c D cl K A cc nL own Ts tys G) {n len t0 : Nat} {i9 : Int32} (hkd : K.1 n = .inr (2, len)) (ht : tys[t0]? = some (dA 2, .long)) (hnf : S.1 n = false) (hn0 : n ≠ 0) (hi9 : ¬ i9 < 0) (hlen : i9.toNatClampNeg = len) (hby : len * 8 ≤ 536870912) (hac : Cond.arrayClass .long ∈ Ts) (hcells : kc + 1 ≤ R.cells) (hslots : ks + len ≤ R.slots) (hd : decode cc pc = .ok (.newarray .long, 2)) (kk : AW p l e R s m args below meth c D cl K dA A O nL (zadd S n) (kc + 1) (ks + len) Q (pc + 2) L (.ref n :: st)) : AW p l e R s m args below meth c D cl K dA A O nL S kc ks Q pc L (.int i9 :: st) := by
  intro ad H locs ls hH hS hl ho
  obtain ⟨h0, hcl, hz, h00, dl, hnd, hdl, hP, hD⟩ := id hH
  have zx0 : ∀ q : Nat, zup ad n q 0 = ad 0 := fun q => zup_n (Ne.symm hn0)
  have zx1 : ∀ q n9 : Nat, S.1 n9 = true → zup ad n q n9 = ad n9 := fun q n9 h9 => zup_n (fun e9 => by rw [e9, hnf] at h9; cases h9)
  have zI : ∀ k9, S.2.1 n k9 = 0 ∧ S.2.2.1 n k9 = none ∧ S.2.2.2 n k9 = 0 := hz n hnf
  refine va_newa (atype := .long) (ty := .long) (a0 := zAr ad S 2 len n) X.1 X.2.1 (X.2.2.2.2.1 _ hac) rfl X.2.2.2.2.2.1 hP hD hS X.2.2.2.2.2.2.1 (fun cA => ?_) hi9 hlen hby hcells hslots hd (fun q cA H1 hK1 hP1 hD1 hS1 => ?_)
  · show arrV cA len (fun j => Value.long (S.2.2.2 n j)) = _
    congr 1
    funext j
    rw [(zI j).2.2]
    rfl
  · have hcA : cA = dA 2 := by
      have r1 : va_RA s cA .long := (hK1.2 tys.length (cA, .long) (by rw [List.getElem?_append_right (Nat.le_refl _), Nat.sub_self]; rfl)).2
      have r2 : va_RA s (dA 2) .long := (X.2.2.2.2.2.1.2 t0 _ ht).2
      exact Option.some.inj (r1.symm.trans r2)
    subst hcA
    exact (by
    have e9 := zq_ext (ho.t) (zx0 q) (zx1 q)
    have w9 := kk (zup ad n q) H1 locs ls (zH_new hH hnf hn0 hnd hdl ((zC_a hkd).symm) hP1 hD1) hS1 (by rw [e9.1]; exact hl) ((zok_mono (fun q9 h9 => zadd_t h9) (ho.t)).c (Or.inr zadd_s))
    rw [List.map_cons, e9.2, show zv (zup ad n q) (.ref n) = .ref q from congrArg Value.ref zup_s] at w9
    exact w9)
theorem z_anew (X : zX p s m args c D cl K A cc nL own Ts tys G) {n len t0 t index : Nat} {i9 : Int32} {C : String} (hkd : K.1 n = .inr (t, len)) (ht0 : ¬ t < 2) (ht1 : ¬ t = 2) (ht : tys[t0]? = some (dA t, .object C)) (hnf : S.1 n = false) (hn0 : n ≠ 0) (hi9 : ¬ i9 < 0) (hlen : i9.toNatClampNeg = len) (hby : len * 4 ≤ 536870912) (hcl0 : Cond.classLink own index C ∈ Ts) (hao : va_AO C s) (hcells : kc + 1 ≤ R.cells) (hslots : ks + len ≤ R.slots) (hd : decode cc pc = .ok (.anewarray index, 3)) (kk : AW p l e R s m args below meth c D cl K dA A O nL (zadd S n) (kc + 1) (ks + len) Q (pc + 3) L (.ref n :: st)) : AW p l e R s m args below meth c D cl K dA A O nL S kc ks Q pc L (.int i9 :: st) := by
  intro ad H locs ls hH hS hl ho
  obtain ⟨h0, hcl, hz, h00, dl, hnd, hdl, hP, hD⟩ := id hH
  have zx0 : ∀ q : Nat, zup ad n q 0 = ad 0 := fun q => zup_n (Ne.symm hn0)
  have zx1 : ∀ q n9 : Nat, S.1 n9 = true → zup ad n q n9 = ad n9 := fun q n9 h9 => zup_n (fun e9 => by rw [e9, hnf] at h9; cases h9)
  have zI : ∀ k9, S.2.1 n k9 = 0 ∧ S.2.2.1 n k9 = none ∧ S.2.2.2 n k9 = 0 := hz n hnf
  have hq9 : zAr ad S t len n = (len, .inr (.inr (.inr (.inr (fun _ => none))))) := by
    unfold zAr
    rw [if_neg ht0, if_neg ht1]
    refine congrArg (fun z => (len, Sum.inr (Sum.inr (Sum.inr (Sum.inr z))))) ?_
    funext j
    rw [(zI j).2.1]; rfl
  refine va_newq X.1 X.2.1 X.2.2.2.1 (X.2.2.2.2.1 _ hcl0) hao X.2.2.2.2.2.1 hP hD hS X.2.2.2.2.2.2.1 hi9 hlen hby hcells hslots hd (fun q cA H1 hK1 hP1 hD1 hS1 => ?_)
  have hcA : cA = dA t := by
    have r1 : va_RA s cA (.object C) := (hK1.2 tys.length (cA, .object C) (by rw [List.getElem?_append_right (Nat.le_refl _), Nat.sub_self]; rfl)).2
    have r2 : va_RA s (dA t) (.object C) := (X.2.2.2.2.2.1.2 t0 _ ht).2
    obtain ⟨_, _, _, _, _, r1⟩ := r1
    obtain ⟨_, _, _, _, _, r2⟩ := r2
    exact Option.some.inj (r1.symm.trans r2)
  subst hcA
  exact (by
    have e9 := zq_ext (ho.t) (zx0 q) (zx1 q)
    have w9 := kk (zup ad n q) H1 locs ls (zH_new hH hnf hn0 hnd hdl (by rw [zC_a hkd, hq9]) hP1 hD1) hS1 (by rw [e9.1]; exact hl) ((zok_mono (fun q9 h9 => zadd_t h9) (ho.t)).c (Or.inr zadd_s))
    rw [List.map_cons, e9.2, show zv (zup ad n q) (.ref n) = .ref q from congrArg Value.ref zup_s] at w9
    exact w9)
theorem z_icmp_eqN (X : zX p s m args c D cl K A cc nL own Ts tys G) {a b : Nat} {off : Int} {tgt : Nat} (hd : decode cc pc = .ok (.if_icmp .eq off, 3)) (ht : (pc : Int) + off = (tgt : Int)) (ha : a < 2 ^ 31) (hb : b < 2 ^ 31) (kt : a = b → AW p l e R s m args below meth c D cl K dA A O nL S kc ks Q tgt L (st)) (kf : ¬ a = b → AW p l e R s m args below meth c D cl K dA A O nL S kc ks Q (pc + 3) L (st)) : AW p l e R s m args below meth c D cl K dA A O nL S kc ks Q pc L (.int (nI b) :: .int (nI a) :: st) := z_icmp_eq X hd ht (fun h => kt ((nI_eq ha hb).mp h)) (fun h => kf (fun q => h ((nI_eq ha hb).mpr q)))
theorem z_icmp_ltN (X : zX p s m args c D cl K A cc nL own Ts tys G) {a b : Nat} {off : Int} {tgt : Nat} (hd : decode cc pc = .ok (.if_icmp .lt off, 3)) (ht : (pc : Int) + off = (tgt : Int)) (ha : a < 2 ^ 31) (hb : b < 2 ^ 31) (kt : a < b → AW p l e R s m args below meth c D cl K dA A O nL S kc ks Q tgt L (st)) (kf : ¬ a < b → AW p l e R s m args below meth c D cl K dA A O nL S kc ks Q (pc + 3) L (st)) : AW p l e R s m args below meth c D cl K dA A O nL S kc ks Q pc L (.int (nI b) :: .int (nI a) :: st) := z_icmp_lt X hd ht (fun h => kt ((nI_ltI ha hb).mp h)) (fun h => kf (fun q => h ((nI_ltI ha hb).mpr q)))
theorem z_icmp_leN (X : zX p s m args c D cl K A cc nL own Ts tys G) {a b : Nat} {off : Int} {tgt : Nat} (hd : decode cc pc = .ok (.if_icmp .le off, 3)) (ht : (pc : Int) + off = (tgt : Int)) (ha : a < 2 ^ 31) (hb : b < 2 ^ 31) (kt : a ≤ b → AW p l e R s m args below meth c D cl K dA A O nL S kc ks Q tgt L (st)) (kf : ¬ a ≤ b → AW p l e R s m args below meth c D cl K dA A O nL S kc ks Q (pc + 3) L (st)) : AW p l e R s m args below meth c D cl K dA A O nL S kc ks Q pc L (.int (nI b) :: .int (nI a) :: st) := z_icmp_le X hd ht (fun h => kt ((nI_leI ha hb).mp h)) (fun h => kf (fun q => h ((nI_leI ha hb).mpr q)))
theorem z_icmp_geN (X : zX p s m args c D cl K A cc nL own Ts tys G) {a b : Nat} {off : Int} {tgt : Nat} (hd : decode cc pc = .ok (.if_icmp .ge off, 3)) (ht : (pc : Int) + off = (tgt : Int)) (ha : a < 2 ^ 31) (hb : b < 2 ^ 31) (kt : b ≤ a → AW p l e R s m args below meth c D cl K dA A O nL S kc ks Q tgt L (st)) (kf : ¬ b ≤ a → AW p l e R s m args below meth c D cl K dA A O nL S kc ks Q (pc + 3) L (st)) : AW p l e R s m args below meth c D cl K dA A O nL S kc ks Q pc L (.int (nI b) :: .int (nI a) :: st) := z_icmp_ge X hd ht (fun h => kt ((nI_leI hb ha).mp h)) (fun h => kf (fun q => h ((nI_leI hb ha).mpr q)))
theorem z_icmp_gtN (X : zX p s m args c D cl K A cc nL own Ts tys G) {a b : Nat} {off : Int} {tgt : Nat} (hd : decode cc pc = .ok (.if_icmp .gt off, 3)) (ht : (pc : Int) + off = (tgt : Int)) (ha : a < 2 ^ 31) (hb : b < 2 ^ 31) (kt : b < a → AW p l e R s m args below meth c D cl K dA A O nL S kc ks Q tgt L (st)) (kf : ¬ b < a → AW p l e R s m args below meth c D cl K dA A O nL S kc ks Q (pc + 3) L (st)) : AW p l e R s m args below meth c D cl K dA A O nL S kc ks Q pc L (.int (nI b) :: .int (nI a) :: st) := z_icmp_gt X hd ht (fun h => kt ((nI_ltI hb ha).mp h)) (fun h => kf (fun q => h ((nI_ltI hb ha).mpr q)))
theorem z_icmp_neN (X : zX p s m args c D cl K A cc nL own Ts tys G) {a b : Nat} {off : Int} {tgt : Nat} (hd : decode cc pc = .ok (.if_icmp .ne off, 3)) (ht : (pc : Int) + off = (tgt : Int)) (ha : a < 2 ^ 31) (hb : b < 2 ^ 31) (kt : ¬ a = b → AW p l e R s m args below meth c D cl K dA A O nL S kc ks Q tgt L (st)) (kf : a = b → AW p l e R s m args below meth c D cl K dA A O nL S kc ks Q (pc + 3) L (st)) : AW p l e R s m args below meth c D cl K dA A O nL S kc ks Q pc L (.int (nI b) :: .int (nI a) :: st) := z_icmp_ne X hd ht (fun h => kt (fun q => h ((nI_eq ha hb).mpr q))) (fun h => kf ((nI_eq ha hb).mp h))
theorem z_top {x y : Int32} (h : x = y) (k : AW p l e R s m args below meth c D cl K dA A O nL S kc ks Q pc L (.int y :: st)) : AW p l e R s m args below meth c D cl K dA A O nL S kc ks Q pc L (.int x :: st) := h ▸ k
theorem z_sto {S' : zS} (h : S = S') (k : AW p l e R s m args below meth c D cl K dA A O nL S' kc ks Q pc L (st)) : AW p l e R s m args below meth c D cl K dA A O nL S kc ks Q pc L (st) := h ▸ k
theorem z_wide {kc9 ks9 : Nat} (h1 : kc ≤ kc9) (h2 : ks ≤ ks9) (k : AW p l e R s m args below meth c D cl K dA A O nL S kc9 ks9 Q pc L (st)) : AW p l e R s m args below meth c D cl K dA A O nL S kc ks Q pc L (st) := fun ad H locs ls hH hS hl ho => W.widen h1 h2 (k ad H locs ls hH hS hl ho)
theorem z_loc {L' : List (Nat × Value)} (ps : List Nat) (hp : lv_pick L ps = L') (k : AW p l e R s m args below meth c D cl K dA A O nL S kc ks Q pc L' (st)) : AW p l e R s m args below meth c D cl K dA A O nL S kc ks Q pc L (st) := fun ad H locs ls hH hS hl ho => k ad H locs ls hH hS ⟨hl.1, hl.2.1, fun q hq => by
  obtain ⟨q9, h9, e9⟩ := List.mem_map.mp hq
  subst e9
  rw [← hp] at h9
  obtain ⟨k9, -, hk9⟩ := List.mem_filterMap.mp h9
  exact hl.2.2 _ (List.mem_map.mpr ⟨q9, List.mem_of_getElem? hk9, rfl⟩)⟩ ⟨fun q hq => by
  rw [← hp] at hq
  obtain ⟨k9, -, hk9⟩ := List.mem_filterMap.mp hq
  exact ho.1 q (List.mem_of_getElem? hk9), ho.2⟩
end ZR
/-! CALLS AND CONTRACTS over the abstract store -/
def zPc (D : va_G) (cl : List vw_C) (K : zK) (dA : Nat → ClassId) (A : Nat → Prop) (ad : Nat → Nat) (S : zS) (G : (Nat → Prop) → State → Prop) (As : List Value) : Array Value → State → Prop := fun v U => v = (As.map (zv ad)).toArray ∧ zH D cl K dA A (ad, S) ad S U.heap ∧ (∀ q, U.heap.size ≤ q → A q) ∧ G A U
def zQc (D : va_G) (cl : List vw_C) (K : zK) (dA : Nat → ClassId) (A : Nat → Prop) (ad : Nat → Nat) (S : zS) (Post : Option Value → zS → Prop) : Array Value → State → Outcome → State → Prop := fun _ st o t => (∃ (v : Option Value) (ad' : Nat → Nat) (S' : zS), o = .returned (v.map (zv ad')) ∧ Post v S' ∧ zH D cl K dA A (ad, S) ad' S' t.heap ∧ ∀ w, v = some w → zo S' w) ∧ va_F A st t
def zXC (D : va_G) (cl : List vw_C) (K : zK) (dA : Nat → ClassId) (A : Nat → Prop) (ad : Nat → Nat) (S : zS) (PX : String → zS → Prop) : String → State → State → Prop := fun E st t => (∃ (ad' : Nat → Nat) (S' : zS), PX E S' ∧ zH D cl K dA A (ad, S) ad' S' t.heap) ∧ va_F A st t
/-- a method's contract: at these arguments, in this store, it returns with Post, or throws with PX -/
def zMet (l : Launch) (D : va_G) (cl : List vw_C) (K : zK) (dA : Nat → ClassId) (G : (Nat → Prop) → State → Prop) (y : MethodName) (ws : List Cond) (rm : Room) (mc ms : Nat) (As : List Value) (S : zS) (Post : Option Value → zS → Prop) (PX : String → zS → Prop) : Prop :=
  ∀ (A : Nat → Prop) (ad : Nat → Nat), (∀ v ∈ As, zo S v) → vx_Met l y ws rm (zPc D cl K dA A ad S G As) (zQc D cl K dA A ad S Post) (zXC D cl K dA A ad S PX) mc ms A
def zGm (G : (Nat → Prop) → State → Prop) : Prop := ∀ (A : Nat → Prop) (s t : State), s.WarmedH t.vm → s.heap.size ≤ t.heap.size → (∀ q : Nat, q < s.heap.size → ¬ A q → t.heap[q]? = s.heap[q]?) → G A s → G A t
/-- q is thrown over the frame -/
def AWX (p : Program) (l : Launch) (e : Env) (R : Room) (s : State) (m : MethodId) (args : Array Value) (below : List Frame) (meth : Method) (c : Code) (D : va_G) (cl : List vw_C) (K : zK) (dA : Nat → ClassId) (A : Nat → Prop) (O : (Nat → Nat) × zS) (nL : Nat) (S : zS) (kc ks : Nat) (Q : State → Prop) (pc : Nat) (L : List (Nat × Value)) (st : List Value) (E : String) : Prop :=
  ∀ (ad : Nat → Nat) (H : Heap) (locs : List Loc) (ls : Array Slot) (ce : Cell) (q : Addr), zH D cl K dA A O ad S H → va_S A s.heap H locs → lv_has ls nL (L.map (zq ad)) → zok S L st → H[q]? = some ce → ce.vm = .none → s.vm.findClass E = some ce.cls → vx_W p l e R s m args below meth c H locs kc ks Q (F0 m pc ls (st.map (zv ad))) q
theorem zPc_blind {D : va_G} {cl : List vw_C} {K : zK} {dA : Nat → ClassId} {A : Nat → Prop} {ad : Nat → Nat} {S : zS} {G : (Nat → Prop) → State → Prop} {As : List Value} (hG : zGm G) : FrameBlind (zPc D cl K dA A ad S G As) := by
  intro a U g mk h
  obtain ⟨h1, h2, h3, h4⟩ := h
  exact ⟨h1, h2, h3, hG A U (U.calling g mk a) (State.WarmedH.refl U) (Nat.le_refl _) (fun _ _ _ => rfl) h4⟩
/-- a method that never throws, as the kit's Met -/
theorem z_toMet {l : Launch} {y : MethodName} {ws : List Cond} {rm : Room} {Pc : Array Value → State → Prop} {Qc : Array Value → State → Outcome → State → Prop} {XC : String → State → State → Prop} {mc ms : Nat} {free : Addr → Prop} (hX : ∀ E st t, ¬ XC E st t) (h : vx_Met l y ws rm Pc Qc XC mc ms free) : Met l y ws rm Pc Qc mc ms free := by
  intro p e h1 h2 h3 s m args below h4 h5 h6 h7
  obtain ⟨n, o, a1, a2, a3, a4⟩ := h p e h1 h2 h3 s m args below h4 h5 h6 h7
  refine ⟨n, o, a1, a2, a3, ?_⟩
  rcases a4 with a4 | ⟨q, -, E, ce, L, hx, -⟩
  · exact a4
  · exact absurd hx (hX E _ _)
section ZC
variable {p : Program} {l : Launch} {e : Env} {R : Room} {s : State} {m : MethodId} {args : Array Value} {below : List Frame} {meth : Method} {c : Code} {kc ks : Nat} {Q : State → Prop}
variable {D : va_G} {cl : List vw_C} {K : zK} {dA : Nat → ClassId} {A : Nat → Prop} {O : (Nat → Nat) × zS} {cc : ByteArray} {nL : Nat} {own : String} {Ts : List Cond} {tys : List (ClassId × FieldType)} {G : (Nat → Prop) → State → Prop} {S : zS} {pc : Nat} {L : List (Nat × Value)} {st : List Value}
theorem z_run {ad : Nat → Nat} {H : Heap} {locs : List Loc} {ls : Array Slot} {st0 rest : List Value} {a : Array Value} {mc ms : Nat} {Post : Option Value → zS → Prop} {PX : String → zS → Prop}
    (hr : vx_Run p l e R s m args below meth c H locs kc ks mc ms (F0 m pc ls st0) (rest.map (zv ad)) (zQc D cl K dA A ad S Post a) (zXC D cl K dA A ad S PX) A)
    (hH : zH D cl K dA A O ad S H) (hS : va_S A s.heap H locs) (hl : lv_has ls nL (L.map (zq ad))) (ho : zok S L rest)
    (kk : ∀ (v : Option Value) (S' : zS), Post v S' → AW p l e R s m args below meth c D cl K dA A O nL S' (kc + mc) (ks + ms) Q (pc + 3) L (v.toList ++ rest))
    (kx : ∀ (E : String) (S' : zS), PX E S' → AWX p l e R s m args below meth c D cl K dA A O nL S' (kc + mc) (ks + ms) Q pc L rest E) : W p l e R s m args below meth c H locs kc ks Q (F0 m pc ls st0) := by
  intro T hT X
  rcases hr T hT X with ⟨v, st₀, t, T', L9, h0, X', hL, e1, e2, ⟨⟨v', ad', S', hv, hp, hH', hw⟩, hF⟩, st⟩ | ⟨q, st₀, t, T', L9, E, ce, h0, X', hL, e1, e2, ⟨⟨ad', S', hp, hH'⟩, hF⟩, hce, hcv, hcl, st⟩
  · have hx : zext ad S ad' S' := hH'.1
    have hH9 : zH D cl K dA A O ad' S' t.heap := ⟨hH.1.tr hx, hH'.2⟩
    obtain ⟨k1, k2, k3⟩ := vx_keep (A0 := A) (A1 := A) h0 e1 hS (fun q _ h => h) (fun q h => h) hL hF
    have hv' : v = v'.map (zv ad') := Outcome.returned.inj hv
    have e9 := zq_ext ho hx.2 (fun n h => (hx.1 n h).2)
    have ho' : zok S' L rest := zok_mono (fun n h => (hx.1 n h).1) ho
    have w := kk v' S' hp ad' T'.heap (locs ++ L9) ls (by rw [e1]; exact hH9) k3 (by rw [e9.1]; exact hl) ⟨ho'.1, fun z hz => by
      rcases List.mem_append.mp hz with h | h
      · exact hw z (by cases v' with
          | none => cases h
          | some y => rw [List.mem_singleton.mp h])
      · exact ho'.2 z h⟩
    rw [List.map_append, e9.2, show (v'.toList).map (zv ad') = v.toList by rw [hv']; cases v' <;> rfl] at w
    obtain ⟨t2, a1, b1⟩ := w T' rfl X'
    exact ⟨t2, st t2 a1, b1⟩
  · have hx : zext ad S ad' S' := hH'.1
    have hH9 : zH D cl K dA A O ad' S' t.heap := ⟨hH.1.tr hx, hH'.2⟩
    obtain ⟨k1, k2, k3⟩ := vx_keep (A0 := A) (A1 := A) h0 e1 hS (fun q _ h => h) (fun q h => h) hL hF
    have e9 := zq_ext ho hx.2 (fun n h => (hx.1 n h).2)
    have ho' : zok S' L rest := zok_mono (fun n h => (hx.1 n h).1) ho
    have w := kx E S' hp ad' T'.heap (locs ++ L9) ls ce q (by rw [e1]; exact hH9) k3 (by rw [e9.1]; exact hl) ho' (by rw [e1]; exact hce) hcv hcl
    rw [e9.2] at w
    obtain ⟨t2, a1, b1⟩ := w T' rfl X'
    exact ⟨t2, st.trans a1, b1⟩
theorem z_room {st : List Value} {ad : Nat → Nat} (h : (st.map fun v => v.category).sum ≤ 8) : ((st.map (zv ad)).map fun v => v.category).sum ≤ 8 := by
  rw [List.map_map, show ((fun v : Value => v.category) ∘ zv ad) = (fun v : Value => v.category) from funext fun v => zv_cat ad v]; exact h
theorem z_rev {As rest st0 : List Value} {b : Value} {ad : Nat → Nat} (h : As.reverse ++ b :: rest = st0) : st0.map (zv ad) = (As.map (zv ad)).reverse ++ zv ad b :: rest.map (zv ad) := by
  rw [← h, List.map_append, List.map_cons, List.map_reverse]
theorem z_rev0 {As rest st0 : List Value} {ad : Nat → Nat} (h : As.reverse ++ rest = st0) : st0.map (zv ad) = (As.map (zv ad)).reverse ++ rest.map (zv ad) := by
  rw [← h, List.map_append, List.map_reverse]
theorem z_callV (X : zX p s m args c D cl K A cc nL own Ts tys G) (hG : zGm G) {y : MethodName} {bytes : ByteArray} {maxL mc ms index nm ci n : Nat} {ret : Option FieldType} {ws : List Cond} {rm : Room} {C : String} {r : vw_C} {As rest st0 : List Value} {Post : Option Value → zS → Prop} {PX : String → zS → Prop}
    (hM : zMet l D cl K dA G y ws rm mc ms (.ref nm :: As) S Post PX) (cw : CallW R s args own C index y bytes maxL ret ws rm mc ms n) (hkd : K.1 nm = .inl ci) (hc : cl[ci]? = some r) (hC : r.1 = C) (hn : As.length = n) (hst : As.reverse ++ .ref nm :: rest = st0)
    (hw : (rest.map fun v => v.category).sum ≤ 8) (hd : decode cc pc = .ok (.invokevirtual index, 3)) (hf : kc + mc ≤ R.cells ∧ ks + ms ≤ R.slots)
    (kk : ∀ (v : Option Value) (S' : zS), Post v S' → AW p l e R s m args below meth c D cl K dA A O nL S' (kc + mc) (ks + ms) Q (pc + 3) L (v.toList ++ rest))
    (kx : ∀ (E : String) (S' : zS), PX E S' → AWX p l e R s m args below meth c D cl K dA A O nL S' (kc + mc) (ks + ms) Q pc L rest E) : AW p l e R s m args below meth c D cl K dA A O nL S kc ks Q pc L st0 := by
  intro ad H locs ls hH hS hl ho
  obtain ⟨h0, hcl, hz, h00, dl, hnd, hdl, hP, hD⟩ := id hH
  have hoA : ∀ v ∈ (Value.ref nm :: As), zo S v := fun v hv => ho.2 v (by
    rw [← hst]
    rcases List.mem_cons.mp hv with e9 | h9
    · rw [e9]; exact List.mem_append_right _ List.mem_cons_self
    · exact List.mem_append_left _ (List.mem_reverse.mpr h9))
  have hor : zok S L rest := ⟨ho.1, fun v hv => ho.2 v (by rw [← hst]; exact List.mem_append_right _ (List.mem_cons_of_mem _ hv))⟩
  have hdm : S.1 nm = true := (hoA _ List.mem_cons_self).elim (fun e9 => by rw [e9, X.2.2.2.2.2.2.2.1] at hkd; cases hkd) id
  obtain ⟨i, hi⟩ := List.getElem?_of_mem ((hdl nm).mpr hdm)
  have he : (zW K dA ad S dl)[i]? = some (ad nm, .inr (ci, zF K ad S ci nm)) := by rw [zW_at hi, zC_o hkd]
  refine z_run (a := (Value.ref (ad nm) :: As.map (zv ad)).toArray) (vx_runV (C := C) (As := As.map (zv ad)) (b := ad nm) ⟨X.1, X.2.1, X.2.2.1, X.2.2.2.1, X.2.2.2.2.1⟩ (hM A ad hoA) cw ⟨zPc_blind hG, by rw [← hC]; exact va_recv X.2.2.2.2.2.1 hP hc he, fun U hU hW => ⟨rfl, by rw [hU]; exact ⟨zext.rf, hH.2⟩, fun q hq => X.2.2.2.2.2.2.1 q (Nat.le_trans hS.1 (by rw [← hU]; exact hq)), hG A s U hW (by rw [hU]; exact hS.1) (fun q h1 h2 => by rw [hU]; exact hS.2.1 q h1 h2) X.2.2.2.2.2.2.2.2⟩⟩ rfl (by rw [List.length_map]; exact hn) hl.1 (z_rev hst) (lv_room (z_room hw)) hd hf) hH hS hl hor kk kx
theorem z_callS (X : zX p s m args c D cl K A cc nL own Ts tys G) (hG : zGm G) {y : MethodName} {bytes : ByteArray} {maxL mc ms index n : Nat} {ret : Option FieldType} {ws : List Cond} {rm : Room} {As rest st0 : List Value} {Post : Option Value → zS → Prop} {PX : String → zS → Prop}
    (hM : zMet l D cl K dA G y ws rm mc ms As S Post PX) (cw : CallB R s args own index y bytes maxL ret ws rm mc ms n ∧ (Cond.static y).before args s = true) (hn : As.length = n) (hst : As.reverse ++ rest = st0)
    (hw : (rest.map fun v => v.category).sum ≤ 8) (hd : decode cc pc = .ok (.invokestatic index, 3)) (hf : kc + mc ≤ R.cells ∧ ks + ms ≤ R.slots)
    (kk : ∀ (v : Option Value) (S' : zS), Post v S' → AW p l e R s m args below meth c D cl K dA A O nL S' (kc + mc) (ks + ms) Q (pc + 3) L (v.toList ++ rest))
    (kx : ∀ (E : String) (S' : zS), PX E S' → AWX p l e R s m args below meth c D cl K dA A O nL S' (kc + mc) (ks + ms) Q pc L rest E) : AW p l e R s m args below meth c D cl K dA A O nL S kc ks Q pc L st0 := by
  intro ad H locs ls hH hS hl ho
  have hoA : ∀ v ∈ As, zo S v := fun v hv => ho.2 v (by rw [← hst]; exact List.mem_append_left _ (List.mem_reverse.mpr hv))
  have hor : zok S L rest := ⟨ho.1, fun v hv => ho.2 v (by rw [← hst]; exact List.mem_append_right _ hv)⟩
  refine z_run (a := (As.map (zv ad)).toArray) (vx_runS (As := As.map (zv ad)) ⟨X.1, X.2.1, X.2.2.1, X.2.2.2.1, X.2.2.2.2.1⟩ (hM A ad hoA) cw ⟨zPc_blind hG, fun U hU hW => ⟨rfl, by rw [hU]; exact ⟨zext.rf, hH.2⟩, fun q hq => X.2.2.2.2.2.2.1 q (Nat.le_trans hS.1 (by rw [← hU]; exact hq)), hG A s U hW (by rw [hU]; exact hS.1) (fun q h1 h2 => by rw [hU]; exact hS.2.1 q h1 h2) X.2.2.2.2.2.2.2.2⟩⟩ rfl (by rw [List.length_map]; exact hn) hl.1 (z_rev0 hst) (lv_room (z_room hw)) hd hf) hH hS hl hor kk kx
theorem z_callI (X : zX p s m args c D cl K A cc nL own Ts tys G) (hG : zGm G) {y : MethodName} {bytes : ByteArray} {maxL mc ms index nm n : Nat} {ws : List Cond} {rm : Room} {As rest st0 : List Value} {Post : Option Value → zS → Prop} {PX : String → zS → Prop} (hPX : ∀ E S', ¬ PX E S')
    (hM : zMet l D cl K dA G y ws rm mc ms (.ref nm :: As) S Post PX) (cw : CallB R s args own index y bytes maxL none ws rm mc ms n ∧ y.name = "<init>" ∧ (Cond.instanceMethod y).before args s = true) (hn : As.length = n) (hst : As.reverse ++ .ref nm :: rest = st0)
    (hw : (rest.map fun v => v.category).sum ≤ 8) (hd : decode cc pc = .ok (.invokespecial index, 3)) (hf : kc + mc ≤ R.cells ∧ ks + ms ≤ R.slots)
    (kk : ∀ (v : Option Value) (S' : zS), Post v S' → AW p l e R s m args below meth c D cl K dA A O nL S' (kc + mc) (ks + ms) Q (pc + 3) L (v.toList ++ rest)) : AW p l e R s m args below meth c D cl K dA A O nL S kc ks Q pc L st0 := by
  intro ad H locs ls hH hS hl ho
  have hoA : ∀ v ∈ (Value.ref nm :: As), zo S v := fun v hv => ho.2 v (by
    rw [← hst]
    rcases List.mem_cons.mp hv with e9 | h9
    · rw [e9]; exact List.mem_append_right _ List.mem_cons_self
    · exact List.mem_append_left _ (List.mem_reverse.mpr h9))
  have hor : zok S L rest := ⟨ho.1, fun v hv => ho.2 v (by rw [← hst]; exact List.mem_append_right _ (List.mem_cons_of_mem _ hv))⟩
  have hr := va_runI (locs := locs) (cells := kc) (slots := ks) (e := e) (below := below) (meth := meth) (g := F0 m pc ls (st0.map (zv ad))) (rest := rest.map (zv ad)) (As := As.map (zv ad)) (b := ad nm) ⟨X.1, X.2.1, X.2.2.1, X.2.2.2.1, X.2.2.2.2.1⟩ (z_toMet (fun E st t h => h.1.elim fun a h => h.elim fun b h => hPX E b h.1) (hM A ad hoA)) cw ⟨zPc_blind hG, fun U hU hW => ⟨rfl, by rw [hU]; exact ⟨zext.rf, hH.2⟩, fun q hq => X.2.2.2.2.2.2.1 q (Nat.le_trans hS.1 (by rw [← hU]; exact hq)), hG A s U hW (by rw [hU]; exact hS.1) (fun q h1 h2 => by rw [hU]; exact hS.2.1 q h1 h2) X.2.2.2.2.2.2.2.2⟩⟩ rfl (by rw [List.length_map]; exact hn) hl.1 (z_rev hst) (lv_room (z_room hw)) hd hf
  exact z_run (PX := PX) (fun T hT X9 => Or.inl (hr T hT X9)) hH hS hl hor kk (fun E S' h => absurd h (hPX E S'))
/-- not caught in this method -/
theorem z_out {Post : Option Value → zS → Prop} {PX : String → zS → Prop} {mc ms : Nat} {E : String} (hout : ∀ x ∈ c.exceptionTable.toList, covers x pc = false) (hlocks : meth.locks = false) (hPX : PX E S) (hc : kc ≤ mc) (hs : ks ≤ ms) :
    AWX p l e R s m args below meth c D cl K dA A O nL S kc ks (vx_MQ below (zQc D cl K dA A O.1 O.2 Post) (zXC D cl K dA A O.1 O.2 PX) args s mc ms A) pc L st E := by
  intro ad H locs ls ce q hH hS hl ho h1 h2 h3
  exact vx_out hout hlocks h1 h2 h3 (fun t ht ha => ⟨⟨ad, S, hPX, by rw [ht]; exact hH⟩, hS.F ht⟩) hS.2.2 hc hs
end ZC
/-! ENDS, ENTRY, CATCHING, THROWING over the abstract store -/
theorem zargs (ad : Nat → Nat) : ∀ (vs : List Value) (i : Nat), lv_args i (vs.map (zv ad)) = (lv_args i vs).map (zq ad)
  | [], _ => rfl
  | v :: vs, i => by
    show (i, zv ad v) :: lv_args (if (zv ad v).category = 2 then i + 2 else i + 1) (vs.map (zv ad)) = (i, zv ad v) :: (lv_args (if v.category = 2 then i + 2 else i + 1) vs).map (zq ad)
    rw [zv_cat, zargs ad vs]
theorem zslen (ad : Nat → Nat) : ∀ (vs : List Value), (lg_sl (vs.map (zv ad))).length = (lg_sl vs).length
  | [] => rfl
  | v :: vs => by
    have h := zslen ad vs
    simp only [lg_sl, List.map_cons, List.flatMap_cons, List.length_append] at h ⊢
    rw [zv_cat]
    rw [h]
    by_cases hc : v.category = 2
    · simp [hc]
    · simp [hc]
theorem zargs_mem {vs : List Value} : ∀ {i : Nat} {q : Nat × Value}, q ∈ lv_args i vs → q.2 ∈ vs := by
  induction vs with
  | nil => intro i q h; cases h
  | cons v vs ih =>
    intro i q h
    rcases List.mem_cons.mp h with e | h
    · rw [e]; exact List.mem_cons_self
    · exact List.mem_cons_of_mem _ (ih h)
theorem zH_kept {D : va_G} {cl : List vw_C} {K : zK} {dA : Nat → ClassId} {A : Nat → Prop} {O : (Nat → Nat) × zS} {ad : Nat → Nat} {S : zS} {H H1 : Heap} (h : zH D cl K dA A O ad S H) (hk : ∀ q : Nat, q < H.size → H1[q]? = H[q]?) : zH D cl K dA A O ad S H1 := by
  obtain ⟨h0, hcl, hz, h00, dl, hnd, hdl, hP, hD⟩ := h
  exact ⟨h0, hcl, hz, h00, dl, hnd, hdl, hP.kept (fun k q hq => hk q.1 ((hP k q hq).lt)), hD⟩
section ZE
variable {p : Program} {l : Launch} {e : Env} {R : Room} {s : State} {m : MethodId} {args : Array Value} {below : List Frame} {meth : Method} {c : Code} {kc ks mc ms : Nat} {Q : State → Prop}
variable {D : va_G} {cl : List vw_C} {K : zK} {dA : Nat → ClassId} {A : Nat → Prop} {O : (Nat → Nat) × zS} {cc : ByteArray} {nL : Nat} {own : String} {Ts : List Cond} {tys : List (ClassId × FieldType)} {G : (Nat → Prop) → State → Prop} {S : zS} {pc : Nat} {L : List (Nat × Value)} {st : List Value} {Post : Option Value → zS → Prop} {PX : String → zS → Prop}
theorem z_iret (X : zX p s m args c D cl K A cc nL own Ts tys G) {v : Int32} (hlocks : meth.locks = false) (hr : meth.sig.returnType = some .int) (hd : decode cc pc = .ok (.ireturn, 1)) (hc : kc ≤ mc) (hs : ks ≤ ms) (hp : Post (some (.int v)) S) : AW p l e R s m args below meth c D cl K dA A O nL S kc ks (vx_MQ below (zQc D cl K dA A O.1 O.2 Post) (zXC D cl K dA A O.1 O.2 PX) args s mc ms A) pc L [.int v] :=
  fun ad H locs ls hH hS hl ho => W.widen hc hs (vx_ret (W.iret (v := v) X.1 X.2.1 hr (fun t ht hW => ⟨⟨some (.int v), ad, S, rfl, hp, by rw [ht]; exact hH, fun w hw => by cases hw; trivial⟩, hS.F ht⟩) hS.2.2 hd hlocks))
theorem z_zret (X : zX p s m args c D cl K A cc nL own Ts tys G) {v : Int32} (hlocks : meth.locks = false) (hr : meth.sig.returnType = some .boolean) (hd : decode cc pc = .ok (.ireturn, 1)) (hn : narrow .boolean (.int v) = .int v) (hc : kc ≤ mc) (hs : ks ≤ ms) (hp : Post (some (.int v)) S) : AW p l e R s m args below meth c D cl K dA A O nL S kc ks (vx_MQ below (zQc D cl K dA A O.1 O.2 Post) (zXC D cl K dA A O.1 O.2 PX) args s mc ms A) pc L [.int v] :=
  fun ad H locs ls hH hS hl ho => W.widen hc hs (vx_ret (W.zret (v := v) X.1 X.2.1 hr hn (fun t ht hW => ⟨⟨some (.int v), ad, S, rfl, hp, by rw [ht]; exact hH, fun w hw => by cases hw; trivial⟩, hS.F ht⟩) hS.2.2 hd hlocks))
theorem z_aret (X : zX p s m args c D cl K A cc nL own Ts tys G) {n : Nat} {rt : FieldType} (hlocks : meth.locks = false) (hr : meth.sig.returnType = some rt) (hrt : (∃ n, rt = .object n) ∨ ∃ t, rt = .array t) (hd : decode cc pc = .ok (.areturn, 1)) (hc : kc ≤ mc) (hs : ks ≤ ms) (hp : Post (some (.ref n)) S) : AW p l e R s m args below meth c D cl K dA A O nL S kc ks (vx_MQ below (zQc D cl K dA A O.1 O.2 Post) (zXC D cl K dA A O.1 O.2 PX) args s mc ms A) pc L [.ref n] :=
  fun ad H locs ls hH hS hl ho => W.widen hc hs (vx_ret (W.aret (v := .ref (ad n)) X.1 X.2.1 hr hrt (Or.inr ⟨_, rfl⟩) (fun t ht hW => ⟨⟨some (.ref n), ad, S, rfl, hp, by rw [ht]; exact hH, fun w hw => by cases hw; exact ho.h⟩, hS.F ht⟩) hS.2.2 hd hlocks))
theorem z_vret (X : zX p s m args c D cl K A cc nL own Ts tys G) (hlocks : meth.locks = false) (hr : meth.sig.returnType = none) (hd : decode cc pc = .ok (.return_, 1)) (hc : kc ≤ mc) (hs : ks ≤ ms) (hp : Post none S) : AW p l e R s m args below meth c D cl K dA A O nL S kc ks (vx_MQ below (zQc D cl K dA A O.1 O.2 Post) (zXC D cl K dA A O.1 O.2 PX) args s mc ms A) pc L [] :=
  fun ad H locs ls hH hS hl ho => W.widen hc hs (vx_ret (W.vret X.1 X.2.1 hr (fun t ht hW => ⟨⟨none, ad, S, rfl, hp, by rw [ht]; exact hH, fun w hw => by cases hw⟩, hS.F ht⟩) hS.2.2 hd hlocks))
theorem z_catch_n (X : zX p s m args c D cl K A cc nL own Ts tys G) {nm E : String} {k0 : Fin 4} {i : Nat} {L' : List (Nat × Value)} (pre : List ExceptionTableEntry) (x : ExceptionTableEntry) (suf : List ExceptionTableEntry) (hsplit : c.exceptionTable.toList = pre ++ x :: suf)
    (hpass : ∀ z ∈ pre, covers z pc = false ∨ (z.catchType ≠ 0 ∧ ∃ nm : String, (Cond.classLink own z.catchType nm).before args s = true ∧ va_Nc E nm s)) (hx : covers x pc = true) (h0 : x.catchType ≠ 0)
    (hlink : (Cond.classLink own x.catchType nm).before args s = true) (hcast : (Cond.castable E nm).before args s = true) (hd : decode cc x.handlerPc = .ok (.astore_n k0, 1)) (hi : (k0 : Nat) = i) (hn : i < nL) (hl9 : L.filter (zf i) = L')
    (k : AW p l e R s m args below meth c D cl K dA A O nL S kc ks Q (x.handlerPc + 1) L' []) : AWX p l e R s m args below meth c D cl K dA A O nL S kc ks Q pc L st E := by
  intro ad H locs ls ce q hH hS hl ho h1 h2 h3
  refine vx_catch X.2.2.2.1 pre x suf hsplit hpass hx h0 hlink hcast h1 h2 h3 (lv_astore_n (x := q) (lv' := (i, .ref q) :: L'.map (zq ad)) X.1 X.2.1 hd hi hl hn (by rw [zq_filter, hl9]) (fun ls' h' => k ad H locs ls' hH hS ⟨h'.1, h'.2.1, fun q9 hq9 => h'.2.2 q9 (List.mem_cons_of_mem _ hq9)⟩ ⟨fun q9 h9 => ho.1 q9 ?_, fun _ h => nomatch h⟩))
  rw [← hl9] at h9
  exact (List.mem_filter.mp h9).1
theorem z_catch (X : zX p s m args c D cl K A cc nL own Ts tys G) {nm E : String} {i : Nat} {L' : List (Nat × Value)} (pre : List ExceptionTableEntry) (x : ExceptionTableEntry) (suf : List ExceptionTableEntry) (hsplit : c.exceptionTable.toList = pre ++ x :: suf)
    (hpass : ∀ z ∈ pre, covers z pc = false ∨ (z.catchType ≠ 0 ∧ ∃ nm : String, (Cond.classLink own z.catchType nm).before args s = true ∧ va_Nc E nm s)) (hx : covers x pc = true) (h0 : x.catchType ≠ 0)
    (hlink : (Cond.classLink own x.catchType nm).before args s = true) (hcast : (Cond.castable E nm).before args s = true) (hd : decode cc x.handlerPc = .ok (.astore i, 2)) (hn : i < nL) (hl9 : L.filter (zf i) = L')
    (k : AW p l e R s m args below meth c D cl K dA A O nL S kc ks Q (x.handlerPc + 2) L' []) : AWX p l e R s m args below meth c D cl K dA A O nL S kc ks Q pc L st E := by
  intro ad H locs ls ce q hH hS hl ho h1 h2 h3
  refine vx_catch X.2.2.2.1 pre x suf hsplit hpass hx h0 hlink hcast h1 h2 h3 (lv_astore (x := q) (lv' := (i, .ref q) :: L'.map (zq ad)) X.1 X.2.1 hd hl hn (by rw [zq_filter, hl9]) (fun ls' h' => k ad H locs ls' hH hS ⟨h'.1, h'.2.1, fun q9 hq9 => h'.2.2 q9 (List.mem_cons_of_mem _ hq9)⟩ ⟨fun q9 h9 => ho.1 q9 ?_, fun _ h => nomatch h⟩))
  rw [← hl9] at h9
  exact (List.mem_filter.mp h9).1
end ZE
section ZM
variable {l : Launch} {D : va_G} {cl : List vw_C} {K : zK} {dA : Nat → ClassId} {G : (Nat → Prop) → State → Prop} {y : MethodName} {ws ws' : List Cond} {rm : Room} {mc ms maxL : Nat} {As : List Value} {S : zS} {Post : Option Value → zS → Prop} {PX : String → zS → Prop} {cc : ByteArray} {ret : Option FieldType} {tys : List (ClassId × FieldType)}
theorem z_met (hy : plainName y.cls = true) (hw : ws = Cond.code y cc maxL ret :: ws') (hGK : ∀ A s, G A s → va_K D cl tys s) (hK0 : K.1 0 = .inr (999, 0)) (hlen : (lg_sl As).length ≤ maxL)
    (body : ∀ (p : Program) (e : Env) (s : State) (m : MethodId) (args : Array Value) (below : List Frame) (meth : Method) (c : Code) (A : Nat → Prop) (ad : Nat → Nat), zX p s m args c D cl K A cc maxL y.cls ws tys G → meth.sig.returnType = ret → meth.locks = false → meth.name = y.name → (∀ x ∈ c.exceptionTable.toList, False) →
      AW p l e rm s m args below meth c D cl K dA A (ad, S) maxL S 0 0 (vx_MQ below (zQc D cl K dA A ad S Post) (zXC D cl K dA A ad S PX) args s mc ms A) 0 (lv_args 0 As) []) : zMet l D cl K dA G y ws rm mc ms As S Post PX := by
  intro A ad hoA
  refine vx_ofW (cc := cc) (maxL := maxL) (ret := ret) hy hw ?_
  intro p e s m args below meth c s₁ B hml hex hv
  obtain ⟨rfl, hH, hA, hG⟩ := hv
  have hl := lv_entry (As.map (zv ad)) (n := maxL) (by rw [zslen]; exact hlen)
  rw [lg_entry_eq]
  rw [zargs] at hl
  exact body p e s m _ below meth c A ad ⟨B.exec, B.bytes, hml, findClass_of_methodNamed B.named, atoms_spec (ws := ws) B.pre, hGK A s hG, hA, hK0, hG⟩ B.returns B.notSynchronized (name_of_methodNamed B.named B.method).1 hex ad s.heap [] _ hH va_S.rf hl ⟨fun q hq => hoA _ (zargs_mem hq), fun _ h => nomatch h⟩
theorem z_metH {hh : List (Nat × Nat × Nat × Nat)} (hy : plainName y.cls = true) (hw : ws = Cond.codeWith y cc maxL ret hh :: ws') (hGK : ∀ A s, G A s → va_K D cl tys s) (hK0 : K.1 0 = .inr (999, 0)) (hlen : (lg_sl As).length ≤ maxL)
    (body : ∀ (p : Program) (e : Env) (s : State) (m : MethodId) (args : Array Value) (below : List Frame) (meth : Method) (c : Code) (A : Nat → Prop) (ad : Nat → Nat), zX p s m args c D cl K A cc maxL y.cls ws tys G → meth.sig.returnType = ret → meth.locks = false → c.exceptionTable.toList = tableOf hh →
      AW p l e rm s m args below meth c D cl K dA A (ad, S) maxL S 0 0 (vx_MQ below (zQc D cl K dA A ad S Post) (zXC D cl K dA A ad S PX) args s mc ms A) 0 (lv_args 0 As) []) : zMet l D cl K dA G y ws rm mc ms As S Post PX := by
  intro A ad hoA
  refine vx_ofWH (cc := cc) (maxL := maxL) (ret := ret) (hh := hh) hy hw ?_
  intro p e s m args below meth c s₁ B hml hv
  obtain ⟨rfl, hH, hA, hG⟩ := hv
  have hl := lv_entry (As.map (zv ad)) (n := maxL) (by rw [zslen]; exact hlen)
  rw [lg_entry_eq]
  rw [zargs] at hl
  exact body p e s m _ below meth c A ad ⟨B.exec, B.bytes, hml, findClass_of_methodNamed B.named, atoms_spec (ws := ws) B.pre, hGK A s hG, hA, hK0, hG⟩ B.returns B.notSynchronized (vx_table (x := y) B (atoms_spec (ws := ws) B.pre _ (by rw [hw]; exact List.mem_cons_self))) ad s.heap [] _ hH va_S.rf hl ⟨fun q hq => hoA _ (zargs_mem hq), fun _ h => nomatch h⟩
end ZM
section ZT
variable {p : Program} {l : Launch} {e : Env} {R : Room} {s : State} {m : MethodId} {args : Array Value} {below : List Frame} {meth : Method} {c : Code} {kc ks mc ms : Nat}
variable {D : va_G} {cl : List vw_C} {K : zK} {dA : Nat → ClassId} {A : Nat → Prop} {O : (Nat → Nat) × zS} {cc : ByteArray} {nL : Nat} {own : String} {Ts : List Cond} {tys : List (ClassId × FieldType)} {G : (Nat → Prop) → State → Prop} {S : zS} {pc : Nat} {L : List (Nat × Value)} {Post : Option Value → zS → Prop} {PX : String → zS → Prop}
theorem z_throwS (X : zX p s m args c D cl K A cc nL own Ts tys G) (hl0 : l.stackTraces = false) {cls text : String} {names : List String} {ik is ic sa : Nat} (hcls : Bundle.fit cls = true) (hnames : ∀ n ∈ names, Bundle.fit n = true)
    (hk : (Cond.classLink own ik cls).before args s = true) (hini : (Cond.initialized cls).before args s = true) (hstr : vk_R own is text sa s) (hat : ∀ w ∈ vx_atS own ic cls names, w.before args s = true)
    (hgood : ∀ w ∈ Cond.classLink own ik cls :: Cond.initialized cls :: vx_atS own ic cls names, vx_ot w = true)
    (hU : vx_Zq Bundle.tN "UNASSIGNED_STACK" Bundle.steD A s s.heap) (hN : vx_Zq Bundle.tN "SUPPRESSED_SENTINEL" Bundle.listD A s s.heap)
    (d0 : decode cc pc = .ok (.new ik, 3)) (d3 : decode cc (pc + 3) = .ok (.dup, 1)) (d4 : decode cc (pc + 4) = .ok (.ldc is, 2)) (d6 : decode cc (pc + 6) = .ok (.invokespecial ic, 3)) (d9 : decode cc (pc + 9) = .ok (.athrow, 1))
    (hout : ∀ x ∈ c.exceptionTable.toList, covers x (pc + 9) = false)
    (hRf : names.length + 3 < R.frames) (hRl : 13 * (names.length + 1) + 43 ≤ R.locals) (hRc : kc + 1 ≤ R.cells) (hRs : ks + 6 ≤ R.slots) (hlocks : meth.locks = false) (hc : kc + 1 ≤ mc) (hs : ks + 6 ≤ ms) (hPX : PX cls S) :
    AW p l e R s m args below meth c D cl K dA A O nL S kc ks (vx_MQ below (zQc D cl K dA A O.1 O.2 Post) (zXC D cl K dA A O.1 O.2 PX) args s mc ms A) pc L [] :=
  fun ad H locs ls hH hS hl ho => vx_throwS X.1 X.2.1 hl0 X.2.2.2.1 hcls hnames hk hini hstr hat hgood hU hN hS (hl.1.trans X.2.2.1.symm) d0 d3 d4 d6 d9 hout hRf (by show 0 + _ ≤ _; omega) hRc hRs hlocks (fun t ha h1 h2 => ⟨⟨ad, S, hPX, zH_kept hH h2⟩, ⟨Nat.le_trans hS.1 h1, fun q q1 q2 => (h2 q (Nat.lt_of_lt_of_le q1 hS.1)).trans (hS.2.1 q q1 q2)⟩⟩) hS.2.2 hc hs
theorem z_throwSW (X : zX p s m args c D cl K A cc nL own Ts tys G) (hl0 : l.stackTraces = false) {cls text : String} {names : List String} {ik is ic sa : Nat} (hcls : Bundle.fit cls = true) (hnames : ∀ n ∈ names, Bundle.fit n = true)
    (hk : (Cond.classLink own ik cls).before args s = true) (hini : (Cond.initialized cls).before args s = true) (hstr : vk_R own is text sa s) (hat : ∀ w ∈ vx_atS own ic cls names, w.before args s = true)
    (hgood : ∀ w ∈ Cond.classLink own ik cls :: Cond.initialized cls :: vx_atS own ic cls names, vx_ot w = true)
    (hU : vx_Zq Bundle.tN "UNASSIGNED_STACK" Bundle.steD A s s.heap) (hN : vx_Zq Bundle.tN "SUPPRESSED_SENTINEL" Bundle.listD A s s.heap)
    (d0 : decode cc pc = .ok (.new ik, 3)) (d3 : decode cc (pc + 3) = .ok (.dup, 1)) (d4 : decode cc (pc + 4) = .ok (.ldc_w is, 3)) (d7 : decode cc (pc + 7) = .ok (.invokespecial ic, 3)) (d10 : decode cc (pc + 10) = .ok (.athrow, 1))
    (hout : ∀ x ∈ c.exceptionTable.toList, covers x (pc + 10) = false)
    (hRf : names.length + 3 < R.frames) (hRl : 13 * (names.length + 1) + 43 ≤ R.locals) (hRc : kc + 1 ≤ R.cells) (hRs : ks + 6 ≤ R.slots) (hlocks : meth.locks = false) (hc : kc + 1 ≤ mc) (hs : ks + 6 ≤ ms) (hPX : PX cls S) :
    AW p l e R s m args below meth c D cl K dA A O nL S kc ks (vx_MQ below (zQc D cl K dA A O.1 O.2 Post) (zXC D cl K dA A O.1 O.2 PX) args s mc ms A) pc L [] :=
  fun ad H locs ls hH hS hl ho => vx_throwSW X.1 X.2.1 hl0 X.2.2.2.1 hcls hnames hk hini hstr hat hgood hU hN hS (hl.1.trans X.2.2.1.symm) d0 d3 d4 d7 d10 hout hRf (by show 0 + _ ≤ _; omega) hRc hRs hlocks (fun t ha h1 h2 => ⟨⟨ad, S, hPX, zH_kept hH h2⟩, ⟨Nat.le_trans hS.1 h1, fun q q1 q2 => (h2 q (Nat.lt_of_lt_of_le q1 hS.1)).trans (hS.2.1 q q1 q2)⟩⟩) hS.2.2 hc hs
end ZT
/-! what stands all along outside the store: tables, statics of Throwable, texts, castings -/
def zG (D : va_G) (cl : List vw_C) (tys : List (ClassId × FieldType)) (cast : List (String × String)) (decl : List MethodName) (texts : List (String × Nat × String)) (over : List String) (nc : List (String × String)) : (Nat → Prop) → State → Prop := fun A U =>
  va_K D cl tys U ∧ vx_Zq Bundle.tN "UNASSIGNED_STACK" Bundle.steD A U U.heap ∧ vx_Zq Bundle.tN "SUPPRESSED_SENTINEL" Bundle.listD A U U.heap ∧ (∀ q ∈ cast, va_Nw (.castable q.1 q.2) U) ∧ (∀ y ∈ decl, va_Nw (.declares y) U) ∧ (∀ q ∈ texts, ∃ sa, vk_R q.1 q.2.1 q.2.2 sa U) ∧ (∀ C ∈ over, va_AO C U) ∧ ∀ q ∈ nc, va_Nc q.1 q.2 U
theorem zG_m {D : va_G} {cl : List vw_C} {tys : List (ClassId × FieldType)} {cast : List (String × String)} {decl : List MethodName} {texts : List (String × Nat × String)} {over : List String} {nc : List (String × String)} : zGm (zG D cl tys cast decl texts over nc) := by
  intro A s t hW hz hk h
  obtain ⟨h1, h2, h3, h4, h5, h6, h7, h8⟩ := h
  refine ⟨va_K.moved hW.alike h1, vx_Zq.moved hW.alike (h2.kept hk), vx_Zq.moved hW.alike (h3.kept hk), fun q hq => va_Nw.warmC hW (h4 q hq), fun y hy => va_Nw.warmD hW (h5 y hy), fun q hq => ?_, fun C hC => va_AO.moved hW.alike (h7 C hC), fun q hq => va_Nc.moved hW.alike (h8 q hq)⟩
  obtain ⟨sa, h9⟩ := h6 q hq
  exact ⟨sa, vk_R.warm hW h9⟩
end
section
/-! NAMES: classes, their fields in the order of the slots, codes and names of the methods (by program) -/
def RE : String := "LogBroker$Entry"
def TE : u_T := fun k => match k with
  | 0 => ("LogBroker$Entry", "kind", "I", true)
  | 1 => ("LogBroker$Entry", "key", "I", true)
  | 2 => ("LogBroker$Entry", "value", "I", true)
  | 3 => ("LogBroker$Entry", "producer", "I", true)
  | _ => ("LogBroker$Entry", "state", "I", false)
def tyE : Nat → FieldType := fun k => match k with
  | 0 => .int
  | 1 => .int
  | 2 => .int
  | 3 => .int
  | _ => .int
theorem nmE : ∀ a, a < 5 → ∀ b, b < 5 → a ≠ b → (TE a).2.1 ≠ (TE b).2.1 := by decide +kernel
theorem tyE_ok : ∀ k, k < 5 → parseFieldDescriptor (TE k).2.2.1 = some (tyE k) := by decide +kernel
def RG : String := "LogBroker$Log"
def TG : u_T := fun k => match k with
  | 0 => ("LogBroker$Log", "size", "I", true)
  | 1 => ("LogBroker$Log", "most", "I", true)
  | 2 => ("LogBroker$Log", "compacted", "Z", true)
  | 3 => ("LogBroker$Log", "entries", "[LLogBroker$Entry;", true)
  | 4 => ("LogBroker$Log", "start", "I", false)
  | 5 => ("LogBroker$Log", "end", "I", false)
  | 6 => ("LogBroker$Log", "openBase", "I", false)
  | 7 => ("LogBroker$Log", "closed", "I", false)
  | _ => ("LogBroker$Log", "present", "I", false)
def tyG : Nat → FieldType := fun k => match k with
  | 0 => .int
  | 1 => .int
  | 2 => .boolean
  | 3 => .array (.object "LogBroker$Entry")
  | 4 => .int
  | 5 => .int
  | 6 => .int
  | 7 => .int
  | _ => .int
theorem nmG : ∀ a, a < 9 → ∀ b, b < 9 → a ≠ b → (TG a).2.1 ≠ (TG b).2.1 := by decide +kernel
theorem tyG_ok : ∀ k, k < 9 → parseFieldDescriptor (TG k).2.2.1 = some (tyG k) := by decide +kernel
def RS : String := "LogBroker$Session"
def TS : u_T := fun k => match k with
  | 0 => ("LogBroker$Session", "producer", "I", false)
  | 1 => ("LogBroker$Session", "transacting", "Z", false)
  | 2 => ("LogBroker$Session", "expected", "[I", true)
  | _ => ("LogBroker$Session", "offsets", "[I", true)
def tyS : Nat → FieldType := fun k => match k with
  | 0 => .int
  | 1 => .boolean
  | 2 => .array .int
  | _ => .array .int
theorem nmS : ∀ a, a < 4 → ∀ b, b < 4 → a ≠ b → (TS a).2.1 ≠ (TS b).2.1 := by decide +kernel
theorem tyS_ok : ∀ k, k < 4 → parseFieldDescriptor (TS k).2.2.1 = some (tyS k) := by decide +kernel
def RH : String := "LogBroker$Group"
def TH : u_T := fun k => match k with
  | 0 => ("LogBroker$Group", "generation", "I", false)
  | 1 => ("LogBroker$Group", "topicOf", "[I", true)
  | 2 => ("LogBroker$Group", "ownerOf", "[I", true)
  | 3 => ("LogBroker$Group", "positions", "[I", true)
  | _ => ("LogBroker$Group", "kept", "[I", true)
def tyH : Nat → FieldType := fun k => match k with
  | 0 => .int
  | 1 => .array .int
  | 2 => .array .int
  | 3 => .array .int
  | _ => .array .int
theorem nmH : ∀ a, a < 5 → ∀ b, b < 5 → a ≠ b → (TH a).2.1 ≠ (TH b).2.1 := by decide +kernel
theorem tyH_ok : ∀ k, k < 5 → parseFieldDescriptor (TH k).2.2.1 = some (tyH k) := by decide +kernel
def RB : String := "LogBroker"
def TB : u_T := fun k => match k with
  | 0 => ("LogBroker", "partitionsOf", "[I", true)
  | 1 => ("LogBroker", "logs", "[LLogBroker$Log;", true)
  | 2 => ("LogBroker", "sessions", "[LLogBroker$Session;", true)
  | 3 => ("LogBroker", "currentOf", "[I", true)
  | 4 => ("LogBroker", "openedFor", "[I", true)
  | 5 => ("LogBroker", "groups", "[LLogBroker$Group;", true)
  | 6 => ("LogBroker", "written", "I", false)
  | 7 => ("LogBroker", "repeats", "I", false)
  | 8 => ("LogBroker", "markers", "I", false)
  | 9 => ("LogBroker", "shortened", "I", false)
  | _ => ("LogBroker", "compactedAway", "I", false)
def tyB : Nat → FieldType := fun k => match k with
  | 0 => .array .int
  | 1 => .array (.object "LogBroker$Log")
  | 2 => .array (.object "LogBroker$Session")
  | 3 => .array .int
  | 4 => .array .int
  | 5 => .array (.object "LogBroker$Group")
  | 6 => .int
  | 7 => .int
  | 8 => .int
  | 9 => .int
  | _ => .int
theorem nmB : ∀ a, a < 11 → ∀ b, b < 11 → a ≠ b → (TB a).2.1 ≠ (TB b).2.1 := by decide +kernel
theorem tyB_ok : ∀ k, k < 11 → parseFieldDescriptor (TB k).2.2.1 = some (tyB k) := by decide +kernel
def RM : String := "LogBrokerModel"
def TM : u_T := fun k => match k with
  | 0 => ("LogBrokerModel", "partitions", "[I", true)
  | 1 => ("LogBrokerModel", "segment", "[I", true)
  | 2 => ("LogBrokerModel", "closedMost", "[I", true)
  | 3 => ("LogBrokerModel", "compacted", "[Z", true)
  | 4 => ("LogBrokerModel", "start", "[I", true)
  | 5 => ("LogBrokerModel", "end", "[I", true)
  | 6 => ("LogBrokerModel", "kind", "[I", true)
  | 7 => ("LogBrokerModel", "key", "[I", true)
  | 8 => ("LogBrokerModel", "value", "[I", true)
  | 9 => ("LogBrokerModel", "producer", "[I", true)
  | 10 => ("LogBrokerModel", "state", "[I", true)
  | 11 => ("LogBrokerModel", "writer", "[I", true)
  | 12 => ("LogBrokerModel", "belongs", "[I", true)
  | 13 => ("LogBrokerModel", "expected", "[I", true)
  | 14 => ("LogBrokerModel", "offsets", "[I", true)
  | 15 => ("LogBrokerModel", "active", "[Z", true)
  | 16 => ("LogBrokerModel", "current", "[I", true)
  | 17 => ("LogBrokerModel", "opened", "[I", true)
  | 18 => ("LogBrokerModel", "topicOf", "[I", true)
  | 19 => ("LogBrokerModel", "generation", "[I", true)
  | 20 => ("LogBrokerModel", "position", "[I", true)
  | 21 => ("LogBrokerModel", "kept", "[I", true)
  | 22 => ("LogBrokerModel", "written", "I", false)
  | 23 => ("LogBrokerModel", "repeats", "I", false)
  | 24 => ("LogBrokerModel", "markers", "I", false)
  | 25 => ("LogBrokerModel", "shortened", "I", false)
  | 26 => ("LogBrokerModel", "compactedAway", "I", false)
  | _ => ("LogBrokerModel", "thrown", "I", false)
def tyM : Nat → FieldType := fun k => match k with
  | 0 => .array .int
  | 1 => .array .int
  | 2 => .array .int
  | 3 => .array .boolean
  | 4 => .array .int
  | 5 => .array .int
  | 6 => .array .int
  | 7 => .array .int
  | 8 => .array .int
  | 9 => .array .int
  | 10 => .array .int
  | 11 => .array .int
  | 12 => .array .int
  | 13 => .array .int
  | 14 => .array .int
  | 15 => .array .boolean
  | 16 => .array .int
  | 17 => .array .int
  | 18 => .array .int
  | 19 => .array .int
  | 20 => .array .int
  | 21 => .array .int
  | 22 => .int
  | 23 => .int
  | 24 => .int
  | 25 => .int
  | 26 => .int
  | _ => .int
theorem nmM : ∀ a, a < 28 → ∀ b, b < 28 → a ≠ b → (TM a).2.1 ≠ (TM b).2.1 := by decide +kernel
theorem tyM_ok : ∀ k, k < 28 → parseFieldDescriptor (TM k).2.2.1 = some (tyM k) := by decide +kernel
def RL : String := "LogBrokerLaw"
def TL : u_T := fun k => match k with
  | _ => ("", "", "", false)
def tyL : Nat → FieldType := fun k => match k with
  | _ => .int
theorem nmL : ∀ a, a < 0 → ∀ b, b < 0 → a ≠ b → (TL a).2.1 ≠ (TL b).2.1 := by decide +kernel
theorem tyL_ok : ∀ k, k < 0 → parseFieldDescriptor (TL k).2.2.1 = some (tyL k) := by decide +kernel
abbrev cB_init : ByteArray := prog_1_method_1_code
def yB_init : MethodName := ⟨"LogBroker", "<init>", "()V"⟩
abbrev cS_init : ByteArray := prog_5_method_1_code
def yS_init : MethodName := ⟨"LogBroker$Session", "<init>", "()V"⟩
abbrev cH_init : ByteArray := prog_3_method_1_code
def yH_init : MethodName := ⟨"LogBroker$Group", "<init>", "()V"⟩
abbrev cA_fill : ByteArray := prog_18_method_103_code
def yA_fill : MethodName := ⟨"java/util/Arrays", "fill", "([II)V"⟩
abbrev cB_count : ByteArray := prog_1_method_16_code
def yB_count : MethodName := ⟨"LogBroker", "count", "(I)I"⟩
abbrev cB_openTransactions : ByteArray := prog_1_method_29_code
def yB_openTransactions : MethodName := ⟨"LogBroker", "openTransactions", "()I"⟩
abbrev cL_topic : ByteArray := method_3_code
def yL_topic : MethodName := ⟨"LogBrokerLaw", "topic", "(LLogBroker;IIIIZ)I"⟩
abbrev cB_topic : ByteArray := prog_1_method_2_code
def yB_topic : MethodName := ⟨"LogBroker", "topic", "(IIIIZ)V"⟩
abbrev cB_mustBeWithin : ByteArray := prog_1_method_17_code
def yB_mustBeWithin : MethodName := ⟨"LogBroker", "mustBeWithin", "(III)V"⟩
abbrev cG_init : ByteArray := prog_4_method_1_code
def yG_init : MethodName := ⟨"LogBroker$Log", "<init>", "(IIZ)V"⟩
abbrev cL_open : ByteArray := method_4_code
def yL_open : MethodName := ⟨"LogBrokerLaw", "open", "(LLogBroker;II[J)I"⟩
abbrev cB_open : ByteArray := prog_1_method_3_code
def yB_open : MethodName := ⟨"LogBroker", "open", "(II)I"⟩
abbrev cB_abortOpenTransactionOf : ByteArray := prog_1_method_24_code
def yB_abortOpenTransactionOf : MethodName := ⟨"LogBroker", "abortOpenTransactionOf", "(I)V"⟩
abbrev cB_mustHaveRoomForMarkers : ByteArray := prog_1_method_25_code
def yB_mustHaveRoomForMarkers : MethodName := ⟨"LogBroker", "mustHaveRoomForMarkers", "(I)V"⟩
abbrev cB_awaitsMarker : ByteArray := prog_1_method_26_code
def yB_awaitsMarker : MethodName := ⟨"LogBroker", "awaitsMarker", "(II)Z"⟩
abbrev cG_hasUndecidedOf : ByteArray := prog_4_method_7_code
def yG_hasUndecidedOf : MethodName := ⟨"LogBroker$Log", "hasUndecidedOf", "(I)Z"⟩
abbrev cE_isUndecidedOf : ByteArray := prog_2_method_2_code
def yE_isUndecidedOf : MethodName := ⟨"LogBroker$Entry", "isUndecidedOf", "(I)Z"⟩
abbrev cG_isFull : ByteArray := prog_4_method_2_code
def yG_isFull : MethodName := ⟨"LogBroker$Log", "isFull", "()Z"⟩
abbrev cB_decide : ByteArray := prog_1_method_27_code
def yB_decide : MethodName := ⟨"LogBroker", "decide", "(LLogBroker$Session;Z)I"⟩
abbrev cE_init : ByteArray := prog_2_method_1_code
def yE_init : MethodName := ⟨"LogBroker$Entry", "<init>", "(IIIII)V"⟩
abbrev cB_write : ByteArray := prog_1_method_28_code
def yB_write : MethodName := ⟨"LogBroker", "write", "(LLogBroker$Log;LLogBroker$Entry;)I"⟩
abbrev cG_append : ByteArray := prog_4_method_3_code
def yG_append : MethodName := ⟨"LogBroker$Log", "append", "(LLogBroker$Entry;)I"⟩
abbrev cG_shorten : ByteArray := prog_4_method_4_code
def yG_shorten : MethodName := ⟨"LogBroker$Log", "shorten", "()I"⟩
abbrev cG_stableOffset : ByteArray := prog_4_method_6_code
def yG_stableOffset : MethodName := ⟨"LogBroker$Log", "stableOffset", "()I"⟩
abbrev cG_drop : ByteArray := prog_4_method_5_code
def yG_drop : MethodName := ⟨"LogBroker$Log", "drop", "(I)V"⟩
abbrev cG_settle : ByteArray := prog_4_method_8_code
def yG_settle : MethodName := ⟨"LogBroker$Log", "settle", "(II)V"⟩
abbrev cB_isCurrent : ByteArray := prog_1_method_20_code
def yB_isCurrent : MethodName := ⟨"LogBroker", "isCurrent", "(I)Z"⟩
abbrev cS_startFor : ByteArray := prog_5_method_2_code
def yS_startFor : MethodName := ⟨"LogBroker$Session", "startFor", "(I)V"⟩
abbrev cL_produce : ByteArray := method_5_code
def yL_produce : MethodName := ⟨"LogBrokerLaw", "produce", "(LLogBroker;IIIII[J)I"⟩
abbrev cB_produce : ByteArray := prog_1_method_4_code
def yB_produce : MethodName := ⟨"LogBroker", "produce", "(IIIII)I"⟩
abbrev cB_logAt : ByteArray := prog_1_method_18_code
def yB_logAt : MethodName := ⟨"LogBroker", "logAt", "(I)LLogBroker$Log;"⟩
abbrev cB_openedSession : ByteArray := prog_1_method_19_code
def yB_openedSession : MethodName := ⟨"LogBroker", "openedSession", "(I)LLogBroker$Session;"⟩
abbrev cS_remembers : ByteArray := prog_5_method_4_code
def yS_remembers : MethodName := ⟨"LogBroker$Session", "remembers", "(II)Z"⟩
abbrev cS_expects : ByteArray := prog_5_method_3_code
def yS_expects : MethodName := ⟨"LogBroker$Session", "expects", "(II)Z"⟩
abbrev cB_mustBeCurrent : ByteArray := prog_1_method_21_code
def yB_mustBeCurrent : MethodName := ⟨"LogBroker", "mustBeCurrent", "(I)V"⟩
abbrev cS_offsetRemembered : ByteArray := prog_5_method_5_code
def yS_offsetRemembered : MethodName := ⟨"LogBroker$Session", "offsetRemembered", "(II)I"⟩
abbrev cS_remember : ByteArray := prog_5_method_6_code
def yS_remember : MethodName := ⟨"LogBroker$Session", "remember", "(II)V"⟩
abbrev cL_begin : ByteArray := method_6_code
def yL_begin : MethodName := ⟨"LogBrokerLaw", "begin", "(LLogBroker;I)I"⟩
abbrev cB_begin : ByteArray := prog_1_method_5_code
def yB_begin : MethodName := ⟨"LogBroker", "begin", "(I)V"⟩
abbrev cL_end : ByteArray := method_7_code
def yL_end : MethodName := ⟨"LogBrokerLaw", "end", "(LLogBroker;IZ[J)I"⟩
abbrev cB_end : ByteArray := prog_1_method_6_code
def yB_end : MethodName := ⟨"LogBroker", "end", "(IZ)I"⟩
abbrev cL_fetch : ByteArray := method_8_code
def yL_fetch : MethodName := ⟨"LogBrokerLaw", "fetch", "(LLogBroker;IIZ[J)I"⟩
abbrev cB_fetch : ByteArray := prog_1_method_7_code
def yB_fetch : MethodName := ⟨"LogBroker", "fetch", "(IIZ)I"⟩
abbrev cG_firstVisible : ByteArray := prog_4_method_10_code
def yG_firstVisible : MethodName := ⟨"LogBroker$Log", "firstVisible", "(IZ)I"⟩
abbrev cG_hasData : ByteArray := prog_4_method_9_code
def yG_hasData : MethodName := ⟨"LogBroker$Log", "hasData", "(I)Z"⟩
abbrev cB_found : ByteArray := prog_1_method_22_code
def yB_found : MethodName := ⟨"LogBroker", "found", "(I)I"⟩
abbrev cL_told : ByteArray := method_9_code
def yL_told : MethodName := ⟨"LogBrokerLaw", "told", "(LLogBroker;III[J)I"⟩
abbrev cB_told : ByteArray := prog_1_method_8_code
def yB_told : MethodName := ⟨"LogBroker", "told", "(III)I"⟩
abbrev cL_compact : ByteArray := method_10_code
def yL_compact : MethodName := ⟨"LogBrokerLaw", "compact", "(LLogBroker;I[J)I"⟩
abbrev cB_compact : ByteArray := prog_1_method_9_code
def yB_compact : MethodName := ⟨"LogBroker", "compact", "(I)I"⟩
abbrev cG_dropOutdated : ByteArray := prog_4_method_11_code
def yG_dropOutdated : MethodName := ⟨"LogBroker$Log", "dropOutdated", "()I"⟩
abbrev cG_bitOfCommittedKey : ByteArray := prog_4_method_12_code
def yG_bitOfCommittedKey : MethodName := ⟨"LogBroker$Log", "bitOfCommittedKey", "(LLogBroker$Entry;)I"⟩
abbrev cL_join : ByteArray := method_11_code
def yL_join : MethodName := ⟨"LogBrokerLaw", "join", "(LLogBroker;III[J)I"⟩
abbrev cB_join : ByteArray := prog_1_method_10_code
def yB_join : MethodName := ⟨"LogBroker", "join", "(III)I"⟩
abbrev cH_changeMember : ByteArray := prog_3_method_2_code
def yH_changeMember : MethodName := ⟨"LogBroker$Group", "changeMember", "(II[I)I"⟩
abbrev cH_shareOut : ByteArray := prog_3_method_3_code
def yH_shareOut : MethodName := ⟨"LogBroker$Group", "shareOut", "(II)V"⟩
abbrev cH_membersFor : ByteArray := prog_3_method_4_code
def yH_membersFor : MethodName := ⟨"LogBroker$Group", "membersFor", "(I)I"⟩
abbrev cL_leave : ByteArray := method_12_code
def yL_leave : MethodName := ⟨"LogBrokerLaw", "leave", "(LLogBroker;II[J)I"⟩
abbrev cB_leave : ByteArray := prog_1_method_11_code
def yB_leave : MethodName := ⟨"LogBroker", "leave", "(II)I"⟩
abbrev cL_owner : ByteArray := method_13_code
def yL_owner : MethodName := ⟨"LogBrokerLaw", "owner", "(LLogBroker;II[J)I"⟩
abbrev cB_owner : ByteArray := prog_1_method_12_code
def yB_owner : MethodName := ⟨"LogBroker", "owner", "(II)I"⟩
abbrev cL_poll : ByteArray := method_14_code
def yL_poll : MethodName := ⟨"LogBrokerLaw", "poll", "(LLogBroker;IIII[J)I"⟩
abbrev cB_poll : ByteArray := prog_1_method_13_code
def yB_poll : MethodName := ⟨"LogBroker", "poll", "(IIII)I"⟩
abbrev cB_mustOwn : ByteArray := prog_1_method_23_code
def yB_mustOwn : MethodName := ⟨"LogBroker", "mustOwn", "(LLogBroker$Group;III)V"⟩
abbrev cL_keep : ByteArray := method_15_code
def yL_keep : MethodName := ⟨"LogBrokerLaw", "keep", "(LLogBroker;IIIII)I"⟩
abbrev cB_keep : ByteArray := prog_1_method_14_code
def yB_keep : MethodName := ⟨"LogBroker", "keep", "(IIIII)V"⟩
abbrev cL_log : ByteArray := method_16_code
def yL_log : MethodName := ⟨"LogBrokerLaw", "log", "(LLogBroker;II[J)I"⟩
abbrev cB_log : ByteArray := prog_1_method_15_code
def yB_log : MethodName := ⟨"LogBroker", "log", "(II)I"⟩
abbrev cM_init : ByteArray := prog_7_method_1_code
def yM_init : MethodName := ⟨"LogBrokerModel", "<init>", "()V"⟩
abbrev cM_thrown : ByteArray := prog_7_method_2_code
def yM_thrown : MethodName := ⟨"LogBrokerModel", "thrown", "()I"⟩
abbrev cM_topic : ByteArray := prog_7_method_5_code
def yM_topic : MethodName := ⟨"LogBrokerModel", "topic", "(IIIIZ)V"⟩
abbrev cM_open : ByteArray := prog_7_method_14_code
def yM_open : MethodName := ⟨"LogBrokerModel", "open", "(II)I"⟩
abbrev cM_badSession : ByteArray := prog_7_method_4_code
def yM_badSession : MethodName := ⟨"LogBrokerModel", "badSession", "(I)Z"⟩
abbrev cM_roomToEnd : ByteArray := prog_7_method_12_code
def yM_roomToEnd : MethodName := ⟨"LogBrokerModel", "roomToEnd", "(I)Z"⟩
abbrev cM_takesPart : ByteArray := prog_7_method_11_code
def yM_takesPart : MethodName := ⟨"LogBrokerModel", "takesPart", "(II)Z"⟩
abbrev cM_finish : ByteArray := prog_7_method_13_code
def yM_finish : MethodName := ⟨"LogBrokerModel", "finish", "(IZ)I"⟩
abbrev cM_write : ByteArray := prog_7_method_10_code
def yM_write : MethodName := ⟨"LogBrokerModel", "write", "(IIIII)I"⟩
abbrev cM_shorten : ByteArray := prog_7_method_9_code
def yM_shorten : MethodName := ⟨"LogBrokerModel", "shorten", "(I)V"⟩
abbrev cM_closed : ByteArray := prog_7_method_8_code
def yM_closed : MethodName := ⟨"LogBrokerModel", "closed", "(I)I"⟩
abbrev cM_openBase : ByteArray := prog_7_method_7_code
def yM_openBase : MethodName := ⟨"LogBrokerModel", "openBase", "(I)I"⟩
abbrev cM_stable : ByteArray := prog_7_method_6_code
def yM_stable : MethodName := ⟨"LogBrokerModel", "stable", "(I)I"⟩
abbrev cM_produce : ByteArray := prog_7_method_16_code
def yM_produce : MethodName := ⟨"LogBrokerModel", "produce", "(IIIII)I"⟩
abbrev cM_badLog : ByteArray := prog_7_method_3_code
def yM_badLog : MethodName := ⟨"LogBrokerModel", "badLog", "(I)Z"⟩
abbrev cM_fenced : ByteArray := prog_7_method_15_code
def yM_fenced : MethodName := ⟨"LogBrokerModel", "fenced", "(I)Z"⟩
abbrev cM_begin : ByteArray := prog_7_method_17_code
def yM_begin : MethodName := ⟨"LogBrokerModel", "begin", "(I)V"⟩
abbrev cM_end : ByteArray := prog_7_method_18_code
def yM_end : MethodName := ⟨"LogBrokerModel", "end", "(IZ)I"⟩
abbrev cM_fetch : ByteArray := prog_7_method_20_code
def yM_fetch : MethodName := ⟨"LogBrokerModel", "fetch", "(IIZ)I"⟩
abbrev cM_search : ByteArray := prog_7_method_19_code
def yM_search : MethodName := ⟨"LogBrokerModel", "search", "(IIZ)I"⟩
abbrev cM_told : ByteArray := prog_7_method_21_code
def yM_told : MethodName := ⟨"LogBrokerModel", "told", "(III)I"⟩
abbrev cM_compact : ByteArray := prog_7_method_23_code
def yM_compact : MethodName := ⟨"LogBrokerModel", "compact", "(I)I"⟩
abbrev cM_newer : ByteArray := prog_7_method_22_code
def yM_newer : MethodName := ⟨"LogBrokerModel", "newer", "(III)Z"⟩
abbrev cM_join : ByteArray := prog_7_method_26_code
def yM_join : MethodName := ⟨"LogBrokerModel", "join", "(III)I"⟩
abbrev cM_badMember : ByteArray := prog_7_method_24_code
def yM_badMember : MethodName := ⟨"LogBrokerModel", "badMember", "(II)Z"⟩
abbrev cM_change : ByteArray := prog_7_method_25_code
def yM_change : MethodName := ⟨"LogBrokerModel", "change", "(I)I"⟩
abbrev cM_leave : ByteArray := prog_7_method_27_code
def yM_leave : MethodName := ⟨"LogBrokerModel", "leave", "(II)I"⟩
abbrev cM_owner : ByteArray := prog_7_method_29_code
def yM_owner : MethodName := ⟨"LogBrokerModel", "owner", "(II)I"⟩
abbrev cM_whose : ByteArray := prog_7_method_28_code
def yM_whose : MethodName := ⟨"LogBrokerModel", "whose", "(II)I"⟩
abbrev cM_poll : ByteArray := prog_7_method_30_code
def yM_poll : MethodName := ⟨"LogBrokerModel", "poll", "(IIII)I"⟩
abbrev cM_keep : ByteArray := prog_7_method_31_code
def yM_keep : MethodName := ⟨"LogBrokerModel", "keep", "(IIIII)V"⟩
abbrev cM_log : ByteArray := prog_7_method_32_code
def yM_log : MethodName := ⟨"LogBrokerModel", "log", "(II)I"⟩
abbrev cM_count : ByteArray := prog_7_method_33_code
def yM_count : MethodName := ⟨"LogBrokerModel", "count", "(I)I"⟩
abbrev vwCl : List vw_C := [(RE, TE, 5), (RG, TG, 9), (RS, TS, 4), (RH, TH, 5), (RB, TB, 11), (RM, TM, 28)]
/-- the words that a state keeps -/
def zTs : List Cond := lw_tbl.filter goodWord
theorem zTs_in {w : Cond} (h : w ∈ lw_tbl) (g : goodWord w = true) : w ∈ zTs := List.mem_filter.mpr ⟨h, g⟩
theorem zTs_good {w : Cond} (h : w ∈ zTs) : (w.onTables && w.keeps) = true ∨ ∃ ty, w = .arrayClass ty := good_of_word (List.mem_filter.mp h).2
def zTg (c : Cond) : List Cond := c :: zTs
theorem inE : ∀ w ∈ u_ws RE TE 5, w ∈ zTs := fun w h => zTs_in ((by decide +kernel : ∀ w ∈ u_ws RE TE 5, w ∈ lw_tbl) w h) ((by decide +kernel : ∀ w ∈ u_ws RE TE 5, goodWord w = true) w h)
theorem inG : ∀ w ∈ u_ws RG TG 9, w ∈ zTs := fun w h => zTs_in ((by decide +kernel : ∀ w ∈ u_ws RG TG 9, w ∈ lw_tbl) w h) ((by decide +kernel : ∀ w ∈ u_ws RG TG 9, goodWord w = true) w h)
theorem inS : ∀ w ∈ u_ws RS TS 4, w ∈ zTs := fun w h => zTs_in ((by decide +kernel : ∀ w ∈ u_ws RS TS 4, w ∈ lw_tbl) w h) ((by decide +kernel : ∀ w ∈ u_ws RS TS 4, goodWord w = true) w h)
theorem inH : ∀ w ∈ u_ws RH TH 5, w ∈ zTs := fun w h => zTs_in ((by decide +kernel : ∀ w ∈ u_ws RH TH 5, w ∈ lw_tbl) w h) ((by decide +kernel : ∀ w ∈ u_ws RH TH 5, goodWord w = true) w h)
theorem inB : ∀ w ∈ u_ws RB TB 11, w ∈ zTs := fun w h => zTs_in ((by decide +kernel : ∀ w ∈ u_ws RB TB 11, w ∈ lw_tbl) w h) ((by decide +kernel : ∀ w ∈ u_ws RB TB 11, goodWord w = true) w h)
theorem inM : ∀ w ∈ u_ws RM TM 28, w ∈ zTs := fun w h => zTs_in ((by decide +kernel : ∀ w ∈ u_ws RM TM 28, w ∈ lw_tbl) w h) ((by decide +kernel : ∀ w ∈ u_ws RM TM 28, goodWord w = true) w h)
end
section
/-! WORDS: a row each (by program) -/
theorem i_LogBrokerLaw : Cond.initialized "LogBrokerLaw" ∈ zTs := zTs_in (by decide +kernel) (by decide +kernel)
theorem i_LogBroker : Cond.initialized "LogBroker" ∈ zTs := zTs_in (by decide +kernel) (by decide +kernel)
theorem i_LogBroker_Session : Cond.initialized "LogBroker$Session" ∈ zTs := zTs_in (by decide +kernel) (by decide +kernel)
theorem i_LogBroker_Group : Cond.initialized "LogBroker$Group" ∈ zTs := zTs_in (by decide +kernel) (by decide +kernel)
theorem i_java_util_Arrays : Cond.initialized "java/util/Arrays" ∈ zTs := zTs_in (by decide +kernel) (by decide +kernel)
theorem i_LogBrokerModel : Cond.initialized "LogBrokerModel" ∈ zTs := zTs_in (by decide +kernel) (by decide +kernel)
theorem i_java_lang_Throwable : Cond.initialized "java/lang/Throwable" ∈ zTs := zTs_in (by decide +kernel) (by decide +kernel)
theorem i_java_lang_Exception : Cond.initialized "java/lang/Exception" ∈ zTs := zTs_in (by decide +kernel) (by decide +kernel)
theorem i_java_lang_RuntimeException : Cond.initialized "java/lang/RuntimeException" ∈ zTs := zTs_in (by decide +kernel) (by decide +kernel)
theorem i_java_lang_IllegalArgumentException : Cond.initialized "java/lang/IllegalArgumentException" ∈ zTs := zTs_in (by decide +kernel) (by decide +kernel)
theorem i_java_lang_IllegalStateException : Cond.initialized "java/lang/IllegalStateException" ∈ zTs := zTs_in (by decide +kernel) (by decide +kernel)
theorem i_LogBroker_Log : Cond.initialized "LogBroker$Log" ∈ zTs := zTs_in (by decide +kernel) (by decide +kernel)
theorem i_java_lang_UnsupportedOperationException : Cond.initialized "java/lang/UnsupportedOperationException" ∈ zTs := zTs_in (by decide +kernel) (by decide +kernel)
theorem i_LogBroker_Entry : Cond.initialized "LogBroker$Entry" ∈ zTs := zTs_in (by decide +kernel) (by decide +kernel)
theorem i_java_util_NoSuchElementException : Cond.initialized "java/util/NoSuchElementException" ∈ zTs := zTs_in (by decide +kernel) (by decide +kernel)
theorem i_java_lang_IndexOutOfBoundsException : Cond.initialized "java/lang/IndexOutOfBoundsException" ∈ zTs := zTs_in (by decide +kernel) (by decide +kernel)
theorem i_java_lang_Math : Cond.initialized "java/lang/Math" ∈ zTs := zTs_in (by decide +kernel) (by decide +kernel)
theorem i_java_lang_System : Cond.initialized "java/lang/System" ∈ zTs := zTs_in (by decide +kernel) (by decide +kernel)
theorem lL_8 : Cond.classLink "LogBrokerLaw" 8 "LogBroker" ∈ zTs := zTs_in (by decide +kernel) (by decide +kernel)
theorem n_LogBroker : Cond.instantiable "LogBroker" 11 ∈ zTs := zTs_in (by decide +kernel) (by decide +kernel)
theorem lL_71 : Cond.methodLink "LogBrokerLaw" 71 ⟨"LogBroker", "<init>", "()V"⟩ ∈ zTs := zTs_in (by decide +kernel) (by decide +kernel)
theorem jB_init : Cond.instanceMethod ⟨"LogBroker", "<init>", "()V"⟩ ∈ zTs := zTs_in (by decide +kernel) (by decide +kernel)
theorem kB_init : Cond.code ⟨"LogBroker", "<init>", "()V"⟩ prog_1_method_1_code 2 none ∈ zTs := zTs_in (by decide +kernel) (by decide +kernel)
theorem lB_3 : Cond.methodLink "LogBroker" 3 ⟨"java/lang/Object", "<init>", "()V"⟩ ∈ zTs := zTs_in (by decide +kernel) (by decide +kernel)
theorem lB_13 : Cond.classLink "LogBroker" 13 "LogBroker$Log" ∈ zTs := zTs_in (by decide +kernel) (by decide +kernel)
theorem lB_19 : Cond.classLink "LogBroker" 19 "LogBroker$Session" ∈ zTs := zTs_in (by decide +kernel) (by decide +kernel)
theorem lB_31 : Cond.classLink "LogBroker" 31 "LogBroker$Group" ∈ zTs := zTs_in (by decide +kernel) (by decide +kernel)
theorem n_LogBroker_Session : Cond.instantiable "LogBroker$Session" 4 ∈ zTs := zTs_in (by decide +kernel) (by decide +kernel)
theorem jS_init : Cond.instanceMethod ⟨"LogBroker$Session", "<init>", "()V"⟩ ∈ zTs := zTs_in (by decide +kernel) (by decide +kernel)
theorem kS_init : Cond.code ⟨"LogBroker$Session", "<init>", "()V"⟩ prog_5_method_1_code 1 none ∈ zTs := zTs_in (by decide +kernel) (by decide +kernel)
theorem lS_3 : Cond.methodLink "LogBroker$Session" 3 ⟨"java/lang/Object", "<init>", "()V"⟩ ∈ zTs := zTs_in (by decide +kernel) (by decide +kernel)
theorem lS_9 : Cond.fieldLink "LogBroker$Session" 9 "LogBroker$Session" "producer" "I" ∈ zTs := zTs_in (by decide +kernel) (by decide +kernel)
theorem lB_63 : Cond.fieldLink "LogBroker" 63 "LogBroker$Session" "producer" "I" ∈ zTs := zTs_in (by decide +kernel) (by decide +kernel)
theorem lB_59 : Cond.fieldLink "LogBroker" 59 "LogBroker$Session" "transacting" "Z" ∈ zTs := zTs_in (by decide +kernel) (by decide +kernel)
theorem lS_15 : Cond.fieldLink "LogBroker$Session" 15 "LogBroker$Session" "expected" "[I" ∈ zTs := zTs_in (by decide +kernel) (by decide +kernel)
theorem lS_19 : Cond.fieldLink "LogBroker$Session" 19 "LogBroker$Session" "offsets" "[I" ∈ zTs := zTs_in (by decide +kernel) (by decide +kernel)
theorem n_LogBroker_Group : Cond.instantiable "LogBroker$Group" 5 ∈ zTs := zTs_in (by decide +kernel) (by decide +kernel)
theorem lB_38 : Cond.methodLink "LogBroker" 38 ⟨"LogBroker$Group", "<init>", "()V"⟩ ∈ zTs := zTs_in (by decide +kernel) (by decide +kernel)
theorem jH_init : Cond.instanceMethod ⟨"LogBroker$Group", "<init>", "()V"⟩ ∈ zTs := zTs_in (by decide +kernel) (by decide +kernel)
theorem kH_init : Cond.code ⟨"LogBroker$Group", "<init>", "()V"⟩ prog_3_method_1_code 1 none ∈ zTs := zTs_in (by decide +kernel) (by decide +kernel)
theorem lH_3 : Cond.methodLink "LogBroker$Group" 3 ⟨"java/lang/Object", "<init>", "()V"⟩ ∈ zTs := zTs_in (by decide +kernel) (by decide +kernel)
theorem lH_24 : Cond.methodLink "LogBroker$Group" 24 ⟨"java/util/Arrays", "fill", "([II)V"⟩ ∈ zTs := zTs_in (by decide +kernel) (by decide +kernel)
theorem tA_fill : Cond.static ⟨"java/util/Arrays", "fill", "([II)V"⟩ ∈ zTs := zTs_in (by decide +kernel) (by decide +kernel)
theorem kA_fill : Cond.code ⟨"java/util/Arrays", "fill", "([II)V"⟩ prog_18_method_103_code 4 none ∈ zTs := zTs_in (by decide +kernel) (by decide +kernel)
theorem lH_30 : Cond.fieldLink "LogBroker$Group" 30 "LogBroker$Group" "generation" "I" ∈ zTs := zTs_in (by decide +kernel) (by decide +kernel)
theorem lB_248 : Cond.fieldLink "LogBroker" 248 "LogBroker$Group" "generation" "I" ∈ zTs := zTs_in (by decide +kernel) (by decide +kernel)
theorem lH_9 : Cond.fieldLink "LogBroker$Group" 9 "LogBroker$Group" "topicOf" "[I" ∈ zTs := zTs_in (by decide +kernel) (by decide +kernel)
theorem lB_204 : Cond.fieldLink "LogBroker" 204 "LogBroker$Group" "topicOf" "[I" ∈ zTs := zTs_in (by decide +kernel) (by decide +kernel)
theorem lH_15 : Cond.fieldLink "LogBroker$Group" 15 "LogBroker$Group" "ownerOf" "[I" ∈ zTs := zTs_in (by decide +kernel) (by decide +kernel)
theorem lB_209 : Cond.fieldLink "LogBroker" 209 "LogBroker$Group" "ownerOf" "[I" ∈ zTs := zTs_in (by decide +kernel) (by decide +kernel)
theorem lH_18 : Cond.fieldLink "LogBroker$Group" 18 "LogBroker$Group" "positions" "[I" ∈ zTs := zTs_in (by decide +kernel) (by decide +kernel)
theorem lB_216 : Cond.fieldLink "LogBroker" 216 "LogBroker$Group" "positions" "[I" ∈ zTs := zTs_in (by decide +kernel) (by decide +kernel)
theorem lH_21 : Cond.fieldLink "LogBroker$Group" 21 "LogBroker$Group" "kept" "[I" ∈ zTs := zTs_in (by decide +kernel) (by decide +kernel)
theorem lB_224 : Cond.fieldLink "LogBroker" 224 "LogBroker$Group" "kept" "[I" ∈ zTs := zTs_in (by decide +kernel) (by decide +kernel)
theorem lB_39 : Cond.methodLink "LogBroker" 39 ⟨"java/util/Arrays", "fill", "([II)V"⟩ ∈ zTs := zTs_in (by decide +kernel) (by decide +kernel)
theorem lB_9 : Cond.fieldLink "LogBroker" 9 "LogBroker" "partitionsOf" "[I" ∈ zTs := zTs_in (by decide +kernel) (by decide +kernel)
theorem lB_15 : Cond.fieldLink "LogBroker" 15 "LogBroker" "logs" "[LLogBroker$Log;" ∈ zTs := zTs_in (by decide +kernel) (by decide +kernel)
theorem lB_21 : Cond.fieldLink "LogBroker" 21 "LogBroker" "sessions" "[LLogBroker$Session;" ∈ zTs := zTs_in (by decide +kernel) (by decide +kernel)
theorem lB_25 : Cond.fieldLink "LogBroker" 25 "LogBroker" "currentOf" "[I" ∈ zTs := zTs_in (by decide +kernel) (by decide +kernel)
theorem lB_28 : Cond.fieldLink "LogBroker" 28 "LogBroker" "openedFor" "[I" ∈ zTs := zTs_in (by decide +kernel) (by decide +kernel)
theorem lB_33 : Cond.fieldLink "LogBroker" 33 "LogBroker" "groups" "[LLogBroker$Group;" ∈ zTs := zTs_in (by decide +kernel) (by decide +kernel)
theorem lB_236 : Cond.fieldLink "LogBroker" 236 "LogBroker" "written" "I" ∈ zTs := zTs_in (by decide +kernel) (by decide +kernel)
theorem lB_105 : Cond.fieldLink "LogBroker" 105 "LogBroker" "repeats" "I" ∈ zTs := zTs_in (by decide +kernel) (by decide +kernel)
theorem lB_239 : Cond.fieldLink "LogBroker" 239 "LogBroker" "markers" "I" ∈ zTs := zTs_in (by decide +kernel) (by decide +kernel)
theorem lB_242 : Cond.fieldLink "LogBroker" 242 "LogBroker" "shortened" "I" ∈ zTs := zTs_in (by decide +kernel) (by decide +kernel)
theorem lB_195 : Cond.fieldLink "LogBroker" 195 "LogBroker" "compactedAway" "I" ∈ zTs := zTs_in (by decide +kernel) (by decide +kernel)
theorem lL_133 : Cond.methodLink "LogBrokerLaw" 133 ⟨"LogBroker", "count", "(I)I"⟩ ∈ zTs := zTs_in (by decide +kernel) (by decide +kernel)
theorem jB_count : Cond.instanceMethod ⟨"LogBroker", "count", "(I)I"⟩ ∈ zTs := zTs_in (by decide +kernel) (by decide +kernel)
theorem sB_count : Cond.selects "LogBroker" ⟨"LogBroker", "count", "(I)I"⟩ ⟨"LogBroker", "count", "(I)I"⟩ ∈ zTs := zTs_in (by decide +kernel) (by decide +kernel)
theorem kB_count : Cond.code ⟨"LogBroker", "count", "(I)I"⟩ prog_1_method_16_code 2 (some FieldType.int) ∈ zTs := zTs_in (by decide +kernel) (by decide +kernel)
theorem lB_245 : Cond.methodLink "LogBroker" 245 ⟨"LogBroker", "openTransactions", "()I"⟩ ∈ zTs := zTs_in (by decide +kernel) (by decide +kernel)
theorem jB_openTransactions : Cond.instanceMethod ⟨"LogBroker", "openTransactions", "()I"⟩ ∈ zTs := zTs_in (by decide +kernel) (by decide +kernel)
theorem kB_openTransactions : Cond.code ⟨"LogBroker", "openTransactions", "()I"⟩ prog_1_method_29_code 3 (some FieldType.int) ∈ zTs := zTs_in (by decide +kernel) (by decide +kernel)
theorem lL_75 : Cond.methodLink "LogBrokerLaw" 75 ⟨"LogBrokerLaw", "topic", "(LLogBroker;IIIIZ)I"⟩ ∈ zTs := zTs_in (by decide +kernel) (by decide +kernel)
theorem tL_topic : Cond.static ⟨"LogBrokerLaw", "topic", "(LLogBroker;IIIIZ)I"⟩ ∈ zTs := zTs_in (by decide +kernel) (by decide +kernel)
theorem kL_topic : Cond.codeWith ⟨"LogBrokerLaw", "topic", "(LLogBroker;IIIIZ)I"⟩ method_3_code 7 (some FieldType.int) [(0, 11, 14, 13), (0, 11, 18, 15)] ∈ zTs := zTs_in (by decide +kernel) (by decide +kernel)
theorem lL_13 : Cond.classLink "LogBrokerLaw" 13 "java/lang/IllegalArgumentException" ∈ zTs := zTs_in (by decide +kernel) (by decide +kernel)
theorem lL_15 : Cond.classLink "LogBrokerLaw" 15 "java/lang/IllegalStateException" ∈ zTs := zTs_in (by decide +kernel) (by decide +kernel)
theorem lL_7 : Cond.methodLink "LogBrokerLaw" 7 ⟨"LogBroker", "topic", "(IIIIZ)V"⟩ ∈ zTs := zTs_in (by decide +kernel) (by decide +kernel)
theorem jB_topic : Cond.instanceMethod ⟨"LogBroker", "topic", "(IIIIZ)V"⟩ ∈ zTs := zTs_in (by decide +kernel) (by decide +kernel)
theorem sB_topic : Cond.selects "LogBroker" ⟨"LogBroker", "topic", "(IIIIZ)V"⟩ ⟨"LogBroker", "topic", "(IIIIZ)V"⟩ ∈ zTs := zTs_in (by decide +kernel) (by decide +kernel)
theorem kB_topic : Cond.code ⟨"LogBroker", "topic", "(IIIIZ)V"⟩ prog_1_method_2_code 7 none ∈ zTs := zTs_in (by decide +kernel) (by decide +kernel)
theorem lB_45 : Cond.methodLink "LogBroker" 45 ⟨"LogBroker", "mustBeWithin", "(III)V"⟩ ∈ zTs := zTs_in (by decide +kernel) (by decide +kernel)
theorem tB_mustBeWithin : Cond.static ⟨"LogBroker", "mustBeWithin", "(III)V"⟩ ∈ zTs := zTs_in (by decide +kernel) (by decide +kernel)
theorem kB_mustBeWithin : Cond.code ⟨"LogBroker", "mustBeWithin", "(III)V"⟩ prog_1_method_17_code 3 none ∈ zTs := zTs_in (by decide +kernel) (by decide +kernel)
theorem lB_84 : Cond.classLink "LogBroker" 84 "java/lang/IllegalArgumentException" ∈ zTs := zTs_in (by decide +kernel) (by decide +kernel)
theorem n_java_lang_IllegalArgumentException : Cond.instantiable "java/lang/IllegalArgumentException" 6 ∈ zTs := zTs_in (by decide +kernel) (by decide +kernel)
theorem n_java_lang_Throwable : Cond.instantiable "java/lang/Throwable" 6 ∈ zTs := zTs_in (by decide +kernel) (by decide +kernel)
theorem lB_88 : Cond.methodLink "LogBroker" 88 ⟨"java/lang/IllegalArgumentException", "<init>", "(Ljava/lang/String;)V"⟩ ∈ zTs := zTs_in (by decide +kernel) (by decide +kernel)
theorem lB_49 : Cond.classLink "LogBroker" 49 "java/lang/IllegalStateException" ∈ zTs := zTs_in (by decide +kernel) (by decide +kernel)
theorem n_java_lang_IllegalStateException : Cond.instantiable "java/lang/IllegalStateException" 6 ∈ zTs := zTs_in (by decide +kernel) (by decide +kernel)
theorem lB_53 : Cond.methodLink "LogBroker" 53 ⟨"java/lang/IllegalStateException", "<init>", "(Ljava/lang/String;)V"⟩ ∈ zTs := zTs_in (by decide +kernel) (by decide +kernel)
theorem n_LogBroker_Log : Cond.instantiable "LogBroker$Log" 9 ∈ zTs := zTs_in (by decide +kernel) (by decide +kernel)
theorem lB_56 : Cond.methodLink "LogBroker" 56 ⟨"LogBroker$Log", "<init>", "(IIZ)V"⟩ ∈ zTs := zTs_in (by decide +kernel) (by decide +kernel)
theorem jG_init : Cond.instanceMethod ⟨"LogBroker$Log", "<init>", "(IIZ)V"⟩ ∈ zTs := zTs_in (by decide +kernel) (by decide +kernel)
theorem kG_init : Cond.code ⟨"LogBroker$Log", "<init>", "(IIZ)V"⟩ prog_4_method_1_code 4 none ∈ zTs := zTs_in (by decide +kernel) (by decide +kernel)
theorem lG_3 : Cond.methodLink "LogBroker$Log" 3 ⟨"java/lang/Object", "<init>", "()V"⟩ ∈ zTs := zTs_in (by decide +kernel) (by decide +kernel)
theorem lG_9 : Cond.classLink "LogBroker$Log" 9 "LogBroker$Entry" ∈ zTs := zTs_in (by decide +kernel) (by decide +kernel)
theorem lG_17 : Cond.fieldLink "LogBroker$Log" 17 "LogBroker$Log" "size" "I" ∈ zTs := zTs_in (by decide +kernel) (by decide +kernel)
theorem lG_21 : Cond.fieldLink "LogBroker$Log" 21 "LogBroker$Log" "most" "I" ∈ zTs := zTs_in (by decide +kernel) (by decide +kernel)
theorem lG_24 : Cond.fieldLink "LogBroker$Log" 24 "LogBroker$Log" "compacted" "Z" ∈ zTs := zTs_in (by decide +kernel) (by decide +kernel)
theorem lB_186 : Cond.fieldLink "LogBroker" 186 "LogBroker$Log" "compacted" "Z" ∈ zTs := zTs_in (by decide +kernel) (by decide +kernel)
theorem lG_11 : Cond.fieldLink "LogBroker$Log" 11 "LogBroker$Log" "entries" "[LLogBroker$Entry;" ∈ zTs := zTs_in (by decide +kernel) (by decide +kernel)
theorem lB_164 : Cond.fieldLink "LogBroker" 164 "LogBroker$Log" "entries" "[LLogBroker$Entry;" ∈ zTs := zTs_in (by decide +kernel) (by decide +kernel)
theorem lG_44 : Cond.fieldLink "LogBroker$Log" 44 "LogBroker$Log" "start" "I" ∈ zTs := zTs_in (by decide +kernel) (by decide +kernel)
theorem lB_145 : Cond.fieldLink "LogBroker" 145 "LogBroker$Log" "start" "I" ∈ zTs := zTs_in (by decide +kernel) (by decide +kernel)
theorem lG_28 : Cond.fieldLink "LogBroker$Log" 28 "LogBroker$Log" "end" "I" ∈ zTs := zTs_in (by decide +kernel) (by decide +kernel)
theorem lB_148 : Cond.fieldLink "LogBroker" 148 "LogBroker$Log" "end" "I" ∈ zTs := zTs_in (by decide +kernel) (by decide +kernel)
theorem lG_34 : Cond.fieldLink "LogBroker$Log" 34 "LogBroker$Log" "openBase" "I" ∈ zTs := zTs_in (by decide +kernel) (by decide +kernel)
theorem lG_37 : Cond.fieldLink "LogBroker$Log" 37 "LogBroker$Log" "closed" "I" ∈ zTs := zTs_in (by decide +kernel) (by decide +kernel)
theorem lB_233 : Cond.fieldLink "LogBroker" 233 "LogBroker$Log" "closed" "I" ∈ zTs := zTs_in (by decide +kernel) (by decide +kernel)
theorem lG_31 : Cond.fieldLink "LogBroker$Log" 31 "LogBroker$Log" "present" "I" ∈ zTs := zTs_in (by decide +kernel) (by decide +kernel)
theorem lB_230 : Cond.fieldLink "LogBroker" 230 "LogBroker$Log" "present" "I" ∈ zTs := zTs_in (by decide +kernel) (by decide +kernel)
theorem lL_85 : Cond.methodLink "LogBrokerLaw" 85 ⟨"LogBrokerLaw", "open", "(LLogBroker;II[J)I"⟩ ∈ zTs := zTs_in (by decide +kernel) (by decide +kernel)
theorem tL_open : Cond.static ⟨"LogBrokerLaw", "open", "(LLogBroker;II[J)I"⟩ ∈ zTs := zTs_in (by decide +kernel) (by decide +kernel)
theorem kL_open : Cond.codeWith ⟨"LogBrokerLaw", "open", "(LLogBroker;II[J)I"⟩ method_4_code 5 (some FieldType.int) [(0, 10, 13, 13), (0, 10, 17, 15), (0, 10, 21, 21)] ∈ zTs := zTs_in (by decide +kernel) (by decide +kernel)
theorem lL_21 : Cond.classLink "LogBrokerLaw" 21 "java/lang/UnsupportedOperationException" ∈ zTs := zTs_in (by decide +kernel) (by decide +kernel)
theorem lL_17 : Cond.methodLink "LogBrokerLaw" 17 ⟨"LogBroker", "open", "(II)I"⟩ ∈ zTs := zTs_in (by decide +kernel) (by decide +kernel)
theorem jB_open : Cond.instanceMethod ⟨"LogBroker", "open", "(II)I"⟩ ∈ zTs := zTs_in (by decide +kernel) (by decide +kernel)
theorem sB_open : Cond.selects "LogBroker" ⟨"LogBroker", "open", "(II)I"⟩ ⟨"LogBroker", "open", "(II)I"⟩ ∈ zTs := zTs_in (by decide +kernel) (by decide +kernel)
theorem kB_open : Cond.code ⟨"LogBroker", "open", "(II)I"⟩ prog_1_method_3_code 4 (some FieldType.int) ∈ zTs := zTs_in (by decide +kernel) (by decide +kernel)
theorem lB_69 : Cond.methodLink "LogBroker" 69 ⟨"LogBroker", "abortOpenTransactionOf", "(I)V"⟩ ∈ zTs := zTs_in (by decide +kernel) (by decide +kernel)
theorem jB_abortOpenTransactionOf : Cond.instanceMethod ⟨"LogBroker", "abortOpenTransactionOf", "(I)V"⟩ ∈ zTs := zTs_in (by decide +kernel) (by decide +kernel)
theorem kB_abortOpenTransactionOf : Cond.code ⟨"LogBroker", "abortOpenTransactionOf", "(I)V"⟩ prog_1_method_24_code 3 none ∈ zTs := zTs_in (by decide +kernel) (by decide +kernel)
theorem lB_138 : Cond.methodLink "LogBroker" 138 ⟨"LogBroker", "mustHaveRoomForMarkers", "(I)V"⟩ ∈ zTs := zTs_in (by decide +kernel) (by decide +kernel)
theorem jB_mustHaveRoomForMarkers : Cond.instanceMethod ⟨"LogBroker", "mustHaveRoomForMarkers", "(I)V"⟩ ∈ zTs := zTs_in (by decide +kernel) (by decide +kernel)
theorem kB_mustHaveRoomForMarkers : Cond.code ⟨"LogBroker", "mustHaveRoomForMarkers", "(I)V"⟩ prog_1_method_25_code 3 none ∈ zTs := zTs_in (by decide +kernel) (by decide +kernel)
theorem lB_263 : Cond.methodLink "LogBroker" 263 ⟨"LogBroker", "awaitsMarker", "(II)Z"⟩ ∈ zTs := zTs_in (by decide +kernel) (by decide +kernel)
theorem jB_awaitsMarker : Cond.instanceMethod ⟨"LogBroker", "awaitsMarker", "(II)Z"⟩ ∈ zTs := zTs_in (by decide +kernel) (by decide +kernel)
theorem kB_awaitsMarker : Cond.code ⟨"LogBroker", "awaitsMarker", "(II)Z"⟩ prog_1_method_26_code 3 (some FieldType.boolean) ∈ zTs := zTs_in (by decide +kernel) (by decide +kernel)
theorem lB_268 : Cond.methodLink "LogBroker" 268 ⟨"LogBroker$Log", "hasUndecidedOf", "(I)Z"⟩ ∈ zTs := zTs_in (by decide +kernel) (by decide +kernel)
theorem jG_hasUndecidedOf : Cond.instanceMethod ⟨"LogBroker$Log", "hasUndecidedOf", "(I)Z"⟩ ∈ zTs := zTs_in (by decide +kernel) (by decide +kernel)
theorem sG_hasUndecidedOf : Cond.selects "LogBroker$Log" ⟨"LogBroker$Log", "hasUndecidedOf", "(I)Z"⟩ ⟨"LogBroker$Log", "hasUndecidedOf", "(I)Z"⟩ ∈ zTs := zTs_in (by decide +kernel) (by decide +kernel)
theorem kG_hasUndecidedOf : Cond.code ⟨"LogBroker$Log", "hasUndecidedOf", "(I)Z"⟩ prog_4_method_7_code 3 (some FieldType.boolean) ∈ zTs := zTs_in (by decide +kernel) (by decide +kernel)
theorem lG_54 : Cond.methodLink "LogBroker$Log" 54 ⟨"LogBroker$Entry", "isUndecidedOf", "(I)Z"⟩ ∈ zTs := zTs_in (by decide +kernel) (by decide +kernel)
theorem jE_isUndecidedOf : Cond.instanceMethod ⟨"LogBroker$Entry", "isUndecidedOf", "(I)Z"⟩ ∈ zTs := zTs_in (by decide +kernel) (by decide +kernel)
theorem sE_isUndecidedOf : Cond.selects "LogBroker$Entry" ⟨"LogBroker$Entry", "isUndecidedOf", "(I)Z"⟩ ⟨"LogBroker$Entry", "isUndecidedOf", "(I)Z"⟩ ∈ zTs := zTs_in (by decide +kernel) (by decide +kernel)
theorem kE_isUndecidedOf : Cond.code ⟨"LogBroker$Entry", "isUndecidedOf", "(I)Z"⟩ prog_2_method_2_code 2 (some FieldType.boolean) ∈ zTs := zTs_in (by decide +kernel) (by decide +kernel)
theorem lB_112 : Cond.methodLink "LogBroker" 112 ⟨"LogBroker$Log", "isFull", "()Z"⟩ ∈ zTs := zTs_in (by decide +kernel) (by decide +kernel)
theorem jG_isFull : Cond.instanceMethod ⟨"LogBroker$Log", "isFull", "()Z"⟩ ∈ zTs := zTs_in (by decide +kernel) (by decide +kernel)
theorem sG_isFull : Cond.selects "LogBroker$Log" ⟨"LogBroker$Log", "isFull", "()Z"⟩ ⟨"LogBroker$Log", "isFull", "()Z"⟩ ∈ zTs := zTs_in (by decide +kernel) (by decide +kernel)
theorem kG_isFull : Cond.code ⟨"LogBroker$Log", "isFull", "()Z"⟩ prog_4_method_2_code 1 (some FieldType.boolean) ∈ zTs := zTs_in (by decide +kernel) (by decide +kernel)
theorem lB_116 : Cond.classLink "LogBroker" 116 "java/lang/UnsupportedOperationException" ∈ zTs := zTs_in (by decide +kernel) (by decide +kernel)
theorem n_java_lang_UnsupportedOperationException : Cond.instantiable "java/lang/UnsupportedOperationException" 6 ∈ zTs := zTs_in (by decide +kernel) (by decide +kernel)
theorem lB_120 : Cond.methodLink "LogBroker" 120 ⟨"java/lang/UnsupportedOperationException", "<init>", "(Ljava/lang/String;)V"⟩ ∈ zTs := zTs_in (by decide +kernel) (by decide +kernel)
theorem lB_141 : Cond.methodLink "LogBroker" 141 ⟨"LogBroker", "decide", "(LLogBroker$Session;Z)I"⟩ ∈ zTs := zTs_in (by decide +kernel) (by decide +kernel)
theorem jB_decide : Cond.instanceMethod ⟨"LogBroker", "decide", "(LLogBroker$Session;Z)I"⟩ ∈ zTs := zTs_in (by decide +kernel) (by decide +kernel)
theorem kB_decide : Cond.code ⟨"LogBroker", "decide", "(LLogBroker$Session;Z)I"⟩ prog_1_method_27_code 6 (some FieldType.int) ∈ zTs := zTs_in (by decide +kernel) (by decide +kernel)
theorem lB_121 : Cond.classLink "LogBroker" 121 "LogBroker$Entry" ∈ zTs := zTs_in (by decide +kernel) (by decide +kernel)
theorem n_LogBroker_Entry : Cond.instantiable "LogBroker$Entry" 5 ∈ zTs := zTs_in (by decide +kernel) (by decide +kernel)
theorem lB_123 : Cond.methodLink "LogBroker" 123 ⟨"LogBroker$Entry", "<init>", "(IIIII)V"⟩ ∈ zTs := zTs_in (by decide +kernel) (by decide +kernel)
theorem jE_init : Cond.instanceMethod ⟨"LogBroker$Entry", "<init>", "(IIIII)V"⟩ ∈ zTs := zTs_in (by decide +kernel) (by decide +kernel)
theorem kE_init : Cond.code ⟨"LogBroker$Entry", "<init>", "(IIIII)V"⟩ prog_2_method_1_code 6 none ∈ zTs := zTs_in (by decide +kernel) (by decide +kernel)
theorem lE_3 : Cond.methodLink "LogBroker$Entry" 3 ⟨"java/lang/Object", "<init>", "()V"⟩ ∈ zTs := zTs_in (by decide +kernel) (by decide +kernel)
theorem lE_9 : Cond.fieldLink "LogBroker$Entry" 9 "LogBroker$Entry" "kind" "I" ∈ zTs := zTs_in (by decide +kernel) (by decide +kernel)
theorem lB_179 : Cond.fieldLink "LogBroker" 179 "LogBroker$Entry" "kind" "I" ∈ zTs := zTs_in (by decide +kernel) (by decide +kernel)
theorem lG_58 : Cond.fieldLink "LogBroker$Log" 58 "LogBroker$Entry" "kind" "I" ∈ zTs := zTs_in (by decide +kernel) (by decide +kernel)
theorem lE_15 : Cond.fieldLink "LogBroker$Entry" 15 "LogBroker$Entry" "key" "I" ∈ zTs := zTs_in (by decide +kernel) (by decide +kernel)
theorem lB_173 : Cond.fieldLink "LogBroker" 173 "LogBroker$Entry" "key" "I" ∈ zTs := zTs_in (by decide +kernel) (by decide +kernel)
theorem lG_74 : Cond.fieldLink "LogBroker$Log" 74 "LogBroker$Entry" "key" "I" ∈ zTs := zTs_in (by decide +kernel) (by decide +kernel)
theorem lE_18 : Cond.fieldLink "LogBroker$Entry" 18 "LogBroker$Entry" "value" "I" ∈ zTs := zTs_in (by decide +kernel) (by decide +kernel)
theorem lB_176 : Cond.fieldLink "LogBroker" 176 "LogBroker$Entry" "value" "I" ∈ zTs := zTs_in (by decide +kernel) (by decide +kernel)
theorem lE_21 : Cond.fieldLink "LogBroker$Entry" 21 "LogBroker$Entry" "producer" "I" ∈ zTs := zTs_in (by decide +kernel) (by decide +kernel)
theorem lB_182 : Cond.fieldLink "LogBroker" 182 "LogBroker$Entry" "producer" "I" ∈ zTs := zTs_in (by decide +kernel) (by decide +kernel)
theorem lE_24 : Cond.fieldLink "LogBroker$Entry" 24 "LogBroker$Entry" "state" "I" ∈ zTs := zTs_in (by decide +kernel) (by decide +kernel)
theorem lG_51 : Cond.fieldLink "LogBroker$Log" 51 "LogBroker$Entry" "state" "I" ∈ zTs := zTs_in (by decide +kernel) (by decide +kernel)
theorem lB_183 : Cond.fieldLink "LogBroker" 183 "LogBroker$Entry" "state" "I" ∈ zTs := zTs_in (by decide +kernel) (by decide +kernel)
theorem lB_126 : Cond.methodLink "LogBroker" 126 ⟨"LogBroker", "write", "(LLogBroker$Log;LLogBroker$Entry;)I"⟩ ∈ zTs := zTs_in (by decide +kernel) (by decide +kernel)
theorem jB_write : Cond.instanceMethod ⟨"LogBroker", "write", "(LLogBroker$Log;LLogBroker$Entry;)I"⟩ ∈ zTs := zTs_in (by decide +kernel) (by decide +kernel)
theorem kB_write : Cond.code ⟨"LogBroker", "write", "(LLogBroker$Log;LLogBroker$Entry;)I"⟩ prog_1_method_28_code 4 (some FieldType.int) ∈ zTs := zTs_in (by decide +kernel) (by decide +kernel)
theorem lB_274 : Cond.methodLink "LogBroker" 274 ⟨"LogBroker$Log", "append", "(LLogBroker$Entry;)I"⟩ ∈ zTs := zTs_in (by decide +kernel) (by decide +kernel)
theorem jG_append : Cond.instanceMethod ⟨"LogBroker$Log", "append", "(LLogBroker$Entry;)I"⟩ ∈ zTs := zTs_in (by decide +kernel) (by decide +kernel)
theorem sG_append : Cond.selects "LogBroker$Log" ⟨"LogBroker$Log", "append", "(LLogBroker$Entry;)I"⟩ ⟨"LogBroker$Log", "append", "(LLogBroker$Entry;)I"⟩ ∈ zTs := zTs_in (by decide +kernel) (by decide +kernel)
theorem kG_append : Cond.code ⟨"LogBroker$Log", "append", "(LLogBroker$Entry;)I"⟩ prog_4_method_3_code 3 (some FieldType.int) ∈ zTs := zTs_in (by decide +kernel) (by decide +kernel)
theorem lB_278 : Cond.methodLink "LogBroker" 278 ⟨"LogBroker$Log", "shorten", "()I"⟩ ∈ zTs := zTs_in (by decide +kernel) (by decide +kernel)
theorem jG_shorten : Cond.instanceMethod ⟨"LogBroker$Log", "shorten", "()I"⟩ ∈ zTs := zTs_in (by decide +kernel) (by decide +kernel)
theorem sG_shorten : Cond.selects "LogBroker$Log" ⟨"LogBroker$Log", "shorten", "()I"⟩ ⟨"LogBroker$Log", "shorten", "()I"⟩ ∈ zTs := zTs_in (by decide +kernel) (by decide +kernel)
theorem kG_shorten : Cond.code ⟨"LogBroker$Log", "shorten", "()I"⟩ prog_4_method_4_code 4 (some FieldType.int) ∈ zTs := zTs_in (by decide +kernel) (by decide +kernel)
theorem lG_40 : Cond.methodLink "LogBroker$Log" 40 ⟨"LogBroker$Log", "stableOffset", "()I"⟩ ∈ zTs := zTs_in (by decide +kernel) (by decide +kernel)
theorem jG_stableOffset : Cond.instanceMethod ⟨"LogBroker$Log", "stableOffset", "()I"⟩ ∈ zTs := zTs_in (by decide +kernel) (by decide +kernel)
theorem sG_stableOffset : Cond.selects "LogBroker$Log" ⟨"LogBroker$Log", "stableOffset", "()I"⟩ ⟨"LogBroker$Log", "stableOffset", "()I"⟩ ∈ zTs := zTs_in (by decide +kernel) (by decide +kernel)
theorem kG_stableOffset : Cond.code ⟨"LogBroker$Log", "stableOffset", "()I"⟩ prog_4_method_6_code 2 (some FieldType.int) ∈ zTs := zTs_in (by decide +kernel) (by decide +kernel)
theorem lG_47 : Cond.methodLink "LogBroker$Log" 47 ⟨"LogBroker$Log", "drop", "(I)V"⟩ ∈ zTs := zTs_in (by decide +kernel) (by decide +kernel)
theorem jG_drop : Cond.instanceMethod ⟨"LogBroker$Log", "drop", "(I)V"⟩ ∈ zTs := zTs_in (by decide +kernel) (by decide +kernel)
theorem sG_drop : Cond.selects "LogBroker$Log" ⟨"LogBroker$Log", "drop", "(I)V"⟩ ⟨"LogBroker$Log", "drop", "(I)V"⟩ ∈ zTs := zTs_in (by decide +kernel) (by decide +kernel)
theorem kG_drop : Cond.code ⟨"LogBroker$Log", "drop", "(I)V"⟩ prog_4_method_5_code 2 none ∈ zTs := zTs_in (by decide +kernel) (by decide +kernel)
theorem lB_271 : Cond.methodLink "LogBroker" 271 ⟨"LogBroker$Log", "settle", "(II)V"⟩ ∈ zTs := zTs_in (by decide +kernel) (by decide +kernel)
theorem jG_settle : Cond.instanceMethod ⟨"LogBroker$Log", "settle", "(II)V"⟩ ∈ zTs := zTs_in (by decide +kernel) (by decide +kernel)
theorem sG_settle : Cond.selects "LogBroker$Log" ⟨"LogBroker$Log", "settle", "(II)V"⟩ ⟨"LogBroker$Log", "settle", "(II)V"⟩ ∈ zTs := zTs_in (by decide +kernel) (by decide +kernel)
theorem kG_settle : Cond.code ⟨"LogBroker$Log", "settle", "(II)V"⟩ prog_4_method_8_code 4 none ∈ zTs := zTs_in (by decide +kernel) (by decide +kernel)
theorem lB_73 : Cond.methodLink "LogBroker" 73 ⟨"LogBroker", "isCurrent", "(I)Z"⟩ ∈ zTs := zTs_in (by decide +kernel) (by decide +kernel)
theorem jB_isCurrent : Cond.instanceMethod ⟨"LogBroker", "isCurrent", "(I)Z"⟩ ∈ zTs := zTs_in (by decide +kernel) (by decide +kernel)
theorem kB_isCurrent : Cond.code ⟨"LogBroker", "isCurrent", "(I)Z"⟩ prog_1_method_20_code 3 (some FieldType.boolean) ∈ zTs := zTs_in (by decide +kernel) (by decide +kernel)
theorem lB_77 : Cond.methodLink "LogBroker" 77 ⟨"LogBroker$Session", "startFor", "(I)V"⟩ ∈ zTs := zTs_in (by decide +kernel) (by decide +kernel)
theorem jS_startFor : Cond.instanceMethod ⟨"LogBroker$Session", "startFor", "(I)V"⟩ ∈ zTs := zTs_in (by decide +kernel) (by decide +kernel)
theorem sS_startFor : Cond.selects "LogBroker$Session" ⟨"LogBroker$Session", "startFor", "(I)V"⟩ ⟨"LogBroker$Session", "startFor", "(I)V"⟩ ∈ zTs := zTs_in (by decide +kernel) (by decide +kernel)
theorem kS_startFor : Cond.code ⟨"LogBroker$Session", "startFor", "(I)V"⟩ prog_5_method_2_code 2 none ∈ zTs := zTs_in (by decide +kernel) (by decide +kernel)
theorem lS_22 : Cond.methodLink "LogBroker$Session" 22 ⟨"java/util/Arrays", "fill", "([II)V"⟩ ∈ zTs := zTs_in (by decide +kernel) (by decide +kernel)
theorem lL_89 : Cond.methodLink "LogBrokerLaw" 89 ⟨"LogBrokerLaw", "produce", "(LLogBroker;IIIII[J)I"⟩ ∈ zTs := zTs_in (by decide +kernel) (by decide +kernel)
theorem tL_produce : Cond.static ⟨"LogBrokerLaw", "produce", "(LLogBroker;IIIII[J)I"⟩ ∈ zTs := zTs_in (by decide +kernel) (by decide +kernel)
theorem kL_produce : Cond.codeWith ⟨"LogBrokerLaw", "produce", "(LLogBroker;IIIII[J)I"⟩ method_5_code 8 (some FieldType.int) [(0, 16, 19, 13), (0, 16, 23, 27), (0, 16, 27, 15), (0, 16, 31, 21)] ∈ zTs := zTs_in (by decide +kernel) (by decide +kernel)
theorem lL_27 : Cond.classLink "LogBrokerLaw" 27 "java/util/NoSuchElementException" ∈ zTs := zTs_in (by decide +kernel) (by decide +kernel)
theorem lL_23 : Cond.methodLink "LogBrokerLaw" 23 ⟨"LogBroker", "produce", "(IIIII)I"⟩ ∈ zTs := zTs_in (by decide +kernel) (by decide +kernel)
theorem jB_produce : Cond.instanceMethod ⟨"LogBroker", "produce", "(IIIII)I"⟩ ∈ zTs := zTs_in (by decide +kernel) (by decide +kernel)
theorem sB_produce : Cond.selects "LogBroker" ⟨"LogBroker", "produce", "(IIIII)I"⟩ ⟨"LogBroker", "produce", "(IIIII)I"⟩ ∈ zTs := zTs_in (by decide +kernel) (by decide +kernel)
theorem kB_produce : Cond.code ⟨"LogBroker", "produce", "(IIIII)I"⟩ prog_1_method_4_code 11 (some FieldType.int) ∈ zTs := zTs_in (by decide +kernel) (by decide +kernel)
theorem lB_80 : Cond.methodLink "LogBroker" 80 ⟨"LogBroker", "logAt", "(I)LLogBroker$Log;"⟩ ∈ zTs := zTs_in (by decide +kernel) (by decide +kernel)
theorem jB_logAt : Cond.instanceMethod ⟨"LogBroker", "logAt", "(I)LLogBroker$Log;"⟩ ∈ zTs := zTs_in (by decide +kernel) (by decide +kernel)
theorem kB_logAt : Cond.code ⟨"LogBroker", "logAt", "(I)LLogBroker$Log;"⟩ prog_1_method_18_code 2 (some (FieldType.object "LogBroker$Log")) ∈ zTs := zTs_in (by decide +kernel) (by decide +kernel)
theorem lB_89 : Cond.methodLink "LogBroker" 89 ⟨"LogBroker", "openedSession", "(I)LLogBroker$Session;"⟩ ∈ zTs := zTs_in (by decide +kernel) (by decide +kernel)
theorem jB_openedSession : Cond.instanceMethod ⟨"LogBroker", "openedSession", "(I)LLogBroker$Session;"⟩ ∈ zTs := zTs_in (by decide +kernel) (by decide +kernel)
theorem kB_openedSession : Cond.code ⟨"LogBroker", "openedSession", "(I)LLogBroker$Session;"⟩ prog_1_method_19_code 2 (some (FieldType.object "LogBroker$Session")) ∈ zTs := zTs_in (by decide +kernel) (by decide +kernel)
theorem lB_168 : Cond.classLink "LogBroker" 168 "java/util/NoSuchElementException" ∈ zTs := zTs_in (by decide +kernel) (by decide +kernel)
theorem n_java_util_NoSuchElementException : Cond.instantiable "java/util/NoSuchElementException" 6 ∈ zTs := zTs_in (by decide +kernel) (by decide +kernel)
theorem lB_172 : Cond.methodLink "LogBroker" 172 ⟨"java/util/NoSuchElementException", "<init>", "(Ljava/lang/String;)V"⟩ ∈ zTs := zTs_in (by decide +kernel) (by decide +kernel)
theorem lB_93 : Cond.methodLink "LogBroker" 93 ⟨"LogBroker$Session", "remembers", "(II)Z"⟩ ∈ zTs := zTs_in (by decide +kernel) (by decide +kernel)
theorem jS_remembers : Cond.instanceMethod ⟨"LogBroker$Session", "remembers", "(II)Z"⟩ ∈ zTs := zTs_in (by decide +kernel) (by decide +kernel)
theorem sS_remembers : Cond.selects "LogBroker$Session" ⟨"LogBroker$Session", "remembers", "(II)Z"⟩ ⟨"LogBroker$Session", "remembers", "(II)Z"⟩ ∈ zTs := zTs_in (by decide +kernel) (by decide +kernel)
theorem kS_remembers : Cond.code ⟨"LogBroker$Session", "remembers", "(II)Z"⟩ prog_5_method_4_code 3 (some FieldType.boolean) ∈ zTs := zTs_in (by decide +kernel) (by decide +kernel)
theorem lB_97 : Cond.methodLink "LogBroker" 97 ⟨"LogBroker$Session", "expects", "(II)Z"⟩ ∈ zTs := zTs_in (by decide +kernel) (by decide +kernel)
theorem jS_expects : Cond.instanceMethod ⟨"LogBroker$Session", "expects", "(II)Z"⟩ ∈ zTs := zTs_in (by decide +kernel) (by decide +kernel)
theorem sS_expects : Cond.selects "LogBroker$Session" ⟨"LogBroker$Session", "expects", "(II)Z"⟩ ⟨"LogBroker$Session", "expects", "(II)Z"⟩ ∈ zTs := zTs_in (by decide +kernel) (by decide +kernel)
theorem kS_expects : Cond.code ⟨"LogBroker$Session", "expects", "(II)Z"⟩ prog_5_method_3_code 3 (some FieldType.boolean) ∈ zTs := zTs_in (by decide +kernel) (by decide +kernel)
theorem lB_102 : Cond.methodLink "LogBroker" 102 ⟨"LogBroker", "mustBeCurrent", "(I)V"⟩ ∈ zTs := zTs_in (by decide +kernel) (by decide +kernel)
theorem jB_mustBeCurrent : Cond.instanceMethod ⟨"LogBroker", "mustBeCurrent", "(I)V"⟩ ∈ zTs := zTs_in (by decide +kernel) (by decide +kernel)
theorem kB_mustBeCurrent : Cond.code ⟨"LogBroker", "mustBeCurrent", "(I)V"⟩ prog_1_method_21_code 2 none ∈ zTs := zTs_in (by decide +kernel) (by decide +kernel)
theorem lB_108 : Cond.methodLink "LogBroker" 108 ⟨"LogBroker$Session", "offsetRemembered", "(II)I"⟩ ∈ zTs := zTs_in (by decide +kernel) (by decide +kernel)
theorem jS_offsetRemembered : Cond.instanceMethod ⟨"LogBroker$Session", "offsetRemembered", "(II)I"⟩ ∈ zTs := zTs_in (by decide +kernel) (by decide +kernel)
theorem sS_offsetRemembered : Cond.selects "LogBroker$Session" ⟨"LogBroker$Session", "offsetRemembered", "(II)I"⟩ ⟨"LogBroker$Session", "offsetRemembered", "(II)I"⟩ ∈ zTs := zTs_in (by decide +kernel) (by decide +kernel)
theorem kS_offsetRemembered : Cond.code ⟨"LogBroker$Session", "offsetRemembered", "(II)I"⟩ prog_5_method_5_code 3 (some FieldType.int) ∈ zTs := zTs_in (by decide +kernel) (by decide +kernel)
theorem lB_130 : Cond.methodLink "LogBroker" 130 ⟨"LogBroker$Session", "remember", "(II)V"⟩ ∈ zTs := zTs_in (by decide +kernel) (by decide +kernel)
theorem jS_remember : Cond.instanceMethod ⟨"LogBroker$Session", "remember", "(II)V"⟩ ∈ zTs := zTs_in (by decide +kernel) (by decide +kernel)
theorem sS_remember : Cond.selects "LogBroker$Session" ⟨"LogBroker$Session", "remember", "(II)V"⟩ ⟨"LogBroker$Session", "remember", "(II)V"⟩ ∈ zTs := zTs_in (by decide +kernel) (by decide +kernel)
theorem kS_remember : Cond.code ⟨"LogBroker$Session", "remember", "(II)V"⟩ prog_5_method_6_code 3 none ∈ zTs := zTs_in (by decide +kernel) (by decide +kernel)
theorem lL_93 : Cond.methodLink "LogBrokerLaw" 93 ⟨"LogBrokerLaw", "begin", "(LLogBroker;I)I"⟩ ∈ zTs := zTs_in (by decide +kernel) (by decide +kernel)
theorem tL_begin : Cond.static ⟨"LogBrokerLaw", "begin", "(LLogBroker;I)I"⟩ ∈ zTs := zTs_in (by decide +kernel) (by decide +kernel)
theorem kL_begin : Cond.codeWith ⟨"LogBrokerLaw", "begin", "(LLogBroker;I)I"⟩ method_6_code 3 (some FieldType.int) [(0, 5, 8, 13), (0, 5, 11, 27), (0, 5, 14, 15), (0, 5, 17, 21)] ∈ zTs := zTs_in (by decide +kernel) (by decide +kernel)
theorem lL_29 : Cond.methodLink "LogBrokerLaw" 29 ⟨"LogBroker", "begin", "(I)V"⟩ ∈ zTs := zTs_in (by decide +kernel) (by decide +kernel)
theorem jB_begin : Cond.instanceMethod ⟨"LogBroker", "begin", "(I)V"⟩ ∈ zTs := zTs_in (by decide +kernel) (by decide +kernel)
theorem sB_begin : Cond.selects "LogBroker" ⟨"LogBroker", "begin", "(I)V"⟩ ⟨"LogBroker", "begin", "(I)V"⟩ ∈ zTs := zTs_in (by decide +kernel) (by decide +kernel)
theorem kB_begin : Cond.code ⟨"LogBroker", "begin", "(I)V"⟩ prog_1_method_5_code 3 none ∈ zTs := zTs_in (by decide +kernel) (by decide +kernel)
theorem lL_97 : Cond.methodLink "LogBrokerLaw" 97 ⟨"LogBrokerLaw", "end", "(LLogBroker;IZ[J)I"⟩ ∈ zTs := zTs_in (by decide +kernel) (by decide +kernel)
theorem tL_end : Cond.static ⟨"LogBrokerLaw", "end", "(LLogBroker;IZ[J)I"⟩ ∈ zTs := zTs_in (by decide +kernel) (by decide +kernel)
theorem kL_end : Cond.codeWith ⟨"LogBrokerLaw", "end", "(LLogBroker;IZ[J)I"⟩ method_7_code 5 (some FieldType.int) [(0, 10, 13, 13), (0, 10, 17, 27), (0, 10, 21, 15), (0, 10, 25, 21)] ∈ zTs := zTs_in (by decide +kernel) (by decide +kernel)
theorem lL_33 : Cond.methodLink "LogBrokerLaw" 33 ⟨"LogBroker", "end", "(IZ)I"⟩ ∈ zTs := zTs_in (by decide +kernel) (by decide +kernel)
theorem jB_end : Cond.instanceMethod ⟨"LogBroker", "end", "(IZ)I"⟩ ∈ zTs := zTs_in (by decide +kernel) (by decide +kernel)
theorem sB_end : Cond.selects "LogBroker" ⟨"LogBroker", "end", "(IZ)I"⟩ ⟨"LogBroker", "end", "(IZ)I"⟩ ∈ zTs := zTs_in (by decide +kernel) (by decide +kernel)
theorem kB_end : Cond.code ⟨"LogBroker", "end", "(IZ)I"⟩ prog_1_method_6_code 4 (some FieldType.int) ∈ zTs := zTs_in (by decide +kernel) (by decide +kernel)
theorem lL_101 : Cond.methodLink "LogBrokerLaw" 101 ⟨"LogBrokerLaw", "fetch", "(LLogBroker;IIZ[J)I"⟩ ∈ zTs := zTs_in (by decide +kernel) (by decide +kernel)
theorem tL_fetch : Cond.static ⟨"LogBrokerLaw", "fetch", "(LLogBroker;IIZ[J)I"⟩ ∈ zTs := zTs_in (by decide +kernel) (by decide +kernel)
theorem kL_fetch : Cond.codeWith ⟨"LogBrokerLaw", "fetch", "(LLogBroker;IIZ[J)I"⟩ method_8_code 6 (some FieldType.int) [(0, 12, 15, 13), (0, 12, 19, 27), (0, 12, 23, 41)] ∈ zTs := zTs_in (by decide +kernel) (by decide +kernel)
theorem lL_41 : Cond.classLink "LogBrokerLaw" 41 "java/lang/IndexOutOfBoundsException" ∈ zTs := zTs_in (by decide +kernel) (by decide +kernel)
theorem lL_37 : Cond.methodLink "LogBrokerLaw" 37 ⟨"LogBroker", "fetch", "(IIZ)I"⟩ ∈ zTs := zTs_in (by decide +kernel) (by decide +kernel)
theorem jB_fetch : Cond.instanceMethod ⟨"LogBroker", "fetch", "(IIZ)I"⟩ ∈ zTs := zTs_in (by decide +kernel) (by decide +kernel)
theorem sB_fetch : Cond.selects "LogBroker" ⟨"LogBroker", "fetch", "(IIZ)I"⟩ ⟨"LogBroker", "fetch", "(IIZ)I"⟩ ∈ zTs := zTs_in (by decide +kernel) (by decide +kernel)
theorem kB_fetch : Cond.code ⟨"LogBroker", "fetch", "(IIZ)I"⟩ prog_1_method_7_code 5 (some FieldType.int) ∈ zTs := zTs_in (by decide +kernel) (by decide +kernel)
theorem lB_151 : Cond.classLink "LogBroker" 151 "java/lang/IndexOutOfBoundsException" ∈ zTs := zTs_in (by decide +kernel) (by decide +kernel)
theorem n_java_lang_IndexOutOfBoundsException : Cond.instantiable "java/lang/IndexOutOfBoundsException" 6 ∈ zTs := zTs_in (by decide +kernel) (by decide +kernel)
theorem lB_155 : Cond.methodLink "LogBroker" 155 ⟨"java/lang/IndexOutOfBoundsException", "<init>", "(Ljava/lang/String;)V"⟩ ∈ zTs := zTs_in (by decide +kernel) (by decide +kernel)
theorem lB_156 : Cond.methodLink "LogBroker" 156 ⟨"LogBroker$Log", "firstVisible", "(IZ)I"⟩ ∈ zTs := zTs_in (by decide +kernel) (by decide +kernel)
theorem jG_firstVisible : Cond.instanceMethod ⟨"LogBroker$Log", "firstVisible", "(IZ)I"⟩ ∈ zTs := zTs_in (by decide +kernel) (by decide +kernel)
theorem sG_firstVisible : Cond.selects "LogBroker$Log" ⟨"LogBroker$Log", "firstVisible", "(IZ)I"⟩ ⟨"LogBroker$Log", "firstVisible", "(IZ)I"⟩ ∈ zTs := zTs_in (by decide +kernel) (by decide +kernel)
theorem kG_firstVisible : Cond.code ⟨"LogBroker$Log", "firstVisible", "(IZ)I"⟩ prog_4_method_10_code 5 (some FieldType.int) ∈ zTs := zTs_in (by decide +kernel) (by decide +kernel)
theorem lG_61 : Cond.methodLink "LogBroker$Log" 61 ⟨"LogBroker$Log", "hasData", "(I)Z"⟩ ∈ zTs := zTs_in (by decide +kernel) (by decide +kernel)
theorem jG_hasData : Cond.instanceMethod ⟨"LogBroker$Log", "hasData", "(I)Z"⟩ ∈ zTs := zTs_in (by decide +kernel) (by decide +kernel)
theorem sG_hasData : Cond.selects "LogBroker$Log" ⟨"LogBroker$Log", "hasData", "(I)Z"⟩ ⟨"LogBroker$Log", "hasData", "(I)Z"⟩ ∈ zTs := zTs_in (by decide +kernel) (by decide +kernel)
theorem kG_hasData : Cond.code ⟨"LogBroker$Log", "hasData", "(I)Z"⟩ prog_4_method_9_code 2 (some FieldType.boolean) ∈ zTs := zTs_in (by decide +kernel) (by decide +kernel)
theorem lB_160 : Cond.methodLink "LogBroker" 160 ⟨"LogBroker", "found", "(I)I"⟩ ∈ zTs := zTs_in (by decide +kernel) (by decide +kernel)
theorem tB_found : Cond.static ⟨"LogBroker", "found", "(I)I"⟩ ∈ zTs := zTs_in (by decide +kernel) (by decide +kernel)
theorem kB_found : Cond.code ⟨"LogBroker", "found", "(I)I"⟩ prog_1_method_22_code 1 (some FieldType.int) ∈ zTs := zTs_in (by decide +kernel) (by decide +kernel)
theorem lL_105 : Cond.methodLink "LogBrokerLaw" 105 ⟨"LogBrokerLaw", "told", "(LLogBroker;III[J)I"⟩ ∈ zTs := zTs_in (by decide +kernel) (by decide +kernel)
theorem tL_told : Cond.static ⟨"LogBrokerLaw", "told", "(LLogBroker;III[J)I"⟩ ∈ zTs := zTs_in (by decide +kernel) (by decide +kernel)
theorem kL_told : Cond.codeWith ⟨"LogBrokerLaw", "told", "(LLogBroker;III[J)I"⟩ method_9_code 6 (some FieldType.int) [(0, 12, 15, 13), (0, 12, 19, 27), (0, 12, 23, 41)] ∈ zTs := zTs_in (by decide +kernel) (by decide +kernel)
theorem lL_43 : Cond.methodLink "LogBrokerLaw" 43 ⟨"LogBroker", "told", "(III)I"⟩ ∈ zTs := zTs_in (by decide +kernel) (by decide +kernel)
theorem jB_told : Cond.instanceMethod ⟨"LogBroker", "told", "(III)I"⟩ ∈ zTs := zTs_in (by decide +kernel) (by decide +kernel)
theorem sB_told : Cond.selects "LogBroker" ⟨"LogBroker", "told", "(III)I"⟩ ⟨"LogBroker", "told", "(III)I"⟩ ∈ zTs := zTs_in (by decide +kernel) (by decide +kernel)
theorem kB_told : Cond.code ⟨"LogBroker", "told", "(III)I"⟩ prog_1_method_8_code 6 (some FieldType.int) ∈ zTs := zTs_in (by decide +kernel) (by decide +kernel)
theorem lL_109 : Cond.methodLink "LogBrokerLaw" 109 ⟨"LogBrokerLaw", "compact", "(LLogBroker;I[J)I"⟩ ∈ zTs := zTs_in (by decide +kernel) (by decide +kernel)
theorem tL_compact : Cond.static ⟨"LogBrokerLaw", "compact", "(LLogBroker;I[J)I"⟩ ∈ zTs := zTs_in (by decide +kernel) (by decide +kernel)
theorem kL_compact : Cond.codeWith ⟨"LogBrokerLaw", "compact", "(LLogBroker;I[J)I"⟩ method_10_code 4 (some FieldType.int) [(0, 9, 12, 13), (0, 9, 15, 15)] ∈ zTs := zTs_in (by decide +kernel) (by decide +kernel)
theorem lL_47 : Cond.methodLink "LogBrokerLaw" 47 ⟨"LogBroker", "compact", "(I)I"⟩ ∈ zTs := zTs_in (by decide +kernel) (by decide +kernel)
theorem jB_compact : Cond.instanceMethod ⟨"LogBroker", "compact", "(I)I"⟩ ∈ zTs := zTs_in (by decide +kernel) (by decide +kernel)
theorem sB_compact : Cond.selects "LogBroker" ⟨"LogBroker", "compact", "(I)I"⟩ ⟨"LogBroker", "compact", "(I)I"⟩ ∈ zTs := zTs_in (by decide +kernel) (by decide +kernel)
theorem kB_compact : Cond.code ⟨"LogBroker", "compact", "(I)I"⟩ prog_1_method_9_code 4 (some FieldType.int) ∈ zTs := zTs_in (by decide +kernel) (by decide +kernel)
theorem lB_191 : Cond.methodLink "LogBroker" 191 ⟨"LogBroker$Log", "dropOutdated", "()I"⟩ ∈ zTs := zTs_in (by decide +kernel) (by decide +kernel)
theorem jG_dropOutdated : Cond.instanceMethod ⟨"LogBroker$Log", "dropOutdated", "()I"⟩ ∈ zTs := zTs_in (by decide +kernel) (by decide +kernel)
theorem sG_dropOutdated : Cond.selects "LogBroker$Log" ⟨"LogBroker$Log", "dropOutdated", "()I"⟩ ⟨"LogBroker$Log", "dropOutdated", "()I"⟩ ∈ zTs := zTs_in (by decide +kernel) (by decide +kernel)
theorem kG_dropOutdated : Cond.code ⟨"LogBroker$Log", "dropOutdated", "()I"⟩ prog_4_method_11_code 9 (some FieldType.int) ∈ zTs := zTs_in (by decide +kernel) (by decide +kernel)
theorem lG_64 : Cond.methodLink "LogBroker$Log" 64 ⟨"java/lang/Math", "min", "(II)I"⟩ ∈ zTs := zTs_in (by decide +kernel) (by decide +kernel)
theorem lG_70 : Cond.methodLink "LogBroker$Log" 70 ⟨"LogBroker$Log", "bitOfCommittedKey", "(LLogBroker$Entry;)I"⟩ ∈ zTs := zTs_in (by decide +kernel) (by decide +kernel)
theorem tG_bitOfCommittedKey : Cond.static ⟨"LogBroker$Log", "bitOfCommittedKey", "(LLogBroker$Entry;)I"⟩ ∈ zTs := zTs_in (by decide +kernel) (by decide +kernel)
theorem kG_bitOfCommittedKey : Cond.code ⟨"LogBroker$Log", "bitOfCommittedKey", "(LLogBroker$Entry;)I"⟩ prog_4_method_12_code 1 (some FieldType.int) ∈ zTs := zTs_in (by decide +kernel) (by decide +kernel)
theorem lL_113 : Cond.methodLink "LogBrokerLaw" 113 ⟨"LogBrokerLaw", "join", "(LLogBroker;III[J)I"⟩ ∈ zTs := zTs_in (by decide +kernel) (by decide +kernel)
theorem tL_join : Cond.static ⟨"LogBrokerLaw", "join", "(LLogBroker;III[J)I"⟩ ∈ zTs := zTs_in (by decide +kernel) (by decide +kernel)
theorem kL_join : Cond.codeWith ⟨"LogBrokerLaw", "join", "(LLogBroker;III[J)I"⟩ method_11_code 6 (some FieldType.int) [(0, 12, 15, 13), (0, 12, 19, 27)] ∈ zTs := zTs_in (by decide +kernel) (by decide +kernel)
theorem lL_51 : Cond.methodLink "LogBrokerLaw" 51 ⟨"LogBroker", "join", "(III)I"⟩ ∈ zTs := zTs_in (by decide +kernel) (by decide +kernel)
theorem jB_join : Cond.instanceMethod ⟨"LogBroker", "join", "(III)I"⟩ ∈ zTs := zTs_in (by decide +kernel) (by decide +kernel)
theorem sB_join : Cond.selects "LogBroker" ⟨"LogBroker", "join", "(III)I"⟩ ⟨"LogBroker", "join", "(III)I"⟩ ∈ zTs := zTs_in (by decide +kernel) (by decide +kernel)
theorem kB_join : Cond.code ⟨"LogBroker", "join", "(III)I"⟩ prog_1_method_10_code 4 (some FieldType.int) ∈ zTs := zTs_in (by decide +kernel) (by decide +kernel)
theorem lB_200 : Cond.methodLink "LogBroker" 200 ⟨"LogBroker$Group", "changeMember", "(II[I)I"⟩ ∈ zTs := zTs_in (by decide +kernel) (by decide +kernel)
theorem jH_changeMember : Cond.instanceMethod ⟨"LogBroker$Group", "changeMember", "(II[I)I"⟩ ∈ zTs := zTs_in (by decide +kernel) (by decide +kernel)
theorem sH_changeMember : Cond.selects "LogBroker$Group" ⟨"LogBroker$Group", "changeMember", "(II[I)I"⟩ ⟨"LogBroker$Group", "changeMember", "(II[I)I"⟩ ∈ zTs := zTs_in (by decide +kernel) (by decide +kernel)
theorem kH_changeMember : Cond.code ⟨"LogBroker$Group", "changeMember", "(II[I)I"⟩ prog_3_method_2_code 5 (some FieldType.int) ∈ zTs := zTs_in (by decide +kernel) (by decide +kernel)
theorem lH_34 : Cond.methodLink "LogBroker$Group" 34 ⟨"LogBroker$Group", "shareOut", "(II)V"⟩ ∈ zTs := zTs_in (by decide +kernel) (by decide +kernel)
theorem jH_shareOut : Cond.instanceMethod ⟨"LogBroker$Group", "shareOut", "(II)V"⟩ ∈ zTs := zTs_in (by decide +kernel) (by decide +kernel)
theorem sH_shareOut : Cond.selects "LogBroker$Group" ⟨"LogBroker$Group", "shareOut", "(II)V"⟩ ⟨"LogBroker$Group", "shareOut", "(II)V"⟩ ∈ zTs := zTs_in (by decide +kernel) (by decide +kernel)
theorem kH_shareOut : Cond.code ⟨"LogBroker$Group", "shareOut", "(II)V"⟩ prog_3_method_3_code 8 none ∈ zTs := zTs_in (by decide +kernel) (by decide +kernel)
theorem lH_44 : Cond.methodLink "LogBroker$Group" 44 ⟨"LogBroker$Group", "membersFor", "(I)I"⟩ ∈ zTs := zTs_in (by decide +kernel) (by decide +kernel)
theorem jH_membersFor : Cond.instanceMethod ⟨"LogBroker$Group", "membersFor", "(I)I"⟩ ∈ zTs := zTs_in (by decide +kernel) (by decide +kernel)
theorem sH_membersFor : Cond.selects "LogBroker$Group" ⟨"LogBroker$Group", "membersFor", "(I)I"⟩ ⟨"LogBroker$Group", "membersFor", "(I)I"⟩ ∈ zTs := zTs_in (by decide +kernel) (by decide +kernel)
theorem kH_membersFor : Cond.code ⟨"LogBroker$Group", "membersFor", "(I)I"⟩ prog_3_method_4_code 4 (some FieldType.int) ∈ zTs := zTs_in (by decide +kernel) (by decide +kernel)
theorem lH_38 : Cond.methodLink "LogBroker$Group" 38 ⟨"java/lang/System", "arraycopy", "(Ljava/lang/Object;ILjava/lang/Object;II)V"⟩ ∈ zTs := zTs_in (by decide +kernel) (by decide +kernel)
theorem lL_116 : Cond.methodLink "LogBrokerLaw" 116 ⟨"LogBrokerLaw", "leave", "(LLogBroker;II[J)I"⟩ ∈ zTs := zTs_in (by decide +kernel) (by decide +kernel)
theorem tL_leave : Cond.static ⟨"LogBrokerLaw", "leave", "(LLogBroker;II[J)I"⟩ ∈ zTs := zTs_in (by decide +kernel) (by decide +kernel)
theorem kL_leave : Cond.codeWith ⟨"LogBrokerLaw", "leave", "(LLogBroker;II[J)I"⟩ method_12_code 5 (some FieldType.int) [(0, 10, 13, 13), (0, 10, 17, 27)] ∈ zTs := zTs_in (by decide +kernel) (by decide +kernel)
theorem lL_54 : Cond.methodLink "LogBrokerLaw" 54 ⟨"LogBroker", "leave", "(II)I"⟩ ∈ zTs := zTs_in (by decide +kernel) (by decide +kernel)
theorem jB_leave : Cond.instanceMethod ⟨"LogBroker", "leave", "(II)I"⟩ ∈ zTs := zTs_in (by decide +kernel) (by decide +kernel)
theorem sB_leave : Cond.selects "LogBroker" ⟨"LogBroker", "leave", "(II)I"⟩ ⟨"LogBroker", "leave", "(II)I"⟩ ∈ zTs := zTs_in (by decide +kernel) (by decide +kernel)
theorem kB_leave : Cond.code ⟨"LogBroker", "leave", "(II)I"⟩ prog_1_method_11_code 3 (some FieldType.int) ∈ zTs := zTs_in (by decide +kernel) (by decide +kernel)
theorem lL_119 : Cond.methodLink "LogBrokerLaw" 119 ⟨"LogBrokerLaw", "owner", "(LLogBroker;II[J)I"⟩ ∈ zTs := zTs_in (by decide +kernel) (by decide +kernel)
theorem tL_owner : Cond.static ⟨"LogBrokerLaw", "owner", "(LLogBroker;II[J)I"⟩ ∈ zTs := zTs_in (by decide +kernel) (by decide +kernel)
theorem kL_owner : Cond.codeWith ⟨"LogBrokerLaw", "owner", "(LLogBroker;II[J)I"⟩ method_13_code 5 (some FieldType.int) [(0, 10, 13, 13), (0, 10, 17, 27)] ∈ zTs := zTs_in (by decide +kernel) (by decide +kernel)
theorem lL_57 : Cond.methodLink "LogBrokerLaw" 57 ⟨"LogBroker", "owner", "(II)I"⟩ ∈ zTs := zTs_in (by decide +kernel) (by decide +kernel)
theorem jB_owner : Cond.instanceMethod ⟨"LogBroker", "owner", "(II)I"⟩ ∈ zTs := zTs_in (by decide +kernel) (by decide +kernel)
theorem sB_owner : Cond.selects "LogBroker" ⟨"LogBroker", "owner", "(II)I"⟩ ⟨"LogBroker", "owner", "(II)I"⟩ ∈ zTs := zTs_in (by decide +kernel) (by decide +kernel)
theorem kB_owner : Cond.code ⟨"LogBroker", "owner", "(II)I"⟩ prog_1_method_12_code 3 (some FieldType.int) ∈ zTs := zTs_in (by decide +kernel) (by decide +kernel)
theorem lL_122 : Cond.methodLink "LogBrokerLaw" 122 ⟨"LogBrokerLaw", "poll", "(LLogBroker;IIII[J)I"⟩ ∈ zTs := zTs_in (by decide +kernel) (by decide +kernel)
theorem tL_poll : Cond.static ⟨"LogBrokerLaw", "poll", "(LLogBroker;IIII[J)I"⟩ ∈ zTs := zTs_in (by decide +kernel) (by decide +kernel)
theorem kL_poll : Cond.codeWith ⟨"LogBrokerLaw", "poll", "(LLogBroker;IIII[J)I"⟩ method_14_code 7 (some FieldType.int) [(0, 14, 17, 13), (0, 14, 21, 27), (0, 14, 25, 15)] ∈ zTs := zTs_in (by decide +kernel) (by decide +kernel)
theorem lL_60 : Cond.methodLink "LogBrokerLaw" 60 ⟨"LogBroker", "poll", "(IIII)I"⟩ ∈ zTs := zTs_in (by decide +kernel) (by decide +kernel)
theorem jB_poll : Cond.instanceMethod ⟨"LogBroker", "poll", "(IIII)I"⟩ ∈ zTs := zTs_in (by decide +kernel) (by decide +kernel)
theorem sB_poll : Cond.selects "LogBroker" ⟨"LogBroker", "poll", "(IIII)I"⟩ ⟨"LogBroker", "poll", "(IIII)I"⟩ ∈ zTs := zTs_in (by decide +kernel) (by decide +kernel)
theorem kB_poll : Cond.code ⟨"LogBroker", "poll", "(IIII)I"⟩ prog_1_method_13_code 8 (some FieldType.int) ∈ zTs := zTs_in (by decide +kernel) (by decide +kernel)
theorem lB_212 : Cond.methodLink "LogBroker" 212 ⟨"LogBroker", "mustOwn", "(LLogBroker$Group;III)V"⟩ ∈ zTs := zTs_in (by decide +kernel) (by decide +kernel)
theorem tB_mustOwn : Cond.static ⟨"LogBroker", "mustOwn", "(LLogBroker$Group;III)V"⟩ ∈ zTs := zTs_in (by decide +kernel) (by decide +kernel)
theorem kB_mustOwn : Cond.code ⟨"LogBroker", "mustOwn", "(LLogBroker$Group;III)V"⟩ prog_1_method_23_code 4 none ∈ zTs := zTs_in (by decide +kernel) (by decide +kernel)
theorem lB_219 : Cond.methodLink "LogBroker" 219 ⟨"java/lang/Math", "max", "(II)I"⟩ ∈ zTs := zTs_in (by decide +kernel) (by decide +kernel)
theorem lL_126 : Cond.methodLink "LogBrokerLaw" 126 ⟨"LogBrokerLaw", "keep", "(LLogBroker;IIIII)I"⟩ ∈ zTs := zTs_in (by decide +kernel) (by decide +kernel)
theorem tL_keep : Cond.static ⟨"LogBrokerLaw", "keep", "(LLogBroker;IIIII)I"⟩ ∈ zTs := zTs_in (by decide +kernel) (by decide +kernel)
theorem kL_keep : Cond.codeWith ⟨"LogBrokerLaw", "keep", "(LLogBroker;IIIII)I"⟩ method_15_code 7 (some FieldType.int) [(0, 11, 14, 13), (0, 11, 18, 15)] ∈ zTs := zTs_in (by decide +kernel) (by decide +kernel)
theorem lL_64 : Cond.methodLink "LogBrokerLaw" 64 ⟨"LogBroker", "keep", "(IIIII)V"⟩ ∈ zTs := zTs_in (by decide +kernel) (by decide +kernel)
theorem jB_keep : Cond.instanceMethod ⟨"LogBroker", "keep", "(IIIII)V"⟩ ∈ zTs := zTs_in (by decide +kernel) (by decide +kernel)
theorem sB_keep : Cond.selects "LogBroker" ⟨"LogBroker", "keep", "(IIIII)V"⟩ ⟨"LogBroker", "keep", "(IIIII)V"⟩ ∈ zTs := zTs_in (by decide +kernel) (by decide +kernel)
theorem kB_keep : Cond.code ⟨"LogBroker", "keep", "(IIIII)V"⟩ prog_1_method_14_code 7 none ∈ zTs := zTs_in (by decide +kernel) (by decide +kernel)
theorem lL_130 : Cond.methodLink "LogBrokerLaw" 130 ⟨"LogBrokerLaw", "log", "(LLogBroker;II[J)I"⟩ ∈ zTs := zTs_in (by decide +kernel) (by decide +kernel)
theorem tL_log : Cond.static ⟨"LogBrokerLaw", "log", "(LLogBroker;II[J)I"⟩ ∈ zTs := zTs_in (by decide +kernel) (by decide +kernel)
theorem kL_log : Cond.codeWith ⟨"LogBrokerLaw", "log", "(LLogBroker;II[J)I"⟩ method_16_code 5 (some FieldType.int) [(0, 10, 13, 13)] ∈ zTs := zTs_in (by decide +kernel) (by decide +kernel)
theorem lL_68 : Cond.methodLink "LogBrokerLaw" 68 ⟨"LogBroker", "log", "(II)I"⟩ ∈ zTs := zTs_in (by decide +kernel) (by decide +kernel)
theorem jB_log : Cond.instanceMethod ⟨"LogBroker", "log", "(II)I"⟩ ∈ zTs := zTs_in (by decide +kernel) (by decide +kernel)
theorem sB_log : Cond.selects "LogBroker" ⟨"LogBroker", "log", "(II)I"⟩ ⟨"LogBroker", "log", "(II)I"⟩ ∈ zTs := zTs_in (by decide +kernel) (by decide +kernel)
theorem kB_log : Cond.code ⟨"LogBroker", "log", "(II)I"⟩ prog_1_method_15_code 4 (some FieldType.int) ∈ zTs := zTs_in (by decide +kernel) (by decide +kernel)
theorem lB_227 : Cond.methodLink "LogBroker" 227 ⟨"LogBroker$Log", "stableOffset", "()I"⟩ ∈ zTs := zTs_in (by decide +kernel) (by decide +kernel)
theorem lL_72 : Cond.classLink "LogBrokerLaw" 72 "LogBrokerModel" ∈ zTs := zTs_in (by decide +kernel) (by decide +kernel)
theorem n_LogBrokerModel : Cond.instantiable "LogBrokerModel" 28 ∈ zTs := zTs_in (by decide +kernel) (by decide +kernel)
theorem lL_74 : Cond.methodLink "LogBrokerLaw" 74 ⟨"LogBrokerModel", "<init>", "()V"⟩ ∈ zTs := zTs_in (by decide +kernel) (by decide +kernel)
theorem jM_init : Cond.instanceMethod ⟨"LogBrokerModel", "<init>", "()V"⟩ ∈ zTs := zTs_in (by decide +kernel) (by decide +kernel)
theorem kM_init : Cond.code ⟨"LogBrokerModel", "<init>", "()V"⟩ prog_7_method_1_code 2 none ∈ zTs := zTs_in (by decide +kernel) (by decide +kernel)
theorem lM_1 : Cond.methodLink "LogBrokerModel" 1 ⟨"java/lang/Object", "<init>", "()V"⟩ ∈ zTs := zTs_in (by decide +kernel) (by decide +kernel)
theorem lM_7 : Cond.fieldLink "LogBrokerModel" 7 "LogBrokerModel" "partitions" "[I" ∈ zTs := zTs_in (by decide +kernel) (by decide +kernel)
theorem lM_13 : Cond.fieldLink "LogBrokerModel" 13 "LogBrokerModel" "segment" "[I" ∈ zTs := zTs_in (by decide +kernel) (by decide +kernel)
theorem lM_16 : Cond.fieldLink "LogBrokerModel" 16 "LogBrokerModel" "closedMost" "[I" ∈ zTs := zTs_in (by decide +kernel) (by decide +kernel)
theorem lM_19 : Cond.fieldLink "LogBrokerModel" 19 "LogBrokerModel" "compacted" "[Z" ∈ zTs := zTs_in (by decide +kernel) (by decide +kernel)
theorem lM_23 : Cond.fieldLink "LogBrokerModel" 23 "LogBrokerModel" "start" "[I" ∈ zTs := zTs_in (by decide +kernel) (by decide +kernel)
theorem lM_26 : Cond.fieldLink "LogBrokerModel" 26 "LogBrokerModel" "end" "[I" ∈ zTs := zTs_in (by decide +kernel) (by decide +kernel)
theorem lM_29 : Cond.fieldLink "LogBrokerModel" 29 "LogBrokerModel" "kind" "[I" ∈ zTs := zTs_in (by decide +kernel) (by decide +kernel)
theorem lM_32 : Cond.fieldLink "LogBrokerModel" 32 "LogBrokerModel" "key" "[I" ∈ zTs := zTs_in (by decide +kernel) (by decide +kernel)
theorem lM_35 : Cond.fieldLink "LogBrokerModel" 35 "LogBrokerModel" "value" "[I" ∈ zTs := zTs_in (by decide +kernel) (by decide +kernel)
theorem lM_38 : Cond.fieldLink "LogBrokerModel" 38 "LogBrokerModel" "producer" "[I" ∈ zTs := zTs_in (by decide +kernel) (by decide +kernel)
theorem lM_41 : Cond.fieldLink "LogBrokerModel" 41 "LogBrokerModel" "state" "[I" ∈ zTs := zTs_in (by decide +kernel) (by decide +kernel)
theorem lM_44 : Cond.fieldLink "LogBrokerModel" 44 "LogBrokerModel" "writer" "[I" ∈ zTs := zTs_in (by decide +kernel) (by decide +kernel)
theorem lM_47 : Cond.fieldLink "LogBrokerModel" 47 "LogBrokerModel" "belongs" "[I" ∈ zTs := zTs_in (by decide +kernel) (by decide +kernel)
theorem lM_50 : Cond.fieldLink "LogBrokerModel" 50 "LogBrokerModel" "expected" "[I" ∈ zTs := zTs_in (by decide +kernel) (by decide +kernel)
theorem lM_53 : Cond.fieldLink "LogBrokerModel" 53 "LogBrokerModel" "offsets" "[I" ∈ zTs := zTs_in (by decide +kernel) (by decide +kernel)
theorem lM_56 : Cond.fieldLink "LogBrokerModel" 56 "LogBrokerModel" "active" "[Z" ∈ zTs := zTs_in (by decide +kernel) (by decide +kernel)
theorem lM_59 : Cond.fieldLink "LogBrokerModel" 59 "LogBrokerModel" "current" "[I" ∈ zTs := zTs_in (by decide +kernel) (by decide +kernel)
theorem lM_62 : Cond.fieldLink "LogBrokerModel" 62 "LogBrokerModel" "opened" "[I" ∈ zTs := zTs_in (by decide +kernel) (by decide +kernel)
theorem lM_65 : Cond.fieldLink "LogBrokerModel" 65 "LogBrokerModel" "topicOf" "[I" ∈ zTs := zTs_in (by decide +kernel) (by decide +kernel)
theorem lM_68 : Cond.fieldLink "LogBrokerModel" 68 "LogBrokerModel" "generation" "[I" ∈ zTs := zTs_in (by decide +kernel) (by decide +kernel)
theorem lM_71 : Cond.fieldLink "LogBrokerModel" 71 "LogBrokerModel" "position" "[I" ∈ zTs := zTs_in (by decide +kernel) (by decide +kernel)
theorem lM_74 : Cond.fieldLink "LogBrokerModel" 74 "LogBrokerModel" "kept" "[I" ∈ zTs := zTs_in (by decide +kernel) (by decide +kernel)
theorem lM_94 : Cond.fieldLink "LogBrokerModel" 94 "LogBrokerModel" "written" "I" ∈ zTs := zTs_in (by decide +kernel) (by decide +kernel)
theorem lM_129 : Cond.fieldLink "LogBrokerModel" 129 "LogBrokerModel" "repeats" "I" ∈ zTs := zTs_in (by decide +kernel) (by decide +kernel)
theorem lM_109 : Cond.fieldLink "LogBrokerModel" 109 "LogBrokerModel" "markers" "I" ∈ zTs := zTs_in (by decide +kernel) (by decide +kernel)
theorem lM_91 : Cond.fieldLink "LogBrokerModel" 91 "LogBrokerModel" "shortened" "I" ∈ zTs := zTs_in (by decide +kernel) (by decide +kernel)
theorem lM_140 : Cond.fieldLink "LogBrokerModel" 140 "LogBrokerModel" "compactedAway" "I" ∈ zTs := zTs_in (by decide +kernel) (by decide +kernel)
theorem lM_77 : Cond.fieldLink "LogBrokerModel" 77 "LogBrokerModel" "thrown" "I" ∈ zTs := zTs_in (by decide +kernel) (by decide +kernel)
theorem lL_81 : Cond.methodLink "LogBrokerLaw" 81 ⟨"LogBrokerModel", "thrown", "()I"⟩ ∈ zTs := zTs_in (by decide +kernel) (by decide +kernel)
theorem jM_thrown : Cond.instanceMethod ⟨"LogBrokerModel", "thrown", "()I"⟩ ∈ zTs := zTs_in (by decide +kernel) (by decide +kernel)
theorem sM_thrown : Cond.selects "LogBrokerModel" ⟨"LogBrokerModel", "thrown", "()I"⟩ ⟨"LogBrokerModel", "thrown", "()I"⟩ ∈ zTs := zTs_in (by decide +kernel) (by decide +kernel)
theorem kM_thrown : Cond.code ⟨"LogBrokerModel", "thrown", "()I"⟩ prog_7_method_2_code 1 (some FieldType.int) ∈ zTs := zTs_in (by decide +kernel) (by decide +kernel)
theorem lL_80 : Cond.methodLink "LogBrokerLaw" 80 ⟨"LogBrokerModel", "topic", "(IIIIZ)V"⟩ ∈ zTs := zTs_in (by decide +kernel) (by decide +kernel)
theorem jM_topic : Cond.instanceMethod ⟨"LogBrokerModel", "topic", "(IIIIZ)V"⟩ ∈ zTs := zTs_in (by decide +kernel) (by decide +kernel)
theorem sM_topic : Cond.selects "LogBrokerModel" ⟨"LogBrokerModel", "topic", "(IIIIZ)V"⟩ ⟨"LogBrokerModel", "topic", "(IIIIZ)V"⟩ ∈ zTs := zTs_in (by decide +kernel) (by decide +kernel)
theorem kM_topic : Cond.code ⟨"LogBrokerModel", "topic", "(IIIIZ)V"⟩ prog_7_method_5_code 7 none ∈ zTs := zTs_in (by decide +kernel) (by decide +kernel)
theorem lL_88 : Cond.methodLink "LogBrokerLaw" 88 ⟨"LogBrokerModel", "open", "(II)I"⟩ ∈ zTs := zTs_in (by decide +kernel) (by decide +kernel)
theorem jM_open : Cond.instanceMethod ⟨"LogBrokerModel", "open", "(II)I"⟩ ∈ zTs := zTs_in (by decide +kernel) (by decide +kernel)
theorem sM_open : Cond.selects "LogBrokerModel" ⟨"LogBrokerModel", "open", "(II)I"⟩ ⟨"LogBrokerModel", "open", "(II)I"⟩ ∈ zTs := zTs_in (by decide +kernel) (by decide +kernel)
theorem kM_open : Cond.code ⟨"LogBrokerModel", "open", "(II)I"⟩ prog_7_method_14_code 7 (some FieldType.int) ∈ zTs := zTs_in (by decide +kernel) (by decide +kernel)
theorem lM_112 : Cond.methodLink "LogBrokerModel" 112 ⟨"LogBrokerModel", "badSession", "(I)Z"⟩ ∈ zTs := zTs_in (by decide +kernel) (by decide +kernel)
theorem jM_badSession : Cond.instanceMethod ⟨"LogBrokerModel", "badSession", "(I)Z"⟩ ∈ zTs := zTs_in (by decide +kernel) (by decide +kernel)
theorem kM_badSession : Cond.code ⟨"LogBrokerModel", "badSession", "(I)Z"⟩ prog_7_method_4_code 2 (some FieldType.boolean) ∈ zTs := zTs_in (by decide +kernel) (by decide +kernel)
theorem lM_116 : Cond.methodLink "LogBrokerModel" 116 ⟨"LogBrokerModel", "roomToEnd", "(I)Z"⟩ ∈ zTs := zTs_in (by decide +kernel) (by decide +kernel)
theorem jM_roomToEnd : Cond.instanceMethod ⟨"LogBrokerModel", "roomToEnd", "(I)Z"⟩ ∈ zTs := zTs_in (by decide +kernel) (by decide +kernel)
theorem kM_roomToEnd : Cond.code ⟨"LogBrokerModel", "roomToEnd", "(I)Z"⟩ prog_7_method_12_code 3 (some FieldType.boolean) ∈ zTs := zTs_in (by decide +kernel) (by decide +kernel)
theorem lM_101 : Cond.methodLink "LogBrokerModel" 101 ⟨"LogBrokerModel", "takesPart", "(II)Z"⟩ ∈ zTs := zTs_in (by decide +kernel) (by decide +kernel)
theorem jM_takesPart : Cond.instanceMethod ⟨"LogBrokerModel", "takesPart", "(II)Z"⟩ ∈ zTs := zTs_in (by decide +kernel) (by decide +kernel)
theorem kM_takesPart : Cond.code ⟨"LogBrokerModel", "takesPart", "(II)Z"⟩ prog_7_method_11_code 5 (some FieldType.boolean) ∈ zTs := zTs_in (by decide +kernel) (by decide +kernel)
theorem lM_119 : Cond.methodLink "LogBrokerModel" 119 ⟨"LogBrokerModel", "finish", "(IZ)I"⟩ ∈ zTs := zTs_in (by decide +kernel) (by decide +kernel)
theorem jM_finish : Cond.instanceMethod ⟨"LogBrokerModel", "finish", "(IZ)I"⟩ ∈ zTs := zTs_in (by decide +kernel) (by decide +kernel)
theorem kM_finish : Cond.code ⟨"LogBrokerModel", "finish", "(IZ)I"⟩ prog_7_method_13_code 6 (some FieldType.int) ∈ zTs := zTs_in (by decide +kernel) (by decide +kernel)
theorem lM_105 : Cond.methodLink "LogBrokerModel" 105 ⟨"LogBrokerModel", "write", "(IIIII)I"⟩ ∈ zTs := zTs_in (by decide +kernel) (by decide +kernel)
theorem jM_write : Cond.instanceMethod ⟨"LogBrokerModel", "write", "(IIIII)I"⟩ ∈ zTs := zTs_in (by decide +kernel) (by decide +kernel)
theorem kM_write : Cond.code ⟨"LogBrokerModel", "write", "(IIIII)I"⟩ prog_7_method_10_code 7 (some FieldType.int) ∈ zTs := zTs_in (by decide +kernel) (by decide +kernel)
theorem lM_97 : Cond.methodLink "LogBrokerModel" 97 ⟨"LogBrokerModel", "shorten", "(I)V"⟩ ∈ zTs := zTs_in (by decide +kernel) (by decide +kernel)
theorem jM_shorten : Cond.instanceMethod ⟨"LogBrokerModel", "shorten", "(I)V"⟩ ∈ zTs := zTs_in (by decide +kernel) (by decide +kernel)
theorem kM_shorten : Cond.code ⟨"LogBrokerModel", "shorten", "(I)V"⟩ prog_7_method_9_code 4 none ∈ zTs := zTs_in (by decide +kernel) (by decide +kernel)
theorem lM_85 : Cond.methodLink "LogBrokerModel" 85 ⟨"LogBrokerModel", "closed", "(I)I"⟩ ∈ zTs := zTs_in (by decide +kernel) (by decide +kernel)
theorem jM_closed : Cond.instanceMethod ⟨"LogBrokerModel", "closed", "(I)I"⟩ ∈ zTs := zTs_in (by decide +kernel) (by decide +kernel)
theorem kM_closed : Cond.code ⟨"LogBrokerModel", "closed", "(I)I"⟩ prog_7_method_8_code 2 (some FieldType.int) ∈ zTs := zTs_in (by decide +kernel) (by decide +kernel)
theorem lM_81 : Cond.methodLink "LogBrokerModel" 81 ⟨"LogBrokerModel", "openBase", "(I)I"⟩ ∈ zTs := zTs_in (by decide +kernel) (by decide +kernel)
theorem jM_openBase : Cond.instanceMethod ⟨"LogBrokerModel", "openBase", "(I)I"⟩ ∈ zTs := zTs_in (by decide +kernel) (by decide +kernel)
theorem kM_openBase : Cond.code ⟨"LogBrokerModel", "openBase", "(I)I"⟩ prog_7_method_7_code 2 (some FieldType.int) ∈ zTs := zTs_in (by decide +kernel) (by decide +kernel)
theorem lM_88 : Cond.methodLink "LogBrokerModel" 88 ⟨"LogBrokerModel", "stable", "(I)I"⟩ ∈ zTs := zTs_in (by decide +kernel) (by decide +kernel)
theorem jM_stable : Cond.instanceMethod ⟨"LogBrokerModel", "stable", "(I)I"⟩ ∈ zTs := zTs_in (by decide +kernel) (by decide +kernel)
theorem kM_stable : Cond.code ⟨"LogBrokerModel", "stable", "(I)I"⟩ prog_7_method_6_code 3 (some FieldType.int) ∈ zTs := zTs_in (by decide +kernel) (by decide +kernel)
theorem lL_92 : Cond.methodLink "LogBrokerLaw" 92 ⟨"LogBrokerModel", "produce", "(IIIII)I"⟩ ∈ zTs := zTs_in (by decide +kernel) (by decide +kernel)
theorem jM_produce : Cond.instanceMethod ⟨"LogBrokerModel", "produce", "(IIIII)I"⟩ ∈ zTs := zTs_in (by decide +kernel) (by decide +kernel)
theorem sM_produce : Cond.selects "LogBrokerModel" ⟨"LogBrokerModel", "produce", "(IIIII)I"⟩ ⟨"LogBrokerModel", "produce", "(IIIII)I"⟩ ∈ zTs := zTs_in (by decide +kernel) (by decide +kernel)
theorem kM_produce : Cond.code ⟨"LogBrokerModel", "produce", "(IIIII)I"⟩ prog_7_method_16_code 9 (some FieldType.int) ∈ zTs := zTs_in (by decide +kernel) (by decide +kernel)
theorem lM_123 : Cond.methodLink "LogBrokerModel" 123 ⟨"LogBrokerModel", "badLog", "(I)Z"⟩ ∈ zTs := zTs_in (by decide +kernel) (by decide +kernel)
theorem jM_badLog : Cond.instanceMethod ⟨"LogBrokerModel", "badLog", "(I)Z"⟩ ∈ zTs := zTs_in (by decide +kernel) (by decide +kernel)
theorem kM_badLog : Cond.code ⟨"LogBrokerModel", "badLog", "(I)Z"⟩ prog_7_method_3_code 2 (some FieldType.boolean) ∈ zTs := zTs_in (by decide +kernel) (by decide +kernel)
theorem lM_126 : Cond.methodLink "LogBrokerModel" 126 ⟨"LogBrokerModel", "fenced", "(I)Z"⟩ ∈ zTs := zTs_in (by decide +kernel) (by decide +kernel)
theorem jM_fenced : Cond.instanceMethod ⟨"LogBrokerModel", "fenced", "(I)Z"⟩ ∈ zTs := zTs_in (by decide +kernel) (by decide +kernel)
theorem kM_fenced : Cond.code ⟨"LogBrokerModel", "fenced", "(I)Z"⟩ prog_7_method_15_code 2 (some FieldType.boolean) ∈ zTs := zTs_in (by decide +kernel) (by decide +kernel)
theorem lL_96 : Cond.methodLink "LogBrokerLaw" 96 ⟨"LogBrokerModel", "begin", "(I)V"⟩ ∈ zTs := zTs_in (by decide +kernel) (by decide +kernel)
theorem jM_begin : Cond.instanceMethod ⟨"LogBrokerModel", "begin", "(I)V"⟩ ∈ zTs := zTs_in (by decide +kernel) (by decide +kernel)
theorem sM_begin : Cond.selects "LogBrokerModel" ⟨"LogBrokerModel", "begin", "(I)V"⟩ ⟨"LogBrokerModel", "begin", "(I)V"⟩ ∈ zTs := zTs_in (by decide +kernel) (by decide +kernel)
theorem kM_begin : Cond.code ⟨"LogBrokerModel", "begin", "(I)V"⟩ prog_7_method_17_code 2 none ∈ zTs := zTs_in (by decide +kernel) (by decide +kernel)
theorem lL_100 : Cond.methodLink "LogBrokerLaw" 100 ⟨"LogBrokerModel", "end", "(IZ)I"⟩ ∈ zTs := zTs_in (by decide +kernel) (by decide +kernel)
theorem jM_end : Cond.instanceMethod ⟨"LogBrokerModel", "end", "(IZ)I"⟩ ∈ zTs := zTs_in (by decide +kernel) (by decide +kernel)
theorem sM_end : Cond.selects "LogBrokerModel" ⟨"LogBrokerModel", "end", "(IZ)I"⟩ ⟨"LogBrokerModel", "end", "(IZ)I"⟩ ∈ zTs := zTs_in (by decide +kernel) (by decide +kernel)
theorem kM_end : Cond.code ⟨"LogBrokerModel", "end", "(IZ)I"⟩ prog_7_method_18_code 3 (some FieldType.int) ∈ zTs := zTs_in (by decide +kernel) (by decide +kernel)
theorem lL_104 : Cond.methodLink "LogBrokerLaw" 104 ⟨"LogBrokerModel", "fetch", "(IIZ)I"⟩ ∈ zTs := zTs_in (by decide +kernel) (by decide +kernel)
theorem jM_fetch : Cond.instanceMethod ⟨"LogBrokerModel", "fetch", "(IIZ)I"⟩ ∈ zTs := zTs_in (by decide +kernel) (by decide +kernel)
theorem sM_fetch : Cond.selects "LogBrokerModel" ⟨"LogBrokerModel", "fetch", "(IIZ)I"⟩ ⟨"LogBrokerModel", "fetch", "(IIZ)I"⟩ ∈ zTs := zTs_in (by decide +kernel) (by decide +kernel)
theorem kM_fetch : Cond.code ⟨"LogBrokerModel", "fetch", "(IIZ)I"⟩ prog_7_method_20_code 4 (some FieldType.int) ∈ zTs := zTs_in (by decide +kernel) (by decide +kernel)
theorem lM_132 : Cond.methodLink "LogBrokerModel" 132 ⟨"LogBrokerModel", "search", "(IIZ)I"⟩ ∈ zTs := zTs_in (by decide +kernel) (by decide +kernel)
theorem jM_search : Cond.instanceMethod ⟨"LogBrokerModel", "search", "(IIZ)I"⟩ ∈ zTs := zTs_in (by decide +kernel) (by decide +kernel)
theorem kM_search : Cond.code ⟨"LogBrokerModel", "search", "(IIZ)I"⟩ prog_7_method_19_code 7 (some FieldType.int) ∈ zTs := zTs_in (by decide +kernel) (by decide +kernel)
theorem lL_108 : Cond.methodLink "LogBrokerLaw" 108 ⟨"LogBrokerModel", "told", "(III)I"⟩ ∈ zTs := zTs_in (by decide +kernel) (by decide +kernel)
theorem jM_told : Cond.instanceMethod ⟨"LogBrokerModel", "told", "(III)I"⟩ ∈ zTs := zTs_in (by decide +kernel) (by decide +kernel)
theorem sM_told : Cond.selects "LogBrokerModel" ⟨"LogBrokerModel", "told", "(III)I"⟩ ⟨"LogBrokerModel", "told", "(III)I"⟩ ∈ zTs := zTs_in (by decide +kernel) (by decide +kernel)
theorem kM_told : Cond.code ⟨"LogBrokerModel", "told", "(III)I"⟩ prog_7_method_21_code 5 (some FieldType.int) ∈ zTs := zTs_in (by decide +kernel) (by decide +kernel)
theorem lL_112 : Cond.methodLink "LogBrokerLaw" 112 ⟨"LogBrokerModel", "compact", "(I)I"⟩ ∈ zTs := zTs_in (by decide +kernel) (by decide +kernel)
theorem jM_compact : Cond.instanceMethod ⟨"LogBrokerModel", "compact", "(I)I"⟩ ∈ zTs := zTs_in (by decide +kernel) (by decide +kernel)
theorem sM_compact : Cond.selects "LogBrokerModel" ⟨"LogBrokerModel", "compact", "(I)I"⟩ ⟨"LogBrokerModel", "compact", "(I)I"⟩ ∈ zTs := zTs_in (by decide +kernel) (by decide +kernel)
theorem kM_compact : Cond.code ⟨"LogBrokerModel", "compact", "(I)I"⟩ prog_7_method_23_code 7 (some FieldType.int) ∈ zTs := zTs_in (by decide +kernel) (by decide +kernel)
theorem lM_136 : Cond.methodLink "LogBrokerModel" 136 ⟨"LogBrokerModel", "newer", "(III)Z"⟩ ∈ zTs := zTs_in (by decide +kernel) (by decide +kernel)
theorem jM_newer : Cond.instanceMethod ⟨"LogBrokerModel", "newer", "(III)Z"⟩ ∈ zTs := zTs_in (by decide +kernel) (by decide +kernel)
theorem kM_newer : Cond.code ⟨"LogBrokerModel", "newer", "(III)Z"⟩ prog_7_method_22_code 6 (some FieldType.boolean) ∈ zTs := zTs_in (by decide +kernel) (by decide +kernel)
theorem lL_115 : Cond.methodLink "LogBrokerLaw" 115 ⟨"LogBrokerModel", "join", "(III)I"⟩ ∈ zTs := zTs_in (by decide +kernel) (by decide +kernel)
theorem jM_join : Cond.instanceMethod ⟨"LogBrokerModel", "join", "(III)I"⟩ ∈ zTs := zTs_in (by decide +kernel) (by decide +kernel)
theorem sM_join : Cond.selects "LogBrokerModel" ⟨"LogBrokerModel", "join", "(III)I"⟩ ⟨"LogBrokerModel", "join", "(III)I"⟩ ∈ zTs := zTs_in (by decide +kernel) (by decide +kernel)
theorem kM_join : Cond.code ⟨"LogBrokerModel", "join", "(III)I"⟩ prog_7_method_26_code 4 (some FieldType.int) ∈ zTs := zTs_in (by decide +kernel) (by decide +kernel)
theorem lM_143 : Cond.methodLink "LogBrokerModel" 143 ⟨"LogBrokerModel", "badMember", "(II)Z"⟩ ∈ zTs := zTs_in (by decide +kernel) (by decide +kernel)
theorem jM_badMember : Cond.instanceMethod ⟨"LogBrokerModel", "badMember", "(II)Z"⟩ ∈ zTs := zTs_in (by decide +kernel) (by decide +kernel)
theorem kM_badMember : Cond.code ⟨"LogBrokerModel", "badMember", "(II)Z"⟩ prog_7_method_24_code 3 (some FieldType.boolean) ∈ zTs := zTs_in (by decide +kernel) (by decide +kernel)
theorem lM_146 : Cond.methodLink "LogBrokerModel" 146 ⟨"LogBrokerModel", "change", "(I)I"⟩ ∈ zTs := zTs_in (by decide +kernel) (by decide +kernel)
theorem jM_change : Cond.instanceMethod ⟨"LogBrokerModel", "change", "(I)I"⟩ ∈ zTs := zTs_in (by decide +kernel) (by decide +kernel)
theorem kM_change : Cond.code ⟨"LogBrokerModel", "change", "(I)I"⟩ prog_7_method_25_code 3 (some FieldType.int) ∈ zTs := zTs_in (by decide +kernel) (by decide +kernel)
theorem lL_118 : Cond.methodLink "LogBrokerLaw" 118 ⟨"LogBrokerModel", "leave", "(II)I"⟩ ∈ zTs := zTs_in (by decide +kernel) (by decide +kernel)
theorem jM_leave : Cond.instanceMethod ⟨"LogBrokerModel", "leave", "(II)I"⟩ ∈ zTs := zTs_in (by decide +kernel) (by decide +kernel)
theorem sM_leave : Cond.selects "LogBrokerModel" ⟨"LogBrokerModel", "leave", "(II)I"⟩ ⟨"LogBrokerModel", "leave", "(II)I"⟩ ∈ zTs := zTs_in (by decide +kernel) (by decide +kernel)
theorem kM_leave : Cond.code ⟨"LogBrokerModel", "leave", "(II)I"⟩ prog_7_method_27_code 3 (some FieldType.int) ∈ zTs := zTs_in (by decide +kernel) (by decide +kernel)
theorem lL_121 : Cond.methodLink "LogBrokerLaw" 121 ⟨"LogBrokerModel", "owner", "(II)I"⟩ ∈ zTs := zTs_in (by decide +kernel) (by decide +kernel)
theorem jM_owner : Cond.instanceMethod ⟨"LogBrokerModel", "owner", "(II)I"⟩ ∈ zTs := zTs_in (by decide +kernel) (by decide +kernel)
theorem sM_owner : Cond.selects "LogBrokerModel" ⟨"LogBrokerModel", "owner", "(II)I"⟩ ⟨"LogBrokerModel", "owner", "(II)I"⟩ ∈ zTs := zTs_in (by decide +kernel) (by decide +kernel)
theorem kM_owner : Cond.code ⟨"LogBrokerModel", "owner", "(II)I"⟩ prog_7_method_29_code 3 (some FieldType.int) ∈ zTs := zTs_in (by decide +kernel) (by decide +kernel)
theorem lM_149 : Cond.methodLink "LogBrokerModel" 149 ⟨"LogBrokerModel", "whose", "(II)I"⟩ ∈ zTs := zTs_in (by decide +kernel) (by decide +kernel)
theorem jM_whose : Cond.instanceMethod ⟨"LogBrokerModel", "whose", "(II)I"⟩ ∈ zTs := zTs_in (by decide +kernel) (by decide +kernel)
theorem kM_whose : Cond.code ⟨"LogBrokerModel", "whose", "(II)I"⟩ prog_7_method_28_code 8 (some FieldType.int) ∈ zTs := zTs_in (by decide +kernel) (by decide +kernel)
theorem lL_125 : Cond.methodLink "LogBrokerLaw" 125 ⟨"LogBrokerModel", "poll", "(IIII)I"⟩ ∈ zTs := zTs_in (by decide +kernel) (by decide +kernel)
theorem jM_poll : Cond.instanceMethod ⟨"LogBrokerModel", "poll", "(IIII)I"⟩ ∈ zTs := zTs_in (by decide +kernel) (by decide +kernel)
theorem sM_poll : Cond.selects "LogBrokerModel" ⟨"LogBrokerModel", "poll", "(IIII)I"⟩ ⟨"LogBrokerModel", "poll", "(IIII)I"⟩ ∈ zTs := zTs_in (by decide +kernel) (by decide +kernel)
theorem kM_poll : Cond.code ⟨"LogBrokerModel", "poll", "(IIII)I"⟩ prog_7_method_30_code 7 (some FieldType.int) ∈ zTs := zTs_in (by decide +kernel) (by decide +kernel)
theorem lL_129 : Cond.methodLink "LogBrokerLaw" 129 ⟨"LogBrokerModel", "keep", "(IIIII)V"⟩ ∈ zTs := zTs_in (by decide +kernel) (by decide +kernel)
theorem jM_keep : Cond.instanceMethod ⟨"LogBrokerModel", "keep", "(IIIII)V"⟩ ∈ zTs := zTs_in (by decide +kernel) (by decide +kernel)
theorem sM_keep : Cond.selects "LogBrokerModel" ⟨"LogBrokerModel", "keep", "(IIIII)V"⟩ ⟨"LogBrokerModel", "keep", "(IIIII)V"⟩ ∈ zTs := zTs_in (by decide +kernel) (by decide +kernel)
theorem kM_keep : Cond.code ⟨"LogBrokerModel", "keep", "(IIIII)V"⟩ prog_7_method_31_code 7 none ∈ zTs := zTs_in (by decide +kernel) (by decide +kernel)
theorem lL_132 : Cond.methodLink "LogBrokerLaw" 132 ⟨"LogBrokerModel", "log", "(II)I"⟩ ∈ zTs := zTs_in (by decide +kernel) (by decide +kernel)
theorem jM_log : Cond.instanceMethod ⟨"LogBrokerModel", "log", "(II)I"⟩ ∈ zTs := zTs_in (by decide +kernel) (by decide +kernel)
theorem sM_log : Cond.selects "LogBrokerModel" ⟨"LogBrokerModel", "log", "(II)I"⟩ ⟨"LogBrokerModel", "log", "(II)I"⟩ ∈ zTs := zTs_in (by decide +kernel) (by decide +kernel)
theorem kM_log : Cond.code ⟨"LogBrokerModel", "log", "(II)I"⟩ prog_7_method_32_code 5 (some FieldType.int) ∈ zTs := zTs_in (by decide +kernel) (by decide +kernel)
theorem lL_136 : Cond.methodLink "LogBrokerLaw" 136 ⟨"LogBrokerModel", "count", "(I)I"⟩ ∈ zTs := zTs_in (by decide +kernel) (by decide +kernel)
theorem jM_count : Cond.instanceMethod ⟨"LogBrokerModel", "count", "(I)I"⟩ ∈ zTs := zTs_in (by decide +kernel) (by decide +kernel)
theorem sM_count : Cond.selects "LogBrokerModel" ⟨"LogBrokerModel", "count", "(I)I"⟩ ⟨"LogBrokerModel", "count", "(I)I"⟩ ∈ zTs := zTs_in (by decide +kernel) (by decide +kernel)
theorem kM_count : Cond.code ⟨"LogBrokerModel", "count", "(I)I"⟩ prog_7_method_33_code 4 (some FieldType.int) ∈ zTs := zTs_in (by decide +kernel) (by decide +kernel)
theorem sB_openTransactions : Cond.selects "LogBroker" ⟨"LogBroker", "openTransactions", "()I"⟩ ⟨"LogBroker", "openTransactions", "()I"⟩ ∈ zTs := zTs_in (by decide +kernel) (by decide +kernel)
theorem sB_abortOpenTransactionOf : Cond.selects "LogBroker" ⟨"LogBroker", "abortOpenTransactionOf", "(I)V"⟩ ⟨"LogBroker", "abortOpenTransactionOf", "(I)V"⟩ ∈ zTs := zTs_in (by decide +kernel) (by decide +kernel)
theorem sB_mustHaveRoomForMarkers : Cond.selects "LogBroker" ⟨"LogBroker", "mustHaveRoomForMarkers", "(I)V"⟩ ⟨"LogBroker", "mustHaveRoomForMarkers", "(I)V"⟩ ∈ zTs := zTs_in (by decide +kernel) (by decide +kernel)
theorem sB_awaitsMarker : Cond.selects "LogBroker" ⟨"LogBroker", "awaitsMarker", "(II)Z"⟩ ⟨"LogBroker", "awaitsMarker", "(II)Z"⟩ ∈ zTs := zTs_in (by decide +kernel) (by decide +kernel)
theorem sB_decide : Cond.selects "LogBroker" ⟨"LogBroker", "decide", "(LLogBroker$Session;Z)I"⟩ ⟨"LogBroker", "decide", "(LLogBroker$Session;Z)I"⟩ ∈ zTs := zTs_in (by decide +kernel) (by decide +kernel)
theorem sB_write : Cond.selects "LogBroker" ⟨"LogBroker", "write", "(LLogBroker$Log;LLogBroker$Entry;)I"⟩ ⟨"LogBroker", "write", "(LLogBroker$Log;LLogBroker$Entry;)I"⟩ ∈ zTs := zTs_in (by decide +kernel) (by decide +kernel)
theorem sB_isCurrent : Cond.selects "LogBroker" ⟨"LogBroker", "isCurrent", "(I)Z"⟩ ⟨"LogBroker", "isCurrent", "(I)Z"⟩ ∈ zTs := zTs_in (by decide +kernel) (by decide +kernel)
theorem sB_logAt : Cond.selects "LogBroker" ⟨"LogBroker", "logAt", "(I)LLogBroker$Log;"⟩ ⟨"LogBroker", "logAt", "(I)LLogBroker$Log;"⟩ ∈ zTs := zTs_in (by decide +kernel) (by decide +kernel)
theorem sB_openedSession : Cond.selects "LogBroker" ⟨"LogBroker", "openedSession", "(I)LLogBroker$Session;"⟩ ⟨"LogBroker", "openedSession", "(I)LLogBroker$Session;"⟩ ∈ zTs := zTs_in (by decide +kernel) (by decide +kernel)
theorem sB_mustBeCurrent : Cond.selects "LogBroker" ⟨"LogBroker", "mustBeCurrent", "(I)V"⟩ ⟨"LogBroker", "mustBeCurrent", "(I)V"⟩ ∈ zTs := zTs_in (by decide +kernel) (by decide +kernel)
theorem sM_badSession : Cond.selects "LogBrokerModel" ⟨"LogBrokerModel", "badSession", "(I)Z"⟩ ⟨"LogBrokerModel", "badSession", "(I)Z"⟩ ∈ zTs := zTs_in (by decide +kernel) (by decide +kernel)
theorem sM_roomToEnd : Cond.selects "LogBrokerModel" ⟨"LogBrokerModel", "roomToEnd", "(I)Z"⟩ ⟨"LogBrokerModel", "roomToEnd", "(I)Z"⟩ ∈ zTs := zTs_in (by decide +kernel) (by decide +kernel)
theorem sM_takesPart : Cond.selects "LogBrokerModel" ⟨"LogBrokerModel", "takesPart", "(II)Z"⟩ ⟨"LogBrokerModel", "takesPart", "(II)Z"⟩ ∈ zTs := zTs_in (by decide +kernel) (by decide +kernel)
theorem sM_finish : Cond.selects "LogBrokerModel" ⟨"LogBrokerModel", "finish", "(IZ)I"⟩ ⟨"LogBrokerModel", "finish", "(IZ)I"⟩ ∈ zTs := zTs_in (by decide +kernel) (by decide +kernel)
theorem sM_write : Cond.selects "LogBrokerModel" ⟨"LogBrokerModel", "write", "(IIIII)I"⟩ ⟨"LogBrokerModel", "write", "(IIIII)I"⟩ ∈ zTs := zTs_in (by decide +kernel) (by decide +kernel)
theorem sM_shorten : Cond.selects "LogBrokerModel" ⟨"LogBrokerModel", "shorten", "(I)V"⟩ ⟨"LogBrokerModel", "shorten", "(I)V"⟩ ∈ zTs := zTs_in (by decide +kernel) (by decide +kernel)
theorem sM_closed : Cond.selects "LogBrokerModel" ⟨"LogBrokerModel", "closed", "(I)I"⟩ ⟨"LogBrokerModel", "closed", "(I)I"⟩ ∈ zTs := zTs_in (by decide +kernel) (by decide +kernel)
theorem sM_openBase : Cond.selects "LogBrokerModel" ⟨"LogBrokerModel", "openBase", "(I)I"⟩ ⟨"LogBrokerModel", "openBase", "(I)I"⟩ ∈ zTs := zTs_in (by decide +kernel) (by decide +kernel)
theorem sM_stable : Cond.selects "LogBrokerModel" ⟨"LogBrokerModel", "stable", "(I)I"⟩ ⟨"LogBrokerModel", "stable", "(I)I"⟩ ∈ zTs := zTs_in (by decide +kernel) (by decide +kernel)
theorem sM_badLog : Cond.selects "LogBrokerModel" ⟨"LogBrokerModel", "badLog", "(I)Z"⟩ ⟨"LogBrokerModel", "badLog", "(I)Z"⟩ ∈ zTs := zTs_in (by decide +kernel) (by decide +kernel)
theorem sM_fenced : Cond.selects "LogBrokerModel" ⟨"LogBrokerModel", "fenced", "(I)Z"⟩ ⟨"LogBrokerModel", "fenced", "(I)Z"⟩ ∈ zTs := zTs_in (by decide +kernel) (by decide +kernel)
theorem sM_search : Cond.selects "LogBrokerModel" ⟨"LogBrokerModel", "search", "(IIZ)I"⟩ ⟨"LogBrokerModel", "search", "(IIZ)I"⟩ ∈ zTs := zTs_in (by decide +kernel) (by decide +kernel)
theorem sM_newer : Cond.selects "LogBrokerModel" ⟨"LogBrokerModel", "newer", "(III)Z"⟩ ⟨"LogBrokerModel", "newer", "(III)Z"⟩ ∈ zTs := zTs_in (by decide +kernel) (by decide +kernel)
theorem sM_badMember : Cond.selects "LogBrokerModel" ⟨"LogBrokerModel", "badMember", "(II)Z"⟩ ⟨"LogBrokerModel", "badMember", "(II)Z"⟩ ∈ zTs := zTs_in (by decide +kernel) (by decide +kernel)
theorem sM_change : Cond.selects "LogBrokerModel" ⟨"LogBrokerModel", "change", "(I)I"⟩ ⟨"LogBrokerModel", "change", "(I)I"⟩ ∈ zTs := zTs_in (by decide +kernel) (by decide +kernel)
theorem sM_whose : Cond.selects "LogBrokerModel" ⟨"LogBrokerModel", "whose", "(II)I"⟩ ⟨"LogBrokerModel", "whose", "(II)I"⟩ ∈ zTs := zTs_in (by decide +kernel) (by decide +kernel)
end
section
/-! DECODE ROWS (by program) -/
theorem dB_init_0 : decode cB_init 0 = .ok (.aload_n 0, 1) := by decide +kernel
theorem dB_init_1 : decode cB_init 1 = .ok (.invokespecial 3, 3) := by decide +kernel
theorem dB_init_4 : decode cB_init 4 = .ok (.aload_n 0, 1) := by decide +kernel
theorem dB_init_5 : decode cB_init 5 = .ok (.iconst 3, 1) := by decide +kernel
theorem dB_init_6 : decode cB_init 6 = .ok (.newarray .int, 2) := by decide +kernel
theorem dB_init_8 : decode cB_init 8 = .ok (.putfield 9, 3) := by decide +kernel
theorem dB_init_11 : decode cB_init 11 = .ok (.aload_n 0, 1) := by decide +kernel
theorem dB_init_12 : decode cB_init 12 = .ok (.bipush 12, 2) := by decide +kernel
theorem dB_init_14 : decode cB_init 14 = .ok (.anewarray 13, 3) := by decide +kernel
theorem dB_init_17 : decode cB_init 17 = .ok (.putfield 15, 3) := by decide +kernel
theorem dB_init_20 : decode cB_init 20 = .ok (.aload_n 0, 1) := by decide +kernel
theorem dB_init_21 : decode cB_init 21 = .ok (.bipush 6, 2) := by decide +kernel
theorem dB_init_23 : decode cB_init 23 = .ok (.anewarray 19, 3) := by decide +kernel
theorem dB_init_26 : decode cB_init 26 = .ok (.putfield 21, 3) := by decide +kernel
theorem dB_init_29 : decode cB_init 29 = .ok (.aload_n 0, 1) := by decide +kernel
theorem dB_init_30 : decode cB_init 30 = .ok (.iconst 4, 1) := by decide +kernel
theorem dB_init_31 : decode cB_init 31 = .ok (.newarray .int, 2) := by decide +kernel
theorem dB_init_33 : decode cB_init 33 = .ok (.putfield 25, 3) := by decide +kernel
theorem dB_init_36 : decode cB_init 36 = .ok (.aload_n 0, 1) := by decide +kernel
theorem dB_init_37 : decode cB_init 37 = .ok (.iconst 4, 1) := by decide +kernel
theorem dB_init_38 : decode cB_init 38 = .ok (.newarray .int, 2) := by decide +kernel
theorem dB_init_40 : decode cB_init 40 = .ok (.putfield 28, 3) := by decide +kernel
theorem dB_init_43 : decode cB_init 43 = .ok (.aload_n 0, 1) := by decide +kernel
theorem dB_init_44 : decode cB_init 44 = .ok (.iconst 2, 1) := by decide +kernel
theorem dB_init_45 : decode cB_init 45 = .ok (.anewarray 31, 3) := by decide +kernel
theorem dB_init_48 : decode cB_init 48 = .ok (.putfield 33, 3) := by decide +kernel
theorem dB_init_51 : decode cB_init 51 = .ok (.iconst 0, 1) := by decide +kernel
theorem dB_init_52 : decode cB_init 52 = .ok (.istore_n 1, 1) := by decide +kernel
theorem dB_init_53 : decode cB_init 53 = .ok (.iload_n 1, 1) := by decide +kernel
theorem dB_init_54 : decode cB_init 54 = .ok (.bipush 6, 2) := by decide +kernel
theorem dB_init_56 : decode cB_init 56 = .ok (.if_icmp .ge 22, 3) := by decide +kernel
theorem dB_init_59 : decode cB_init 59 = .ok (.aload_n 0, 1) := by decide +kernel
theorem dB_init_60 : decode cB_init 60 = .ok (.getfield 21, 3) := by decide +kernel
theorem dB_init_63 : decode cB_init 63 = .ok (.iload_n 1, 1) := by decide +kernel
theorem dB_init_64 : decode cB_init 64 = .ok (.new 19, 3) := by decide +kernel
theorem dB_init_67 : decode cB_init 67 = .ok (.dup, 1) := by decide +kernel
theorem dB_init_68 : decode cB_init 68 = .ok (.invokespecial 37, 3) := by decide +kernel
theorem dB_init_71 : decode cB_init 71 = .ok (.aastore, 1) := by decide +kernel
theorem dB_init_72 : decode cB_init 72 = .ok (.iinc 1 1, 3) := by decide +kernel
theorem dB_init_75 : decode cB_init 75 = .ok (.goto (-22), 3) := by decide +kernel
theorem dB_init_78 : decode cB_init 78 = .ok (.iconst 0, 1) := by decide +kernel
theorem dB_init_79 : decode cB_init 79 = .ok (.istore_n 1, 1) := by decide +kernel
theorem dB_init_80 : decode cB_init 80 = .ok (.iload_n 1, 1) := by decide +kernel
theorem dB_init_81 : decode cB_init 81 = .ok (.iconst 2, 1) := by decide +kernel
theorem dB_init_82 : decode cB_init 82 = .ok (.if_icmp .ge 22, 3) := by decide +kernel
theorem dB_init_85 : decode cB_init 85 = .ok (.aload_n 0, 1) := by decide +kernel
theorem dB_init_86 : decode cB_init 86 = .ok (.getfield 33, 3) := by decide +kernel
theorem dB_init_89 : decode cB_init 89 = .ok (.iload_n 1, 1) := by decide +kernel
theorem dB_init_90 : decode cB_init 90 = .ok (.new 31, 3) := by decide +kernel
theorem dB_init_93 : decode cB_init 93 = .ok (.dup, 1) := by decide +kernel
theorem dB_init_94 : decode cB_init 94 = .ok (.invokespecial 38, 3) := by decide +kernel
theorem dB_init_97 : decode cB_init 97 = .ok (.aastore, 1) := by decide +kernel
theorem dB_init_98 : decode cB_init 98 = .ok (.iinc 1 1, 3) := by decide +kernel
theorem dB_init_101 : decode cB_init 101 = .ok (.goto (-21), 3) := by decide +kernel
theorem dB_init_104 : decode cB_init 104 = .ok (.aload_n 0, 1) := by decide +kernel
theorem dB_init_105 : decode cB_init 105 = .ok (.getfield 25, 3) := by decide +kernel
theorem dB_init_108 : decode cB_init 108 = .ok (.iconst (-1), 1) := by decide +kernel
theorem dB_init_109 : decode cB_init 109 = .ok (.invokestatic 39, 3) := by decide +kernel
theorem dB_init_112 : decode cB_init 112 = .ok (.return_, 1) := by decide +kernel
theorem dB_topic_0 : decode cB_topic 0 = .ok (.iload_n 1, 1) := by decide +kernel
theorem dB_topic_1 : decode cB_topic 1 = .ok (.iconst 0, 1) := by decide +kernel
theorem dB_topic_2 : decode cB_topic 2 = .ok (.iconst 2, 1) := by decide +kernel
theorem dB_topic_3 : decode cB_topic 3 = .ok (.invokestatic 45, 3) := by decide +kernel
theorem dB_topic_6 : decode cB_topic 6 = .ok (.iload_n 2, 1) := by decide +kernel
theorem dB_topic_7 : decode cB_topic 7 = .ok (.iconst 1, 1) := by decide +kernel
theorem dB_topic_8 : decode cB_topic 8 = .ok (.iconst 3, 1) := by decide +kernel
theorem dB_topic_9 : decode cB_topic 9 = .ok (.invokestatic 45, 3) := by decide +kernel
theorem dB_topic_12 : decode cB_topic 12 = .ok (.iload_n 3, 1) := by decide +kernel
theorem dB_topic_13 : decode cB_topic 13 = .ok (.iconst 1, 1) := by decide +kernel
theorem dB_topic_14 : decode cB_topic 14 = .ok (.iconst 4, 1) := by decide +kernel
theorem dB_topic_15 : decode cB_topic 15 = .ok (.invokestatic 45, 3) := by decide +kernel
theorem dB_topic_18 : decode cB_topic 18 = .ok (.iload 4, 2) := by decide +kernel
theorem dB_topic_20 : decode cB_topic 20 = .ok (.iconst 1, 1) := by decide +kernel
theorem dB_topic_21 : decode cB_topic 21 = .ok (.iconst 5, 1) := by decide +kernel
theorem dB_topic_22 : decode cB_topic 22 = .ok (.invokestatic 45, 3) := by decide +kernel
theorem dB_topic_25 : decode cB_topic 25 = .ok (.aload_n 0, 1) := by decide +kernel
theorem dB_topic_26 : decode cB_topic 26 = .ok (.getfield 9, 3) := by decide +kernel
theorem dB_topic_29 : decode cB_topic 29 = .ok (.iload_n 1, 1) := by decide +kernel
theorem dB_topic_30 : decode cB_topic 30 = .ok (.iaload, 1) := by decide +kernel
theorem dB_topic_31 : decode cB_topic 31 = .ok (.ifCond .le 13, 3) := by decide +kernel
theorem dB_topic_34 : decode cB_topic 34 = .ok (.new 49, 3) := by decide +kernel
theorem dB_topic_37 : decode cB_topic 37 = .ok (.dup, 1) := by decide +kernel
theorem dB_topic_38 : decode cB_topic 38 = .ok (.ldc 51, 2) := by decide +kernel
theorem dB_topic_40 : decode cB_topic 40 = .ok (.invokespecial 53, 3) := by decide +kernel
theorem dB_topic_43 : decode cB_topic 43 = .ok (.athrow, 1) := by decide +kernel
theorem dB_topic_44 : decode cB_topic 44 = .ok (.aload_n 0, 1) := by decide +kernel
theorem dB_topic_45 : decode cB_topic 45 = .ok (.getfield 9, 3) := by decide +kernel
theorem dB_topic_48 : decode cB_topic 48 = .ok (.iload_n 1, 1) := by decide +kernel
theorem dB_topic_49 : decode cB_topic 49 = .ok (.iload_n 2, 1) := by decide +kernel
theorem dB_topic_50 : decode cB_topic 50 = .ok (.iastore, 1) := by decide +kernel
theorem dB_topic_51 : decode cB_topic 51 = .ok (.iconst 0, 1) := by decide +kernel
theorem dB_topic_52 : decode cB_topic 52 = .ok (.istore 6, 2) := by decide +kernel
theorem dB_topic_54 : decode cB_topic 54 = .ok (.iload 6, 2) := by decide +kernel
theorem dB_topic_56 : decode cB_topic 56 = .ok (.iload_n 2, 1) := by decide +kernel
theorem dB_topic_57 : decode cB_topic 57 = .ok (.if_icmp .ge 32, 3) := by decide +kernel
theorem dB_topic_60 : decode cB_topic 60 = .ok (.aload_n 0, 1) := by decide +kernel
theorem dB_topic_61 : decode cB_topic 61 = .ok (.getfield 15, 3) := by decide +kernel
theorem dB_topic_64 : decode cB_topic 64 = .ok (.iload_n 1, 1) := by decide +kernel
theorem dB_topic_65 : decode cB_topic 65 = .ok (.iconst 4, 1) := by decide +kernel
theorem dB_topic_66 : decode cB_topic 66 = .ok (.imul, 1) := by decide +kernel
theorem dB_topic_67 : decode cB_topic 67 = .ok (.iload 6, 2) := by decide +kernel
theorem dB_topic_69 : decode cB_topic 69 = .ok (.iadd, 1) := by decide +kernel
theorem dB_topic_70 : decode cB_topic 70 = .ok (.new 13, 3) := by decide +kernel
theorem dB_topic_73 : decode cB_topic 73 = .ok (.dup, 1) := by decide +kernel
theorem dB_topic_74 : decode cB_topic 74 = .ok (.iload_n 3, 1) := by decide +kernel
theorem dB_topic_75 : decode cB_topic 75 = .ok (.iload 4, 2) := by decide +kernel
theorem dB_topic_77 : decode cB_topic 77 = .ok (.iload 5, 2) := by decide +kernel
theorem dB_topic_79 : decode cB_topic 79 = .ok (.invokespecial 56, 3) := by decide +kernel
theorem dB_topic_82 : decode cB_topic 82 = .ok (.aastore, 1) := by decide +kernel
theorem dB_topic_83 : decode cB_topic 83 = .ok (.iinc 6 1, 3) := by decide +kernel
theorem dB_topic_86 : decode cB_topic 86 = .ok (.goto (-32), 3) := by decide +kernel
theorem dB_topic_89 : decode cB_topic 89 = .ok (.return_, 1) := by decide +kernel
theorem dB_open_0 : decode cB_open 0 = .ok (.iload_n 1, 1) := by decide +kernel
theorem dB_open_1 : decode cB_open 1 = .ok (.iconst 0, 1) := by decide +kernel
theorem dB_open_2 : decode cB_open 2 = .ok (.iconst 5, 1) := by decide +kernel
theorem dB_open_3 : decode cB_open 3 = .ok (.invokestatic 45, 3) := by decide +kernel
theorem dB_open_6 : decode cB_open 6 = .ok (.iload_n 2, 1) := by decide +kernel
theorem dB_open_7 : decode cB_open 7 = .ok (.iconst 0, 1) := by decide +kernel
theorem dB_open_8 : decode cB_open 8 = .ok (.iconst 3, 1) := by decide +kernel
theorem dB_open_9 : decode cB_open 9 = .ok (.invokestatic 45, 3) := by decide +kernel
theorem dB_open_12 : decode cB_open 12 = .ok (.aload_n 0, 1) := by decide +kernel
theorem dB_open_13 : decode cB_open 13 = .ok (.getfield 21, 3) := by decide +kernel
theorem dB_open_16 : decode cB_open 16 = .ok (.iload_n 1, 1) := by decide +kernel
theorem dB_open_17 : decode cB_open 17 = .ok (.aaload, 1) := by decide +kernel
theorem dB_open_18 : decode cB_open 18 = .ok (.astore_n 3, 1) := by decide +kernel
theorem dB_open_19 : decode cB_open 19 = .ok (.aload_n 3, 1) := by decide +kernel
theorem dB_open_20 : decode cB_open 20 = .ok (.getfield 59, 3) := by decide +kernel
theorem dB_open_23 : decode cB_open 23 = .ok (.ifCond .eq 21, 3) := by decide +kernel
theorem dB_open_26 : decode cB_open 26 = .ok (.aload_n 3, 1) := by decide +kernel
theorem dB_open_27 : decode cB_open 27 = .ok (.getfield 63, 3) := by decide +kernel
theorem dB_open_30 : decode cB_open 30 = .ok (.iload_n 2, 1) := by decide +kernel
theorem dB_open_31 : decode cB_open 31 = .ok (.if_icmp .eq 13, 3) := by decide +kernel
theorem dB_open_34 : decode cB_open 34 = .ok (.new 49, 3) := by decide +kernel
theorem dB_open_37 : decode cB_open 37 = .ok (.dup, 1) := by decide +kernel
theorem dB_open_38 : decode cB_open 38 = .ok (.ldc 67, 2) := by decide +kernel
theorem dB_open_40 : decode cB_open 40 = .ok (.invokespecial 53, 3) := by decide +kernel
theorem dB_open_43 : decode cB_open 43 = .ok (.athrow, 1) := by decide +kernel
theorem dB_open_44 : decode cB_open 44 = .ok (.aload_n 0, 1) := by decide +kernel
theorem dB_open_45 : decode cB_open 45 = .ok (.iload_n 2, 1) := by decide +kernel
theorem dB_open_46 : decode cB_open 46 = .ok (.invokevirtual 69, 3) := by decide +kernel
theorem dB_open_49 : decode cB_open 49 = .ok (.aload_n 0, 1) := by decide +kernel
theorem dB_open_50 : decode cB_open 50 = .ok (.iload_n 1, 1) := by decide +kernel
theorem dB_open_51 : decode cB_open 51 = .ok (.invokevirtual 73, 3) := by decide +kernel
theorem dB_open_54 : decode cB_open 54 = .ok (.ifCond .eq 13, 3) := by decide +kernel
theorem dB_open_57 : decode cB_open 57 = .ok (.aload_n 0, 1) := by decide +kernel
theorem dB_open_58 : decode cB_open 58 = .ok (.getfield 25, 3) := by decide +kernel
theorem dB_open_61 : decode cB_open 61 = .ok (.aload_n 3, 1) := by decide +kernel
theorem dB_open_62 : decode cB_open 62 = .ok (.getfield 63, 3) := by decide +kernel
theorem dB_open_65 : decode cB_open 65 = .ok (.iconst (-1), 1) := by decide +kernel
theorem dB_open_66 : decode cB_open 66 = .ok (.iastore, 1) := by decide +kernel
theorem dB_open_67 : decode cB_open 67 = .ok (.aload_n 3, 1) := by decide +kernel
theorem dB_open_68 : decode cB_open 68 = .ok (.iload_n 2, 1) := by decide +kernel
theorem dB_open_69 : decode cB_open 69 = .ok (.invokevirtual 77, 3) := by decide +kernel
theorem dB_open_72 : decode cB_open 72 = .ok (.aload_n 0, 1) := by decide +kernel
theorem dB_open_73 : decode cB_open 73 = .ok (.getfield 25, 3) := by decide +kernel
theorem dB_open_76 : decode cB_open 76 = .ok (.iload_n 2, 1) := by decide +kernel
theorem dB_open_77 : decode cB_open 77 = .ok (.iload_n 1, 1) := by decide +kernel
theorem dB_open_78 : decode cB_open 78 = .ok (.iastore, 1) := by decide +kernel
theorem dB_open_79 : decode cB_open 79 = .ok (.aload_n 0, 1) := by decide +kernel
theorem dB_open_80 : decode cB_open 80 = .ok (.getfield 28, 3) := by decide +kernel
theorem dB_open_83 : decode cB_open 83 = .ok (.iload_n 2, 1) := by decide +kernel
theorem dB_open_84 : decode cB_open 84 = .ok (.dup2, 1) := by decide +kernel
theorem dB_open_85 : decode cB_open 85 = .ok (.iaload, 1) := by decide +kernel
theorem dB_open_86 : decode cB_open 86 = .ok (.iconst 1, 1) := by decide +kernel
theorem dB_open_87 : decode cB_open 87 = .ok (.iadd, 1) := by decide +kernel
theorem dB_open_88 : decode cB_open 88 = .ok (.iastore, 1) := by decide +kernel
theorem dB_open_89 : decode cB_open 89 = .ok (.aload_n 0, 1) := by decide +kernel
theorem dB_open_90 : decode cB_open 90 = .ok (.getfield 28, 3) := by decide +kernel
theorem dB_open_93 : decode cB_open 93 = .ok (.iload_n 2, 1) := by decide +kernel
theorem dB_open_94 : decode cB_open 94 = .ok (.iaload, 1) := by decide +kernel
theorem dB_open_95 : decode cB_open 95 = .ok (.ireturn, 1) := by decide +kernel
theorem dB_produce_0 : decode cB_produce 0 = .ok (.iload_n 1, 1) := by decide +kernel
theorem dB_produce_1 : decode cB_produce 1 = .ok (.iconst 0, 1) := by decide +kernel
theorem dB_produce_2 : decode cB_produce 2 = .ok (.iconst 5, 1) := by decide +kernel
theorem dB_produce_3 : decode cB_produce 3 = .ok (.invokestatic 45, 3) := by decide +kernel
theorem dB_produce_6 : decode cB_produce 6 = .ok (.aload_n 0, 1) := by decide +kernel
theorem dB_produce_7 : decode cB_produce 7 = .ok (.iload_n 2, 1) := by decide +kernel
theorem dB_produce_8 : decode cB_produce 8 = .ok (.invokevirtual 80, 3) := by decide +kernel
theorem dB_produce_11 : decode cB_produce 11 = .ok (.astore 6, 2) := by decide +kernel
theorem dB_produce_13 : decode cB_produce 13 = .ok (.iload 4, 2) := by decide +kernel
theorem dB_produce_15 : decode cB_produce 15 = .ok (.iconst (-1), 1) := by decide +kernel
theorem dB_produce_16 : decode cB_produce 16 = .ok (.bipush 7, 2) := by decide +kernel
theorem dB_produce_18 : decode cB_produce 18 = .ok (.invokestatic 45, 3) := by decide +kernel
theorem dB_produce_21 : decode cB_produce 21 = .ok (.iload_n 3, 1) := by decide +kernel
theorem dB_produce_22 : decode cB_produce 22 = .ok (.ifCond .ge 13, 3) := by decide +kernel
theorem dB_produce_25 : decode cB_produce 25 = .ok (.new 84, 3) := by decide +kernel
theorem dB_produce_28 : decode cB_produce 28 = .ok (.dup, 1) := by decide +kernel
theorem dB_produce_29 : decode cB_produce 29 = .ok (.ldc 86, 2) := by decide +kernel
theorem dB_produce_31 : decode cB_produce 31 = .ok (.invokespecial 88, 3) := by decide +kernel
theorem dB_produce_34 : decode cB_produce 34 = .ok (.athrow, 1) := by decide +kernel
theorem dB_produce_35 : decode cB_produce 35 = .ok (.aload_n 0, 1) := by decide +kernel
theorem dB_produce_36 : decode cB_produce 36 = .ok (.iload_n 1, 1) := by decide +kernel
theorem dB_produce_37 : decode cB_produce 37 = .ok (.invokevirtual 89, 3) := by decide +kernel
theorem dB_produce_40 : decode cB_produce 40 = .ok (.astore 7, 2) := by decide +kernel
theorem dB_produce_42 : decode cB_produce 42 = .ok (.aload 7, 2) := by decide +kernel
theorem dB_produce_44 : decode cB_produce 44 = .ok (.iload_n 2, 1) := by decide +kernel
theorem dB_produce_45 : decode cB_produce 45 = .ok (.iload_n 3, 1) := by decide +kernel
theorem dB_produce_46 : decode cB_produce 46 = .ok (.invokevirtual 93, 3) := by decide +kernel
theorem dB_produce_49 : decode cB_produce 49 = .ok (.istore 8, 2) := by decide +kernel
theorem dB_produce_51 : decode cB_produce 51 = .ok (.iload 8, 2) := by decide +kernel
theorem dB_produce_53 : decode cB_produce 53 = .ok (.ifCond .ne 23, 3) := by decide +kernel
theorem dB_produce_56 : decode cB_produce 56 = .ok (.aload 7, 2) := by decide +kernel
theorem dB_produce_58 : decode cB_produce 58 = .ok (.iload_n 2, 1) := by decide +kernel
theorem dB_produce_59 : decode cB_produce 59 = .ok (.iload_n 3, 1) := by decide +kernel
theorem dB_produce_60 : decode cB_produce 60 = .ok (.invokevirtual 97, 3) := by decide +kernel
theorem dB_produce_63 : decode cB_produce 63 = .ok (.ifCond .ne 13, 3) := by decide +kernel
theorem dB_produce_66 : decode cB_produce 66 = .ok (.new 49, 3) := by decide +kernel
theorem dB_produce_69 : decode cB_produce 69 = .ok (.dup, 1) := by decide +kernel
theorem dB_produce_70 : decode cB_produce 70 = .ok (.ldc 100, 2) := by decide +kernel
theorem dB_produce_72 : decode cB_produce 72 = .ok (.invokespecial 53, 3) := by decide +kernel
theorem dB_produce_75 : decode cB_produce 75 = .ok (.athrow, 1) := by decide +kernel
theorem dB_produce_76 : decode cB_produce 76 = .ok (.aload_n 0, 1) := by decide +kernel
theorem dB_produce_77 : decode cB_produce 77 = .ok (.iload_n 1, 1) := by decide +kernel
theorem dB_produce_78 : decode cB_produce 78 = .ok (.invokevirtual 102, 3) := by decide +kernel
theorem dB_produce_81 : decode cB_produce 81 = .ok (.iload 8, 2) := by decide +kernel
theorem dB_produce_83 : decode cB_produce 83 = .ok (.ifCond .eq 21, 3) := by decide +kernel
theorem dB_produce_86 : decode cB_produce 86 = .ok (.aload_n 0, 1) := by decide +kernel
theorem dB_produce_87 : decode cB_produce 87 = .ok (.dup, 1) := by decide +kernel
theorem dB_produce_88 : decode cB_produce 88 = .ok (.getfield 105, 3) := by decide +kernel
theorem dB_produce_91 : decode cB_produce 91 = .ok (.iconst 1, 1) := by decide +kernel
theorem dB_produce_92 : decode cB_produce 92 = .ok (.iadd, 1) := by decide +kernel
theorem dB_produce_93 : decode cB_produce 93 = .ok (.putfield 105, 3) := by decide +kernel
theorem dB_produce_96 : decode cB_produce 96 = .ok (.aload 7, 2) := by decide +kernel
theorem dB_produce_98 : decode cB_produce 98 = .ok (.iload_n 2, 1) := by decide +kernel
theorem dB_produce_99 : decode cB_produce 99 = .ok (.iload_n 3, 1) := by decide +kernel
theorem dB_produce_100 : decode cB_produce 100 = .ok (.invokevirtual 108, 3) := by decide +kernel
theorem dB_produce_103 : decode cB_produce 103 = .ok (.ireturn, 1) := by decide +kernel
theorem dB_produce_104 : decode cB_produce 104 = .ok (.aload 6, 2) := by decide +kernel
theorem dB_produce_106 : decode cB_produce 106 = .ok (.invokevirtual 112, 3) := by decide +kernel
theorem dB_produce_109 : decode cB_produce 109 = .ok (.ifCond .eq 13, 3) := by decide +kernel
theorem dB_produce_112 : decode cB_produce 112 = .ok (.new 116, 3) := by decide +kernel
theorem dB_produce_115 : decode cB_produce 115 = .ok (.dup, 1) := by decide +kernel
theorem dB_produce_116 : decode cB_produce 116 = .ok (.ldc 118, 2) := by decide +kernel
theorem dB_produce_118 : decode cB_produce 118 = .ok (.invokespecial 120, 3) := by decide +kernel
theorem dB_produce_121 : decode cB_produce 121 = .ok (.athrow, 1) := by decide +kernel
theorem dB_produce_122 : decode cB_produce 122 = .ok (.aload 7, 2) := by decide +kernel
theorem dB_produce_124 : decode cB_produce 124 = .ok (.getfield 59, 3) := by decide +kernel
theorem dB_produce_127 : decode cB_produce 127 = .ok (.ifCond .eq 7, 3) := by decide +kernel
theorem dB_produce_130 : decode cB_produce 130 = .ok (.iconst 2, 1) := by decide +kernel
theorem dB_produce_131 : decode cB_produce 131 = .ok (.goto 4, 3) := by decide +kernel
theorem dB_produce_134 : decode cB_produce 134 = .ok (.iconst 0, 1) := by decide +kernel
theorem dB_produce_135 : decode cB_produce 135 = .ok (.istore 9, 2) := by decide +kernel
theorem dB_produce_137 : decode cB_produce 137 = .ok (.aload_n 0, 1) := by decide +kernel
theorem dB_produce_138 : decode cB_produce 138 = .ok (.aload 6, 2) := by decide +kernel
theorem dB_produce_140 : decode cB_produce 140 = .ok (.new 121, 3) := by decide +kernel
theorem dB_produce_143 : decode cB_produce 143 = .ok (.dup, 1) := by decide +kernel
theorem dB_produce_144 : decode cB_produce 144 = .ok (.iconst 0, 1) := by decide +kernel
theorem dB_produce_145 : decode cB_produce 145 = .ok (.iload 4, 2) := by decide +kernel
theorem dB_produce_147 : decode cB_produce 147 = .ok (.iload 5, 2) := by decide +kernel
theorem dB_produce_149 : decode cB_produce 149 = .ok (.aload 7, 2) := by decide +kernel
theorem dB_produce_151 : decode cB_produce 151 = .ok (.getfield 63, 3) := by decide +kernel
theorem dB_produce_154 : decode cB_produce 154 = .ok (.iload 9, 2) := by decide +kernel
theorem dB_produce_156 : decode cB_produce 156 = .ok (.invokespecial 123, 3) := by decide +kernel
theorem dB_produce_159 : decode cB_produce 159 = .ok (.invokevirtual 126, 3) := by decide +kernel
theorem dB_produce_162 : decode cB_produce 162 = .ok (.istore 10, 2) := by decide +kernel
theorem dB_produce_164 : decode cB_produce 164 = .ok (.aload 7, 2) := by decide +kernel
theorem dB_produce_166 : decode cB_produce 166 = .ok (.iload_n 2, 1) := by decide +kernel
theorem dB_produce_167 : decode cB_produce 167 = .ok (.iload 10, 2) := by decide +kernel
theorem dB_produce_169 : decode cB_produce 169 = .ok (.invokevirtual 130, 3) := by decide +kernel
theorem dB_produce_172 : decode cB_produce 172 = .ok (.iload 10, 2) := by decide +kernel
theorem dB_produce_174 : decode cB_produce 174 = .ok (.ireturn, 1) := by decide +kernel
theorem dB_begin_0 : decode cB_begin 0 = .ok (.iload_n 1, 1) := by decide +kernel
theorem dB_begin_1 : decode cB_begin 1 = .ok (.iconst 0, 1) := by decide +kernel
theorem dB_begin_2 : decode cB_begin 2 = .ok (.iconst 5, 1) := by decide +kernel
theorem dB_begin_3 : decode cB_begin 3 = .ok (.invokestatic 45, 3) := by decide +kernel
theorem dB_begin_6 : decode cB_begin 6 = .ok (.aload_n 0, 1) := by decide +kernel
theorem dB_begin_7 : decode cB_begin 7 = .ok (.iload_n 1, 1) := by decide +kernel
theorem dB_begin_8 : decode cB_begin 8 = .ok (.invokevirtual 89, 3) := by decide +kernel
theorem dB_begin_11 : decode cB_begin 11 = .ok (.astore_n 2, 1) := by decide +kernel
theorem dB_begin_12 : decode cB_begin 12 = .ok (.aload_n 2, 1) := by decide +kernel
theorem dB_begin_13 : decode cB_begin 13 = .ok (.getfield 59, 3) := by decide +kernel
theorem dB_begin_16 : decode cB_begin 16 = .ok (.ifCond .eq 13, 3) := by decide +kernel
theorem dB_begin_19 : decode cB_begin 19 = .ok (.new 49, 3) := by decide +kernel
theorem dB_begin_22 : decode cB_begin 22 = .ok (.dup, 1) := by decide +kernel
theorem dB_begin_23 : decode cB_begin 23 = .ok (.ldc 134, 2) := by decide +kernel
theorem dB_begin_25 : decode cB_begin 25 = .ok (.invokespecial 53, 3) := by decide +kernel
theorem dB_begin_28 : decode cB_begin 28 = .ok (.athrow, 1) := by decide +kernel
theorem dB_begin_29 : decode cB_begin 29 = .ok (.aload_n 0, 1) := by decide +kernel
theorem dB_begin_30 : decode cB_begin 30 = .ok (.iload_n 1, 1) := by decide +kernel
theorem dB_begin_31 : decode cB_begin 31 = .ok (.invokevirtual 102, 3) := by decide +kernel
theorem dB_begin_34 : decode cB_begin 34 = .ok (.aload_n 2, 1) := by decide +kernel
theorem dB_begin_35 : decode cB_begin 35 = .ok (.iconst 1, 1) := by decide +kernel
theorem dB_begin_36 : decode cB_begin 36 = .ok (.putfield 59, 3) := by decide +kernel
theorem dB_begin_39 : decode cB_begin 39 = .ok (.return_, 1) := by decide +kernel
theorem dB_end_0 : decode cB_end 0 = .ok (.iload_n 1, 1) := by decide +kernel
theorem dB_end_1 : decode cB_end 1 = .ok (.iconst 0, 1) := by decide +kernel
theorem dB_end_2 : decode cB_end 2 = .ok (.iconst 5, 1) := by decide +kernel
theorem dB_end_3 : decode cB_end 3 = .ok (.invokestatic 45, 3) := by decide +kernel
theorem dB_end_6 : decode cB_end 6 = .ok (.aload_n 0, 1) := by decide +kernel
theorem dB_end_7 : decode cB_end 7 = .ok (.iload_n 1, 1) := by decide +kernel
theorem dB_end_8 : decode cB_end 8 = .ok (.invokevirtual 89, 3) := by decide +kernel
theorem dB_end_11 : decode cB_end 11 = .ok (.astore_n 3, 1) := by decide +kernel
theorem dB_end_12 : decode cB_end 12 = .ok (.aload_n 3, 1) := by decide +kernel
theorem dB_end_13 : decode cB_end 13 = .ok (.getfield 59, 3) := by decide +kernel
theorem dB_end_16 : decode cB_end 16 = .ok (.ifCond .ne 13, 3) := by decide +kernel
theorem dB_end_19 : decode cB_end 19 = .ok (.new 49, 3) := by decide +kernel
theorem dB_end_22 : decode cB_end 22 = .ok (.dup, 1) := by decide +kernel
theorem dB_end_23 : decode cB_end 23 = .ok (.ldc 136, 2) := by decide +kernel
theorem dB_end_25 : decode cB_end 25 = .ok (.invokespecial 53, 3) := by decide +kernel
theorem dB_end_28 : decode cB_end 28 = .ok (.athrow, 1) := by decide +kernel
theorem dB_end_29 : decode cB_end 29 = .ok (.aload_n 0, 1) := by decide +kernel
theorem dB_end_30 : decode cB_end 30 = .ok (.aload_n 3, 1) := by decide +kernel
theorem dB_end_31 : decode cB_end 31 = .ok (.getfield 63, 3) := by decide +kernel
theorem dB_end_34 : decode cB_end 34 = .ok (.invokevirtual 138, 3) := by decide +kernel
theorem dB_end_37 : decode cB_end 37 = .ok (.aload_n 0, 1) := by decide +kernel
theorem dB_end_38 : decode cB_end 38 = .ok (.aload_n 3, 1) := by decide +kernel
theorem dB_end_39 : decode cB_end 39 = .ok (.iload_n 2, 1) := by decide +kernel
theorem dB_end_40 : decode cB_end 40 = .ok (.invokevirtual 141, 3) := by decide +kernel
theorem dB_end_43 : decode cB_end 43 = .ok (.ireturn, 1) := by decide +kernel
theorem dB_fetch_0 : decode cB_fetch 0 = .ok (.aload_n 0, 1) := by decide +kernel
theorem dB_fetch_1 : decode cB_fetch 1 = .ok (.iload_n 1, 1) := by decide +kernel
theorem dB_fetch_2 : decode cB_fetch 2 = .ok (.invokevirtual 80, 3) := by decide +kernel
theorem dB_fetch_5 : decode cB_fetch 5 = .ok (.astore 4, 2) := by decide +kernel
theorem dB_fetch_7 : decode cB_fetch 7 = .ok (.iload_n 2, 1) := by decide +kernel
theorem dB_fetch_8 : decode cB_fetch 8 = .ok (.aload 4, 2) := by decide +kernel
theorem dB_fetch_10 : decode cB_fetch 10 = .ok (.getfield 145, 3) := by decide +kernel
theorem dB_fetch_13 : decode cB_fetch 13 = .ok (.if_icmp .lt 12, 3) := by decide +kernel
theorem dB_fetch_16 : decode cB_fetch 16 = .ok (.iload_n 2, 1) := by decide +kernel
theorem dB_fetch_17 : decode cB_fetch 17 = .ok (.aload 4, 2) := by decide +kernel
theorem dB_fetch_19 : decode cB_fetch 19 = .ok (.getfield 148, 3) := by decide +kernel
theorem dB_fetch_22 : decode cB_fetch 22 = .ok (.if_icmp .le 13, 3) := by decide +kernel
theorem dB_fetch_25 : decode cB_fetch 25 = .ok (.new 151, 3) := by decide +kernel
theorem dB_fetch_28 : decode cB_fetch 28 = .ok (.dup, 1) := by decide +kernel
theorem dB_fetch_29 : decode cB_fetch 29 = .ok (.ldc 153, 2) := by decide +kernel
theorem dB_fetch_31 : decode cB_fetch 31 = .ok (.invokespecial 155, 3) := by decide +kernel
theorem dB_fetch_34 : decode cB_fetch 34 = .ok (.athrow, 1) := by decide +kernel
theorem dB_fetch_35 : decode cB_fetch 35 = .ok (.aload 4, 2) := by decide +kernel
theorem dB_fetch_37 : decode cB_fetch 37 = .ok (.iload_n 2, 1) := by decide +kernel
theorem dB_fetch_38 : decode cB_fetch 38 = .ok (.iload_n 3, 1) := by decide +kernel
theorem dB_fetch_39 : decode cB_fetch 39 = .ok (.invokevirtual 156, 3) := by decide +kernel
theorem dB_fetch_42 : decode cB_fetch 42 = .ok (.invokestatic 160, 3) := by decide +kernel
theorem dB_fetch_45 : decode cB_fetch 45 = .ok (.ireturn, 1) := by decide +kernel
theorem dB_told_0 : decode cB_told 0 = .ok (.aload_n 0, 1) := by decide +kernel
theorem dB_told_1 : decode cB_told 1 = .ok (.iload_n 1, 1) := by decide +kernel
theorem dB_told_2 : decode cB_told 2 = .ok (.invokevirtual 80, 3) := by decide +kernel
theorem dB_told_5 : decode cB_told 5 = .ok (.astore 4, 2) := by decide +kernel
theorem dB_told_7 : decode cB_told 7 = .ok (.iload_n 3, 1) := by decide +kernel
theorem dB_told_8 : decode cB_told 8 = .ok (.iconst 0, 1) := by decide +kernel
theorem dB_told_9 : decode cB_told 9 = .ok (.iconst 4, 1) := by decide +kernel
theorem dB_told_10 : decode cB_told 10 = .ok (.invokestatic 45, 3) := by decide +kernel
theorem dB_told_13 : decode cB_told 13 = .ok (.iload_n 2, 1) := by decide +kernel
theorem dB_told_14 : decode cB_told 14 = .ok (.aload 4, 2) := by decide +kernel
theorem dB_told_16 : decode cB_told 16 = .ok (.getfield 145, 3) := by decide +kernel
theorem dB_told_19 : decode cB_told 19 = .ok (.if_icmp .lt 12, 3) := by decide +kernel
theorem dB_told_22 : decode cB_told 22 = .ok (.iload_n 2, 1) := by decide +kernel
theorem dB_told_23 : decode cB_told 23 = .ok (.aload 4, 2) := by decide +kernel
theorem dB_told_25 : decode cB_told 25 = .ok (.getfield 148, 3) := by decide +kernel
theorem dB_told_28 : decode cB_told 28 = .ok (.if_icmp .lt 13, 3) := by decide +kernel
theorem dB_told_31 : decode cB_told 31 = .ok (.new 151, 3) := by decide +kernel
theorem dB_told_34 : decode cB_told 34 = .ok (.dup, 1) := by decide +kernel
theorem dB_told_35 : decode cB_told 35 = .ok (.ldc 153, 2) := by decide +kernel
theorem dB_told_37 : decode cB_told 37 = .ok (.invokespecial 155, 3) := by decide +kernel
theorem dB_told_40 : decode cB_told 40 = .ok (.athrow, 1) := by decide +kernel
theorem dB_told_41 : decode cB_told 41 = .ok (.aload 4, 2) := by decide +kernel
theorem dB_told_43 : decode cB_told 43 = .ok (.getfield 164, 3) := by decide +kernel
theorem dB_told_46 : decode cB_told 46 = .ok (.iload_n 2, 1) := by decide +kernel
theorem dB_told_47 : decode cB_told 47 = .ok (.aaload, 1) := by decide +kernel
theorem dB_told_48 : decode cB_told 48 = .ok (.astore 5, 2) := by decide +kernel
theorem dB_told_50 : decode cB_told 50 = .ok (.aload 5, 2) := by decide +kernel
theorem dB_told_52 : decode cB_told 52 = .ok (.ifnonnull 13, 3) := by decide +kernel
theorem dB_told_55 : decode cB_told 55 = .ok (.new 168, 3) := by decide +kernel
theorem dB_told_58 : decode cB_told 58 = .ok (.dup, 1) := by decide +kernel
theorem dB_told_59 : decode cB_told 59 = .ok (.ldc 170, 2) := by decide +kernel
theorem dB_told_61 : decode cB_told 61 = .ok (.invokespecial 172, 3) := by decide +kernel
theorem dB_told_64 : decode cB_told 64 = .ok (.athrow, 1) := by decide +kernel
theorem dB_told_65 : decode cB_told 65 = .ok (.iload_n 3, 1) := by decide +kernel
theorem dB_told_96 : decode cB_told 96 = .ok (.aload 5, 2) := by decide +kernel
theorem dB_told_98 : decode cB_told 98 = .ok (.getfield 173, 3) := by decide +kernel
theorem dB_told_101 : decode cB_told 101 = .ok (.ireturn, 1) := by decide +kernel
theorem dB_told_102 : decode cB_told 102 = .ok (.aload 5, 2) := by decide +kernel
theorem dB_told_104 : decode cB_told 104 = .ok (.getfield 176, 3) := by decide +kernel
theorem dB_told_107 : decode cB_told 107 = .ok (.ireturn, 1) := by decide +kernel
theorem dB_told_108 : decode cB_told 108 = .ok (.aload 5, 2) := by decide +kernel
theorem dB_told_110 : decode cB_told 110 = .ok (.getfield 179, 3) := by decide +kernel
theorem dB_told_113 : decode cB_told 113 = .ok (.ireturn, 1) := by decide +kernel
theorem dB_told_114 : decode cB_told 114 = .ok (.aload 5, 2) := by decide +kernel
theorem dB_told_116 : decode cB_told 116 = .ok (.getfield 182, 3) := by decide +kernel
theorem dB_told_119 : decode cB_told 119 = .ok (.ireturn, 1) := by decide +kernel
theorem dB_told_120 : decode cB_told 120 = .ok (.aload 5, 2) := by decide +kernel
theorem dB_told_122 : decode cB_told 122 = .ok (.getfield 183, 3) := by decide +kernel
theorem dB_told_125 : decode cB_told 125 = .ok (.ireturn, 1) := by decide +kernel
theorem dB_compact_0 : decode cB_compact 0 = .ok (.aload_n 0, 1) := by decide +kernel
theorem dB_compact_1 : decode cB_compact 1 = .ok (.iload_n 1, 1) := by decide +kernel
theorem dB_compact_2 : decode cB_compact 2 = .ok (.invokevirtual 80, 3) := by decide +kernel
theorem dB_compact_5 : decode cB_compact 5 = .ok (.astore_n 2, 1) := by decide +kernel
theorem dB_compact_6 : decode cB_compact 6 = .ok (.aload_n 2, 1) := by decide +kernel
theorem dB_compact_7 : decode cB_compact 7 = .ok (.getfield 186, 3) := by decide +kernel
theorem dB_compact_10 : decode cB_compact 10 = .ok (.ifCond .ne 13, 3) := by decide +kernel
theorem dB_compact_13 : decode cB_compact 13 = .ok (.new 49, 3) := by decide +kernel
theorem dB_compact_16 : decode cB_compact 16 = .ok (.dup, 1) := by decide +kernel
theorem dB_compact_17 : decode cB_compact 17 = .ok (.ldc 189, 2) := by decide +kernel
theorem dB_compact_19 : decode cB_compact 19 = .ok (.invokespecial 53, 3) := by decide +kernel
theorem dB_compact_22 : decode cB_compact 22 = .ok (.athrow, 1) := by decide +kernel
theorem dB_compact_23 : decode cB_compact 23 = .ok (.aload_n 2, 1) := by decide +kernel
theorem dB_compact_24 : decode cB_compact 24 = .ok (.invokevirtual 191, 3) := by decide +kernel
theorem dB_compact_27 : decode cB_compact 27 = .ok (.istore_n 3, 1) := by decide +kernel
theorem dB_compact_28 : decode cB_compact 28 = .ok (.aload_n 0, 1) := by decide +kernel
theorem dB_compact_29 : decode cB_compact 29 = .ok (.dup, 1) := by decide +kernel
theorem dB_compact_30 : decode cB_compact 30 = .ok (.getfield 195, 3) := by decide +kernel
theorem dB_compact_33 : decode cB_compact 33 = .ok (.iload_n 3, 1) := by decide +kernel
theorem dB_compact_34 : decode cB_compact 34 = .ok (.iadd, 1) := by decide +kernel
theorem dB_compact_35 : decode cB_compact 35 = .ok (.putfield 195, 3) := by decide +kernel
theorem dB_compact_38 : decode cB_compact 38 = .ok (.iload_n 3, 1) := by decide +kernel
theorem dB_compact_39 : decode cB_compact 39 = .ok (.ireturn, 1) := by decide +kernel
theorem dB_join_0 : decode cB_join 0 = .ok (.iload_n 1, 1) := by decide +kernel
theorem dB_join_1 : decode cB_join 1 = .ok (.iconst 0, 1) := by decide +kernel
theorem dB_join_2 : decode cB_join 2 = .ok (.iconst 1, 1) := by decide +kernel
theorem dB_join_3 : decode cB_join 3 = .ok (.invokestatic 45, 3) := by decide +kernel
theorem dB_join_6 : decode cB_join 6 = .ok (.iload_n 2, 1) := by decide +kernel
theorem dB_join_7 : decode cB_join 7 = .ok (.iconst 0, 1) := by decide +kernel
theorem dB_join_8 : decode cB_join 8 = .ok (.iconst 3, 1) := by decide +kernel
theorem dB_join_9 : decode cB_join 9 = .ok (.invokestatic 45, 3) := by decide +kernel
theorem dB_join_12 : decode cB_join 12 = .ok (.iload_n 3, 1) := by decide +kernel
theorem dB_join_13 : decode cB_join 13 = .ok (.iconst 0, 1) := by decide +kernel
theorem dB_join_14 : decode cB_join 14 = .ok (.iconst 2, 1) := by decide +kernel
theorem dB_join_15 : decode cB_join 15 = .ok (.invokestatic 45, 3) := by decide +kernel
theorem dB_join_18 : decode cB_join 18 = .ok (.aload_n 0, 1) := by decide +kernel
theorem dB_join_19 : decode cB_join 19 = .ok (.getfield 9, 3) := by decide +kernel
theorem dB_join_22 : decode cB_join 22 = .ok (.iload_n 3, 1) := by decide +kernel
theorem dB_join_23 : decode cB_join 23 = .ok (.iaload, 1) := by decide +kernel
theorem dB_join_24 : decode cB_join 24 = .ok (.ifCond .ne 13, 3) := by decide +kernel
theorem dB_join_27 : decode cB_join 27 = .ok (.new 168, 3) := by decide +kernel
theorem dB_join_30 : decode cB_join 30 = .ok (.dup, 1) := by decide +kernel
theorem dB_join_31 : decode cB_join 31 = .ok (.ldc 198, 2) := by decide +kernel
theorem dB_join_33 : decode cB_join 33 = .ok (.invokespecial 172, 3) := by decide +kernel
theorem dB_join_36 : decode cB_join 36 = .ok (.athrow, 1) := by decide +kernel
theorem dB_join_37 : decode cB_join 37 = .ok (.aload_n 0, 1) := by decide +kernel
theorem dB_join_38 : decode cB_join 38 = .ok (.getfield 33, 3) := by decide +kernel
theorem dB_join_41 : decode cB_join 41 = .ok (.iload_n 1, 1) := by decide +kernel
theorem dB_join_42 : decode cB_join 42 = .ok (.aaload, 1) := by decide +kernel
theorem dB_join_43 : decode cB_join 43 = .ok (.iload_n 2, 1) := by decide +kernel
theorem dB_join_44 : decode cB_join 44 = .ok (.iload_n 3, 1) := by decide +kernel
theorem dB_join_45 : decode cB_join 45 = .ok (.aload_n 0, 1) := by decide +kernel
theorem dB_join_46 : decode cB_join 46 = .ok (.getfield 9, 3) := by decide +kernel
theorem dB_join_49 : decode cB_join 49 = .ok (.invokevirtual 200, 3) := by decide +kernel
theorem dB_join_52 : decode cB_join 52 = .ok (.ireturn, 1) := by decide +kernel
theorem dB_leave_0 : decode cB_leave 0 = .ok (.iload_n 1, 1) := by decide +kernel
theorem dB_leave_1 : decode cB_leave 1 = .ok (.iconst 0, 1) := by decide +kernel
theorem dB_leave_2 : decode cB_leave 2 = .ok (.iconst 1, 1) := by decide +kernel
theorem dB_leave_3 : decode cB_leave 3 = .ok (.invokestatic 45, 3) := by decide +kernel
theorem dB_leave_6 : decode cB_leave 6 = .ok (.iload_n 2, 1) := by decide +kernel
theorem dB_leave_7 : decode cB_leave 7 = .ok (.iconst 0, 1) := by decide +kernel
theorem dB_leave_8 : decode cB_leave 8 = .ok (.iconst 3, 1) := by decide +kernel
theorem dB_leave_9 : decode cB_leave 9 = .ok (.invokestatic 45, 3) := by decide +kernel
theorem dB_leave_12 : decode cB_leave 12 = .ok (.aload_n 0, 1) := by decide +kernel
theorem dB_leave_13 : decode cB_leave 13 = .ok (.getfield 33, 3) := by decide +kernel
theorem dB_leave_16 : decode cB_leave 16 = .ok (.iload_n 1, 1) := by decide +kernel
theorem dB_leave_17 : decode cB_leave 17 = .ok (.aaload, 1) := by decide +kernel
theorem dB_leave_18 : decode cB_leave 18 = .ok (.getfield 204, 3) := by decide +kernel
theorem dB_leave_21 : decode cB_leave 21 = .ok (.iload_n 2, 1) := by decide +kernel
theorem dB_leave_22 : decode cB_leave 22 = .ok (.iaload, 1) := by decide +kernel
theorem dB_leave_23 : decode cB_leave 23 = .ok (.iconst (-1), 1) := by decide +kernel
theorem dB_leave_24 : decode cB_leave 24 = .ok (.if_icmp .ne 13, 3) := by decide +kernel
theorem dB_leave_27 : decode cB_leave 27 = .ok (.new 168, 3) := by decide +kernel
theorem dB_leave_30 : decode cB_leave 30 = .ok (.dup, 1) := by decide +kernel
theorem dB_leave_31 : decode cB_leave 31 = .ok (.ldc 207, 2) := by decide +kernel
theorem dB_leave_33 : decode cB_leave 33 = .ok (.invokespecial 172, 3) := by decide +kernel
theorem dB_leave_36 : decode cB_leave 36 = .ok (.athrow, 1) := by decide +kernel
theorem dB_leave_37 : decode cB_leave 37 = .ok (.aload_n 0, 1) := by decide +kernel
theorem dB_leave_38 : decode cB_leave 38 = .ok (.getfield 33, 3) := by decide +kernel
theorem dB_leave_41 : decode cB_leave 41 = .ok (.iload_n 1, 1) := by decide +kernel
theorem dB_leave_42 : decode cB_leave 42 = .ok (.aaload, 1) := by decide +kernel
theorem dB_leave_43 : decode cB_leave 43 = .ok (.iload_n 2, 1) := by decide +kernel
theorem dB_leave_44 : decode cB_leave 44 = .ok (.iconst (-1), 1) := by decide +kernel
theorem dB_leave_45 : decode cB_leave 45 = .ok (.aload_n 0, 1) := by decide +kernel
theorem dB_leave_46 : decode cB_leave 46 = .ok (.getfield 9, 3) := by decide +kernel
theorem dB_leave_49 : decode cB_leave 49 = .ok (.invokevirtual 200, 3) := by decide +kernel
theorem dB_leave_52 : decode cB_leave 52 = .ok (.ireturn, 1) := by decide +kernel
theorem dB_owner_0 : decode cB_owner 0 = .ok (.iload_n 1, 1) := by decide +kernel
theorem dB_owner_1 : decode cB_owner 1 = .ok (.iconst 0, 1) := by decide +kernel
theorem dB_owner_2 : decode cB_owner 2 = .ok (.iconst 1, 1) := by decide +kernel
theorem dB_owner_3 : decode cB_owner 3 = .ok (.invokestatic 45, 3) := by decide +kernel
theorem dB_owner_6 : decode cB_owner 6 = .ok (.aload_n 0, 1) := by decide +kernel
theorem dB_owner_7 : decode cB_owner 7 = .ok (.iload_n 2, 1) := by decide +kernel
theorem dB_owner_8 : decode cB_owner 8 = .ok (.invokevirtual 80, 3) := by decide +kernel
theorem dB_owner_11 : decode cB_owner 11 = .ok (.pop, 1) := by decide +kernel
theorem dB_owner_12 : decode cB_owner 12 = .ok (.aload_n 0, 1) := by decide +kernel
theorem dB_owner_13 : decode cB_owner 13 = .ok (.getfield 33, 3) := by decide +kernel
theorem dB_owner_16 : decode cB_owner 16 = .ok (.iload_n 1, 1) := by decide +kernel
theorem dB_owner_17 : decode cB_owner 17 = .ok (.aaload, 1) := by decide +kernel
theorem dB_owner_18 : decode cB_owner 18 = .ok (.getfield 209, 3) := by decide +kernel
theorem dB_owner_21 : decode cB_owner 21 = .ok (.iload_n 2, 1) := by decide +kernel
theorem dB_owner_22 : decode cB_owner 22 = .ok (.iaload, 1) := by decide +kernel
theorem dB_owner_23 : decode cB_owner 23 = .ok (.invokestatic 160, 3) := by decide +kernel
theorem dB_owner_26 : decode cB_owner 26 = .ok (.ireturn, 1) := by decide +kernel
theorem dB_poll_0 : decode cB_poll 0 = .ok (.iload_n 1, 1) := by decide +kernel
theorem dB_poll_1 : decode cB_poll 1 = .ok (.iconst 0, 1) := by decide +kernel
theorem dB_poll_2 : decode cB_poll 2 = .ok (.iconst 1, 1) := by decide +kernel
theorem dB_poll_3 : decode cB_poll 3 = .ok (.invokestatic 45, 3) := by decide +kernel
theorem dB_poll_6 : decode cB_poll 6 = .ok (.iload_n 2, 1) := by decide +kernel
theorem dB_poll_7 : decode cB_poll 7 = .ok (.iconst 0, 1) := by decide +kernel
theorem dB_poll_8 : decode cB_poll 8 = .ok (.iconst 3, 1) := by decide +kernel
theorem dB_poll_9 : decode cB_poll 9 = .ok (.invokestatic 45, 3) := by decide +kernel
theorem dB_poll_12 : decode cB_poll 12 = .ok (.aload_n 0, 1) := by decide +kernel
theorem dB_poll_13 : decode cB_poll 13 = .ok (.iload 4, 2) := by decide +kernel
theorem dB_poll_15 : decode cB_poll 15 = .ok (.invokevirtual 80, 3) := by decide +kernel
theorem dB_poll_18 : decode cB_poll 18 = .ok (.astore 5, 2) := by decide +kernel
theorem dB_poll_20 : decode cB_poll 20 = .ok (.aload_n 0, 1) := by decide +kernel
theorem dB_poll_21 : decode cB_poll 21 = .ok (.getfield 33, 3) := by decide +kernel
theorem dB_poll_24 : decode cB_poll 24 = .ok (.iload_n 1, 1) := by decide +kernel
theorem dB_poll_25 : decode cB_poll 25 = .ok (.aaload, 1) := by decide +kernel
theorem dB_poll_26 : decode cB_poll 26 = .ok (.astore 6, 2) := by decide +kernel
theorem dB_poll_28 : decode cB_poll 28 = .ok (.aload 6, 2) := by decide +kernel
theorem dB_poll_30 : decode cB_poll 30 = .ok (.iload_n 2, 1) := by decide +kernel
theorem dB_poll_31 : decode cB_poll 31 = .ok (.iload_n 3, 1) := by decide +kernel
theorem dB_poll_32 : decode cB_poll 32 = .ok (.iload 4, 2) := by decide +kernel
theorem dB_poll_34 : decode cB_poll 34 = .ok (.invokestatic 212, 3) := by decide +kernel
theorem dB_poll_37 : decode cB_poll 37 = .ok (.aload 5, 2) := by decide +kernel
theorem dB_poll_39 : decode cB_poll 39 = .ok (.aload 6, 2) := by decide +kernel
theorem dB_poll_41 : decode cB_poll 41 = .ok (.getfield 216, 3) := by decide +kernel
theorem dB_poll_44 : decode cB_poll 44 = .ok (.iload 4, 2) := by decide +kernel
theorem dB_poll_46 : decode cB_poll 46 = .ok (.iaload, 1) := by decide +kernel
theorem dB_poll_47 : decode cB_poll 47 = .ok (.aload 5, 2) := by decide +kernel
theorem dB_poll_49 : decode cB_poll 49 = .ok (.getfield 145, 3) := by decide +kernel
theorem dB_poll_52 : decode cB_poll 52 = .ok (.invokestatic 219, 3) := by decide +kernel
theorem dB_poll_55 : decode cB_poll 55 = .ok (.iconst 1, 1) := by decide +kernel
theorem dB_poll_56 : decode cB_poll 56 = .ok (.invokevirtual 156, 3) := by decide +kernel
theorem dB_poll_59 : decode cB_poll 59 = .ok (.invokestatic 160, 3) := by decide +kernel
theorem dB_poll_62 : decode cB_poll 62 = .ok (.istore 7, 2) := by decide +kernel
theorem dB_poll_64 : decode cB_poll 64 = .ok (.aload 6, 2) := by decide +kernel
theorem dB_poll_66 : decode cB_poll 66 = .ok (.getfield 216, 3) := by decide +kernel
theorem dB_poll_69 : decode cB_poll 69 = .ok (.iload 4, 2) := by decide +kernel
theorem dB_poll_71 : decode cB_poll 71 = .ok (.iload 7, 2) := by decide +kernel
theorem dB_poll_73 : decode cB_poll 73 = .ok (.iconst 1, 1) := by decide +kernel
theorem dB_poll_74 : decode cB_poll 74 = .ok (.iadd, 1) := by decide +kernel
theorem dB_poll_75 : decode cB_poll 75 = .ok (.iastore, 1) := by decide +kernel
theorem dB_poll_76 : decode cB_poll 76 = .ok (.iload 7, 2) := by decide +kernel
theorem dB_poll_78 : decode cB_poll 78 = .ok (.ireturn, 1) := by decide +kernel
theorem dB_keep_0 : decode cB_keep 0 = .ok (.iload_n 1, 1) := by decide +kernel
theorem dB_keep_1 : decode cB_keep 1 = .ok (.iconst 0, 1) := by decide +kernel
theorem dB_keep_2 : decode cB_keep 2 = .ok (.iconst 1, 1) := by decide +kernel
theorem dB_keep_3 : decode cB_keep 3 = .ok (.invokestatic 45, 3) := by decide +kernel
theorem dB_keep_6 : decode cB_keep 6 = .ok (.iload_n 2, 1) := by decide +kernel
theorem dB_keep_7 : decode cB_keep 7 = .ok (.iconst 0, 1) := by decide +kernel
theorem dB_keep_8 : decode cB_keep 8 = .ok (.iconst 3, 1) := by decide +kernel
theorem dB_keep_9 : decode cB_keep 9 = .ok (.invokestatic 45, 3) := by decide +kernel
theorem dB_keep_12 : decode cB_keep 12 = .ok (.aload_n 0, 1) := by decide +kernel
theorem dB_keep_13 : decode cB_keep 13 = .ok (.iload 4, 2) := by decide +kernel
theorem dB_keep_15 : decode cB_keep 15 = .ok (.invokevirtual 80, 3) := by decide +kernel
theorem dB_keep_18 : decode cB_keep 18 = .ok (.astore 6, 2) := by decide +kernel
theorem dB_keep_20 : decode cB_keep 20 = .ok (.iload 5, 2) := by decide +kernel
theorem dB_keep_22 : decode cB_keep 22 = .ok (.iconst 0, 1) := by decide +kernel
theorem dB_keep_23 : decode cB_keep 23 = .ok (.aload 6, 2) := by decide +kernel
theorem dB_keep_25 : decode cB_keep 25 = .ok (.getfield 148, 3) := by decide +kernel
theorem dB_keep_28 : decode cB_keep 28 = .ok (.invokestatic 45, 3) := by decide +kernel
theorem dB_keep_31 : decode cB_keep 31 = .ok (.aload_n 0, 1) := by decide +kernel
theorem dB_keep_32 : decode cB_keep 32 = .ok (.getfield 33, 3) := by decide +kernel
theorem dB_keep_35 : decode cB_keep 35 = .ok (.iload_n 1, 1) := by decide +kernel
theorem dB_keep_36 : decode cB_keep 36 = .ok (.aaload, 1) := by decide +kernel
theorem dB_keep_37 : decode cB_keep 37 = .ok (.iload_n 2, 1) := by decide +kernel
theorem dB_keep_38 : decode cB_keep 38 = .ok (.iload_n 3, 1) := by decide +kernel
theorem dB_keep_39 : decode cB_keep 39 = .ok (.iload 4, 2) := by decide +kernel
theorem dB_keep_41 : decode cB_keep 41 = .ok (.invokestatic 212, 3) := by decide +kernel
theorem dB_keep_44 : decode cB_keep 44 = .ok (.aload_n 0, 1) := by decide +kernel
theorem dB_keep_45 : decode cB_keep 45 = .ok (.getfield 33, 3) := by decide +kernel
theorem dB_keep_48 : decode cB_keep 48 = .ok (.iload_n 1, 1) := by decide +kernel
theorem dB_keep_49 : decode cB_keep 49 = .ok (.aaload, 1) := by decide +kernel
theorem dB_keep_50 : decode cB_keep 50 = .ok (.getfield 224, 3) := by decide +kernel
theorem dB_keep_53 : decode cB_keep 53 = .ok (.iload 4, 2) := by decide +kernel
theorem dB_keep_55 : decode cB_keep 55 = .ok (.iload 5, 2) := by decide +kernel
theorem dB_keep_57 : decode cB_keep 57 = .ok (.iastore, 1) := by decide +kernel
theorem dB_keep_58 : decode cB_keep 58 = .ok (.return_, 1) := by decide +kernel
theorem dB_log_0 : decode cB_log 0 = .ok (.aload_n 0, 1) := by decide +kernel
theorem dB_log_1 : decode cB_log 1 = .ok (.iload_n 1, 1) := by decide +kernel
theorem dB_log_2 : decode cB_log 2 = .ok (.invokevirtual 80, 3) := by decide +kernel
theorem dB_log_5 : decode cB_log 5 = .ok (.astore_n 3, 1) := by decide +kernel
theorem dB_log_6 : decode cB_log 6 = .ok (.iload_n 2, 1) := by decide +kernel
theorem dB_log_7 : decode cB_log 7 = .ok (.iconst 0, 1) := by decide +kernel
theorem dB_log_8 : decode cB_log 8 = .ok (.bipush 8, 2) := by decide +kernel
theorem dB_log_10 : decode cB_log 10 = .ok (.invokestatic 45, 3) := by decide +kernel
theorem dB_log_13 : decode cB_log 13 = .ok (.iload_n 2, 1) := by decide +kernel
theorem dB_log_60 : decode cB_log 60 = .ok (.aload_n 3, 1) := by decide +kernel
theorem dB_log_61 : decode cB_log 61 = .ok (.getfield 145, 3) := by decide +kernel
theorem dB_log_64 : decode cB_log 64 = .ok (.ireturn, 1) := by decide +kernel
theorem dB_log_65 : decode cB_log 65 = .ok (.aload_n 3, 1) := by decide +kernel
theorem dB_log_66 : decode cB_log 66 = .ok (.getfield 148, 3) := by decide +kernel
theorem dB_log_69 : decode cB_log 69 = .ok (.ireturn, 1) := by decide +kernel
theorem dB_log_70 : decode cB_log 70 = .ok (.aload_n 3, 1) := by decide +kernel
theorem dB_log_71 : decode cB_log 71 = .ok (.invokevirtual 227, 3) := by decide +kernel
theorem dB_log_74 : decode cB_log 74 = .ok (.ireturn, 1) := by decide +kernel
theorem dB_log_75 : decode cB_log 75 = .ok (.aload_n 3, 1) := by decide +kernel
theorem dB_log_76 : decode cB_log 76 = .ok (.getfield 230, 3) := by decide +kernel
theorem dB_log_79 : decode cB_log 79 = .ok (.ireturn, 1) := by decide +kernel
theorem dB_log_80 : decode cB_log 80 = .ok (.aload_n 3, 1) := by decide +kernel
theorem dB_log_81 : decode cB_log 81 = .ok (.getfield 233, 3) := by decide +kernel
theorem dB_log_84 : decode cB_log 84 = .ok (.ireturn, 1) := by decide +kernel
theorem dB_log_85 : decode cB_log 85 = .ok (.aload_n 0, 1) := by decide +kernel
theorem dB_log_86 : decode cB_log 86 = .ok (.getfield 33, 3) := by decide +kernel
theorem dB_log_89 : decode cB_log 89 = .ok (.iconst 0, 1) := by decide +kernel
theorem dB_log_90 : decode cB_log 90 = .ok (.aaload, 1) := by decide +kernel
theorem dB_log_91 : decode cB_log 91 = .ok (.getfield 216, 3) := by decide +kernel
theorem dB_log_94 : decode cB_log 94 = .ok (.iload_n 1, 1) := by decide +kernel
theorem dB_log_95 : decode cB_log 95 = .ok (.iaload, 1) := by decide +kernel
theorem dB_log_96 : decode cB_log 96 = .ok (.ireturn, 1) := by decide +kernel
theorem dB_log_97 : decode cB_log 97 = .ok (.aload_n 0, 1) := by decide +kernel
theorem dB_log_98 : decode cB_log 98 = .ok (.getfield 33, 3) := by decide +kernel
theorem dB_log_101 : decode cB_log 101 = .ok (.iconst 1, 1) := by decide +kernel
theorem dB_log_102 : decode cB_log 102 = .ok (.aaload, 1) := by decide +kernel
theorem dB_log_103 : decode cB_log 103 = .ok (.getfield 216, 3) := by decide +kernel
theorem dB_log_106 : decode cB_log 106 = .ok (.iload_n 1, 1) := by decide +kernel
theorem dB_log_107 : decode cB_log 107 = .ok (.iaload, 1) := by decide +kernel
theorem dB_log_108 : decode cB_log 108 = .ok (.ireturn, 1) := by decide +kernel
theorem dB_log_109 : decode cB_log 109 = .ok (.aload_n 0, 1) := by decide +kernel
theorem dB_log_110 : decode cB_log 110 = .ok (.getfield 33, 3) := by decide +kernel
theorem dB_log_113 : decode cB_log 113 = .ok (.iconst 0, 1) := by decide +kernel
theorem dB_log_114 : decode cB_log 114 = .ok (.aaload, 1) := by decide +kernel
theorem dB_log_115 : decode cB_log 115 = .ok (.getfield 224, 3) := by decide +kernel
theorem dB_log_118 : decode cB_log 118 = .ok (.iload_n 1, 1) := by decide +kernel
theorem dB_log_119 : decode cB_log 119 = .ok (.iaload, 1) := by decide +kernel
theorem dB_log_120 : decode cB_log 120 = .ok (.ireturn, 1) := by decide +kernel
theorem dB_log_121 : decode cB_log 121 = .ok (.aload_n 0, 1) := by decide +kernel
theorem dB_log_122 : decode cB_log 122 = .ok (.getfield 33, 3) := by decide +kernel
theorem dB_log_125 : decode cB_log 125 = .ok (.iconst 1, 1) := by decide +kernel
theorem dB_log_126 : decode cB_log 126 = .ok (.aaload, 1) := by decide +kernel
theorem dB_log_127 : decode cB_log 127 = .ok (.getfield 224, 3) := by decide +kernel
theorem dB_log_130 : decode cB_log 130 = .ok (.iload_n 1, 1) := by decide +kernel
theorem dB_log_131 : decode cB_log 131 = .ok (.iaload, 1) := by decide +kernel
theorem dB_log_132 : decode cB_log 132 = .ok (.ireturn, 1) := by decide +kernel
theorem dB_count_0 : decode cB_count 0 = .ok (.iload_n 1, 1) := by decide +kernel
theorem dB_count_48 : decode cB_count 48 = .ok (.aload_n 0, 1) := by decide +kernel
theorem dB_count_49 : decode cB_count 49 = .ok (.getfield 236, 3) := by decide +kernel
theorem dB_count_52 : decode cB_count 52 = .ok (.ireturn, 1) := by decide +kernel
theorem dB_count_53 : decode cB_count 53 = .ok (.aload_n 0, 1) := by decide +kernel
theorem dB_count_54 : decode cB_count 54 = .ok (.getfield 105, 3) := by decide +kernel
theorem dB_count_57 : decode cB_count 57 = .ok (.ireturn, 1) := by decide +kernel
theorem dB_count_58 : decode cB_count 58 = .ok (.aload_n 0, 1) := by decide +kernel
theorem dB_count_59 : decode cB_count 59 = .ok (.getfield 239, 3) := by decide +kernel
theorem dB_count_62 : decode cB_count 62 = .ok (.ireturn, 1) := by decide +kernel
theorem dB_count_63 : decode cB_count 63 = .ok (.aload_n 0, 1) := by decide +kernel
theorem dB_count_64 : decode cB_count 64 = .ok (.getfield 242, 3) := by decide +kernel
theorem dB_count_67 : decode cB_count 67 = .ok (.ireturn, 1) := by decide +kernel
theorem dB_count_68 : decode cB_count 68 = .ok (.aload_n 0, 1) := by decide +kernel
theorem dB_count_69 : decode cB_count 69 = .ok (.getfield 195, 3) := by decide +kernel
theorem dB_count_72 : decode cB_count 72 = .ok (.ireturn, 1) := by decide +kernel
theorem dB_count_73 : decode cB_count 73 = .ok (.aload_n 0, 1) := by decide +kernel
theorem dB_count_74 : decode cB_count 74 = .ok (.invokevirtual 245, 3) := by decide +kernel
theorem dB_count_77 : decode cB_count 77 = .ok (.ireturn, 1) := by decide +kernel
theorem dB_count_78 : decode cB_count 78 = .ok (.aload_n 0, 1) := by decide +kernel
theorem dB_count_79 : decode cB_count 79 = .ok (.getfield 33, 3) := by decide +kernel
theorem dB_count_82 : decode cB_count 82 = .ok (.iconst 0, 1) := by decide +kernel
theorem dB_count_83 : decode cB_count 83 = .ok (.aaload, 1) := by decide +kernel
theorem dB_count_84 : decode cB_count 84 = .ok (.getfield 248, 3) := by decide +kernel
theorem dB_count_87 : decode cB_count 87 = .ok (.ireturn, 1) := by decide +kernel
theorem dB_count_88 : decode cB_count 88 = .ok (.aload_n 0, 1) := by decide +kernel
theorem dB_count_89 : decode cB_count 89 = .ok (.getfield 33, 3) := by decide +kernel
theorem dB_count_92 : decode cB_count 92 = .ok (.iconst 1, 1) := by decide +kernel
theorem dB_count_93 : decode cB_count 93 = .ok (.aaload, 1) := by decide +kernel
theorem dB_count_94 : decode cB_count 94 = .ok (.getfield 248, 3) := by decide +kernel
theorem dB_count_97 : decode cB_count 97 = .ok (.ireturn, 1) := by decide +kernel
theorem dB_count_98 : decode cB_count 98 = .ok (.iconst (-1), 1) := by decide +kernel
theorem dB_count_99 : decode cB_count 99 = .ok (.ireturn, 1) := by decide +kernel
theorem dB_mustBeWithin_0 : decode cB_mustBeWithin 0 = .ok (.iload_n 0, 1) := by decide +kernel
theorem dB_mustBeWithin_1 : decode cB_mustBeWithin 1 = .ok (.iload_n 1, 1) := by decide +kernel
theorem dB_mustBeWithin_2 : decode cB_mustBeWithin 2 = .ok (.if_icmp .lt 8, 3) := by decide +kernel
theorem dB_mustBeWithin_5 : decode cB_mustBeWithin 5 = .ok (.iload_n 0, 1) := by decide +kernel
theorem dB_mustBeWithin_6 : decode cB_mustBeWithin 6 = .ok (.iload_n 2, 1) := by decide +kernel
theorem dB_mustBeWithin_7 : decode cB_mustBeWithin 7 = .ok (.if_icmp .le 13, 3) := by decide +kernel
theorem dB_mustBeWithin_10 : decode cB_mustBeWithin 10 = .ok (.new 84, 3) := by decide +kernel
theorem dB_mustBeWithin_13 : decode cB_mustBeWithin 13 = .ok (.dup, 1) := by decide +kernel
theorem dB_mustBeWithin_14 : decode cB_mustBeWithin 14 = .ok (.ldc 251, 2) := by decide +kernel
theorem dB_mustBeWithin_16 : decode cB_mustBeWithin 16 = .ok (.invokespecial 88, 3) := by decide +kernel
theorem dB_mustBeWithin_19 : decode cB_mustBeWithin 19 = .ok (.athrow, 1) := by decide +kernel
theorem dB_mustBeWithin_20 : decode cB_mustBeWithin 20 = .ok (.return_, 1) := by decide +kernel
theorem dB_logAt_0 : decode cB_logAt 0 = .ok (.iload_n 1, 1) := by decide +kernel
theorem dB_logAt_1 : decode cB_logAt 1 = .ok (.ifCond .lt 18, 3) := by decide +kernel
theorem dB_logAt_4 : decode cB_logAt 4 = .ok (.iload_n 1, 1) := by decide +kernel
theorem dB_logAt_5 : decode cB_logAt 5 = .ok (.bipush 12, 2) := by decide +kernel
theorem dB_logAt_7 : decode cB_logAt 7 = .ok (.if_icmp .ge 12, 3) := by decide +kernel
theorem dB_logAt_10 : decode cB_logAt 10 = .ok (.aload_n 0, 1) := by decide +kernel
theorem dB_logAt_11 : decode cB_logAt 11 = .ok (.getfield 15, 3) := by decide +kernel
theorem dB_logAt_14 : decode cB_logAt 14 = .ok (.iload_n 1, 1) := by decide +kernel
theorem dB_logAt_15 : decode cB_logAt 15 = .ok (.aaload, 1) := by decide +kernel
theorem dB_logAt_16 : decode cB_logAt 16 = .ok (.ifnonnull 13, 3) := by decide +kernel
theorem dB_logAt_19 : decode cB_logAt 19 = .ok (.new 84, 3) := by decide +kernel
theorem dB_logAt_22 : decode cB_logAt 22 = .ok (.dup, 1) := by decide +kernel
theorem dB_logAt_23 : decode cB_logAt 23 = .ok (.ldc 253, 2) := by decide +kernel
theorem dB_logAt_25 : decode cB_logAt 25 = .ok (.invokespecial 88, 3) := by decide +kernel
theorem dB_logAt_28 : decode cB_logAt 28 = .ok (.athrow, 1) := by decide +kernel
theorem dB_logAt_29 : decode cB_logAt 29 = .ok (.aload_n 0, 1) := by decide +kernel
theorem dB_logAt_30 : decode cB_logAt 30 = .ok (.getfield 15, 3) := by decide +kernel
theorem dB_logAt_33 : decode cB_logAt 33 = .ok (.iload_n 1, 1) := by decide +kernel
theorem dB_logAt_34 : decode cB_logAt 34 = .ok (.aaload, 1) := by decide +kernel
theorem dB_logAt_35 : decode cB_logAt 35 = .ok (.areturn, 1) := by decide +kernel
theorem dB_openedSession_0 : decode cB_openedSession 0 = .ok (.aload_n 0, 1) := by decide +kernel
theorem dB_openedSession_1 : decode cB_openedSession 1 = .ok (.getfield 21, 3) := by decide +kernel
theorem dB_openedSession_4 : decode cB_openedSession 4 = .ok (.iload_n 1, 1) := by decide +kernel
theorem dB_openedSession_5 : decode cB_openedSession 5 = .ok (.aaload, 1) := by decide +kernel
theorem dB_openedSession_6 : decode cB_openedSession 6 = .ok (.getfield 63, 3) := by decide +kernel
theorem dB_openedSession_9 : decode cB_openedSession 9 = .ok (.iconst (-1), 1) := by decide +kernel
theorem dB_openedSession_10 : decode cB_openedSession 10 = .ok (.if_icmp .ne 13, 3) := by decide +kernel
theorem dB_openedSession_13 : decode cB_openedSession 13 = .ok (.new 168, 3) := by decide +kernel
theorem dB_openedSession_16 : decode cB_openedSession 16 = .ok (.dup, 1) := by decide +kernel
theorem dB_openedSession_17 : decode cB_openedSession 17 = .ok (.ldc 255, 2) := by decide +kernel
theorem dB_openedSession_19 : decode cB_openedSession 19 = .ok (.invokespecial 172, 3) := by decide +kernel
theorem dB_openedSession_22 : decode cB_openedSession 22 = .ok (.athrow, 1) := by decide +kernel
theorem dB_openedSession_23 : decode cB_openedSession 23 = .ok (.aload_n 0, 1) := by decide +kernel
theorem dB_openedSession_24 : decode cB_openedSession 24 = .ok (.getfield 21, 3) := by decide +kernel
theorem dB_openedSession_27 : decode cB_openedSession 27 = .ok (.iload_n 1, 1) := by decide +kernel
theorem dB_openedSession_28 : decode cB_openedSession 28 = .ok (.aaload, 1) := by decide +kernel
theorem dB_openedSession_29 : decode cB_openedSession 29 = .ok (.areturn, 1) := by decide +kernel
theorem dB_isCurrent_0 : decode cB_isCurrent 0 = .ok (.aload_n 0, 1) := by decide +kernel
theorem dB_isCurrent_1 : decode cB_isCurrent 1 = .ok (.getfield 21, 3) := by decide +kernel
theorem dB_isCurrent_4 : decode cB_isCurrent 4 = .ok (.iload_n 1, 1) := by decide +kernel
theorem dB_isCurrent_5 : decode cB_isCurrent 5 = .ok (.aaload, 1) := by decide +kernel
theorem dB_isCurrent_6 : decode cB_isCurrent 6 = .ok (.getfield 63, 3) := by decide +kernel
theorem dB_isCurrent_9 : decode cB_isCurrent 9 = .ok (.istore_n 2, 1) := by decide +kernel
theorem dB_isCurrent_10 : decode cB_isCurrent 10 = .ok (.iload_n 2, 1) := by decide +kernel
theorem dB_isCurrent_11 : decode cB_isCurrent 11 = .ok (.iconst (-1), 1) := by decide +kernel
theorem dB_isCurrent_12 : decode cB_isCurrent 12 = .ok (.if_icmp .eq 17, 3) := by decide +kernel
theorem dB_isCurrent_15 : decode cB_isCurrent 15 = .ok (.aload_n 0, 1) := by decide +kernel
theorem dB_isCurrent_16 : decode cB_isCurrent 16 = .ok (.getfield 25, 3) := by decide +kernel
theorem dB_isCurrent_19 : decode cB_isCurrent 19 = .ok (.iload_n 2, 1) := by decide +kernel
theorem dB_isCurrent_20 : decode cB_isCurrent 20 = .ok (.iaload, 1) := by decide +kernel
theorem dB_isCurrent_21 : decode cB_isCurrent 21 = .ok (.iload_n 1, 1) := by decide +kernel
theorem dB_isCurrent_22 : decode cB_isCurrent 22 = .ok (.if_icmp .ne 7, 3) := by decide +kernel
theorem dB_isCurrent_25 : decode cB_isCurrent 25 = .ok (.iconst 1, 1) := by decide +kernel
theorem dB_isCurrent_26 : decode cB_isCurrent 26 = .ok (.goto 4, 3) := by decide +kernel
theorem dB_isCurrent_29 : decode cB_isCurrent 29 = .ok (.iconst 0, 1) := by decide +kernel
theorem dB_isCurrent_30 : decode cB_isCurrent 30 = .ok (.ireturn, 1) := by decide +kernel
theorem dB_mustBeCurrent_0 : decode cB_mustBeCurrent 0 = .ok (.aload_n 0, 1) := by decide +kernel
theorem dB_mustBeCurrent_1 : decode cB_mustBeCurrent 1 = .ok (.iload_n 1, 1) := by decide +kernel
theorem dB_mustBeCurrent_2 : decode cB_mustBeCurrent 2 = .ok (.invokevirtual 73, 3) := by decide +kernel
theorem dB_mustBeCurrent_5 : decode cB_mustBeCurrent 5 = .ok (.ifCond .ne 14, 3) := by decide +kernel
theorem dB_mustBeCurrent_8 : decode cB_mustBeCurrent 8 = .ok (.new 116, 3) := by decide +kernel
theorem dB_mustBeCurrent_11 : decode cB_mustBeCurrent 11 = .ok (.dup, 1) := by decide +kernel
theorem dB_mustBeCurrent_12 : decode cB_mustBeCurrent 12 = .ok (.ldc_w 257, 3) := by decide +kernel
theorem dB_mustBeCurrent_15 : decode cB_mustBeCurrent 15 = .ok (.invokespecial 120, 3) := by decide +kernel
theorem dB_mustBeCurrent_18 : decode cB_mustBeCurrent 18 = .ok (.athrow, 1) := by decide +kernel
theorem dB_mustBeCurrent_19 : decode cB_mustBeCurrent 19 = .ok (.return_, 1) := by decide +kernel
theorem dB_found_0 : decode cB_found 0 = .ok (.iload_n 0, 1) := by decide +kernel
theorem dB_found_1 : decode cB_found 1 = .ok (.iconst (-1), 1) := by decide +kernel
theorem dB_found_2 : decode cB_found 2 = .ok (.if_icmp .ne 14, 3) := by decide +kernel
theorem dB_found_5 : decode cB_found 5 = .ok (.new 168, 3) := by decide +kernel
theorem dB_found_8 : decode cB_found 8 = .ok (.dup, 1) := by decide +kernel
theorem dB_found_9 : decode cB_found 9 = .ok (.ldc_w 259, 3) := by decide +kernel
theorem dB_found_12 : decode cB_found 12 = .ok (.invokespecial 172, 3) := by decide +kernel
theorem dB_found_15 : decode cB_found 15 = .ok (.athrow, 1) := by decide +kernel
theorem dB_found_16 : decode cB_found 16 = .ok (.iload_n 0, 1) := by decide +kernel
theorem dB_found_17 : decode cB_found 17 = .ok (.ireturn, 1) := by decide +kernel
theorem dB_mustOwn_0 : decode cB_mustOwn 0 = .ok (.iload_n 2, 1) := by decide +kernel
theorem dB_mustOwn_1 : decode cB_mustOwn 1 = .ok (.aload_n 0, 1) := by decide +kernel
theorem dB_mustOwn_2 : decode cB_mustOwn 2 = .ok (.getfield 248, 3) := by decide +kernel
theorem dB_mustOwn_5 : decode cB_mustOwn 5 = .ok (.if_icmp .ne 13, 3) := by decide +kernel
theorem dB_mustOwn_8 : decode cB_mustOwn 8 = .ok (.aload_n 0, 1) := by decide +kernel
theorem dB_mustOwn_9 : decode cB_mustOwn 9 = .ok (.getfield 209, 3) := by decide +kernel
theorem dB_mustOwn_12 : decode cB_mustOwn 12 = .ok (.iload_n 3, 1) := by decide +kernel
theorem dB_mustOwn_13 : decode cB_mustOwn 13 = .ok (.iaload, 1) := by decide +kernel
theorem dB_mustOwn_14 : decode cB_mustOwn 14 = .ok (.iload_n 1, 1) := by decide +kernel
theorem dB_mustOwn_15 : decode cB_mustOwn 15 = .ok (.if_icmp .eq 14, 3) := by decide +kernel
theorem dB_mustOwn_18 : decode cB_mustOwn 18 = .ok (.new 49, 3) := by decide +kernel
theorem dB_mustOwn_21 : decode cB_mustOwn 21 = .ok (.dup, 1) := by decide +kernel
theorem dB_mustOwn_22 : decode cB_mustOwn 22 = .ok (.ldc_w 261, 3) := by decide +kernel
theorem dB_mustOwn_25 : decode cB_mustOwn 25 = .ok (.invokespecial 53, 3) := by decide +kernel
theorem dB_mustOwn_28 : decode cB_mustOwn 28 = .ok (.athrow, 1) := by decide +kernel
theorem dB_mustOwn_29 : decode cB_mustOwn 29 = .ok (.return_, 1) := by decide +kernel
theorem dB_abortOpenTransactionOf_0 : decode cB_abortOpenTransactionOf 0 = .ok (.aload_n 0, 1) := by decide +kernel
theorem dB_abortOpenTransactionOf_1 : decode cB_abortOpenTransactionOf 1 = .ok (.getfield 25, 3) := by decide +kernel
theorem dB_abortOpenTransactionOf_4 : decode cB_abortOpenTransactionOf 4 = .ok (.iload_n 1, 1) := by decide +kernel
theorem dB_abortOpenTransactionOf_5 : decode cB_abortOpenTransactionOf 5 = .ok (.iaload, 1) := by decide +kernel
theorem dB_abortOpenTransactionOf_6 : decode cB_abortOpenTransactionOf 6 = .ok (.istore_n 2, 1) := by decide +kernel
theorem dB_abortOpenTransactionOf_7 : decode cB_abortOpenTransactionOf 7 = .ok (.iload_n 2, 1) := by decide +kernel
theorem dB_abortOpenTransactionOf_8 : decode cB_abortOpenTransactionOf 8 = .ok (.iconst (-1), 1) := by decide +kernel
theorem dB_abortOpenTransactionOf_9 : decode cB_abortOpenTransactionOf 9 = .ok (.if_icmp .eq 32, 3) := by decide +kernel
theorem dB_abortOpenTransactionOf_12 : decode cB_abortOpenTransactionOf 12 = .ok (.aload_n 0, 1) := by decide +kernel
theorem dB_abortOpenTransactionOf_13 : decode cB_abortOpenTransactionOf 13 = .ok (.getfield 21, 3) := by decide +kernel
theorem dB_abortOpenTransactionOf_16 : decode cB_abortOpenTransactionOf 16 = .ok (.iload_n 2, 1) := by decide +kernel
theorem dB_abortOpenTransactionOf_17 : decode cB_abortOpenTransactionOf 17 = .ok (.aaload, 1) := by decide +kernel
theorem dB_abortOpenTransactionOf_18 : decode cB_abortOpenTransactionOf 18 = .ok (.getfield 59, 3) := by decide +kernel
theorem dB_abortOpenTransactionOf_21 : decode cB_abortOpenTransactionOf 21 = .ok (.ifCond .eq 20, 3) := by decide +kernel
theorem dB_abortOpenTransactionOf_24 : decode cB_abortOpenTransactionOf 24 = .ok (.aload_n 0, 1) := by decide +kernel
theorem dB_abortOpenTransactionOf_25 : decode cB_abortOpenTransactionOf 25 = .ok (.iload_n 1, 1) := by decide +kernel
theorem dB_abortOpenTransactionOf_26 : decode cB_abortOpenTransactionOf 26 = .ok (.invokevirtual 138, 3) := by decide +kernel
theorem dB_abortOpenTransactionOf_29 : decode cB_abortOpenTransactionOf 29 = .ok (.aload_n 0, 1) := by decide +kernel
theorem dB_abortOpenTransactionOf_30 : decode cB_abortOpenTransactionOf 30 = .ok (.aload_n 0, 1) := by decide +kernel
theorem dB_abortOpenTransactionOf_31 : decode cB_abortOpenTransactionOf 31 = .ok (.getfield 21, 3) := by decide +kernel
theorem dB_abortOpenTransactionOf_34 : decode cB_abortOpenTransactionOf 34 = .ok (.iload_n 2, 1) := by decide +kernel
theorem dB_abortOpenTransactionOf_35 : decode cB_abortOpenTransactionOf 35 = .ok (.aaload, 1) := by decide +kernel
theorem dB_abortOpenTransactionOf_36 : decode cB_abortOpenTransactionOf 36 = .ok (.iconst 0, 1) := by decide +kernel
theorem dB_abortOpenTransactionOf_37 : decode cB_abortOpenTransactionOf 37 = .ok (.invokevirtual 141, 3) := by decide +kernel
theorem dB_abortOpenTransactionOf_40 : decode cB_abortOpenTransactionOf 40 = .ok (.pop, 1) := by decide +kernel
theorem dB_abortOpenTransactionOf_41 : decode cB_abortOpenTransactionOf 41 = .ok (.return_, 1) := by decide +kernel
theorem dB_mustHaveRoomForMarkers_0 : decode cB_mustHaveRoomForMarkers 0 = .ok (.iconst 0, 1) := by decide +kernel
theorem dB_mustHaveRoomForMarkers_1 : decode cB_mustHaveRoomForMarkers 1 = .ok (.istore_n 2, 1) := by decide +kernel
theorem dB_mustHaveRoomForMarkers_2 : decode cB_mustHaveRoomForMarkers 2 = .ok (.iload_n 2, 1) := by decide +kernel
theorem dB_mustHaveRoomForMarkers_3 : decode cB_mustHaveRoomForMarkers 3 = .ok (.bipush 12, 2) := by decide +kernel
theorem dB_mustHaveRoomForMarkers_5 : decode cB_mustHaveRoomForMarkers 5 = .ok (.if_icmp .ge 41, 3) := by decide +kernel
theorem dB_mustHaveRoomForMarkers_8 : decode cB_mustHaveRoomForMarkers 8 = .ok (.aload_n 0, 1) := by decide +kernel
theorem dB_mustHaveRoomForMarkers_9 : decode cB_mustHaveRoomForMarkers 9 = .ok (.iload_n 2, 1) := by decide +kernel
theorem dB_mustHaveRoomForMarkers_10 : decode cB_mustHaveRoomForMarkers 10 = .ok (.iload_n 1, 1) := by decide +kernel
theorem dB_mustHaveRoomForMarkers_11 : decode cB_mustHaveRoomForMarkers 11 = .ok (.invokevirtual 263, 3) := by decide +kernel
theorem dB_mustHaveRoomForMarkers_14 : decode cB_mustHaveRoomForMarkers 14 = .ok (.ifCond .eq 26, 3) := by decide +kernel
theorem dB_mustHaveRoomForMarkers_17 : decode cB_mustHaveRoomForMarkers 17 = .ok (.aload_n 0, 1) := by decide +kernel
theorem dB_mustHaveRoomForMarkers_18 : decode cB_mustHaveRoomForMarkers 18 = .ok (.getfield 15, 3) := by decide +kernel
theorem dB_mustHaveRoomForMarkers_21 : decode cB_mustHaveRoomForMarkers 21 = .ok (.iload_n 2, 1) := by decide +kernel
theorem dB_mustHaveRoomForMarkers_22 : decode cB_mustHaveRoomForMarkers 22 = .ok (.aaload, 1) := by decide +kernel
theorem dB_mustHaveRoomForMarkers_23 : decode cB_mustHaveRoomForMarkers 23 = .ok (.invokevirtual 112, 3) := by decide +kernel
theorem dB_mustHaveRoomForMarkers_26 : decode cB_mustHaveRoomForMarkers 26 = .ok (.ifCond .eq 14, 3) := by decide +kernel
theorem dB_mustHaveRoomForMarkers_29 : decode cB_mustHaveRoomForMarkers 29 = .ok (.new 116, 3) := by decide +kernel
theorem dB_mustHaveRoomForMarkers_32 : decode cB_mustHaveRoomForMarkers 32 = .ok (.dup, 1) := by decide +kernel
theorem dB_mustHaveRoomForMarkers_33 : decode cB_mustHaveRoomForMarkers 33 = .ok (.ldc_w 266, 3) := by decide +kernel
theorem dB_mustHaveRoomForMarkers_36 : decode cB_mustHaveRoomForMarkers 36 = .ok (.invokespecial 120, 3) := by decide +kernel
theorem dB_mustHaveRoomForMarkers_39 : decode cB_mustHaveRoomForMarkers 39 = .ok (.athrow, 1) := by decide +kernel
theorem dB_mustHaveRoomForMarkers_40 : decode cB_mustHaveRoomForMarkers 40 = .ok (.iinc 2 1, 3) := by decide +kernel
theorem dB_mustHaveRoomForMarkers_43 : decode cB_mustHaveRoomForMarkers 43 = .ok (.goto (-41), 3) := by decide +kernel
theorem dB_mustHaveRoomForMarkers_46 : decode cB_mustHaveRoomForMarkers 46 = .ok (.return_, 1) := by decide +kernel
theorem dB_awaitsMarker_0 : decode cB_awaitsMarker 0 = .ok (.aload_n 0, 1) := by decide +kernel
theorem dB_awaitsMarker_1 : decode cB_awaitsMarker 1 = .ok (.getfield 15, 3) := by decide +kernel
theorem dB_awaitsMarker_4 : decode cB_awaitsMarker 4 = .ok (.iload_n 1, 1) := by decide +kernel
theorem dB_awaitsMarker_5 : decode cB_awaitsMarker 5 = .ok (.aaload, 1) := by decide +kernel
theorem dB_awaitsMarker_6 : decode cB_awaitsMarker 6 = .ok (.ifnull 20, 3) := by decide +kernel
theorem dB_awaitsMarker_9 : decode cB_awaitsMarker 9 = .ok (.aload_n 0, 1) := by decide +kernel
theorem dB_awaitsMarker_10 : decode cB_awaitsMarker 10 = .ok (.getfield 15, 3) := by decide +kernel
theorem dB_awaitsMarker_13 : decode cB_awaitsMarker 13 = .ok (.iload_n 1, 1) := by decide +kernel
theorem dB_awaitsMarker_14 : decode cB_awaitsMarker 14 = .ok (.aaload, 1) := by decide +kernel
theorem dB_awaitsMarker_15 : decode cB_awaitsMarker 15 = .ok (.iload_n 2, 1) := by decide +kernel
theorem dB_awaitsMarker_16 : decode cB_awaitsMarker 16 = .ok (.invokevirtual 268, 3) := by decide +kernel
theorem dB_awaitsMarker_19 : decode cB_awaitsMarker 19 = .ok (.ifCond .eq 7, 3) := by decide +kernel
theorem dB_awaitsMarker_22 : decode cB_awaitsMarker 22 = .ok (.iconst 1, 1) := by decide +kernel
theorem dB_awaitsMarker_23 : decode cB_awaitsMarker 23 = .ok (.goto 4, 3) := by decide +kernel
theorem dB_awaitsMarker_26 : decode cB_awaitsMarker 26 = .ok (.iconst 0, 1) := by decide +kernel
theorem dB_awaitsMarker_27 : decode cB_awaitsMarker 27 = .ok (.ireturn, 1) := by decide +kernel
theorem dB_decide_0 : decode cB_decide 0 = .ok (.aload_n 1, 1) := by decide +kernel
theorem dB_decide_1 : decode cB_decide 1 = .ok (.getfield 63, 3) := by decide +kernel
theorem dB_decide_4 : decode cB_decide 4 = .ok (.istore_n 3, 1) := by decide +kernel
theorem dB_decide_5 : decode cB_decide 5 = .ok (.aload_n 0, 1) := by decide +kernel
theorem dB_decide_6 : decode cB_decide 6 = .ok (.getfield 239, 3) := by decide +kernel
theorem dB_decide_9 : decode cB_decide 9 = .ok (.istore 4, 2) := by decide +kernel
theorem dB_decide_11 : decode cB_decide 11 = .ok (.iconst 0, 1) := by decide +kernel
theorem dB_decide_12 : decode cB_decide 12 = .ok (.istore 5, 2) := by decide +kernel
theorem dB_decide_14 : decode cB_decide 14 = .ok (.iload 5, 2) := by decide +kernel
theorem dB_decide_16 : decode cB_decide 16 = .ok (.bipush 12, 2) := by decide +kernel
theorem dB_decide_18 : decode cB_decide 18 = .ok (.if_icmp .ge 61, 3) := by decide +kernel
theorem dB_decide_21 : decode cB_decide 21 = .ok (.aload_n 0, 1) := by decide +kernel
theorem dB_decide_22 : decode cB_decide 22 = .ok (.iload 5, 2) := by decide +kernel
theorem dB_decide_24 : decode cB_decide 24 = .ok (.iload_n 3, 1) := by decide +kernel
theorem dB_decide_25 : decode cB_decide 25 = .ok (.invokevirtual 263, 3) := by decide +kernel
theorem dB_decide_28 : decode cB_decide 28 = .ok (.ifCond .eq 45, 3) := by decide +kernel
theorem dB_decide_31 : decode cB_decide 31 = .ok (.aload_n 0, 1) := by decide +kernel
theorem dB_decide_32 : decode cB_decide 32 = .ok (.aload_n 0, 1) := by decide +kernel
theorem dB_decide_33 : decode cB_decide 33 = .ok (.getfield 15, 3) := by decide +kernel
theorem dB_decide_36 : decode cB_decide 36 = .ok (.iload 5, 2) := by decide +kernel
theorem dB_decide_38 : decode cB_decide 38 = .ok (.aaload, 1) := by decide +kernel
theorem dB_decide_39 : decode cB_decide 39 = .ok (.new 121, 3) := by decide +kernel
theorem dB_decide_42 : decode cB_decide 42 = .ok (.dup, 1) := by decide +kernel
theorem dB_decide_43 : decode cB_decide 43 = .ok (.iload_n 2, 1) := by decide +kernel
theorem dB_decide_44 : decode cB_decide 44 = .ok (.ifCond .eq 7, 3) := by decide +kernel
theorem dB_decide_47 : decode cB_decide 47 = .ok (.iconst 1, 1) := by decide +kernel
theorem dB_decide_48 : decode cB_decide 48 = .ok (.goto 4, 3) := by decide +kernel
theorem dB_decide_51 : decode cB_decide 51 = .ok (.iconst 2, 1) := by decide +kernel
theorem dB_decide_52 : decode cB_decide 52 = .ok (.iconst (-1), 1) := by decide +kernel
theorem dB_decide_53 : decode cB_decide 53 = .ok (.iconst 0, 1) := by decide +kernel
theorem dB_decide_54 : decode cB_decide 54 = .ok (.iload_n 3, 1) := by decide +kernel
theorem dB_decide_55 : decode cB_decide 55 = .ok (.iconst 0, 1) := by decide +kernel
theorem dB_decide_56 : decode cB_decide 56 = .ok (.invokespecial 123, 3) := by decide +kernel
theorem dB_decide_59 : decode cB_decide 59 = .ok (.invokevirtual 126, 3) := by decide +kernel
theorem dB_decide_62 : decode cB_decide 62 = .ok (.pop, 1) := by decide +kernel
theorem dB_decide_63 : decode cB_decide 63 = .ok (.aload_n 0, 1) := by decide +kernel
theorem dB_decide_64 : decode cB_decide 64 = .ok (.dup, 1) := by decide +kernel
theorem dB_decide_65 : decode cB_decide 65 = .ok (.getfield 239, 3) := by decide +kernel
theorem dB_decide_68 : decode cB_decide 68 = .ok (.iconst 1, 1) := by decide +kernel
theorem dB_decide_69 : decode cB_decide 69 = .ok (.iadd, 1) := by decide +kernel
theorem dB_decide_70 : decode cB_decide 70 = .ok (.putfield 239, 3) := by decide +kernel
theorem dB_decide_73 : decode cB_decide 73 = .ok (.iinc 5 1, 3) := by decide +kernel
theorem dB_decide_76 : decode cB_decide 76 = .ok (.goto (-62), 3) := by decide +kernel
theorem dB_decide_79 : decode cB_decide 79 = .ok (.iconst 0, 1) := by decide +kernel
theorem dB_decide_80 : decode cB_decide 80 = .ok (.istore 5, 2) := by decide +kernel
theorem dB_decide_82 : decode cB_decide 82 = .ok (.iload 5, 2) := by decide +kernel
theorem dB_decide_84 : decode cB_decide 84 = .ok (.bipush 12, 2) := by decide +kernel
theorem dB_decide_86 : decode cB_decide 86 = .ok (.if_icmp .ge 39, 3) := by decide +kernel
theorem dB_decide_89 : decode cB_decide 89 = .ok (.aload_n 0, 1) := by decide +kernel
theorem dB_decide_90 : decode cB_decide 90 = .ok (.getfield 15, 3) := by decide +kernel
theorem dB_decide_93 : decode cB_decide 93 = .ok (.iload 5, 2) := by decide +kernel
theorem dB_decide_95 : decode cB_decide 95 = .ok (.aaload, 1) := by decide +kernel
theorem dB_decide_96 : decode cB_decide 96 = .ok (.ifnull 23, 3) := by decide +kernel
theorem dB_decide_99 : decode cB_decide 99 = .ok (.aload_n 0, 1) := by decide +kernel
theorem dB_decide_100 : decode cB_decide 100 = .ok (.getfield 15, 3) := by decide +kernel
theorem dB_decide_103 : decode cB_decide 103 = .ok (.iload 5, 2) := by decide +kernel
theorem dB_decide_105 : decode cB_decide 105 = .ok (.aaload, 1) := by decide +kernel
theorem dB_decide_106 : decode cB_decide 106 = .ok (.iload_n 3, 1) := by decide +kernel
theorem dB_decide_107 : decode cB_decide 107 = .ok (.iload_n 2, 1) := by decide +kernel
theorem dB_decide_108 : decode cB_decide 108 = .ok (.ifCond .eq 7, 3) := by decide +kernel
theorem dB_decide_111 : decode cB_decide 111 = .ok (.iconst 0, 1) := by decide +kernel
theorem dB_decide_112 : decode cB_decide 112 = .ok (.goto 4, 3) := by decide +kernel
theorem dB_decide_115 : decode cB_decide 115 = .ok (.iconst 1, 1) := by decide +kernel
theorem dB_decide_116 : decode cB_decide 116 = .ok (.invokevirtual 271, 3) := by decide +kernel
theorem dB_decide_119 : decode cB_decide 119 = .ok (.iinc 5 1, 3) := by decide +kernel
theorem dB_decide_122 : decode cB_decide 122 = .ok (.goto (-40), 3) := by decide +kernel
theorem dB_decide_125 : decode cB_decide 125 = .ok (.aload_n 1, 1) := by decide +kernel
theorem dB_decide_126 : decode cB_decide 126 = .ok (.iconst 0, 1) := by decide +kernel
theorem dB_decide_127 : decode cB_decide 127 = .ok (.putfield 59, 3) := by decide +kernel
theorem dB_decide_130 : decode cB_decide 130 = .ok (.aload_n 0, 1) := by decide +kernel
theorem dB_decide_131 : decode cB_decide 131 = .ok (.getfield 239, 3) := by decide +kernel
theorem dB_decide_134 : decode cB_decide 134 = .ok (.iload 4, 2) := by decide +kernel
theorem dB_decide_136 : decode cB_decide 136 = .ok (.isub, 1) := by decide +kernel
theorem dB_decide_137 : decode cB_decide 137 = .ok (.ireturn, 1) := by decide +kernel
theorem dB_write_0 : decode cB_write 0 = .ok (.aload_n 1, 1) := by decide +kernel
theorem dB_write_1 : decode cB_write 1 = .ok (.aload_n 2, 1) := by decide +kernel
theorem dB_write_2 : decode cB_write 2 = .ok (.invokevirtual 274, 3) := by decide +kernel
theorem dB_write_5 : decode cB_write 5 = .ok (.istore_n 3, 1) := by decide +kernel
theorem dB_write_6 : decode cB_write 6 = .ok (.aload_n 0, 1) := by decide +kernel
theorem dB_write_7 : decode cB_write 7 = .ok (.dup, 1) := by decide +kernel
theorem dB_write_8 : decode cB_write 8 = .ok (.getfield 236, 3) := by decide +kernel
theorem dB_write_11 : decode cB_write 11 = .ok (.iconst 1, 1) := by decide +kernel
theorem dB_write_12 : decode cB_write 12 = .ok (.iadd, 1) := by decide +kernel
theorem dB_write_13 : decode cB_write 13 = .ok (.putfield 236, 3) := by decide +kernel
theorem dB_write_16 : decode cB_write 16 = .ok (.aload_n 0, 1) := by decide +kernel
theorem dB_write_17 : decode cB_write 17 = .ok (.dup, 1) := by decide +kernel
theorem dB_write_18 : decode cB_write 18 = .ok (.getfield 242, 3) := by decide +kernel
theorem dB_write_21 : decode cB_write 21 = .ok (.aload_n 1, 1) := by decide +kernel
theorem dB_write_22 : decode cB_write 22 = .ok (.invokevirtual 278, 3) := by decide +kernel
theorem dB_write_25 : decode cB_write 25 = .ok (.iadd, 1) := by decide +kernel
theorem dB_write_26 : decode cB_write 26 = .ok (.putfield 242, 3) := by decide +kernel
theorem dB_write_29 : decode cB_write 29 = .ok (.iload_n 3, 1) := by decide +kernel
theorem dB_write_30 : decode cB_write 30 = .ok (.ireturn, 1) := by decide +kernel
theorem dB_openTransactions_0 : decode cB_openTransactions 0 = .ok (.iconst 0, 1) := by decide +kernel
theorem dB_openTransactions_1 : decode cB_openTransactions 1 = .ok (.istore_n 1, 1) := by decide +kernel
theorem dB_openTransactions_2 : decode cB_openTransactions 2 = .ok (.iconst 0, 1) := by decide +kernel
theorem dB_openTransactions_3 : decode cB_openTransactions 3 = .ok (.istore_n 2, 1) := by decide +kernel
theorem dB_openTransactions_4 : decode cB_openTransactions 4 = .ok (.iload_n 2, 1) := by decide +kernel
theorem dB_openTransactions_5 : decode cB_openTransactions 5 = .ok (.bipush 6, 2) := by decide +kernel
theorem dB_openTransactions_7 : decode cB_openTransactions 7 = .ok (.if_icmp .ge 24, 3) := by decide +kernel
theorem dB_openTransactions_10 : decode cB_openTransactions 10 = .ok (.aload_n 0, 1) := by decide +kernel
theorem dB_openTransactions_11 : decode cB_openTransactions 11 = .ok (.getfield 21, 3) := by decide +kernel
theorem dB_openTransactions_14 : decode cB_openTransactions 14 = .ok (.iload_n 2, 1) := by decide +kernel
theorem dB_openTransactions_15 : decode cB_openTransactions 15 = .ok (.aaload, 1) := by decide +kernel
theorem dB_openTransactions_16 : decode cB_openTransactions 16 = .ok (.getfield 59, 3) := by decide +kernel
theorem dB_openTransactions_19 : decode cB_openTransactions 19 = .ok (.ifCond .eq 6, 3) := by decide +kernel
theorem dB_openTransactions_22 : decode cB_openTransactions 22 = .ok (.iinc 1 1, 3) := by decide +kernel
theorem dB_openTransactions_25 : decode cB_openTransactions 25 = .ok (.iinc 2 1, 3) := by decide +kernel
theorem dB_openTransactions_28 : decode cB_openTransactions 28 = .ok (.goto (-24), 3) := by decide +kernel
theorem dB_openTransactions_31 : decode cB_openTransactions 31 = .ok (.iload_n 1, 1) := by decide +kernel
theorem dB_openTransactions_32 : decode cB_openTransactions 32 = .ok (.ireturn, 1) := by decide +kernel
theorem dE_init_0 : decode cE_init 0 = .ok (.aload_n 0, 1) := by decide +kernel
theorem dE_init_1 : decode cE_init 1 = .ok (.invokespecial 3, 3) := by decide +kernel
theorem dE_init_4 : decode cE_init 4 = .ok (.aload_n 0, 1) := by decide +kernel
theorem dE_init_5 : decode cE_init 5 = .ok (.iload_n 1, 1) := by decide +kernel
theorem dE_init_6 : decode cE_init 6 = .ok (.putfield 9, 3) := by decide +kernel
theorem dE_init_9 : decode cE_init 9 = .ok (.aload_n 0, 1) := by decide +kernel
theorem dE_init_10 : decode cE_init 10 = .ok (.iload_n 2, 1) := by decide +kernel
theorem dE_init_11 : decode cE_init 11 = .ok (.putfield 15, 3) := by decide +kernel
theorem dE_init_14 : decode cE_init 14 = .ok (.aload_n 0, 1) := by decide +kernel
theorem dE_init_15 : decode cE_init 15 = .ok (.iload_n 3, 1) := by decide +kernel
theorem dE_init_16 : decode cE_init 16 = .ok (.putfield 18, 3) := by decide +kernel
theorem dE_init_19 : decode cE_init 19 = .ok (.aload_n 0, 1) := by decide +kernel
theorem dE_init_20 : decode cE_init 20 = .ok (.iload 4, 2) := by decide +kernel
theorem dE_init_22 : decode cE_init 22 = .ok (.putfield 21, 3) := by decide +kernel
theorem dE_init_25 : decode cE_init 25 = .ok (.aload_n 0, 1) := by decide +kernel
theorem dE_init_26 : decode cE_init 26 = .ok (.iload 5, 2) := by decide +kernel
theorem dE_init_28 : decode cE_init 28 = .ok (.putfield 24, 3) := by decide +kernel
theorem dE_init_31 : decode cE_init 31 = .ok (.return_, 1) := by decide +kernel
theorem dE_isUndecidedOf_0 : decode cE_isUndecidedOf 0 = .ok (.aload_n 0, 1) := by decide +kernel
theorem dE_isUndecidedOf_1 : decode cE_isUndecidedOf 1 = .ok (.getfield 24, 3) := by decide +kernel
theorem dE_isUndecidedOf_4 : decode cE_isUndecidedOf 4 = .ok (.iconst 2, 1) := by decide +kernel
theorem dE_isUndecidedOf_5 : decode cE_isUndecidedOf 5 = .ok (.if_icmp .ne 15, 3) := by decide +kernel
theorem dE_isUndecidedOf_8 : decode cE_isUndecidedOf 8 = .ok (.aload_n 0, 1) := by decide +kernel
theorem dE_isUndecidedOf_9 : decode cE_isUndecidedOf 9 = .ok (.getfield 21, 3) := by decide +kernel
theorem dE_isUndecidedOf_12 : decode cE_isUndecidedOf 12 = .ok (.iload_n 1, 1) := by decide +kernel
theorem dE_isUndecidedOf_13 : decode cE_isUndecidedOf 13 = .ok (.if_icmp .ne 7, 3) := by decide +kernel
theorem dE_isUndecidedOf_16 : decode cE_isUndecidedOf 16 = .ok (.iconst 1, 1) := by decide +kernel
theorem dE_isUndecidedOf_17 : decode cE_isUndecidedOf 17 = .ok (.goto 4, 3) := by decide +kernel
theorem dE_isUndecidedOf_20 : decode cE_isUndecidedOf 20 = .ok (.iconst 0, 1) := by decide +kernel
theorem dE_isUndecidedOf_21 : decode cE_isUndecidedOf 21 = .ok (.ireturn, 1) := by decide +kernel
theorem dH_init_0 : decode cH_init 0 = .ok (.aload_n 0, 1) := by decide +kernel
theorem dH_init_1 : decode cH_init 1 = .ok (.invokespecial 3, 3) := by decide +kernel
theorem dH_init_4 : decode cH_init 4 = .ok (.aload_n 0, 1) := by decide +kernel
theorem dH_init_5 : decode cH_init 5 = .ok (.iconst 4, 1) := by decide +kernel
theorem dH_init_6 : decode cH_init 6 = .ok (.newarray .int, 2) := by decide +kernel
theorem dH_init_8 : decode cH_init 8 = .ok (.putfield 9, 3) := by decide +kernel
theorem dH_init_11 : decode cH_init 11 = .ok (.aload_n 0, 1) := by decide +kernel
theorem dH_init_12 : decode cH_init 12 = .ok (.bipush 12, 2) := by decide +kernel
theorem dH_init_14 : decode cH_init 14 = .ok (.newarray .int, 2) := by decide +kernel
theorem dH_init_16 : decode cH_init 16 = .ok (.putfield 15, 3) := by decide +kernel
theorem dH_init_19 : decode cH_init 19 = .ok (.aload_n 0, 1) := by decide +kernel
theorem dH_init_20 : decode cH_init 20 = .ok (.bipush 12, 2) := by decide +kernel
theorem dH_init_22 : decode cH_init 22 = .ok (.newarray .int, 2) := by decide +kernel
theorem dH_init_24 : decode cH_init 24 = .ok (.putfield 18, 3) := by decide +kernel
theorem dH_init_27 : decode cH_init 27 = .ok (.aload_n 0, 1) := by decide +kernel
theorem dH_init_28 : decode cH_init 28 = .ok (.bipush 12, 2) := by decide +kernel
theorem dH_init_30 : decode cH_init 30 = .ok (.newarray .int, 2) := by decide +kernel
theorem dH_init_32 : decode cH_init 32 = .ok (.putfield 21, 3) := by decide +kernel
theorem dH_init_35 : decode cH_init 35 = .ok (.aload_n 0, 1) := by decide +kernel
theorem dH_init_36 : decode cH_init 36 = .ok (.getfield 9, 3) := by decide +kernel
theorem dH_init_39 : decode cH_init 39 = .ok (.iconst (-1), 1) := by decide +kernel
theorem dH_init_40 : decode cH_init 40 = .ok (.invokestatic 24, 3) := by decide +kernel
theorem dH_init_43 : decode cH_init 43 = .ok (.aload_n 0, 1) := by decide +kernel
theorem dH_init_44 : decode cH_init 44 = .ok (.getfield 15, 3) := by decide +kernel
theorem dH_init_47 : decode cH_init 47 = .ok (.iconst (-1), 1) := by decide +kernel
theorem dH_init_48 : decode cH_init 48 = .ok (.invokestatic 24, 3) := by decide +kernel
theorem dH_init_51 : decode cH_init 51 = .ok (.return_, 1) := by decide +kernel
theorem dH_changeMember_0 : decode cH_changeMember 0 = .ok (.aload_n 0, 1) := by decide +kernel
theorem dH_changeMember_1 : decode cH_changeMember 1 = .ok (.getfield 9, 3) := by decide +kernel
theorem dH_changeMember_4 : decode cH_changeMember 4 = .ok (.iload_n 1, 1) := by decide +kernel
theorem dH_changeMember_5 : decode cH_changeMember 5 = .ok (.iload_n 2, 1) := by decide +kernel
theorem dH_changeMember_6 : decode cH_changeMember 6 = .ok (.iastore, 1) := by decide +kernel
theorem dH_changeMember_7 : decode cH_changeMember 7 = .ok (.aload_n 0, 1) := by decide +kernel
theorem dH_changeMember_8 : decode cH_changeMember 8 = .ok (.dup, 1) := by decide +kernel
theorem dH_changeMember_9 : decode cH_changeMember 9 = .ok (.getfield 30, 3) := by decide +kernel
theorem dH_changeMember_12 : decode cH_changeMember 12 = .ok (.iconst 1, 1) := by decide +kernel
theorem dH_changeMember_13 : decode cH_changeMember 13 = .ok (.iadd, 1) := by decide +kernel
theorem dH_changeMember_14 : decode cH_changeMember 14 = .ok (.putfield 30, 3) := by decide +kernel
theorem dH_changeMember_17 : decode cH_changeMember 17 = .ok (.aload_n 0, 1) := by decide +kernel
theorem dH_changeMember_18 : decode cH_changeMember 18 = .ok (.getfield 15, 3) := by decide +kernel
theorem dH_changeMember_21 : decode cH_changeMember 21 = .ok (.iconst (-1), 1) := by decide +kernel
theorem dH_changeMember_22 : decode cH_changeMember 22 = .ok (.invokestatic 24, 3) := by decide +kernel
theorem dH_changeMember_25 : decode cH_changeMember 25 = .ok (.iconst 0, 1) := by decide +kernel
theorem dH_changeMember_26 : decode cH_changeMember 26 = .ok (.istore 4, 2) := by decide +kernel
theorem dH_changeMember_28 : decode cH_changeMember 28 = .ok (.iload 4, 2) := by decide +kernel
theorem dH_changeMember_30 : decode cH_changeMember 30 = .ok (.iconst 3, 1) := by decide +kernel
theorem dH_changeMember_31 : decode cH_changeMember 31 = .ok (.if_icmp .ge 19, 3) := by decide +kernel
theorem dH_changeMember_34 : decode cH_changeMember 34 = .ok (.aload_n 0, 1) := by decide +kernel
theorem dH_changeMember_35 : decode cH_changeMember 35 = .ok (.iload 4, 2) := by decide +kernel
theorem dH_changeMember_37 : decode cH_changeMember 37 = .ok (.aload_n 3, 1) := by decide +kernel
theorem dH_changeMember_38 : decode cH_changeMember 38 = .ok (.iload 4, 2) := by decide +kernel
theorem dH_changeMember_40 : decode cH_changeMember 40 = .ok (.iaload, 1) := by decide +kernel
theorem dH_changeMember_41 : decode cH_changeMember 41 = .ok (.invokevirtual 34, 3) := by decide +kernel
theorem dH_changeMember_44 : decode cH_changeMember 44 = .ok (.iinc 4 1, 3) := by decide +kernel
theorem dH_changeMember_47 : decode cH_changeMember 47 = .ok (.goto (-19), 3) := by decide +kernel
theorem dH_changeMember_50 : decode cH_changeMember 50 = .ok (.aload_n 0, 1) := by decide +kernel
theorem dH_changeMember_51 : decode cH_changeMember 51 = .ok (.getfield 21, 3) := by decide +kernel
theorem dH_changeMember_54 : decode cH_changeMember 54 = .ok (.iconst 0, 1) := by decide +kernel
theorem dH_changeMember_55 : decode cH_changeMember 55 = .ok (.aload_n 0, 1) := by decide +kernel
theorem dH_changeMember_56 : decode cH_changeMember 56 = .ok (.getfield 18, 3) := by decide +kernel
theorem dH_changeMember_59 : decode cH_changeMember 59 = .ok (.iconst 0, 1) := by decide +kernel
theorem dH_changeMember_60 : decode cH_changeMember 60 = .ok (.bipush 12, 2) := by decide +kernel
theorem dH_changeMember_62 : decode cH_changeMember 62 = .ok (.invokestatic 38, 3) := by decide +kernel
theorem dH_changeMember_65 : decode cH_changeMember 65 = .ok (.aload_n 0, 1) := by decide +kernel
theorem dH_changeMember_66 : decode cH_changeMember 66 = .ok (.getfield 30, 3) := by decide +kernel
theorem dH_changeMember_69 : decode cH_changeMember 69 = .ok (.ireturn, 1) := by decide +kernel
theorem dH_shareOut_0 : decode cH_shareOut 0 = .ok (.aload_n 0, 1) := by decide +kernel
theorem dH_shareOut_1 : decode cH_shareOut 1 = .ok (.iload_n 1, 1) := by decide +kernel
theorem dH_shareOut_2 : decode cH_shareOut 2 = .ok (.invokevirtual 44, 3) := by decide +kernel
theorem dH_shareOut_5 : decode cH_shareOut 5 = .ok (.istore_n 3, 1) := by decide +kernel
theorem dH_shareOut_6 : decode cH_shareOut 6 = .ok (.iload_n 3, 1) := by decide +kernel
theorem dH_shareOut_7 : decode cH_shareOut 7 = .ok (.ifCond .ne 4, 3) := by decide +kernel
theorem dH_shareOut_10 : decode cH_shareOut 10 = .ok (.return_, 1) := by decide +kernel
theorem dH_shareOut_11 : decode cH_shareOut 11 = .ok (.iload_n 2, 1) := by decide +kernel
theorem dH_shareOut_12 : decode cH_shareOut 12 = .ok (.iload_n 3, 1) := by decide +kernel
theorem dH_shareOut_13 : decode cH_shareOut 13 = .ok (.irem, 1) := by decide +kernel
theorem dH_shareOut_14 : decode cH_shareOut 14 = .ok (.istore 4, 2) := by decide +kernel
theorem dH_shareOut_16 : decode cH_shareOut 16 = .ok (.iload_n 1, 1) := by decide +kernel
theorem dH_shareOut_17 : decode cH_shareOut 17 = .ok (.iconst 4, 1) := by decide +kernel
theorem dH_shareOut_18 : decode cH_shareOut 18 = .ok (.imul, 1) := by decide +kernel
theorem dH_shareOut_19 : decode cH_shareOut 19 = .ok (.istore 5, 2) := by decide +kernel
theorem dH_shareOut_21 : decode cH_shareOut 21 = .ok (.iconst 0, 1) := by decide +kernel
theorem dH_shareOut_22 : decode cH_shareOut 22 = .ok (.istore 6, 2) := by decide +kernel
theorem dH_shareOut_24 : decode cH_shareOut 24 = .ok (.iload 6, 2) := by decide +kernel
theorem dH_shareOut_26 : decode cH_shareOut 26 = .ok (.iconst 4, 1) := by decide +kernel
theorem dH_shareOut_27 : decode cH_shareOut 27 = .ok (.if_icmp .ge 64, 3) := by decide +kernel
theorem dH_shareOut_30 : decode cH_shareOut 30 = .ok (.aload_n 0, 1) := by decide +kernel
theorem dH_shareOut_31 : decode cH_shareOut 31 = .ok (.getfield 9, 3) := by decide +kernel
theorem dH_shareOut_34 : decode cH_shareOut 34 = .ok (.iload 6, 2) := by decide +kernel
theorem dH_shareOut_36 : decode cH_shareOut 36 = .ok (.iaload, 1) := by decide +kernel
theorem dH_shareOut_37 : decode cH_shareOut 37 = .ok (.iload_n 1, 1) := by decide +kernel
theorem dH_shareOut_38 : decode cH_shareOut 38 = .ok (.if_icmp .ne 47, 3) := by decide +kernel
theorem dH_shareOut_41 : decode cH_shareOut 41 = .ok (.iload 5, 2) := by decide +kernel
theorem dH_shareOut_43 : decode cH_shareOut 43 = .ok (.iload_n 2, 1) := by decide +kernel
theorem dH_shareOut_44 : decode cH_shareOut 44 = .ok (.iload_n 3, 1) := by decide +kernel
theorem dH_shareOut_45 : decode cH_shareOut 45 = .ok (.idiv, 1) := by decide +kernel
theorem dH_shareOut_46 : decode cH_shareOut 46 = .ok (.iadd, 1) := by decide +kernel
theorem dH_shareOut_47 : decode cH_shareOut 47 = .ok (.iload 4, 2) := by decide +kernel
theorem dH_shareOut_49 : decode cH_shareOut 49 = .ok (.ifCond .le 7, 3) := by decide +kernel
theorem dH_shareOut_52 : decode cH_shareOut 52 = .ok (.iconst 1, 1) := by decide +kernel
theorem dH_shareOut_53 : decode cH_shareOut 53 = .ok (.goto 4, 3) := by decide +kernel
theorem dH_shareOut_56 : decode cH_shareOut 56 = .ok (.iconst 0, 1) := by decide +kernel
theorem dH_shareOut_57 : decode cH_shareOut 57 = .ok (.iadd, 1) := by decide +kernel
theorem dH_shareOut_58 : decode cH_shareOut 58 = .ok (.istore 7, 2) := by decide +kernel
theorem dH_shareOut_60 : decode cH_shareOut 60 = .ok (.iload 5, 2) := by decide +kernel
theorem dH_shareOut_62 : decode cH_shareOut 62 = .ok (.iload 7, 2) := by decide +kernel
theorem dH_shareOut_64 : decode cH_shareOut 64 = .ok (.if_icmp .ge 18, 3) := by decide +kernel
theorem dH_shareOut_67 : decode cH_shareOut 67 = .ok (.aload_n 0, 1) := by decide +kernel
theorem dH_shareOut_68 : decode cH_shareOut 68 = .ok (.getfield 15, 3) := by decide +kernel
theorem dH_shareOut_71 : decode cH_shareOut 71 = .ok (.iload 5, 2) := by decide +kernel
theorem dH_shareOut_73 : decode cH_shareOut 73 = .ok (.iload 6, 2) := by decide +kernel
theorem dH_shareOut_75 : decode cH_shareOut 75 = .ok (.iastore, 1) := by decide +kernel
theorem dH_shareOut_76 : decode cH_shareOut 76 = .ok (.iinc 5 1, 3) := by decide +kernel
theorem dH_shareOut_79 : decode cH_shareOut 79 = .ok (.goto (-19), 3) := by decide +kernel
theorem dH_shareOut_82 : decode cH_shareOut 82 = .ok (.iinc 4 (-1), 3) := by decide +kernel
theorem dH_shareOut_85 : decode cH_shareOut 85 = .ok (.iinc 6 1, 3) := by decide +kernel
theorem dH_shareOut_88 : decode cH_shareOut 88 = .ok (.goto (-64), 3) := by decide +kernel
theorem dH_shareOut_91 : decode cH_shareOut 91 = .ok (.return_, 1) := by decide +kernel
theorem dH_membersFor_0 : decode cH_membersFor 0 = .ok (.iconst 0, 1) := by decide +kernel
theorem dH_membersFor_1 : decode cH_membersFor 1 = .ok (.istore_n 2, 1) := by decide +kernel
theorem dH_membersFor_2 : decode cH_membersFor 2 = .ok (.iconst 0, 1) := by decide +kernel
theorem dH_membersFor_3 : decode cH_membersFor 3 = .ok (.istore_n 3, 1) := by decide +kernel
theorem dH_membersFor_4 : decode cH_membersFor 4 = .ok (.iload_n 3, 1) := by decide +kernel
theorem dH_membersFor_5 : decode cH_membersFor 5 = .ok (.iconst 4, 1) := by decide +kernel
theorem dH_membersFor_6 : decode cH_membersFor 6 = .ok (.if_icmp .ge 22, 3) := by decide +kernel
theorem dH_membersFor_9 : decode cH_membersFor 9 = .ok (.aload_n 0, 1) := by decide +kernel
theorem dH_membersFor_10 : decode cH_membersFor 10 = .ok (.getfield 9, 3) := by decide +kernel
theorem dH_membersFor_13 : decode cH_membersFor 13 = .ok (.iload_n 3, 1) := by decide +kernel
theorem dH_membersFor_14 : decode cH_membersFor 14 = .ok (.iaload, 1) := by decide +kernel
theorem dH_membersFor_15 : decode cH_membersFor 15 = .ok (.iload_n 1, 1) := by decide +kernel
theorem dH_membersFor_16 : decode cH_membersFor 16 = .ok (.if_icmp .ne 6, 3) := by decide +kernel
theorem dH_membersFor_19 : decode cH_membersFor 19 = .ok (.iinc 2 1, 3) := by decide +kernel
theorem dH_membersFor_22 : decode cH_membersFor 22 = .ok (.iinc 3 1, 3) := by decide +kernel
theorem dH_membersFor_25 : decode cH_membersFor 25 = .ok (.goto (-21), 3) := by decide +kernel
theorem dH_membersFor_28 : decode cH_membersFor 28 = .ok (.iload_n 2, 1) := by decide +kernel
theorem dH_membersFor_29 : decode cH_membersFor 29 = .ok (.ireturn, 1) := by decide +kernel
theorem dG_init_0 : decode cG_init 0 = .ok (.aload_n 0, 1) := by decide +kernel
theorem dG_init_1 : decode cG_init 1 = .ok (.invokespecial 3, 3) := by decide +kernel
theorem dG_init_4 : decode cG_init 4 = .ok (.aload_n 0, 1) := by decide +kernel
theorem dG_init_5 : decode cG_init 5 = .ok (.bipush 60, 2) := by decide +kernel
theorem dG_init_7 : decode cG_init 7 = .ok (.anewarray 9, 3) := by decide +kernel
theorem dG_init_10 : decode cG_init 10 = .ok (.putfield 11, 3) := by decide +kernel
theorem dG_init_13 : decode cG_init 13 = .ok (.aload_n 0, 1) := by decide +kernel
theorem dG_init_14 : decode cG_init 14 = .ok (.iload_n 1, 1) := by decide +kernel
theorem dG_init_15 : decode cG_init 15 = .ok (.putfield 17, 3) := by decide +kernel
theorem dG_init_18 : decode cG_init 18 = .ok (.aload_n 0, 1) := by decide +kernel
theorem dG_init_19 : decode cG_init 19 = .ok (.iload_n 2, 1) := by decide +kernel
theorem dG_init_20 : decode cG_init 20 = .ok (.putfield 21, 3) := by decide +kernel
theorem dG_init_23 : decode cG_init 23 = .ok (.aload_n 0, 1) := by decide +kernel
theorem dG_init_24 : decode cG_init 24 = .ok (.iload_n 3, 1) := by decide +kernel
theorem dG_init_25 : decode cG_init 25 = .ok (.putfield 24, 3) := by decide +kernel
theorem dG_init_28 : decode cG_init 28 = .ok (.return_, 1) := by decide +kernel
theorem dG_isFull_0 : decode cG_isFull 0 = .ok (.aload_n 0, 1) := by decide +kernel
theorem dG_isFull_1 : decode cG_isFull 1 = .ok (.getfield 28, 3) := by decide +kernel
theorem dG_isFull_4 : decode cG_isFull 4 = .ok (.bipush 60, 2) := by decide +kernel
theorem dG_isFull_6 : decode cG_isFull 6 = .ok (.if_icmp .lt 7, 3) := by decide +kernel
theorem dG_isFull_9 : decode cG_isFull 9 = .ok (.iconst 1, 1) := by decide +kernel
theorem dG_isFull_10 : decode cG_isFull 10 = .ok (.goto 4, 3) := by decide +kernel
theorem dG_isFull_13 : decode cG_isFull 13 = .ok (.iconst 0, 1) := by decide +kernel
theorem dG_isFull_14 : decode cG_isFull 14 = .ok (.ireturn, 1) := by decide +kernel
theorem dG_append_0 : decode cG_append 0 = .ok (.aload_n 0, 1) := by decide +kernel
theorem dG_append_1 : decode cG_append 1 = .ok (.getfield 28, 3) := by decide +kernel
theorem dG_append_4 : decode cG_append 4 = .ok (.istore_n 2, 1) := by decide +kernel
theorem dG_append_5 : decode cG_append 5 = .ok (.aload_n 0, 1) := by decide +kernel
theorem dG_append_6 : decode cG_append 6 = .ok (.getfield 11, 3) := by decide +kernel
theorem dG_append_9 : decode cG_append 9 = .ok (.iload_n 2, 1) := by decide +kernel
theorem dG_append_10 : decode cG_append 10 = .ok (.aload_n 1, 1) := by decide +kernel
theorem dG_append_11 : decode cG_append 11 = .ok (.aastore, 1) := by decide +kernel
theorem dG_append_12 : decode cG_append 12 = .ok (.aload_n 0, 1) := by decide +kernel
theorem dG_append_13 : decode cG_append 13 = .ok (.dup, 1) := by decide +kernel
theorem dG_append_14 : decode cG_append 14 = .ok (.getfield 31, 3) := by decide +kernel
theorem dG_append_17 : decode cG_append 17 = .ok (.iconst 1, 1) := by decide +kernel
theorem dG_append_18 : decode cG_append 18 = .ok (.iadd, 1) := by decide +kernel
theorem dG_append_19 : decode cG_append 19 = .ok (.putfield 31, 3) := by decide +kernel
theorem dG_append_22 : decode cG_append 22 = .ok (.aload_n 0, 1) := by decide +kernel
theorem dG_append_23 : decode cG_append 23 = .ok (.dup, 1) := by decide +kernel
theorem dG_append_24 : decode cG_append 24 = .ok (.getfield 28, 3) := by decide +kernel
theorem dG_append_27 : decode cG_append 27 = .ok (.iconst 1, 1) := by decide +kernel
theorem dG_append_28 : decode cG_append 28 = .ok (.iadd, 1) := by decide +kernel
theorem dG_append_29 : decode cG_append 29 = .ok (.putfield 28, 3) := by decide +kernel
theorem dG_append_32 : decode cG_append 32 = .ok (.aload_n 0, 1) := by decide +kernel
theorem dG_append_33 : decode cG_append 33 = .ok (.getfield 28, 3) := by decide +kernel
theorem dG_append_36 : decode cG_append 36 = .ok (.aload_n 0, 1) := by decide +kernel
theorem dG_append_37 : decode cG_append 37 = .ok (.getfield 34, 3) := by decide +kernel
theorem dG_append_40 : decode cG_append 40 = .ok (.aload_n 0, 1) := by decide +kernel
theorem dG_append_41 : decode cG_append 41 = .ok (.getfield 17, 3) := by decide +kernel
theorem dG_append_44 : decode cG_append 44 = .ok (.iadd, 1) := by decide +kernel
theorem dG_append_45 : decode cG_append 45 = .ok (.if_icmp .ne 21, 3) := by decide +kernel
theorem dG_append_48 : decode cG_append 48 = .ok (.aload_n 0, 1) := by decide +kernel
theorem dG_append_49 : decode cG_append 49 = .ok (.aload_n 0, 1) := by decide +kernel
theorem dG_append_50 : decode cG_append 50 = .ok (.getfield 28, 3) := by decide +kernel
theorem dG_append_53 : decode cG_append 53 = .ok (.putfield 34, 3) := by decide +kernel
theorem dG_append_56 : decode cG_append 56 = .ok (.aload_n 0, 1) := by decide +kernel
theorem dG_append_57 : decode cG_append 57 = .ok (.dup, 1) := by decide +kernel
theorem dG_append_58 : decode cG_append 58 = .ok (.getfield 37, 3) := by decide +kernel
theorem dG_append_61 : decode cG_append 61 = .ok (.iconst 1, 1) := by decide +kernel
theorem dG_append_62 : decode cG_append 62 = .ok (.iadd, 1) := by decide +kernel
theorem dG_append_63 : decode cG_append 63 = .ok (.putfield 37, 3) := by decide +kernel
theorem dG_append_66 : decode cG_append 66 = .ok (.iload_n 2, 1) := by decide +kernel
theorem dG_append_67 : decode cG_append 67 = .ok (.ireturn, 1) := by decide +kernel
theorem dG_shorten_0 : decode cG_shorten 0 = .ok (.aload_n 0, 1) := by decide +kernel
theorem dG_shorten_1 : decode cG_shorten 1 = .ok (.getfield 31, 3) := by decide +kernel
theorem dG_shorten_4 : decode cG_shorten 4 = .ok (.istore_n 1, 1) := by decide +kernel
theorem dG_shorten_5 : decode cG_shorten 5 = .ok (.aload_n 0, 1) := by decide +kernel
theorem dG_shorten_6 : decode cG_shorten 6 = .ok (.invokevirtual 40, 3) := by decide +kernel
theorem dG_shorten_9 : decode cG_shorten 9 = .ok (.istore_n 2, 1) := by decide +kernel
theorem dG_shorten_10 : decode cG_shorten 10 = .ok (.aload_n 0, 1) := by decide +kernel
theorem dG_shorten_11 : decode cG_shorten 11 = .ok (.getfield 37, 3) := by decide +kernel
theorem dG_shorten_14 : decode cG_shorten 14 = .ok (.aload_n 0, 1) := by decide +kernel
theorem dG_shorten_15 : decode cG_shorten 15 = .ok (.getfield 21, 3) := by decide +kernel
theorem dG_shorten_18 : decode cG_shorten 18 = .ok (.if_icmp .le 71, 3) := by decide +kernel
theorem dG_shorten_21 : decode cG_shorten 21 = .ok (.aload_n 0, 1) := by decide +kernel
theorem dG_shorten_22 : decode cG_shorten 22 = .ok (.getfield 44, 3) := by decide +kernel
theorem dG_shorten_25 : decode cG_shorten 25 = .ok (.aload_n 0, 1) := by decide +kernel
theorem dG_shorten_26 : decode cG_shorten 26 = .ok (.getfield 17, 3) := by decide +kernel
theorem dG_shorten_29 : decode cG_shorten 29 = .ok (.iadd, 1) := by decide +kernel
theorem dG_shorten_30 : decode cG_shorten 30 = .ok (.iload_n 2, 1) := by decide +kernel
theorem dG_shorten_31 : decode cG_shorten 31 = .ok (.if_icmp .gt 58, 3) := by decide +kernel
theorem dG_shorten_34 : decode cG_shorten 34 = .ok (.aload_n 0, 1) := by decide +kernel
theorem dG_shorten_35 : decode cG_shorten 35 = .ok (.getfield 44, 3) := by decide +kernel
theorem dG_shorten_38 : decode cG_shorten 38 = .ok (.istore_n 3, 1) := by decide +kernel
theorem dG_shorten_39 : decode cG_shorten 39 = .ok (.iload_n 3, 1) := by decide +kernel
theorem dG_shorten_40 : decode cG_shorten 40 = .ok (.aload_n 0, 1) := by decide +kernel
theorem dG_shorten_41 : decode cG_shorten 41 = .ok (.getfield 44, 3) := by decide +kernel
theorem dG_shorten_44 : decode cG_shorten 44 = .ok (.aload_n 0, 1) := by decide +kernel
theorem dG_shorten_45 : decode cG_shorten 45 = .ok (.getfield 17, 3) := by decide +kernel
theorem dG_shorten_48 : decode cG_shorten 48 = .ok (.iadd, 1) := by decide +kernel
theorem dG_shorten_49 : decode cG_shorten 49 = .ok (.if_icmp .ge 14, 3) := by decide +kernel
theorem dG_shorten_52 : decode cG_shorten 52 = .ok (.aload_n 0, 1) := by decide +kernel
theorem dG_shorten_53 : decode cG_shorten 53 = .ok (.iload_n 3, 1) := by decide +kernel
theorem dG_shorten_54 : decode cG_shorten 54 = .ok (.invokevirtual 47, 3) := by decide +kernel
theorem dG_shorten_57 : decode cG_shorten 57 = .ok (.iinc 3 1, 3) := by decide +kernel
theorem dG_shorten_60 : decode cG_shorten 60 = .ok (.goto (-21), 3) := by decide +kernel
theorem dG_shorten_63 : decode cG_shorten 63 = .ok (.aload_n 0, 1) := by decide +kernel
theorem dG_shorten_64 : decode cG_shorten 64 = .ok (.dup, 1) := by decide +kernel
theorem dG_shorten_65 : decode cG_shorten 65 = .ok (.getfield 44, 3) := by decide +kernel
theorem dG_shorten_68 : decode cG_shorten 68 = .ok (.aload_n 0, 1) := by decide +kernel
theorem dG_shorten_69 : decode cG_shorten 69 = .ok (.getfield 17, 3) := by decide +kernel
theorem dG_shorten_72 : decode cG_shorten 72 = .ok (.iadd, 1) := by decide +kernel
theorem dG_shorten_73 : decode cG_shorten 73 = .ok (.putfield 44, 3) := by decide +kernel
theorem dG_shorten_76 : decode cG_shorten 76 = .ok (.aload_n 0, 1) := by decide +kernel
theorem dG_shorten_77 : decode cG_shorten 77 = .ok (.dup, 1) := by decide +kernel
theorem dG_shorten_78 : decode cG_shorten 78 = .ok (.getfield 37, 3) := by decide +kernel
theorem dG_shorten_81 : decode cG_shorten 81 = .ok (.iconst 1, 1) := by decide +kernel
theorem dG_shorten_82 : decode cG_shorten 82 = .ok (.isub, 1) := by decide +kernel
theorem dG_shorten_83 : decode cG_shorten 83 = .ok (.putfield 37, 3) := by decide +kernel
theorem dG_shorten_86 : decode cG_shorten 86 = .ok (.goto (-76), 3) := by decide +kernel
theorem dG_shorten_89 : decode cG_shorten 89 = .ok (.iload_n 1, 1) := by decide +kernel
theorem dG_shorten_90 : decode cG_shorten 90 = .ok (.aload_n 0, 1) := by decide +kernel
theorem dG_shorten_91 : decode cG_shorten 91 = .ok (.getfield 31, 3) := by decide +kernel
theorem dG_shorten_94 : decode cG_shorten 94 = .ok (.isub, 1) := by decide +kernel
theorem dG_shorten_95 : decode cG_shorten 95 = .ok (.ireturn, 1) := by decide +kernel
theorem dG_drop_0 : decode cG_drop 0 = .ok (.aload_n 0, 1) := by decide +kernel
theorem dG_drop_1 : decode cG_drop 1 = .ok (.getfield 11, 3) := by decide +kernel
theorem dG_drop_4 : decode cG_drop 4 = .ok (.iload_n 1, 1) := by decide +kernel
theorem dG_drop_5 : decode cG_drop 5 = .ok (.aaload, 1) := by decide +kernel
theorem dG_drop_6 : decode cG_drop 6 = .ok (.ifnull 20, 3) := by decide +kernel
theorem dG_drop_9 : decode cG_drop 9 = .ok (.aload_n 0, 1) := by decide +kernel
theorem dG_drop_10 : decode cG_drop 10 = .ok (.getfield 11, 3) := by decide +kernel
theorem dG_drop_13 : decode cG_drop 13 = .ok (.iload_n 1, 1) := by decide +kernel
theorem dG_drop_14 : decode cG_drop 14 = .ok (.aconst_null, 1) := by decide +kernel
theorem dG_drop_15 : decode cG_drop 15 = .ok (.aastore, 1) := by decide +kernel
theorem dG_drop_16 : decode cG_drop 16 = .ok (.aload_n 0, 1) := by decide +kernel
theorem dG_drop_17 : decode cG_drop 17 = .ok (.dup, 1) := by decide +kernel
theorem dG_drop_18 : decode cG_drop 18 = .ok (.getfield 31, 3) := by decide +kernel
theorem dG_drop_21 : decode cG_drop 21 = .ok (.iconst 1, 1) := by decide +kernel
theorem dG_drop_22 : decode cG_drop 22 = .ok (.isub, 1) := by decide +kernel
theorem dG_drop_23 : decode cG_drop 23 = .ok (.putfield 31, 3) := by decide +kernel
theorem dG_drop_26 : decode cG_drop 26 = .ok (.return_, 1) := by decide +kernel
theorem dG_stableOffset_0 : decode cG_stableOffset 0 = .ok (.aload_n 0, 1) := by decide +kernel
theorem dG_stableOffset_1 : decode cG_stableOffset 1 = .ok (.getfield 44, 3) := by decide +kernel
theorem dG_stableOffset_4 : decode cG_stableOffset 4 = .ok (.istore_n 1, 1) := by decide +kernel
theorem dG_stableOffset_5 : decode cG_stableOffset 5 = .ok (.iload_n 1, 1) := by decide +kernel
theorem dG_stableOffset_6 : decode cG_stableOffset 6 = .ok (.aload_n 0, 1) := by decide +kernel
theorem dG_stableOffset_7 : decode cG_stableOffset 7 = .ok (.getfield 28, 3) := by decide +kernel
theorem dG_stableOffset_10 : decode cG_stableOffset 10 = .ok (.if_icmp .ge 33, 3) := by decide +kernel
theorem dG_stableOffset_13 : decode cG_stableOffset 13 = .ok (.aload_n 0, 1) := by decide +kernel
theorem dG_stableOffset_14 : decode cG_stableOffset 14 = .ok (.getfield 11, 3) := by decide +kernel
theorem dG_stableOffset_17 : decode cG_stableOffset 17 = .ok (.iload_n 1, 1) := by decide +kernel
theorem dG_stableOffset_18 : decode cG_stableOffset 18 = .ok (.aaload, 1) := by decide +kernel
theorem dG_stableOffset_19 : decode cG_stableOffset 19 = .ok (.ifnull 18, 3) := by decide +kernel
theorem dG_stableOffset_22 : decode cG_stableOffset 22 = .ok (.aload_n 0, 1) := by decide +kernel
theorem dG_stableOffset_23 : decode cG_stableOffset 23 = .ok (.getfield 11, 3) := by decide +kernel
theorem dG_stableOffset_26 : decode cG_stableOffset 26 = .ok (.iload_n 1, 1) := by decide +kernel
theorem dG_stableOffset_27 : decode cG_stableOffset 27 = .ok (.aaload, 1) := by decide +kernel
theorem dG_stableOffset_28 : decode cG_stableOffset 28 = .ok (.getfield 51, 3) := by decide +kernel
theorem dG_stableOffset_31 : decode cG_stableOffset 31 = .ok (.iconst 2, 1) := by decide +kernel
theorem dG_stableOffset_32 : decode cG_stableOffset 32 = .ok (.if_icmp .ne 5, 3) := by decide +kernel
theorem dG_stableOffset_35 : decode cG_stableOffset 35 = .ok (.iload_n 1, 1) := by decide +kernel
theorem dG_stableOffset_36 : decode cG_stableOffset 36 = .ok (.ireturn, 1) := by decide +kernel
theorem dG_stableOffset_37 : decode cG_stableOffset 37 = .ok (.iinc 1 1, 3) := by decide +kernel
theorem dG_stableOffset_40 : decode cG_stableOffset 40 = .ok (.goto (-35), 3) := by decide +kernel
theorem dG_stableOffset_43 : decode cG_stableOffset 43 = .ok (.aload_n 0, 1) := by decide +kernel
theorem dG_stableOffset_44 : decode cG_stableOffset 44 = .ok (.getfield 28, 3) := by decide +kernel
theorem dG_stableOffset_47 : decode cG_stableOffset 47 = .ok (.ireturn, 1) := by decide +kernel
theorem dG_hasUndecidedOf_0 : decode cG_hasUndecidedOf 0 = .ok (.aload_n 0, 1) := by decide +kernel
theorem dG_hasUndecidedOf_1 : decode cG_hasUndecidedOf 1 = .ok (.getfield 44, 3) := by decide +kernel
theorem dG_hasUndecidedOf_4 : decode cG_hasUndecidedOf 4 = .ok (.istore_n 2, 1) := by decide +kernel
theorem dG_hasUndecidedOf_5 : decode cG_hasUndecidedOf 5 = .ok (.iload_n 2, 1) := by decide +kernel
theorem dG_hasUndecidedOf_6 : decode cG_hasUndecidedOf 6 = .ok (.aload_n 0, 1) := by decide +kernel
theorem dG_hasUndecidedOf_7 : decode cG_hasUndecidedOf 7 = .ok (.getfield 28, 3) := by decide +kernel
theorem dG_hasUndecidedOf_10 : decode cG_hasUndecidedOf 10 = .ok (.if_icmp .ge 33, 3) := by decide +kernel
theorem dG_hasUndecidedOf_13 : decode cG_hasUndecidedOf 13 = .ok (.aload_n 0, 1) := by decide +kernel
theorem dG_hasUndecidedOf_14 : decode cG_hasUndecidedOf 14 = .ok (.getfield 11, 3) := by decide +kernel
theorem dG_hasUndecidedOf_17 : decode cG_hasUndecidedOf 17 = .ok (.iload_n 2, 1) := by decide +kernel
theorem dG_hasUndecidedOf_18 : decode cG_hasUndecidedOf 18 = .ok (.aaload, 1) := by decide +kernel
theorem dG_hasUndecidedOf_19 : decode cG_hasUndecidedOf 19 = .ok (.ifnull 18, 3) := by decide +kernel
theorem dG_hasUndecidedOf_22 : decode cG_hasUndecidedOf 22 = .ok (.aload_n 0, 1) := by decide +kernel
theorem dG_hasUndecidedOf_23 : decode cG_hasUndecidedOf 23 = .ok (.getfield 11, 3) := by decide +kernel
theorem dG_hasUndecidedOf_26 : decode cG_hasUndecidedOf 26 = .ok (.iload_n 2, 1) := by decide +kernel
theorem dG_hasUndecidedOf_27 : decode cG_hasUndecidedOf 27 = .ok (.aaload, 1) := by decide +kernel
theorem dG_hasUndecidedOf_28 : decode cG_hasUndecidedOf 28 = .ok (.iload_n 1, 1) := by decide +kernel
theorem dG_hasUndecidedOf_29 : decode cG_hasUndecidedOf 29 = .ok (.invokevirtual 54, 3) := by decide +kernel
theorem dG_hasUndecidedOf_32 : decode cG_hasUndecidedOf 32 = .ok (.ifCond .eq 5, 3) := by decide +kernel
theorem dG_hasUndecidedOf_35 : decode cG_hasUndecidedOf 35 = .ok (.iconst 1, 1) := by decide +kernel
theorem dG_hasUndecidedOf_36 : decode cG_hasUndecidedOf 36 = .ok (.ireturn, 1) := by decide +kernel
theorem dG_hasUndecidedOf_37 : decode cG_hasUndecidedOf 37 = .ok (.iinc 2 1, 3) := by decide +kernel
theorem dG_hasUndecidedOf_40 : decode cG_hasUndecidedOf 40 = .ok (.goto (-35), 3) := by decide +kernel
theorem dG_hasUndecidedOf_43 : decode cG_hasUndecidedOf 43 = .ok (.iconst 0, 1) := by decide +kernel
theorem dG_hasUndecidedOf_44 : decode cG_hasUndecidedOf 44 = .ok (.ireturn, 1) := by decide +kernel
theorem dG_settle_0 : decode cG_settle 0 = .ok (.aload_n 0, 1) := by decide +kernel
theorem dG_settle_1 : decode cG_settle 1 = .ok (.getfield 44, 3) := by decide +kernel
theorem dG_settle_4 : decode cG_settle 4 = .ok (.istore_n 3, 1) := by decide +kernel
theorem dG_settle_5 : decode cG_settle 5 = .ok (.iload_n 3, 1) := by decide +kernel
theorem dG_settle_6 : decode cG_settle 6 = .ok (.aload_n 0, 1) := by decide +kernel
theorem dG_settle_7 : decode cG_settle 7 = .ok (.getfield 28, 3) := by decide +kernel
theorem dG_settle_10 : decode cG_settle 10 = .ok (.if_icmp .ge 41, 3) := by decide +kernel
theorem dG_settle_13 : decode cG_settle 13 = .ok (.aload_n 0, 1) := by decide +kernel
theorem dG_settle_14 : decode cG_settle 14 = .ok (.getfield 11, 3) := by decide +kernel
theorem dG_settle_17 : decode cG_settle 17 = .ok (.iload_n 3, 1) := by decide +kernel
theorem dG_settle_18 : decode cG_settle 18 = .ok (.aaload, 1) := by decide +kernel
theorem dG_settle_19 : decode cG_settle 19 = .ok (.ifnull 26, 3) := by decide +kernel
theorem dG_settle_22 : decode cG_settle 22 = .ok (.aload_n 0, 1) := by decide +kernel
theorem dG_settle_23 : decode cG_settle 23 = .ok (.getfield 11, 3) := by decide +kernel
theorem dG_settle_26 : decode cG_settle 26 = .ok (.iload_n 3, 1) := by decide +kernel
theorem dG_settle_27 : decode cG_settle 27 = .ok (.aaload, 1) := by decide +kernel
theorem dG_settle_28 : decode cG_settle 28 = .ok (.iload_n 1, 1) := by decide +kernel
theorem dG_settle_29 : decode cG_settle 29 = .ok (.invokevirtual 54, 3) := by decide +kernel
theorem dG_settle_32 : decode cG_settle 32 = .ok (.ifCond .eq 13, 3) := by decide +kernel
theorem dG_settle_35 : decode cG_settle 35 = .ok (.aload_n 0, 1) := by decide +kernel
theorem dG_settle_36 : decode cG_settle 36 = .ok (.getfield 11, 3) := by decide +kernel
theorem dG_settle_39 : decode cG_settle 39 = .ok (.iload_n 3, 1) := by decide +kernel
theorem dG_settle_40 : decode cG_settle 40 = .ok (.aaload, 1) := by decide +kernel
theorem dG_settle_41 : decode cG_settle 41 = .ok (.iload_n 2, 1) := by decide +kernel
theorem dG_settle_42 : decode cG_settle 42 = .ok (.putfield 51, 3) := by decide +kernel
theorem dG_settle_45 : decode cG_settle 45 = .ok (.iinc 3 1, 3) := by decide +kernel
theorem dG_settle_48 : decode cG_settle 48 = .ok (.goto (-43), 3) := by decide +kernel
theorem dG_settle_51 : decode cG_settle 51 = .ok (.return_, 1) := by decide +kernel
theorem dG_hasData_0 : decode cG_hasData 0 = .ok (.aload_n 0, 1) := by decide +kernel
theorem dG_hasData_1 : decode cG_hasData 1 = .ok (.getfield 11, 3) := by decide +kernel
theorem dG_hasData_4 : decode cG_hasData 4 = .ok (.iload_n 1, 1) := by decide +kernel
theorem dG_hasData_5 : decode cG_hasData 5 = .ok (.aaload, 1) := by decide +kernel
theorem dG_hasData_6 : decode cG_hasData 6 = .ok (.ifnull 19, 3) := by decide +kernel
theorem dG_hasData_9 : decode cG_hasData 9 = .ok (.aload_n 0, 1) := by decide +kernel
theorem dG_hasData_10 : decode cG_hasData 10 = .ok (.getfield 11, 3) := by decide +kernel
theorem dG_hasData_13 : decode cG_hasData 13 = .ok (.iload_n 1, 1) := by decide +kernel
theorem dG_hasData_14 : decode cG_hasData 14 = .ok (.aaload, 1) := by decide +kernel
theorem dG_hasData_15 : decode cG_hasData 15 = .ok (.getfield 58, 3) := by decide +kernel
theorem dG_hasData_18 : decode cG_hasData 18 = .ok (.ifCond .ne 7, 3) := by decide +kernel
theorem dG_hasData_21 : decode cG_hasData 21 = .ok (.iconst 1, 1) := by decide +kernel
theorem dG_hasData_22 : decode cG_hasData 22 = .ok (.goto 4, 3) := by decide +kernel
theorem dG_hasData_25 : decode cG_hasData 25 = .ok (.iconst 0, 1) := by decide +kernel
theorem dG_hasData_26 : decode cG_hasData 26 = .ok (.ireturn, 1) := by decide +kernel
theorem dG_firstVisible_0 : decode cG_firstVisible 0 = .ok (.iload_n 2, 1) := by decide +kernel
theorem dG_firstVisible_1 : decode cG_firstVisible 1 = .ok (.ifCond .eq 10, 3) := by decide +kernel
theorem dG_firstVisible_4 : decode cG_firstVisible 4 = .ok (.aload_n 0, 1) := by decide +kernel
theorem dG_firstVisible_5 : decode cG_firstVisible 5 = .ok (.invokevirtual 40, 3) := by decide +kernel
theorem dG_firstVisible_8 : decode cG_firstVisible 8 = .ok (.goto 7, 3) := by decide +kernel
theorem dG_firstVisible_11 : decode cG_firstVisible 11 = .ok (.aload_n 0, 1) := by decide +kernel
theorem dG_firstVisible_12 : decode cG_firstVisible 12 = .ok (.getfield 28, 3) := by decide +kernel
theorem dG_firstVisible_15 : decode cG_firstVisible 15 = .ok (.istore_n 3, 1) := by decide +kernel
theorem dG_firstVisible_16 : decode cG_firstVisible 16 = .ok (.iload_n 1, 1) := by decide +kernel
theorem dG_firstVisible_17 : decode cG_firstVisible 17 = .ok (.istore 4, 2) := by decide +kernel
theorem dG_firstVisible_19 : decode cG_firstVisible 19 = .ok (.iload 4, 2) := by decide +kernel
theorem dG_firstVisible_21 : decode cG_firstVisible 21 = .ok (.iload_n 3, 1) := by decide +kernel
theorem dG_firstVisible_22 : decode cG_firstVisible 22 = .ok (.if_icmp .ge 38, 3) := by decide +kernel
theorem dG_firstVisible_25 : decode cG_firstVisible 25 = .ok (.aload_n 0, 1) := by decide +kernel
theorem dG_firstVisible_26 : decode cG_firstVisible 26 = .ok (.iload 4, 2) := by decide +kernel
theorem dG_firstVisible_28 : decode cG_firstVisible 28 = .ok (.invokevirtual 61, 3) := by decide +kernel
theorem dG_firstVisible_31 : decode cG_firstVisible 31 = .ok (.ifCond .eq 23, 3) := by decide +kernel
theorem dG_firstVisible_34 : decode cG_firstVisible 34 = .ok (.iload_n 2, 1) := by decide +kernel
theorem dG_firstVisible_35 : decode cG_firstVisible 35 = .ok (.ifCond .eq 16, 3) := by decide +kernel
theorem dG_firstVisible_38 : decode cG_firstVisible 38 = .ok (.aload_n 0, 1) := by decide +kernel
theorem dG_firstVisible_39 : decode cG_firstVisible 39 = .ok (.getfield 11, 3) := by decide +kernel
theorem dG_firstVisible_42 : decode cG_firstVisible 42 = .ok (.iload 4, 2) := by decide +kernel
theorem dG_firstVisible_44 : decode cG_firstVisible 44 = .ok (.aaload, 1) := by decide +kernel
theorem dG_firstVisible_45 : decode cG_firstVisible 45 = .ok (.getfield 51, 3) := by decide +kernel
theorem dG_firstVisible_48 : decode cG_firstVisible 48 = .ok (.ifCond .ne 6, 3) := by decide +kernel
theorem dG_firstVisible_51 : decode cG_firstVisible 51 = .ok (.iload 4, 2) := by decide +kernel
theorem dG_firstVisible_53 : decode cG_firstVisible 53 = .ok (.ireturn, 1) := by decide +kernel
theorem dG_firstVisible_54 : decode cG_firstVisible 54 = .ok (.iinc 4 1, 3) := by decide +kernel
theorem dG_firstVisible_57 : decode cG_firstVisible 57 = .ok (.goto (-38), 3) := by decide +kernel
theorem dG_firstVisible_60 : decode cG_firstVisible 60 = .ok (.iconst (-1), 1) := by decide +kernel
theorem dG_firstVisible_61 : decode cG_firstVisible 61 = .ok (.ireturn, 1) := by decide +kernel
theorem dG_dropOutdated_0 : decode cG_dropOutdated 0 = .ok (.aload_n 0, 1) := by decide +kernel
theorem dG_dropOutdated_1 : decode cG_dropOutdated 1 = .ok (.getfield 31, 3) := by decide +kernel
theorem dG_dropOutdated_4 : decode cG_dropOutdated 4 = .ok (.istore_n 1, 1) := by decide +kernel
theorem dG_dropOutdated_5 : decode cG_dropOutdated 5 = .ok (.aload_n 0, 1) := by decide +kernel
theorem dG_dropOutdated_6 : decode cG_dropOutdated 6 = .ok (.invokevirtual 40, 3) := by decide +kernel
theorem dG_dropOutdated_9 : decode cG_dropOutdated 9 = .ok (.istore_n 2, 1) := by decide +kernel
theorem dG_dropOutdated_10 : decode cG_dropOutdated 10 = .ok (.aload_n 0, 1) := by decide +kernel
theorem dG_dropOutdated_11 : decode cG_dropOutdated 11 = .ok (.getfield 34, 3) := by decide +kernel
theorem dG_dropOutdated_14 : decode cG_dropOutdated 14 = .ok (.iload_n 2, 1) := by decide +kernel
theorem dG_dropOutdated_15 : decode cG_dropOutdated 15 = .ok (.invokestatic 64, 3) := by decide +kernel
theorem dG_dropOutdated_18 : decode cG_dropOutdated 18 = .ok (.istore_n 3, 1) := by decide +kernel
theorem dG_dropOutdated_19 : decode cG_dropOutdated 19 = .ok (.iconst 0, 1) := by decide +kernel
theorem dG_dropOutdated_20 : decode cG_dropOutdated 20 = .ok (.istore 4, 2) := by decide +kernel
theorem dG_dropOutdated_22 : decode cG_dropOutdated 22 = .ok (.iload_n 2, 1) := by decide +kernel
theorem dG_dropOutdated_23 : decode cG_dropOutdated 23 = .ok (.iconst 1, 1) := by decide +kernel
theorem dG_dropOutdated_24 : decode cG_dropOutdated 24 = .ok (.isub, 1) := by decide +kernel
theorem dG_dropOutdated_25 : decode cG_dropOutdated 25 = .ok (.istore 5, 2) := by decide +kernel
theorem dG_dropOutdated_27 : decode cG_dropOutdated 27 = .ok (.iload 5, 2) := by decide +kernel
theorem dG_dropOutdated_29 : decode cG_dropOutdated 29 = .ok (.aload_n 0, 1) := by decide +kernel
theorem dG_dropOutdated_30 : decode cG_dropOutdated 30 = .ok (.getfield 44, 3) := by decide +kernel
theorem dG_dropOutdated_33 : decode cG_dropOutdated 33 = .ok (.if_icmp .lt 82, 3) := by decide +kernel
theorem dG_dropOutdated_36 : decode cG_dropOutdated 36 = .ok (.aload_n 0, 1) := by decide +kernel
theorem dG_dropOutdated_37 : decode cG_dropOutdated 37 = .ok (.iload 5, 2) := by decide +kernel
theorem dG_dropOutdated_39 : decode cG_dropOutdated 39 = .ok (.invokevirtual 61, 3) := by decide +kernel
theorem dG_dropOutdated_42 : decode cG_dropOutdated 42 = .ok (.ifCond .eq 67, 3) := by decide +kernel
theorem dG_dropOutdated_45 : decode cG_dropOutdated 45 = .ok (.aload_n 0, 1) := by decide +kernel
theorem dG_dropOutdated_46 : decode cG_dropOutdated 46 = .ok (.getfield 11, 3) := by decide +kernel
theorem dG_dropOutdated_49 : decode cG_dropOutdated 49 = .ok (.iload 5, 2) := by decide +kernel
theorem dG_dropOutdated_51 : decode cG_dropOutdated 51 = .ok (.aaload, 1) := by decide +kernel
theorem dG_dropOutdated_52 : decode cG_dropOutdated 52 = .ok (.astore 6, 2) := by decide +kernel
theorem dG_dropOutdated_54 : decode cG_dropOutdated 54 = .ok (.aload 6, 2) := by decide +kernel
theorem dG_dropOutdated_56 : decode cG_dropOutdated 56 = .ok (.invokestatic 70, 3) := by decide +kernel
theorem dG_dropOutdated_59 : decode cG_dropOutdated 59 = .ok (.istore 7, 2) := by decide +kernel
theorem dG_dropOutdated_61 : decode cG_dropOutdated 61 = .ok (.aload 6, 2) := by decide +kernel
theorem dG_dropOutdated_63 : decode cG_dropOutdated 63 = .ok (.getfield 51, 3) := by decide +kernel
theorem dG_dropOutdated_66 : decode cG_dropOutdated 66 = .ok (.iconst 1, 1) := by decide +kernel
theorem dG_dropOutdated_67 : decode cG_dropOutdated 67 = .ok (.if_icmp .eq 11, 3) := by decide +kernel
theorem dG_dropOutdated_70 : decode cG_dropOutdated 70 = .ok (.iload 4, 2) := by decide +kernel
theorem dG_dropOutdated_72 : decode cG_dropOutdated 72 = .ok (.iload 7, 2) := by decide +kernel
theorem dG_dropOutdated_74 : decode cG_dropOutdated 74 = .ok (.iand, 1) := by decide +kernel
theorem dG_dropOutdated_75 : decode cG_dropOutdated 75 = .ok (.ifCond .eq 7, 3) := by decide +kernel
theorem dG_dropOutdated_78 : decode cG_dropOutdated 78 = .ok (.iconst 1, 1) := by decide +kernel
theorem dG_dropOutdated_79 : decode cG_dropOutdated 79 = .ok (.goto 4, 3) := by decide +kernel
theorem dG_dropOutdated_82 : decode cG_dropOutdated 82 = .ok (.iconst 0, 1) := by decide +kernel
theorem dG_dropOutdated_83 : decode cG_dropOutdated 83 = .ok (.istore 8, 2) := by decide +kernel
theorem dG_dropOutdated_85 : decode cG_dropOutdated 85 = .ok (.iload 8, 2) := by decide +kernel
theorem dG_dropOutdated_87 : decode cG_dropOutdated 87 = .ok (.ifCond .eq 15, 3) := by decide +kernel
theorem dG_dropOutdated_90 : decode cG_dropOutdated 90 = .ok (.iload 5, 2) := by decide +kernel
theorem dG_dropOutdated_92 : decode cG_dropOutdated 92 = .ok (.iload_n 3, 1) := by decide +kernel
theorem dG_dropOutdated_93 : decode cG_dropOutdated 93 = .ok (.if_icmp .ge 9, 3) := by decide +kernel
theorem dG_dropOutdated_96 : decode cG_dropOutdated 96 = .ok (.aload_n 0, 1) := by decide +kernel
theorem dG_dropOutdated_97 : decode cG_dropOutdated 97 = .ok (.iload 5, 2) := by decide +kernel
theorem dG_dropOutdated_99 : decode cG_dropOutdated 99 = .ok (.invokevirtual 47, 3) := by decide +kernel
theorem dG_dropOutdated_102 : decode cG_dropOutdated 102 = .ok (.iload 4, 2) := by decide +kernel
theorem dG_dropOutdated_104 : decode cG_dropOutdated 104 = .ok (.iload 7, 2) := by decide +kernel
theorem dG_dropOutdated_106 : decode cG_dropOutdated 106 = .ok (.ior, 1) := by decide +kernel
theorem dG_dropOutdated_107 : decode cG_dropOutdated 107 = .ok (.istore 4, 2) := by decide +kernel
theorem dG_dropOutdated_109 : decode cG_dropOutdated 109 = .ok (.iinc 5 (-1), 3) := by decide +kernel
theorem dG_dropOutdated_112 : decode cG_dropOutdated 112 = .ok (.goto (-85), 3) := by decide +kernel
theorem dG_dropOutdated_115 : decode cG_dropOutdated 115 = .ok (.iload_n 1, 1) := by decide +kernel
theorem dG_dropOutdated_116 : decode cG_dropOutdated 116 = .ok (.aload_n 0, 1) := by decide +kernel
theorem dG_dropOutdated_117 : decode cG_dropOutdated 117 = .ok (.getfield 31, 3) := by decide +kernel
theorem dG_dropOutdated_120 : decode cG_dropOutdated 120 = .ok (.isub, 1) := by decide +kernel
theorem dG_dropOutdated_121 : decode cG_dropOutdated 121 = .ok (.ireturn, 1) := by decide +kernel
theorem dG_bitOfCommittedKey_0 : decode cG_bitOfCommittedKey 0 = .ok (.aload_n 0, 1) := by decide +kernel
theorem dG_bitOfCommittedKey_1 : decode cG_bitOfCommittedKey 1 = .ok (.getfield 51, 3) := by decide +kernel
theorem dG_bitOfCommittedKey_4 : decode cG_bitOfCommittedKey 4 = .ok (.ifCond .ne 20, 3) := by decide +kernel
theorem dG_bitOfCommittedKey_7 : decode cG_bitOfCommittedKey 7 = .ok (.aload_n 0, 1) := by decide +kernel
theorem dG_bitOfCommittedKey_8 : decode cG_bitOfCommittedKey 8 = .ok (.getfield 74, 3) := by decide +kernel
theorem dG_bitOfCommittedKey_11 : decode cG_bitOfCommittedKey 11 = .ok (.iconst (-1), 1) := by decide +kernel
theorem dG_bitOfCommittedKey_12 : decode cG_bitOfCommittedKey 12 = .ok (.if_icmp .eq 12, 3) := by decide +kernel
theorem dG_bitOfCommittedKey_15 : decode cG_bitOfCommittedKey 15 = .ok (.iconst 1, 1) := by decide +kernel
theorem dG_bitOfCommittedKey_16 : decode cG_bitOfCommittedKey 16 = .ok (.aload_n 0, 1) := by decide +kernel
theorem dG_bitOfCommittedKey_17 : decode cG_bitOfCommittedKey 17 = .ok (.getfield 74, 3) := by decide +kernel
theorem dG_bitOfCommittedKey_20 : decode cG_bitOfCommittedKey 20 = .ok (.ishl, 1) := by decide +kernel
theorem dG_bitOfCommittedKey_21 : decode cG_bitOfCommittedKey 21 = .ok (.goto 4, 3) := by decide +kernel
theorem dG_bitOfCommittedKey_24 : decode cG_bitOfCommittedKey 24 = .ok (.iconst 0, 1) := by decide +kernel
theorem dG_bitOfCommittedKey_25 : decode cG_bitOfCommittedKey 25 = .ok (.ireturn, 1) := by decide +kernel
theorem dS_init_0 : decode cS_init 0 = .ok (.aload_n 0, 1) := by decide +kernel
theorem dS_init_1 : decode cS_init 1 = .ok (.invokespecial 3, 3) := by decide +kernel
theorem dS_init_4 : decode cS_init 4 = .ok (.aload_n 0, 1) := by decide +kernel
theorem dS_init_5 : decode cS_init 5 = .ok (.iconst (-1), 1) := by decide +kernel
theorem dS_init_6 : decode cS_init 6 = .ok (.putfield 9, 3) := by decide +kernel
theorem dS_init_9 : decode cS_init 9 = .ok (.aload_n 0, 1) := by decide +kernel
theorem dS_init_10 : decode cS_init 10 = .ok (.bipush 12, 2) := by decide +kernel
theorem dS_init_12 : decode cS_init 12 = .ok (.newarray .int, 2) := by decide +kernel
theorem dS_init_14 : decode cS_init 14 = .ok (.putfield 15, 3) := by decide +kernel
theorem dS_init_17 : decode cS_init 17 = .ok (.aload_n 0, 1) := by decide +kernel
theorem dS_init_18 : decode cS_init 18 = .ok (.bipush 36, 2) := by decide +kernel
theorem dS_init_20 : decode cS_init 20 = .ok (.newarray .int, 2) := by decide +kernel
theorem dS_init_22 : decode cS_init 22 = .ok (.putfield 19, 3) := by decide +kernel
theorem dS_init_25 : decode cS_init 25 = .ok (.return_, 1) := by decide +kernel
theorem dS_startFor_0 : decode cS_startFor 0 = .ok (.aload_n 0, 1) := by decide +kernel
theorem dS_startFor_1 : decode cS_startFor 1 = .ok (.iload_n 1, 1) := by decide +kernel
theorem dS_startFor_2 : decode cS_startFor 2 = .ok (.putfield 9, 3) := by decide +kernel
theorem dS_startFor_5 : decode cS_startFor 5 = .ok (.aload_n 0, 1) := by decide +kernel
theorem dS_startFor_6 : decode cS_startFor 6 = .ok (.getfield 15, 3) := by decide +kernel
theorem dS_startFor_9 : decode cS_startFor 9 = .ok (.iconst 0, 1) := by decide +kernel
theorem dS_startFor_10 : decode cS_startFor 10 = .ok (.invokestatic 22, 3) := by decide +kernel
theorem dS_startFor_13 : decode cS_startFor 13 = .ok (.return_, 1) := by decide +kernel
theorem dS_expects_0 : decode cS_expects 0 = .ok (.iload_n 2, 1) := by decide +kernel
theorem dS_expects_1 : decode cS_expects 1 = .ok (.aload_n 0, 1) := by decide +kernel
theorem dS_expects_2 : decode cS_expects 2 = .ok (.getfield 15, 3) := by decide +kernel
theorem dS_expects_5 : decode cS_expects 5 = .ok (.iload_n 1, 1) := by decide +kernel
theorem dS_expects_6 : decode cS_expects 6 = .ok (.iaload, 1) := by decide +kernel
theorem dS_expects_7 : decode cS_expects 7 = .ok (.if_icmp .ne 7, 3) := by decide +kernel
theorem dS_expects_10 : decode cS_expects 10 = .ok (.iconst 1, 1) := by decide +kernel
theorem dS_expects_11 : decode cS_expects 11 = .ok (.goto 4, 3) := by decide +kernel
theorem dS_expects_14 : decode cS_expects 14 = .ok (.iconst 0, 1) := by decide +kernel
theorem dS_expects_15 : decode cS_expects 15 = .ok (.ireturn, 1) := by decide +kernel
theorem dS_remembers_0 : decode cS_remembers 0 = .ok (.iload_n 2, 1) := by decide +kernel
theorem dS_remembers_1 : decode cS_remembers 1 = .ok (.aload_n 0, 1) := by decide +kernel
theorem dS_remembers_2 : decode cS_remembers 2 = .ok (.getfield 15, 3) := by decide +kernel
theorem dS_remembers_5 : decode cS_remembers 5 = .ok (.iload_n 1, 1) := by decide +kernel
theorem dS_remembers_6 : decode cS_remembers 6 = .ok (.iaload, 1) := by decide +kernel
theorem dS_remembers_7 : decode cS_remembers 7 = .ok (.if_icmp .ge 19, 3) := by decide +kernel
theorem dS_remembers_10 : decode cS_remembers 10 = .ok (.iload_n 2, 1) := by decide +kernel
theorem dS_remembers_11 : decode cS_remembers 11 = .ok (.aload_n 0, 1) := by decide +kernel
theorem dS_remembers_12 : decode cS_remembers 12 = .ok (.getfield 15, 3) := by decide +kernel
theorem dS_remembers_15 : decode cS_remembers 15 = .ok (.iload_n 1, 1) := by decide +kernel
theorem dS_remembers_16 : decode cS_remembers 16 = .ok (.iaload, 1) := by decide +kernel
theorem dS_remembers_17 : decode cS_remembers 17 = .ok (.iconst 3, 1) := by decide +kernel
theorem dS_remembers_18 : decode cS_remembers 18 = .ok (.isub, 1) := by decide +kernel
theorem dS_remembers_19 : decode cS_remembers 19 = .ok (.if_icmp .lt 7, 3) := by decide +kernel
theorem dS_remembers_22 : decode cS_remembers 22 = .ok (.iconst 1, 1) := by decide +kernel
theorem dS_remembers_23 : decode cS_remembers 23 = .ok (.goto 4, 3) := by decide +kernel
theorem dS_remembers_26 : decode cS_remembers 26 = .ok (.iconst 0, 1) := by decide +kernel
theorem dS_remembers_27 : decode cS_remembers 27 = .ok (.ireturn, 1) := by decide +kernel
theorem dS_offsetRemembered_0 : decode cS_offsetRemembered 0 = .ok (.aload_n 0, 1) := by decide +kernel
theorem dS_offsetRemembered_1 : decode cS_offsetRemembered 1 = .ok (.getfield 19, 3) := by decide +kernel
theorem dS_offsetRemembered_4 : decode cS_offsetRemembered 4 = .ok (.iload_n 1, 1) := by decide +kernel
theorem dS_offsetRemembered_5 : decode cS_offsetRemembered 5 = .ok (.iconst 3, 1) := by decide +kernel
theorem dS_offsetRemembered_6 : decode cS_offsetRemembered 6 = .ok (.imul, 1) := by decide +kernel
theorem dS_offsetRemembered_7 : decode cS_offsetRemembered 7 = .ok (.iload_n 2, 1) := by decide +kernel
theorem dS_offsetRemembered_8 : decode cS_offsetRemembered 8 = .ok (.iconst 3, 1) := by decide +kernel
theorem dS_offsetRemembered_9 : decode cS_offsetRemembered 9 = .ok (.irem, 1) := by decide +kernel
theorem dS_offsetRemembered_10 : decode cS_offsetRemembered 10 = .ok (.iadd, 1) := by decide +kernel
theorem dS_offsetRemembered_11 : decode cS_offsetRemembered 11 = .ok (.iaload, 1) := by decide +kernel
theorem dS_offsetRemembered_12 : decode cS_offsetRemembered 12 = .ok (.ireturn, 1) := by decide +kernel
theorem dS_remember_0 : decode cS_remember 0 = .ok (.aload_n 0, 1) := by decide +kernel
theorem dS_remember_1 : decode cS_remember 1 = .ok (.getfield 19, 3) := by decide +kernel
theorem dS_remember_4 : decode cS_remember 4 = .ok (.iload_n 1, 1) := by decide +kernel
theorem dS_remember_5 : decode cS_remember 5 = .ok (.iconst 3, 1) := by decide +kernel
theorem dS_remember_6 : decode cS_remember 6 = .ok (.imul, 1) := by decide +kernel
theorem dS_remember_7 : decode cS_remember 7 = .ok (.aload_n 0, 1) := by decide +kernel
theorem dS_remember_8 : decode cS_remember 8 = .ok (.getfield 15, 3) := by decide +kernel
theorem dS_remember_11 : decode cS_remember 11 = .ok (.iload_n 1, 1) := by decide +kernel
theorem dS_remember_12 : decode cS_remember 12 = .ok (.iaload, 1) := by decide +kernel
theorem dS_remember_13 : decode cS_remember 13 = .ok (.iconst 3, 1) := by decide +kernel
theorem dS_remember_14 : decode cS_remember 14 = .ok (.irem, 1) := by decide +kernel
theorem dS_remember_15 : decode cS_remember 15 = .ok (.iadd, 1) := by decide +kernel
theorem dS_remember_16 : decode cS_remember 16 = .ok (.iload_n 2, 1) := by decide +kernel
theorem dS_remember_17 : decode cS_remember 17 = .ok (.iastore, 1) := by decide +kernel
theorem dS_remember_18 : decode cS_remember 18 = .ok (.aload_n 0, 1) := by decide +kernel
theorem dS_remember_19 : decode cS_remember 19 = .ok (.getfield 15, 3) := by decide +kernel
theorem dS_remember_22 : decode cS_remember 22 = .ok (.iload_n 1, 1) := by decide +kernel
theorem dS_remember_23 : decode cS_remember 23 = .ok (.dup2, 1) := by decide +kernel
theorem dS_remember_24 : decode cS_remember 24 = .ok (.iaload, 1) := by decide +kernel
theorem dS_remember_25 : decode cS_remember 25 = .ok (.iconst 1, 1) := by decide +kernel
theorem dS_remember_26 : decode cS_remember 26 = .ok (.iadd, 1) := by decide +kernel
theorem dS_remember_27 : decode cS_remember 27 = .ok (.iastore, 1) := by decide +kernel
theorem dS_remember_28 : decode cS_remember 28 = .ok (.return_, 1) := by decide +kernel
theorem dA_fill_0 : decode cA_fill 0 = .ok (.iconst 0, 1) := by decide +kernel
theorem dA_fill_1 : decode cA_fill 1 = .ok (.istore_n 2, 1) := by decide +kernel
theorem dA_fill_2 : decode cA_fill 2 = .ok (.aload_n 0, 1) := by decide +kernel
theorem dA_fill_3 : decode cA_fill 3 = .ok (.arraylength, 1) := by decide +kernel
theorem dA_fill_4 : decode cA_fill 4 = .ok (.istore_n 3, 1) := by decide +kernel
theorem dA_fill_5 : decode cA_fill 5 = .ok (.iload_n 2, 1) := by decide +kernel
theorem dA_fill_6 : decode cA_fill 6 = .ok (.iload_n 3, 1) := by decide +kernel
theorem dA_fill_7 : decode cA_fill 7 = .ok (.if_icmp .ge 13, 3) := by decide +kernel
theorem dA_fill_10 : decode cA_fill 10 = .ok (.aload_n 0, 1) := by decide +kernel
theorem dA_fill_11 : decode cA_fill 11 = .ok (.iload_n 2, 1) := by decide +kernel
theorem dA_fill_12 : decode cA_fill 12 = .ok (.iload_n 1, 1) := by decide +kernel
theorem dA_fill_13 : decode cA_fill 13 = .ok (.iastore, 1) := by decide +kernel
theorem dA_fill_14 : decode cA_fill 14 = .ok (.iinc 2 1, 3) := by decide +kernel
theorem dA_fill_17 : decode cA_fill 17 = .ok (.goto (-12), 3) := by decide +kernel
theorem dA_fill_20 : decode cA_fill 20 = .ok (.return_, 1) := by decide +kernel
end
section
/-! DECODE ROWS of the switches (by program) -/
theorem dB_told_66 : decode cB_told 66 = .ok (.tableswitch 54 0 3 #[30, 36, 42, 48], 30) := by decide +kernel
theorem dB_log_14 : decode cB_log 14 = .ok (.tableswitch 107 0 7 #[46, 51, 56, 61, 66, 71, 83, 95], 46) := by decide +kernel
theorem dB_count_1 : decode cB_count 1 = .ok (.tableswitch 97 0 7 #[47, 52, 57, 62, 67, 72, 77, 87], 47) := by decide +kernel
end
section
/-! KINDS of the names; what stands outside the store; helpers (by program) -/
def zkd (n : Nat) : Nat ⊕ (Nat × Nat) :=
  if n < 1 then .inr (999, 0) else
  if n < 2 then .inl 4 else
  if n < 3 then .inr (0, 3) else
  if n < 4 then .inr (3, 12) else
  if n < 5 then .inr (4, 6) else
  if n < 7 then .inr (0, 4) else
  if n < 8 then .inr (5, 2) else
  if n < 10 then .inr (999, 0) else
  if n < 16 then .inl 2 else
  if n < 20 then .inr (999, 0) else
  if n < 26 then .inr (0, 12) else
  if n < 30 then .inr (999, 0) else
  if n < 36 then .inr (0, 36) else
  if n < 40 then .inr (999, 0) else
  if n < 42 then .inl 3 else
  if n < 44 then .inr (0, 4) else
  if n < 50 then .inr (0, 12) else
  if n < 60 then .inr (999, 0) else
  if n < 72 then .inl 1 else
  if n < 80 then .inr (999, 0) else
  if n < 92 then .inr (6, 60) else
  if n < 200 then .inr (999, 0) else
  if n < 920 then .inl 0 else
  if n < 1000 then .inr (999, 0) else
  if n < 1001 then .inl 5 else
  if n < 1002 then .inr (0, 3) else
  if n < 1003 then .inr (0, 3) else
  if n < 1004 then .inr (0, 3) else
  if n < 1005 then .inr (1, 3) else
  if n < 1006 then .inr (0, 12) else
  if n < 1007 then .inr (0, 12) else
  if n < 1008 then .inr (0, 720) else
  if n < 1009 then .inr (0, 720) else
  if n < 1010 then .inr (0, 720) else
  if n < 1011 then .inr (0, 720) else
  if n < 1012 then .inr (0, 720) else
  if n < 1013 then .inr (0, 720) else
  if n < 1014 then .inr (0, 6) else
  if n < 1015 then .inr (0, 72) else
  if n < 1016 then .inr (0, 216) else
  if n < 1017 then .inr (1, 6) else
  if n < 1018 then .inr (0, 4) else
  if n < 1019 then .inr (0, 4) else
  if n < 1020 then .inr (0, 8) else
  if n < 1021 then .inr (0, 2) else
  if n < 1022 then .inr (0, 24) else
  if n < 1023 then .inr (0, 24) else
  if n < 2000 then .inr (999, 0) else
  if n < 2001 then .inr (2, 1) else .inr (999, 0)
def zft (c k : Nat) : Bool := match c, k with
  | 1, 3 => true
  | 2, 2 => true
  | 2, 3 => true
  | 3, 1 => true
  | 3, 2 => true
  | 3, 3 => true
  | 3, 4 => true
  | 4, 0 => true
  | 4, 1 => true
  | 4, 2 => true
  | 4, 3 => true
  | 4, 4 => true
  | 4, 5 => true
  | 5, 0 => true
  | 5, 1 => true
  | 5, 2 => true
  | 5, 3 => true
  | 5, 4 => true
  | 5, 5 => true
  | 5, 6 => true
  | 5, 7 => true
  | 5, 8 => true
  | 5, 9 => true
  | 5, 10 => true
  | 5, 11 => true
  | 5, 12 => true
  | 5, 13 => true
  | 5, 14 => true
  | 5, 15 => true
  | 5, 16 => true
  | 5, 17 => true
  | 5, 18 => true
  | 5, 19 => true
  | 5, 20 => true
  | 5, 21 => true
  | _, _ => false
def znf (c : Nat) : Nat := match c with
  | 0 => 5
  | 1 => 9
  | 2 => 4
  | 3 => 5
  | 4 => 11
  | 5 => 28
  | _ => 0
abbrev zKK : zK := (zkd, zft, znf)
def ztys (dA : Nat → ClassId) : List (ClassId × FieldType) := [(dA 0, .int), (dA 1, .boolean), (dA 2, .long), (dA 3, .object "LogBroker$Log"), (dA 4, .object "LogBroker$Session"), (dA 5, .object "LogBroker$Group"), (dA 6, .object "LogBroker$Entry")]
theorem kd_G {tp : Nat} (h : tp < 12) : zKK.1 (60 + tp) = .inl 1 := by
  show zkd (60 + tp) = _
  unfold zkd
  repeat (first | rw [if_pos (by omega)] | rw [if_neg (by omega)])
theorem kd_GA {tp : Nat} (h : tp < 12) : zKK.1 (80 + tp) = .inr (6, 60) := by
  show zkd (80 + tp) = _
  unfold zkd
  repeat (first | rw [if_pos (by omega)] | rw [if_neg (by omega)])
theorem kd_E {tp o : Nat} (h : tp < 12) (h2 : o < 60) : zKK.1 (200 + 60 * tp + o) = .inl 0 := by
  show zkd (200 + 60 * tp + o) = _
  unfold zkd
  repeat (first | rw [if_pos (by omega)] | rw [if_neg (by omega)])
theorem kd_S {s : Nat} (h : s < 6) : zKK.1 (10 + s) = .inl 2 := by
  show zkd (10 + s) = _
  unfold zkd
  repeat (first | rw [if_pos (by omega)] | rw [if_neg (by omega)])
theorem kd_SE {s : Nat} (h : s < 6) : zKK.1 (20 + s) = .inr (0, 12) := by
  show zkd (20 + s) = _
  unfold zkd
  repeat (first | rw [if_pos (by omega)] | rw [if_neg (by omega)])
theorem kd_SO {s : Nat} (h : s < 6) : zKK.1 (30 + s) = .inr (0, 36) := by
  show zkd (30 + s) = _
  unfold zkd
  repeat (first | rw [if_pos (by omega)] | rw [if_neg (by omega)])
theorem kd_H {g : Nat} (h : g < 2) : zKK.1 (40 + g) = .inl 3 := by
  show zkd (40 + g) = _
  unfold zkd
  repeat (first | rw [if_pos (by omega)] | rw [if_neg (by omega)])
theorem kd_HT {g : Nat} (h : g < 2) : zKK.1 (42 + g) = .inr (0, 4) := by
  show zkd (42 + g) = _
  unfold zkd
  repeat (first | rw [if_pos (by omega)] | rw [if_neg (by omega)])
theorem kd_HO {g : Nat} (h : g < 2) : zKK.1 (44 + g) = .inr (0, 12) := by
  show zkd (44 + g) = _
  unfold zkd
  repeat (first | rw [if_pos (by omega)] | rw [if_neg (by omega)])
theorem kd_HP {g : Nat} (h : g < 2) : zKK.1 (46 + g) = .inr (0, 12) := by
  show zkd (46 + g) = _
  unfold zkd
  repeat (first | rw [if_pos (by omega)] | rw [if_neg (by omega)])
theorem kd_HK {g : Nat} (h : g < 2) : zKK.1 (48 + g) = .inr (0, 12) := by
  show zkd (48 + g) = _
  unfold zkd
  repeat (first | rw [if_pos (by omega)] | rw [if_neg (by omega)])
def zcast : List (String × String) := [("java/lang/IllegalArgumentException", "java/lang/IllegalArgumentException"), ("java/lang/IllegalStateException", "java/lang/IllegalStateException"), ("java/lang/UnsupportedOperationException", "java/lang/UnsupportedOperationException"), ("java/util/NoSuchElementException", "java/util/NoSuchElementException"), ("java/lang/IndexOutOfBoundsException", "java/lang/IndexOutOfBoundsException")]
def zdecl : List MethodName := [⟨"java/lang/RuntimeException", "<init>", "(Ljava/lang/String;)V"⟩, ⟨"java/lang/Exception", "<init>", "(Ljava/lang/String;)V"⟩, ⟨"java/lang/Throwable", "<init>", "(Ljava/lang/String;)V"⟩]
def ztexts : List (String × Nat × String) := [("LogBroker", 51, "the topic is there"), ("LogBroker", 67, "it has an open transaction for another producer"), ("LogBroker", 86, "the number is below 0"), ("LogBroker", 100, "the number is neither expected nor remembered"), ("LogBroker", 118, "no room in the log"), ("LogBroker", 134, "a transaction is open"), ("LogBroker", 136, "no transaction is open"), ("LogBroker", 153, "the offset is out of the log"), ("LogBroker", 170, "the record is gone"), ("LogBroker", 189, "the topic is not compacted"), ("LogBroker", 198, "the topic is none"), ("LogBroker", 207, "the member is not in the group"), ("LogBroker", 251, "a number is out of range"), ("LogBroker", 253, "the partition is not there"), ("LogBroker", 255, "no such session"), ("LogBroker", 257, "the session is fenced"), ("LogBroker", 259, "there is none"), ("LogBroker", 261, "another generation, or not the member's partition"), ("LogBroker", 266, "no room for a marker")]
def zover : List String := ["LogBroker$Log", "LogBroker$Session", "LogBroker$Group", "LogBroker$Entry"]
def znc : List (String × String) := [("java/lang/IllegalArgumentException", "java/lang/IllegalStateException"), ("java/lang/IllegalArgumentException", "java/lang/UnsupportedOperationException"), ("java/lang/IllegalArgumentException", "java/util/NoSuchElementException"), ("java/lang/IllegalArgumentException", "java/lang/IndexOutOfBoundsException"), ("java/lang/IllegalStateException", "java/lang/IllegalArgumentException"), ("java/lang/IllegalStateException", "java/lang/UnsupportedOperationException"), ("java/lang/IllegalStateException", "java/util/NoSuchElementException"), ("java/lang/IllegalStateException", "java/lang/IndexOutOfBoundsException"), ("java/lang/UnsupportedOperationException", "java/lang/IllegalArgumentException"), ("java/lang/UnsupportedOperationException", "java/lang/IllegalStateException"), ("java/lang/UnsupportedOperationException", "java/util/NoSuchElementException"), ("java/lang/UnsupportedOperationException", "java/lang/IndexOutOfBoundsException"), ("java/util/NoSuchElementException", "java/lang/IllegalArgumentException"), ("java/util/NoSuchElementException", "java/lang/IllegalStateException"), ("java/util/NoSuchElementException", "java/lang/UnsupportedOperationException"), ("java/util/NoSuchElementException", "java/lang/IndexOutOfBoundsException"), ("java/lang/IndexOutOfBoundsException", "java/lang/IllegalArgumentException"), ("java/lang/IndexOutOfBoundsException", "java/lang/IllegalStateException"), ("java/lang/IndexOutOfBoundsException", "java/lang/UnsupportedOperationException"), ("java/lang/IndexOutOfBoundsException", "java/util/NoSuchElementException")]
def zG0 (D : va_G) (dA : Nat → ClassId) : (Nat → Prop) → State → Prop := zG D vwCl (ztys dA) zcast zdecl ztexts zover znc
theorem zG0_m {D : va_G} {dA : Nat → ClassId} : zGm (zG0 D dA) := zG_m
theorem zG0_K {D : va_G} {dA : Nat → ClassId} (A : Nat → Prop) (s : State) (h : zG0 D dA A s) : va_K D vwCl (ztys dA) s := h.1
theorem w_m {c0 w : Cond} (h : w ∈ zTs) : w ∈ c0 :: zTs := List.mem_cons_of_mem _ h
theorem w_in {c0 : Cond} {ws : List Cond} (h : ∀ w ∈ ws, w ∈ zTs) : ∀ w ∈ ws, w ∈ c0 :: zTs := fun w hw => List.mem_cons_of_mem _ (h w hw)
theorem w_good {c0 : Cond} {ws : List Cond} (h : ∀ w ∈ ws, w ∈ zTs) : GoodIn (c0 :: zTs) ws := fun w hw => ⟨List.mem_cons_of_mem _ (h w hw), zTs_good (h w hw)⟩
theorem w_V {R : Room} {s : State} {args : Array Value} {own C : String} {index maxL mc ms n : Nat} {y : MethodName} {bytes : ByteArray} {ret : Option FieldType} {rm : Room} {c0 : Cond} (hts : ∀ w ∈ c0 :: zTs, w.before args s = true) (h1 : Cond.methodLink own index y ∈ zTs) (h2 : Cond.instanceMethod y ∈ zTs) (h3 : Cond.selects C y y ∈ zTs) (h4 : Cond.initialized C ∈ zTs) (h5 : Cond.code y bytes maxL ret ∈ zTs) (hrc : rm.cells = mc) (hrs : rm.slots = ms)
    (hd : y.cls = C ∧ y.cls ≠ "java/lang/invoke/MethodHandle" ∧ y.cls ≠ "java/lang/invoke/VarHandle" ∧ (parseMethodDescriptor y.desc).map (fun d => d.parameters.length) = some n) (hR : rm.frames + 1 ≤ R.frames ∧ 8 + (maxL + 11) + rm.locals ≤ R.locals) : CallW R s args own C index y bytes maxL ret (Cond.code y bytes maxL ret :: zTs) rm mc ms n :=
  cwV n hts (w_good (fun w hw => by
    rcases List.mem_append.mp hw with h | h
    · simp only [List.mem_cons, List.not_mem_nil, or_false] at h
      rcases h with e | e | e | e <;> rw [e] <;> assumption
    · rcases List.mem_cons.mp h with e | h
      · rw [e]; exact h5
      · exact h)) rfl hrc hrs hd hR
theorem w_S {R : Room} {s : State} {args : Array Value} {own : String} {index maxL mc ms n : Nat} {y : MethodName} {bytes : ByteArray} {ret : Option FieldType} {rm : Room} {c0 : Cond} (hts : ∀ w ∈ c0 :: zTs, w.before args s = true) (h1 : Cond.methodLink own index y ∈ zTs) (h2 : Cond.static y ∈ zTs) (h4 : Cond.initialized y.cls ∈ zTs) (h5 : Cond.code y bytes maxL ret ∈ zTs) (hrc : rm.cells = mc) (hrs : rm.slots = ms)
    (hd : y.cls ≠ "java/lang/invoke/MethodHandle" ∧ y.cls ≠ "java/lang/invoke/VarHandle" ∧ (parseMethodDescriptor y.desc).map (fun d => d.parameters.length) = some n) (hR : rm.frames + 1 ≤ R.frames ∧ 8 + (maxL + 11) + rm.locals ≤ R.locals) : CallB R s args own index y bytes maxL ret (Cond.code y bytes maxL ret :: zTs) rm mc ms n ∧ (Cond.static y).before args s = true :=
  va_cwS n hts (w_good (fun w hw => by
    rcases List.mem_append.mp hw with h | h
    · simp only [List.mem_cons, List.not_mem_nil, or_false] at h
      rcases h with e | e | e <;> rw [e] <;> assumption
    · rcases List.mem_cons.mp h with e | h
      · rw [e]; exact h5
      · exact h)) rfl hrc hrs hd hR
theorem w_I {R : Room} {s : State} {args : Array Value} {own : String} {index maxL mc ms n : Nat} {y : MethodName} {bytes : ByteArray} {rm : Room} {c0 : Cond} (hts : ∀ w ∈ c0 :: zTs, w.before args s = true) (h1 : Cond.methodLink own index y ∈ zTs) (h2 : Cond.instanceMethod y ∈ zTs) (h4 : Cond.initialized y.cls ∈ zTs) (h5 : Cond.code y bytes maxL none ∈ zTs) (hrc : rm.cells = mc) (hrs : rm.slots = ms) (hy : y.name = "<init>")
    (hd : y.cls ≠ "java/lang/invoke/MethodHandle" ∧ y.cls ≠ "java/lang/invoke/VarHandle" ∧ (parseMethodDescriptor y.desc).map (fun d => d.parameters.length) = some n) (hR : rm.frames + 1 ≤ R.frames ∧ 8 + (maxL + 11) + rm.locals ≤ R.locals) : CallB R s args own index y bytes maxL none (Cond.code y bytes maxL none :: zTs) rm mc ms n ∧ y.name = "<init>" ∧ (Cond.instanceMethod y).before args s = true :=
  cwI n hts (w_good (fun w hw => by
    rcases List.mem_cons.mp hw with e | h
    · rw [e]; exact h5
    · exact h)) rfl hrc hrs (hts _ (w_m h4)) (hts _ (w_m h1)) (hts _ (w_m h2)) hy hd hR
/-- reading behind a write -/
theorem rd_s {S : zS} {n k : Nat} {x : Int32} : (zsi S n k x).2.1 n k = x := z2_s
theorem rd_i {S : zS} {n k a b : Nat} {x v : Int32} (h : a ≠ n ∨ b ≠ k) (hv : S.2.1 a b = v) : (zsi S n k x).2.1 a b = v := (z2_n h).trans hv
theorem rd_ip {S : zS} {n k a b : Nat} {r : Option Nat} {v : Int32} (hv : S.2.1 a b = v) : (zsp S n k r).2.1 a b = v := hv
theorem rp_s {S : zS} {n k : Nat} {r : Option Nat} : (zsp S n k r).2.2.1 n k = r := z2_s
theorem rp_p {S : zS} {n k a b : Nat} {r v : Option Nat} (h : a ≠ n ∨ b ≠ k) (hv : S.2.2.1 a b = v) : (zsp S n k r).2.2.1 a b = v := (z2_n h).trans hv
theorem rp_i {S : zS} {n k a b : Nat} {x : Int32} {v : Option Nat} (hv : S.2.2.1 a b = v) : (zsi S n k x).2.2.1 a b = v := hv
end
section
/-! searching a stretch of numbers -/
def zfind (p : Nat → Bool) : Nat → Nat → Option Nat
  | 0, _ => none
  | k + 1, o => if p o = true then some o else zfind p k (o + 1)
theorem zfind_none {p : Nat → Bool} : ∀ {k o : Nat}, (∀ j, o ≤ j → j < o + k → p j = false) → zfind p k o = none
  | 0, _, _ => rfl
  | k + 1, o, h => by
    show (if p o = true then some o else zfind p k (o + 1)) = none
    rw [if_neg (by rw [h o (Nat.le_refl _) (by omega)]; decide)]
    exact zfind_none (fun j h1 h2 => h j (by omega) (by omega))
theorem zfind_some {p : Nat → Bool} : ∀ {k o x : Nat}, o ≤ x → x < o + k → (∀ j, o ≤ j → j < x → p j = false) → p x = true → zfind p k o = some x
  | 0, o, x, h1, h2, _, _ => by omega
  | k + 1, o, x, h1, h2, h3, h4 => by
    show (if p o = true then some o else zfind p k (o + 1)) = some x
    by_cases e : o = x
    · subst e; rw [if_pos h4]
    · rw [if_neg (by rw [h3 o (Nat.le_refl _) (by omega)]; decide)]
      exact zfind_some (by omega) (by omega) (fun j h1 h2 => h3 j (by omega) h2) h4
theorem zfind_spec {p : Nat → Bool} : ∀ {k o x : Nat}, zfind p k o = some x → o ≤ x ∧ x < o + k ∧ p x = true ∧ ∀ j, o ≤ j → j < x → p j = false
  | 0, o, x, h => by cases h
  | k + 1, o, x, h => by
    have h' : (if p o = true then some o else zfind p k (o + 1)) = some x := h
    by_cases e : p o = true
    · rw [if_pos e] at h'
      cases h'
      exact ⟨Nat.le_refl _, by omega, e, fun j h1 h2 => by omega⟩
    · rw [if_neg e] at h'
      obtain ⟨a, b, c, d⟩ := zfind_spec h'
      refine ⟨by omega, by omega, c, fun j h1 h2 => ?_⟩
      by_cases ej : j = o
      · subst ej; exact Bool.eq_false_iff.mpr e
      · exact d j (by omega) h2
theorem zfind_nspec {p : Nat → Bool} : ∀ {k o : Nat}, zfind p k o = none → ∀ j, o ≤ j → j < o + k → p j = false
  | 0, o, _, j, h1, h2 => by omega
  | k + 1, o, h, j, h1, h2 => by
    have h' : (if p o = true then some o else zfind p k (o + 1)) = none := h
    by_cases e : p o = true
    · rw [if_pos e] at h'; cases h'
    · rw [if_neg e] at h'
      by_cases ej : j = o
      · subst ej; exact Bool.eq_false_iff.mpr e
      · exact zfind_nspec h' j (by omega) (by omega)
theorem zfind_congr {p q : Nat → Bool} : ∀ {k o : Nat}, (∀ j, o ≤ j → j < o + k → p j = q j) → zfind p k o = zfind q k o
  | 0, _, _ => rfl
  | k + 1, o, h => by
    show (if p o = true then some o else zfind p k (o + 1)) = if q o = true then some o else zfind q k (o + 1)
    rw [h o (Nat.le_refl _) (by omega), zfind_congr (k := k) (o := o + 1) (fun j h1 h2 => h j (by omega) (by omega))]
end
section
/-! one log: what its cells say, in numbers -/
/-- how many of k numbers from o on -/
def zcnt (p : Nat → Bool) : Nat → Nat → Nat
  | 0, _ => 0
  | k + 1, o => (if p o = true then 1 else 0) + zcnt p k (o + 1)
theorem zcnt_le {p : Nat → Bool} : ∀ {k o : Nat}, zcnt p k o ≤ k
  | 0, _ => Nat.le_refl _
  | k + 1, o => by
    have h := zcnt_le (p := p) (k := k) (o := o + 1)
    show (if p o = true then 1 else 0) + zcnt p k (o + 1) ≤ k + 1
    by_cases e : p o = true
    · rw [if_pos e]; omega
    · rw [if_neg e]; omega
theorem zcnt_congr {p q : Nat → Bool} : ∀ {k o : Nat}, (∀ j, o ≤ j → j < o + k → p j = q j) → zcnt p k o = zcnt q k o
  | 0, _, _ => rfl
  | k + 1, o, h => by
    show (if p o = true then 1 else 0) + zcnt p k (o + 1) = (if q o = true then 1 else 0) + zcnt q k (o + 1)
    rw [h o (Nat.le_refl _) (by omega), zcnt_congr (k := k) (o := o + 1) (fun j h1 h2 => h j (by omega) (by omega))]
/-- one more at x -/
theorem zcnt_put {p q : Nat → Bool} : ∀ {k o x : Nat}, o ≤ x → x < o + k → p x = false → q x = true → (∀ j, j ≠ x → p j = q j) → zcnt q k o = zcnt p k o + 1
  | 0, o, x, h1, h2, _, _, _ => by omega
  | k + 1, o, x, h1, h2, hp, hq, h => by
    show (if q o = true then 1 else 0) + zcnt q k (o + 1) = (if p o = true then 1 else 0) + zcnt p k (o + 1) + 1
    by_cases e : o = x
    · subst e
      rw [hp, hq, zcnt_congr (p := p) (q := q) (k := k) (o := o + 1) (fun j h1 h2 => h j (by omega)), if_pos rfl, if_neg (by decide)]
      omega
    · rw [h o e, zcnt_put (p := p) (q := q) (k := k) (o := o + 1) (x := x) (by omega) (by omega) hp hq h]
      omega
/-- a record: kind, key, value, producer, state -/
abbrev zE : Type := Int32 × Int32 × Int32 × Int32 × Int32
/-- a log: (size, most, compacted), (start, end), the records by their offsets -/
abbrev zLg : Type := (Nat × Nat × Int32) × (Nat × Nat) × (Nat → Option zE)
/-- the open segment's base, the closed segments from start on, the records there -/
def zBa (g : zLg) : Nat := g.2.1.2 / g.1.1 * g.1.1
def zCl (g : zLg) : Nat := (zBa g - g.2.1.1) / g.1.1
def zPr (g : zLg) : Nat := zcnt (fun o => (g.2.2 o).isSome) 60 0
def zEat (S : zS) (x : Nat) (e : zE) : Prop := S.1 x = true ∧ S.2.1 x 0 = e.1 ∧ S.2.1 x 1 = e.2.1 ∧ S.2.1 x 2 = e.2.2.1 ∧ S.2.1 x 3 = e.2.2.2.1 ∧ S.2.1 x 4 = e.2.2.2.2
/-- the cells of the log tp -/
def zLogA (S : zS) (tp : Nat) (g : zLg) : Prop :=
  S.1 (60 + tp) = true ∧ S.1 (80 + tp) = true ∧ S.2.1 (60 + tp) 0 = nI g.1.1 ∧ S.2.1 (60 + tp) 1 = nI g.1.2.1 ∧ S.2.1 (60 + tp) 2 = g.1.2.2 ∧ S.2.2.1 (60 + tp) 3 = some (80 + tp) ∧
  S.2.1 (60 + tp) 4 = nI g.2.1.1 ∧ S.2.1 (60 + tp) 5 = nI g.2.1.2 ∧ S.2.1 (60 + tp) 6 = nI (zBa g) ∧ S.2.1 (60 + tp) 7 = nI (zCl g) ∧ S.2.1 (60 + tp) 8 = nI (zPr g) ∧
  (∀ o, S.2.2.1 (80 + tp) o = (g.2.2 o).map (fun _ => 200 + 60 * tp + o)) ∧ ∀ o e, g.2.2 o = some e → zEat S (200 + 60 * tp + o) e
/-- what holds of its numbers -/
def zLogW (g : zLg) : Prop :=
  1 ≤ g.1.1 ∧ g.1.1 ≤ 4 ∧ 1 ≤ g.1.2.1 ∧ g.1.2.1 ≤ 5 ∧ g.2.1.1 ≤ zBa g ∧ g.2.1.2 ≤ 60 ∧ g.2.1.1 % g.1.1 = 0 ∧ (∀ o, g.2.1.2 ≤ o → g.2.2 o = none) ∧ ∀ o, o < g.2.1.1 → g.2.2 o = none
/-- size is 1, 2, 3 or 4 -/
theorem z4 {P : Nat → Prop} (h1 : P 1) (h2 : P 2) (h3 : P 3) (h4 : P 4) {n : Nat} (a : 1 ≤ n) (b : n ≤ 4) : P n := by
  rcases (show n = 1 ∨ n = 2 ∨ n = 3 ∨ n = 4 by omega) with e | e | e | e <;> rw [e] <;> assumption
theorem zBa_le (g : zLg) : zBa g ≤ g.2.1.2 := Nat.div_mul_le_self _ _
theorem zBa_lt (g : zLg) (h : 1 ≤ g.1.1) (h4 : g.1.1 ≤ 4) : g.2.1.2 < zBa g + g.1.1 := by
  unfold zBa
  generalize g.2.1.2 = en
  exact z4 (P := fun n => en < en / n * n + n) (by omega) (by omega) (by omega) (by omega) h h4
theorem zCl_eq (g : zLg) (h : 1 ≤ g.1.1) (h4 : g.1.1 ≤ 4) (hm : g.2.1.1 % g.1.1 = 0) (hb : g.2.1.1 ≤ zBa g) : g.2.1.1 + zCl g * g.1.1 = zBa g := by
  unfold zCl zBa at *
  generalize g.2.1.2 = en at *
  generalize g.2.1.1 = st at *
  revert hm hb
  exact z4 (P := fun n => st % n = 0 → st ≤ en / n * n → st + (en / n * n - st) / n * n = en / n * n) (by omega) (by omega) (by omega) (by omega) h h4
def zUnd (r : Option zE) : Bool := match r with
  | some e => decide (e.2.2.2.2 = nI 2)
  | none => false
def zUndP (p : Int32) (r : Option zE) : Bool := match r with
  | some e => decide (e.2.2.2.2 = nI 2) && decide (e.2.2.2.1 = p)
  | none => false
def zData (r : Option zE) : Bool := match r with
  | some e => decide (e.1 = nI 0)
  | none => false
/-- to be seen: by all, or by committed readers -/
def zSee (c : Bool) (r : Option zE) : Bool := match r with
  | some e => decide (e.1 = nI 0) && (!c || decide (e.2.2.2.2 = nI 0))
  | none => false
/-- the stable offset -/
def zStab (g : zLg) : Nat := (zfind (fun o => zUnd (g.2.2 o)) (g.2.1.2 - g.2.1.1) g.2.1.1).getD g.2.1.2
theorem zStab_le (g : zLg) (h : g.2.1.1 ≤ g.2.1.2) : g.2.1.1 ≤ zStab g ∧ zStab g ≤ g.2.1.2 := by
  unfold zStab
  cases hf : zfind (fun o => zUnd (g.2.2 o)) (g.2.1.2 - g.2.1.1) g.2.1.1 with
  | none => exact ⟨h, Nat.le_refl _⟩
  | some x =>
    obtain ⟨a, b, -, -⟩ := zfind_spec hf
    show g.2.1.1 ≤ x ∧ x ≤ g.2.1.2
    omega
/-- the first to be seen from o on, or -1 -/
def zVis (g : zLg) (o : Nat) (c : Bool) : Option Nat := zfind (fun j => zSee c (g.2.2 j)) ((if c = true then zStab g else g.2.1.2) - o) o
/-- a record more; a record less; the first segment gone -/
def zApp (g : zLg) (e : zE) : zLg := (g.1, (g.2.1.1, g.2.1.2 + 1), fun o => if o = g.2.1.2 then some e else g.2.2 o)
def zDrop (g : zLg) (o : Nat) : zLg := (g.1, g.2.1, fun j => if j = o then none else g.2.2 j)
def zSh1 (g : zLg) : zLg := (g.1, (g.2.1.1 + g.1.1, g.2.1.2), fun o => if o < g.2.1.1 + g.1.1 then none else g.2.2 o)
def zShort (stb : Nat) : Nat → zLg → zLg
  | 0, g => g
  | f + 1, g => if g.1.2.1 < zCl g ∧ g.2.1.1 + g.1.1 ≤ stb then zShort stb f (zSh1 g) else g
/-- decided: what was undecided of p -/
def zSet (g : zLg) (p x : Int32) : zLg := (g.1, g.2.1, fun o => (g.2.2 o).map (fun e => if e.2.2.2.2 = nI 2 ∧ e.2.2.2.1 = p then (e.1, e.2.1, e.2.2.1, e.2.2.2.1, x) else e))
/-- the names of a log's cells -/
def zOwnG (tp n : Nat) : Prop := n = 60 + tp ∨ n = 80 + tp ∨ (200 + 60 * tp ≤ n ∧ n < 260 + 60 * tp)
/-- two stores that differ in the names of own alone -/
def zfr (own : Nat → Prop) (S S' : zS) : Prop := (∀ n, ¬ own n → S'.1 n = S.1 n) ∧ ∀ n, ¬ own n → S'.2.1 n = S.2.1 n ∧ S'.2.2.1 n = S.2.2.1 n ∧ S'.2.2.2 n = S.2.2.2 n
theorem zfr.rf {own : Nat → Prop} {S : zS} : zfr own S S := ⟨fun _ _ => rfl, fun _ _ => ⟨rfl, rfl, rfl⟩⟩
theorem zfr.tr {own : Nat → Prop} {S1 S2 S3 : zS} (h : zfr own S1 S2) (g : zfr own S2 S3) : zfr own S1 S3 := ⟨fun n hn => (g.1 n hn).trans (h.1 n hn), fun n hn => ⟨(g.2 n hn).1.trans (h.2 n hn).1, (g.2 n hn).2.1.trans (h.2 n hn).2.1, (g.2 n hn).2.2.trans (h.2 n hn).2.2⟩⟩
theorem zfr.mono {o1 o2 : Nat → Prop} {S S' : zS} (h : zfr o1 S S') (m : ∀ n, o1 n → o2 n) : zfr o2 S S' := ⟨fun n hn => h.1 n (fun q => hn (m n q)), fun n hn => h.2 n (fun q => hn (m n q))⟩
theorem zfr.i {own : Nat → Prop} {S : zS} {n k : Nat} {x : Int32} (h : own n) : zfr own S (zsi S n k x) := ⟨fun _ _ => rfl, fun a ha => ⟨(z2_o (f := S.2.1) (n := n) (k := k) (q := a) (x := x) (fun e => ha (by rw [e]; exact h))).symm, rfl, rfl⟩⟩
theorem zfr.p {own : Nat → Prop} {S : zS} {n k : Nat} {r : Option Nat} (h : own n) : zfr own S (zsp S n k r) := ⟨fun _ _ => rfl, fun a ha => ⟨rfl, (z2_o (f := S.2.2.1) (n := n) (k := k) (q := a) (x := r) (fun e => ha (by rw [e]; exact h))).symm, rfl⟩⟩
theorem zPr_app {g : zLg} {e : zE} (h : g.2.1.2 < 60) (hn : g.2.2 g.2.1.2 = none) : zPr (zApp g e) = zPr g + 1 := by
  unfold zPr
  refine zcnt_put (x := g.2.1.2) (Nat.zero_le _) (by omega) (by show (g.2.2 g.2.1.2).isSome = false; rw [hn]; rfl) (by show (if g.2.1.2 = g.2.1.2 then some e else g.2.2 g.2.1.2).isSome = true; rw [if_pos rfl]; rfl) (fun j hj => ?_)
  show (g.2.2 j).isSome = (if j = g.2.1.2 then some e else g.2.2 j).isSome
  rw [if_neg hj]
theorem zPr_drop {g : zLg} {o : Nat} {e : zE} (h : o < 60) (hn : g.2.2 o = some e) : zPr g = zPr (zDrop g o) + 1 := by
  unfold zPr
  refine zcnt_put (x := o) (Nat.zero_le _) (by omega) (by show (if o = o then none else g.2.2 o).isSome = false; rw [if_pos rfl]; rfl) (by show (g.2.2 o).isSome = true; rw [hn]; rfl) (fun j hj => ?_)
  show (if j = o then none else g.2.2 j).isSome = (g.2.2 j).isSome
  rw [if_neg hj]
theorem zDrop_none {g : zLg} {o : Nat} (h : g.2.2 o = none) : zDrop g o = g := by
  have e : (fun j => if j = o then none else g.2.2 j) = g.2.2 := by
    funext j
    by_cases hj : j = o
    · rw [if_pos hj, hj, h]
    · rw [if_neg hj]
  unfold zDrop
  rw [e]
theorem zBa_app1 {g : zLg} {e : zE} (h1 : 1 ≤ g.1.1) (h4 : g.1.1 ≤ 4) (h : g.2.1.2 + 1 = zBa g + g.1.1) : zBa (zApp g e) = g.2.1.2 + 1 ∧ (g.2.1.1 ≤ zBa g → zCl (zApp g e) = zCl g + 1) := by
  revert h
  unfold zCl zBa zApp
  dsimp only
  generalize g.2.1.2 = en
  generalize g.2.1.1 = st
  exact z4 (P := fun n => en + 1 = en / n * n + n → (en + 1) / n * n = en + 1 ∧ (st ≤ en / n * n → ((en + 1) / n * n - st) / n = (en / n * n - st) / n + 1)) (by omega) (by omega) (by omega) (by omega) h1 h4
theorem zBa_app0 {g : zLg} {e : zE} (h1 : 1 ≤ g.1.1) (h4 : g.1.1 ≤ 4) (h : ¬ g.2.1.2 + 1 = zBa g + g.1.1) : zBa (zApp g e) = zBa g ∧ zCl (zApp g e) = zCl g := by
  revert h
  unfold zCl zBa zApp
  dsimp only
  generalize g.2.1.2 = en
  generalize g.2.1.1 = st
  exact z4 (P := fun n => ¬ en + 1 = en / n * n + n → (en + 1) / n * n = en / n * n ∧ ((en + 1) / n * n - st) / n = (en / n * n - st) / n) (by omega) (by omega) (by omega) (by omega) h1 h4
theorem zLogW_app {g : zLg} {e : zE} (h : zLogW g) (hen : g.2.1.2 < 60) : zLogW (zApp g e) := by
  obtain ⟨w1, w2, w3, w4, w5, w6, w7, w8, w9⟩ := id h
  refine ⟨w1, w2, w3, w4, ?_, by show g.2.1.2 + 1 ≤ 60; omega, w7, fun o ho => ?_, fun o ho => ?_⟩
  · show g.2.1.1 ≤ zBa (zApp g e)
    by_cases hc : g.2.1.2 + 1 = zBa g + g.1.1
    · rw [(zBa_app1 w1 w2 hc).1]; have := zBa_le g; omega
    · rw [(zBa_app0 w1 w2 hc).1]; exact w5
  · have ho' : g.2.1.2 + 1 ≤ o := ho
    show (if o = g.2.1.2 then some e else g.2.2 o) = none
    rw [if_neg (by omega)]; exact w8 o (by omega)
  · have ho' : o < g.2.1.1 := ho
    have := zBa_le g
    show (if o = g.2.1.2 then some e else g.2.2 o) = none
    rw [if_neg (by omega)]; exact w9 o ho'
/-- a record's state is written -/
theorem zLogA_st {S : zS} {tp o : Nat} {g : zLg} {r : zE} {x : Int32} (h : zLogA S tp g) (htp : tp < 12) (ho : o < 60) (he : g.2.2 o = some r) : zLogA (zsi S (200 + 60 * tp + o) 4 x) tp (g.1, g.2.1, fun j => if j = o then some (r.1, r.2.1, r.2.2.1, r.2.2.2.1, x) else g.2.2 j) := by
  obtain ⟨hd1, hd2, f0, f1, f2, f3, f4, f5, f6, f7, f8, hent, hee⟩ := h
  have hp : zPr (g.1, g.2.1, fun j => if j = o then some (r.1, r.2.1, r.2.2.1, r.2.2.2.1, x) else g.2.2 j) = zPr g := by
    unfold zPr
    refine zcnt_congr (fun j _ _ => ?_)
    show (if j = o then some (r.1, r.2.1, r.2.2.1, r.2.2.2.1, x) else g.2.2 j).isSome = _
    by_cases e9 : j = o
    · rw [if_pos e9, e9, he]; rfl
    · rw [if_neg e9]
  refine ⟨hd1, hd2, rd_i (Or.inl (by omega)) f0, rd_i (Or.inl (by omega)) f1, rd_i (Or.inl (by omega)) f2, f3, rd_i (Or.inl (by omega)) f4, rd_i (Or.inl (by omega)) f5, rd_i (Or.inl (by omega)) f6, rd_i (Or.inl (by omega)) f7, rd_i (Or.inl (by omega)) (by rw [hp]; exact f8), fun j => ?_, fun j y hy => ?_⟩
  · refine (hent j).trans ?_
    show _ = (if j = o then some (r.1, r.2.1, r.2.2.1, r.2.2.2.1, x) else g.2.2 j).map _
    by_cases e9 : j = o
    · rw [if_pos e9, e9, he]; rfl
    · rw [if_neg e9]
  · have hy' : (if j = o then some (r.1, r.2.1, r.2.2.1, r.2.2.2.1, x) else g.2.2 j) = some y := hy
    by_cases e9 : j = o
    · subst e9
      rw [if_pos rfl] at hy'
      cases hy'
      obtain ⟨q1, q2, q3, q4, q5, q6⟩ := hee j r he
      exact ⟨q1, rd_i (Or.inr (by decide)) q2, rd_i (Or.inr (by decide)) q3, rd_i (Or.inr (by decide)) q4, rd_i (Or.inr (by decide)) q5, rd_s⟩
    · rw [if_neg e9] at hy'
      obtain ⟨q1, q2, q3, q4, q5, q6⟩ := hee j y hy'
      exact ⟨q1, rd_i (Or.inl (by omega)) q2, rd_i (Or.inl (by omega)) q3, rd_i (Or.inl (by omega)) q4, rd_i (Or.inl (by omega)) q5, rd_i (Or.inl (by omega)) q6⟩
def zHasU (g : zLg) (q : Int32) : Bool := (zfind (fun o => zUndP q (g.2.2 o)) (g.2.1.2 - g.2.1.1) g.2.1.1).isSome
def zSt1 (q x : Int32) (e : zE) : zE := if e.2.2.2.2 = nI 2 ∧ e.2.2.2.1 = q then (e.1, e.2.1, e.2.2.1, e.2.2.2.1, x) else e
theorem zLogW_ent {g : zLg} {f : Nat → Option zE} (h : zLogW g) (hf : ∀ o, g.2.2 o = none → f o = none) : zLogW (g.1, g.2.1, f) := by
  obtain ⟨w1, w2, w3, w4, w5, w6, w7, w8, w9⟩ := h
  exact ⟨w1, w2, w3, w4, w5, w6, w7, fun o ho => hf o (w8 o ho), fun o ho => hf o (w9 o ho)⟩
theorem zLogW_drop {g : zLg} {o : Nat} (h : zLogW g) : zLogW (zDrop g o) := zLogW_ent h (fun j hj => by
  show (if j = o then none else g.2.2 j) = none
  by_cases e9 : j = o
  · rw [if_pos e9]
  · rw [if_neg e9]; exact hj)
theorem zCl_sh1 {g : zLg} (h : zLogW g) (h1 : 1 ≤ zCl g) : zCl (zSh1 g) = zCl g - 1 ∧ g.2.1.1 + g.1.1 ≤ zBa g := by
  obtain ⟨w1, w2, w3, w4, w5, w6, w7, w8, w9⟩ := h
  revert h1 w5 w7
  unfold zCl zBa zSh1
  dsimp only
  generalize g.2.1.2 = en
  generalize g.2.1.1 = st
  exact z4 (P := fun n => 1 ≤ (en / n * n - st) / n → st ≤ en / n * n → st % n = 0 → (en / n * n - (st + n)) / n = (en / n * n - st) / n - 1 ∧ st + n ≤ en / n * n) (by omega) (by omega) (by omega) (by omega) w1 w2
theorem zLogW_sh1 {g : zLg} (h : zLogW g) (h1 : 1 ≤ zCl g) : zLogW (zSh1 g) := by
  have h2 := zCl_sh1 h h1
  obtain ⟨w1, w2, w3, w4, w5, w6, w7, w8, w9⟩ := h
  refine ⟨w1, w2, w3, w4, h2.2, w6, ?_, fun o ho => ?_, fun o ho => ?_⟩
  · show (g.2.1.1 + g.1.1) % g.1.1 = 0
    rw [Nat.add_mod_right]; exact w7
  · show (if o < g.2.1.1 + g.1.1 then none else g.2.2 o) = none
    by_cases e9 : o < g.2.1.1 + g.1.1
    · rw [if_pos e9]
    · rw [if_neg e9]; exact w8 o ho
  · show (if o < g.2.1.1 + g.1.1 then none else g.2.2 o) = none
    exact if_pos ho
theorem zLogA_sh1 {S : zS} {tp : Nat} {g : zLg} (h : zLogA S tp (g.1, g.2.1, (zSh1 g).2.2)) (hc : zCl (zSh1 g) = zCl g - 1) : zLogA (zsi (zsi S (60 + tp) 4 (nI (g.2.1.1 + g.1.1))) (60 + tp) 7 (nI (zCl g - 1))) tp (zSh1 g) := by
  obtain ⟨hd1, hd2, f0, f1, f2, f3, f4, f5, f6, f7, f8, hent, hee⟩ := h
  refine ⟨hd1, hd2, rd_i (Or.inr (by decide)) (rd_i (Or.inr (by decide)) f0), rd_i (Or.inr (by decide)) (rd_i (Or.inr (by decide)) f1), rd_i (Or.inr (by decide)) (rd_i (Or.inr (by decide)) f2), f3, rd_i (Or.inr (by decide)) rd_s, rd_i (Or.inr (by decide)) (rd_i (Or.inr (by decide)) f5), rd_i (Or.inr (by decide)) (rd_i (Or.inr (by decide)) f6), by rw [hc]; exact rd_s, rd_i (Or.inr (by decide)) (rd_i (Or.inr (by decide)) f8), hent, fun o e he => ?_⟩
  obtain ⟨q1, q2, q3, q4, q5, q6⟩ := hee o e he
  exact ⟨q1, rd_i (Or.inr (by decide)) (rd_i (Or.inr (by decide)) q2), rd_i (Or.inr (by decide)) (rd_i (Or.inr (by decide)) q3), rd_i (Or.inr (by decide)) (rd_i (Or.inr (by decide)) q4), rd_i (Or.inr (by decide)) (rd_i (Or.inr (by decide)) q5), rd_i (Or.inl (by omega)) (rd_i (Or.inl (by omega)) q6)⟩
def zOI (r : Option Nat) : Int32 := match r with
  | some x => nI x
  | none => -1
theorem zPr_mono {g g1 : zLg} (h : ∀ o, g.2.2 o = none → g1.2.2 o = none) : zPr g1 ≤ zPr g := by
  unfold zPr
  suffices H : ∀ (k o : Nat), zcnt (fun o => (g1.2.2 o).isSome) k o ≤ zcnt (fun o => (g.2.2 o).isSome) k o from H 60 0
  intro k
  induction k with
  | zero => intro o; exact Nat.le_refl _
  | succ k ih =>
    intro o
    show (if (g1.2.2 o).isSome = true then 1 else 0) + zcnt _ k (o + 1) ≤ (if (g.2.2 o).isSome = true then 1 else 0) + zcnt _ k (o + 1)
    have h1 := ih (o + 1)
    cases hg : g.2.2 o with
    | none => rw [h o hg]; exact Nat.add_le_add_left h1 _
    | some e =>
      show _ ≤ 1 + _
      by_cases e9 : (g1.2.2 o).isSome = true
      · rw [if_pos e9]; omega
      · rw [if_neg e9]; omega
end
section
/-! CONTRACTS of LogBroker$Log (rows by program) -/
set_option maxHeartbeats 600000 in
set_option maxRecDepth 100000 in
/-- Log.isFull -/
theorem mG_isFull (l : Launch) (D : va_G) (dA : Nat → ClassId) {S : zS} {tp : Nat} {g : zLg} (htp : tp < 12) (hO : zLogA S tp g) (hW : zLogW g) : zMet l D vwCl zKK dA (zG0 D dA) yG_isFull (Cond.code yG_isFull cG_isFull 1 (some .boolean) :: zTs) { frames := 0, cells := 0, slots := 0, locals := 0 } 0 0 [.ref (60 + tp)] S (fun v S' => v = some (.int (if 60 ≤ g.2.1.2 then nI 1 else nI 0)) ∧ S' = S) (fun _ _ => False) := by
  refine z_met (tys := ztys dA) (by decide) rfl zG0_K rfl (Nat.le_of_ble_eq_true rfl) (fun p e s m args below meth c A ad X hr hlocks hin hex => ?_)
  obtain ⟨hd1, hd2, f0, f1, f2, f3, f4, f5, f6, f7, f8, hent, hee⟩ := id hO
  obtain ⟨w1, w2, w3, w4, w5, w6, w7, w8, w9⟩ := id hW
  have wb := zBa_le g
  have wp : zPr g ≤ 60 := zcnt_le
  refine z_aload_n (j := 0) X dG_isFull_0 rfl rfl ?_
  refine z_geti (C := RG) (T := TG) (N := 9) (k := 5) X (w_in inG) rfl rfl (kd_G htp) (by decide) (w_m lG_28) rfl rfl dG_isFull_1 (hv := f5) ?_
  refine z_bipush (v := (nI 60)) X dG_isFull_4 (by decide) ?_
  refine z_icmp_ltN (tgt := 13) X dG_isFull_6 (by decide) (by omega) (by omega) (fun c_6 => ?_) (fun c_6 => ?_)
  · refine z_iconst (v := (nI 0)) X dG_isFull_13 (by decide) ?_
    refine z_zret X hlocks hr dG_isFull_14 (by first | rfl | decide) (by omega) (by omega) ?_
    exact ⟨by rw [if_neg (by omega)], rfl⟩
  · refine z_iconst (v := (nI 1)) X dG_isFull_9 (by decide) ?_
    refine z_goto (tgt := 14) X dG_isFull_10 (by decide) ?_
    refine z_zret X hlocks hr dG_isFull_14 (by first | rfl | decide) (by omega) (by omega) ?_
    exact ⟨by rw [if_pos (by omega)], rfl⟩

set_option maxHeartbeats 600000 in
set_option maxRecDepth 100000 in
/-- Log.stableOffset -/
theorem mG_stableOffset (l : Launch) (D : va_G) (dA : Nat → ClassId) {S : zS} {tp : Nat} {g : zLg} (htp : tp < 12) (hO : zLogA S tp g) (hW : zLogW g) : zMet l D vwCl zKK dA (zG0 D dA) yG_stableOffset (Cond.code yG_stableOffset cG_stableOffset 2 (some .int) :: zTs) { frames := 0, cells := 0, slots := 0, locals := 0 } 0 0 [.ref (60 + tp)] S (fun v S' => v = some (.int (nI (zStab g))) ∧ S' = S) (fun _ _ => False) := by
  refine z_met (tys := ztys dA) (by decide) rfl zG0_K rfl (Nat.le_of_ble_eq_true rfl) (fun p e s m args below meth c A ad X hr hlocks hin hex => ?_)
  obtain ⟨hd1, hd2, f0, f1, f2, f3, f4, f5, f6, f7, f8, hent, hee⟩ := id hO
  obtain ⟨w1, w2, w3, w4, w5, w6, w7, w8, w9⟩ := id hW
  have wb := zBa_le g
  have wp : zPr g ≤ 60 := zcnt_le
  have loop : ∀ (f o : Nat), g.2.1.2 - o < f → g.2.1.1 ≤ o → o ≤ g.2.1.2 → (∀ j, g.2.1.1 ≤ j → j < o → zUnd (g.2.2 j) = false) → AW p l e { frames := 0, cells := 0, slots := 0, locals := 0 } s m args below meth c D vwCl zKK dA A (ad, S) 2 S 0 0 (vx_MQ below (zQc D vwCl zKK dA A ad S (fun v S' => v = some (.int (nI (zStab g))) ∧ S' = S)) (zXC D vwCl zKK dA A ad S (fun _ _ => False)) args s 0 0 A) 5 [(1, .int (nI o)), (0, .ref (60 + tp))] [] := by
    intro f
    induction f with
    | zero => intro o h0; omega
    | succ f ih =>
    intro o h0 hi1 hi2 hi3
    refine z_iload_n (j := 0) X dG_stableOffset_5 rfl rfl ?_
    refine z_aload_n (j := 1) X dG_stableOffset_6 rfl rfl ?_
    refine z_geti (C := RG) (T := TG) (N := 9) (k := 5) X (w_in inG) rfl rfl (kd_G htp) (by decide) (w_m lG_28) rfl rfl dG_stableOffset_7 (hv := f5) ?_
    refine z_icmp_geN (tgt := 43) X dG_stableOffset_10 (by decide) (by omega) (by omega) (fun c_10 => ?_) (fun c_10 => ?_)
    · refine z_aload_n (j := 1) X dG_stableOffset_43 rfl rfl ?_
      refine z_geti (C := RG) (T := TG) (N := 9) (k := 5) X (w_in inG) rfl rfl (kd_G htp) (by decide) (w_m lG_28) rfl rfl dG_stableOffset_44 (hv := f5) ?_
      refine z_iret X hlocks hr dG_stableOffset_47 (by omega) (by omega) ?_
      refine ⟨?_, rfl⟩
      unfold zStab
      rw [zfind_none (fun j h1 h2 => hi3 j h1 (by omega))]
      rfl
    · refine z_aload_n (j := 1) X dG_stableOffset_13 rfl rfl ?_
      refine z_getr (C := RG) (T := TG) (N := 9) (k := 3) X (w_in inG) rfl rfl (kd_G htp) (by decide) (w_m lG_11) rfl rfl f3 dG_stableOffset_14 ?_
      refine z_iload_n (j := 0) X dG_stableOffset_17 rfl rfl ?_
      rcases he : g.2.2 o with _ | r
      · refine z_aaldN (t0 := 6) X (kd_GA htp) (by decide) (by decide) (by decide) rfl (by omega) (by decide) (by rw [hent, he]; rfl) dG_stableOffset_18 ?_
        refine z_ifnullN (tgt := 37) X dG_stableOffset_19 (by decide) ?_
        refine z_iinc (j := 0) (v := (nI (o + 1))) (L' := [(1, .int (nI (o + 1))), (0, .ref (60 + tp))]) X dG_stableOffset_37 rfl (nI_1 o) (by decide) rfl ?_
        refine z_goto (tgt := 5) X dG_stableOffset_40 (by decide) ?_
        exact ih (o + 1) (by omega) (by omega) (by omega) (fun j h1 h2 => by
          by_cases e9 : j = o
          · subst e9; rw [he]; rfl
          · exact hi3 j h1 (by omega))
      · refine z_aald (t0 := 6) X (kd_GA htp) (by decide) (by decide) (by decide) rfl (by omega) (by decide) (by rw [hent, he]; rfl) dG_stableOffset_18 ?_
        refine z_ifnull X dG_stableOffset_19 ?_
        refine z_aload_n (j := 1) X dG_stableOffset_22 rfl rfl ?_
        refine z_getr (C := RG) (T := TG) (N := 9) (k := 3) X (w_in inG) rfl rfl (kd_G htp) (by decide) (w_m lG_11) rfl rfl f3 dG_stableOffset_23 ?_
        refine z_iload_n (j := 0) X dG_stableOffset_26 rfl rfl ?_
        refine z_aald (t0 := 6) X (kd_GA htp) (by decide) (by decide) (by decide) rfl (by omega) (by decide) (by rw [hent, he]; rfl) dG_stableOffset_27 ?_
        refine z_geti (C := RE) (T := TE) (N := 5) (k := 4) X (w_in inE) rfl rfl (kd_E htp (by omega)) (by decide) (w_m lG_51) rfl rfl dG_stableOffset_28 (hv := (hee o r he).2.2.2.2.2) ?_
        refine z_iconst (v := (nI 2)) X dG_stableOffset_31 (by decide) ?_
        refine z_icmp_ne (tgt := 37) X dG_stableOffset_32 (by decide) (fun c_32 => ?_) (fun c_32 => ?_)
        · refine z_iinc (j := 0) (v := (nI (o + 1))) (L' := [(1, .int (nI (o + 1))), (0, .ref (60 + tp))]) X dG_stableOffset_37 rfl (nI_1 o) (by decide) rfl ?_
          refine z_goto (tgt := 5) X dG_stableOffset_40 (by decide) ?_
          exact ih (o + 1) (by omega) (by omega) (by omega) (fun j h1 h2 => by
            by_cases e9 : j = o
            · subst e9; rw [he]; exact decide_eq_false c_32
            · exact hi3 j h1 (by omega))
        · refine z_iload_n (j := 0) X dG_stableOffset_35 rfl rfl ?_
          refine z_iret X hlocks hr dG_stableOffset_36 (by omega) (by omega) ?_
          refine ⟨?_, rfl⟩
          unfold zStab
          rw [zfind_some (x := o) hi1 (by omega) hi3 (by rw [he]; exact decide_eq_true c_32)]
          rfl
  refine z_aload_n (j := 0) X dG_stableOffset_0 rfl rfl ?_
  refine z_geti (C := RG) (T := TG) (N := 9) (k := 4) X (w_in inG) rfl rfl (kd_G htp) (by decide) (w_m lG_44) rfl rfl dG_stableOffset_1 (hv := f4) ?_
  refine z_istore_n (L' := [(1, .int (nI g.2.1.1)), (0, .ref (60 + tp))]) X dG_stableOffset_4 rfl (by decide) rfl ?_
  exact loop (g.2.1.2 - g.2.1.1 + 1) g.2.1.1 (by omega) (Nat.le_refl _) (by omega) (fun j h1 h2 => by omega)
end
section
/-! CONTRACTS of LogBroker$Log: writing (rows by program) -/
set_option maxHeartbeats 600000 in
set_option maxRecDepth 100000 in
theorem mE_isUndecidedOf (l : Launch) (D : va_G) (dA : Nat → ClassId) {S : zS} {tp o : Nat} {r : zE} {q : Int32} (htp : tp < 12) (ho : o < 60) (hr0 : zEat S (200 + 60 * tp + o) r) : zMet l D vwCl zKK dA (zG0 D dA) yE_isUndecidedOf (Cond.code yE_isUndecidedOf cE_isUndecidedOf 2 (some .boolean) :: zTs) { frames := 0, cells := 0, slots := 0, locals := 0 } 0 0 [.ref (200 + 60 * tp + o), .int q] S (fun v S' => v = some (.int (if r.2.2.2.2 = nI 2 ∧ r.2.2.2.1 = q then nI 1 else nI 0)) ∧ S' = S) (fun _ _ => False) := by
  refine z_met (tys := ztys dA) (by decide) rfl zG0_K rfl (Nat.le_of_ble_eq_true rfl) (fun p e s m args below meth c A ad X hr hlocks hin hex => ?_)
  refine z_aload_n (j := 0) X dE_isUndecidedOf_0 rfl rfl ?_
  refine z_geti (C := RE) (T := TE) (N := 5) (k := 4) X (w_in inE) rfl rfl (kd_E htp ho) (by decide) (w_m lE_24) rfl rfl dE_isUndecidedOf_1 (hv := hr0.2.2.2.2.2) ?_
  refine z_iconst (v := (nI 2)) X dE_isUndecidedOf_4 (by decide) ?_
  refine z_icmp_ne (tgt := 20) X dE_isUndecidedOf_5 (by decide) (fun c_5 => ?_) (fun c_5 => ?_)
  · refine z_iconst (v := (nI 0)) X dE_isUndecidedOf_20 (by decide) ?_
    refine z_zret X hlocks hr dE_isUndecidedOf_21 (by first | rfl | decide) (by omega) (by omega) ?_
    first | exact ⟨by rw [if_neg (fun h => c_5 h.1)], rfl⟩ | exact ⟨by rw [if_neg (fun h => c_13 h.2)], rfl⟩
  · refine z_aload_n (j := 0) X dE_isUndecidedOf_8 rfl rfl ?_
    refine z_geti (C := RE) (T := TE) (N := 5) (k := 3) X (w_in inE) rfl rfl (kd_E htp ho) (by decide) (w_m lE_21) rfl rfl dE_isUndecidedOf_9 (hv := hr0.2.2.2.2.1) ?_
    refine z_iload_n (j := 1) X dE_isUndecidedOf_12 rfl rfl ?_
    refine z_icmp_ne (tgt := 20) X dE_isUndecidedOf_13 (by decide) (fun c_13 => ?_) (fun c_13 => ?_)
    · refine z_iconst (v := (nI 0)) X dE_isUndecidedOf_20 (by decide) ?_
      refine z_zret X hlocks hr dE_isUndecidedOf_21 (by first | rfl | decide) (by omega) (by omega) ?_
      first | exact ⟨by rw [if_neg (fun h => c_5 h.1)], rfl⟩ | exact ⟨by rw [if_neg (fun h => c_13 h.2)], rfl⟩
    · refine z_iconst (v := (nI 1)) X dE_isUndecidedOf_16 (by decide) ?_
      refine z_goto (tgt := 21) X dE_isUndecidedOf_17 (by decide) ?_
      refine z_zret X hlocks hr dE_isUndecidedOf_21 (by first | rfl | decide) (by omega) (by omega) ?_
      exact ⟨by rw [if_pos ⟨c_5, c_13⟩], rfl⟩

set_option maxHeartbeats 600000 in
set_option maxRecDepth 100000 in
theorem mG_hasData (l : Launch) (D : va_G) (dA : Nat → ClassId) {S : zS} {tp : Nat} {g : zLg} {o : Nat} (htp : tp < 12) (hO : zLogA S tp g) (hW : zLogW g) (ho : o < 60) : zMet l D vwCl zKK dA (zG0 D dA) yG_hasData (Cond.code yG_hasData cG_hasData 2 (some .boolean) :: zTs) { frames := 0, cells := 0, slots := 0, locals := 0 } 0 0 [.ref (60 + tp), .int (nI o)] S (fun v S' => v = some (.int (if zData (g.2.2 o) = true then nI 1 else nI 0)) ∧ S' = S) (fun _ _ => False) := by
  refine z_met (tys := ztys dA) (by decide) rfl zG0_K rfl (Nat.le_of_ble_eq_true rfl) (fun p e s m args below meth c A ad X hr hlocks hin hex => ?_)
  obtain ⟨hd1, hd2, f0, f1, f2, f3, f4, f5, f6, f7, f8, hent, hee⟩ := id hO
  obtain ⟨w1, w2, w3, w4, w5, w6, w7, w8, w9⟩ := id hW
  have wb := zBa_le g
  have wp : zPr g ≤ 60 := zcnt_le
  refine z_aload_n (j := 0) X dG_hasData_0 rfl rfl ?_
  refine z_getr (C := RG) (T := TG) (N := 9) (k := 3) X (w_in inG) rfl rfl (kd_G htp) (by decide) (w_m lG_11) rfl rfl f3 dG_hasData_1 ?_
  refine z_iload_n (j := 1) X dG_hasData_4 rfl rfl ?_
  rcases he : g.2.2 o with _ | r
  · refine z_aaldN (t0 := 6) X (kd_GA htp) (by decide) (by decide) (by decide) rfl (by omega) (by decide) (by rw [hent, he]; rfl) dG_hasData_5 ?_
    refine z_ifnullN (tgt := 25) X dG_hasData_6 (by decide) ?_
    refine z_iconst (v := (nI 0)) X dG_hasData_25 (by decide) ?_
    refine z_zret X hlocks hr dG_hasData_26 (by first | rfl | decide) (by omega) (by omega) ?_
    exact ⟨by rw [if_neg (by decide)], rfl⟩
  · refine z_aald (t0 := 6) X (kd_GA htp) (by decide) (by decide) (by decide) rfl (by omega) (by decide) (by rw [hent, he]; rfl) dG_hasData_5 ?_
    refine z_ifnull X dG_hasData_6 ?_
    refine z_aload_n (j := 0) X dG_hasData_9 rfl rfl ?_
    refine z_getr (C := RG) (T := TG) (N := 9) (k := 3) X (w_in inG) rfl rfl (kd_G htp) (by decide) (w_m lG_11) rfl rfl f3 dG_hasData_10 ?_
    refine z_iload_n (j := 1) X dG_hasData_13 rfl rfl ?_
    refine z_aald (t0 := 6) X (kd_GA htp) (by decide) (by decide) (by decide) rfl (by omega) (by decide) (by rw [hent, he]; rfl) dG_hasData_14 ?_
    refine z_geti (C := RE) (T := TE) (N := 5) (k := 0) X (w_in inE) rfl rfl (kd_E htp (by omega)) (by decide) (w_m lG_58) rfl rfl dG_hasData_15 (hv := (hee o r he).2.1) ?_
    refine z_if_ne (tgt := 25) X dG_hasData_18 (by decide) (fun c_18 => ?_) (fun c_18 => ?_)
    · refine z_iconst (v := (nI 0)) X dG_hasData_25 (by decide) ?_
      refine z_zret X hlocks hr dG_hasData_26 (by first | rfl | decide) (by omega) (by omega) ?_
      exact ⟨by rw [if_neg (fun h => c_18 ((of_decide_eq_true h).trans nI_0))], rfl⟩
    · refine z_iconst (v := (nI 1)) X dG_hasData_21 (by decide) ?_
      refine z_goto (tgt := 26) X dG_hasData_22 (by decide) ?_
      refine z_zret X hlocks hr dG_hasData_26 (by first | rfl | decide) (by omega) (by omega) ?_
      exact ⟨by rw [if_pos (show zData (some r) = true from decide_eq_true (c_18.trans nI_0.symm))], rfl⟩

set_option maxHeartbeats 600000 in
set_option maxRecDepth 100000 in
theorem mG_append (l : Launch) (D : va_G) (dA : Nat → ClassId) {S : zS} {tp : Nat} {g : zLg} {x : zE} (htp : tp < 12) (hO : zLogA S tp g) (hW : zLogW g) (hen : g.2.1.2 < 60) (hx : zEat S (200 + 60 * tp + g.2.1.2) x) : zMet l D vwCl zKK dA (zG0 D dA) yG_append (Cond.code yG_append cG_append 3 (some .int) :: zTs) { frames := 0, cells := 0, slots := 0, locals := 0 } 0 0 [.ref (60 + tp), .ref (200 + 60 * tp + g.2.1.2)] S (fun v S' => v = some (.int (nI g.2.1.2)) ∧ zLogA S' tp (zApp g x) ∧ zfr (zOwnG tp) S S' ∧ S'.1 = S.1) (fun _ _ => False) := by
  refine z_met (tys := ztys dA) (by decide) rfl zG0_K rfl (Nat.le_of_ble_eq_true rfl) (fun p e s m args below meth c A ad X hr hlocks hin hex => ?_)
  obtain ⟨hd1, hd2, f0, f1, f2, f3, f4, f5, f6, f7, f8, hent, hee⟩ := id hO
  obtain ⟨w1, w2, w3, w4, w5, w6, w7, w8, w9⟩ := id hW
  have wb := zBa_le g
  have wp : zPr g ≤ 60 := zcnt_le
  refine z_aload_n (j := 0) X dG_append_0 rfl rfl ?_
  refine z_geti (C := RG) (T := TG) (N := 9) (k := 5) X (w_in inG) rfl rfl (kd_G htp) (by decide) (w_m lG_28) rfl rfl dG_append_1 (hv := f5) ?_
  refine z_istore_n (L' := [(2, .int (nI g.2.1.2)), (0, .ref (60 + tp)), (1, .ref (200 + 60 * tp + g.2.1.2))]) X dG_append_4 rfl (by decide) rfl ?_
  refine z_aload_n (j := 1) X dG_append_5 rfl rfl ?_
  refine z_getr (C := RG) (T := TG) (N := 9) (k := 3) X (w_in inG) rfl rfl (kd_G htp) (by decide) (w_m lG_11) rfl rfl f3 dG_append_6 ?_
  refine z_iload_n (j := 0) X dG_append_9 rfl rfl ?_
  refine z_aload_n (j := 2) X dG_append_10 rfl rfl ?_
  refine z_aast (t0 := 6) X (kd_GA htp) (by decide) (by decide) (by decide) rfl hen (by decide) (kd_E htp hen) rfl rfl dG_append_11 ?_
  refine z_aload_n (j := 1) X dG_append_12 rfl rfl ?_
  refine z_dup X dG_append_13 rfl ?_
  refine z_geti (C := RG) (T := TG) (N := 9) (k := 8) X (w_in inG) rfl rfl (kd_G htp) (by decide) (w_m lG_31) rfl rfl dG_append_14 (hv := (rd_ip f8)) ?_
  refine z_iconst (v := (nI 1)) X dG_append_17 (by decide) ?_
  refine z_iadd X dG_append_18 ?_
  refine z_top (nI_add (zPr g) 1) ?_
  refine z_puti (C := RG) (T := TG) (N := 9) (k := 8) X (w_in inG) rfl rfl (kd_G htp) (by decide) (w_m lG_31) rfl tyG tyG_ok nmG rfl rfl (ty := .int) (by decide +kernel) rfl rfl dG_append_19 ?_
  refine z_aload_n (j := 1) X dG_append_22 rfl rfl ?_
  refine z_dup X dG_append_23 rfl ?_
  refine z_geti (C := RG) (T := TG) (N := 9) (k := 5) X (w_in inG) rfl rfl (kd_G htp) (by decide) (w_m lG_28) rfl rfl dG_append_24 (hv := (rd_i (Or.inr (by decide)) (rd_ip f5))) ?_
  refine z_iconst (v := (nI 1)) X dG_append_27 (by decide) ?_
  refine z_iadd X dG_append_28 ?_
  refine z_top (nI_add g.2.1.2 1) ?_
  refine z_puti (C := RG) (T := TG) (N := 9) (k := 5) X (w_in inG) rfl rfl (kd_G htp) (by decide) (w_m lG_28) rfl tyG tyG_ok nmG rfl rfl (ty := .int) (by decide +kernel) rfl rfl dG_append_29 ?_
  refine z_aload_n (j := 1) X dG_append_32 rfl rfl ?_
  refine z_geti (C := RG) (T := TG) (N := 9) (k := 5) X (w_in inG) rfl rfl (kd_G htp) (by decide) (w_m lG_28) rfl rfl dG_append_33 (hv := rd_s) ?_
  refine z_aload_n (j := 1) X dG_append_36 rfl rfl ?_
  refine z_geti (C := RG) (T := TG) (N := 9) (k := 6) X (w_in inG) rfl rfl (kd_G htp) (by decide) (w_m lG_34) rfl rfl dG_append_37 (hv := (rd_i (Or.inr (by decide)) (rd_i (Or.inr (by decide)) (rd_ip f6)))) ?_
  refine z_aload_n (j := 1) X dG_append_40 rfl rfl ?_
  refine z_geti (C := RG) (T := TG) (N := 9) (k := 0) X (w_in inG) rfl rfl (kd_G htp) (by decide) (w_m lG_17) rfl rfl dG_append_41 (hv := (rd_i (Or.inr (by decide)) (rd_i (Or.inr (by decide)) (rd_ip f0)))) ?_
  refine z_iadd X dG_append_44 ?_
  refine z_top (nI_add (zBa g) g.1.1) ?_
  refine z_icmp_neN (tgt := 66) X dG_append_45 (by decide) (by omega) (by omega) (fun c_45 => ?_) (fun c_45 => ?_)
  · refine z_iload_n (j := 0) X dG_append_66 rfl rfl ?_
    refine z_iret X hlocks hr dG_append_67 (by omega) (by omega) ?_
    refine ⟨rfl, ⟨hd1, hd2, (rd_i (Or.inr (by decide)) (rd_i (Or.inr (by decide)) (rd_ip f0))), (rd_i (Or.inr (by decide)) (rd_i (Or.inr (by decide)) (rd_ip f1))), (rd_i (Or.inr (by decide)) (rd_i (Or.inr (by decide)) (rd_ip f2))), (rp_i (rp_i (rp_p (Or.inl (by omega)) f3))), (rd_i (Or.inr (by decide)) (rd_i (Or.inr (by decide)) (rd_ip f4))), rd_s, (by rw [(zBa_app0 w1 w2 c_45).1]; exact (rd_i (Or.inr (by decide)) (rd_i (Or.inr (by decide)) (rd_ip f6)))), (by rw [(zBa_app0 w1 w2 c_45).2]; exact (rd_i (Or.inr (by decide)) (rd_i (Or.inr (by decide)) (rd_ip f7)))), (by rw [zPr_app hen (w8 _ (Nat.le_refl _))]; exact (rd_i (Or.inr (by decide)) rd_s)), fun o => ?_, fun o y hy => ?_⟩, (((zfr.rf.tr (zfr.p (Or.inr (Or.inl rfl)))).tr (zfr.i (Or.inl rfl))).tr (zfr.i (Or.inl rfl))), rfl⟩
    · show _ = (if o = g.2.1.2 then some x else g.2.2 o).map _
      by_cases e9 : o = g.2.1.2
      · subst e9
        rw [if_pos rfl]
        exact (rp_i (rp_i rp_s))
      · rw [if_neg e9]
        refine Eq.trans ?_ (hent o)
        exact (z2_n (f := S.2.2.1) (Or.inr e9))
    · have hy' : (if o = g.2.1.2 then some x else g.2.2 o) = some y := hy
      by_cases e9 : o = g.2.1.2
      · subst e9
        rw [if_pos rfl] at hy'
        cases hy'
        exact ⟨hx.1, (rd_i (Or.inl (by omega)) (rd_i (Or.inl (by omega)) (rd_ip hx.2.1))), (rd_i (Or.inl (by omega)) (rd_i (Or.inl (by omega)) (rd_ip hx.2.2.1))), (rd_i (Or.inl (by omega)) (rd_i (Or.inl (by omega)) (rd_ip hx.2.2.2.1))), (rd_i (Or.inl (by omega)) (rd_i (Or.inl (by omega)) (rd_ip hx.2.2.2.2.1))), (rd_i (Or.inl (by omega)) (rd_i (Or.inl (by omega)) (rd_ip hx.2.2.2.2.2)))⟩
      · rw [if_neg e9] at hy'
        have h9 := hee o y hy'
        exact ⟨h9.1, (rd_i (Or.inl (by omega)) (rd_i (Or.inl (by omega)) (rd_ip h9.2.1))), (rd_i (Or.inl (by omega)) (rd_i (Or.inl (by omega)) (rd_ip h9.2.2.1))), (rd_i (Or.inl (by omega)) (rd_i (Or.inl (by omega)) (rd_ip h9.2.2.2.1))), (rd_i (Or.inl (by omega)) (rd_i (Or.inl (by omega)) (rd_ip h9.2.2.2.2.1))), (rd_i (Or.inl (by omega)) (rd_i (Or.inl (by omega)) (rd_ip h9.2.2.2.2.2)))⟩
  · refine z_aload_n (j := 1) X dG_append_48 rfl rfl ?_
    refine z_aload_n (j := 1) X dG_append_49 rfl rfl ?_
    refine z_geti (C := RG) (T := TG) (N := 9) (k := 5) X (w_in inG) rfl rfl (kd_G htp) (by decide) (w_m lG_28) rfl rfl dG_append_50 (hv := rd_s) ?_
    refine z_puti (C := RG) (T := TG) (N := 9) (k := 6) X (w_in inG) rfl rfl (kd_G htp) (by decide) (w_m lG_34) rfl tyG tyG_ok nmG rfl rfl (ty := .int) (by decide +kernel) rfl rfl dG_append_53 ?_
    refine z_aload_n (j := 1) X dG_append_56 rfl rfl ?_
    refine z_dup X dG_append_57 rfl ?_
    refine z_geti (C := RG) (T := TG) (N := 9) (k := 7) X (w_in inG) rfl rfl (kd_G htp) (by decide) (w_m lG_37) rfl rfl dG_append_58 (hv := (rd_i (Or.inr (by decide)) (rd_i (Or.inr (by decide)) (rd_i (Or.inr (by decide)) (rd_ip f7))))) ?_
    refine z_iconst (v := (nI 1)) X dG_append_61 (by decide) ?_
    refine z_iadd X dG_append_62 ?_
    refine z_top (nI_add (zCl g) 1) ?_
    refine z_puti (C := RG) (T := TG) (N := 9) (k := 7) X (w_in inG) rfl rfl (kd_G htp) (by decide) (w_m lG_37) rfl tyG tyG_ok nmG rfl rfl (ty := .int) (by decide +kernel) rfl rfl dG_append_63 ?_
    refine z_iload_n (j := 0) X dG_append_66 rfl rfl ?_
    refine z_iret X hlocks hr dG_append_67 (by omega) (by omega) ?_
    refine ⟨rfl, ⟨hd1, hd2, (rd_i (Or.inr (by decide)) (rd_i (Or.inr (by decide)) (rd_i (Or.inr (by decide)) (rd_i (Or.inr (by decide)) (rd_ip f0))))), (rd_i (Or.inr (by decide)) (rd_i (Or.inr (by decide)) (rd_i (Or.inr (by decide)) (rd_i (Or.inr (by decide)) (rd_ip f1))))), (rd_i (Or.inr (by decide)) (rd_i (Or.inr (by decide)) (rd_i (Or.inr (by decide)) (rd_i (Or.inr (by decide)) (rd_ip f2))))), (rp_i (rp_i (rp_i (rp_i (rp_p (Or.inl (by omega)) f3))))), (rd_i (Or.inr (by decide)) (rd_i (Or.inr (by decide)) (rd_i (Or.inr (by decide)) (rd_i (Or.inr (by decide)) (rd_ip f4))))), (rd_i (Or.inr (by decide)) (rd_i (Or.inr (by decide)) rd_s)), (by rw [(zBa_app1 w1 w2 c_45).1]; exact (rd_i (Or.inr (by decide)) rd_s)), (by rw [(zBa_app1 w1 w2 c_45).2 w5]; exact rd_s), (by rw [zPr_app hen (w8 _ (Nat.le_refl _))]; exact (rd_i (Or.inr (by decide)) (rd_i (Or.inr (by decide)) (rd_i (Or.inr (by decide)) rd_s)))), fun o => ?_, fun o y hy => ?_⟩, (((((zfr.rf.tr (zfr.p (Or.inr (Or.inl rfl)))).tr (zfr.i (Or.inl rfl))).tr (zfr.i (Or.inl rfl))).tr (zfr.i (Or.inl rfl))).tr (zfr.i (Or.inl rfl))), rfl⟩
    · show _ = (if o = g.2.1.2 then some x else g.2.2 o).map _
      by_cases e9 : o = g.2.1.2
      · subst e9
        rw [if_pos rfl]
        exact (rp_i (rp_i (rp_i (rp_i rp_s))))
      · rw [if_neg e9]
        refine Eq.trans ?_ (hent o)
        exact (z2_n (f := S.2.2.1) (Or.inr e9))
    · have hy' : (if o = g.2.1.2 then some x else g.2.2 o) = some y := hy
      by_cases e9 : o = g.2.1.2
      · subst e9
        rw [if_pos rfl] at hy'
        cases hy'
        exact ⟨hx.1, (rd_i (Or.inl (by omega)) (rd_i (Or.inl (by omega)) (rd_i (Or.inl (by omega)) (rd_i (Or.inl (by omega)) (rd_ip hx.2.1))))), (rd_i (Or.inl (by omega)) (rd_i (Or.inl (by omega)) (rd_i (Or.inl (by omega)) (rd_i (Or.inl (by omega)) (rd_ip hx.2.2.1))))), (rd_i (Or.inl (by omega)) (rd_i (Or.inl (by omega)) (rd_i (Or.inl (by omega)) (rd_i (Or.inl (by omega)) (rd_ip hx.2.2.2.1))))), (rd_i (Or.inl (by omega)) (rd_i (Or.inl (by omega)) (rd_i (Or.inl (by omega)) (rd_i (Or.inl (by omega)) (rd_ip hx.2.2.2.2.1))))), (rd_i (Or.inl (by omega)) (rd_i (Or.inl (by omega)) (rd_i (Or.inl (by omega)) (rd_i (Or.inl (by omega)) (rd_ip hx.2.2.2.2.2)))))⟩
      · rw [if_neg e9] at hy'
        have h9 := hee o y hy'
        exact ⟨h9.1, (rd_i (Or.inl (by omega)) (rd_i (Or.inl (by omega)) (rd_i (Or.inl (by omega)) (rd_i (Or.inl (by omega)) (rd_ip h9.2.1))))), (rd_i (Or.inl (by omega)) (rd_i (Or.inl (by omega)) (rd_i (Or.inl (by omega)) (rd_i (Or.inl (by omega)) (rd_ip h9.2.2.1))))), (rd_i (Or.inl (by omega)) (rd_i (Or.inl (by omega)) (rd_i (Or.inl (by omega)) (rd_i (Or.inl (by omega)) (rd_ip h9.2.2.2.1))))), (rd_i (Or.inl (by omega)) (rd_i (Or.inl (by omega)) (rd_i (Or.inl (by omega)) (rd_i (Or.inl (by omega)) (rd_ip h9.2.2.2.2.1))))), (rd_i (Or.inl (by omega)) (rd_i (Or.inl (by omega)) (rd_i (Or.inl (by omega)) (rd_i (Or.inl (by omega)) (rd_ip h9.2.2.2.2.2)))))⟩

set_option maxHeartbeats 600000 in
set_option maxRecDepth 100000 in
theorem mG_drop (l : Launch) (D : va_G) (dA : Nat → ClassId) {S : zS} {tp : Nat} {g : zLg} {o : Nat} (htp : tp < 12) (hO : zLogA S tp g) (hW : zLogW g) (ho : o < 60) : zMet l D vwCl zKK dA (zG0 D dA) yG_drop (Cond.code yG_drop cG_drop 2 none :: zTs) { frames := 0, cells := 0, slots := 0, locals := 0 } 0 0 [.ref (60 + tp), .int (nI o)] S (fun v S' => v = none ∧ zLogA S' tp (zDrop g o) ∧ zfr (zOwnG tp) S S' ∧ S'.1 = S.1) (fun _ _ => False) := by
  refine z_met (tys := ztys dA) (by decide) rfl zG0_K rfl (Nat.le_of_ble_eq_true rfl) (fun p e s m args below meth c A ad X hr hlocks hin hex => ?_)
  obtain ⟨hd1, hd2, f0, f1, f2, f3, f4, f5, f6, f7, f8, hent, hee⟩ := id hO
  obtain ⟨w1, w2, w3, w4, w5, w6, w7, w8, w9⟩ := id hW
  have wb := zBa_le g
  have wp : zPr g ≤ 60 := zcnt_le
  refine z_aload_n (j := 0) X dG_drop_0 rfl rfl ?_
  refine z_getr (C := RG) (T := TG) (N := 9) (k := 3) X (w_in inG) rfl rfl (kd_G htp) (by decide) (w_m lG_11) rfl rfl f3 dG_drop_1 ?_
  refine z_iload_n (j := 1) X dG_drop_4 rfl rfl ?_
  rcases he : g.2.2 o with _ | r
  · refine z_aaldN (t0 := 6) X (kd_GA htp) (by decide) (by decide) (by decide) rfl (by omega) (by decide) (by rw [hent, he]; rfl) dG_drop_5 ?_
    refine z_ifnullN (tgt := 26) X dG_drop_6 (by decide) ?_
    refine z_vret X hlocks hr dG_drop_26 (by omega) (by omega) ?_
    exact ⟨rfl, by rw [zDrop_none he]; exact hO, zfr.rf, rfl⟩
  · have hpr := zPr_drop ho he
    refine z_aald (t0 := 6) X (kd_GA htp) (by decide) (by decide) (by decide) rfl (by omega) (by decide) (by rw [hent, he]; rfl) dG_drop_5 ?_
    refine z_ifnull X dG_drop_6 ?_
    refine z_aload_n (j := 0) X dG_drop_9 rfl rfl ?_
    refine z_getr (C := RG) (T := TG) (N := 9) (k := 3) X (w_in inG) rfl rfl (kd_G htp) (by decide) (w_m lG_11) rfl rfl f3 dG_drop_10 ?_
    refine z_iload_n (j := 1) X dG_drop_13 rfl rfl ?_
    refine z_null X dG_drop_14 ?_
    refine z_aastN (t0 := 6) X (kd_GA htp) (by decide) (by decide) (by decide) rfl ho (by decide)  dG_drop_15 ?_
    refine z_aload_n (j := 0) X dG_drop_16 rfl rfl ?_
    refine z_dup X dG_drop_17 rfl ?_
    refine z_geti (C := RG) (T := TG) (N := 9) (k := 8) X (w_in inG) rfl rfl (kd_G htp) (by decide) (w_m lG_31) rfl rfl dG_drop_18 (hv := (rd_ip f8)) ?_
    refine z_iconst (v := (nI 1)) X dG_drop_21 (by decide) ?_
    refine z_isub X dG_drop_22 ?_
    refine z_top (pk_sub (a := zPr g) (b := 1) (by omega)) ?_
    refine z_puti (C := RG) (T := TG) (N := 9) (k := 8) X (w_in inG) rfl rfl (kd_G htp) (by decide) (w_m lG_31) rfl tyG tyG_ok nmG rfl rfl (ty := .int) (by decide +kernel) rfl rfl dG_drop_23 ?_
    refine z_vret X hlocks hr dG_drop_26 (by omega) (by omega) ?_
    refine ⟨rfl, ⟨hd1, hd2, (rd_i (Or.inr (by decide)) (rd_ip f0)), (rd_i (Or.inr (by decide)) (rd_ip f1)), (rd_i (Or.inr (by decide)) (rd_ip f2)), (rp_i (rp_p (Or.inl (by omega)) f3)), (rd_i (Or.inr (by decide)) (rd_ip f4)), (rd_i (Or.inr (by decide)) (rd_ip f5)), (rd_i (Or.inr (by decide)) (rd_ip f6)), (rd_i (Or.inr (by decide)) (rd_ip f7)), (by rw [show zPr (zDrop g o) = zPr g - 1 by omega]; exact rd_s), fun j => ?_, fun j y hy => ?_⟩, ((zfr.rf.tr (zfr.p (Or.inr (Or.inl rfl)))).tr (zfr.i (Or.inl rfl))), rfl⟩
    · show _ = (if j = o then none else g.2.2 j).map _
      by_cases e9 : j = o
      · subst e9
        rw [if_pos rfl]
        exact (rp_i rp_s)
      · rw [if_neg e9]
        refine Eq.trans ?_ (hent j)
        exact (z2_n (f := S.2.2.1) (Or.inr e9))
    · have hy' : (if j = o then none else g.2.2 j) = some y := hy
      by_cases e9 : j = o
      · rw [if_pos e9] at hy'; cases hy'
      · rw [if_neg e9] at hy'
        have h9 := hee j y hy'
        exact ⟨h9.1, (rd_i (Or.inl (by omega)) (rd_ip h9.2.1)), (rd_i (Or.inl (by omega)) (rd_ip h9.2.2.1)), (rd_i (Or.inl (by omega)) (rd_ip h9.2.2.2.1)), (rd_i (Or.inl (by omega)) (rd_ip h9.2.2.2.2.1)), (rd_i (Or.inl (by omega)) (rd_ip h9.2.2.2.2.2))⟩
end
section
/-! CONTRACTS of LogBroker$Log: searching and settling (rows by program) -/
set_option maxHeartbeats 600000 in
set_option maxRecDepth 100000 in
theorem mG_hasUndecidedOf (l : Launch) (D : va_G) (dA : Nat → ClassId) {S : zS} {tp : Nat} {g : zLg} {q : Int32} (htp : tp < 12) (hO : zLogA S tp g) (hW : zLogW g) : zMet l D vwCl zKK dA (zG0 D dA) yG_hasUndecidedOf (Cond.code yG_hasUndecidedOf cG_hasUndecidedOf 3 (some .boolean) :: zTs) { frames := 1, cells := 0, slots := 0, locals := 21 } 0 0 [.ref (60 + tp), .int q] S (fun v S' => v = some (.int (if zHasU g q = true then nI 1 else nI 0)) ∧ S' = S) (fun _ _ => False) := by
  refine z_met (tys := ztys dA) (by decide) rfl zG0_K rfl (Nat.le_of_ble_eq_true rfl) (fun p e s m args below meth c A ad X hr hlocks hin hex => ?_)
  obtain ⟨hd1, hd2, f0, f1, f2, f3, f4, f5, f6, f7, f8, hent, hee⟩ := id hO
  obtain ⟨w1, w2, w3, w4, w5, w6, w7, w8, w9⟩ := id hW
  have wb := zBa_le g
  have wp : zPr g ≤ 60 := zcnt_le
  have loop : ∀ (f o : Nat), g.2.1.2 - o < f → g.2.1.1 ≤ o → o ≤ g.2.1.2 → (∀ j, g.2.1.1 ≤ j → j < o → zUndP q (g.2.2 j) = false) → AW p l e { frames := 1, cells := 0, slots := 0, locals := 21 } s m args below meth c D vwCl zKK dA A (ad, S) 3 S 0 0 (vx_MQ below (zQc D vwCl zKK dA A ad S (fun v S' => v = some (.int (if zHasU g q = true then nI 1 else nI 0)) ∧ S' = S)) (zXC D vwCl zKK dA A ad S (fun _ _ => False)) args s 0 0 A) 5 [(2, .int (nI o)), (0, .ref (60 + tp)), (1, .int q)] [] := by
    intro f
    induction f with
    | zero => intro o h0; omega
    | succ f ih =>
    intro o h0 hi1 hi2 hi3
    refine z_iload_n (j := 0) X dG_hasUndecidedOf_5 rfl rfl ?_
    refine z_aload_n (j := 1) X dG_hasUndecidedOf_6 rfl rfl ?_
    refine z_geti (C := RG) (T := TG) (N := 9) (k := 5) X (w_in inG) rfl rfl (kd_G htp) (by decide) (w_m lG_28) rfl rfl dG_hasUndecidedOf_7 (hv := f5) ?_
    refine z_icmp_geN (tgt := 43) X dG_hasUndecidedOf_10 (by decide) (by omega) (by omega) (fun c_10 => ?_) (fun c_10 => ?_)
    · refine z_iconst (v := (nI 0)) X dG_hasUndecidedOf_43 (by decide) ?_
      refine z_zret X hlocks hr dG_hasUndecidedOf_44 (by first | rfl | decide) (by omega) (by omega) ?_
      refine ⟨?_, rfl⟩
      rw [if_neg]
      unfold zHasU
      rw [zfind_none (fun j h1 h2 => hi3 j h1 (by omega))]
      decide
    · refine z_aload_n (j := 1) X dG_hasUndecidedOf_13 rfl rfl ?_
      refine z_getr (C := RG) (T := TG) (N := 9) (k := 3) X (w_in inG) rfl rfl (kd_G htp) (by decide) (w_m lG_11) rfl rfl f3 dG_hasUndecidedOf_14 ?_
      refine z_iload_n (j := 0) X dG_hasUndecidedOf_17 rfl rfl ?_
      rcases he : g.2.2 o with _ | r
      · refine z_aaldN (t0 := 6) X (kd_GA htp) (by decide) (by decide) (by decide) rfl (by omega) (by decide) (by rw [hent, he]; rfl) dG_hasUndecidedOf_18 ?_
        refine z_ifnullN (tgt := 37) X dG_hasUndecidedOf_19 (by decide) ?_
        refine z_iinc (j := 0) (v := (nI (o + 1))) (L' := [(2, .int (nI (o + 1))), (0, .ref (60 + tp)), (1, .int q)]) X dG_hasUndecidedOf_37 rfl (nI_1 o) (by decide) rfl ?_
        refine z_goto (tgt := 5) X dG_hasUndecidedOf_40 (by decide) ?_
        exact ih (o + 1) (by omega) (by omega) (by omega) (fun j h1 h2 => by
          by_cases e9 : j = o
          · subst e9; rw [he]; rfl
          · exact hi3 j h1 (by omega))
      · refine z_aald (t0 := 6) X (kd_GA htp) (by decide) (by decide) (by decide) rfl (by omega) (by decide) (by rw [hent, he]; rfl) dG_hasUndecidedOf_18 ?_
        refine z_ifnull X dG_hasUndecidedOf_19 ?_
        refine z_aload_n (j := 1) X dG_hasUndecidedOf_22 rfl rfl ?_
        refine z_getr (C := RG) (T := TG) (N := 9) (k := 3) X (w_in inG) rfl rfl (kd_G htp) (by decide) (w_m lG_11) rfl rfl f3 dG_hasUndecidedOf_23 ?_
        refine z_iload_n (j := 0) X dG_hasUndecidedOf_26 rfl rfl ?_
        refine z_aald (t0 := 6) X (kd_GA htp) (by decide) (by decide) (by decide) rfl (by omega) (by decide) (by rw [hent, he]; rfl) dG_hasUndecidedOf_27 ?_
        refine z_iload_n (j := 2) X dG_hasUndecidedOf_28 rfl rfl ?_
        refine z_callV (n := 1) (As := [.int q]) (rest := []) X zG0_m (mE_isUndecidedOf l D dA (o := o) htp (by omega) (hee o r he)) (w_V X.2.2.2.2.1 lG_54 jE_isUndecidedOf sE_isUndecidedOf i_LogBroker_Entry kE_isUndecidedOf rfl rfl (by decide +kernel) ⟨Nat.le_of_ble_eq_true rfl, Nat.le_of_ble_eq_true rfl⟩) (kd_E htp (by omega)) rfl rfl rfl rfl (Nat.le_of_ble_eq_true rfl) dG_hasUndecidedOf_29 ⟨Nat.le_of_ble_eq_true rfl, Nat.le_of_ble_eq_true rfl⟩ (fun v S1 hp => ?_) (fun E S1 hx => hx.elim)
        obtain ⟨hv, hS1⟩ := hp
        subst hv
        have hS1 := hS1.symm
        subst hS1
        by_cases hq : r.2.2.2.2 = nI 2 ∧ r.2.2.2.1 = q
        · rw [if_pos hq]
          refine z_if_eq (tgt := 37) X dG_hasUndecidedOf_32 (by decide) (fun c_32 => absurd c_32 (by decide)) (fun c_32 => ?_)
          refine z_iconst (v := (nI 1)) X dG_hasUndecidedOf_35 (by decide) ?_
          refine z_zret X hlocks hr dG_hasUndecidedOf_36 (by first | rfl | decide) (by omega) (by omega) ?_
          refine ⟨?_, rfl⟩
          rw [if_pos]
          unfold zHasU
          rw [zfind_some (x := o) hi1 (by omega) hi3 (by rw [he]; show (decide _ && decide _) = true; rw [decide_eq_true hq.1, decide_eq_true hq.2]; rfl)]
          rfl
        · rw [if_neg hq]
          refine z_if_eq (tgt := 37) X dG_hasUndecidedOf_32 (by decide) (fun c_32 => ?_) (fun c_32 => absurd c_32 (by decide))
          refine z_iinc (j := 0) (v := (nI (o + 1))) (L' := [(2, .int (nI (o + 1))), (0, .ref (60 + tp)), (1, .int q)]) X dG_hasUndecidedOf_37 rfl (nI_1 o) (by decide) rfl ?_
          refine z_goto (tgt := 5) X dG_hasUndecidedOf_40 (by decide) ?_
          exact ih (o + 1) (by omega) (by omega) (by omega) (fun j h1 h2 => by
            by_cases e9 : j = o
            · subst e9; rw [he]; show (decide _ && decide _) = false; exact Bool.eq_false_iff.mpr (fun h => hq (by rw [Bool.and_eq_true] at h; exact ⟨of_decide_eq_true h.1, of_decide_eq_true h.2⟩))
            · exact hi3 j h1 (by omega))
  refine z_aload_n (j := 0) X dG_hasUndecidedOf_0 rfl rfl ?_
  refine z_geti (C := RG) (T := TG) (N := 9) (k := 4) X (w_in inG) rfl rfl (kd_G htp) (by decide) (w_m lG_44) rfl rfl dG_hasUndecidedOf_1 (hv := f4) ?_
  refine z_istore_n (L' := [(2, .int (nI g.2.1.1)), (0, .ref (60 + tp)), (1, .int q)]) X dG_hasUndecidedOf_4 rfl (by decide) rfl ?_
  exact loop (g.2.1.2 - g.2.1.1 + 1) g.2.1.1 (by omega) (Nat.le_refl _) (by omega) (fun j h1 h2 => by omega)

set_option maxHeartbeats 600000 in
set_option maxRecDepth 100000 in
theorem mG_settle (l : Launch) (D : va_G) (dA : Nat → ClassId) {S : zS} {tp : Nat} {g : zLg} {q x : Int32} (htp : tp < 12) (hO : zLogA S tp g) (hW : zLogW g) : zMet l D vwCl zKK dA (zG0 D dA) yG_settle (Cond.code yG_settle cG_settle 4 none :: zTs) { frames := 1, cells := 0, slots := 0, locals := 21 } 0 0 [.ref (60 + tp), .int q, .int x] S (fun v S' => v = none ∧ zLogA S' tp (zSet g q x) ∧ zfr (zOwnG tp) S S' ∧ S'.1 = S.1) (fun _ _ => False) := by
  refine z_met (tys := ztys dA) (by decide) rfl zG0_K rfl (Nat.le_of_ble_eq_true rfl) (fun p e s m args below meth c A ad X hr hlocks hin hex => ?_)
  obtain ⟨hd1, hd2, f0, f1, f2, f3, f4, f5, f6, f7, f8, hent, hee⟩ := id hO
  obtain ⟨w1, w2, w3, w4, w5, w6, w7, w8, w9⟩ := id hW
  have wb := zBa_le g
  have wp : zPr g ≤ 60 := zcnt_le
  have loop : ∀ (f o : Nat) (S1 : zS) (k1 : Nat → Option zE), g.2.1.2 - o < f → g.2.1.1 ≤ o → o ≤ g.2.1.2 → (∀ j, k1 j = if j < o then (g.2.2 j).map (zSt1 q x) else g.2.2 j) → zLogA S1 tp (g.1, g.2.1, k1) → zfr (zOwnG tp) S S1 → S1.1 = S.1 → AW p l e { frames := 1, cells := 0, slots := 0, locals := 21 } s m args below meth c D vwCl zKK dA A (ad, S) 4 S1 0 0 (vx_MQ below (zQc D vwCl zKK dA A ad S (fun v S' => v = none ∧ zLogA S' tp (zSet g q x) ∧ zfr (zOwnG tp) S S' ∧ S'.1 = S.1)) (zXC D vwCl zKK dA A ad S (fun _ _ => False)) args s 0 0 A) 5 [(3, .int (nI o)), (0, .ref (60 + tp)), (1, .int q), (2, .int x)] [] := by
    intro f
    induction f with
    | zero => intro o S1 k1 h0; omega
    | succ f ih =>
    intro o S1 k1 h0 hi1 hi2 hk h1 hfr hdm
    obtain ⟨hd1, hd2, f0, f1, f2, f3, f4, f5, f6, f7, f8, hent, hee⟩ := id h1
    have f4 : S1.2.1 (60 + tp) 4 = nI g.2.1.1 := f4
    have f5 : S1.2.1 (60 + tp) 5 = nI g.2.1.2 := f5
    have hent : ∀ o, S1.2.2.1 (80 + tp) o = (k1 o).map (fun _ => 200 + 60 * tp + o) := hent
    have hee : ∀ o e, k1 o = some e → zEat S1 (200 + 60 * tp + o) e := hee
    have heo : k1 o = g.2.2 o := by rw [hk o, if_neg (by omega)]
    refine z_iload_n (j := 0) X dG_settle_5 rfl rfl ?_
    refine z_aload_n (j := 1) X dG_settle_6 rfl rfl ?_
    refine z_geti (C := RG) (T := TG) (N := 9) (k := 5) X (w_in inG) rfl rfl (kd_G htp) (by decide) (w_m lG_28) rfl rfl dG_settle_7 (hv := f5) ?_
    refine z_icmp_geN (tgt := 51) X dG_settle_10 (by decide) (by omega) (by omega) (fun c_10 => ?_) (fun c_10 => ?_)
    · refine z_vret X hlocks hr dG_settle_51 (by omega) (by omega) ?_
      refine ⟨rfl, ?_, hfr, hdm⟩
      have e9 : k1 = fun j => (g.2.2 j).map (zSt1 q x) := by
        funext j
        rw [hk j]
        by_cases h9 : j < o
        · rw [if_pos h9]
        · rw [if_neg h9, w8 j (by omega)]; rfl
      rw [e9] at h1
      exact h1
    · refine z_aload_n (j := 1) X dG_settle_13 rfl rfl ?_
      refine z_getr (C := RG) (T := TG) (N := 9) (k := 3) X (w_in inG) rfl rfl (kd_G htp) (by decide) (w_m lG_11) rfl rfl f3 dG_settle_14 ?_
      refine z_iload_n (j := 0) X dG_settle_17 rfl rfl ?_
      rcases he : k1 o with _ | r
      · refine z_aaldN (t0 := 6) X (kd_GA htp) (by decide) (by decide) (by decide) rfl (by omega) (by decide) (by rw [hent, he]; rfl) dG_settle_18 ?_
        refine z_ifnullN (tgt := 45) X dG_settle_19 (by decide) ?_
        refine z_iinc (j := 0) (v := (nI (o + 1))) (L' := [(3, .int (nI (o + 1))), (0, .ref (60 + tp)), (1, .int q), (2, .int x)]) X dG_settle_45 rfl (nI_1 o) (by decide) rfl ?_
        refine z_goto (tgt := 5) X dG_settle_48 (by decide) ?_
        exact ih (o + 1) S1 k1 (by omega) (by omega) (by omega) (fun j => by
          by_cases e9 : j = o
          · subst e9; rw [if_pos (by omega), ← heo, he]; rfl
          · rw [hk j]; by_cases e8 : j < o
            · rw [if_pos e8, if_pos (by omega)]
            · rw [if_neg e8, if_neg (by omega)]) h1 hfr hdm
      · refine z_aald (t0 := 6) X (kd_GA htp) (by decide) (by decide) (by decide) rfl (by omega) (by decide) (by rw [hent, he]; rfl) dG_settle_18 ?_
        refine z_ifnull X dG_settle_19 ?_
        refine z_aload_n (j := 1) X dG_settle_22 rfl rfl ?_
        refine z_getr (C := RG) (T := TG) (N := 9) (k := 3) X (w_in inG) rfl rfl (kd_G htp) (by decide) (w_m lG_11) rfl rfl f3 dG_settle_23 ?_
        refine z_iload_n (j := 0) X dG_settle_26 rfl rfl ?_
        refine z_aald (t0 := 6) X (kd_GA htp) (by decide) (by decide) (by decide) rfl (by omega) (by decide) (by rw [hent, he]; rfl) dG_settle_27 ?_
        refine z_iload_n (j := 2) X dG_settle_28 rfl rfl ?_
        refine z_callV (n := 1) (As := [.int q]) (rest := []) X zG0_m (mE_isUndecidedOf l D dA (o := o) htp (by omega) (hee o r he)) (w_V X.2.2.2.2.1 lG_54 jE_isUndecidedOf sE_isUndecidedOf i_LogBroker_Entry kE_isUndecidedOf rfl rfl (by decide +kernel) ⟨Nat.le_of_ble_eq_true rfl, Nat.le_of_ble_eq_true rfl⟩) (kd_E htp (by omega)) rfl rfl rfl rfl (Nat.le_of_ble_eq_true rfl) dG_settle_29 ⟨Nat.le_of_ble_eq_true rfl, Nat.le_of_ble_eq_true rfl⟩ (fun v S2 hp => ?_) (fun E S1 hx => hx.elim)
        obtain ⟨hv, hS2⟩ := hp
        subst hv
        have hS2 := hS2.symm
        subst hS2
        by_cases hq : r.2.2.2.2 = nI 2 ∧ r.2.2.2.1 = q
        · rw [if_pos hq]
          refine z_if_eq (tgt := 45) X dG_settle_32 (by decide) (fun c_32 => absurd c_32 (by decide)) (fun c_32 => ?_)
          refine z_aload_n (j := 1) X dG_settle_35 rfl rfl ?_
          refine z_getr (C := RG) (T := TG) (N := 9) (k := 3) X (w_in inG) rfl rfl (kd_G htp) (by decide) (w_m lG_11) rfl rfl f3 dG_settle_36 ?_
          refine z_iload_n (j := 0) X dG_settle_39 rfl rfl ?_
          refine z_aald (t0 := 6) X (kd_GA htp) (by decide) (by decide) (by decide) rfl (by omega) (by decide) (by rw [hent, he]; rfl) dG_settle_40 ?_
          refine z_iload_n (j := 3) X dG_settle_41 rfl rfl ?_
          refine z_puti (C := RE) (T := TE) (N := 5) (k := 4) X (w_in inE) rfl rfl (kd_E htp (by omega)) (by decide) (w_m lG_51) rfl tyE tyE_ok nmE rfl rfl (ty := .int) (by decide +kernel) rfl rfl dG_settle_42 ?_
          refine z_iinc (j := 0) (v := (nI (o + 1))) (L' := [(3, .int (nI (o + 1))), (0, .ref (60 + tp)), (1, .int q), (2, .int x)]) X dG_settle_45 rfl (nI_1 o) (by decide) rfl ?_
          refine z_goto (tgt := 5) X dG_settle_48 (by decide) ?_
          have h2 : zLogA (zsi S1 (200 + 60 * tp + o) 4 x) tp (g.1, g.2.1, fun j => if j = o then some (r.1, r.2.1, r.2.2.1, r.2.2.2.1, x) else k1 j) := zLogA_st (g := (g.1, g.2.1, k1)) h1 htp (by omega) he
          have h3 : zfr (zOwnG tp) S (zsi S1 (200 + 60 * tp + o) 4 x) := hfr.tr (zfr.i (Or.inr (Or.inr ⟨by omega, by omega⟩)))
          exact ih (o + 1) (zsi S1 (200 + 60 * tp + o) 4 x) (fun j => if j = o then some (r.1, r.2.1, r.2.2.1, r.2.2.2.1, x) else k1 j) (by omega) (by omega) (by omega) (fun j => by
            by_cases e9 : j = o
            · subst e9; rw [if_pos rfl, if_pos (show j < j + 1 by omega), ← heo, he]; show _ = some (zSt1 q x r); unfold zSt1; rw [if_pos hq]
            · rw [if_neg e9, hk j]; by_cases e8 : j < o
              · rw [if_pos e8, if_pos (by omega)]
              · rw [if_neg e8, if_neg (by omega)]) h2 h3 hdm
        · rw [if_neg hq]
          refine z_if_eq (tgt := 45) X dG_settle_32 (by decide) (fun c_32 => ?_) (fun c_32 => absurd c_32 (by decide))
          refine z_iinc (j := 0) (v := (nI (o + 1))) (L' := [(3, .int (nI (o + 1))), (0, .ref (60 + tp)), (1, .int q), (2, .int x)]) X dG_settle_45 rfl (nI_1 o) (by decide) rfl ?_
          refine z_goto (tgt := 5) X dG_settle_48 (by decide) ?_
          exact ih (o + 1) S1 k1 (by omega) (by omega) (by omega) (fun j => by
            by_cases e9 : j = o
            · subst e9; rw [if_pos (by omega), ← heo, he]; show _ = some (zSt1 q x r); unfold zSt1; rw [if_neg hq]
            · rw [hk j]; by_cases e8 : j < o
              · rw [if_pos e8, if_pos (by omega)]
              · rw [if_neg e8, if_neg (by omega)]) h1 hfr hdm
  refine z_aload_n (j := 0) X dG_settle_0 rfl rfl ?_
  refine z_geti (C := RG) (T := TG) (N := 9) (k := 4) X (w_in inG) rfl rfl (kd_G htp) (by decide) (w_m lG_44) rfl rfl dG_settle_1 (hv := f4) ?_
  refine z_istore_n (L' := [(3, .int (nI g.2.1.1)), (0, .ref (60 + tp)), (1, .int q), (2, .int x)]) X dG_settle_4 rfl (by decide) rfl ?_
  exact loop (g.2.1.2 - g.2.1.1 + 1) g.2.1.1 S g.2.2 (by omega) (Nat.le_refl _) (by omega) (fun j => by
    by_cases h9 : j < g.2.1.1
    · rw [if_pos h9, w9 j h9]; rfl
    · rw [if_neg h9]) hO zfr.rf rfl
end
section
/-! CONTRACTS of LogBroker$Log: what is seen, shortening (rows by program) -/
set_option maxHeartbeats 600000 in
set_option maxRecDepth 100000 in
theorem mG_firstVisibleT (l : Launch) (D : va_G) (dA : Nat → ClassId) {S : zS} {tp : Nat} {g : zLg} {o0 : Nat} (htp : tp < 12) (hO : zLogA S tp g) (hW : zLogW g) (ho0 : o0 ≤ 60) : zMet l D vwCl zKK dA (zG0 D dA) yG_firstVisible (Cond.code yG_firstVisible cG_firstVisible 5 (some .int) :: zTs) { frames := 1, cells := 0, slots := 0, locals := 21 } 0 0 [.ref (60 + tp), .int (nI o0), .int (nI 1)] S (fun v S' => v = some (.int (zOI (zVis g o0 true))) ∧ S' = S) (fun _ _ => False) := by
  refine z_met (tys := ztys dA) (by decide) rfl zG0_K rfl (Nat.le_of_ble_eq_true rfl) (fun p e s m args below meth c A ad X hr hlocks hin hex => ?_)
  obtain ⟨hd1, hd2, f0, f1, f2, f3, f4, f5, f6, f7, f8, hent, hee⟩ := id hO
  obtain ⟨w1, w2, w3, w4, w5, w6, w7, w8, w9⟩ := id hW
  have wb := zBa_le g
  have wp : zPr g ≤ 60 := zcnt_le
  have wst := zStab_le g (by omega)
  have loop : ∀ (f o : Nat), zStab g - o < f → o0 ≤ o → o ≤ 60 → (∀ j, o0 ≤ j → j < o → zSee true (g.2.2 j) = false) → AW p l e { frames := 1, cells := 0, slots := 0, locals := 21 } s m args below meth c D vwCl zKK dA A (ad, S) 5 S (0 + 0) (0 + 0) (vx_MQ below (zQc D vwCl zKK dA A ad S (fun v S' => v = some (.int (zOI (zVis g o0 true))) ∧ S' = S)) (zXC D vwCl zKK dA A ad S (fun _ _ => False)) args s 0 0 A) 19 [(4, .int (nI o)), (3, .int (nI (zStab g))), (0, .ref (60 + tp)), (1, .int (nI o0)), (2, .int (nI 1))] [] := by
    intro f
    induction f with
    | zero => intro o h0; omega
    | succ f ih =>
    intro o h0 hi1 hi2 hi3
    refine z_iload (j := 0) X dG_firstVisible_19 rfl ?_
    refine z_iload_n (j := 1) X dG_firstVisible_21 rfl rfl ?_
    refine z_icmp_geN (tgt := 60) X dG_firstVisible_22 (by decide) (by omega) (by omega) (fun c_22 => ?_) (fun c_22 => ?_)
    · refine z_iconst (v := (-1)) X dG_firstVisible_60 (by decide) ?_
      refine z_iret X hlocks hr dG_firstVisible_61 (by omega) (by omega) ?_
      refine ⟨?_, rfl⟩
      show some (Value.int _) = some (Value.int (zOI (zfind (fun j => zSee true (g.2.2 j)) (zStab g - o0) o0)))
      rw [zfind_none (fun j h1 h2 => hi3 j h1 (by omega))]
      rfl
    · refine z_aload_n (j := 2) X dG_firstVisible_25 rfl rfl ?_
      refine z_iload (j := 0) X dG_firstVisible_26 rfl ?_
      refine z_callV (n := 1) (As := [.int (nI o)]) (rest := []) X zG0_m (mG_hasData l D dA (o := o) htp hO hW (by omega)) (w_V X.2.2.2.2.1 lG_61 jG_hasData sG_hasData i_LogBroker_Log kG_hasData rfl rfl (by decide +kernel) ⟨Nat.le_of_ble_eq_true rfl, Nat.le_of_ble_eq_true rfl⟩) (kd_G htp) rfl rfl rfl rfl (Nat.le_of_ble_eq_true rfl) dG_firstVisible_28 ⟨Nat.le_of_ble_eq_true rfl, Nat.le_of_ble_eq_true rfl⟩ (fun v S1 hp => ?_) (fun E S1 hx => hx.elim)
      obtain ⟨hv, hS1⟩ := hp
      subst hv
      have hS1 := hS1.symm
      subst hS1
      rcases he : g.2.2 o with _ | r
      · rw [if_neg (by decide)]
        refine z_if_eq (tgt := 54) X dG_firstVisible_31 (by decide) (fun c_31 => ?_) (fun c_31 => absurd c_31 (by decide))
        refine z_iinc (j := 0) (v := (nI (o + 1))) (L' := [(4, .int (nI (o + 1))), (3, .int (nI (zStab g))), (0, .ref (60 + tp)), (1, .int (nI o0)), (2, .int (nI 1))]) X dG_firstVisible_54 rfl (nI_1 o) (by decide) rfl ?_
        refine z_goto (tgt := 19) X dG_firstVisible_57 (by decide) ?_
        exact ih (o + 1) (by omega) (by omega) (by omega) (fun j h1 h2 => by
          by_cases e9 : j = o
          · subst e9; rw [he]; rfl
          · exact hi3 j h1 (by omega))
      · by_cases hk0 : r.1 = nI 0
        · rw [if_pos (show zData (some r) = true from decide_eq_true hk0)]
          refine z_if_eq (tgt := 54) X dG_firstVisible_31 (by decide) (fun c_31 => absurd c_31 (by decide)) (fun c_31 => ?_)
          refine z_iload_n (j := 4) X dG_firstVisible_34 rfl rfl ?_
          refine z_if_eq (tgt := 51) X dG_firstVisible_35 (by decide) (fun c_35 => absurd c_35 (by decide)) (fun c_35 => ?_)
          refine z_aload_n (j := 2) X dG_firstVisible_38 rfl rfl ?_
          refine z_getr (C := RG) (T := TG) (N := 9) (k := 3) X (w_in inG) rfl rfl (kd_G htp) (by decide) (w_m lG_11) rfl rfl f3 dG_firstVisible_39 ?_
          refine z_iload (j := 0) X dG_firstVisible_42 rfl ?_
          refine z_aald (t0 := 6) X (kd_GA htp) (by decide) (by decide) (by decide) rfl (by omega) (by decide) (by rw [hent, he]; rfl) dG_firstVisible_44 ?_
          refine z_geti (C := RE) (T := TE) (N := 5) (k := 4) X (w_in inE) rfl rfl (kd_E htp (by omega)) (by decide) (w_m lG_51) rfl rfl dG_firstVisible_45 (hv := (hee o r he).2.2.2.2.2) ?_
          refine z_if_ne (tgt := 54) X dG_firstVisible_48 (by decide) (fun c_48 => ?_) (fun c_48 => ?_)
          · refine z_iinc (j := 0) (v := (nI (o + 1))) (L' := [(4, .int (nI (o + 1))), (3, .int (nI (zStab g))), (0, .ref (60 + tp)), (1, .int (nI o0)), (2, .int (nI 1))]) X dG_firstVisible_54 rfl (nI_1 o) (by decide) rfl ?_
            refine z_goto (tgt := 19) X dG_firstVisible_57 (by decide) ?_
            exact ih (o + 1) (by omega) (by omega) (by omega) (fun j h1 h2 => by
              by_cases e9 : j = o
              · subst e9; rw [he]; show (decide _ && (_ || decide _)) = false; rw [decide_eq_false (p := r.2.2.2.2 = nI 0) (fun h => c_48 (h.trans nI_0))]; simp
              · exact hi3 j h1 (by omega))
          · refine z_iload (j := 0) X dG_firstVisible_51 rfl ?_
            refine z_iret X hlocks hr dG_firstVisible_53 (by omega) (by omega) ?_
            refine ⟨?_, rfl⟩
            show some (Value.int _) = some (Value.int (zOI (zfind (fun j => zSee true (g.2.2 j)) (zStab g - o0) o0)))
            rw [zfind_some (x := o) hi1 (by omega) hi3 (by rw [he]; show (decide _ && (_ || decide _)) = true; rw [decide_eq_true hk0, decide_eq_true (c_48.trans nI_0.symm)]; rfl)]
            rfl
        · rw [if_neg (show ¬ zData (some r) = true from fun h => hk0 (of_decide_eq_true h))]
          refine z_if_eq (tgt := 54) X dG_firstVisible_31 (by decide) (fun c_31 => ?_) (fun c_31 => absurd c_31 (by decide))
          refine z_iinc (j := 0) (v := (nI (o + 1))) (L' := [(4, .int (nI (o + 1))), (3, .int (nI (zStab g))), (0, .ref (60 + tp)), (1, .int (nI o0)), (2, .int (nI 1))]) X dG_firstVisible_54 rfl (nI_1 o) (by decide) rfl ?_
          refine z_goto (tgt := 19) X dG_firstVisible_57 (by decide) ?_
          exact ih (o + 1) (by omega) (by omega) (by omega) (fun j h1 h2 => by
            by_cases e9 : j = o
            · subst e9; rw [he]; show (decide _ && _) = false; rw [decide_eq_false hk0]; rfl
            · exact hi3 j h1 (by omega))
  refine z_iload_n (j := 2) X dG_firstVisible_0 rfl rfl ?_
  refine z_if_eq (tgt := 11) X dG_firstVisible_1 (by decide) (fun c_1 => absurd c_1 (by decide)) (fun c_1 => ?_)
  refine z_aload_n (j := 0) X dG_firstVisible_4 rfl rfl ?_
  refine z_callV (n := 0) (As := []) (rest := []) X zG0_m (mG_stableOffset l D dA htp hO hW) (w_V X.2.2.2.2.1 lG_40 jG_stableOffset sG_stableOffset i_LogBroker_Log kG_stableOffset rfl rfl (by decide +kernel) ⟨Nat.le_of_ble_eq_true rfl, Nat.le_of_ble_eq_true rfl⟩) (kd_G htp) rfl rfl rfl rfl (Nat.le_of_ble_eq_true rfl) dG_firstVisible_5 ⟨Nat.le_of_ble_eq_true rfl, Nat.le_of_ble_eq_true rfl⟩ (fun v S1 hp => ?_) (fun E S1 hx => hx.elim)
  obtain ⟨hv, hS1⟩ := hp
  subst hv
  have hS1 := hS1.symm
  subst hS1
  refine z_goto (tgt := 15) X dG_firstVisible_8 (by decide) ?_
  refine z_istore_n (L' := [(3, .int (nI (zStab g))), (0, .ref (60 + tp)), (1, .int (nI o0)), (2, .int (nI 1))]) X dG_firstVisible_15 rfl (by decide) rfl ?_
  refine z_iload_n (j := 2) X dG_firstVisible_16 rfl rfl ?_
  refine z_istore (L' := [(4, .int (nI o0)), (3, .int (nI (zStab g))), (0, .ref (60 + tp)), (1, .int (nI o0)), (2, .int (nI 1))]) X dG_firstVisible_17 (by decide) rfl ?_
  exact loop (zStab g - o0 + 1) o0 (by omega) (Nat.le_refl _) ho0 (fun j h1 h2 => by omega)

set_option maxHeartbeats 600000 in
set_option maxRecDepth 100000 in
theorem mG_firstVisibleF (l : Launch) (D : va_G) (dA : Nat → ClassId) {S : zS} {tp : Nat} {g : zLg} {o0 : Nat} (htp : tp < 12) (hO : zLogA S tp g) (hW : zLogW g) (ho0 : o0 ≤ 60) : zMet l D vwCl zKK dA (zG0 D dA) yG_firstVisible (Cond.code yG_firstVisible cG_firstVisible 5 (some .int) :: zTs) { frames := 1, cells := 0, slots := 0, locals := 21 } 0 0 [.ref (60 + tp), .int (nI o0), .int (nI 0)] S (fun v S' => v = some (.int (zOI (zVis g o0 false))) ∧ S' = S) (fun _ _ => False) := by
  refine z_met (tys := ztys dA) (by decide) rfl zG0_K rfl (Nat.le_of_ble_eq_true rfl) (fun p e s m args below meth c A ad X hr hlocks hin hex => ?_)
  obtain ⟨hd1, hd2, f0, f1, f2, f3, f4, f5, f6, f7, f8, hent, hee⟩ := id hO
  obtain ⟨w1, w2, w3, w4, w5, w6, w7, w8, w9⟩ := id hW
  have wb := zBa_le g
  have wp : zPr g ≤ 60 := zcnt_le
  have wst := zStab_le g (by omega)
  have loop : ∀ (f o : Nat), g.2.1.2 - o < f → o0 ≤ o → o ≤ 60 → (∀ j, o0 ≤ j → j < o → zSee false (g.2.2 j) = false) → AW p l e { frames := 1, cells := 0, slots := 0, locals := 21 } s m args below meth c D vwCl zKK dA A (ad, S) 5 S (0) (0) (vx_MQ below (zQc D vwCl zKK dA A ad S (fun v S' => v = some (.int (zOI (zVis g o0 false))) ∧ S' = S)) (zXC D vwCl zKK dA A ad S (fun _ _ => False)) args s 0 0 A) 19 [(4, .int (nI o)), (3, .int (nI (g.2.1.2))), (0, .ref (60 + tp)), (1, .int (nI o0)), (2, .int (nI 0))] [] := by
    intro f
    induction f with
    | zero => intro o h0; omega
    | succ f ih =>
    intro o h0 hi1 hi2 hi3
    refine z_iload (j := 0) X dG_firstVisible_19 rfl ?_
    refine z_iload_n (j := 1) X dG_firstVisible_21 rfl rfl ?_
    refine z_icmp_geN (tgt := 60) X dG_firstVisible_22 (by decide) (by omega) (by omega) (fun c_22 => ?_) (fun c_22 => ?_)
    · refine z_iconst (v := (-1)) X dG_firstVisible_60 (by decide) ?_
      refine z_iret X hlocks hr dG_firstVisible_61 (by omega) (by omega) ?_
      refine ⟨?_, rfl⟩
      show some (Value.int _) = some (Value.int (zOI (zfind (fun j => zSee false (g.2.2 j)) (g.2.1.2 - o0) o0)))
      rw [zfind_none (fun j h1 h2 => hi3 j h1 (by omega))]
      rfl
    · refine z_aload_n (j := 2) X dG_firstVisible_25 rfl rfl ?_
      refine z_iload (j := 0) X dG_firstVisible_26 rfl ?_
      refine z_callV (n := 1) (As := [.int (nI o)]) (rest := []) X zG0_m (mG_hasData l D dA (o := o) htp hO hW (by omega)) (w_V X.2.2.2.2.1 lG_61 jG_hasData sG_hasData i_LogBroker_Log kG_hasData rfl rfl (by decide +kernel) ⟨Nat.le_of_ble_eq_true rfl, Nat.le_of_ble_eq_true rfl⟩) (kd_G htp) rfl rfl rfl rfl (Nat.le_of_ble_eq_true rfl) dG_firstVisible_28 ⟨Nat.le_of_ble_eq_true rfl, Nat.le_of_ble_eq_true rfl⟩ (fun v S1 hp => ?_) (fun E S1 hx => hx.elim)
      obtain ⟨hv, hS1⟩ := hp
      subst hv
      have hS1 := hS1.symm
      subst hS1
      rcases he : g.2.2 o with _ | r
      · rw [if_neg (by decide)]
        refine z_if_eq (tgt := 54) X dG_firstVisible_31 (by decide) (fun c_31 => ?_) (fun c_31 => absurd c_31 (by decide))
        refine z_iinc (j := 0) (v := (nI (o + 1))) (L' := [(4, .int (nI (o + 1))), (3, .int (nI (g.2.1.2))), (0, .ref (60 + tp)), (1, .int (nI o0)), (2, .int (nI 0))]) X dG_firstVisible_54 rfl (nI_1 o) (by decide) rfl ?_
        refine z_goto (tgt := 19) X dG_firstVisible_57 (by decide) ?_
        exact ih (o + 1) (by omega) (by omega) (by omega) (fun j h1 h2 => by
          by_cases e9 : j = o
          · subst e9; rw [he]; rfl
          · exact hi3 j h1 (by omega))
      · by_cases hk0 : r.1 = nI 0
        · rw [if_pos (show zData (some r) = true from decide_eq_true hk0)]
          refine z_if_eq (tgt := 54) X dG_firstVisible_31 (by decide) (fun c_31 => absurd c_31 (by decide)) (fun c_31 => ?_)
          refine z_iload_n (j := 4) X dG_firstVisible_34 rfl rfl ?_
          refine z_if_eq (tgt := 51) X dG_firstVisible_35 (by decide) (fun c_35 => ?_) (fun c_35 => absurd c_35 (by decide))
          refine z_iload (j := 0) X dG_firstVisible_51 rfl ?_
          refine z_iret X hlocks hr dG_firstVisible_53 (by omega) (by omega) ?_
          refine ⟨?_, rfl⟩
          show some (Value.int _) = some (Value.int (zOI (zfind (fun j => zSee false (g.2.2 j)) (g.2.1.2 - o0) o0)))
          rw [zfind_some (x := o) hi1 (by omega) hi3 (by rw [he]; show (decide _ && (_ || decide _)) = true; rw [decide_eq_true hk0]; rfl)]
          rfl
        · rw [if_neg (show ¬ zData (some r) = true from fun h => hk0 (of_decide_eq_true h))]
          refine z_if_eq (tgt := 54) X dG_firstVisible_31 (by decide) (fun c_31 => ?_) (fun c_31 => absurd c_31 (by decide))
          refine z_iinc (j := 0) (v := (nI (o + 1))) (L' := [(4, .int (nI (o + 1))), (3, .int (nI (g.2.1.2))), (0, .ref (60 + tp)), (1, .int (nI o0)), (2, .int (nI 0))]) X dG_firstVisible_54 rfl (nI_1 o) (by decide) rfl ?_
          refine z_goto (tgt := 19) X dG_firstVisible_57 (by decide) ?_
          exact ih (o + 1) (by omega) (by omega) (by omega) (fun j h1 h2 => by
            by_cases e9 : j = o
            · subst e9; rw [he]; show (decide _ && _) = false; rw [decide_eq_false hk0]; rfl
            · exact hi3 j h1 (by omega))
  refine z_iload_n (j := 2) X dG_firstVisible_0 rfl rfl ?_
  refine z_if_eq (tgt := 11) X dG_firstVisible_1 (by decide) (fun c_1 => ?_) (fun c_1 => absurd c_1 (by decide))
  refine z_aload_n (j := 0) X dG_firstVisible_11 rfl rfl ?_
  refine z_geti (C := RG) (T := TG) (N := 9) (k := 5) X (w_in inG) rfl rfl (kd_G htp) (by decide) (w_m lG_28) rfl rfl dG_firstVisible_12 (hv := f5) ?_
  refine z_istore_n (L' := [(3, .int (nI g.2.1.2)), (0, .ref (60 + tp)), (1, .int (nI o0)), (2, .int (nI 0))]) X dG_firstVisible_15 rfl (by decide) rfl ?_
  refine z_iload_n (j := 2) X dG_firstVisible_16 rfl rfl ?_
  refine z_istore (L' := [(4, .int (nI o0)), (3, .int (nI g.2.1.2)), (0, .ref (60 + tp)), (1, .int (nI o0)), (2, .int (nI 0))]) X dG_firstVisible_17 (by decide) rfl ?_
  exact loop (g.2.1.2 - o0 + 1) o0 (by omega) (Nat.le_refl _) ho0 (fun j h1 h2 => by omega)

set_option maxHeartbeats 600000 in
set_option maxRecDepth 100000 in
theorem mG_shorten (l : Launch) (D : va_G) (dA : Nat → ClassId) {S : zS} {tp : Nat} {g : zLg} (htp : tp < 12) (hO : zLogA S tp g) (hW : zLogW g) : zMet l D vwCl zKK dA (zG0 D dA) yG_shorten (Cond.code yG_shorten cG_shorten 4 (some .int) :: zTs) { frames := 1, cells := 0, slots := 0, locals := 21 } 0 0 [.ref (60 + tp)] S (fun v S' => v = some (.int (nI (zPr g - zPr (zShort (zStab g) 61 g)))) ∧ zLogA S' tp (zShort (zStab g) 61 g) ∧ zLogW (zShort (zStab g) 61 g) ∧ zfr (zOwnG tp) S S' ∧ S'.1 = S.1) (fun _ _ => False) := by
  refine z_met (tys := ztys dA) (by decide) rfl zG0_K rfl (Nat.le_of_ble_eq_true rfl) (fun p e s m args below meth c A ad X hr hlocks hin hex => ?_)
  obtain ⟨hd1, hd2, f0, f1, f2, f3, f4, f5, f6, f7, f8, hent, hee⟩ := id hO
  obtain ⟨w1, w2, w3, w4, w5, w6, w7, w8, w9⟩ := id hW
  have wb := zBa_le g
  have wp : zPr g ≤ 60 := zcnt_le
  have wst := zStab_le g (by omega)
  have wc : zCl g ≤ zBa g - g.2.1.1 := Nat.div_le_self _ _
  have loop : ∀ (f : Nat) (S1 : zS) (g1 : zLg) (ku kv : Nat), zCl g1 < f → zLogA S1 tp g1 → zLogW g1 → zfr (zOwnG tp) S S1 → S1.1 = S.1 → zShort (zStab g) f g1 = zShort (zStab g) 61 g → zPr g1 ≤ zPr g → AW p l e { frames := 1, cells := 0, slots := 0, locals := 21 } s m args below meth c D vwCl zKK dA A (ad, S) 4 S1 0 0 (vx_MQ below (zQc D vwCl zKK dA A ad S (fun v S' => v = some (.int (nI (zPr g - zPr (zShort (zStab g) 61 g)))) ∧ zLogA S' tp (zShort (zStab g) 61 g) ∧ zLogW (zShort (zStab g) 61 g) ∧ zfr (zOwnG tp) S S' ∧ S'.1 = S.1)) (zXC D vwCl zKK dA A ad S (fun _ _ => False)) args s 0 0 A) 10 [(2, .int (nI (zStab g))), (1, .int (nI (zPr g))), (0, .ref (60 + tp))] [] := by
    intro f
    induction f with
    | zero => intro S1 g1 ku kv h0; omega
    | succ f ih =>
    intro S1 g1 ku kv h0 h1 hW1 hfr hdm hF hple
    obtain ⟨hd1, hd2, f0, f1, f2, f3, f4, f5, f6, f7, f8, hent, hee⟩ := id h1
    obtain ⟨v1, v2, v3, v4, v5, v6, v7, v8, v9⟩ := id hW1
    have vb := zBa_le g1
    have vp : zPr g1 ≤ 60 := zcnt_le
    have vc : zCl g1 ≤ zBa g1 - g1.2.1.1 := Nat.div_le_self _ _
    refine z_aload_n (j := 2) X dG_shorten_10 rfl rfl ?_
    refine z_geti (C := RG) (T := TG) (N := 9) (k := 7) X (w_in inG) rfl rfl (kd_G htp) (by decide) (w_m lG_37) rfl rfl dG_shorten_11 (hv := f7) ?_
    refine z_aload_n (j := 2) X dG_shorten_14 rfl rfl ?_
    refine z_geti (C := RG) (T := TG) (N := 9) (k := 1) X (w_in inG) rfl rfl (kd_G htp) (by decide) (w_m lG_21) rfl rfl dG_shorten_15 (hv := f1) ?_
    refine z_icmp_leN (tgt := 89) X dG_shorten_18 (by decide) (by omega) (by omega) (fun c_18 => ?_) (fun c_18 => ?_)
    · refine z_iload_n (j := 1) X dG_shorten_89 rfl rfl ?_
      refine z_aload_n (j := 2) X dG_shorten_90 rfl rfl ?_
      refine z_geti (C := RG) (T := TG) (N := 9) (k := 8) X (w_in inG) rfl rfl (kd_G htp) (by decide) (w_m lG_31) rfl rfl dG_shorten_91 (hv := f8) ?_
      refine z_isub X dG_shorten_94 ?_
      refine z_top (pk_sub (a := zPr g) (b := zPr g1) (by omega)) ?_
      refine z_iret X hlocks hr dG_shorten_95 (by omega) (by omega) ?_
      have hz : zShort (zStab g) (f + 1) g1 = g1 := if_neg (by omega)
      rw [← hF, hz]
      exact ⟨rfl, h1, hW1, hfr, hdm⟩
    · refine z_aload_n (j := 2) X dG_shorten_21 rfl rfl ?_
      refine z_geti (C := RG) (T := TG) (N := 9) (k := 4) X (w_in inG) rfl rfl (kd_G htp) (by decide) (w_m lG_44) rfl rfl dG_shorten_22 (hv := f4) ?_
      refine z_aload_n (j := 2) X dG_shorten_25 rfl rfl ?_
      refine z_geti (C := RG) (T := TG) (N := 9) (k := 0) X (w_in inG) rfl rfl (kd_G htp) (by decide) (w_m lG_17) rfl rfl dG_shorten_26 (hv := f0) ?_
      refine z_iadd X dG_shorten_29 ?_
      refine z_top (nI_add g1.2.1.1 g1.1.1) ?_
      refine z_iload_n (j := 0) X dG_shorten_30 rfl rfl ?_
      refine z_icmp_gtN (tgt := 89) X dG_shorten_31 (by decide) (by omega) (by omega) (fun c_31 => ?_) (fun c_31 => ?_)
      · refine z_iload_n (j := 1) X dG_shorten_89 rfl rfl ?_
        refine z_aload_n (j := 2) X dG_shorten_90 rfl rfl ?_
        refine z_geti (C := RG) (T := TG) (N := 9) (k := 8) X (w_in inG) rfl rfl (kd_G htp) (by decide) (w_m lG_31) rfl rfl dG_shorten_91 (hv := f8) ?_
        refine z_isub X dG_shorten_94 ?_
        refine z_top (pk_sub (a := zPr g) (b := zPr g1) (by omega)) ?_
        refine z_iret X hlocks hr dG_shorten_95 (by omega) (by omega) ?_
        have hz : zShort (zStab g) (f + 1) g1 = g1 := if_neg (by omega)
        rw [← hF, hz]
        exact ⟨rfl, h1, hW1, hfr, hdm⟩
      · refine z_aload_n (j := 2) X dG_shorten_34 rfl rfl ?_
        refine z_geti (C := RG) (T := TG) (N := 9) (k := 4) X (w_in inG) rfl rfl (kd_G htp) (by decide) (w_m lG_44) rfl rfl dG_shorten_35 (hv := f4) ?_
        refine z_istore_n (L' := [(3, .int (nI g1.2.1.1)), (2, .int (nI (zStab g))), (1, .int (nI (zPr g))), (0, .ref (60 + tp))]) X dG_shorten_38 rfl (by decide) rfl ?_
        have hcl := zCl_sh1 hW1 (by omega)
        have inner : ∀ (f2 o : Nat) (S2 : zS) (k2 : Nat → Option zE) (ku kv : Nat), g1.2.1.1 + g1.1.1 - o < f2 → g1.2.1.1 ≤ o → o ≤ g1.2.1.1 + g1.1.1 → (∀ j, k2 j = if g1.2.1.1 ≤ j ∧ j < o then none else g1.2.2 j) → zLogA S2 tp (g1.1, g1.2.1, k2) → zLogW (g1.1, g1.2.1, k2) → zfr (zOwnG tp) S S2 → S2.1 = S.1 → AW p l e { frames := 1, cells := 0, slots := 0, locals := 21 } s m args below meth c D vwCl zKK dA A (ad, S) 4 S2 0 0 (vx_MQ below (zQc D vwCl zKK dA A ad S (fun v S' => v = some (.int (nI (zPr g - zPr (zShort (zStab g) 61 g)))) ∧ zLogA S' tp (zShort (zStab g) 61 g) ∧ zLogW (zShort (zStab g) 61 g) ∧ zfr (zOwnG tp) S S' ∧ S'.1 = S.1)) (zXC D vwCl zKK dA A ad S (fun _ _ => False)) args s 0 0 A) 39 [(3, .int (nI o)), (2, .int (nI (zStab g))), (1, .int (nI (zPr g))), (0, .ref (60 + tp))] [] := by
          intro f2
          induction f2 with
          | zero => intro o S2 k2 ku kv h0; omega
          | succ f2 ih2 =>
          intro o S2 k2 ku kv h0 hi1 hi2 hk h2 hW2 hfr2 hdm2
          obtain ⟨hd1, hd2, f0, f1, f2, f3, f4, f5, f6, f7, f8, hent, hee⟩ := id h2
          have f0 : S2.2.1 (60 + tp) 0 = nI g1.1.1 := f0
          have f4 : S2.2.1 (60 + tp) 4 = nI g1.2.1.1 := f4
          have f7 : S2.2.1 (60 + tp) 7 = nI (zCl g1) := f7
          refine z_iload_n (j := 0) X dG_shorten_39 rfl rfl ?_
          refine z_aload_n (j := 3) X dG_shorten_40 rfl rfl ?_
          refine z_geti (C := RG) (T := TG) (N := 9) (k := 4) X (w_in inG) rfl rfl (kd_G htp) (by decide) (w_m lG_44) rfl rfl dG_shorten_41 (hv := f4) ?_
          refine z_aload_n (j := 3) X dG_shorten_44 rfl rfl ?_
          refine z_geti (C := RG) (T := TG) (N := 9) (k := 0) X (w_in inG) rfl rfl (kd_G htp) (by decide) (w_m lG_17) rfl rfl dG_shorten_45 (hv := f0) ?_
          refine z_iadd X dG_shorten_48 ?_
          refine z_top (nI_add g1.2.1.1 g1.1.1) ?_
          refine z_icmp_geN (tgt := 63) X dG_shorten_49 (by decide) (by omega) (by omega) (fun c_49 => ?_) (fun c_49 => ?_)
          · refine z_aload_n (j := 3) X dG_shorten_63 rfl rfl ?_
            refine z_dup X dG_shorten_64 rfl ?_
            refine z_geti (C := RG) (T := TG) (N := 9) (k := 4) X (w_in inG) rfl rfl (kd_G htp) (by decide) (w_m lG_44) rfl rfl dG_shorten_65 (hv := f4) ?_
            refine z_aload_n (j := 3) X dG_shorten_68 rfl rfl ?_
            refine z_geti (C := RG) (T := TG) (N := 9) (k := 0) X (w_in inG) rfl rfl (kd_G htp) (by decide) (w_m lG_17) rfl rfl dG_shorten_69 (hv := f0) ?_
            refine z_iadd X dG_shorten_72 ?_
            refine z_top (nI_add g1.2.1.1 g1.1.1) ?_
            refine z_puti (C := RG) (T := TG) (N := 9) (k := 4) X (w_in inG) rfl rfl (kd_G htp) (by decide) (w_m lG_44) rfl tyG tyG_ok nmG rfl rfl (ty := .int) (by decide +kernel) rfl rfl dG_shorten_73 ?_
            refine z_aload_n (j := 3) X dG_shorten_76 rfl rfl ?_
            refine z_dup X dG_shorten_77 rfl ?_
            refine z_geti (C := RG) (T := TG) (N := 9) (k := 7) X (w_in inG) rfl rfl (kd_G htp) (by decide) (w_m lG_37) rfl rfl dG_shorten_78 (hv := (rd_i (Or.inr (by decide)) f7)) ?_
            refine z_iconst (v := (nI 1)) X dG_shorten_81 (by decide) ?_
            refine z_isub X dG_shorten_82 ?_
            refine z_top (pk_sub (a := zCl g1) (b := 1) (by omega)) ?_
            refine z_puti (C := RG) (T := TG) (N := 9) (k := 7) X (w_in inG) rfl rfl (kd_G htp) (by decide) (w_m lG_37) rfl tyG tyG_ok nmG rfl rfl (ty := .int) (by decide +kernel) rfl rfl dG_shorten_83 ?_
            refine z_goto (tgt := 10) X dG_shorten_86 (by decide) ?_
            have hk2 : k2 = (zSh1 g1).2.2 := by
              funext j
              rw [hk j]
              show _ = if j < g1.2.1.1 + g1.1.1 then none else g1.2.2 j
              by_cases e8 : j < g1.2.1.1 + g1.1.1
              · rw [if_pos e8]
                by_cases e7 : g1.2.1.1 ≤ j
                · rw [if_pos (by omega)]
                · rw [if_neg (by omega), v9 j (by omega)]
              · rw [if_neg e8, if_neg (by omega)]
            rw [hk2] at h2
            have hz : zShort (zStab g) (f + 1) g1 = zShort (zStab g) f (zSh1 g1) := if_pos ⟨by omega, by omega⟩
            refine z_loc [1, 2, 3] rfl ?_
            exact ih _ (zSh1 g1) 0 0 (by rw [hcl.1]; omega) (zLogA_sh1 h2 hcl.1) (zLogW_sh1 hW1 (by omega)) ((hfr2.tr (zfr.i (Or.inl rfl))).tr (zfr.i (Or.inl rfl))) hdm2 (hz.symm.trans hF) (Nat.le_trans (zPr_mono (fun o ho => by
              show (if o < g1.2.1.1 + g1.1.1 then none else g1.2.2 o) = none
              by_cases e8 : o < g1.2.1.1 + g1.1.1
              · rw [if_pos e8]
              · rw [if_neg e8]; exact ho)) hple)
          · refine z_aload_n (j := 3) X dG_shorten_52 rfl rfl ?_
            refine z_iload_n (j := 0) X dG_shorten_53 rfl rfl ?_
            refine z_callV (n := 1) (As := [.int (nI o)]) (rest := []) X zG0_m (mG_drop l D dA (g := (g1.1, g1.2.1, k2)) (o := o) htp h2 hW2 (by omega)) (w_V X.2.2.2.2.1 lG_47 jG_drop sG_drop i_LogBroker_Log kG_drop rfl rfl (by decide +kernel) ⟨Nat.le_of_ble_eq_true rfl, Nat.le_of_ble_eq_true rfl⟩) (kd_G htp) rfl rfl rfl rfl (Nat.le_of_ble_eq_true rfl) dG_shorten_54 ⟨Nat.le_of_ble_eq_true rfl, Nat.le_of_ble_eq_true rfl⟩ (fun v S3 hp => ?_) (fun E S1 hx => hx.elim)
            obtain ⟨hv, h3, hf3, hd3⟩ := hp
            subst hv
            refine z_iinc (j := 0) (v := (nI (o + 1))) (L' := [(3, .int (nI (o + 1))), (2, .int (nI (zStab g))), (1, .int (nI (zPr g))), (0, .ref (60 + tp))]) X dG_shorten_57 rfl (nI_1 o) (by decide) rfl ?_
            refine z_goto (tgt := 39) X dG_shorten_60 (by decide) ?_
            exact ih2 (o + 1) S3 (fun j => if j = o then none else k2 j) 0 0 (by omega) (by omega) (by omega) (fun j => by
              by_cases e9 : j = o
              · rw [if_pos e9, if_pos (by omega)]
              · rw [if_neg e9, hk j]
                by_cases e8 : g1.2.1.1 ≤ j ∧ j < o
                · rw [if_pos e8, if_pos (by omega)]
                · rw [if_neg e8, if_neg (by omega)]) h3 (zLogW_drop hW2) (hfr2.tr hf3) (hd3.trans hdm2)
        exact inner (g1.1.1 + 1) g1.2.1.1 S1 g1.2.2 0 0 (by omega) (Nat.le_refl _) (by omega) (fun j => by rw [if_neg (by omega)]) h1 hW1 hfr hdm
  refine z_aload_n (j := 0) X dG_shorten_0 rfl rfl ?_
  refine z_geti (C := RG) (T := TG) (N := 9) (k := 8) X (w_in inG) rfl rfl (kd_G htp) (by decide) (w_m lG_31) rfl rfl dG_shorten_1 (hv := f8) ?_
  refine z_istore_n (L' := [(1, .int (nI (zPr g))), (0, .ref (60 + tp))]) X dG_shorten_4 rfl (by decide) rfl ?_
  refine z_aload_n (j := 1) X dG_shorten_5 rfl rfl ?_
  refine z_callV (n := 0) (As := []) (rest := []) X zG0_m (mG_stableOffset l D dA htp hO hW) (w_V X.2.2.2.2.1 lG_40 jG_stableOffset sG_stableOffset i_LogBroker_Log kG_stableOffset rfl rfl (by decide +kernel) ⟨Nat.le_of_ble_eq_true rfl, Nat.le_of_ble_eq_true rfl⟩) (kd_G htp) rfl rfl rfl rfl (Nat.le_of_ble_eq_true rfl) dG_shorten_6 ⟨Nat.le_of_ble_eq_true rfl, Nat.le_of_ble_eq_true rfl⟩ (fun v S1 hp => ?_) (fun E S1 hx => hx.elim)
  obtain ⟨hv, hS1⟩ := hp
  subst hv
  have hS1 := hS1.symm
  subst hS1
  refine z_istore_n (L' := [(2, .int (nI (zStab g))), (1, .int (nI (zPr g))), (0, .ref (60 + tp))]) X dG_shorten_9 rfl (by decide) rfl ?_
  exact loop 61 S g 0 0 (by omega) hO hW zfr.rf rfl rfl (Nat.le_refl _)
end
section
/-! more rows: Object's constructor; what the static part gives; throwing -/
theorem j_obj : Cond.instanceMethod objectInit ∈ zTs := zTs_in (by decide +kernel) (by decide +kernel)
theorem k_obj : Cond.code objectInit ⟨#[0xb1]⟩ 1 none ∈ zTs := zTs_in (by decide +kernel) (by decide +kernel)
theorem ac_int : Cond.arrayClass .int ∈ zTs := zTs_in (by decide +kernel) (by decide +kernel)
theorem ac_bool : Cond.arrayClass .boolean ∈ zTs := zTs_in (by decide +kernel) (by decide +kernel)
theorem ac_long : Cond.arrayClass .long ∈ zTs := zTs_in (by decide +kernel) (by decide +kernel)
section ZO
variable {p : Program} {l : Launch} {e : Env} {R : Room} {s : State} {m : MethodId} {args : Array Value} {below : List Frame} {meth : Method} {c : Code} {kc ks : Nat} {Q : State → Prop}
variable {D : va_G} {cl : List vw_C} {K : zK} {dA : Nat → ClassId} {A : Nat → Prop} {O : (Nat → Nat) × zS} {cc : ByteArray} {nL : Nat} {own : String} {Ts : List Cond} {tys : List (ClassId × FieldType)} {G : (Nat → Prop) → State → Prop} {S : zS} {pc : Nat} {L : List (Nat × Value)} {st : List Value}
theorem z_objInit (X : zX p s m args c D cl K A cc nL own Ts tys G) {idx n : Nat} (h1 : Cond.methodLink own idx objectInit ∈ Ts) (h2 : Cond.instanceMethod objectInit ∈ Ts) (h3 : Cond.code objectInit ⟨#[0xb1]⟩ 1 none ∈ Ts) (hd : decode cc pc = .ok (.invokespecial idx, 3)) (hf : 1 ≤ R.frames) (hlo : (st.map fun v => v.category).sum + 12 ≤ R.locals) (k : AW p l e R s m args below meth c D cl K dA A O nL S kc ks Q (pc + 3) L st) : AW p l e R s m args below meth c D cl K dA A O nL S kc ks Q pc L (.ref n :: st) := by
  intro ad H locs ls hH hS hl ho
  refine W.objInit (a := ad n) (rest := st.map (zv ad)) X.1 X.2.1 X.2.2.2.1 (X.2.2.2.2.1 _ h1) (X.2.2.2.2.1 _ h2) (X.2.2.2.2.1 _ h3) rfl (hl.1.trans X.2.2.1.symm) rfl hd hf ?_ (k ad H locs ls hH hS hl ho.t)
  show 2 * 0 + ((st.map (zv ad)).map fun v => v.category).sum + 12 ≤ _
  rw [List.map_map, show ((fun v : Value => v.category) ∘ zv ad) = (fun v : Value => v.category) from funext fun v => zv_cat ad v]
  omega
end ZO
section ZG
variable {D : va_G} {dA : Nat → ClassId} {A : Nat → Prop} {s : State}
theorem zG0_U (h : zG0 D dA A s) : vx_Zq Bundle.tN "UNASSIGNED_STACK" Bundle.steD A s s.heap := h.2.1
theorem zG0_N (h : zG0 D dA A s) : vx_Zq Bundle.tN "SUPPRESSED_SENTINEL" Bundle.listD A s s.heap := h.2.2.1
theorem zG0_cast (h : zG0 D dA A s) {q : String × String} (hq : q ∈ zcast) : va_Nw (.castable q.1 q.2) s := h.2.2.2.1 q hq
theorem zG0_decl (h : zG0 D dA A s) {y : MethodName} (hy : y ∈ zdecl) : va_Nw (.declares y) s := h.2.2.2.2.1 y hy
theorem zG0_text (h : zG0 D dA A s) {q : String × Nat × String} (hq : q ∈ ztexts) : ∃ sa, vk_R q.1 q.2.1 q.2.2 sa s := h.2.2.2.2.2.1 q hq
theorem zG0_over (h : zG0 D dA A s) {C : String} (hC : C ∈ zover) : va_AO C s := h.2.2.2.2.2.2.1 C hC
theorem zG0_nc (h : zG0 D dA A s) {q : String × String} (hq : q ∈ znc) : va_Nc q.1 q.2 s := h.2.2.2.2.2.2.2 q hq
end ZG

theorem hat_IAE {D : va_G} {dA : Nat → ClassId} {A : Nat → Prop} {s : State} {args : Array Value} {c0 : Cond} (hts : ∀ w ∈ c0 :: zTs, w.before args s = true) (hG : zG0 D dA A s) : ∀ w ∈ vx_atS "LogBroker" 88 "java/lang/IllegalArgumentException" ["java/lang/RuntimeException", "java/lang/Exception"], w.before args s = true :=
  vx_hat (L := vx_atS "LogBroker" 88 "java/lang/IllegalArgumentException" ["java/lang/RuntimeException", "java/lang/Exception"]) (B := [.castable "java/lang/IllegalArgumentException" "java/lang/IllegalArgumentException", .declares ⟨"java/lang/RuntimeException", "<init>", "(Ljava/lang/String;)V"⟩, .declares ⟨"java/lang/Exception", "<init>", "(Ljava/lang/String;)V"⟩, .declares ⟨"java/lang/Throwable", "<init>", "(Ljava/lang/String;)V"⟩]) (fun w hw => hts w (w_m (zTs_in ((by decide +kernel : ∀ w ∈ (vx_atS "LogBroker" 88 "java/lang/IllegalArgumentException" ["java/lang/RuntimeException", "java/lang/Exception"]).filter goodWord, w ∈ lw_tbl) w hw) (List.mem_filter.mp hw).2))) (by decide +kernel) (vx_c (va_Nw.use rfl (zG0_cast (q := ("java/lang/IllegalArgumentException", "java/lang/IllegalArgumentException")) hG (by decide +kernel))) (vx_c (va_Nw.use rfl (zG0_decl (y := ⟨"java/lang/RuntimeException", "<init>", "(Ljava/lang/String;)V"⟩) hG (by decide +kernel))) (vx_c (va_Nw.use rfl (zG0_decl (y := ⟨"java/lang/Exception", "<init>", "(Ljava/lang/String;)V"⟩) hG (by decide +kernel))) (vx_c (va_Nw.use rfl (zG0_decl (y := ⟨"java/lang/Throwable", "<init>", "(Ljava/lang/String;)V"⟩) hG (by decide +kernel))) vx_n))))
theorem hat_ISE {D : va_G} {dA : Nat → ClassId} {A : Nat → Prop} {s : State} {args : Array Value} {c0 : Cond} (hts : ∀ w ∈ c0 :: zTs, w.before args s = true) (hG : zG0 D dA A s) : ∀ w ∈ vx_atS "LogBroker" 53 "java/lang/IllegalStateException" ["java/lang/RuntimeException", "java/lang/Exception"], w.before args s = true :=
  vx_hat (L := vx_atS "LogBroker" 53 "java/lang/IllegalStateException" ["java/lang/RuntimeException", "java/lang/Exception"]) (B := [.castable "java/lang/IllegalStateException" "java/lang/IllegalStateException", .declares ⟨"java/lang/RuntimeException", "<init>", "(Ljava/lang/String;)V"⟩, .declares ⟨"java/lang/Exception", "<init>", "(Ljava/lang/String;)V"⟩, .declares ⟨"java/lang/Throwable", "<init>", "(Ljava/lang/String;)V"⟩]) (fun w hw => hts w (w_m (zTs_in ((by decide +kernel : ∀ w ∈ (vx_atS "LogBroker" 53 "java/lang/IllegalStateException" ["java/lang/RuntimeException", "java/lang/Exception"]).filter goodWord, w ∈ lw_tbl) w hw) (List.mem_filter.mp hw).2))) (by decide +kernel) (vx_c (va_Nw.use rfl (zG0_cast (q := ("java/lang/IllegalStateException", "java/lang/IllegalStateException")) hG (by decide +kernel))) (vx_c (va_Nw.use rfl (zG0_decl (y := ⟨"java/lang/RuntimeException", "<init>", "(Ljava/lang/String;)V"⟩) hG (by decide +kernel))) (vx_c (va_Nw.use rfl (zG0_decl (y := ⟨"java/lang/Exception", "<init>", "(Ljava/lang/String;)V"⟩) hG (by decide +kernel))) (vx_c (va_Nw.use rfl (zG0_decl (y := ⟨"java/lang/Throwable", "<init>", "(Ljava/lang/String;)V"⟩) hG (by decide +kernel))) vx_n))))
theorem hat_UOE {D : va_G} {dA : Nat → ClassId} {A : Nat → Prop} {s : State} {args : Array Value} {c0 : Cond} (hts : ∀ w ∈ c0 :: zTs, w.before args s = true) (hG : zG0 D dA A s) : ∀ w ∈ vx_atS "LogBroker" 120 "java/lang/UnsupportedOperationException" ["java/lang/RuntimeException", "java/lang/Exception"], w.before args s = true :=
  vx_hat (L := vx_atS "LogBroker" 120 "java/lang/UnsupportedOperationException" ["java/lang/RuntimeException", "java/lang/Exception"]) (B := [.castable "java/lang/UnsupportedOperationException" "java/lang/UnsupportedOperationException", .declares ⟨"java/lang/RuntimeException", "<init>", "(Ljava/lang/String;)V"⟩, .declares ⟨"java/lang/Exception", "<init>", "(Ljava/lang/String;)V"⟩, .declares ⟨"java/lang/Throwable", "<init>", "(Ljava/lang/String;)V"⟩]) (fun w hw => hts w (w_m (zTs_in ((by decide +kernel : ∀ w ∈ (vx_atS "LogBroker" 120 "java/lang/UnsupportedOperationException" ["java/lang/RuntimeException", "java/lang/Exception"]).filter goodWord, w ∈ lw_tbl) w hw) (List.mem_filter.mp hw).2))) (by decide +kernel) (vx_c (va_Nw.use rfl (zG0_cast (q := ("java/lang/UnsupportedOperationException", "java/lang/UnsupportedOperationException")) hG (by decide +kernel))) (vx_c (va_Nw.use rfl (zG0_decl (y := ⟨"java/lang/RuntimeException", "<init>", "(Ljava/lang/String;)V"⟩) hG (by decide +kernel))) (vx_c (va_Nw.use rfl (zG0_decl (y := ⟨"java/lang/Exception", "<init>", "(Ljava/lang/String;)V"⟩) hG (by decide +kernel))) (vx_c (va_Nw.use rfl (zG0_decl (y := ⟨"java/lang/Throwable", "<init>", "(Ljava/lang/String;)V"⟩) hG (by decide +kernel))) vx_n))))
theorem hat_IOB {D : va_G} {dA : Nat → ClassId} {A : Nat → Prop} {s : State} {args : Array Value} {c0 : Cond} (hts : ∀ w ∈ c0 :: zTs, w.before args s = true) (hG : zG0 D dA A s) : ∀ w ∈ vx_atS "LogBroker" 155 "java/lang/IndexOutOfBoundsException" ["java/lang/RuntimeException", "java/lang/Exception"], w.before args s = true :=
  vx_hat (L := vx_atS "LogBroker" 155 "java/lang/IndexOutOfBoundsException" ["java/lang/RuntimeException", "java/lang/Exception"]) (B := [.castable "java/lang/IndexOutOfBoundsException" "java/lang/IndexOutOfBoundsException", .declares ⟨"java/lang/RuntimeException", "<init>", "(Ljava/lang/String;)V"⟩, .declares ⟨"java/lang/Exception", "<init>", "(Ljava/lang/String;)V"⟩, .declares ⟨"java/lang/Throwable", "<init>", "(Ljava/lang/String;)V"⟩]) (fun w hw => hts w (w_m (zTs_in ((by decide +kernel : ∀ w ∈ (vx_atS "LogBroker" 155 "java/lang/IndexOutOfBoundsException" ["java/lang/RuntimeException", "java/lang/Exception"]).filter goodWord, w ∈ lw_tbl) w hw) (List.mem_filter.mp hw).2))) (by decide +kernel) (vx_c (va_Nw.use rfl (zG0_cast (q := ("java/lang/IndexOutOfBoundsException", "java/lang/IndexOutOfBoundsException")) hG (by decide +kernel))) (vx_c (va_Nw.use rfl (zG0_decl (y := ⟨"java/lang/RuntimeException", "<init>", "(Ljava/lang/String;)V"⟩) hG (by decide +kernel))) (vx_c (va_Nw.use rfl (zG0_decl (y := ⟨"java/lang/Exception", "<init>", "(Ljava/lang/String;)V"⟩) hG (by decide +kernel))) (vx_c (va_Nw.use rfl (zG0_decl (y := ⟨"java/lang/Throwable", "<init>", "(Ljava/lang/String;)V"⟩) hG (by decide +kernel))) vx_n))))
end
section
/-! sessions -/
/-- a session: its producer, whether a transaction is open, the numbers expected, the offsets remembered -/
abbrev zSn : Type := Int32 × Int32 × (Nat → Nat) × (Nat → Int32)
def zSsA (S : zS) (i : Nat) (u : zSn) : Prop := S.1 (10 + i) = true ∧ S.1 (20 + i) = true ∧ S.1 (30 + i) = true ∧ S.2.1 (10 + i) 0 = u.1 ∧ S.2.1 (10 + i) 1 = u.2.1 ∧ S.2.2.1 (10 + i) 2 = some (20 + i) ∧ S.2.2.1 (10 + i) 3 = some (30 + i) ∧ (∀ t, t < 12 → S.2.1 (20 + i) t = nI (u.2.2.1 t)) ∧ ∀ k, k < 36 → S.2.1 (30 + i) k = u.2.2.2 k
def zOwnS (i n : Nat) : Prop := n = 10 + i ∨ n = 20 + i ∨ n = 30 + i
/-- an array of ints, filled -/
def zfil (S : zS) (n len : Nat) (v : Int32) : zS := (S.1, fun a b => if a = n ∧ b < len then v else S.2.1 a b, S.2.2)
theorem zfil_in {S : zS} {n len b : Nat} {v : Int32} (h : b < len) : (zfil S n len v).2.1 n b = v := if_pos ⟨rfl, h⟩
theorem zfil_out {S : zS} {n len a b : Nat} {v : Int32} (h : a ≠ n ∨ len ≤ b) : (zfil S n len v).2.1 a b = S.2.1 a b := if_neg (fun q => h.elim (fun h => h q.1) (fun h => by omega))
theorem zfr.fil {own : Nat → Prop} {S : zS} {n len : Nat} {v : Int32} (h : own n) : zfr own S (zfil S n len v) := ⟨fun _ _ => rfl, fun a ha => ⟨by
  funext b
  exact zfil_out (Or.inl (fun e => ha (by rw [e]; exact h))), rfl, rfl⟩⟩
theorem zlt3 {k x : Nat} (hk : k < 2 ^ 31) (hx : x < 2 ^ 30) : nI k < nI x - nI 3 ↔ k + 3 < x := by
  rw [Int32.lt_iff_toInt_lt, nI_toInt hk, pk_sub_toInt hx (by decide)]
  omega
end
section
/-! CONTRACTS of java/util/Arrays.fill, of the constructors, of LogBroker$Session (rows by program) -/
set_option maxHeartbeats 600000 in
set_option maxRecDepth 100000 in
theorem mA_fill (l : Launch) (D : va_G) (dA : Nat → ClassId) {S : zS} {n len : Nat} {v : Int32} (hkd : zKK.1 n = .inr (0, len)) (hl : len < 2 ^ 30) : zMet l D vwCl zKK dA (zG0 D dA) yA_fill (Cond.code yA_fill cA_fill 4 none :: zTs) { frames := 0, cells := 0, slots := 0, locals := 0 } 0 0 [.ref n, .int v] S (fun r S' => r = none ∧ S' = zfil S n len v) (fun _ _ => False) := by
  refine z_met (tys := ztys dA) (by decide) rfl zG0_K rfl (Nat.le_of_ble_eq_true rfl) (fun p e s m args below meth c A ad X hr hlocks hin hex => ?_)
  have loop : ∀ (f o : Nat) (S1 : zS), len - o < f → o ≤ len → S1 = zfil S n o v → AW p l e { frames := 0, cells := 0, slots := 0, locals := 0 } s m args below meth c D vwCl zKK dA A (ad, S) 4 S1 0 0 (vx_MQ below (zQc D vwCl zKK dA A ad S (fun r S' => r = none ∧ S' = zfil S n len v)) (zXC D vwCl zKK dA A ad S (fun _ _ => False)) args s 0 0 A) 5 [(2, .int (nI o)), (3, .int (nI len)), (0, .ref n), (1, .int v)] [] := by
    intro f
    induction f with
    | zero => intro o S1 h0; omega
    | succ f ih =>
    intro o S1 h0 hi2 hS1
    refine z_iload_n (j := 0) X dA_fill_5 rfl rfl ?_
    refine z_iload_n (j := 1) X dA_fill_6 rfl rfl ?_
    refine z_icmp_geN (tgt := 20) X dA_fill_7 (by decide) (by omega) (by omega) (fun c_7 => ?_) (fun c_7 => ?_)
    · refine z_vret X hlocks hr dA_fill_20 (by omega) (by omega) ?_
      refine ⟨rfl, ?_⟩
      unfold zfil at hS1 ⊢
      rw [hS1]
      congr 2
      funext a b
      by_cases e9 : a = n ∧ b < len
      · rw [if_pos e9, if_pos ⟨e9.1, by omega⟩]
      · rw [if_neg e9, if_neg (by omega)]
    · refine z_aload_n (j := 2) X dA_fill_10 rfl rfl ?_
      refine z_iload_n (j := 0) X dA_fill_11 rfl rfl ?_
      refine z_iload_n (j := 3) X dA_fill_12 rfl rfl ?_
      refine z_iast (t0 := 0) X hkd rfl (by omega) (by omega) dA_fill_13 ?_
      refine z_iinc (j := 0) (v := (nI (o + 1))) (L' := [(2, .int (nI (o + 1))), (3, .int (nI len)), (0, .ref n), (1, .int v)]) X dA_fill_14 rfl (nI_1 o) (by decide) rfl ?_
      refine z_goto (tgt := 5) X dA_fill_17 (by decide) ?_
      exact ih (o + 1) _ (by omega) (by omega) (by
        rw [hS1]
        unfold zfil zsi z2
        congr 2
        funext a b
        by_cases e9 : a = n ∧ b = o
        · rw [if_pos e9, if_pos ⟨e9.1, by omega⟩]
        · rw [if_neg e9]
          show (if a = n ∧ b < o then v else S.2.1 a b) = _
          by_cases e8 : a = n ∧ b < o
          · rw [if_pos e8, if_pos ⟨e8.1, by omega⟩]
          · rw [if_neg e8, if_neg (by omega)])
  refine z_iconst (v := (nI 0)) X dA_fill_0 (by decide) ?_
  refine z_istore_n (L' := [(2, .int (nI 0)), (0, .ref n), (1, .int v)]) X dA_fill_1 rfl (by decide) rfl ?_
  refine z_aload_n (j := 1) X dA_fill_2 rfl rfl ?_
  refine z_alen (t0 := 0) (v := (nI len)) X hkd (by decide) rfl rfl dA_fill_3 ?_
  refine z_istore_n (L' := [(3, .int (nI len)), (2, .int (nI 0)), (0, .ref n), (1, .int v)]) X dA_fill_4 rfl (by decide) rfl ?_
  refine z_loc [1, 0, 2, 3] rfl ?_
  exact loop (len + 1) 0 S (by omega) (by omega) (by
    unfold zfil
    rw [show (fun a b => if a = n ∧ b < 0 then v else S.2.1 a b) = S.2.1 from by
      funext a b
      exact if_neg (by omega)])

set_option maxHeartbeats 600000 in
set_option maxRecDepth 100000 in
theorem mE_init (l : Launch) (D : va_G) (dA : Nat → ClassId) {S : zS} {n : Nat} {a0 a1 a2 a3 a4 : Int32} (hkd : zKK.1 n = .inl 0) : zMet l D vwCl zKK dA (zG0 D dA) yE_init (Cond.code yE_init cE_init 6 none :: zTs) { frames := 1, cells := 0, slots := 0, locals := 12 } 0 0 [.ref n, .int a0, .int a1, .int a2, .int a3, .int a4] S (fun r S' => r = none ∧ S' = zsi (zsi (zsi (zsi (zsi S n 0 a0) n 1 a1) n 2 a2) n 3 a3) n 4 a4) (fun _ _ => False) := by
  refine z_met (tys := ztys dA) (by decide) rfl zG0_K rfl (Nat.le_of_ble_eq_true rfl) (fun p e s m args below meth c A ad X hr hlocks hin hex => ?_)
  refine z_aload_n (j := 0) X dE_init_0 rfl rfl ?_
  refine z_objInit X (w_m lE_3) (w_m j_obj) (w_m k_obj) dE_init_1 (by decide) (Nat.le_of_ble_eq_true rfl) ?_
  refine z_aload_n (j := 0) X dE_init_4 rfl rfl ?_
  refine z_iload_n (j := 1) X dE_init_5 rfl rfl ?_
  refine z_putiF (C := RE) (T := TE) (N := 5) (k := 0) X (w_in inE) rfl rfl hkd (by decide) (w_m lE_9) rfl tyE tyE_ok nmE rfl hin rfl rfl (ty := .int) (by decide +kernel) rfl rfl dE_init_6 ?_
  refine z_aload_n (j := 0) X dE_init_9 rfl rfl ?_
  refine z_iload_n (j := 2) X dE_init_10 rfl rfl ?_
  refine z_putiF (C := RE) (T := TE) (N := 5) (k := 1) X (w_in inE) rfl rfl hkd (by decide) (w_m lE_15) rfl tyE tyE_ok nmE rfl hin rfl rfl (ty := .int) (by decide +kernel) rfl rfl dE_init_11 ?_
  refine z_aload_n (j := 0) X dE_init_14 rfl rfl ?_
  refine z_iload_n (j := 3) X dE_init_15 rfl rfl ?_
  refine z_putiF (C := RE) (T := TE) (N := 5) (k := 2) X (w_in inE) rfl rfl hkd (by decide) (w_m lE_18) rfl tyE tyE_ok nmE rfl hin rfl rfl (ty := .int) (by decide +kernel) rfl rfl dE_init_16 ?_
  refine z_aload_n (j := 0) X dE_init_19 rfl rfl ?_
  refine z_iload (j := 4) X dE_init_20 rfl ?_
  refine z_putiF (C := RE) (T := TE) (N := 5) (k := 3) X (w_in inE) rfl rfl hkd (by decide) (w_m lE_21) rfl tyE tyE_ok nmE rfl hin rfl rfl (ty := .int) (by decide +kernel) rfl rfl dE_init_22 ?_
  refine z_aload_n (j := 0) X dE_init_25 rfl rfl ?_
  refine z_iload (j := 5) X dE_init_26 rfl ?_
  refine z_puti (C := RE) (T := TE) (N := 5) (k := 4) X (w_in inE) rfl rfl hkd (by decide) (w_m lE_24) rfl tyE tyE_ok nmE rfl rfl (ty := .int) (by decide +kernel) rfl rfl dE_init_28 ?_
  refine z_vret X hlocks hr dE_init_31 (by omega) (by omega) ?_
  exact ⟨rfl, rfl⟩

set_option maxHeartbeats 600000 in
set_option maxRecDepth 100000 in
theorem mG_init (l : Launch) (D : va_G) (dA : Nat → ClassId) {S : zS} {tp : Nat} {z k : Nat} {cm : Int32} (htp : tp < 12) (hn2 : S.1 (80 + tp) = false) (hcm : cm = nI 0 ∨ cm = nI 1) : zMet l D vwCl zKK dA (zG0 D dA) yG_init (Cond.code yG_init cG_init 4 none :: zTs) { frames := 1, cells := 1, slots := 60, locals := 13 } 1 60 [.ref (60 + tp), .int (nI z), .int (nI k), .int cm] S (fun r S' => r = none ∧ S' = zsi (zsi (zsi (zsp (zadd S (80 + tp)) (60 + tp) 3 (some (80 + tp))) (60 + tp) 0 (nI z)) (60 + tp) 1 (nI k)) (60 + tp) 2 cm) (fun _ _ => False) := by
  refine z_met (tys := ztys dA) (by decide) rfl zG0_K rfl (Nat.le_of_ble_eq_true rfl) (fun p e s m args below meth c A ad X hr hlocks hin hex => ?_)
  refine z_aload_n (j := 0) X dG_init_0 rfl rfl ?_
  refine z_objInit X (w_m lG_3) (w_m j_obj) (w_m k_obj) dG_init_1 (by decide) (Nat.le_of_ble_eq_true rfl) ?_
  refine z_aload_n (j := 0) X dG_init_4 rfl rfl ?_
  refine z_bipush (v := (nI 60)) X dG_init_5 (by decide) ?_
  refine z_anew (n := (80 + tp)) (t0 := 6) X (kd_GA htp) (by decide) (by decide) rfl hn2 (by omega) (nI_pos (by decide)) (nI_clamp (by decide)) (by decide) (w_m lG_9) (zG0_over X.2.2.2.2.2.2.2.2 (by decide +kernel)) (Nat.le_of_ble_eq_true rfl) (Nat.le_of_ble_eq_true rfl) dG_init_7 ?_
  refine z_putrF (cn := "") (C := RG) (T := TG) (N := 9) (k := 3) X (w_in inG) rfl rfl (kd_G htp) (by decide) (w_m lG_11) rfl tyG tyG_ok nmG rfl hin rfl rfl (Or.inr ⟨.object "LogBroker$Entry", by decide +kernel⟩) (by omega) dG_init_10 ?_
  refine z_aload_n (j := 0) X dG_init_13 rfl rfl ?_
  refine z_iload_n (j := 1) X dG_init_14 rfl rfl ?_
  refine z_putiF (C := RG) (T := TG) (N := 9) (k := 0) X (w_in inG) rfl rfl (kd_G htp) (by decide) (w_m lG_17) rfl tyG tyG_ok nmG rfl hin rfl rfl (ty := .int) (by decide +kernel) rfl rfl dG_init_15 ?_
  refine z_aload_n (j := 0) X dG_init_18 rfl rfl ?_
  refine z_iload_n (j := 2) X dG_init_19 rfl rfl ?_
  refine z_putiF (C := RG) (T := TG) (N := 9) (k := 1) X (w_in inG) rfl rfl (kd_G htp) (by decide) (w_m lG_21) rfl tyG tyG_ok nmG rfl hin rfl rfl (ty := .int) (by decide +kernel) rfl rfl dG_init_20 ?_
  refine z_aload_n (j := 0) X dG_init_23 rfl rfl ?_
  refine z_iload_n (j := 3) X dG_init_24 rfl rfl ?_
  refine z_putiF (C := RG) (T := TG) (N := 9) (k := 2) X (w_in inG) rfl rfl (kd_G htp) (by decide) (w_m lG_24) rfl tyG tyG_ok nmG rfl hin rfl rfl (ty := .boolean) (by decide +kernel) (by rcases hcm with h | h <;> (subst h; rfl)) (by rcases hcm with h | h <;> (subst h; rfl)) dG_init_25 ?_
  refine z_vret X hlocks hr dG_init_28 (by omega) (by omega) ?_
  exact ⟨rfl, rfl⟩

set_option maxHeartbeats 600000 in
set_option maxRecDepth 100000 in
theorem mS_init (l : Launch) (D : va_G) (dA : Nat → ClassId) {S : zS} {i : Nat} (hi : i < 6) (hn1 : S.1 (20 + i) = false) (hn2 : S.1 (30 + i) = false) : zMet l D vwCl zKK dA (zG0 D dA) yS_init (Cond.code yS_init cS_init 1 none :: zTs) { frames := 1, cells := 2, slots := 48, locals := 13 } 2 48 [.ref (10 + i)] S (fun r S' => r = none ∧ S' = zsp (zadd (zsp (zadd (zsi S (10 + i) 0 (-1)) (20 + i)) (10 + i) 2 (some (20 + i))) (30 + i)) (10 + i) 3 (some (30 + i))) (fun _ _ => False) := by
  refine z_met (tys := ztys dA) (by decide) rfl zG0_K rfl (Nat.le_of_ble_eq_true rfl) (fun p e s m args below meth c A ad X hr hlocks hin hex => ?_)
  refine z_aload_n (j := 0) X dS_init_0 rfl rfl ?_
  refine z_objInit X (w_m lS_3) (w_m j_obj) (w_m k_obj) dS_init_1 (by decide) (Nat.le_of_ble_eq_true rfl) ?_
  refine z_aload_n (j := 0) X dS_init_4 rfl rfl ?_
  refine z_iconst (v := (-1)) X dS_init_5 (by decide) ?_
  refine z_puti (C := RS) (T := TS) (N := 4) (k := 0) X (w_in inS) rfl rfl (kd_S hi) (by decide) (w_m lS_9) rfl tyS tyS_ok nmS rfl rfl (ty := .int) (by decide +kernel) rfl rfl dS_init_6 ?_
  refine z_aload_n (j := 0) X dS_init_9 rfl rfl ?_
  refine z_bipush (v := (nI 12)) X dS_init_10 (by decide) ?_
  refine z_newi (n := (20 + i)) (t0 := 0) X (kd_SE hi) rfl hn1 (by omega) (nI_pos (by decide)) (nI_clamp (by decide)) (by decide) (w_m ac_int) (Nat.le_of_ble_eq_true rfl) (Nat.le_of_ble_eq_true rfl) dS_init_12 ?_
  refine z_putrF (cn := "") (C := RS) (T := TS) (N := 4) (k := 2) X (w_in inS) rfl rfl (kd_S hi) (by decide) (w_m lS_15) rfl tyS tyS_ok nmS rfl hin rfl rfl (Or.inr ⟨.int, by decide +kernel⟩) (by omega) dS_init_14 ?_
  refine z_aload_n (j := 0) X dS_init_17 rfl rfl ?_
  refine z_bipush (v := (nI 36)) X dS_init_18 (by decide) ?_
  refine z_newi (n := (30 + i)) (t0 := 0) X (kd_SO hi) rfl ((zadd_n (by omega)).trans hn2) (by omega) (nI_pos (by decide)) (nI_clamp (by decide)) (by decide) (w_m ac_int) (Nat.le_of_ble_eq_true rfl) (Nat.le_of_ble_eq_true rfl) dS_init_20 ?_
  refine z_putrF (cn := "") (C := RS) (T := TS) (N := 4) (k := 3) X (w_in inS) rfl rfl (kd_S hi) (by decide) (w_m lS_19) rfl tyS tyS_ok nmS rfl hin rfl rfl (Or.inr ⟨.int, by decide +kernel⟩) (by omega) dS_init_22 ?_
  refine z_vret X hlocks hr dS_init_25 (by omega) (by omega) ?_
  exact ⟨rfl, rfl⟩
end
section
/-! CONTRACTS of LogBroker$Session (rows by program) -/
set_option maxHeartbeats 600000 in
set_option maxRecDepth 100000 in
theorem mS_expects (l : Launch) (D : va_G) (dA : Nat → ClassId) {S : zS} {i : Nat} {u : zSn} {t k : Nat} (hi : i < 6) (hO : zSsA S i u) (ht : t < 12) (hk : k < 2 ^ 31) (hx : u.2.2.1 t < 2 ^ 30) : zMet l D vwCl zKK dA (zG0 D dA) yS_expects (Cond.code yS_expects cS_expects 3 (some .boolean) :: zTs) { frames := 0, cells := 0, slots := 0, locals := 0 } 0 0 [.ref (10 + i), .int (nI t), .int (nI k)] S (fun v S' => v = some (.int (if k = u.2.2.1 t then nI 1 else nI 0)) ∧ S' = S) (fun _ _ => False) := by
  refine z_met (tys := ztys dA) (by decide) rfl zG0_K rfl (Nat.le_of_ble_eq_true rfl) (fun p e s m args below meth c A ad X hr hlocks hin hex => ?_)
  obtain ⟨hd1, hd2, hd3, f0, f1, f2, f3, hex0, hof0⟩ := id hO
  refine z_iload_n (j := 2) X dS_expects_0 rfl rfl ?_
  refine z_aload_n (j := 0) X dS_expects_1 rfl rfl ?_
  refine z_getr (C := RS) (T := TS) (N := 4) (k := 2) X (w_in inS) rfl rfl (kd_S hi) (by decide) (w_m lS_15) rfl rfl f2 dS_expects_2 ?_
  refine z_iload_n (j := 1) X dS_expects_5 rfl rfl ?_
  refine z_iald (t0 := 0) X (kd_SE hi) rfl (by omega) (by decide) dS_expects_6 (hv := (hex0 t (by omega))) ?_
  refine z_icmp_neN (tgt := 14) X dS_expects_7 (by decide) (by omega) (by omega) (fun c_7 => ?_) (fun c_7 => ?_)
  · refine z_iconst (v := (nI 0)) X dS_expects_14 (by decide) ?_
    refine z_zret X hlocks hr dS_expects_15 (by first | rfl | decide) (by omega) (by omega) ?_
    exact ⟨by rw [if_neg c_7], rfl⟩
  · refine z_iconst (v := (nI 1)) X dS_expects_10 (by decide) ?_
    refine z_goto (tgt := 15) X dS_expects_11 (by decide) ?_
    refine z_zret X hlocks hr dS_expects_15 (by first | rfl | decide) (by omega) (by omega) ?_
    exact ⟨by rw [if_pos c_7], rfl⟩

set_option maxHeartbeats 600000 in
set_option maxRecDepth 100000 in
theorem mS_remembers (l : Launch) (D : va_G) (dA : Nat → ClassId) {S : zS} {i : Nat} {u : zSn} {t k : Nat} (hi : i < 6) (hO : zSsA S i u) (ht : t < 12) (hk : k < 2 ^ 31) (hx : u.2.2.1 t < 2 ^ 30) : zMet l D vwCl zKK dA (zG0 D dA) yS_remembers (Cond.code yS_remembers cS_remembers 3 (some .boolean) :: zTs) { frames := 0, cells := 0, slots := 0, locals := 0 } 0 0 [.ref (10 + i), .int (nI t), .int (nI k)] S (fun v S' => v = some (.int (if k < u.2.2.1 t ∧ u.2.2.1 t ≤ k + 3 then nI 1 else nI 0)) ∧ S' = S) (fun _ _ => False) := by
  refine z_met (tys := ztys dA) (by decide) rfl zG0_K rfl (Nat.le_of_ble_eq_true rfl) (fun p e s m args below meth c A ad X hr hlocks hin hex => ?_)
  obtain ⟨hd1, hd2, hd3, f0, f1, f2, f3, hex0, hof0⟩ := id hO
  refine z_iload_n (j := 2) X dS_remembers_0 rfl rfl ?_
  refine z_aload_n (j := 0) X dS_remembers_1 rfl rfl ?_
  refine z_getr (C := RS) (T := TS) (N := 4) (k := 2) X (w_in inS) rfl rfl (kd_S hi) (by decide) (w_m lS_15) rfl rfl f2 dS_remembers_2 ?_
  refine z_iload_n (j := 1) X dS_remembers_5 rfl rfl ?_
  refine z_iald (t0 := 0) X (kd_SE hi) rfl (by omega) (by decide) dS_remembers_6 (hv := (hex0 t (by omega))) ?_
  refine z_icmp_geN (tgt := 26) X dS_remembers_7 (by decide) (by omega) (by omega) (fun c_7 => ?_) (fun c_7 => ?_)
  · refine z_iconst (v := (nI 0)) X dS_remembers_26 (by decide) ?_
    refine z_zret X hlocks hr dS_remembers_27 (by first | rfl | decide) (by omega) (by omega) ?_
    first | exact ⟨by rw [if_neg (fun h => by omega)], rfl⟩ | exact ⟨by rw [if_neg (fun h => by have := (zlt3 hk hx).mp c_19; omega)], rfl⟩
  · refine z_iload_n (j := 2) X dS_remembers_10 rfl rfl ?_
    refine z_aload_n (j := 0) X dS_remembers_11 rfl rfl ?_
    refine z_getr (C := RS) (T := TS) (N := 4) (k := 2) X (w_in inS) rfl rfl (kd_S hi) (by decide) (w_m lS_15) rfl rfl f2 dS_remembers_12 ?_
    refine z_iload_n (j := 1) X dS_remembers_15 rfl rfl ?_
    refine z_iald (t0 := 0) X (kd_SE hi) rfl (by omega) (by decide) dS_remembers_16 (hv := (hex0 t (by omega))) ?_
    refine z_iconst (v := (nI 3)) X dS_remembers_17 (by decide) ?_
    refine z_isub X dS_remembers_18 ?_
    refine z_icmp_lt (tgt := 26) X dS_remembers_19 (by decide) (fun c_19 => ?_) (fun c_19 => ?_)
    · refine z_iconst (v := (nI 0)) X dS_remembers_26 (by decide) ?_
      refine z_zret X hlocks hr dS_remembers_27 (by first | rfl | decide) (by omega) (by omega) ?_
      first | exact ⟨by rw [if_neg (fun h => by omega)], rfl⟩ | exact ⟨by rw [if_neg (fun h => by have := (zlt3 hk hx).mp c_19; omega)], rfl⟩
    · refine z_iconst (v := (nI 1)) X dS_remembers_22 (by decide) ?_
      refine z_goto (tgt := 27) X dS_remembers_23 (by decide) ?_
      refine z_zret X hlocks hr dS_remembers_27 (by first | rfl | decide) (by omega) (by omega) ?_
      exact ⟨by rw [if_pos ⟨by omega, by have := mt (zlt3 hk hx).mpr c_19; omega⟩], rfl⟩

set_option maxHeartbeats 600000 in
set_option maxRecDepth 100000 in
theorem mS_offsetRemembered (l : Launch) (D : va_G) (dA : Nat → ClassId) {S : zS} {i : Nat} {u : zSn} {t k : Nat} (hi : i < 6) (hO : zSsA S i u) (ht : t < 12) (hk : k < 2 ^ 31) (hx : u.2.2.1 t < 2 ^ 30) : zMet l D vwCl zKK dA (zG0 D dA) yS_offsetRemembered (Cond.code yS_offsetRemembered cS_offsetRemembered 3 (some .int) :: zTs) { frames := 0, cells := 0, slots := 0, locals := 0 } 0 0 [.ref (10 + i), .int (nI t), .int (nI k)] S (fun v S' => v = some (.int (u.2.2.2 (t * 3 + k % 3))) ∧ S' = S) (fun _ _ => False) := by
  refine z_met (tys := ztys dA) (by decide) rfl zG0_K rfl (Nat.le_of_ble_eq_true rfl) (fun p e s m args below meth c A ad X hr hlocks hin hex => ?_)
  obtain ⟨hd1, hd2, hd3, f0, f1, f2, f3, hex0, hof0⟩ := id hO
  refine z_aload_n (j := 0) X dS_offsetRemembered_0 rfl rfl ?_
  refine z_getr (C := RS) (T := TS) (N := 4) (k := 3) X (w_in inS) rfl rfl (kd_S hi) (by decide) (w_m lS_19) rfl rfl f3 dS_offsetRemembered_1 ?_
  refine z_iload_n (j := 1) X dS_offsetRemembered_4 rfl rfl ?_
  refine z_iconst (v := (nI 3)) X dS_offsetRemembered_5 (by decide) ?_
  refine z_imul X dS_offsetRemembered_6 ?_
  refine z_top (pk_mul t 3) ?_
  refine z_iload_n (j := 2) X dS_offsetRemembered_7 rfl rfl ?_
  refine z_iconst (v := (nI 3)) X dS_offsetRemembered_8 (by decide) ?_
  refine z_irem X dS_offsetRemembered_9 (by decide) ?_
  refine z_top (pk_rem (a := k) (d := 3) (by omega) (by omega) (by omega)) ?_
  refine z_iadd X dS_offsetRemembered_10 ?_
  refine z_top (nI_add (t * 3) (k % 3)) ?_
  refine z_iald (t0 := 0) X (kd_SO hi) rfl (by omega) (by decide) dS_offsetRemembered_11 (hv := (hof0 (t * 3 + k % 3) (by omega))) ?_
  refine z_iret X hlocks hr dS_offsetRemembered_12 (by omega) (by omega) ?_
  exact ⟨rfl, rfl⟩

set_option maxHeartbeats 600000 in
set_option maxRecDepth 100000 in
theorem mS_startFor (l : Launch) (D : va_G) (dA : Nat → ClassId) {S : zS} {i : Nat} {u : zSn} {q : Int32} (hi : i < 6) (hO : zSsA S i u)  : zMet l D vwCl zKK dA (zG0 D dA) yS_startFor (Cond.code yS_startFor cS_startFor 2 none :: zTs) { frames := 1, cells := 0, slots := 0, locals := 23 } 0 0 [.ref (10 + i), .int q] S (fun v S' => v = none ∧ zSsA S' i (q, u.2.1, fun _ => 0, u.2.2.2) ∧ zfr (zOwnS i) S S' ∧ S'.1 = S.1) (fun _ _ => False) := by
  refine z_met (tys := ztys dA) (by decide) rfl zG0_K rfl (Nat.le_of_ble_eq_true rfl) (fun p e s m args below meth c A ad X hr hlocks hin hex => ?_)
  obtain ⟨hd1, hd2, hd3, f0, f1, f2, f3, hex0, hof0⟩ := id hO
  refine z_aload_n (j := 0) X dS_startFor_0 rfl rfl ?_
  refine z_iload_n (j := 1) X dS_startFor_1 rfl rfl ?_
  refine z_puti (C := RS) (T := TS) (N := 4) (k := 0) X (w_in inS) rfl rfl (kd_S hi) (by decide) (w_m lS_9) rfl tyS tyS_ok nmS rfl rfl (ty := .int) (by decide +kernel) rfl rfl dS_startFor_2 ?_
  refine z_aload_n (j := 0) X dS_startFor_5 rfl rfl ?_
  refine z_getr (C := RS) (T := TS) (N := 4) (k := 2) X (w_in inS) rfl rfl (kd_S hi) (by decide) (w_m lS_15) rfl rfl (rp_i f2) dS_startFor_6 ?_
  refine z_iconst (v := (nI 0)) X dS_startFor_9 (by decide) ?_
  refine z_callS (n := 2) (As := [.ref (20 + i), .int (nI 0)]) (rest := []) X zG0_m (mA_fill l D dA (kd_SE hi) (by decide)) (w_S X.2.2.2.2.1 lS_22 tA_fill i_java_util_Arrays kA_fill rfl rfl (by decide +kernel) ⟨Nat.le_of_ble_eq_true rfl, Nat.le_of_ble_eq_true rfl⟩) rfl rfl (Nat.le_of_ble_eq_true rfl) dS_startFor_10 ⟨Nat.le_of_ble_eq_true rfl, Nat.le_of_ble_eq_true rfl⟩ (fun v S1 hp => ?_) (fun E S1 hx => hx.elim)
  obtain ⟨hv, hS1⟩ := hp
  subst hv
  subst hS1
  refine z_vret X hlocks hr dS_startFor_13 (by omega) (by omega) ?_
  refine ⟨rfl, ⟨hd1, hd2, hd3, (zfil_out (Or.inl (by omega))).trans rd_s, (zfil_out (Or.inl (by omega))).trans (rd_i (Or.inr (by decide)) f1), f2, f3, fun t ht => zfil_in ht, fun k hk => (zfil_out (Or.inl (by omega))).trans (rd_i (Or.inl (by omega)) (hof0 k hk))⟩, (zfr.i (Or.inl rfl)).tr (zfr.fil (Or.inr (Or.inl rfl))), rfl⟩

set_option maxHeartbeats 600000 in
set_option maxRecDepth 100000 in
theorem mS_remember (l : Launch) (D : va_G) (dA : Nat → ClassId) {S : zS} {i : Nat} {u : zSn} {t : Nat} {y : Int32} (hi : i < 6) (hO : zSsA S i u) (ht : t < 12) (hx : u.2.2.1 t < 2 ^ 30) : zMet l D vwCl zKK dA (zG0 D dA) yS_remember (Cond.code yS_remember cS_remember 3 none :: zTs) { frames := 0, cells := 0, slots := 0, locals := 0 } 0 0 [.ref (10 + i), .int (nI t), .int y] S (fun v S' => v = none ∧ zSsA S' i (u.1, u.2.1, (fun j => if j = t then u.2.2.1 t + 1 else u.2.2.1 j), fun j => if j = t * 3 + u.2.2.1 t % 3 then y else u.2.2.2 j) ∧ zfr (zOwnS i) S S' ∧ S'.1 = S.1) (fun _ _ => False) := by
  refine z_met (tys := ztys dA) (by decide) rfl zG0_K rfl (Nat.le_of_ble_eq_true rfl) (fun p e s m args below meth c A ad X hr hlocks hin hex => ?_)
  obtain ⟨hd1, hd2, hd3, f0, f1, f2, f3, hex0, hof0⟩ := id hO
  refine z_aload_n (j := 0) X dS_remember_0 rfl rfl ?_
  refine z_getr (C := RS) (T := TS) (N := 4) (k := 3) X (w_in inS) rfl rfl (kd_S hi) (by decide) (w_m lS_19) rfl rfl f3 dS_remember_1 ?_
  refine z_iload_n (j := 1) X dS_remember_4 rfl rfl ?_
  refine z_iconst (v := (nI 3)) X dS_remember_5 (by decide) ?_
  refine z_imul X dS_remember_6 ?_
  refine z_top (pk_mul t 3) ?_
  refine z_aload_n (j := 0) X dS_remember_7 rfl rfl ?_
  refine z_getr (C := RS) (T := TS) (N := 4) (k := 2) X (w_in inS) rfl rfl (kd_S hi) (by decide) (w_m lS_15) rfl rfl f2 dS_remember_8 ?_
  refine z_iload_n (j := 1) X dS_remember_11 rfl rfl ?_
  refine z_iald (t0 := 0) X (kd_SE hi) rfl (by omega) (by decide) dS_remember_12 (hv := (hex0 t (by omega))) ?_
  refine z_iconst (v := (nI 3)) X dS_remember_13 (by decide) ?_
  refine z_irem X dS_remember_14 (by decide) ?_
  refine z_top (pk_rem (a := u.2.2.1 t) (d := 3) (by omega) (by omega) (by omega)) ?_
  refine z_iadd X dS_remember_15 ?_
  refine z_top (nI_add (t * 3) ((u.2.2.1 t) % 3)) ?_
  refine z_iload_n (j := 2) X dS_remember_16 rfl rfl ?_
  refine z_iast (t0 := 0) X (kd_SO hi) rfl (by omega) (by decide) dS_remember_17 ?_
  refine z_aload_n (j := 0) X dS_remember_18 rfl rfl ?_
  refine z_getr (C := RS) (T := TS) (N := 4) (k := 2) X (w_in inS) rfl rfl (kd_S hi) (by decide) (w_m lS_15) rfl rfl (rp_i f2) dS_remember_19 ?_
  refine z_iload_n (j := 1) X dS_remember_22 rfl rfl ?_
  refine z_dup2 X dS_remember_23 rfl rfl ?_
  refine z_iald (t0 := 0) X (kd_SE hi) rfl (by omega) (by decide) dS_remember_24 (hv := (rd_i (Or.inl (by omega)) (hex0 t (by omega)))) ?_
  refine z_iconst (v := (nI 1)) X dS_remember_25 (by decide) ?_
  refine z_iadd X dS_remember_26 ?_
  refine z_top (nI_add (u.2.2.1 t) 1) ?_
  refine z_iast (t0 := 0) X (kd_SE hi) rfl (by omega) (by decide) dS_remember_27 ?_
  refine z_vret X hlocks hr dS_remember_28 (by omega) (by omega) ?_
  refine ⟨rfl, ⟨hd1, hd2, hd3, (rd_i (Or.inl (by omega)) (rd_i (Or.inl (by omega)) f0)), (rd_i (Or.inl (by omega)) (rd_i (Or.inl (by omega)) f1)), f2, f3, fun t1 ht1 => ?_, fun k1 hk1 => ?_⟩, (zfr.i (Or.inr (Or.inr rfl))).tr (zfr.i (Or.inr (Or.inl rfl))), rfl⟩
  · show _ = nI (if t1 = t then u.2.2.1 t + 1 else u.2.2.1 t1)
    by_cases e9 : t1 = t
    · subst e9; rw [if_pos rfl]; exact rd_s
    · rw [if_neg e9]; exact rd_i (Or.inr e9) (rd_i (Or.inl (by omega)) (hex0 t1 ht1))
  · show _ = if k1 = t * 3 + u.2.2.1 t % 3 then y else u.2.2.2 k1
    by_cases e9 : k1 = t * 3 + u.2.2.1 t % 3
    · subst e9; rw [if_pos rfl]; exact rd_i (Or.inl (by omega)) rd_s
    · rw [if_neg e9]; exact rd_i (Or.inl (by omega)) (rd_i (Or.inr e9) (hof0 k1 hk1))
end
section
/-! A class whose constructor hands its text on by the entry 13 of its pool -/
def zn_b : ByteArray := ⟨#[0x2a, 0x2b, 0xb7, 0x00, 0x0d, 0xb1]⟩
theorem zn_0 : decode zn_b 0 = .ok (.aload_n 0, 1) := by decide +kernel
theorem zn_1 : decode zn_b 1 = .ok (.aload_n 1, 1) := by decide +kernel
theorem zn_2 : decode zn_b 2 = .ok (.invokespecial 13, 3) := by decide +kernel
theorem zn_5 : decode zn_b 5 = .ok (.return_, 1) := by decide +kernel
def zn_atoms (own : String) (ic : Nat) (X sup : String) (names : List String) : List Cond :=
  Bundle.throwableAtoms ++ Bundle.throwableSAtoms ++ Bundle.passSAtoms X sup 13 zn_b ++ Bundle.chainSAtoms sup names ++
  [.methodLink own ic (Bundle.initS X), .instantiable X 6, .castable X X, .selects X Bundle.tFill0 Bundle.tFill0, .selects X Bundle.tFill Bundle.tFill,
   .lays X Bundle.tN "cause" "Ljava/lang/Throwable;", .lays X Bundle.tN "stackTrace" Bundle.steD, .lays X Bundle.tN "suppressedExceptions" Bundle.listD, .lays X Bundle.tN "detailMessage" "Ljava/lang/String;",
   .isRef (.static Bundle.tN "UNASSIGNED_STACK" Bundle.steD), .isRef (.static Bundle.tN "SUPPRESSED_SENTINEL" Bundle.listD),
   .fieldLink Bundle.tN 198 Bundle.tN "backtrace" "Ljava/lang/Object;", .lays Bundle.tN Bundle.tN "backtrace" "Ljava/lang/Object;", .lays X Bundle.tN "backtrace" "Ljava/lang/Object;"]
section ZN
variable {p : Program} {l : Launch} {e : Env} {R : Room} {s : State} {m₀ : MethodId} {args : Array Value} {below : List Frame} {meth : Method} {c : Code} {W : State} {locs : List Loc} {cells slots : Nat}
set_option maxHeartbeats 1000000 in
theorem zn_ctor (X : Stand p l e R s m₀ args below meth c W locs cells slots) (hexec : p.tables.exec = Jvm.exec) (htr : e.platform.stackTraces = false) {own cls sup : String} {names : List String} {ic : Nat}
    (hown : s.vm.findClass own = some m₀.cls) (hcls : Bundle.fit cls = true) (hsup : Bundle.fit sup = true) (hnames : ∀ n ∈ names, Bundle.fit n = true)
    (h : ∀ a ∈ zn_atoms own ic cls sup names, a.before args s = true)
    (hlocs : ∀ x ∈ locs, ∀ cell, s.heap[x.base]? = some cell → cell.vm.isStatics = false)
    {a : Addr} {cX : ClassId} {kX : Class} (hfoundX : s.vm.findClass cls = some cX) (hkX : s.vm.classes[cX]? = some kX) (hcell : W.heap[a]? = some (freshCell cX kX)) (hnew : s.heap.size ≤ a)
    {msg : Value} (hmsg : msg.isRef = true)
    {g : JFrame} (hg : g.method = m₀) (hsize : g.locals.size = c.maxLocals) (hlocked : g.locked = none) (hentered : g.entered = []) {rest : List Value} (hstack : g.stack = msg :: .ref a :: .ref a :: rest)
    (hd6 : decode c.code g.pc = .ok (.invokespecial ic, 3)) (hd9 : decode c.code (g.pc + 3) = .ok (.athrow, 1)) (hout : ∀ x ∈ c.exceptionTable.toList, covers x (g.pc + 3) = false)
    (hRframes : names.length + 1 + 3 < R.frames) (hRlocals : 2 * g.monitorRoom + ((Value.ref a :: rest).map fun v => v.category).sum + (13 * (names.length + 1 + 1) + 42) ≤ R.locals) (hlocks : meth.locks = false) :
    ∃ U : State, Steps p.tables e below (W.setTop g) U ∧ U.status = .running ∧ Ended U below (.threw a) ∧ s.WarmedH U.vm ∧ s.sameButNew ({ U with vm := s.vm } : State) locs cells slots ∧
      ∃ ce : Cell, U.heap[a]? = some ce ∧ s.vm.findClass cls = some ce.cls ∧ ce.vm = .none := by
  have howns : e.platform.frameOwnsMonitors = true := by rw [X.admits.platform]
  have hfin : e.platform.finalization = false := by rw [X.admits.platform]
  have hpl : e.platform.magicAccessors = ({} : Platform).magicAccessors := by rw [X.admits.platform]
  have a' : ∀ x, x ∈ zn_atoms own ic cls sup names → x.holds args s none s [] = true := fun x hx => h x hx
  obtain ⟨T, Z0, L, -, Y⟩ := ThrowableC.of_atoms (args := args) howns hfin hpl (fun x hx => h x (by simp [zn_atoms, hx]))
  obtain ⟨Z, M, LZ, LM, hnZ⟩ := Init0T.ofS_atoms (args := args) hpl L Y (fun x hx => h x (by simp [zn_atoms, hx]))
  obtain ⟨P1, L1, hP1m, hs1⟩ := PassC.ofS_atoms (args := args) (s := s) hpl (X := cls) (Y := sup) (Bundle.fit_spec hcls).1 (Bundle.fit_spec hsup).2 zn_0 zn_1 zn_2 zn_5 (fun x hx => h x (by simp [zn_atoms, hx]))
  obtain ⟨P2, Ps2, hlen2, L2, hL2, hm2, hlink2, hpass2⟩ := Bundle.chainS (args := args) hpl hnZ names sup hsup hnames (fun x hx => h x (by simp [zn_atoms, hx]))
  have hlink1 : P1.sup = P2.m := Option.some.inj (hs1.symm.trans hm2)
  have hL : ∀ P, P ∈ P2 :: Ps2 → P.LinksS e.platform s := fun P hP => by
    rcases List.mem_cons.mp hP with hP | hP
    · rw [hP]; exact L2
    · exact hL2 P hP
  have hfound : s.vm.findClass cls = some P1.m.cls := findClass_of_methodNamed hP1m
  cases Option.some.inj (hfoundX.symm.trans hfound)
  obtain ⟨c1, kX', hc1, hk, hord, -, -, hn6⟩ := Cond.instantiable_spec (a' (.instantiable cls 6) (by simp [zn_atoms]))
  cases Option.some.inj (hc1.symm.trans hfound)
  cases Option.some.inj (hkX.symm.trans hk)
  have hsel0 : selectMethod e.platform s.vm P1.m.cls T.fill0 = .method T.fill0 := by
    obtain ⟨c2, r2, m2, q1, q2, q3, q4, -⟩ := Cond.selects_spec (a' (.selects cls Bundle.tFill0 Bundle.tFill0) (by simp [zn_atoms]))
    cases Option.some.inj (q1.symm.trans hfound)
    cases Option.some.inj (q2.symm.trans (State.methodFound?_of_named Y.fill0 (by decide)))
    cases Option.some.inj (q3.symm.trans Y.fill0)
    rw [Launch.admits_selectMethod X.admits]; exact q4
  have hselF : selectMethod e.platform s.vm P1.m.cls T.fill = .method T.fill := by
    obtain ⟨c2, r2, m2, q1, q2, q3, q4, -⟩ := Cond.selects_spec (a' (.selects cls Bundle.tFill Bundle.tFill) (by simp [zn_atoms]))
    cases Option.some.inj (q1.symm.trans hfound)
    cases Option.some.inj (q2.symm.trans (State.methodFound?_of_named Y.fill (by decide)))
    cases Option.some.inj (q3.symm.trans Y.fill)
    rw [Launch.admits_selectMethod X.admits]; exact q4
  obtain ⟨cellS0, hcS0, hiss⟩ := Y.statics
  obtain ⟨u0, hu0⟩ := Cond.staticRefV Y.unassigned L.unassignedStatic L.statics hcS0 hiss (a' (.isRef (.static Bundle.tN "UNASSIGNED_STACK" Bundle.steD)) (by simp [zn_atoms]))
  obtain ⟨sen, hsen⟩ := Cond.staticRefV Y.sentinel L.sentinelStatic L.statics hcS0 hiss (a' (.isRef (.static Bundle.tN "SUPPRESSED_SENTINEL" Bundle.listD)) (by simp [zn_atoms]))
  obtain ⟨ci198, i198, fB, hk198, hg198, ha198, hsB, -, hnB, htB, hffB⟩ := Cond.ownField (t := .object "java/lang/Object") Y.found L.cls (by decide +kernel) (a' (.fieldLink Bundle.tN 198 Bundle.tN "backtrace" "Ljava/lang/Object;") (by simp [zn_atoms])) (a' (.lays Bundle.tN Bundle.tN "backtrace" "Ljava/lang/Object;") (by simp [zn_atoms])) e.platform hpl
  obtain ⟨cellS, hcS', heS, -, hkeep⟩ := X.same.2.2.2.2.2 T.aS cellS0 hcS0
  have hcellS : W.heap[T.aS]? = some cellS := hcS'
  have hout' : ∀ i, (⟨T.aS, i⟩ : Loc) ∉ locs := fun i hmem => by
    have := hlocs _ hmem cellS0 hcS0
    rw [hiss] at this; cases this
  have hknownS : cellS.vm ≠ .unknown := by
    rw [heS]; intro hu
    rw [show cellS0.vm = .unknown from hu] at hiss
    cases hiss
  have hneS : T.aS ≠ a := Nat.ne_of_lt (Nat.lt_of_lt_of_le (Array.getElem?_eq_some_iff.mp hcS0).1 hnew)
  obtain ⟨iM, hffM⟩ := Y.msg
  obtain ⟨tyC, dC, hdC, hdnC⟩ := Cond.laysAt hfound hk Y.cause (a' (.lays cls Bundle.tN "cause" "Ljava/lang/Throwable;") (by simp [zn_atoms]))
  obtain ⟨tyS, dS, hdS, hdnS⟩ := Cond.laysAt hfound hk Y.stack (a' (.lays cls Bundle.tN "stackTrace" Bundle.steD) (by simp [zn_atoms]))
  obtain ⟨tyP, dP, hdP, hdnP⟩ := Cond.laysAt hfound hk Y.supp (a' (.lays cls Bundle.tN "suppressedExceptions" Bundle.listD) (by simp [zn_atoms]))
  obtain ⟨tyM, dM, hdM, hdnM⟩ := Cond.laysAt hfound hk hffM (a' (.lays cls Bundle.tN "detailMessage" "Ljava/lang/String;") (by simp [zn_atoms]))
  obtain ⟨tyB, dB, hdB, hdnB⟩ := Cond.laysAt hfound hk hffB (a' (.lays cls Bundle.tN "backtrace" "Ljava/lang/Object;") (by simp [zn_atoms]))
  have bC := Cond.laysApart hdB hdC hdnB hdnC (by rw [hnB, Y.causeName]; decide)
  have bS := Cond.laysApart hdB hdS hdnB hdnS (by rw [hnB, Y.stackName]; decide)
  have bP := Cond.laysApart hdB hdP hdnB hdnP (by rw [hnB, Y.suppName]; decide)
  have hskip : SkipFacts T e.platform s (fun u => u) u0 ((preparedCellV T.toThrowableT (freshCell P1.m.cls kX) a u0 sen).withEntry W.cur) :=
    ⟨{ ci198 := ci198, i198 := i198, fBack := fB }, ⟨hk198, hg198, ha198, hsB⟩, by
      have := fresh_default (c := P1.m.cls) tyB
      rw [htB] at this
      simpa [preparedCellV, Cell.setSlot, Cell.withEntry, Array.getElem?_setIfInBounds, bC, bS, bP, bC.symm, bS.symm, bP.symm, defaultValue] using this, fun _ _ => rfl⟩
  obtain ⟨tm, methC, cdC, kC, vm₁, hnC, -, -, -, -, -, -, -, hW₁, st1⟩ := Steps.initColdS (tb := p.tables) (e := e) (below := below) (s := s) (U := W) X.here hexec X.warmed hpl hown (t := Bundle.initS cls) rfl rfl (Bundle.fit_spec hcls).2
    (a' (.methodLink own ic (Bundle.initS cls)) (by simp [zn_atoms])) (h (.instanceMethod (Bundle.initS cls)) (by simp [zn_atoms, Bundle.passSAtoms])) (bytes := zn_b) (maxL := 2) (h (.code (Bundle.initS cls) zn_b 2 none) (by simp [zn_atoms, Bundle.passSAtoms]))
    (f := g) hg (a := a) (msg := msg) (rest := .ref a :: rest) hstack hd6
  cases Option.some.inj (hnC.symm.trans hP1m)
  have X₁ := X.noted hW₁
  obtain ⟨vm₂, X₂, st2⟩ := X₁.ctorMessageOffV hexec (g := { g with stack := .ref a :: rest }) hg hsize T L Z LZ M LM (P1 :: P2 :: Ps2)
    (fun P hP => by rcases List.mem_cons.mp hP with rfl | hP; exact L1; exact hL P hP) ⟨hlink1, hlink2, hpass2⟩ (u0 := u0) (sen := sen) (self := a) hmsg (cell := freshCell P1.m.cls kX) (cellS := cellS)
    hcell (fun _ => by simp) (by simp) rfl rfl hsel0 hselF hcellS hneS hknownS (by rw [hkeep _ (hout' _)]; exact hu0) (by rw [hkeep _ (hout' _)]; exact hsen)
    (Takes.of_laid hk hord tyC (by rw [Y.causeType]; rfl)) (Takes.of_laid hk hord tyS (by rw [Y.stackType]; exact fits_refV_array _ u0)) (Takes.of_laid hk hord tyP (by rw [Y.suppType]; exact fits_refV_object _ sen))
    (Takes.of_laid hk hord tyM (by rw [Y.msgType]; exact fits_refV_object _ ⟨msg, hmsg⟩)) Y.objLocals hskip htr [] hd6
    (by simp only [List.length_cons, hlen2]; omega) (by simp only [List.length_cons, hlen2]; exact hRlocals)
  obtain ⟨hwalk, hrun, hended, hWU, hsame⟩ := X₂.athrowLeaves hexec (g := { g with stack := .ref a :: rest, pc := g.pc + 3 }) hg hlocked hentered hout (a := a) (rest := rest) rfl hd9
  have hlt : a < ((W.setVm vm₁).setVm vm₂).heap.size := (Array.getElem?_eq_some_iff.mp hcell).1
  have hU := heapAt_setCell_self (s := (W.setVm vm₁).setVm vm₂) (plainBareV T.toThrowableT (freshCell P1.m.cls kX) a u0 sen msg) hlt
  refine ⟨_, st1 _ (fun acts => ?_), hrun, hended, hWU, hsame.weaken (fun y hy hlt' => ?_) (Nat.le_refl _) (Nat.le_refl _), _, hU, hfound, rfl⟩
  · rw [doInvoke_state]
    exact st2 _ hwalk
  · rcases List.mem_append.mp hy with h1 | h1
    · exact h1
    · exfalso
      have hb : y.base = a := by
        simp only [List.mem_cons, List.not_mem_nil, or_false] at h1
        rcases h1 with rfl | rfl | rfl | rfl | rfl <;> rfl
      rw [hb] at hlt'
      exact Nat.not_lt.mpr hnew hlt'
end ZN
section ZNT
variable {p : Program} {l : Launch} {e : Env} {R : Room} {s : State} {m : MethodId} {args : Array Value} {below : List Frame} {meth : Method} {c : Code} {H : Heap} {locs : List Loc} {cells slots : Nat} {Q : State → Prop}
variable {mc ms : Nat} {free : Addr → Prop} {A0 A1 : Nat → Prop} {H0 : Heap} {a : Array Value} {ls : Array Slot} {st0 rest : List Value}
variable {Qc : Array Value → State → Outcome → State → Prop} {XC : String → State → State → Prop}
def zn_at (own : String) (ic : Nat) (X sup : String) (names : List String) : List Cond := (zn_atoms own ic X sup names).filter vx_no
theorem zn_throwS {cc : ByteArray} {pc : Nat} (hexec : p.tables.exec = Jvm.exec) (hb : c.code = cc) (hl : l.stackTraces = false) {own cls sup text : String} {names : List String} {ik is ic mc ms sa : Nat} {A : Nat → Prop}
    (hown : s.vm.findClass own = some m.cls) (hcls : Bundle.fit cls = true) (hsup : Bundle.fit sup = true) (hnames : ∀ n ∈ names, Bundle.fit n = true)
    (hk : (Cond.classLink own ik cls).before args s = true) (hini : (Cond.initialized cls).before args s = true) (hstr : vk_R own is text sa s) (hat : ∀ w ∈ zn_at own ic cls sup names, w.before args s = true)
    (hgood : ∀ w ∈ Cond.classLink own ik cls :: Cond.initialized cls :: zn_at own ic cls sup names, vx_ot w = true)
    (hU : vx_Zq Bundle.tN "UNASSIGNED_STACK" Bundle.steD A s s.heap) (hN : vx_Zq Bundle.tN "SUPPRESSED_SENTINEL" Bundle.listD A s s.heap) (hS : va_S A s.heap H locs) (hsize : ls.size = c.maxLocals)
    (d0 : decode cc pc = .ok (.new ik, 3)) (d3 : decode cc (pc + 3) = .ok (.dup, 1)) (d4 : decode cc (pc + 4) = .ok (.ldc is, 2)) (d6 : decode cc (pc + 6) = .ok (.invokespecial ic, 3)) (d9 : decode cc (pc + 9) = .ok (.athrow, 1))
    (hout : ∀ x ∈ c.exceptionTable.toList, covers x (pc + 9) = false)
    (hRframes : names.length + 1 + 3 < R.frames) (hRlocals : (rest.map fun v => v.category).sum + (13 * (names.length + 1 + 1) + 43) ≤ R.locals) (hRcells : cells + 1 ≤ R.cells) (hRslots : slots + 6 ≤ R.slots) (hlocks : meth.locks = false)
    (hx : ∀ t : State, s.vm.Alike t.vm → H.size ≤ t.heap.size → (∀ q : Nat, q < H.size → t.heap[q]? = H[q]?) → XC cls s t)
    (hf : ∀ z ∈ locs, free z.base) (hc : cells + 1 ≤ mc) (hs : slots + 6 ≤ ms) :
    W p l e R s m args below meth c H locs cells slots (vx_MQ below Qc XC args s mc ms free) (F0 m pc ls rest) := by
  intro T hT X
  have htr : e.platform.stackTraces = false := (show e.platform.stackTraces = l.stackTraces by rw [X.admits.platform]).trans hl
  have Y := vx_rebase X (R' := { frames := R.frames, locals := R.locals, cells := 1, slots := 6 }) (Nat.le_refl _) (Nat.le_refl _) hRcells hRslots
  obtain ⟨s', hA⟩ : ∃ z, z = (T.setVm s.vm).setFrames (.invoking m args :: below) := ⟨_, rfl⟩
  rw [← hA] at Y
  have hvm : s'.vm = s.vm := by rw [hA]; rfl
  have hhp : s'.heap = H := by rw [hA]; exact hT
  have hW0 : s.WarmedH s'.vm := by rw [hvm]; exact State.WarmedH.refl s
  have hat' : ∀ w ∈ zn_at own ic cls sup names, w.before args s' = true := fun w hw => vx_ot_at hW0 hvm.symm (hgood w (List.mem_cons_of_mem _ (List.mem_cons_of_mem _ hw))) (hat w hw)
  have hk' : (Cond.classLink own ik cls).before args s' = true := vx_ot_at hW0 hvm.symm (hgood _ List.mem_cons_self) hk
  have hini' : (Cond.initialized cls).before args s' = true := vx_ot_at hW0 hvm.symm (hgood _ (List.mem_cons_of_mem _ List.mem_cons_self)) hini
  have hU' : vx_Zq Bundle.tN "UNASSIGNED_STACK" Bundle.steD A s' s'.heap := by rw [hhp]; exact vx_Zq.moved hW0.alike (hU.kept hS.2.1)
  have hN' : vx_Zq Bundle.tN "SUPPRESSED_SENTINEL" Bundle.listD A s' s'.heap := by rw [hhp]; exact vx_Zq.moved hW0.alike (hN.kept hS.2.1)
  have h : ∀ w ∈ zn_atoms own ic cls sup names, w.before args s' = true := vx_own hat' (vx_isRefq hU'.1) (vx_isRefq hN'.1) hU'.2.word hN'.2.word
  have hown' : s'.vm.findClass own = some m.cls := by rw [hvm]; exact hown
  have hins : (Cond.instantiable cls 6).before args s' = true := h _ (by simp [zn_atoms])
  obtain ⟨vm₁, cX, kX, hfX, hkX, -, -, X₁, st1⟩ := Y.newCold hexec (own := own) (C := cls) (index := ik) (n := 6) hown' hk' hins hini'
    (g := F0 m pc ls rest) rfl (by rw [hb]; exact d0) (Nat.le_refl _) (Nat.le_refl _)
  generalize hT1 : (T.setVm vm₁).pushCell { cls := cX, slots := kX.instanceTypes.map defaultValue, vm := .none } = T1 at X₁ st1
  have hcat : (Value.ref T.heap.size).category = 1 := rfl
  have hcellA : T1.heap[T.heap.size]? = some (freshCell cX kX) := by rw [← hT1]; exact State.heap_pushCell_size _ _
  have d3' : decode c.code (pc + 3) = .ok (.dup, 1) := by rw [hb]; exact d3
  have d4' : decode c.code (pc + 4) = .ok (.ldc is, 2) := by rw [hb]; exact d4
  have hstr' : vk_R own is text sa s' := vk_R.warm hW0 hstr
  obtain ⟨U, hsteps, hrun, hend, hW, hsame, ce, hce, hO1, hO2⟩ := zn_ctor X₁ hexec htr (own := own) (cls := cls) (sup := sup) (names := names) (ic := ic) hown' hcls hsup hnames h (fun x hx => nomatch hx) hfX hkX hcellA (by rw [hhp, hT]; exact Nat.le_refl _) (msg := .ref sa) rfl
    (g := { method := m, pc := pc + 6, locals := ls, stack := .ref sa :: .ref T.heap.size :: .ref T.heap.size :: rest, locked := none }) rfl hsize rfl rfl (rest := rest) rfl
    (by rw [hb]; exact d6) (by rw [hb]; exact d9) hout hRframes (by simp only [List.map_cons, List.sum_cons, hcat]; omega) hlocks
  obtain ⟨f1, f2⟩ := vx_frame hsame
  rw [hhp] at f1 f2
  have hWs : s.WarmedH U.vm := State.WarmedH.trans hW0 hW
  have hcl : s.vm.findClass cls = some ce.cls := by
    have h9 := hO1
    rw [hvm] at h9
    exact h9
  have hall : s.sameButNew ({ U with vm := s.vm } : State) locs mc ms := by
    subst hA
    obtain ⟨e1, e2⟩ := hsame
    rw [State.setFrames_setFrames] at e1
    have h2 : (T.setVm s.vm).sameButNew ({ U with vm := s.vm } : State) [] (0 + 1) (0 + 6) := ⟨e1, e2⟩
    have h3 := X.same.trans h2
    rw [List.append_nil] at h3
    exact h3.mono hc hs
  refine ⟨U, ?_, .threw T.heap.size, hrun, hend, Or.inr ⟨T.heap.size, rfl, cls, ce, locs, hx U hWs.alike f1 (fun q hq => f2 q hq (fun z hz => nomatch hz)), hce, hO2, hcl, hWs, hall, hf⟩⟩
  refine st1 _ ?_
  show Steps p.tables e below (T1.setTop { method := m, pc := pc + 3, locals := ls, stack := .ref T.heap.size :: rest, locked := none }) _
  jvm_step X₁.here [X₁.here.top, hexec, d3', Value.category]
  exact X₁.ldcString hexec (own := own) (text := text) (index := is) (a := sa) hown' hstr'.1 hstr'.2
    (g := { method := m, pc := pc + 4, locals := ls, stack := .ref T.heap.size :: .ref T.heap.size :: rest, locked := none }) rfl d4' _ hsteps
theorem zn_throwSW {cc : ByteArray} {pc : Nat} (hexec : p.tables.exec = Jvm.exec) (hb : c.code = cc) (hl : l.stackTraces = false) {own cls sup text : String} {names : List String} {ik is ic mc ms sa : Nat} {A : Nat → Prop}
    (hown : s.vm.findClass own = some m.cls) (hcls : Bundle.fit cls = true) (hsup : Bundle.fit sup = true) (hnames : ∀ n ∈ names, Bundle.fit n = true)
    (hk : (Cond.classLink own ik cls).before args s = true) (hini : (Cond.initialized cls).before args s = true) (hstr : vk_R own is text sa s) (hat : ∀ w ∈ zn_at own ic cls sup names, w.before args s = true)
    (hgood : ∀ w ∈ Cond.classLink own ik cls :: Cond.initialized cls :: zn_at own ic cls sup names, vx_ot w = true)
    (hU : vx_Zq Bundle.tN "UNASSIGNED_STACK" Bundle.steD A s s.heap) (hN : vx_Zq Bundle.tN "SUPPRESSED_SENTINEL" Bundle.listD A s s.heap) (hS : va_S A s.heap H locs) (hsize : ls.size = c.maxLocals)
    (d0 : decode cc pc = .ok (.new ik, 3)) (d3 : decode cc (pc + 3) = .ok (.dup, 1)) (d4 : decode cc (pc + 4) = .ok (.ldc_w is, 3)) (d7 : decode cc (pc + 7) = .ok (.invokespecial ic, 3)) (d10 : decode cc (pc + 10) = .ok (.athrow, 1))
    (hout : ∀ x ∈ c.exceptionTable.toList, covers x (pc + 10) = false)
    (hRframes : names.length + 1 + 3 < R.frames) (hRlocals : (rest.map fun v => v.category).sum + (13 * (names.length + 1 + 1) + 43) ≤ R.locals) (hRcells : cells + 1 ≤ R.cells) (hRslots : slots + 6 ≤ R.slots) (hlocks : meth.locks = false)
    (hx : ∀ t : State, s.vm.Alike t.vm → H.size ≤ t.heap.size → (∀ q : Nat, q < H.size → t.heap[q]? = H[q]?) → XC cls s t)
    (hf : ∀ z ∈ locs, free z.base) (hc : cells + 1 ≤ mc) (hs : slots + 6 ≤ ms) :
    W p l e R s m args below meth c H locs cells slots (vx_MQ below Qc XC args s mc ms free) (F0 m pc ls rest) := by
  intro T hT X
  have htr : e.platform.stackTraces = false := (show e.platform.stackTraces = l.stackTraces by rw [X.admits.platform]).trans hl
  have Y := vx_rebase X (R' := { frames := R.frames, locals := R.locals, cells := 1, slots := 6 }) (Nat.le_refl _) (Nat.le_refl _) hRcells hRslots
  obtain ⟨s', hA⟩ : ∃ z, z = (T.setVm s.vm).setFrames (.invoking m args :: below) := ⟨_, rfl⟩
  rw [← hA] at Y
  have hvm : s'.vm = s.vm := by rw [hA]; rfl
  have hhp : s'.heap = H := by rw [hA]; exact hT
  have hW0 : s.WarmedH s'.vm := by rw [hvm]; exact State.WarmedH.refl s
  have hat' : ∀ w ∈ zn_at own ic cls sup names, w.before args s' = true := fun w hw => vx_ot_at hW0 hvm.symm (hgood w (List.mem_cons_of_mem _ (List.mem_cons_of_mem _ hw))) (hat w hw)
  have hk' : (Cond.classLink own ik cls).before args s' = true := vx_ot_at hW0 hvm.symm (hgood _ List.mem_cons_self) hk
  have hini' : (Cond.initialized cls).before args s' = true := vx_ot_at hW0 hvm.symm (hgood _ (List.mem_cons_of_mem _ List.mem_cons_self)) hini
  have hU' : vx_Zq Bundle.tN "UNASSIGNED_STACK" Bundle.steD A s' s'.heap := by rw [hhp]; exact vx_Zq.moved hW0.alike (hU.kept hS.2.1)
  have hN' : vx_Zq Bundle.tN "SUPPRESSED_SENTINEL" Bundle.listD A s' s'.heap := by rw [hhp]; exact vx_Zq.moved hW0.alike (hN.kept hS.2.1)
  have h : ∀ w ∈ zn_atoms own ic cls sup names, w.before args s' = true := vx_own hat' (vx_isRefq hU'.1) (vx_isRefq hN'.1) hU'.2.word hN'.2.word
  have hown' : s'.vm.findClass own = some m.cls := by rw [hvm]; exact hown
  have hins : (Cond.instantiable cls 6).before args s' = true := h _ (by simp [zn_atoms])
  obtain ⟨vm₁, cX, kX, hfX, hkX, -, -, X₁, st1⟩ := Y.newCold hexec (own := own) (C := cls) (index := ik) (n := 6) hown' hk' hins hini'
    (g := F0 m pc ls rest) rfl (by rw [hb]; exact d0) (Nat.le_refl _) (Nat.le_refl _)
  generalize hT1 : (T.setVm vm₁).pushCell { cls := cX, slots := kX.instanceTypes.map defaultValue, vm := .none } = T1 at X₁ st1
  have hcat : (Value.ref T.heap.size).category = 1 := rfl
  have hcellA : T1.heap[T.heap.size]? = some (freshCell cX kX) := by rw [← hT1]; exact State.heap_pushCell_size _ _
  have d3' : decode c.code (pc + 3) = .ok (.dup, 1) := by rw [hb]; exact d3
  have d4' : decode c.code (pc + 4) = .ok (.ldc_w is, 3) := by rw [hb]; exact d4
  have hstr' : vk_R own is text sa s' := vk_R.warm hW0 hstr
  obtain ⟨U, hsteps, hrun, hend, hW, hsame, ce, hce, hO1, hO2⟩ := zn_ctor X₁ hexec htr (own := own) (cls := cls) (sup := sup) (names := names) (ic := ic) hown' hcls hsup hnames h (fun x hx => nomatch hx) hfX hkX hcellA (by rw [hhp, hT]; exact Nat.le_refl _) (msg := .ref sa) rfl
    (g := { method := m, pc := pc + 7, locals := ls, stack := .ref sa :: .ref T.heap.size :: .ref T.heap.size :: rest, locked := none }) rfl hsize rfl rfl (rest := rest) rfl
    (by rw [hb]; exact d7) (by rw [hb]; exact d10) hout hRframes (by simp only [List.map_cons, List.sum_cons, hcat]; omega) hlocks
  obtain ⟨f1, f2⟩ := vx_frame hsame
  rw [hhp] at f1 f2
  have hWs : s.WarmedH U.vm := State.WarmedH.trans hW0 hW
  have hcl : s.vm.findClass cls = some ce.cls := by
    have h9 := hO1
    rw [hvm] at h9
    exact h9
  have hall : s.sameButNew ({ U with vm := s.vm } : State) locs mc ms := by
    subst hA
    obtain ⟨e1, e2⟩ := hsame
    rw [State.setFrames_setFrames] at e1
    have h2 : (T.setVm s.vm).sameButNew ({ U with vm := s.vm } : State) [] (0 + 1) (0 + 6) := ⟨e1, e2⟩
    have h3 := X.same.trans h2
    rw [List.append_nil] at h3
    exact h3.mono hc hs
  refine ⟨U, ?_, .threw T.heap.size, hrun, hend, Or.inr ⟨T.heap.size, rfl, cls, ce, locs, hx U hWs.alike f1 (fun q hq => f2 q hq (fun z hz => nomatch hz)), hce, hO2, hcl, hWs, hall, hf⟩⟩
  refine st1 _ ?_
  show Steps p.tables e below (T1.setTop { method := m, pc := pc + 3, locals := ls, stack := .ref T.heap.size :: rest, locked := none }) _
  jvm_step X₁.here [X₁.here.top, hexec, d3', Value.category]
  exact X₁.ldcStringW hexec (own := own) (text := text) (index := is) (a := sa) hown' hstr'.1 hstr'.2
    (g := { method := m, pc := pc + 4, locals := ls, stack := .ref T.heap.size :: .ref T.heap.size :: rest, locked := none }) rfl d4' _ hsteps
end ZNT
end
section
/-! THROWING out of LogBroker: a row for each class of exception (by program) -/
theorem hat_NSE {D : va_G} {dA : Nat → ClassId} {A : Nat → Prop} {s : State} {args : Array Value} {c0 : Cond} (hts : ∀ w ∈ c0 :: zTs, w.before args s = true) (hG : zG0 D dA A s) : ∀ w ∈ zn_at "LogBroker" 172 "java/util/NoSuchElementException" "java/lang/RuntimeException" ["java/lang/Exception"], w.before args s = true :=
  vx_hat (L := zn_at "LogBroker" 172 "java/util/NoSuchElementException" "java/lang/RuntimeException" ["java/lang/Exception"]) (B := [.castable "java/util/NoSuchElementException" "java/util/NoSuchElementException", .declares ⟨"java/lang/RuntimeException", "<init>", "(Ljava/lang/String;)V"⟩, .declares ⟨"java/lang/Exception", "<init>", "(Ljava/lang/String;)V"⟩, .declares ⟨"java/lang/Throwable", "<init>", "(Ljava/lang/String;)V"⟩]) (fun w hw => hts w (w_m (zTs_in ((by decide +kernel : ∀ w ∈ (zn_at "LogBroker" 172 "java/util/NoSuchElementException" "java/lang/RuntimeException" ["java/lang/Exception"]).filter goodWord, w ∈ lw_tbl) w hw) (List.mem_filter.mp hw).2))) (by decide +kernel) (vx_c (va_Nw.use rfl (zG0_cast (q := ("java/util/NoSuchElementException", "java/util/NoSuchElementException")) hG (by decide +kernel))) (vx_c (va_Nw.use rfl (zG0_decl (y := ⟨"java/lang/RuntimeException", "<init>", "(Ljava/lang/String;)V"⟩) hG (by decide +kernel))) (vx_c (va_Nw.use rfl (zG0_decl (y := ⟨"java/lang/Exception", "<init>", "(Ljava/lang/String;)V"⟩) hG (by decide +kernel))) (vx_c (va_Nw.use rfl (zG0_decl (y := ⟨"java/lang/Throwable", "<init>", "(Ljava/lang/String;)V"⟩) hG (by decide +kernel))) vx_n))))
section ZTH
variable {p : Program} {l : Launch} {e : Env} {R : Room} {s : State} {m : MethodId} {args : Array Value} {below : List Frame} {meth : Method} {c : Code} {kc ks mc ms : Nat}
variable {D : va_G} {dA : Nat → ClassId} {A : Nat → Prop} {O : (Nat → Nat) × zS} {cc : ByteArray} {nL : Nat} {c0 : Cond} {S : zS} {pc : Nat} {L : List (Nat × Value)} {Post : Option Value → zS → Prop} {PX : String → zS → Prop}
theorem z_thIAE (X : zX p s m args c D vwCl zKK A cc nL "LogBroker" (c0 :: zTs) (ztys dA) (zG0 D dA)) (hl0 : l.stackTraces = false) {is : Nat} {text : String} (ht : ("LogBroker", is, text) ∈ ztexts)
    (d0 : decode cc pc = .ok (.new 84, 3)) (d3 : decode cc (pc + 3) = .ok (.dup, 1)) (d4 : decode cc (pc + 4) = .ok (.ldc is, 2)) (d6 : decode cc (pc + 6) = .ok (.invokespecial 88, 3)) (d9 : decode cc (pc + 9) = .ok (.athrow, 1))
    (hex : ∀ x ∈ c.exceptionTable.toList, False) (hRf : 6 ≤ R.frames) (hRl : 82 ≤ R.locals) (hRc : kc + 1 ≤ R.cells) (hRs : ks + 6 ≤ R.slots) (hlocks : meth.locks = false) (hc : kc + 1 ≤ mc) (hs : ks + 6 ≤ ms) (hPX : PX "java/lang/IllegalArgumentException" S) :
    AW p l e R s m args below meth c D vwCl zKK dA A O nL S kc ks (vx_MQ below (zQc D vwCl zKK dA A O.1 O.2 Post) (zXC D vwCl zKK dA A O.1 O.2 PX) args s mc ms A) pc L [] := by
  obtain ⟨sa, hstr⟩ := zG0_text X.2.2.2.2.2.2.2.2 ht
  exact z_throwS X hl0 (names := ["java/lang/RuntimeException", "java/lang/Exception"]) (by decide) (by decide) (X.2.2.2.2.1 _ (w_m lB_84)) (X.2.2.2.2.1 _ (w_m i_java_lang_IllegalArgumentException)) hstr (hat_IAE X.2.2.2.2.1 X.2.2.2.2.2.2.2.2) (by decide +kernel) (zG0_U X.2.2.2.2.2.2.2.2) (zG0_N X.2.2.2.2.2.2.2.2) d0 d3 d4 d6 d9 (fun x hx => (hex x hx).elim) (by show 2 + 3 < _; omega) (by show 13 * (2 + 1) + 43 ≤ _; omega) hRc hRs hlocks hc hs hPX
theorem z_thIAEW (X : zX p s m args c D vwCl zKK A cc nL "LogBroker" (c0 :: zTs) (ztys dA) (zG0 D dA)) (hl0 : l.stackTraces = false) {is : Nat} {text : String} (ht : ("LogBroker", is, text) ∈ ztexts)
    (d0 : decode cc pc = .ok (.new 84, 3)) (d3 : decode cc (pc + 3) = .ok (.dup, 1)) (d4 : decode cc (pc + 4) = .ok (.ldc_w is, 3)) (d6 : decode cc (pc + 7) = .ok (.invokespecial 88, 3)) (d9 : decode cc (pc + 10) = .ok (.athrow, 1))
    (hex : ∀ x ∈ c.exceptionTable.toList, False) (hRf : 6 ≤ R.frames) (hRl : 82 ≤ R.locals) (hRc : kc + 1 ≤ R.cells) (hRs : ks + 6 ≤ R.slots) (hlocks : meth.locks = false) (hc : kc + 1 ≤ mc) (hs : ks + 6 ≤ ms) (hPX : PX "java/lang/IllegalArgumentException" S) :
    AW p l e R s m args below meth c D vwCl zKK dA A O nL S kc ks (vx_MQ below (zQc D vwCl zKK dA A O.1 O.2 Post) (zXC D vwCl zKK dA A O.1 O.2 PX) args s mc ms A) pc L [] := by
  obtain ⟨sa, hstr⟩ := zG0_text X.2.2.2.2.2.2.2.2 ht
  exact z_throwSW X hl0 (names := ["java/lang/RuntimeException", "java/lang/Exception"]) (by decide) (by decide) (X.2.2.2.2.1 _ (w_m lB_84)) (X.2.2.2.2.1 _ (w_m i_java_lang_IllegalArgumentException)) hstr (hat_IAE X.2.2.2.2.1 X.2.2.2.2.2.2.2.2) (by decide +kernel) (zG0_U X.2.2.2.2.2.2.2.2) (zG0_N X.2.2.2.2.2.2.2.2) d0 d3 d4 d6 d9 (fun x hx => (hex x hx).elim) (by show 2 + 3 < _; omega) (by show 13 * (2 + 1) + 43 ≤ _; omega) hRc hRs hlocks hc hs hPX
theorem z_thISE (X : zX p s m args c D vwCl zKK A cc nL "LogBroker" (c0 :: zTs) (ztys dA) (zG0 D dA)) (hl0 : l.stackTraces = false) {is : Nat} {text : String} (ht : ("LogBroker", is, text) ∈ ztexts)
    (d0 : decode cc pc = .ok (.new 49, 3)) (d3 : decode cc (pc + 3) = .ok (.dup, 1)) (d4 : decode cc (pc + 4) = .ok (.ldc is, 2)) (d6 : decode cc (pc + 6) = .ok (.invokespecial 53, 3)) (d9 : decode cc (pc + 9) = .ok (.athrow, 1))
    (hex : ∀ x ∈ c.exceptionTable.toList, False) (hRf : 6 ≤ R.frames) (hRl : 82 ≤ R.locals) (hRc : kc + 1 ≤ R.cells) (hRs : ks + 6 ≤ R.slots) (hlocks : meth.locks = false) (hc : kc + 1 ≤ mc) (hs : ks + 6 ≤ ms) (hPX : PX "java/lang/IllegalStateException" S) :
    AW p l e R s m args below meth c D vwCl zKK dA A O nL S kc ks (vx_MQ below (zQc D vwCl zKK dA A O.1 O.2 Post) (zXC D vwCl zKK dA A O.1 O.2 PX) args s mc ms A) pc L [] := by
  obtain ⟨sa, hstr⟩ := zG0_text X.2.2.2.2.2.2.2.2 ht
  exact z_throwS X hl0 (names := ["java/lang/RuntimeException", "java/lang/Exception"]) (by decide) (by decide) (X.2.2.2.2.1 _ (w_m lB_49)) (X.2.2.2.2.1 _ (w_m i_java_lang_IllegalStateException)) hstr (hat_ISE X.2.2.2.2.1 X.2.2.2.2.2.2.2.2) (by decide +kernel) (zG0_U X.2.2.2.2.2.2.2.2) (zG0_N X.2.2.2.2.2.2.2.2) d0 d3 d4 d6 d9 (fun x hx => (hex x hx).elim) (by show 2 + 3 < _; omega) (by show 13 * (2 + 1) + 43 ≤ _; omega) hRc hRs hlocks hc hs hPX
theorem z_thISEW (X : zX p s m args c D vwCl zKK A cc nL "LogBroker" (c0 :: zTs) (ztys dA) (zG0 D dA)) (hl0 : l.stackTraces = false) {is : Nat} {text : String} (ht : ("LogBroker", is, text) ∈ ztexts)
    (d0 : decode cc pc = .ok (.new 49, 3)) (d3 : decode cc (pc + 3) = .ok (.dup, 1)) (d4 : decode cc (pc + 4) = .ok (.ldc_w is, 3)) (d6 : decode cc (pc + 7) = .ok (.invokespecial 53, 3)) (d9 : decode cc (pc + 10) = .ok (.athrow, 1))
    (hex : ∀ x ∈ c.exceptionTable.toList, False) (hRf : 6 ≤ R.frames) (hRl : 82 ≤ R.locals) (hRc : kc + 1 ≤ R.cells) (hRs : ks + 6 ≤ R.slots) (hlocks : meth.locks = false) (hc : kc + 1 ≤ mc) (hs : ks + 6 ≤ ms) (hPX : PX "java/lang/IllegalStateException" S) :
    AW p l e R s m args below meth c D vwCl zKK dA A O nL S kc ks (vx_MQ below (zQc D vwCl zKK dA A O.1 O.2 Post) (zXC D vwCl zKK dA A O.1 O.2 PX) args s mc ms A) pc L [] := by
  obtain ⟨sa, hstr⟩ := zG0_text X.2.2.2.2.2.2.2.2 ht
  exact z_throwSW X hl0 (names := ["java/lang/RuntimeException", "java/lang/Exception"]) (by decide) (by decide) (X.2.2.2.2.1 _ (w_m lB_49)) (X.2.2.2.2.1 _ (w_m i_java_lang_IllegalStateException)) hstr (hat_ISE X.2.2.2.2.1 X.2.2.2.2.2.2.2.2) (by decide +kernel) (zG0_U X.2.2.2.2.2.2.2.2) (zG0_N X.2.2.2.2.2.2.2.2) d0 d3 d4 d6 d9 (fun x hx => (hex x hx).elim) (by show 2 + 3 < _; omega) (by show 13 * (2 + 1) + 43 ≤ _; omega) hRc hRs hlocks hc hs hPX
theorem z_thUOE (X : zX p s m args c D vwCl zKK A cc nL "LogBroker" (c0 :: zTs) (ztys dA) (zG0 D dA)) (hl0 : l.stackTraces = false) {is : Nat} {text : String} (ht : ("LogBroker", is, text) ∈ ztexts)
    (d0 : decode cc pc = .ok (.new 116, 3)) (d3 : decode cc (pc + 3) = .ok (.dup, 1)) (d4 : decode cc (pc + 4) = .ok (.ldc is, 2)) (d6 : decode cc (pc + 6) = .ok (.invokespecial 120, 3)) (d9 : decode cc (pc + 9) = .ok (.athrow, 1))
    (hex : ∀ x ∈ c.exceptionTable.toList, False) (hRf : 6 ≤ R.frames) (hRl : 82 ≤ R.locals) (hRc : kc + 1 ≤ R.cells) (hRs : ks + 6 ≤ R.slots) (hlocks : meth.locks = false) (hc : kc + 1 ≤ mc) (hs : ks + 6 ≤ ms) (hPX : PX "java/lang/UnsupportedOperationException" S) :
    AW p l e R s m args below meth c D vwCl zKK dA A O nL S kc ks (vx_MQ below (zQc D vwCl zKK dA A O.1 O.2 Post) (zXC D vwCl zKK dA A O.1 O.2 PX) args s mc ms A) pc L [] := by
  obtain ⟨sa, hstr⟩ := zG0_text X.2.2.2.2.2.2.2.2 ht
  exact z_throwS X hl0 (names := ["java/lang/RuntimeException", "java/lang/Exception"]) (by decide) (by decide) (X.2.2.2.2.1 _ (w_m lB_116)) (X.2.2.2.2.1 _ (w_m i_java_lang_UnsupportedOperationException)) hstr (hat_UOE X.2.2.2.2.1 X.2.2.2.2.2.2.2.2) (by decide +kernel) (zG0_U X.2.2.2.2.2.2.2.2) (zG0_N X.2.2.2.2.2.2.2.2) d0 d3 d4 d6 d9 (fun x hx => (hex x hx).elim) (by show 2 + 3 < _; omega) (by show 13 * (2 + 1) + 43 ≤ _; omega) hRc hRs hlocks hc hs hPX
theorem z_thUOEW (X : zX p s m args c D vwCl zKK A cc nL "LogBroker" (c0 :: zTs) (ztys dA) (zG0 D dA)) (hl0 : l.stackTraces = false) {is : Nat} {text : String} (ht : ("LogBroker", is, text) ∈ ztexts)
    (d0 : decode cc pc = .ok (.new 116, 3)) (d3 : decode cc (pc + 3) = .ok (.dup, 1)) (d4 : decode cc (pc + 4) = .ok (.ldc_w is, 3)) (d6 : decode cc (pc + 7) = .ok (.invokespecial 120, 3)) (d9 : decode cc (pc + 10) = .ok (.athrow, 1))
    (hex : ∀ x ∈ c.exceptionTable.toList, False) (hRf : 6 ≤ R.frames) (hRl : 82 ≤ R.locals) (hRc : kc + 1 ≤ R.cells) (hRs : ks + 6 ≤ R.slots) (hlocks : meth.locks = false) (hc : kc + 1 ≤ mc) (hs : ks + 6 ≤ ms) (hPX : PX "java/lang/UnsupportedOperationException" S) :
    AW p l e R s m args below meth c D vwCl zKK dA A O nL S kc ks (vx_MQ below (zQc D vwCl zKK dA A O.1 O.2 Post) (zXC D vwCl zKK dA A O.1 O.2 PX) args s mc ms A) pc L [] := by
  obtain ⟨sa, hstr⟩ := zG0_text X.2.2.2.2.2.2.2.2 ht
  exact z_throwSW X hl0 (names := ["java/lang/RuntimeException", "java/lang/Exception"]) (by decide) (by decide) (X.2.2.2.2.1 _ (w_m lB_116)) (X.2.2.2.2.1 _ (w_m i_java_lang_UnsupportedOperationException)) hstr (hat_UOE X.2.2.2.2.1 X.2.2.2.2.2.2.2.2) (by decide +kernel) (zG0_U X.2.2.2.2.2.2.2.2) (zG0_N X.2.2.2.2.2.2.2.2) d0 d3 d4 d6 d9 (fun x hx => (hex x hx).elim) (by show 2 + 3 < _; omega) (by show 13 * (2 + 1) + 43 ≤ _; omega) hRc hRs hlocks hc hs hPX
theorem z_thNSE (X : zX p s m args c D vwCl zKK A cc nL "LogBroker" (c0 :: zTs) (ztys dA) (zG0 D dA)) (hl0 : l.stackTraces = false) {is : Nat} {text : String} (ht : ("LogBroker", is, text) ∈ ztexts)
    (d0 : decode cc pc = .ok (.new 168, 3)) (d3 : decode cc (pc + 3) = .ok (.dup, 1)) (d4 : decode cc (pc + 4) = .ok (.ldc is, 2)) (d6 : decode cc (pc + 6) = .ok (.invokespecial 172, 3)) (d9 : decode cc (pc + 9) = .ok (.athrow, 1))
    (hex : ∀ x ∈ c.exceptionTable.toList, False) (hRf : 6 ≤ R.frames) (hRl : 82 ≤ R.locals) (hRc : kc + 1 ≤ R.cells) (hRs : ks + 6 ≤ R.slots) (hlocks : meth.locks = false) (hc : kc + 1 ≤ mc) (hs : ks + 6 ≤ ms) (hPX : PX "java/util/NoSuchElementException" S) :
    AW p l e R s m args below meth c D vwCl zKK dA A O nL S kc ks (vx_MQ below (zQc D vwCl zKK dA A O.1 O.2 Post) (zXC D vwCl zKK dA A O.1 O.2 PX) args s mc ms A) pc L [] := by
  obtain ⟨sa, hstr⟩ := zG0_text X.2.2.2.2.2.2.2.2 ht
  exact fun ad H locs ls hH hS hl ho => zn_throwS X.1 X.2.1 hl0 X.2.2.2.1 (sup := "java/lang/RuntimeException") (names := ["java/lang/Exception"]) (by decide) (by decide) (by decide) (X.2.2.2.2.1 _ (w_m lB_168)) (X.2.2.2.2.1 _ (w_m i_java_util_NoSuchElementException)) hstr (hat_NSE X.2.2.2.2.1 X.2.2.2.2.2.2.2.2) (by decide +kernel) (zG0_U X.2.2.2.2.2.2.2.2) (zG0_N X.2.2.2.2.2.2.2.2) hS (hl.1.trans X.2.2.1.symm) d0 d3 d4 d6 d9 (fun x hx => (hex x hx).elim) (by show 1 + 1 + 3 < _; omega) (by show 0 + (13 * (1 + 1 + 1) + 43) ≤ _; omega) hRc hRs hlocks (fun t ha h1 h2 => ⟨⟨ad, S, hPX, zH_kept hH h2⟩, ⟨Nat.le_trans hS.1 h1, fun q q1 q2 => (h2 q (Nat.lt_of_lt_of_le q1 hS.1)).trans (hS.2.1 q q1 q2)⟩⟩) hS.2.2 hc hs
theorem z_thNSEW (X : zX p s m args c D vwCl zKK A cc nL "LogBroker" (c0 :: zTs) (ztys dA) (zG0 D dA)) (hl0 : l.stackTraces = false) {is : Nat} {text : String} (ht : ("LogBroker", is, text) ∈ ztexts)
    (d0 : decode cc pc = .ok (.new 168, 3)) (d3 : decode cc (pc + 3) = .ok (.dup, 1)) (d4 : decode cc (pc + 4) = .ok (.ldc_w is, 3)) (d6 : decode cc (pc + 7) = .ok (.invokespecial 172, 3)) (d9 : decode cc (pc + 10) = .ok (.athrow, 1))
    (hex : ∀ x ∈ c.exceptionTable.toList, False) (hRf : 6 ≤ R.frames) (hRl : 82 ≤ R.locals) (hRc : kc + 1 ≤ R.cells) (hRs : ks + 6 ≤ R.slots) (hlocks : meth.locks = false) (hc : kc + 1 ≤ mc) (hs : ks + 6 ≤ ms) (hPX : PX "java/util/NoSuchElementException" S) :
    AW p l e R s m args below meth c D vwCl zKK dA A O nL S kc ks (vx_MQ below (zQc D vwCl zKK dA A O.1 O.2 Post) (zXC D vwCl zKK dA A O.1 O.2 PX) args s mc ms A) pc L [] := by
  obtain ⟨sa, hstr⟩ := zG0_text X.2.2.2.2.2.2.2.2 ht
  exact fun ad H locs ls hH hS hl ho => zn_throwSW X.1 X.2.1 hl0 X.2.2.2.1 (sup := "java/lang/RuntimeException") (names := ["java/lang/Exception"]) (by decide) (by decide) (by decide) (X.2.2.2.2.1 _ (w_m lB_168)) (X.2.2.2.2.1 _ (w_m i_java_util_NoSuchElementException)) hstr (hat_NSE X.2.2.2.2.1 X.2.2.2.2.2.2.2.2) (by decide +kernel) (zG0_U X.2.2.2.2.2.2.2.2) (zG0_N X.2.2.2.2.2.2.2.2) hS (hl.1.trans X.2.2.1.symm) d0 d3 d4 d6 d9 (fun x hx => (hex x hx).elim) (by show 1 + 1 + 3 < _; omega) (by show 0 + (13 * (1 + 1 + 1) + 43) ≤ _; omega) hRc hRs hlocks (fun t ha h1 h2 => ⟨⟨ad, S, hPX, zH_kept hH h2⟩, ⟨Nat.le_trans hS.1 h1, fun q q1 q2 => (h2 q (Nat.lt_of_lt_of_le q1 hS.1)).trans (hS.2.1 q q1 q2)⟩⟩) hS.2.2 hc hs
theorem z_thIOB (X : zX p s m args c D vwCl zKK A cc nL "LogBroker" (c0 :: zTs) (ztys dA) (zG0 D dA)) (hl0 : l.stackTraces = false) {is : Nat} {text : String} (ht : ("LogBroker", is, text) ∈ ztexts)
    (d0 : decode cc pc = .ok (.new 151, 3)) (d3 : decode cc (pc + 3) = .ok (.dup, 1)) (d4 : decode cc (pc + 4) = .ok (.ldc is, 2)) (d6 : decode cc (pc + 6) = .ok (.invokespecial 155, 3)) (d9 : decode cc (pc + 9) = .ok (.athrow, 1))
    (hex : ∀ x ∈ c.exceptionTable.toList, False) (hRf : 6 ≤ R.frames) (hRl : 82 ≤ R.locals) (hRc : kc + 1 ≤ R.cells) (hRs : ks + 6 ≤ R.slots) (hlocks : meth.locks = false) (hc : kc + 1 ≤ mc) (hs : ks + 6 ≤ ms) (hPX : PX "java/lang/IndexOutOfBoundsException" S) :
    AW p l e R s m args below meth c D vwCl zKK dA A O nL S kc ks (vx_MQ below (zQc D vwCl zKK dA A O.1 O.2 Post) (zXC D vwCl zKK dA A O.1 O.2 PX) args s mc ms A) pc L [] := by
  obtain ⟨sa, hstr⟩ := zG0_text X.2.2.2.2.2.2.2.2 ht
  exact z_throwS X hl0 (names := ["java/lang/RuntimeException", "java/lang/Exception"]) (by decide) (by decide) (X.2.2.2.2.1 _ (w_m lB_151)) (X.2.2.2.2.1 _ (w_m i_java_lang_IndexOutOfBoundsException)) hstr (hat_IOB X.2.2.2.2.1 X.2.2.2.2.2.2.2.2) (by decide +kernel) (zG0_U X.2.2.2.2.2.2.2.2) (zG0_N X.2.2.2.2.2.2.2.2) d0 d3 d4 d6 d9 (fun x hx => (hex x hx).elim) (by show 2 + 3 < _; omega) (by show 13 * (2 + 1) + 43 ≤ _; omega) hRc hRs hlocks hc hs hPX
theorem z_thIOBW (X : zX p s m args c D vwCl zKK A cc nL "LogBroker" (c0 :: zTs) (ztys dA) (zG0 D dA)) (hl0 : l.stackTraces = false) {is : Nat} {text : String} (ht : ("LogBroker", is, text) ∈ ztexts)
    (d0 : decode cc pc = .ok (.new 151, 3)) (d3 : decode cc (pc + 3) = .ok (.dup, 1)) (d4 : decode cc (pc + 4) = .ok (.ldc_w is, 3)) (d6 : decode cc (pc + 7) = .ok (.invokespecial 155, 3)) (d9 : decode cc (pc + 10) = .ok (.athrow, 1))
    (hex : ∀ x ∈ c.exceptionTable.toList, False) (hRf : 6 ≤ R.frames) (hRl : 82 ≤ R.locals) (hRc : kc + 1 ≤ R.cells) (hRs : ks + 6 ≤ R.slots) (hlocks : meth.locks = false) (hc : kc + 1 ≤ mc) (hs : ks + 6 ≤ ms) (hPX : PX "java/lang/IndexOutOfBoundsException" S) :
    AW p l e R s m args below meth c D vwCl zKK dA A O nL S kc ks (vx_MQ below (zQc D vwCl zKK dA A O.1 O.2 Post) (zXC D vwCl zKK dA A O.1 O.2 PX) args s mc ms A) pc L [] := by
  obtain ⟨sa, hstr⟩ := zG0_text X.2.2.2.2.2.2.2.2 ht
  exact z_throwSW X hl0 (names := ["java/lang/RuntimeException", "java/lang/Exception"]) (by decide) (by decide) (X.2.2.2.2.1 _ (w_m lB_151)) (X.2.2.2.2.1 _ (w_m i_java_lang_IndexOutOfBoundsException)) hstr (hat_IOB X.2.2.2.2.1 X.2.2.2.2.2.2.2.2) (by decide +kernel) (zG0_U X.2.2.2.2.2.2.2.2) (zG0_N X.2.2.2.2.2.2.2.2) d0 d3 d4 d6 d9 (fun x hx => (hex x hx).elim) (by show 2 + 3 < _; omega) (by show 13 * (2 + 1) + 43 ≤ _; omega) hRc hRs hlocks hc hs hPX
end ZTH
end
section
/-! the broker as a whole -/
/-- a group: its generation, the topics of its members, the owners, the positions, what is kept -/
abbrev zGr : Type := Int32 × (Nat → Int32) × (Nat → Int32) × (Nat → Nat) × (Nat → Nat)
def zGrA (S : zS) (i : Nat) (u : zGr) : Prop := S.1 (40 + i) = true ∧ S.1 (42 + i) = true ∧ S.1 (44 + i) = true ∧ S.1 (46 + i) = true ∧ S.1 (48 + i) = true ∧ S.2.1 (40 + i) 0 = u.1 ∧ S.2.2.1 (40 + i) 1 = some (42 + i) ∧ S.2.2.1 (40 + i) 2 = some (44 + i) ∧ S.2.2.1 (40 + i) 3 = some (46 + i) ∧ S.2.2.1 (40 + i) 4 = some (48 + i) ∧
  (∀ k, k < 4 → S.2.1 (42 + i) k = u.2.1 k) ∧ (∀ t, t < 12 → S.2.1 (44 + i) t = u.2.2.1 t) ∧ (∀ t, t < 12 → S.2.1 (46 + i) t = nI (u.2.2.2.1 t)) ∧ ∀ t, t < 12 → S.2.1 (48 + i) t = nI (u.2.2.2.2 t)
def zOwnH (i n : Nat) : Prop := n = 40 + i ∨ n = 42 + i ∨ n = 44 + i ∨ n = 46 + i ∨ n = 48 + i
/-- partitions, logs, sessions, current sessions, how often opened, groups, (written, repeats, markers, shortened, compacted away) -/
abbrev zBr : Type := (Nat → Nat) × (Nat → zLg) × (Nat → zSn) × (Nat → Int32) × (Nat → Int32) × (Nat → zGr) × (Int32 × Int32 × Int32 × Int32 × Int32)
/-- the partition is there -/
def zEx (b : zBr) (t : Nat) : Prop := t < 12 ∧ t % 4 < b.1 (t / 4)
theorem zEx_dec (b : zBr) (t : Nat) : zEx b t ∨ ¬ zEx b t := Classical.em _
/-- the object and its arrays -/
def zTop (S : zS) (b : zBr) : Prop := (∀ n, 1 ≤ n → n < 8 → S.1 n = true) ∧ S.2.2.1 1 0 = some 2 ∧ S.2.2.1 1 1 = some 3 ∧ S.2.2.1 1 2 = some 4 ∧ S.2.2.1 1 3 = some 5 ∧ S.2.2.1 1 4 = some 6 ∧ S.2.2.1 1 5 = some 7 ∧
  S.2.1 1 6 = b.2.2.2.2.2.2.1 ∧ S.2.1 1 7 = b.2.2.2.2.2.2.2.1 ∧ S.2.1 1 8 = b.2.2.2.2.2.2.2.2.1 ∧ S.2.1 1 9 = b.2.2.2.2.2.2.2.2.2.1 ∧ S.2.1 1 10 = b.2.2.2.2.2.2.2.2.2.2 ∧
  (∀ t, t < 3 → S.2.1 2 t = nI (b.1 t)) ∧ (∀ t, t < 12 → S.2.2.1 3 t = if t % 4 < b.1 (t / 4) then some (60 + t) else none) ∧ (∀ i, i < 6 → S.2.2.1 4 i = some (10 + i)) ∧ (∀ q, q < 4 → S.2.1 5 q = b.2.2.2.1 q) ∧ (∀ q, q < 4 → S.2.1 6 q = b.2.2.2.2.1 q) ∧ ∀ i, i < 2 → S.2.2.1 7 i = some (40 + i)
def zBrA (S : zS) (b : zBr) : Prop := zTop S b ∧ (∀ t, zEx b t → zLogA S t (b.2.1 t)) ∧ (∀ i, i < 6 → zSsA S i (b.2.2.1 i)) ∧ (∀ i, i < 2 → zGrA S i (b.2.2.2.2.2.1 i)) ∧
  (∀ t, t < 12 → ¬ zEx b t → S.1 (60 + t) = false ∧ S.1 (80 + t) = false ∧ ∀ o, o < 60 → S.1 (200 + 60 * t + o) = false) ∧ ∀ t, zEx b t → ∀ o, o < 60 → (b.2.1 t).2.1.2 ≤ o → S.1 (200 + 60 * t + o) = false
/-- a record's numbers are such as producing gives them -/
def zEW (e : zE) : Prop := (∃ k, k < 3 ∧ e.1 = nI k) ∧ (e.2.1 = -1 ∨ ∃ k, k < 8 ∧ e.2.1 = nI k) ∧ (∃ q, q < 4 ∧ e.2.2.2.1 = nI q) ∧ (∃ k, k < 3 ∧ e.2.2.2.2 = nI k) ∧ (e.2.2.2.2 = nI 2 → e.1 = nI 0)
/-- what holds of a broker's numbers -/
def zBrW (b : zBr) : Prop := (∀ t, t < 3 → b.1 t ≤ 3) ∧ (∀ t, zEx b t → zLogW (b.2.1 t)) ∧ (∀ t, zEx b t → ∀ o e, (b.2.1 t).2.2 o = some e → zEW e) ∧
  (∀ i, i < 6 → ((b.2.2.1 i).1 = -1 ∨ ∃ q, q < 4 ∧ (b.2.2.1 i).1 = nI q) ∧ ((b.2.2.1 i).2.1 = nI 0 ∨ (b.2.2.1 i).2.1 = nI 1)) ∧
  (∀ i t, i < 6 → t < 12 → (b.2.2.1 i).2.2.1 t ≤ (b.2.1 t).2.1.2 ∧ (b.2.1 t).2.1.2 ≤ 60) ∧ (∀ q, q < 4 → b.2.2.2.1 q = -1 ∨ ∃ i, i < 6 ∧ b.2.2.2.1 q = nI i) ∧
  (∀ i t, i < 2 → t < 12 → (b.2.2.2.2.2.1 i).2.2.2.1 t ≤ 60 ∧ (b.2.2.2.2.2.1 i).2.2.2.2 t ≤ 60)
end
section
/-! CONTRACTS of LogBroker: small private methods (rows by program) -/
set_option maxHeartbeats 600000 in
set_option maxRecDepth 100000 in
theorem mB_mustBeWithin (l : Launch) (D : va_G) (dA : Nat → ClassId) {S : zS} {x a b : Int32} (hl0 : l.stackTraces = false) : zMet l D vwCl zKK dA (zG0 D dA) yB_mustBeWithin (Cond.code yB_mustBeWithin cB_mustBeWithin 3 none :: zTs) { frames := 6, cells := 1, slots := 6, locals := 82 } 1 6 [.int x, .int a, .int b] S (fun v S' => v = none ∧ S' = S ∧ ¬ x < a ∧ ¬ b < x) (fun E S' => E = "java/lang/IllegalArgumentException" ∧ S' = S ∧ (x < a ∨ b < x)) := by
  refine z_met (tys := ztys dA) (by decide) rfl zG0_K rfl (Nat.le_of_ble_eq_true rfl) (fun p e s m args below meth c A ad X hr hlocks hin hex => ?_)
  refine z_iload_n (j := 0) X dB_mustBeWithin_0 rfl rfl ?_
  refine z_iload_n (j := 1) X dB_mustBeWithin_1 rfl rfl ?_
  refine z_icmp_lt (tgt := 10) X dB_mustBeWithin_2 (by decide) (fun c_2 => ?_) (fun c_2 => ?_)
  · exact z_thIAE (text := "a number is out of range") X hl0 (by decide +kernel) dB_mustBeWithin_10 dB_mustBeWithin_13 dB_mustBeWithin_14 dB_mustBeWithin_16 dB_mustBeWithin_19 hex (Nat.le_of_ble_eq_true rfl) (Nat.le_of_ble_eq_true rfl) (Nat.le_of_ble_eq_true rfl) (Nat.le_of_ble_eq_true rfl) hlocks (by omega) (by omega) ⟨rfl, rfl, by first | exact Or.inl c_2 | exact Or.inr (Int32.not_le.mp c_7)⟩
  · refine z_iload_n (j := 0) X dB_mustBeWithin_5 rfl rfl ?_
    refine z_iload_n (j := 2) X dB_mustBeWithin_6 rfl rfl ?_
    refine z_icmp_le (tgt := 20) X dB_mustBeWithin_7 (by decide) (fun c_7 => ?_) (fun c_7 => ?_)
    · refine z_vret X hlocks hr dB_mustBeWithin_20 (by omega) (by omega) ?_
      exact ⟨rfl, rfl, c_2, Int32.not_lt.mpr c_7⟩
    · exact z_thIAE (text := "a number is out of range") X hl0 (by decide +kernel) dB_mustBeWithin_10 dB_mustBeWithin_13 dB_mustBeWithin_14 dB_mustBeWithin_16 dB_mustBeWithin_19 hex (Nat.le_of_ble_eq_true rfl) (Nat.le_of_ble_eq_true rfl) (Nat.le_of_ble_eq_true rfl) (Nat.le_of_ble_eq_true rfl) hlocks (by omega) (by omega) ⟨rfl, rfl, by first | exact Or.inl c_2 | exact Or.inr (Int32.not_le.mp c_7)⟩

set_option maxHeartbeats 600000 in
set_option maxRecDepth 100000 in
theorem mB_found (l : Launch) (D : va_G) (dA : Nat → ClassId) {S : zS} {x : Int32} (hl0 : l.stackTraces = false) : zMet l D vwCl zKK dA (zG0 D dA) yB_found (Cond.code yB_found cB_found 1 (some .int) :: zTs) { frames := 6, cells := 1, slots := 6, locals := 82 } 1 6 [.int x] S (fun v S' => v = some (.int x) ∧ S' = S ∧ ¬ x = -1) (fun E S' => E = "java/util/NoSuchElementException" ∧ S' = S ∧ x = -1) := by
  refine z_met (tys := ztys dA) (by decide) rfl zG0_K rfl (Nat.le_of_ble_eq_true rfl) (fun p e s m args below meth c A ad X hr hlocks hin hex => ?_)
  refine z_iload_n (j := 0) X dB_found_0 rfl rfl ?_
  refine z_iconst (v := (-1)) X dB_found_1 (by decide) ?_
  refine z_icmp_ne (tgt := 16) X dB_found_2 (by decide) (fun c_2 => ?_) (fun c_2 => ?_)
  · refine z_iload_n (j := 0) X dB_found_16 rfl rfl ?_
    refine z_iret X hlocks hr dB_found_17 (by omega) (by omega) ?_
    exact ⟨rfl, rfl, c_2⟩
  · exact z_thNSEW (text := "there is none") X hl0 (by decide +kernel) dB_found_5 dB_found_8 dB_found_9 dB_found_12 dB_found_15 hex (Nat.le_of_ble_eq_true rfl) (Nat.le_of_ble_eq_true rfl) (Nat.le_of_ble_eq_true rfl) (Nat.le_of_ble_eq_true rfl) hlocks (by omega) (by omega) ⟨rfl, rfl, c_2⟩

set_option maxHeartbeats 600000 in
set_option maxRecDepth 100000 in
theorem mB_logAt (l : Launch) (D : va_G) (dA : Nat → ClassId) {S : zS} {b : zBr} {x : Int32} (hl0 : l.stackTraces = false) (hT : zTop S b) : zMet l D vwCl zKK dA (zG0 D dA) yB_logAt (Cond.code yB_logAt cB_logAt 2 (some (.object "LogBroker$Log")) :: zTs) { frames := 6, cells := 1, slots := 6, locals := 82 } 1 6 [.ref 1, .int x] S (fun v S' => S' = S ∧ ∃ t, zEx b t ∧ x = nI t ∧ v = some (.ref (60 + t))) (fun E S' => E = "java/lang/IllegalArgumentException" ∧ S' = S ∧ ¬ ∃ t, zEx b t ∧ x = nI t) := by
  refine z_met (tys := ztys dA) (by decide) rfl zG0_K rfl (Nat.le_of_ble_eq_true rfl) (fun p e s m args below meth c A ad X hr hlocks hin hex => ?_)
  obtain ⟨hn, t0, t1, t2, t3, t4, t5, q6, q7, q8, q9, q10, hpt, hlg, hse, hcu, hop, hgr⟩ := id hT
  refine z_iload_n (j := 1) X dB_logAt_0 rfl rfl ?_
  refine z_if_lt (tgt := 19) X dB_logAt_1 (by decide) (fun c_1 => ?_) (fun c_1 => ?_)
  · exact z_thIAE (text := "the partition is not there") X hl0 (by decide +kernel) dB_logAt_19 dB_logAt_22 dB_logAt_23 dB_logAt_25 dB_logAt_28 hex (Nat.le_of_ble_eq_true rfl) (Nat.le_of_ble_eq_true rfl) (Nat.le_of_ble_eq_true rfl) (Nat.le_of_ble_eq_true rfl) hlocks (by omega) (by omega) ⟨rfl, rfl, fun h => by
      obtain ⟨t2, h2, h3⟩ := h
      have h4 := h2.1
      subst h3
      first | exact absurd c_1 (nI_pos (by omega)) | exact absurd c_7 (nI_ge (by omega) (by decide))⟩
  · refine z_iload_n (j := 1) X dB_logAt_4 rfl rfl ?_
    refine z_bipush (v := (nI 12)) X dB_logAt_5 (by decide) ?_
    refine z_icmp_ge (tgt := 19) X dB_logAt_7 (by decide) (fun c_7 => ?_) (fun c_7 => ?_)
    · exact z_thIAE (text := "the partition is not there") X hl0 (by decide +kernel) dB_logAt_19 dB_logAt_22 dB_logAt_23 dB_logAt_25 dB_logAt_28 hex (Nat.le_of_ble_eq_true rfl) (Nat.le_of_ble_eq_true rfl) (Nat.le_of_ble_eq_true rfl) (Nat.le_of_ble_eq_true rfl) hlocks (by omega) (by omega) ⟨rfl, rfl, fun h => by
        obtain ⟨t2, h2, h3⟩ := h
        have h4 := h2.1
        subst h3
        first | exact absurd c_1 (nI_pos (by omega)) | exact absurd c_7 (nI_ge (by omega) (by decide))⟩
    · obtain ⟨t, ht, rfl⟩ : ∃ t : Nat, t < 12 ∧ x = nI t := by
        rcases pk_ix x (n := 12) (by decide) with h | h | h
        · exact absurd h c_1
        · exact absurd h c_7
        · exact h
      refine z_aload_n (j := 0) X dB_logAt_10 rfl rfl ?_
      refine z_getr (C := RB) (T := TB) (N := 11) (k := 1) X (w_in inB) rfl rfl rfl (by decide) (w_m lB_15) rfl rfl t1 dB_logAt_11 ?_
      refine z_iload_n (j := 1) X dB_logAt_14 rfl rfl ?_
      by_cases hc : t % 4 < b.1 (t / 4)
      · refine z_aald (t0 := 3) X rfl (by decide) (by decide) (by decide) rfl ht (by decide) (by rw [hlg t ht, if_pos hc]) dB_logAt_15 ?_
        refine z_ifnonnull (tgt := 29) X dB_logAt_16 (by decide) ?_
        refine z_aload_n (j := 0) X dB_logAt_29 rfl rfl ?_
        refine z_getr (C := RB) (T := TB) (N := 11) (k := 1) X (w_in inB) rfl rfl rfl (by decide) (w_m lB_15) rfl rfl t1 dB_logAt_30 ?_
        refine z_iload_n (j := 1) X dB_logAt_33 rfl rfl ?_
        refine z_aald (t0 := 3) X rfl (by decide) (by decide) (by decide) rfl ht (by decide) (by rw [hlg t ht, if_pos hc]) dB_logAt_34 ?_
        refine z_aret X hlocks hr (Or.inl ⟨_, rfl⟩) dB_logAt_35 (by omega) (by omega) ?_
        exact ⟨rfl, t, ⟨ht, hc⟩, rfl, rfl⟩
      · refine z_aaldN (t0 := 3) X rfl (by decide) (by decide) (by decide) rfl ht (by decide) (by rw [hlg t ht, if_neg hc]) dB_logAt_15 ?_
        refine z_ifnonnullN X dB_logAt_16 ?_
        exact z_thIAE (text := "the partition is not there") X hl0 (by decide +kernel) dB_logAt_19 dB_logAt_22 dB_logAt_23 dB_logAt_25 dB_logAt_28 hex (Nat.le_of_ble_eq_true rfl) (Nat.le_of_ble_eq_true rfl) (Nat.le_of_ble_eq_true rfl) (Nat.le_of_ble_eq_true rfl) hlocks (by omega) (by omega) ⟨rfl, rfl, fun h => by
          obtain ⟨t2, h2, h3⟩ := h
          have e2 := (nI_eq (by omega) (by have := h2.1; omega)).mp h3
          subst e2
          exact hc h2.2⟩

set_option maxHeartbeats 600000 in
set_option maxRecDepth 100000 in
theorem mB_openedSession (l : Launch) (D : va_G) (dA : Nat → ClassId) {S : zS} {b : zBr} {i : Nat} (hl0 : l.stackTraces = false) (hT : zTop S b) (hi : i < 6) (hSs : zSsA S i (b.2.2.1 i)) : zMet l D vwCl zKK dA (zG0 D dA) yB_openedSession (Cond.code yB_openedSession cB_openedSession 2 (some (.object "LogBroker$Session")) :: zTs) { frames := 6, cells := 1, slots := 6, locals := 82 } 1 6 [.ref 1, .int (nI i)] S (fun v S' => S' = S ∧ v = some (.ref (10 + i)) ∧ ¬ (b.2.2.1 i).1 = -1) (fun E S' => E = "java/util/NoSuchElementException" ∧ S' = S ∧ (b.2.2.1 i).1 = -1) := by
  refine z_met (tys := ztys dA) (by decide) rfl zG0_K rfl (Nat.le_of_ble_eq_true rfl) (fun p e s m args below meth c A ad X hr hlocks hin hex => ?_)
  obtain ⟨hn, t0, t1, t2, t3, t4, t5, q6, q7, q8, q9, q10, hpt, hlg, hse, hcu, hop, hgr⟩ := id hT
  obtain ⟨hd1, hd2, hd3, f0, f1, f2, f3, hex0, hof0⟩ := id hSs
  refine z_aload_n (j := 0) X dB_openedSession_0 rfl rfl ?_
  refine z_getr (C := RB) (T := TB) (N := 11) (k := 2) X (w_in inB) rfl rfl rfl (by decide) (w_m lB_21) rfl rfl t2 dB_openedSession_1 ?_
  refine z_iload_n (j := 1) X dB_openedSession_4 rfl rfl ?_
  refine z_aald (t0 := 4) X rfl (by decide) (by decide) (by decide) rfl hi (by decide) (hse i hi) dB_openedSession_5 ?_
  refine z_geti (C := RS) (T := TS) (N := 4) (k := 0) X (w_in inS) rfl rfl (kd_S hi) (by decide) (w_m lB_63) rfl rfl dB_openedSession_6 (hv := f0) ?_
  refine z_iconst (v := (-1)) X dB_openedSession_9 (by decide) ?_
  refine z_icmp_ne (tgt := 23) X dB_openedSession_10 (by decide) (fun c_10 => ?_) (fun c_10 => ?_)
  · refine z_aload_n (j := 0) X dB_openedSession_23 rfl rfl ?_
    refine z_getr (C := RB) (T := TB) (N := 11) (k := 2) X (w_in inB) rfl rfl rfl (by decide) (w_m lB_21) rfl rfl t2 dB_openedSession_24 ?_
    refine z_iload_n (j := 1) X dB_openedSession_27 rfl rfl ?_
    refine z_aald (t0 := 4) X rfl (by decide) (by decide) (by decide) rfl hi (by decide) (hse i hi) dB_openedSession_28 ?_
    refine z_aret X hlocks hr (Or.inl ⟨_, rfl⟩) dB_openedSession_29 (by omega) (by omega) ?_
    exact ⟨rfl, rfl, c_10⟩
  · exact z_thNSE (text := "no such session") X hl0 (by decide +kernel) dB_openedSession_13 dB_openedSession_16 dB_openedSession_17 dB_openedSession_19 dB_openedSession_22 hex (Nat.le_of_ble_eq_true rfl) (Nat.le_of_ble_eq_true rfl) (Nat.le_of_ble_eq_true rfl) (Nat.le_of_ble_eq_true rfl) hlocks (by omega) (by omega) ⟨rfl, rfl, c_10⟩

set_option maxHeartbeats 600000 in
set_option maxRecDepth 100000 in
theorem mB_isCurrent (l : Launch) (D : va_G) (dA : Nat → ClassId) {S : zS} {b : zBr} {i : Nat} (hT : zTop S b) (hi : i < 6) (hSs : zSsA S i (b.2.2.1 i)) (hpr : (b.2.2.1 i).1 = -1 ∨ ∃ q, q < 4 ∧ (b.2.2.1 i).1 = nI q) : zMet l D vwCl zKK dA (zG0 D dA) yB_isCurrent (Cond.code yB_isCurrent cB_isCurrent 3 (some .boolean) :: zTs) { frames := 0, cells := 0, slots := 0, locals := 0 } 0 0 [.ref 1, .int (nI i)] S (fun v S' => S' = S ∧ ((v = some (.int (nI 1)) ∧ ∃ q, q < 4 ∧ (b.2.2.1 i).1 = nI q ∧ b.2.2.2.1 q = nI i) ∨ (v = some (.int (nI 0)) ∧ ¬ ∃ q, q < 4 ∧ (b.2.2.1 i).1 = nI q ∧ b.2.2.2.1 q = nI i))) (fun _ _ => False) := by
  refine z_met (tys := ztys dA) (by decide) rfl zG0_K rfl (Nat.le_of_ble_eq_true rfl) (fun p e s m args below meth c A ad X hr hlocks hin hex => ?_)
  obtain ⟨hn, t0, t1, t2, t3, t4, t5, q6, q7, q8, q9, q10, hpt, hlg, hse, hcu, hop, hgr⟩ := id hT
  obtain ⟨hd1, hd2, hd3, f0, f1, f2, f3, hex0, hof0⟩ := id hSs
  refine z_aload_n (j := 0) X dB_isCurrent_0 rfl rfl ?_
  refine z_getr (C := RB) (T := TB) (N := 11) (k := 2) X (w_in inB) rfl rfl rfl (by decide) (w_m lB_21) rfl rfl t2 dB_isCurrent_1 ?_
  refine z_iload_n (j := 1) X dB_isCurrent_4 rfl rfl ?_
  refine z_aald (t0 := 4) X rfl (by decide) (by decide) (by decide) rfl hi (by decide) (hse i hi) dB_isCurrent_5 ?_
  refine z_geti (C := RS) (T := TS) (N := 4) (k := 0) X (w_in inS) rfl rfl (kd_S hi) (by decide) (w_m lB_63) rfl rfl dB_isCurrent_6 (hv := f0) ?_
  refine z_istore_n (L' := [(2, .int ((b.2.2.1 i).1)), (0, .ref 1), (1, .int (nI i))]) X dB_isCurrent_9 rfl (by decide) rfl ?_
  refine z_iload_n (j := 0) X dB_isCurrent_10 rfl rfl ?_
  refine z_iconst (v := (-1)) X dB_isCurrent_11 (by decide) ?_
  refine z_icmp_eq (tgt := 29) X dB_isCurrent_12 (by decide) (fun c_12 => ?_) (fun c_12 => ?_)
  · refine z_iconst (v := (nI 0)) X dB_isCurrent_29 (by decide) ?_
    refine z_zret X hlocks hr dB_isCurrent_30 (by first | rfl | decide) (by omega) (by omega) ?_
    exact ⟨rfl, Or.inr ⟨rfl, fun h => by
      obtain ⟨q2, h1, h2, h3⟩ := h
      first | exact absurd (c_12.symm.trans h2).symm (by intro e9; exact absurd (show nI q2 < 0 by rw [e9]; decide) (nI_pos (by omega))) | (have e2 := (nI_eq (by omega) (by omega)).mp h2; subst e2; exact c_22 h3)⟩⟩
  · refine z_aload_n (j := 1) X dB_isCurrent_15 rfl rfl ?_
    refine z_getr (C := RB) (T := TB) (N := 11) (k := 3) X (w_in inB) rfl rfl rfl (by decide) (w_m lB_25) rfl rfl t3 dB_isCurrent_16 ?_
    refine z_iload_n (j := 0) X dB_isCurrent_19 rfl rfl ?_
    obtain ⟨q, hq, hq2⟩ : ∃ q, q < 4 ∧ (b.2.2.1 i).1 = nI q := hpr.resolve_left c_12
    rw [hq2]
    refine z_iald (t0 := 0) X rfl rfl hq (by decide) dB_isCurrent_20 (hv := hcu q hq) ?_
    refine z_iload_n (j := 2) X dB_isCurrent_21 rfl rfl ?_
    refine z_icmp_ne (tgt := 29) X dB_isCurrent_22 (by decide) (fun c_22 => ?_) (fun c_22 => ?_)
    · refine z_iconst (v := (nI 0)) X dB_isCurrent_29 (by decide) ?_
      refine z_zret X hlocks hr dB_isCurrent_30 (by first | rfl | decide) (by omega) (by omega) ?_
      exact ⟨rfl, Or.inr ⟨rfl, fun h => by
        obtain ⟨q2, h1, h2, h3⟩ := h
        first | exact absurd (c_12.symm.trans h2).symm (by intro e9; exact absurd (show nI q2 < 0 by rw [e9]; decide) (nI_pos (by omega))) | (have e2 := (nI_eq (by omega) (by omega)).mp h2; subst e2; exact c_22 h3)⟩⟩
    · refine z_iconst (v := (nI 1)) X dB_isCurrent_25 (by decide) ?_
      refine z_goto (tgt := 30) X dB_isCurrent_26 (by decide) ?_
      refine z_zret X hlocks hr dB_isCurrent_30 (by first | rfl | decide) (by omega) (by omega) ?_
      exact ⟨rfl, Or.inl ⟨rfl, q, hq, rfl, c_22⟩⟩

set_option maxHeartbeats 600000 in
set_option maxRecDepth 100000 in
theorem mB_mustBeCurrent (l : Launch) (D : va_G) (dA : Nat → ClassId) {S : zS} {b : zBr} {i : Nat} (hl0 : l.stackTraces = false) (hT : zTop S b) (hi : i < 6) (hSs : zSsA S i (b.2.2.1 i)) (hpr : (b.2.2.1 i).1 = -1 ∨ ∃ q, q < 4 ∧ (b.2.2.1 i).1 = nI q) : zMet l D vwCl zKK dA (zG0 D dA) yB_mustBeCurrent (Cond.code yB_mustBeCurrent cB_mustBeCurrent 2 none :: zTs) { frames := 6, cells := 1, slots := 6, locals := 82 } 1 6 [.ref 1, .int (nI i)] S (fun v S' => S' = S ∧ v = none ∧ ∃ q, q < 4 ∧ (b.2.2.1 i).1 = nI q ∧ b.2.2.2.1 q = nI i) (fun E S' => E = "java/lang/UnsupportedOperationException" ∧ S' = S ∧ ¬ ∃ q, q < 4 ∧ (b.2.2.1 i).1 = nI q ∧ b.2.2.2.1 q = nI i) := by
  refine z_met (tys := ztys dA) (by decide) rfl zG0_K rfl (Nat.le_of_ble_eq_true rfl) (fun p e s m args below meth c A ad X hr hlocks hin hex => ?_)
  obtain ⟨hn, t0, t1, t2, t3, t4, t5, q6, q7, q8, q9, q10, hpt, hlg, hse, hcu, hop, hgr⟩ := id hT
  refine z_aload_n (j := 0) X dB_mustBeCurrent_0 rfl rfl ?_
  refine z_iload_n (j := 1) X dB_mustBeCurrent_1 rfl rfl ?_
  refine z_callV (n := 1) (As := [.int (nI i)]) (rest := []) X zG0_m (mB_isCurrent l D dA hT hi hSs hpr) (w_V X.2.2.2.2.1 lB_73 jB_isCurrent sB_isCurrent i_LogBroker kB_isCurrent rfl rfl (by decide +kernel) ⟨Nat.le_of_ble_eq_true rfl, Nat.le_of_ble_eq_true rfl⟩) rfl rfl rfl rfl rfl (Nat.le_of_ble_eq_true rfl) dB_mustBeCurrent_2 ⟨Nat.le_of_ble_eq_true rfl, Nat.le_of_ble_eq_true rfl⟩ (fun v S1 hp => ?_) (fun E S1 hx => hx.elim)
  obtain ⟨hS1, hp⟩ := hp
  have hS1 := hS1.symm
  subst hS1
  rcases hp with ⟨hv, hc⟩ | ⟨hv, hc⟩ <;> subst hv
  · refine z_if_ne (tgt := 19) X dB_mustBeCurrent_5 (by decide) (fun c_5 => ?_) (fun c_5 => absurd c_5 (by decide))
    refine z_vret X hlocks hr dB_mustBeCurrent_19 (by omega) (by omega) ?_
    exact ⟨rfl, rfl, hc⟩
  · refine z_if_ne (tgt := 19) X dB_mustBeCurrent_5 (by decide) (fun c_5 => absurd c_5 (by decide)) (fun c_5 => ?_)
    exact z_thUOEW (text := "the session is fenced") X hl0 (by decide +kernel) dB_mustBeCurrent_8 dB_mustBeCurrent_11 dB_mustBeCurrent_12 dB_mustBeCurrent_15 dB_mustBeCurrent_18 hex (Nat.le_of_ble_eq_true rfl) (Nat.le_of_ble_eq_true rfl) (Nat.le_of_ble_eq_true rfl) (Nat.le_of_ble_eq_true rfl) hlocks (by omega) (by omega) ⟨rfl, rfl, hc⟩

set_option maxHeartbeats 600000 in
set_option maxRecDepth 100000 in
theorem mB_mustOwn (l : Launch) (D : va_G) (dA : Nat → ClassId) {S : zS} {i t k : Nat} {u : zGr} {gn : Int32} (hl0 : l.stackTraces = false) (hg : i < 2) (hGr : zGrA S i u) (ht : t < 12) (hk : k < 4) : zMet l D vwCl zKK dA (zG0 D dA) yB_mustOwn (Cond.code yB_mustOwn cB_mustOwn 4 none :: zTs) { frames := 6, cells := 1, slots := 6, locals := 82 } 1 6 [.ref (40 + i), .int (nI k), .int gn, .int (nI t)] S (fun v S' => S' = S ∧ v = none ∧ gn = u.1 ∧ u.2.2.1 t = nI k) (fun E S' => E = "java/lang/IllegalStateException" ∧ S' = S ∧ ¬ (gn = u.1 ∧ u.2.2.1 t = nI k)) := by
  refine z_met (tys := ztys dA) (by decide) rfl zG0_K rfl (Nat.le_of_ble_eq_true rfl) (fun p e s m args below meth c A ad X hr hlocks hin hex => ?_)
  obtain ⟨hd1, hd2, hd3, hd4, hd5, f0, f1, f2, f3, f4, htp, how, hps, hkp⟩ := id hGr
  refine z_iload_n (j := 2) X dB_mustOwn_0 rfl rfl ?_
  refine z_aload_n (j := 0) X dB_mustOwn_1 rfl rfl ?_
  refine z_geti (C := RH) (T := TH) (N := 5) (k := 0) X (w_in inH) rfl rfl (kd_H hg) (by decide) (w_m lB_248) rfl rfl dB_mustOwn_2 (hv := f0) ?_
  refine z_icmp_ne (tgt := 18) X dB_mustOwn_5 (by decide) (fun c_5 => ?_) (fun c_5 => ?_)
  · exact z_thISEW (text := "another generation, or not the member\'s partition") X hl0 (by decide +kernel) dB_mustOwn_18 dB_mustOwn_21 dB_mustOwn_22 dB_mustOwn_25 dB_mustOwn_28 hex (Nat.le_of_ble_eq_true rfl) (Nat.le_of_ble_eq_true rfl) (Nat.le_of_ble_eq_true rfl) (Nat.le_of_ble_eq_true rfl) hlocks (by omega) (by omega) ⟨rfl, rfl, fun h => by first | exact c_5 h.1 | exact c_15 h.2⟩
  · refine z_aload_n (j := 0) X dB_mustOwn_8 rfl rfl ?_
    refine z_getr (C := RH) (T := TH) (N := 5) (k := 2) X (w_in inH) rfl rfl (kd_H hg) (by decide) (w_m lB_209) rfl rfl f2 dB_mustOwn_9 ?_
    refine z_iload_n (j := 3) X dB_mustOwn_12 rfl rfl ?_
    refine z_iald (t0 := 0) X (kd_HO hg) rfl ht (by decide) dB_mustOwn_13 (hv := (how t ht)) ?_
    refine z_iload_n (j := 1) X dB_mustOwn_14 rfl rfl ?_
    refine z_icmp_eq (tgt := 29) X dB_mustOwn_15 (by decide) (fun c_15 => ?_) (fun c_15 => ?_)
    · refine z_vret X hlocks hr dB_mustOwn_29 (by omega) (by omega) ?_
      exact ⟨rfl, rfl, c_5, c_15⟩
    · exact z_thISEW (text := "another generation, or not the member\'s partition") X hl0 (by decide +kernel) dB_mustOwn_18 dB_mustOwn_21 dB_mustOwn_22 dB_mustOwn_25 dB_mustOwn_28 hex (Nat.le_of_ble_eq_true rfl) (Nat.le_of_ble_eq_true rfl) (Nat.le_of_ble_eq_true rfl) (Nat.le_of_ble_eq_true rfl) hlocks (by omega) (by omega) ⟨rfl, rfl, fun h => by first | exact c_5 h.1 | exact c_15 h.2⟩
end
section
/-! compacting -/
def zBit (r : zE) : Int32 := if r.2.2.2.2 = nI 0 ∧ ¬ r.2.1 = -1 then nI 1 <<< (r.2.1 &&& 31) else nI 0
def zCK (k : Int32) (r : Option zE) : Bool := match r with
  | some e => decide (e.1 = nI 0) && (decide (e.2.2.2.2 = nI 0) && decide (e.2.1 = k))
  | none => false
/-- a committed record with this key comes later, below stb -/
def zNew (g : zLg) (stb o : Nat) (k : Int32) : Bool := (zfind (fun j => zCK k (g.2.2 j)) (stb - (o + 1)) (o + 1)).isSome
def zGoes (g : zLg) (stb o : Nat) : Bool := match g.2.2 o with
  | some e => decide (e.1 = nI 0) && (decide (e.2.2.2.2 = nI 1) || (decide (¬ e.2.1 = -1) && zNew g stb o e.2.1))
  | none => false
def zComp (g : zLg) : zLg := (g.1, g.2.1, fun o => if o < zStab g ∧ o < zBa g ∧ zGoes g (zStab g) o = true then none else g.2.2 o)
def zPd (o : Nat) : Int32 := nI o - nI 1
theorem zPd_s (q : Nat) : zPd (q + 1) = nI q := by
  unfold zPd
  rw [pk_sub (by omega)]
  rfl
theorem zPd_lt {o st : Nat} (h : o ≤ st) (hs : st < 2 ^ 30) : zPd o < nI st := by
  unfold zPd
  rw [Int32.lt_iff_toInt_lt, pk_sub_toInt (by omega) (by decide), nI_toInt (by omega)]
  omega
theorem zPd_inc (q : Nat) : nI q + Int32.ofInt (-1) = zPd q := by
  unfold zPd
  rw [Int32.sub_eq_add_neg]
  rfl
theorem zBits : ∀ M, M < 256 → ∀ k, k < 8 → ((nI M &&& (nI 1 <<< (nI k &&& 31))) = nI 0 ↔ M.testBit k = false) ∧ (nI M ||| (nI 1 <<< (nI k &&& 31))) = nI (M ||| 2 ^ k) ∧ M ||| 2 ^ k < 256 := by decide +kernel
theorem zBit0 : ∀ M, M < 256 → (nI M &&& nI 0) = nI 0 ∧ (nI M ||| nI 0) = nI M := by decide +kernel
theorem zkey_ne {k : Nat} (h : k < 8) : ¬ nI k = -1 := fun e => absurd (show nI k < 0 by rw [e]; decide) (nI_pos (by omega))
theorem zNew_iff {g : zLg} {stb o : Nat} {k : Int32} : zNew g stb o k = true ↔ ∃ j, o < j ∧ j < stb ∧ zCK k (g.2.2 j) = true := by
  unfold zNew
  constructor
  · intro h
    obtain ⟨x, hx⟩ := Option.isSome_iff_exists.mp h
    obtain ⟨a, b, c, -⟩ := zfind_spec hx
    exact ⟨x, by omega, by omega, c⟩
  · rintro ⟨j, h1, h2, h3⟩
    cases hf : zfind (fun j => zCK k (g.2.2 j)) (stb - (o + 1)) (o + 1) with
    | some x => rfl
    | none =>
      have h4 := zfind_nspec hf j (by omega) (by omega)
      rw [h3] at h4
      cases h4
/-- below the stable offset nothing is undecided -/
theorem zStab_und {g : zLg} {o : Nat} {e : zE} (h1 : g.2.1.1 ≤ o) (h2 : o < zStab g) (he : g.2.2 o = some e) : ¬ e.2.2.2.2 = nI 2 := by
  intro h3
  have hu : zUnd (g.2.2 o) = true := by rw [he]; exact decide_eq_true h3
  unfold zStab at h2
  cases hf : zfind (fun o => zUnd (g.2.2 o)) (g.2.1.2 - g.2.1.1) g.2.1.1 with
  | some x =>
    rw [hf] at h2
    have h4 := (zfind_spec hf).2.2.2 o h1 h2
    rw [hu] at h4; cases h4
  | none =>
    rw [hf] at h2
    have h5 : o < g.2.1.2 := h2
    have h4 := zfind_nspec hf o h1 (by omega)
    rw [hu] at h4; cases h4
theorem zMinN {a b : Nat} (ha : a < 2 ^ 31) (hb : b < 2 ^ 31) : (if nI b < nI a then nI b else nI a) = nI (min a b) := by
  by_cases h : b < a
  · rw [if_pos ((nI_ltI hb ha).mpr h), Nat.min_eq_right (by omega)]
  · rw [if_neg (fun q => h ((nI_ltI hb ha).mp q)), Nat.min_eq_left (by omega)]
theorem zCK_iff {k : Int32} {r : zE} : zCK k (some r) = true ↔ r.1 = nI 0 ∧ r.2.2.2.2 = nI 0 ∧ r.2.1 = k := by
  show (decide _ && (decide _ && decide _)) = true ↔ _
  rw [Bool.and_eq_true, Bool.and_eq_true, decide_eq_true_iff, decide_eq_true_iff, decide_eq_true_iff]
/-- the keys seen, with this record's -/
theorem zSeen {M : Nat} {r : zE} (hM : M < 256) (hk0 : r.1 = nI 0) (hy : r.2.1 = -1 ∨ ∃ k, k < 8 ∧ r.2.1 = nI k) : ∃ M2, (nI M ||| zBit r) = nI M2 ∧ M2 < 256 ∧ ∀ k, k < 8 → (M2.testBit k = true ↔ (M.testBit k = true ∨ zCK (nI k) (some r) = true)) := by
  by_cases hb : r.2.2.2.2 = nI 0 ∧ ¬ r.2.1 = -1
  · obtain ⟨k0, hk, hr⟩ := hy.resolve_left hb.2
    obtain ⟨b1, b2, b3⟩ := zBits M hM k0 hk
    refine ⟨M ||| 2 ^ k0, ?_, b3, fun k h9 => ?_⟩
    · unfold zBit; rw [if_pos hb, hr]; exact b2
    · rw [Nat.testBit_or, Nat.testBit_two_pow, Bool.or_eq_true, decide_eq_true_iff, zCK_iff]
      constructor
      · rintro (h | h)
        · exact Or.inl h
        · subst h; exact Or.inr ⟨hk0, hb.1, hr⟩
      · rintro (h | ⟨-, -, h⟩)
        · exact Or.inl h
        · exact Or.inr ((nI_eq (by omega) (by omega)).mp (hr.symm.trans h))
  · refine ⟨M, ?_, hM, fun k h9 => ?_⟩
    · unfold zBit; rw [if_neg hb]; exact (zBit0 M hM).2
    · constructor
      · exact Or.inl
      · rintro (h | h)
        · exact h
        · obtain ⟨-, h2, h3⟩ := zCK_iff.mp h
          exact absurd ⟨h2, by rw [h3]; exact zkey_ne h9⟩ hb
theorem zSeenI {M M2 q : Nat} {g : zLg} {r : zE} (hM : M < 256 ∧ ∀ k, k < 8 → (M.testBit k = true ↔ ∃ j, q + 1 ≤ j ∧ j < zStab g ∧ zCK (nI k) (g.2.2 j) = true)) (h2 : M2 < 256 ∧ ∀ k, k < 8 → (M2.testBit k = true ↔ (M.testBit k = true ∨ zCK (nI k) (some r) = true))) (he : g.2.2 q = some r) (hq : q < zStab g) : M2 < 256 ∧ ∀ k, k < 8 → (M2.testBit k = true ↔ ∃ j, q ≤ j ∧ j < zStab g ∧ zCK (nI k) (g.2.2 j) = true) := by
  refine ⟨h2.1, fun k hk => ?_⟩
  rw [h2.2 k hk, hM.2 k hk]
  constructor
  · rintro (⟨j, a, b, c⟩ | h)
    · exact ⟨j, by omega, b, c⟩
    · exact ⟨q, Nat.le_refl _, hq, by rw [he]; exact h⟩
  · rintro ⟨j, a, b, c⟩
    by_cases e : j = q
    · subst e; rw [he] at c; exact Or.inr c
    · exact Or.inl ⟨j, by omega, b, c⟩
theorem zSeenN {M q : Nat} {g : zLg} {x : Option zE} (hM : M < 256 ∧ ∀ k, k < 8 → (M.testBit k = true ↔ ∃ j, q + 1 ≤ j ∧ j < zStab g ∧ zCK (nI k) (g.2.2 j) = true)) (he : g.2.2 q = x) (hn : ∀ k, zCK (nI k) x = false) : M < 256 ∧ ∀ k, k < 8 → (M.testBit k = true ↔ ∃ j, q ≤ j ∧ j < zStab g ∧ zCK (nI k) (g.2.2 j) = true) := by
  refine ⟨hM.1, fun k hk => ?_⟩
  rw [hM.2 k hk]
  constructor
  · rintro ⟨j, a, b, c⟩
    exact ⟨j, by omega, b, c⟩
  · rintro ⟨j, a, b, c⟩
    by_cases e : j = q
    · subst e; rw [he, hn k] at c; cases c
    · exact ⟨j, by omega, b, c⟩
theorem zGo1 {g : zLg} {stb q : Nat} {r : zE} (he : g.2.2 q = some r) (hk0 : r.1 = nI 0) (h1 : r.2.2.2.2 = nI 1) : zGoes g stb q = true := by
  unfold zGoes
  rw [he]
  show (decide _ && (decide _ || _)) = true
  rw [decide_eq_true hk0, decide_eq_true h1]; rfl
theorem zGo2 {g : zLg} {M q : Nat} {r : zE} (he : g.2.2 q = some r) (hk0 : r.1 = nI 0) (hM : M < 256) (hI : ∀ k, k < 8 → (M.testBit k = true ↔ ∃ j, q + 1 ≤ j ∧ j < zStab g ∧ zCK (nI k) (g.2.2 j) = true)) (hy : r.2.1 = -1 ∨ ∃ k, k < 8 ∧ r.2.1 = nI k) (h : ¬ (nI M &&& zBit r) = nI 0) : zGoes g (zStab g) q = true := by
  by_cases hb : r.2.2.2.2 = nI 0 ∧ ¬ r.2.1 = -1
  · obtain ⟨k0, hk, hr⟩ := hy.resolve_left hb.2
    have h2 : M.testBit k0 = true := by
      cases h3 : M.testBit k0 with
      | true => rfl
      | false =>
        exfalso
        apply h
        unfold zBit
        rw [if_pos hb, hr]
        exact ((zBits M hM k0 hk).1).mpr h3
    obtain ⟨j, a, b, c⟩ := (hI k0 hk).mp h2
    unfold zGoes
    rw [he]
    show (decide _ && (_ || (decide _ && zNew _ _ _ _))) = true
    rw [decide_eq_true hk0, decide_eq_true hb.2, zNew_iff.mpr ⟨j, a, b, by rw [hr]; exact c⟩]
    simp
  · exfalso
    apply h
    unfold zBit
    rw [if_neg hb]
    exact (zBit0 M hM).1
theorem zGo0 {g : zLg} {M q : Nat} {r : zE} (he : g.2.2 q = some r) (hk0 : r.1 = nI 0) (h1 : ¬ r.2.2.2.2 = nI 1) (hM : M < 256) (hI : ∀ k, k < 8 → (M.testBit k = true ↔ ∃ j, q + 1 ≤ j ∧ j < zStab g ∧ zCK (nI k) (g.2.2 j) = true)) (hy : r.2.1 = -1 ∨ ∃ k, k < 8 ∧ r.2.1 = nI k) (hs : r.2.2.2.2 = nI 0) (h : (nI M &&& zBit r) = nI 0) : ¬ zGoes g (zStab g) q = true := by
  intro h9
  unfold zGoes at h9
  rw [he] at h9
  have h8 : (decide (r.1 = nI 0) && (decide (r.2.2.2.2 = nI 1) || (decide (¬ r.2.1 = -1) && zNew g (zStab g) q r.2.1))) = true := h9
  rw [decide_eq_true hk0, decide_eq_false h1, Bool.true_and, Bool.false_or, Bool.and_eq_true, decide_eq_true_iff] at h8
  obtain ⟨k0, hk, hr⟩ := hy.resolve_left h8.1
  obtain ⟨j, a, b, c⟩ := zNew_iff.mp h8.2
  have h2 := (hI k0 hk).mpr ⟨j, a, b, by rw [← hr]; exact c⟩
  have h3 := ((zBits M hM k0 hk).1).mp (by
    have h7 := h
    unfold zBit at h7
    rw [if_pos ⟨hs, h8.1⟩, hr] at h7
    exact h7)
  rw [h2] at h3
  cases h3
theorem zSt0 {x : Int32} (h : ∃ k, k < 3 ∧ x = nI k) (h1 : ¬ x = nI 1) (h2 : ¬ x = nI 2) : x = nI 0 := by
  obtain ⟨k, hk, e⟩ := h
  rcases (show k = 0 ∨ k = 1 ∨ k = 2 by omega) with q | q | q
  · rw [e, q]
  · exact absurd (by rw [e, q]) h1
  · exact absurd (by rw [e, q]) h2
section ZMM
variable {p : Program} {l : Launch} {e : Env} {R : Room} {s : State} {m : MethodId} {args : Array Value} {below : List Frame} {meth : Method} {c : Code} {kc ks : Nat} {Q : State → Prop}
variable {D : va_G} {cl : List vw_C} {K : zK} {dA : Nat → ClassId} {A : Nat → Prop} {O : (Nat → Nat) × zS} {cc : ByteArray} {nL : Nat} {own : String} {c0 : Cond} {tys : List (ClassId × FieldType)} {G : (Nat → Prop) → State → Prop} {S : zS} {pc : Nat} {L : List (Nat × Value)} {st : List Value}
theorem w_mmin : Cond.static Lib.Math.min.name ∈ zTs ∧ Cond.initialized "java/lang/Math" ∈ zTs ∧ Cond.code Lib.Math.min.name Lib.Math.min.code 2 (some .int) ∈ zTs := ⟨zTs_in (by decide +kernel) (by decide +kernel), zTs_in (by decide +kernel) (by decide +kernel), zTs_in (by decide +kernel) (by decide +kernel)⟩
theorem w_mmax : Cond.static Lib.Math.max.name ∈ zTs ∧ Cond.initialized "java/lang/Math" ∈ zTs ∧ Cond.code Lib.Math.max.name Lib.Math.max.code 2 (some .int) ∈ zTs := ⟨zTs_in (by decide +kernel) (by decide +kernel), zTs_in (by decide +kernel) (by decide +kernel), zTs_in (by decide +kernel) (by decide +kernel)⟩
theorem z_mmin (X : zX p s m args c D cl K A cc nL own (c0 :: zTs) tys G) {index : Nat} {x y : Int32} (h1 : Cond.methodLink own index Lib.Math.min.name ∈ c0 :: zTs) (hd : decode cc pc = .ok (.invokestatic index, 3)) (hf : 1 ≤ R.frames) (hlo : (st.map fun v => v.category).sum + 13 ≤ R.locals) (hc : kc ≤ R.cells) (hs : ks ≤ R.slots) (k : AW p l e R s m args below meth c D cl K dA A O nL S kc ks Q (pc + 3) L (.int (if y < x then y else x) :: st)) : AW p l e R s m args below meth c D cl K dA A O nL S kc ks Q pc L (.int y :: .int x :: st) := by
  intro ad H locs ls hH hS hl ho
  refine va_mmin (x := x) (y := y) X.1 X.2.1 (X.2.2.1.trans hl.1.symm) X.2.2.2.1 (X.2.2.2.2.1 _ h1) (X.2.2.2.2.1 _ (w_m w_mmin.1)) (X.2.2.2.2.1 _ (w_m w_mmin.2.1)) (X.2.2.2.2.1 _ (w_m w_mmin.2.2)) hf ?_ hc hs hd (k ad H locs ls hH hS hl (ho.t.t.c trivial))
  rw [List.map_map, show ((fun v : Value => v.category) ∘ zv ad) = (fun v : Value => v.category) from funext fun v => zv_cat ad v]
  exact hlo
theorem z_mmax (X : zX p s m args c D cl K A cc nL own (c0 :: zTs) tys G) {index : Nat} {x y : Int32} (h1 : Cond.methodLink own index Lib.Math.max.name ∈ c0 :: zTs) (hd : decode cc pc = .ok (.invokestatic index, 3)) (hf : 1 ≤ R.frames) (hlo : (st.map fun v => v.category).sum + 13 ≤ R.locals) (hc : kc ≤ R.cells) (hs : ks ≤ R.slots) (k : AW p l e R s m args below meth c D cl K dA A O nL S kc ks Q (pc + 3) L (.int (if x < y then y else x) :: st)) : AW p l e R s m args below meth c D cl K dA A O nL S kc ks Q pc L (.int y :: .int x :: st) := by
  intro ad H locs ls hH hS hl ho
  refine va_mmax (x := x) (y := y) X.1 X.2.1 (X.2.2.1.trans hl.1.symm) X.2.2.2.1 (X.2.2.2.2.1 _ h1) (X.2.2.2.2.1 _ (w_m w_mmax.1)) (X.2.2.2.2.1 _ (w_m w_mmax.2.1)) (X.2.2.2.2.1 _ (w_m w_mmax.2.2)) hf ?_ hc hs hd (k ad H locs ls hH hS hl (ho.t.t.c trivial))
  rw [List.map_map, show ((fun v : Value => v.category) ∘ zv ad) = (fun v : Value => v.category) from funext fun v => zv_cat ad v]
  exact hlo
end ZMM
end
section
/-! CONTRACTS of LogBroker$Log: compacting (rows by program) -/
set_option maxHeartbeats 600000 in
set_option maxRecDepth 100000 in
theorem mG_bitOfCommittedKey (l : Launch) (D : va_G) (dA : Nat → ClassId) {S : zS} {tp o : Nat} {r : zE} (htp : tp < 12) (ho : o < 60) (hr0 : zEat S (200 + 60 * tp + o) r) : zMet l D vwCl zKK dA (zG0 D dA) yG_bitOfCommittedKey (Cond.code yG_bitOfCommittedKey cG_bitOfCommittedKey 1 (some .int) :: zTs) { frames := 0, cells := 0, slots := 0, locals := 0 } 0 0 [.ref (200 + 60 * tp + o)] S (fun v S' => v = some (.int (zBit r)) ∧ S' = S) (fun _ _ => False) := by
  refine z_met (tys := ztys dA) (by decide) rfl zG0_K rfl (Nat.le_of_ble_eq_true rfl) (fun p e s m args below meth c A ad X hr hlocks hin hex => ?_)
  refine z_aload_n (j := 0) X dG_bitOfCommittedKey_0 rfl rfl ?_
  refine z_geti (C := RE) (T := TE) (N := 5) (k := 4) X (w_in inE) rfl rfl (kd_E htp ho) (by decide) (w_m lG_51) rfl rfl dG_bitOfCommittedKey_1 (hv := hr0.2.2.2.2.2) ?_
  refine z_if_ne (tgt := 24) X dG_bitOfCommittedKey_4 (by decide) (fun c_4 => ?_) (fun c_4 => ?_)
  · refine z_iconst (v := (nI 0)) X dG_bitOfCommittedKey_24 (by decide) ?_
    refine z_iret X hlocks hr dG_bitOfCommittedKey_25 (by omega) (by omega) ?_
    first | exact ⟨by unfold zBit; rw [if_neg (fun h => c_4 (h.1.trans nI_0))], rfl⟩ | exact ⟨by unfold zBit; rw [if_neg (fun h => h.2 c_12)], rfl⟩
  · refine z_aload_n (j := 0) X dG_bitOfCommittedKey_7 rfl rfl ?_
    refine z_geti (C := RE) (T := TE) (N := 5) (k := 1) X (w_in inE) rfl rfl (kd_E htp ho) (by decide) (w_m lG_74) rfl rfl dG_bitOfCommittedKey_8 (hv := hr0.2.2.1) ?_
    refine z_iconst (v := (-1)) X dG_bitOfCommittedKey_11 (by decide) ?_
    refine z_icmp_eq (tgt := 24) X dG_bitOfCommittedKey_12 (by decide) (fun c_12 => ?_) (fun c_12 => ?_)
    · refine z_iconst (v := (nI 0)) X dG_bitOfCommittedKey_24 (by decide) ?_
      refine z_iret X hlocks hr dG_bitOfCommittedKey_25 (by omega) (by omega) ?_
      first | exact ⟨by unfold zBit; rw [if_neg (fun h => c_4 (h.1.trans nI_0))], rfl⟩ | exact ⟨by unfold zBit; rw [if_neg (fun h => h.2 c_12)], rfl⟩
    · refine z_iconst (v := (nI 1)) X dG_bitOfCommittedKey_15 (by decide) ?_
      refine z_aload_n (j := 0) X dG_bitOfCommittedKey_16 rfl rfl ?_
      refine z_geti (C := RE) (T := TE) (N := 5) (k := 1) X (w_in inE) rfl rfl (kd_E htp ho) (by decide) (w_m lG_74) rfl rfl dG_bitOfCommittedKey_17 (hv := hr0.2.2.1) ?_
      refine z_ishl X dG_bitOfCommittedKey_20 ?_
      refine z_goto (tgt := 25) X dG_bitOfCommittedKey_21 (by decide) ?_
      refine z_iret X hlocks hr dG_bitOfCommittedKey_25 (by omega) (by omega) ?_
      exact ⟨by unfold zBit; rw [if_pos ⟨c_4.trans nI_0.symm, c_12⟩], rfl⟩

set_option maxHeartbeats 600000 in
set_option maxRecDepth 100000 in
theorem mG_dropOutdated (l : Launch) (D : va_G) (dA : Nat → ClassId) {S : zS} {tp : Nat} {g : zLg} (htp : tp < 12) (hO : zLogA S tp g) (hW : zLogW g) (hV : ∀ o e, g.2.2 o = some e → zEW e) : zMet l D vwCl zKK dA (zG0 D dA) yG_dropOutdated (Cond.code yG_dropOutdated cG_dropOutdated 9 (some .int) :: zTs) { frames := 1, cells := 0, slots := 0, locals := 21 } 0 0 [.ref (60 + tp)] S (fun v S' => v = some (.int (nI (zPr g - zPr (zComp g)))) ∧ zLogA S' tp (zComp g) ∧ zfr (zOwnG tp) S S' ∧ S'.1 = S.1) (fun _ _ => False) := by
  refine z_met (tys := ztys dA) (by decide) rfl zG0_K rfl (Nat.le_of_ble_eq_true rfl) (fun p e s m args below meth c A ad X hr hlocks hin hex => ?_)
  obtain ⟨hd1, hd2, f0, f1, f2, f3, f4, f5, f6, f7, f8, hent, hee⟩ := id hO
  obtain ⟨w1, w2, w3, w4, w5, w6, w7, w8, w9⟩ := id hW
  have wb := zBa_le g
  have wp : zPr g ≤ 60 := zcnt_le
  have wst := zStab_le g (by omega)
  have hmin : min (zBa g) (zStab g) ≤ zBa g ∧ min (zBa g) (zStab g) ≤ zStab g := ⟨Nat.min_le_left _ _, Nat.min_le_right _ _⟩
  have hmin2 : ∀ j, j < zBa g → j < zStab g → j < min (zBa g) (zStab g) := fun j a b => Nat.lt_min.mpr ⟨a, b⟩
  have loop : ∀ (f o : Nat) (S1 : zS) (k1 : Nat → Option zE) (M : Nat), o < f → o ≤ zStab g → (M < 256 ∧ ∀ k, k < 8 → (M.testBit k = true ↔ ∃ j, o ≤ j ∧ j < zStab g ∧ zCK (nI k) (g.2.2 j) = true)) → (∀ j, k1 j = if o ≤ j ∧ j < zStab g ∧ j < zBa g ∧ zGoes g (zStab g) j = true then none else g.2.2 j) → zLogA S1 tp (g.1, g.2.1, k1) → zLogW (g.1, g.2.1, k1) → zfr (zOwnG tp) S S1 → S1.1 = S.1 → AW p l e { frames := 1, cells := 0, slots := 0, locals := 21 } s m args below meth c D vwCl zKK dA A (ad, S) 9 S1 0 0 (vx_MQ below (zQc D vwCl zKK dA A ad S (fun v S' => v = some (.int (nI (zPr g - zPr (zComp g)))) ∧ zLogA S' tp (zComp g) ∧ zfr (zOwnG tp) S S' ∧ S'.1 = S.1)) (zXC D vwCl zKK dA A ad S (fun _ _ => False)) args s 0 0 A) 27 [(5, .int (zPd o)), (4, .int (nI M)), (3, .int (nI (min (zBa g) (zStab g)))), (2, .int (nI (zStab g))), (1, .int (nI (zPr g))), (0, .ref (60 + tp))] [] := by
    intro f
    induction f with
    | zero => intro o S1 k1 M h0; omega
    | succ f ih =>
    intro o S1 k1 M h0 hi1 hM hk h1 hW1 hfr hdm
    obtain ⟨hd1, hd2, f0, f1, f2, f3, f4, f5, f6, f7, f8, hent, hee⟩ := id h1
    have f4 : S1.2.1 (60 + tp) 4 = nI g.2.1.1 := f4
    have hent : ∀ o, S1.2.2.1 (80 + tp) o = (k1 o).map (fun _ => 200 + 60 * tp + o) := hent
    have hee : ∀ o e, k1 o = some e → zEat S1 (200 + 60 * tp + o) e := hee
    by_cases hso : o ≤ g.2.1.1
    · have hkc : k1 = (zComp g).2.2 := by
        funext j
        rw [hk j]
        show _ = if j < zStab g ∧ j < zBa g ∧ zGoes g (zStab g) j = true then none else g.2.2 j
        by_cases e8 : j < zStab g ∧ j < zBa g ∧ zGoes g (zStab g) j = true
        · by_cases e7 : o ≤ j
          · rw [if_pos ⟨e7, e8⟩, if_pos e8]
          · rw [if_neg (fun h => e7 h.1), if_pos e8, w9 j (by omega)]
        · rw [if_neg (fun h => e8 h.2), if_neg e8]
      have h1' : zLogA S1 tp (zComp g) := by
        have h9 := h1
        rw [hkc] at h9
        exact h9
      have f8' : S1.2.1 (60 + tp) 8 = nI (zPr (zComp g)) := h1'.2.2.2.2.2.2.2.2.2.2.1
      have hpm : zPr (zComp g) ≤ zPr g := zPr_mono (fun j hj => by
        show (if j < zStab g ∧ j < zBa g ∧ zGoes g (zStab g) j = true then none else g.2.2 j) = none
        by_cases e8 : j < zStab g ∧ j < zBa g ∧ zGoes g (zStab g) j = true
        · rw [if_pos e8]
        · rw [if_neg e8]; exact hj)
      refine z_iload (j := 0) X dG_dropOutdated_27 rfl ?_
      refine z_aload_n (j := 5) X dG_dropOutdated_29 rfl rfl ?_
      refine z_geti (C := RG) (T := TG) (N := 9) (k := 4) X (w_in inG) rfl rfl (kd_G htp) (by decide) (w_m lG_44) rfl rfl dG_dropOutdated_30 (hv := f4) ?_
      refine z_icmp_lt (tgt := 115) X dG_dropOutdated_33 (by decide) (fun c_33 => ?_) (fun c_33 => absurd (zPd_lt hso (by omega)) c_33)
      refine z_iload_n (j := 4) X dG_dropOutdated_115 rfl rfl ?_
      refine z_aload_n (j := 5) X dG_dropOutdated_116 rfl rfl ?_
      refine z_geti (C := RG) (T := TG) (N := 9) (k := 8) X (w_in inG) rfl rfl (kd_G htp) (by decide) (w_m lG_31) rfl rfl dG_dropOutdated_117 (hv := f8') ?_
      refine z_isub X dG_dropOutdated_120 ?_
      refine z_top (pk_sub (a := zPr g) (b := zPr (zComp g)) (by omega)) ?_
      refine z_iret X hlocks hr dG_dropOutdated_121 (by omega) (by omega) ?_
      exact ⟨rfl, h1', hfr, hdm⟩
    · obtain ⟨q, rfl⟩ : ∃ q, o = q + 1 := ⟨o - 1, by omega⟩
      rw [zPd_s]
      refine z_iload (j := 0) X dG_dropOutdated_27 rfl ?_
      refine z_aload_n (j := 5) X dG_dropOutdated_29 rfl rfl ?_
      refine z_geti (C := RG) (T := TG) (N := 9) (k := 4) X (w_in inG) rfl rfl (kd_G htp) (by decide) (w_m lG_44) rfl rfl dG_dropOutdated_30 (hv := f4) ?_
      refine z_icmp_ltN (tgt := 115) X dG_dropOutdated_33 (by decide) (by omega) (by omega) (fun c_33 => absurd c_33 (by omega)) (fun c_33 => ?_)
      refine z_aload_n (j := 5) X dG_dropOutdated_36 rfl rfl ?_
      refine z_iload (j := 0) X dG_dropOutdated_37 rfl ?_
      refine z_callV (n := 1) (As := [.int (nI q)]) (rest := []) X zG0_m (mG_hasData l D dA (g := (g.1, g.2.1, k1)) (o := q) htp h1 hW1 (by omega)) (w_V X.2.2.2.2.1 lG_61 jG_hasData sG_hasData i_LogBroker_Log kG_hasData rfl rfl (by decide +kernel) ⟨Nat.le_of_ble_eq_true rfl, Nat.le_of_ble_eq_true rfl⟩) (kd_G htp) rfl rfl rfl rfl (Nat.le_of_ble_eq_true rfl) dG_dropOutdated_39 ⟨Nat.le_of_ble_eq_true rfl, Nat.le_of_ble_eq_true rfl⟩ (fun v S2 hp => ?_) (fun E S1 hx => hx.elim)
      obtain ⟨hv, hS2⟩ := hp
      subst hv
      have hS2 := hS2.symm
      subst hS2
      have hkq : k1 q = g.2.2 q := by rw [hk q, if_neg (by omega)]
      rcases he : g.2.2 q with _ | r
      · refine z_top (if_neg (show ¬ zData (k1 q) = true by rw [hkq, he]; decide)) ?_
        refine z_if_eq (tgt := 109) X dG_dropOutdated_42 (by decide) (fun c_42 => ?_) (fun c_42 => absurd c_42 (by decide))
        refine z_iinc (j := 0) (v := (zPd q)) (L' := [(5, .int (zPd q)), (4, .int (nI M)), (3, .int (nI (min (zBa g) (zStab g)))), (2, .int (nI (zStab g))), (1, .int (nI (zPr g))), (0, .ref (60 + tp))]) X dG_dropOutdated_109 rfl (zPd_inc q) (by decide) rfl ?_
        refine z_goto (tgt := 27) X dG_dropOutdated_112 (by decide) ?_
        refine z_loc [0, 1, 2, 3, 4, 5] rfl ?_
        exact ih q S1 k1 M (by omega) (by omega) (zSeenN hM he (fun k => rfl)) (fun j => by
          by_cases e9 : j = q
          · subst e9
            rw [if_neg (fun h => by have h9 := h.2.2.2; unfold zGoes at h9; rw [he] at h9; cases h9)]; exact hkq
          · rw [hk j]
            by_cases e8 : q + 1 ≤ j ∧ j < zStab g ∧ j < zBa g ∧ zGoes g (zStab g) j = true
            · rw [if_pos e8, if_pos ⟨by omega, e8.2⟩]
            · rw [if_neg e8, if_neg (fun h => e8 ⟨by omega, h.2⟩)]) h1 hW1 hfr hdm
      · have he1 : k1 q = some r := hkq.trans he
        obtain ⟨y1, y2, y3, y4, y5⟩ := hV q r he
        by_cases hk0 : r.1 = nI 0
        · refine z_top (if_pos (show zData (k1 q) = true by rw [he1]; exact decide_eq_true hk0)) ?_
          refine z_if_eq (tgt := 109) X dG_dropOutdated_42 (by decide) (fun c_42 => absurd c_42 (by decide)) (fun c_42 => ?_)
          refine z_aload_n (j := 5) X dG_dropOutdated_45 rfl rfl ?_
          refine z_getr (C := RG) (T := TG) (N := 9) (k := 3) X (w_in inG) rfl rfl (kd_G htp) (by decide) (w_m lG_11) rfl rfl f3 dG_dropOutdated_46 ?_
          refine z_iload (j := 0) X dG_dropOutdated_49 rfl ?_
          refine z_aald (t0 := 6) X (kd_GA htp) (by decide) (by decide) (by decide) rfl (by omega) (by decide) (by rw [hent, he1]; rfl) dG_dropOutdated_51 ?_
          refine z_astore (L' := [(6, .ref (200 + 60 * tp + q)), (5, .int (nI q)), (4, .int (nI M)), (3, .int (nI (min (zBa g) (zStab g)))), (2, .int (nI (zStab g))), (1, .int (nI (zPr g))), (0, .ref (60 + tp))]) X dG_dropOutdated_52 (by decide) rfl ?_
          refine z_aload (j := 0) X dG_dropOutdated_54 rfl ?_
          refine z_callS (n := 1) (As := [.ref (200 + 60 * tp + q)]) (rest := []) X zG0_m (mG_bitOfCommittedKey l D dA (o := q) htp (by omega) (hee q r he1)) (w_S X.2.2.2.2.1 lG_70 tG_bitOfCommittedKey i_LogBroker_Log kG_bitOfCommittedKey rfl rfl (by decide +kernel) ⟨Nat.le_of_ble_eq_true rfl, Nat.le_of_ble_eq_true rfl⟩) rfl rfl (Nat.le_of_ble_eq_true rfl) dG_dropOutdated_56 ⟨Nat.le_of_ble_eq_true rfl, Nat.le_of_ble_eq_true rfl⟩ (fun v S2 hp => ?_) (fun E S1 hx => hx.elim)
          obtain ⟨hv, hS2⟩ := hp
          subst hv
          have hS2 := hS2.symm
          subst hS2
          refine z_istore (L' := [(7, .int (zBit r)), (6, .ref (200 + 60 * tp + q)), (5, .int (nI q)), (4, .int (nI M)), (3, .int (nI (min (zBa g) (zStab g)))), (2, .int (nI (zStab g))), (1, .int (nI (zPr g))), (0, .ref (60 + tp))]) X dG_dropOutdated_59 (by decide) rfl ?_
          refine z_aload (j := 1) X dG_dropOutdated_61 rfl ?_
          refine z_geti (C := RE) (T := TE) (N := 5) (k := 4) X (w_in inE) rfl rfl (kd_E htp (by omega)) (by decide) (w_m lG_51) rfl rfl dG_dropOutdated_63 (hv := (hee q r he1).2.2.2.2.2) ?_
          refine z_iconst (v := (nI 1)) X dG_dropOutdated_66 (by decide) ?_
          refine z_icmp_eq (tgt := 78) X dG_dropOutdated_67 (by decide) (fun c_67 => ?_) (fun c_67 => ?_)
          · refine z_iconst (v := (nI 1)) X dG_dropOutdated_78 (by decide) ?_
            refine z_goto (tgt := 83) X dG_dropOutdated_79 (by decide) ?_
            refine z_istore (L' := [(8, .int (nI 1)), (7, .int (zBit r)), (6, .ref (200 + 60 * tp + q)), (5, .int (nI q)), (4, .int (nI M)), (3, .int (nI (min (zBa g) (zStab g)))), (2, .int (nI (zStab g))), (1, .int (nI (zPr g))), (0, .ref (60 + tp))]) X dG_dropOutdated_83 (by decide) rfl ?_
            refine z_iload (j := 0) X dG_dropOutdated_85 rfl ?_
            refine z_if_eq (tgt := 102) X dG_dropOutdated_87 (by decide) (fun c_87 => absurd c_87 (by decide)) (fun c_87 => ?_)
            refine z_iload (j := 3) X dG_dropOutdated_90 rfl ?_
            refine z_iload_n (j := 5) X dG_dropOutdated_92 rfl rfl ?_
            refine z_icmp_geN (tgt := 102) X dG_dropOutdated_93 (by decide) (by omega) (by omega) (fun c_93 => ?_) (fun c_93 => ?_)
            · obtain ⟨M2, hM2⟩ : ∃ M2, (nI M ||| zBit r) = nI M2 ∧ M2 < 256 ∧ ∀ k, k < 8 → (M2.testBit k = true ↔ (M.testBit k = true ∨ zCK (nI k) (some r) = true)) := zSeen hM.1 hk0 y2
              refine z_iload (j := 4) X dG_dropOutdated_102 rfl ?_
              refine z_iload (j := 1) X dG_dropOutdated_104 rfl ?_
              refine z_ior X dG_dropOutdated_106 ?_
              refine z_top hM2.1 ?_
              refine z_istore (L' := [(4, .int (nI M2)), (8, .int (nI 1)), (7, .int (zBit r)), (6, .ref (200 + 60 * tp + q)), (5, .int (nI q)), (3, .int (nI (min (zBa g) (zStab g)))), (2, .int (nI (zStab g))), (1, .int (nI (zPr g))), (0, .ref (60 + tp))]) X dG_dropOutdated_107 (by decide) rfl ?_
              refine z_iinc (j := 4) (v := (zPd q)) (L' := [(5, .int (zPd q)), (4, .int (nI M2)), (8, .int (nI 1)), (7, .int (zBit r)), (6, .ref (200 + 60 * tp + q)), (3, .int (nI (min (zBa g) (zStab g)))), (2, .int (nI (zStab g))), (1, .int (nI (zPr g))), (0, .ref (60 + tp))]) X dG_dropOutdated_109 rfl (zPd_inc q) (by decide) rfl ?_
              refine z_goto (tgt := 27) X dG_dropOutdated_112 (by decide) ?_
              refine z_loc [0, 1, 5, 6, 7, 8] rfl ?_
              exact ih q S1 k1 M2 (by omega) (by omega) (zSeenI hM hM2.2 he (by omega)) (fun j => by
                by_cases e9 : j = q
                · subst e9
                  rw [if_neg (fun h => by omega)]; exact hkq
                · rw [hk j]
                  by_cases e8 : q + 1 ≤ j ∧ j < zStab g ∧ j < zBa g ∧ zGoes g (zStab g) j = true
                  · rw [if_pos e8, if_pos ⟨by omega, e8.2⟩]
                  · rw [if_neg e8, if_neg (fun h => e8 ⟨by omega, h.2⟩)]) h1 hW1 hfr hdm
            · refine z_aload_n (j := 8) X dG_dropOutdated_96 rfl rfl ?_
              refine z_iload (j := 3) X dG_dropOutdated_97 rfl ?_
              refine z_callV (n := 1) (As := [.int (nI q)]) (rest := []) X zG0_m (mG_drop l D dA (g := (g.1, g.2.1, k1)) (o := q) htp h1 hW1 (by omega)) (w_V X.2.2.2.2.1 lG_47 jG_drop sG_drop i_LogBroker_Log kG_drop rfl rfl (by decide +kernel) ⟨Nat.le_of_ble_eq_true rfl, Nat.le_of_ble_eq_true rfl⟩) (kd_G htp) rfl rfl rfl rfl (Nat.le_of_ble_eq_true rfl) dG_dropOutdated_99 ⟨Nat.le_of_ble_eq_true rfl, Nat.le_of_ble_eq_true rfl⟩ (fun v S3 hp => ?_) (fun E S1 hx => hx.elim)
              obtain ⟨hv, h3, hf3, hd3⟩ := hp
              subst hv
              obtain ⟨M2, hM2⟩ : ∃ M2, (nI M ||| zBit r) = nI M2 ∧ M2 < 256 ∧ ∀ k, k < 8 → (M2.testBit k = true ↔ (M.testBit k = true ∨ zCK (nI k) (some r) = true)) := zSeen hM.1 hk0 y2
              refine z_iload (j := 4) X dG_dropOutdated_102 rfl ?_
              refine z_iload (j := 1) X dG_dropOutdated_104 rfl ?_
              refine z_ior X dG_dropOutdated_106 ?_
              refine z_top hM2.1 ?_
              refine z_istore (L' := [(4, .int (nI M2)), (8, .int (nI 1)), (7, .int (zBit r)), (6, .ref (200 + 60 * tp + q)), (5, .int (nI q)), (3, .int (nI (min (zBa g) (zStab g)))), (2, .int (nI (zStab g))), (1, .int (nI (zPr g))), (0, .ref (60 + tp))]) X dG_dropOutdated_107 (by decide) rfl ?_
              refine z_iinc (j := 4) (v := (zPd q)) (L' := [(5, .int (zPd q)), (4, .int (nI M2)), (8, .int (nI 1)), (7, .int (zBit r)), (6, .ref (200 + 60 * tp + q)), (3, .int (nI (min (zBa g) (zStab g)))), (2, .int (nI (zStab g))), (1, .int (nI (zPr g))), (0, .ref (60 + tp))]) X dG_dropOutdated_109 rfl (zPd_inc q) (by decide) rfl ?_
              refine z_goto (tgt := 27) X dG_dropOutdated_112 (by decide) ?_
              refine z_loc [0, 1, 5, 6, 7, 8] rfl ?_
              exact ih q S3 (fun j => if j = q then none else k1 j) M2 (by omega) (by omega) (zSeenI hM hM2.2 he (by omega)) (fun j => by
                by_cases e9 : j = q
                · subst e9
                  rw [if_pos rfl, if_pos ⟨by omega, by omega, by omega, zGo1 he hk0 c_67⟩]
                · rw [if_neg e9]; rw [hk j]
                  by_cases e8 : q + 1 ≤ j ∧ j < zStab g ∧ j < zBa g ∧ zGoes g (zStab g) j = true
                  · rw [if_pos e8, if_pos ⟨by omega, e8.2⟩]
                  · rw [if_neg e8, if_neg (fun h => e8 ⟨by omega, h.2⟩)]) h3 (zLogW_drop hW1) (hfr.tr hf3) (hd3.trans hdm)
          · have hs0 : r.2.2.2.2 = nI 0 := zSt0 y4 c_67 (zStab_und (by omega) (by omega) he)
            refine z_iload (j := 3) X dG_dropOutdated_70 rfl ?_
            refine z_iload (j := 0) X dG_dropOutdated_72 rfl ?_
            refine z_iand X dG_dropOutdated_74 ?_
            refine z_if_eq (tgt := 82) X dG_dropOutdated_75 (by decide) (fun c_75 => ?_) (fun c_75 => ?_)
            · refine z_iconst (v := (nI 0)) X dG_dropOutdated_82 (by decide) ?_
              refine z_istore (L' := [(8, .int (nI 0)), (7, .int (zBit r)), (6, .ref (200 + 60 * tp + q)), (5, .int (nI q)), (4, .int (nI M)), (3, .int (nI (min (zBa g) (zStab g)))), (2, .int (nI (zStab g))), (1, .int (nI (zPr g))), (0, .ref (60 + tp))]) X dG_dropOutdated_83 (by decide) rfl ?_
              refine z_iload (j := 0) X dG_dropOutdated_85 rfl ?_
              refine z_if_eq (tgt := 102) X dG_dropOutdated_87 (by decide) (fun c_87 => ?_) (fun c_87 => absurd c_87 (by decide))
              obtain ⟨M2, hM2⟩ : ∃ M2, (nI M ||| zBit r) = nI M2 ∧ M2 < 256 ∧ ∀ k, k < 8 → (M2.testBit k = true ↔ (M.testBit k = true ∨ zCK (nI k) (some r) = true)) := zSeen hM.1 hk0 y2
              refine z_iload (j := 4) X dG_dropOutdated_102 rfl ?_
              refine z_iload (j := 1) X dG_dropOutdated_104 rfl ?_
              refine z_ior X dG_dropOutdated_106 ?_
              refine z_top hM2.1 ?_
              refine z_istore (L' := [(4, .int (nI M2)), (8, .int (nI 0)), (7, .int (zBit r)), (6, .ref (200 + 60 * tp + q)), (5, .int (nI q)), (3, .int (nI (min (zBa g) (zStab g)))), (2, .int (nI (zStab g))), (1, .int (nI (zPr g))), (0, .ref (60 + tp))]) X dG_dropOutdated_107 (by decide) rfl ?_
              refine z_iinc (j := 4) (v := (zPd q)) (L' := [(5, .int (zPd q)), (4, .int (nI M2)), (8, .int (nI 0)), (7, .int (zBit r)), (6, .ref (200 + 60 * tp + q)), (3, .int (nI (min (zBa g) (zStab g)))), (2, .int (nI (zStab g))), (1, .int (nI (zPr g))), (0, .ref (60 + tp))]) X dG_dropOutdated_109 rfl (zPd_inc q) (by decide) rfl ?_
              refine z_goto (tgt := 27) X dG_dropOutdated_112 (by decide) ?_
              refine z_loc [0, 1, 5, 6, 7, 8] rfl ?_
              exact ih q S1 k1 M2 (by omega) (by omega) (zSeenI hM hM2.2 he (by omega)) (fun j => by
                by_cases e9 : j = q
                · subst e9
                  rw [if_neg (fun h => zGo0 he hk0 c_67 hM.1 hM.2 y2 hs0 (c_75.trans nI_0.symm) h.2.2.2)]; exact hkq
                · rw [hk j]
                  by_cases e8 : q + 1 ≤ j ∧ j < zStab g ∧ j < zBa g ∧ zGoes g (zStab g) j = true
                  · rw [if_pos e8, if_pos ⟨by omega, e8.2⟩]
                  · rw [if_neg e8, if_neg (fun h => e8 ⟨by omega, h.2⟩)]) h1 hW1 hfr hdm
            · refine z_iconst (v := (nI 1)) X dG_dropOutdated_78 (by decide) ?_
              refine z_goto (tgt := 83) X dG_dropOutdated_79 (by decide) ?_
              refine z_istore (L' := [(8, .int (nI 1)), (7, .int (zBit r)), (6, .ref (200 + 60 * tp + q)), (5, .int (nI q)), (4, .int (nI M)), (3, .int (nI (min (zBa g) (zStab g)))), (2, .int (nI (zStab g))), (1, .int (nI (zPr g))), (0, .ref (60 + tp))]) X dG_dropOutdated_83 (by decide) rfl ?_
              refine z_iload (j := 0) X dG_dropOutdated_85 rfl ?_
              refine z_if_eq (tgt := 102) X dG_dropOutdated_87 (by decide) (fun c_87 => absurd c_87 (by decide)) (fun c_87 => ?_)
              refine z_iload (j := 3) X dG_dropOutdated_90 rfl ?_
              refine z_iload_n (j := 5) X dG_dropOutdated_92 rfl rfl ?_
              refine z_icmp_geN (tgt := 102) X dG_dropOutdated_93 (by decide) (by omega) (by omega) (fun c_93 => ?_) (fun c_93 => ?_)
              · obtain ⟨M2, hM2⟩ : ∃ M2, (nI M ||| zBit r) = nI M2 ∧ M2 < 256 ∧ ∀ k, k < 8 → (M2.testBit k = true ↔ (M.testBit k = true ∨ zCK (nI k) (some r) = true)) := zSeen hM.1 hk0 y2
                refine z_iload (j := 4) X dG_dropOutdated_102 rfl ?_
                refine z_iload (j := 1) X dG_dropOutdated_104 rfl ?_
                refine z_ior X dG_dropOutdated_106 ?_
                refine z_top hM2.1 ?_
                refine z_istore (L' := [(4, .int (nI M2)), (8, .int (nI 1)), (7, .int (zBit r)), (6, .ref (200 + 60 * tp + q)), (5, .int (nI q)), (3, .int (nI (min (zBa g) (zStab g)))), (2, .int (nI (zStab g))), (1, .int (nI (zPr g))), (0, .ref (60 + tp))]) X dG_dropOutdated_107 (by decide) rfl ?_
                refine z_iinc (j := 4) (v := (zPd q)) (L' := [(5, .int (zPd q)), (4, .int (nI M2)), (8, .int (nI 1)), (7, .int (zBit r)), (6, .ref (200 + 60 * tp + q)), (3, .int (nI (min (zBa g) (zStab g)))), (2, .int (nI (zStab g))), (1, .int (nI (zPr g))), (0, .ref (60 + tp))]) X dG_dropOutdated_109 rfl (zPd_inc q) (by decide) rfl ?_
                refine z_goto (tgt := 27) X dG_dropOutdated_112 (by decide) ?_
                refine z_loc [0, 1, 5, 6, 7, 8] rfl ?_
                exact ih q S1 k1 M2 (by omega) (by omega) (zSeenI hM hM2.2 he (by omega)) (fun j => by
                  by_cases e9 : j = q
                  · subst e9
                    rw [if_neg (fun h => by omega)]; exact hkq
                  · rw [hk j]
                    by_cases e8 : q + 1 ≤ j ∧ j < zStab g ∧ j < zBa g ∧ zGoes g (zStab g) j = true
                    · rw [if_pos e8, if_pos ⟨by omega, e8.2⟩]
                    · rw [if_neg e8, if_neg (fun h => e8 ⟨by omega, h.2⟩)]) h1 hW1 hfr hdm
              · refine z_aload_n (j := 8) X dG_dropOutdated_96 rfl rfl ?_
                refine z_iload (j := 3) X dG_dropOutdated_97 rfl ?_
                refine z_callV (n := 1) (As := [.int (nI q)]) (rest := []) X zG0_m (mG_drop l D dA (g := (g.1, g.2.1, k1)) (o := q) htp h1 hW1 (by omega)) (w_V X.2.2.2.2.1 lG_47 jG_drop sG_drop i_LogBroker_Log kG_drop rfl rfl (by decide +kernel) ⟨Nat.le_of_ble_eq_true rfl, Nat.le_of_ble_eq_true rfl⟩) (kd_G htp) rfl rfl rfl rfl (Nat.le_of_ble_eq_true rfl) dG_dropOutdated_99 ⟨Nat.le_of_ble_eq_true rfl, Nat.le_of_ble_eq_true rfl⟩ (fun v S3 hp => ?_) (fun E S1 hx => hx.elim)
                obtain ⟨hv, h3, hf3, hd3⟩ := hp
                subst hv
                obtain ⟨M2, hM2⟩ : ∃ M2, (nI M ||| zBit r) = nI M2 ∧ M2 < 256 ∧ ∀ k, k < 8 → (M2.testBit k = true ↔ (M.testBit k = true ∨ zCK (nI k) (some r) = true)) := zSeen hM.1 hk0 y2
                refine z_iload (j := 4) X dG_dropOutdated_102 rfl ?_
                refine z_iload (j := 1) X dG_dropOutdated_104 rfl ?_
                refine z_ior X dG_dropOutdated_106 ?_
                refine z_top hM2.1 ?_
                refine z_istore (L' := [(4, .int (nI M2)), (8, .int (nI 1)), (7, .int (zBit r)), (6, .ref (200 + 60 * tp + q)), (5, .int (nI q)), (3, .int (nI (min (zBa g) (zStab g)))), (2, .int (nI (zStab g))), (1, .int (nI (zPr g))), (0, .ref (60 + tp))]) X dG_dropOutdated_107 (by decide) rfl ?_
                refine z_iinc (j := 4) (v := (zPd q)) (L' := [(5, .int (zPd q)), (4, .int (nI M2)), (8, .int (nI 1)), (7, .int (zBit r)), (6, .ref (200 + 60 * tp + q)), (3, .int (nI (min (zBa g) (zStab g)))), (2, .int (nI (zStab g))), (1, .int (nI (zPr g))), (0, .ref (60 + tp))]) X dG_dropOutdated_109 rfl (zPd_inc q) (by decide) rfl ?_
                refine z_goto (tgt := 27) X dG_dropOutdated_112 (by decide) ?_
                refine z_loc [0, 1, 5, 6, 7, 8] rfl ?_
                exact ih q S3 (fun j => if j = q then none else k1 j) M2 (by omega) (by omega) (zSeenI hM hM2.2 he (by omega)) (fun j => by
                  by_cases e9 : j = q
                  · subst e9
                    rw [if_pos rfl, if_pos ⟨by omega, by omega, by omega, zGo2 he hk0 hM.1 hM.2 y2 (fun h => c_75 (h.trans nI_0))⟩]
                  · rw [if_neg e9]; rw [hk j]
                    by_cases e8 : q + 1 ≤ j ∧ j < zStab g ∧ j < zBa g ∧ zGoes g (zStab g) j = true
                    · rw [if_pos e8, if_pos ⟨by omega, e8.2⟩]
                    · rw [if_neg e8, if_neg (fun h => e8 ⟨by omega, h.2⟩)]) h3 (zLogW_drop hW1) (hfr.tr hf3) (hd3.trans hdm)
        · refine z_top (if_neg (show ¬ zData (k1 q) = true by rw [he1]; exact fun h => hk0 (of_decide_eq_true h))) ?_
          refine z_if_eq (tgt := 109) X dG_dropOutdated_42 (by decide) (fun c_42 => ?_) (fun c_42 => absurd c_42 (by decide))
          refine z_iinc (j := 0) (v := (zPd q)) (L' := [(5, .int (zPd q)), (4, .int (nI M)), (3, .int (nI (min (zBa g) (zStab g)))), (2, .int (nI (zStab g))), (1, .int (nI (zPr g))), (0, .ref (60 + tp))]) X dG_dropOutdated_109 rfl (zPd_inc q) (by decide) rfl ?_
          refine z_goto (tgt := 27) X dG_dropOutdated_112 (by decide) ?_
          refine z_loc [0, 1, 2, 3, 4, 5] rfl ?_
          exact ih q S1 k1 M (by omega) (by omega) (zSeenN hM he (fun k => by show (decide _ && _) = false; rw [decide_eq_false hk0]; rfl)) (fun j => by
            by_cases e9 : j = q
            · subst e9
              rw [if_neg (fun h => by have h9 := h.2.2.2; unfold zGoes at h9; rw [he] at h9; have h8 := (Bool.and_eq_true _ _ ▸ h9).1; exact hk0 (of_decide_eq_true h8))]; exact hkq
            · rw [hk j]
              by_cases e8 : q + 1 ≤ j ∧ j < zStab g ∧ j < zBa g ∧ zGoes g (zStab g) j = true
              · rw [if_pos e8, if_pos ⟨by omega, e8.2⟩]
              · rw [if_neg e8, if_neg (fun h => e8 ⟨by omega, h.2⟩)]) h1 hW1 hfr hdm
  refine z_aload_n (j := 0) X dG_dropOutdated_0 rfl rfl ?_
  refine z_geti (C := RG) (T := TG) (N := 9) (k := 8) X (w_in inG) rfl rfl (kd_G htp) (by decide) (w_m lG_31) rfl rfl dG_dropOutdated_1 (hv := f8) ?_
  refine z_istore_n (L' := [(1, .int (nI (zPr g))), (0, .ref (60 + tp))]) X dG_dropOutdated_4 rfl (by decide) rfl ?_
  refine z_aload_n (j := 1) X dG_dropOutdated_5 rfl rfl ?_
  refine z_callV (n := 0) (As := []) (rest := []) X zG0_m (mG_stableOffset l D dA htp hO hW) (w_V X.2.2.2.2.1 lG_40 jG_stableOffset sG_stableOffset i_LogBroker_Log kG_stableOffset rfl rfl (by decide +kernel) ⟨Nat.le_of_ble_eq_true rfl, Nat.le_of_ble_eq_true rfl⟩) (kd_G htp) rfl rfl rfl rfl (Nat.le_of_ble_eq_true rfl) dG_dropOutdated_6 ⟨Nat.le_of_ble_eq_true rfl, Nat.le_of_ble_eq_true rfl⟩ (fun v S1 hp => ?_) (fun E S1 hx => hx.elim)
  obtain ⟨hv, hS1⟩ := hp
  subst hv
  have hS1 := hS1.symm
  subst hS1
  refine z_istore_n (L' := [(2, .int (nI (zStab g))), (1, .int (nI (zPr g))), (0, .ref (60 + tp))]) X dG_dropOutdated_9 rfl (by decide) rfl ?_
  refine z_aload_n (j := 2) X dG_dropOutdated_10 rfl rfl ?_
  refine z_geti (C := RG) (T := TG) (N := 9) (k := 6) X (w_in inG) rfl rfl (kd_G htp) (by decide) (w_m lG_34) rfl rfl dG_dropOutdated_11 (hv := f6) ?_
  refine z_iload_n (j := 0) X dG_dropOutdated_14 rfl rfl ?_
  refine z_mmin X (w_m lG_64) dG_dropOutdated_15 (Nat.le_of_ble_eq_true rfl) (Nat.le_of_ble_eq_true rfl) (Nat.le_of_ble_eq_true rfl) (Nat.le_of_ble_eq_true rfl) ?_
  refine z_top (zMinN (by omega) (by omega)) ?_
  refine z_istore_n (L' := [(3, .int (nI (min (zBa g) (zStab g)))), (2, .int (nI (zStab g))), (1, .int (nI (zPr g))), (0, .ref (60 + tp))]) X dG_dropOutdated_18 rfl (by decide) rfl ?_
  refine z_iconst (v := (nI 0)) X dG_dropOutdated_19 (by decide) ?_
  refine z_istore (L' := [(4, .int (nI 0)), (3, .int (nI (min (zBa g) (zStab g)))), (2, .int (nI (zStab g))), (1, .int (nI (zPr g))), (0, .ref (60 + tp))]) X dG_dropOutdated_20 (by decide) rfl ?_
  refine z_iload_n (j := 2) X dG_dropOutdated_22 rfl rfl ?_
  refine z_iconst (v := (nI 1)) X dG_dropOutdated_23 (by decide) ?_
  refine z_isub X dG_dropOutdated_24 ?_
  refine z_istore (L' := [(5, .int (zPd (zStab g))), (4, .int (nI 0)), (3, .int (nI (min (zBa g) (zStab g)))), (2, .int (nI (zStab g))), (1, .int (nI (zPr g))), (0, .ref (60 + tp))]) X dG_dropOutdated_25 (by decide) rfl ?_
  refine z_loc [0, 1, 2, 3, 4, 5] rfl ?_
  exact loop (zStab g + 1) (zStab g) S g.2.2 0 (by omega) (Nat.le_refl _) ⟨by decide, fun k hk9 => ⟨(fun h => by rw [Nat.zero_testBit] at h; cases h), (fun h => by obtain ⟨j, a1, a2, -⟩ := h; omega)⟩⟩ (fun j => by rw [if_neg (fun h => by omega)]) hO hW zfr.rf rfl
end
section
/-! what stays when other names change -/
/-- the two stores agree at a name -/
def zAg (S S' : zS) (n : Nat) : Prop := S'.1 n = S.1 n ∧ S'.2.1 n = S.2.1 n ∧ S'.2.2.1 n = S.2.2.1 n
theorem zfr.ag {own : Nat → Prop} {S S' : zS} (h : zfr own S S') {n : Nat} (hn : ¬ own n) : zAg S S' n := ⟨h.1 n hn, (h.2 n hn).1, (h.2 n hn).2.1⟩
theorem zAg.d {S S' : zS} {n : Nat} (h : zAg S S' n) {v : Bool} (hv : S.1 n = v) : S'.1 n = v := h.1.trans hv
theorem zAg.i {S S' : zS} {n k : Nat} (h : zAg S S' n) {v : Int32} (hv : S.2.1 n k = v) : S'.2.1 n k = v := by rw [h.2.1]; exact hv
theorem zAg.p {S S' : zS} {n k : Nat} (h : zAg S S' n) {v : Option Nat} (hv : S.2.2.1 n k = v) : S'.2.2.1 n k = v := by rw [h.2.2]; exact hv
theorem zEat_fr {S S' : zS} {x : Nat} {e : zE} (h : zEat S x e) (a : zAg S S' x) : zEat S' x e := by
  obtain ⟨h1, h2, h3, h4, h5, h6⟩ := h
  exact ⟨a.d h1, a.i h2, a.i h3, a.i h4, a.i h5, a.i h6⟩
theorem zLogA_fr {S S' : zS} {t : Nat} {g : zLg} (h : zLogA S t g) (hW : zLogW g) (a : ∀ n, zOwnG t n → zAg S S' n) : zLogA S' t g := by
  obtain ⟨h1, h2, f0, f1, f2, f3, f4, f5, f6, f7, f8, hent, hee⟩ := h
  have a1 := a (60 + t) (Or.inl rfl)
  have a2 := a (80 + t) (Or.inr (Or.inl rfl))
  refine ⟨a1.d h1, a2.d h2, a1.i f0, a1.i f1, a1.i f2, a1.p f3, a1.i f4, a1.i f5, a1.i f6, a1.i f7, a1.i f8, fun o => a2.p (hent o), fun o e he => zEat_fr (hee o e he) (a _ (Or.inr (Or.inr ?_)))⟩
  have ho : o < 60 := by
    rcases Nat.lt_or_ge o 60 with q | q
    · exact q
    · rw [hW.2.2.2.2.2.2.2.1 o (Nat.le_trans hW.2.2.2.2.2.1 q)] at he; cases he
  omega
theorem zSsA_fr {S S' : zS} {i : Nat} {u : zSn} (h : zSsA S i u) (a : ∀ n, zOwnS i n → zAg S S' n) : zSsA S' i u := by
  obtain ⟨h1, h2, h3, f0, f1, f2, f3, he, ho⟩ := h
  have a1 := a (10 + i) (Or.inl rfl)
  have a2 := a (20 + i) (Or.inr (Or.inl rfl))
  have a3 := a (30 + i) (Or.inr (Or.inr rfl))
  exact ⟨a1.d h1, a2.d h2, a3.d h3, a1.i f0, a1.i f1, a1.p f2, a1.p f3, fun t ht => a2.i (he t ht), fun k hk => a3.i (ho k hk)⟩
theorem zGrA_fr {S S' : zS} {i : Nat} {u : zGr} (h : zGrA S i u) (a : ∀ n, zOwnH i n → zAg S S' n) : zGrA S' i u := by
  obtain ⟨h1, h2, h3, h4, h5, f0, f1, f2, f3, f4, q1, q2, q3, q4⟩ := h
  have a1 := a (40 + i) (Or.inl rfl)
  have a2 := a (42 + i) (Or.inr (Or.inl rfl))
  have a3 := a (44 + i) (Or.inr (Or.inr (Or.inl rfl)))
  have a4 := a (46 + i) (Or.inr (Or.inr (Or.inr (Or.inl rfl))))
  have a5 := a (48 + i) (Or.inr (Or.inr (Or.inr (Or.inr rfl))))
  exact ⟨a1.d h1, a2.d h2, a3.d h3, a4.d h4, a5.d h5, a1.i f0, a1.p f1, a1.p f2, a1.p f3, a1.p f4, fun k hk => a2.i (q1 k hk), fun k hk => a3.i (q2 k hk), fun k hk => a4.i (q3 k hk), fun k hk => a5.i (q4 k hk)⟩
theorem zTop_fr {S S' : zS} {b : zBr} (h : zTop S b) (a : ∀ n, 1 ≤ n → n < 8 → zAg S S' n) : zTop S' b := by
  obtain ⟨hn, t0, t1, t2, t3, t4, t5, q6, q7, q8, q9, q10, hpt, hlg, hse, hcu, hop, hgr⟩ := h
  have a1 := a 1 (by omega) (by omega)
  exact ⟨fun n h1 h2 => (a n h1 h2).d (hn n h1 h2), a1.p t0, a1.p t1, a1.p t2, a1.p t3, a1.p t4, a1.p t5, a1.i q6, a1.i q7, a1.i q8, a1.i q9, a1.i q10, fun t ht => (a 2 (by omega) (by omega)).i (hpt t ht), fun t ht => (a 3 (by omega) (by omega)).p (hlg t ht), fun t ht => (a 4 (by omega) (by omega)).p (hse t ht), fun t ht => (a 5 (by omega) (by omega)).i (hcu t ht), fun t ht => (a 6 (by omega) (by omega)).i (hop t ht), fun t ht => (a 7 (by omega) (by omega)).p (hgr t ht)⟩
theorem zTop_6 {S : zS} {b : zBr} {v : Int32} (h : zTop S b) : zTop (zsi S 1 6 v) (b.1, b.2.1, b.2.2.1, b.2.2.2.1, b.2.2.2.2.1, b.2.2.2.2.2.1, v, b.2.2.2.2.2.2.2.1, b.2.2.2.2.2.2.2.2.1, b.2.2.2.2.2.2.2.2.2.1, b.2.2.2.2.2.2.2.2.2.2) := by
  obtain ⟨hn, t0, t1, t2, t3, t4, t5, q6, q7, q8, q9, q10, hpt, hlg, hse, hcu, hop, hgr⟩ := h
  exact ⟨hn, t0, t1, t2, t3, t4, t5, rd_s, rd_i (Or.inr (by decide)) q7, rd_i (Or.inr (by decide)) q8, rd_i (Or.inr (by decide)) q9, rd_i (Or.inr (by decide)) q10, fun t ht => rd_i (Or.inl (by decide)) (hpt t ht), hlg, hse, fun t ht => rd_i (Or.inl (by decide)) (hcu t ht), fun t ht => rd_i (Or.inl (by decide)) (hop t ht), hgr⟩
theorem zTop_7 {S : zS} {b : zBr} {v : Int32} (h : zTop S b) : zTop (zsi S 1 7 v) (b.1, b.2.1, b.2.2.1, b.2.2.2.1, b.2.2.2.2.1, b.2.2.2.2.2.1, b.2.2.2.2.2.2.1, v, b.2.2.2.2.2.2.2.2.1, b.2.2.2.2.2.2.2.2.2.1, b.2.2.2.2.2.2.2.2.2.2) := by
  obtain ⟨hn, t0, t1, t2, t3, t4, t5, q6, q7, q8, q9, q10, hpt, hlg, hse, hcu, hop, hgr⟩ := h
  exact ⟨hn, t0, t1, t2, t3, t4, t5, rd_i (Or.inr (by decide)) q6, rd_s, rd_i (Or.inr (by decide)) q8, rd_i (Or.inr (by decide)) q9, rd_i (Or.inr (by decide)) q10, fun t ht => rd_i (Or.inl (by decide)) (hpt t ht), hlg, hse, fun t ht => rd_i (Or.inl (by decide)) (hcu t ht), fun t ht => rd_i (Or.inl (by decide)) (hop t ht), hgr⟩
theorem zTop_8 {S : zS} {b : zBr} {v : Int32} (h : zTop S b) : zTop (zsi S 1 8 v) (b.1, b.2.1, b.2.2.1, b.2.2.2.1, b.2.2.2.2.1, b.2.2.2.2.2.1, b.2.2.2.2.2.2.1, b.2.2.2.2.2.2.2.1, v, b.2.2.2.2.2.2.2.2.2.1, b.2.2.2.2.2.2.2.2.2.2) := by
  obtain ⟨hn, t0, t1, t2, t3, t4, t5, q6, q7, q8, q9, q10, hpt, hlg, hse, hcu, hop, hgr⟩ := h
  exact ⟨hn, t0, t1, t2, t3, t4, t5, rd_i (Or.inr (by decide)) q6, rd_i (Or.inr (by decide)) q7, rd_s, rd_i (Or.inr (by decide)) q9, rd_i (Or.inr (by decide)) q10, fun t ht => rd_i (Or.inl (by decide)) (hpt t ht), hlg, hse, fun t ht => rd_i (Or.inl (by decide)) (hcu t ht), fun t ht => rd_i (Or.inl (by decide)) (hop t ht), hgr⟩
theorem zTop_9 {S : zS} {b : zBr} {v : Int32} (h : zTop S b) : zTop (zsi S 1 9 v) (b.1, b.2.1, b.2.2.1, b.2.2.2.1, b.2.2.2.2.1, b.2.2.2.2.2.1, b.2.2.2.2.2.2.1, b.2.2.2.2.2.2.2.1, b.2.2.2.2.2.2.2.2.1, v, b.2.2.2.2.2.2.2.2.2.2) := by
  obtain ⟨hn, t0, t1, t2, t3, t4, t5, q6, q7, q8, q9, q10, hpt, hlg, hse, hcu, hop, hgr⟩ := h
  exact ⟨hn, t0, t1, t2, t3, t4, t5, rd_i (Or.inr (by decide)) q6, rd_i (Or.inr (by decide)) q7, rd_i (Or.inr (by decide)) q8, rd_s, rd_i (Or.inr (by decide)) q10, fun t ht => rd_i (Or.inl (by decide)) (hpt t ht), hlg, hse, fun t ht => rd_i (Or.inl (by decide)) (hcu t ht), fun t ht => rd_i (Or.inl (by decide)) (hop t ht), hgr⟩
theorem zTop_10 {S : zS} {b : zBr} {v : Int32} (h : zTop S b) : zTop (zsi S 1 10 v) (b.1, b.2.1, b.2.2.1, b.2.2.2.1, b.2.2.2.2.1, b.2.2.2.2.2.1, b.2.2.2.2.2.2.1, b.2.2.2.2.2.2.2.1, b.2.2.2.2.2.2.2.2.1, b.2.2.2.2.2.2.2.2.2.1, v) := by
  obtain ⟨hn, t0, t1, t2, t3, t4, t5, q6, q7, q8, q9, q10, hpt, hlg, hse, hcu, hop, hgr⟩ := h
  exact ⟨hn, t0, t1, t2, t3, t4, t5, rd_i (Or.inr (by decide)) q6, rd_i (Or.inr (by decide)) q7, rd_i (Or.inr (by decide)) q8, rd_i (Or.inr (by decide)) q9, rd_s, fun t ht => rd_i (Or.inl (by decide)) (hpt t ht), hlg, hse, fun t ht => rd_i (Or.inl (by decide)) (hcu t ht), fun t ht => rd_i (Or.inl (by decide)) (hop t ht), hgr⟩
theorem zAg_i {S : zS} {n k a : Nat} {x : Int32} (h : a ≠ n) : zAg S (zsi S n k x) a := ⟨rfl, (z2_o h).symm, rfl⟩
theorem zAg_p {S : zS} {n k a : Nat} {x : Option Nat} (h : a ≠ n) : zAg S (zsp S n k x) a := ⟨rfl, rfl, (z2_o h).symm⟩
theorem zAg.tr {S1 S2 S3 : zS} {n : Nat} (h : zAg S1 S2 n) (g : zAg S2 S3 n) : zAg S1 S3 n := ⟨g.1.trans h.1, g.2.1.trans h.2.1, g.2.2.trans h.2.2⟩
theorem zcnt_app {p : Nat → Bool} : ∀ {k o : Nat}, zcnt p (k + 1) o = zcnt p k o + (if p (o + k) = true then 1 else 0)
  | 0, o => by show (if p o = true then 1 else 0) + 0 = 0 + _; rw [Nat.add_zero, Nat.zero_add]; rfl
  | k + 1, o => by
    show (if p o = true then 1 else 0) + zcnt p (k + 1) (o + 1) = (if p o = true then 1 else 0) + zcnt p k (o + 1) + _
    rw [zcnt_app (k := k) (o := o + 1), show o + 1 + k = o + (k + 1) by omega]
    omega
theorem zcnt_step {p : Nat → Bool} {t : Nat} : zcnt p (t + 1) 0 = zcnt p t 0 + (if p t = true then 1 else 0) := by
  rw [zcnt_app, Nat.zero_add]
end
section
/-! CONTRACTS of LogBroker: markers, writing (rows by program) -/
set_option maxHeartbeats 600000 in
set_option maxRecDepth 100000 in
theorem mB_awaitsMarker (l : Launch) (D : va_G) (dA : Nat → ClassId) {S : zS} {b : zBr} {t : Nat} {q : Int32} (hB : zBrA S b) (hW : zBrW b) (ht : t < 12) : zMet l D vwCl zKK dA (zG0 D dA) yB_awaitsMarker (Cond.code yB_awaitsMarker cB_awaitsMarker 3 (some .boolean) :: zTs) { frames := 2, cells := 0, slots := 0, locals := 43 } 0 0 [.ref 1, .int (nI t), .int q] S (fun v S' => S' = S ∧ ((v = some (.int (nI 1)) ∧ zEx b t ∧ zHasU (b.2.1 t) q = true) ∨ (v = some (.int (nI 0)) ∧ ¬ (zEx b t ∧ zHasU (b.2.1 t) q = true)))) (fun _ _ => False) := by
  refine z_met (tys := ztys dA) (by decide) rfl zG0_K rfl (Nat.le_of_ble_eq_true rfl) (fun p e s m args below meth c A ad X hr hlocks hin hex => ?_)
  obtain ⟨hT, hLg, hSs, hGs, hnx, hnf⟩ := id hB
  obtain ⟨v1, v2, v3, v4, v5, v6, v7⟩ := id hW
  obtain ⟨hn, t0, t1, t2, t3, t4, t5, q6, q7, q8, q9, q10, hpt, hlg, hse, hcu, hop, hgr⟩ := id hT
  refine z_aload_n (j := 0) X dB_awaitsMarker_0 rfl rfl ?_
  refine z_getr (C := RB) (T := TB) (N := 11) (k := 1) X (w_in inB) rfl rfl rfl (by decide) (w_m lB_15) rfl rfl t1 dB_awaitsMarker_1 ?_
  refine z_iload_n (j := 1) X dB_awaitsMarker_4 rfl rfl ?_
  by_cases hc : t % 4 < b.1 (t / 4)
  · refine z_aald (t0 := 3) X rfl (by decide) (by decide) (by decide) rfl ht (by decide) (by rw [hlg t ht, if_pos hc]) dB_awaitsMarker_5 ?_
    refine z_ifnull X dB_awaitsMarker_6 ?_
    refine z_aload_n (j := 0) X dB_awaitsMarker_9 rfl rfl ?_
    refine z_getr (C := RB) (T := TB) (N := 11) (k := 1) X (w_in inB) rfl rfl rfl (by decide) (w_m lB_15) rfl rfl t1 dB_awaitsMarker_10 ?_
    refine z_iload_n (j := 1) X dB_awaitsMarker_13 rfl rfl ?_
    refine z_aald (t0 := 3) X rfl (by decide) (by decide) (by decide) rfl ht (by decide) (by rw [hlg t ht, if_pos hc]) dB_awaitsMarker_14 ?_
    refine z_iload_n (j := 2) X dB_awaitsMarker_15 rfl rfl ?_
    refine z_callV (n := 1) (As := [.int q]) (rest := []) X zG0_m (mG_hasUndecidedOf l D dA ht (hLg t ⟨ht, hc⟩) (v2 t ⟨ht, hc⟩)) (w_V X.2.2.2.2.1 lB_268 jG_hasUndecidedOf sG_hasUndecidedOf i_LogBroker_Log kG_hasUndecidedOf rfl rfl (by decide +kernel) ⟨Nat.le_of_ble_eq_true rfl, Nat.le_of_ble_eq_true rfl⟩) (kd_G ht) rfl rfl rfl rfl (Nat.le_of_ble_eq_true rfl) dB_awaitsMarker_16 ⟨Nat.le_of_ble_eq_true rfl, Nat.le_of_ble_eq_true rfl⟩ (fun v S9 hp => ?_) (fun E S1 hx => hx.elim)
    obtain ⟨hv, hS9⟩ := hp
    subst hv
    have hS9 := hS9.symm
    subst hS9
    by_cases hu : zHasU (b.2.1 t) q = true
    · refine z_top (if_pos hu) ?_
      refine z_if_eq (tgt := 26) X dB_awaitsMarker_19 (by decide) (fun c_19 => absurd c_19 (by decide)) (fun c_19 => ?_)
      refine z_iconst (v := (nI 1)) X dB_awaitsMarker_22 (by decide) ?_
      refine z_goto (tgt := 27) X dB_awaitsMarker_23 (by decide) ?_
      refine z_zret X hlocks hr dB_awaitsMarker_27 (by first | rfl | decide) (by omega) (by omega) ?_
      exact ⟨rfl, Or.inl ⟨rfl, ⟨ht, hc⟩, hu⟩⟩
    · refine z_top (if_neg hu) ?_
      refine z_if_eq (tgt := 26) X dB_awaitsMarker_19 (by decide) (fun c_19 => ?_) (fun c_19 => absurd c_19 (by decide))
      refine z_iconst (v := (nI 0)) X dB_awaitsMarker_26 (by decide) ?_
      refine z_zret X hlocks hr dB_awaitsMarker_27 (by first | rfl | decide) (by omega) (by omega) ?_
      exact ⟨rfl, Or.inr ⟨rfl, fun h => hu h.2⟩⟩
  · refine z_aaldN (t0 := 3) X rfl (by decide) (by decide) (by decide) rfl ht (by decide) (by rw [hlg t ht, if_neg hc]) dB_awaitsMarker_5 ?_
    refine z_ifnullN (tgt := 26) X dB_awaitsMarker_6 (by decide) ?_
    refine z_iconst (v := (nI 0)) X dB_awaitsMarker_26 (by decide) ?_
    refine z_zret X hlocks hr dB_awaitsMarker_27 (by first | rfl | decide) (by omega) (by omega) ?_
    exact ⟨rfl, Or.inr ⟨rfl, fun h => hc h.1.2⟩⟩

set_option maxHeartbeats 600000 in
set_option maxRecDepth 100000 in
theorem mB_mustHaveRoomForMarkers (l : Launch) (D : va_G) (dA : Nat → ClassId) {S : zS} {b : zBr} {q : Int32} (hl0 : l.stackTraces = false) (hB : zBrA S b) (hW : zBrW b) : zMet l D vwCl zKK dA (zG0 D dA) yB_mustHaveRoomForMarkers (Cond.code yB_mustHaveRoomForMarkers cB_mustHaveRoomForMarkers 3 none :: zTs) { frames := 6, cells := 1, slots := 6, locals := 82 } 1 6 [.ref 1, .int q] S (fun v S' => S' = S ∧ v = none ∧ ∀ t, zEx b t → zHasU (b.2.1 t) q = true → (b.2.1 t).2.1.2 < 60) (fun E S' => E = "java/lang/UnsupportedOperationException" ∧ S' = S ∧ ∃ t, zEx b t ∧ zHasU (b.2.1 t) q = true ∧ ¬ (b.2.1 t).2.1.2 < 60) := by
  refine z_met (tys := ztys dA) (by decide) rfl zG0_K rfl (Nat.le_of_ble_eq_true rfl) (fun p e s m args below meth c A ad X hr hlocks hin hex => ?_)
  obtain ⟨hT, hLg, hSs, hGs, hnx, hnf⟩ := id hB
  obtain ⟨v1, v2, v3, v4, v5, v6, v7⟩ := id hW
  obtain ⟨hn, t0, t1, t2, t3, t4, t5, q6, q7, q8, q9, q10, hpt, hlg, hse, hcu, hop, hgr⟩ := id hT
  have loop : ∀ (f t : Nat), 12 - t < f → t ≤ 12 → (∀ t2, t2 < t → zEx b t2 → zHasU (b.2.1 t2) q = true → (b.2.1 t2).2.1.2 < 60) → AW p l e { frames := 6, cells := 1, slots := 6, locals := 82 } s m args below meth c D vwCl zKK dA A (ad, S) 3 S 0 0 (vx_MQ below (zQc D vwCl zKK dA A ad S (fun v S' => S' = S ∧ v = none ∧ ∀ t, zEx b t → zHasU (b.2.1 t) q = true → (b.2.1 t).2.1.2 < 60)) (zXC D vwCl zKK dA A ad S (fun E S' => E = "java/lang/UnsupportedOperationException" ∧ S' = S ∧ ∃ t, zEx b t ∧ zHasU (b.2.1 t) q = true ∧ ¬ (b.2.1 t).2.1.2 < 60)) args s 1 6 A) 2 [(2, .int (nI t)), (0, .ref 1), (1, .int q)] [] := by
    intro f
    induction f with
    | zero => intro t h0; omega
    | succ f ih =>
    intro t h0 hi2 hi3
    refine z_iload_n (j := 0) X dB_mustHaveRoomForMarkers_2 rfl rfl ?_
    refine z_bipush (v := (nI 12)) X dB_mustHaveRoomForMarkers_3 (by decide) ?_
    refine z_icmp_geN (tgt := 46) X dB_mustHaveRoomForMarkers_5 (by decide) (by omega) (by omega) (fun c_5 => ?_) (fun c_5 => ?_)
    · refine z_vret X hlocks hr dB_mustHaveRoomForMarkers_46 (by omega) (by omega) ?_
      exact ⟨rfl, rfl, fun t2 h2 h3 => hi3 t2 (by have := h2.1; omega) h2 h3⟩
    · refine z_aload_n (j := 1) X dB_mustHaveRoomForMarkers_8 rfl rfl ?_
      refine z_iload_n (j := 0) X dB_mustHaveRoomForMarkers_9 rfl rfl ?_
      refine z_iload_n (j := 2) X dB_mustHaveRoomForMarkers_10 rfl rfl ?_
      refine z_callV (n := 2) (As := [.int (nI t), .int q]) (rest := []) X zG0_m (mB_awaitsMarker l D dA (t := t) hB hW (by omega)) (w_V X.2.2.2.2.1 lB_263 jB_awaitsMarker sB_awaitsMarker i_LogBroker kB_awaitsMarker rfl rfl (by decide +kernel) ⟨Nat.le_of_ble_eq_true rfl, Nat.le_of_ble_eq_true rfl⟩) rfl rfl rfl rfl rfl (Nat.le_of_ble_eq_true rfl) dB_mustHaveRoomForMarkers_11 ⟨Nat.le_of_ble_eq_true rfl, Nat.le_of_ble_eq_true rfl⟩ (fun v S9 hp => ?_) (fun E S1 hx => hx.elim)
      obtain ⟨hS9, hp⟩ := hp
      have hS9 := hS9.symm
      subst hS9
      rcases hp with ⟨hv, hc⟩ | ⟨hv, hc⟩ <;> subst hv
      · refine z_if_eq (tgt := 40) X dB_mustHaveRoomForMarkers_14 (by decide) (fun c_14 => absurd c_14 (by decide)) (fun c_14 => ?_)
        refine z_aload_n (j := 1) X dB_mustHaveRoomForMarkers_17 rfl rfl ?_
        refine z_getr (C := RB) (T := TB) (N := 11) (k := 1) X (w_in inB) rfl rfl rfl (by decide) (w_m lB_15) rfl rfl t1 dB_mustHaveRoomForMarkers_18 ?_
        refine z_iload_n (j := 0) X dB_mustHaveRoomForMarkers_21 rfl rfl ?_
        refine z_aald (t0 := 3) X rfl (by decide) (by decide) (by decide) rfl (by omega) (by decide) (by rw [hlg t (by omega), if_pos hc.1.2]) dB_mustHaveRoomForMarkers_22 ?_
        refine z_callV (n := 0) (As := []) (rest := []) X zG0_m (mG_isFull l D dA (by omega) (hLg t hc.1) (v2 t hc.1)) (w_V X.2.2.2.2.1 lB_112 jG_isFull sG_isFull i_LogBroker_Log kG_isFull rfl rfl (by decide +kernel) ⟨Nat.le_of_ble_eq_true rfl, Nat.le_of_ble_eq_true rfl⟩) (kd_G (by omega)) rfl rfl rfl rfl (Nat.le_of_ble_eq_true rfl) dB_mustHaveRoomForMarkers_23 ⟨Nat.le_of_ble_eq_true rfl, Nat.le_of_ble_eq_true rfl⟩ (fun v S9 hp => ?_) (fun E S1 hx => hx.elim)
        obtain ⟨hv, hS9⟩ := hp
        subst hv
        have hS9 := hS9.symm
        subst hS9
        by_cases hu : 60 ≤ (b.2.1 t).2.1.2
        · refine z_top (if_pos hu) ?_
          refine z_if_eq (tgt := 40) X dB_mustHaveRoomForMarkers_26 (by decide) (fun c_26 => absurd c_26 (by decide)) (fun c_26 => ?_)
          exact z_thUOEW (text := "no room for a marker") X hl0 (by decide +kernel) dB_mustHaveRoomForMarkers_29 dB_mustHaveRoomForMarkers_32 dB_mustHaveRoomForMarkers_33 dB_mustHaveRoomForMarkers_36 dB_mustHaveRoomForMarkers_39 hex (Nat.le_of_ble_eq_true rfl) (Nat.le_of_ble_eq_true rfl) (Nat.le_of_ble_eq_true rfl) (Nat.le_of_ble_eq_true rfl) hlocks (by omega) (by omega) ⟨rfl, rfl, t, hc.1, hc.2, by omega⟩
        · refine z_top (if_neg hu) ?_
          refine z_if_eq (tgt := 40) X dB_mustHaveRoomForMarkers_26 (by decide) (fun c_26 => ?_) (fun c_26 => absurd c_26 (by decide))
          refine z_iinc (j := 0) (v := (nI (t + 1))) (L' := [(2, .int (nI (t + 1))), (0, .ref 1), (1, .int q)]) X dB_mustHaveRoomForMarkers_40 rfl (nI_1 t) (by decide) rfl ?_
          refine z_goto (tgt := 2) X dB_mustHaveRoomForMarkers_43 (by decide) ?_
          exact ih (t + 1) (by omega) (by omega) (fun t2 h1 h2 h3 => by
            by_cases e9 : t2 = t
            · subst e9; omega
            · exact hi3 t2 (by omega) h2 h3)
      · refine z_if_eq (tgt := 40) X dB_mustHaveRoomForMarkers_14 (by decide) (fun c_14 => ?_) (fun c_14 => absurd c_14 (by decide))
        refine z_iinc (j := 0) (v := (nI (t + 1))) (L' := [(2, .int (nI (t + 1))), (0, .ref 1), (1, .int q)]) X dB_mustHaveRoomForMarkers_40 rfl (nI_1 t) (by decide) rfl ?_
        refine z_goto (tgt := 2) X dB_mustHaveRoomForMarkers_43 (by decide) ?_
        exact ih (t + 1) (by omega) (by omega) (fun t2 h1 h2 h3 => by
          by_cases e9 : t2 = t
          · subst e9; exact absurd ⟨h2, h3⟩ hc
          · exact hi3 t2 (by omega) h2 h3)
  refine z_iconst (v := (nI 0)) X dB_mustHaveRoomForMarkers_0 (by decide) ?_
  refine z_istore_n (L' := [(2, .int (nI 0)), (0, .ref 1), (1, .int q)]) X dB_mustHaveRoomForMarkers_1 rfl (by decide) rfl ?_
  exact loop 13 0 (by omega) (by omega) (fun t2 h => by omega)

set_option maxHeartbeats 600000 in
set_option maxRecDepth 100000 in
theorem mB_write (l : Launch) (D : va_G) (dA : Nat → ClassId) {S : zS} {b : zBr} {t : Nat} {g : zLg} {x : zE} (hT : zTop S b) (ht : t < 12) (hO : zLogA S t g) (hW : zLogW g) (hen : g.2.1.2 < 60) (hx : zEat S (200 + 60 * t + g.2.1.2) x) : zMet l D vwCl zKK dA (zG0 D dA) yB_write (Cond.code yB_write cB_write 4 (some .int) :: zTs) { frames := 2, cells := 0, slots := 0, locals := 44 } 0 0 [.ref 1, .ref (60 + t), .ref (200 + 60 * t + g.2.1.2)] S (fun v S' => v = some (.int (nI g.2.1.2)) ∧ zTop S' (b.1, b.2.1, b.2.2.1, b.2.2.2.1, b.2.2.2.2.1, b.2.2.2.2.2.1, b.2.2.2.2.2.2.1 + nI 1, b.2.2.2.2.2.2.2.1, b.2.2.2.2.2.2.2.2.1, b.2.2.2.2.2.2.2.2.2.1 + nI (zPr (zApp g x) - zPr (zShort (zStab (zApp g x)) 61 (zApp g x))), b.2.2.2.2.2.2.2.2.2.2) ∧ zLogA S' t (zShort (zStab (zApp g x)) 61 (zApp g x)) ∧ zLogW (zShort (zStab (zApp g x)) 61 (zApp g x)) ∧ zfr (fun n => n = 1 ∨ zOwnG t n) S S' ∧ S'.1 = S.1) (fun _ _ => False) := by
  refine z_met (tys := ztys dA) (by decide) rfl zG0_K rfl (Nat.le_of_ble_eq_true rfl) (fun p e s m args below meth c A ad X hr hlocks hin hex => ?_)
  refine z_aload_n (j := 1) X dB_write_0 rfl rfl ?_
  refine z_aload_n (j := 2) X dB_write_1 rfl rfl ?_
  refine z_callV (n := 1) (As := [.ref (200 + 60 * t + g.2.1.2)]) (rest := []) X zG0_m (mG_append l D dA ht hO hW hen hx) (w_V X.2.2.2.2.1 lB_274 jG_append sG_append i_LogBroker_Log kG_append rfl rfl (by decide +kernel) ⟨Nat.le_of_ble_eq_true rfl, Nat.le_of_ble_eq_true rfl⟩) (kd_G ht) rfl rfl rfl rfl (Nat.le_of_ble_eq_true rfl) dB_write_2 ⟨Nat.le_of_ble_eq_true rfl, Nat.le_of_ble_eq_true rfl⟩ (fun v S1 hp => ?_) (fun E S1 hx => hx.elim)
  obtain ⟨hv, hA1, hf1, hd1⟩ := hp
  subst hv
  have hT1 : zTop S1 b := zTop_fr hT (fun n h1 h2 => hf1.ag (fun h => by unfold zOwnG at h; omega))
  obtain ⟨hn, t0, t1, t2, t3, t4, t5, q6, q7, q8, q9, q10, hpt, hlg, hse, hcu, hop, hgr⟩ := id hT1
  refine z_istore_n (L' := [(3, .int (nI g.2.1.2)), (0, .ref 1), (1, .ref (60 + t)), (2, .ref (200 + 60 * t + g.2.1.2))]) X dB_write_5 rfl (by decide) rfl ?_
  refine z_aload_n (j := 1) X dB_write_6 rfl rfl ?_
  refine z_dup X dB_write_7 rfl ?_
  refine z_geti (C := RB) (T := TB) (N := 11) (k := 6) X (w_in inB) rfl rfl rfl (by decide) (w_m lB_236) rfl rfl dB_write_8 (hv := q6) ?_
  refine z_iconst (v := (nI 1)) X dB_write_11 (by decide) ?_
  refine z_iadd X dB_write_12 ?_
  refine z_puti (C := RB) (T := TB) (N := 11) (k := 6) X (w_in inB) rfl rfl rfl (by decide) (w_m lB_236) rfl tyB tyB_ok nmB rfl rfl (ty := .int) (by decide +kernel) rfl rfl dB_write_13 ?_
  refine z_aload_n (j := 1) X dB_write_16 rfl rfl ?_
  refine z_dup X dB_write_17 rfl ?_
  refine z_geti (C := RB) (T := TB) (N := 11) (k := 9) X (w_in inB) rfl rfl rfl (by decide) (w_m lB_242) rfl rfl dB_write_18 (hv := (rd_i (Or.inr (by decide)) q9)) ?_
  refine z_aload_n (j := 2) X dB_write_21 rfl rfl ?_
  have hT1' := zTop_6 (v := b.2.2.2.2.2.2.1 + nI 1) hT1
  have hA1' : zLogA (zsi S1 1 6 (b.2.2.2.2.2.2.1 + nI 1)) t (zApp g x) := zLogA_fr hA1 (zLogW_app hW hen) (fun n hn9 => zAg_i (fun e => by unfold zOwnG at hn9; omega))
  refine z_callV (n := 0) (As := []) (rest := [.int b.2.2.2.2.2.2.2.2.2.1, .ref 1]) X zG0_m (mG_shorten l D dA ht hA1' (zLogW_app hW hen)) (w_V X.2.2.2.2.1 lB_278 jG_shorten sG_shorten i_LogBroker_Log kG_shorten rfl rfl (by decide +kernel) ⟨Nat.le_of_ble_eq_true rfl, Nat.le_of_ble_eq_true rfl⟩) (kd_G ht) rfl rfl rfl rfl (Nat.le_of_ble_eq_true rfl) dB_write_22 ⟨Nat.le_of_ble_eq_true rfl, Nat.le_of_ble_eq_true rfl⟩ (fun v S2 hp => ?_) (fun E S1 hx => hx.elim)
  obtain ⟨hv, hA2, hW2, hf2, hd2⟩ := hp
  subst hv
  have hT2 := zTop_fr (S' := S2) hT1' (fun n h1 h2 => hf2.ag (fun h => by unfold zOwnG at h; omega))
  refine z_iadd X dB_write_25 ?_
  refine z_puti (C := RB) (T := TB) (N := 11) (k := 9) X (w_in inB) rfl rfl rfl (by decide) (w_m lB_242) rfl tyB tyB_ok nmB rfl rfl (ty := .int) (by decide +kernel) rfl rfl dB_write_26 ?_
  refine z_iload_n (j := 0) X dB_write_29 rfl rfl ?_
  refine z_iret X hlocks hr dB_write_30 (by omega) (by omega) ?_
  exact ⟨rfl, zTop_9 hT2, zLogA_fr hA2 hW2 (fun n hn9 => zAg_i (fun e => by unfold zOwnG at hn9; omega)), hW2, ((hf1.mono (o2 := fun n => n = 1 ∨ zOwnG t n) (fun n h => Or.inr h)).tr (zfr.i (Or.inl rfl))).tr ((hf2.mono (o2 := fun n => n = 1 ∨ zOwnG t n) (fun n h => Or.inr h)).tr (zfr.i (Or.inl rfl))), hd2.trans hd1⟩

set_option maxHeartbeats 600000 in
set_option maxRecDepth 100000 in
theorem mB_openTransactions (l : Launch) (D : va_G) (dA : Nat → ClassId) {S : zS} {b : zBr} (hB : zBrA S b) (hW : zBrW b) : zMet l D vwCl zKK dA (zG0 D dA) yB_openTransactions (Cond.code yB_openTransactions cB_openTransactions 3 (some .int) :: zTs) { frames := 0, cells := 0, slots := 0, locals := 0 } 0 0 [.ref 1] S (fun v S' => S' = S ∧ v = some (.int (nI (zcnt (fun i => decide ((b.2.2.1 i).2.1 = nI 1)) 6 0)))) (fun _ _ => False) := by
  refine z_met (tys := ztys dA) (by decide) rfl zG0_K rfl (Nat.le_of_ble_eq_true rfl) (fun p e s m args below meth c A ad X hr hlocks hin hex => ?_)
  obtain ⟨hT, hLg, hSs, hGs, hnx, hnf⟩ := id hB
  obtain ⟨v1, v2, v3, v4, v5, v6, v7⟩ := id hW
  obtain ⟨hn, t0, t1, t2, t3, t4, t5, q6, q7, q8, q9, q10, hpt, hlg, hse, hcu, hop, hgr⟩ := id hT
  have loop : ∀ (f t n9 : Nat), 6 - t < f → t ≤ 6 → n9 ≤ t → n9 = zcnt (fun i => decide ((b.2.2.1 i).2.1 = nI 1)) t 0 → AW p l e { frames := 0, cells := 0, slots := 0, locals := 0 } s m args below meth c D vwCl zKK dA A (ad, S) 3 S 0 0 (vx_MQ below (zQc D vwCl zKK dA A ad S (fun v S' => S' = S ∧ v = some (.int (nI (zcnt (fun i => decide ((b.2.2.1 i).2.1 = nI 1)) 6 0))))) (zXC D vwCl zKK dA A ad S (fun _ _ => False)) args s 0 0 A) 4 [(2, .int (nI t)), (1, .int (nI n9)), (0, .ref 1)] [] := by
    intro f
    induction f with
    | zero => intro t n9 h0; omega
    | succ f ih =>
    intro t n9 h0 hi2 hi3 hn9
    refine z_iload_n (j := 0) X dB_openTransactions_4 rfl rfl ?_
    refine z_bipush (v := (nI 6)) X dB_openTransactions_5 (by decide) ?_
    refine z_icmp_geN (tgt := 31) X dB_openTransactions_7 (by decide) (by omega) (by omega) (fun c_7 => ?_) (fun c_7 => ?_)
    · refine z_iload_n (j := 1) X dB_openTransactions_31 rfl rfl ?_
      refine z_iret X hlocks hr dB_openTransactions_32 (by omega) (by omega) ?_
      refine ⟨rfl, ?_⟩
      have e6 : t = 6 := by omega
      subst e6
      rw [hn9]
    · refine z_aload_n (j := 2) X dB_openTransactions_10 rfl rfl ?_
      refine z_getr (C := RB) (T := TB) (N := 11) (k := 2) X (w_in inB) rfl rfl rfl (by decide) (w_m lB_21) rfl rfl t2 dB_openTransactions_11 ?_
      refine z_iload_n (j := 0) X dB_openTransactions_14 rfl rfl ?_
      refine z_aald (t0 := 4) X rfl (by decide) (by decide) (by decide) rfl (by omega) (by decide) (hse t (by omega)) dB_openTransactions_15 ?_
      refine z_geti (C := RS) (T := TS) (N := 4) (k := 1) X (w_in inS) rfl rfl (kd_S (by omega)) (by decide) (w_m lB_59) rfl rfl dB_openTransactions_16 (hv := (hSs t (by omega)).2.2.2.2.1) ?_
      refine z_if_eq (tgt := 25) X dB_openTransactions_19 (by decide) (fun c_19 => ?_) (fun c_19 => ?_)
      · have hon : ¬ (b.2.2.1 t).2.1 = nI 1 := by rw [c_19]; decide
        refine z_iinc (j := 0) (v := (nI (t + 1))) (L' := [(2, .int (nI (t + 1))), (1, .int (nI n9)), (0, .ref 1)]) X dB_openTransactions_25 rfl (nI_1 t) (by decide) rfl ?_
        refine z_goto (tgt := 4) X dB_openTransactions_28 (by decide) ?_
        refine z_loc [0, 1, 2] rfl ?_
        exact ih (t + 1) n9 (by omega) (by omega) (by omega) (by
          have h9 := (zcnt_step (p := fun i => decide ((b.2.2.1 i).2.1 = nI 1)) (t := t))
          rw [h9, if_neg (fun h => hon (of_decide_eq_true h))]; omega)
      · have hon : (b.2.2.1 t).2.1 = nI 1 := (v4 t (by omega)).2.resolve_left (fun h => c_19 (h.trans nI_0))
        refine z_iinc (j := 1) (v := (nI (n9 + 1))) (L' := [(1, .int (nI (n9 + 1))), (2, .int (nI t)), (0, .ref 1)]) X dB_openTransactions_22 rfl (nI_1 n9) (by decide) rfl ?_
        refine z_iinc (j := 1) (v := (nI (t + 1))) (L' := [(2, .int (nI (t + 1))), (1, .int (nI (n9 + 1))), (0, .ref 1)]) X dB_openTransactions_25 rfl (nI_1 t) (by decide) rfl ?_
        refine z_goto (tgt := 4) X dB_openTransactions_28 (by decide) ?_
        refine z_loc [0, 1, 2] rfl ?_
        exact ih (t + 1) (n9 + 1) (by omega) (by omega) (by omega) (by
          have h9 := (zcnt_step (p := fun i => decide ((b.2.2.1 i).2.1 = nI 1)) (t := t))
          rw [h9, if_pos (decide_eq_true hon)]; omega)
  refine z_iconst (v := (nI 0)) X dB_openTransactions_0 (by decide) ?_
  refine z_istore_n (L' := [(1, .int (nI 0)), (0, .ref 1)]) X dB_openTransactions_1 rfl (by decide) rfl ?_
  refine z_iconst (v := (nI 0)) X dB_openTransactions_2 (by decide) ?_
  refine z_istore_n (L' := [(2, .int (nI 0)), (1, .int (nI 0)), (0, .ref 1)]) X dB_openTransactions_3 rfl (by decide) rfl ?_
  exact loop 7 0 0 (by omega) (by omega) (by omega) rfl
end
section
/-! what the calls answer: a code (0 an answer, else which exception, as the law's helpers number them) and the answer -/
def zB (c : Bool) : Int32 := if c = true then nI 1 else nI 0
def zTpOf (b : zBr) (x : Int32) : Option Nat := if 0 ≤ x.toInt ∧ x.toInt < 12 ∧ x.toNatClampNeg % 4 < b.1 (x.toNatClampNeg / 4) then some x.toNatClampNeg else none
theorem zTpOf_s {b : zBr} {t : Nat} (h : zEx b t) : zTpOf b (nI t) = some t := by
  unfold zTpOf
  have h1 := h.1
  rw [nI_clamp (by omega), nI_toInt (by omega), if_pos ⟨by omega, by omega, h.2⟩]
theorem zTpOf_n {b : zBr} {x : Int32} (h : ¬ ∃ t, zEx b t ∧ x = nI t) : zTpOf b x = none := by
  unfold zTpOf
  refine if_neg (fun q => h ?_)
  obtain ⟨q1, q2, q3⟩ := q
  rcases pk_ix x (n := 12) (by decide) with e | e | ⟨j, e, rfl⟩
  · exact absurd e (by rw [Int32.lt_iff_toInt_lt, Int32.toInt_zero]; omega)
  · exact absurd e (by rw [Int32.le_iff_toInt_le, nI_toInt (by decide)]; omega)
  · rw [nI_clamp (by omega)] at q3
    exact ⟨j, ⟨e, q3⟩, rfl⟩
theorem zIn {y : Int32} {st en : Nat} (hen : en < 2 ^ 31) (hst : st < 2 ^ 31) (h1 : ¬ y < nI st) (h2 : y ≤ nI en) : ∃ o, y = nI o ∧ st ≤ o ∧ o ≤ en := by
  have h0 : ¬ y < 0 := fun q => h1 (by
    rw [Int32.lt_iff_toInt_lt] at q ⊢
    rw [Int32.toInt_zero] at q
    rw [nI_toInt hst]
    omega)
  obtain ⟨j, hj, rfl⟩ := nI_of h0
  exact ⟨j, rfl, Nat.not_lt.mp (fun q => h1 ((nI_ltI hj hst).mpr q)), (nI_leI hj hen).mp h2⟩
/-- x is one of 0 .. n-1 -/
theorem zRg {x : Int32} {n : Nat} (hn : n < 2 ^ 31) (h1 : ¬ x < nI 0) (h2 : ¬ nI n < x) : ∃ j, x = nI j ∧ j ≤ n := by
  obtain ⟨j, e, -, h⟩ := zIn hn (by decide) h1 (Int32.not_lt.mp h2)
  exact ⟨j, e, h⟩
def sFetch (b : zBr) (x y : Int32) (c : Bool) : Nat × Int32 := match zTpOf b x with
  | none => (1, 0)
  | some t => if y < nI (b.2.1 t).2.1.1 ∨ nI (b.2.1 t).2.1.2 < y then (3, 0) else match zVis (b.2.1 t) y.toNatClampNeg c with
    | none => (2, 0)
    | some z => (0, nI z)
theorem sFetch_1 {b : zBr} {x y : Int32} {c : Bool} (h : ¬ ∃ t, zEx b t ∧ x = nI t) : sFetch b x y c = (1, 0) := by
  unfold sFetch; rw [zTpOf_n h]
theorem sFetch_3 {b : zBr} {t : Nat} {y : Int32} {c : Bool} (ht : zEx b t) (h : y < nI (b.2.1 t).2.1.1 ∨ nI (b.2.1 t).2.1.2 < y) : sFetch b (nI t) y c = (3, 0) := by
  unfold sFetch; rw [zTpOf_s ht]; exact if_pos h
theorem sFetch_v {b : zBr} {t o : Nat} {c : Bool} (ht : zEx b t) (h1 : (b.2.1 t).2.1.1 ≤ o) (h2 : o ≤ (b.2.1 t).2.1.2) (h3 : (b.2.1 t).2.1.2 ≤ 60) : sFetch b (nI t) (nI o) c = match zVis (b.2.1 t) o c with
    | none => (2, 0)
    | some z => (0, nI z) := by
  unfold sFetch
  rw [zTpOf_s ht]
  show (if _ then _ else _) = _
  rw [if_neg (fun q => q.elim (fun q => absurd ((nI_ltI (by omega) (by omega)).mp q) (by omega)) (fun q => absurd ((nI_ltI (by omega) (by omega)).mp q) (by omega))), nI_clamp (by omega)]
theorem zOI_m1 {r : Option Nat} (h : zOI r = -1) (hr : ∀ z, r = some z → z ≤ 60) : r = none := by
  cases r with
  | none => rfl
  | some z => exact absurd (show nI z < 0 by rw [show nI z = -1 from h]; decide) (nI_pos (by have := hr z rfl; omega))
theorem zVis_le {g : zLg} {o z : Nat} {c : Bool} (hW : zLogW g) (h : zVis g o c = some z) : z < g.2.1.2 ∧ o ≤ z := by
  unfold zVis at h
  obtain ⟨a, b, -, -⟩ := zfind_spec h
  have h1 := zBa_le g
  have h2 := zStab_le g (by have := hW.2.2.2.2.1; omega)
  cases c with
  | true => have b' : z < o + (zStab g - o) := b; omega
  | false => have b' : z < o + (g.2.1.2 - o) := b; omega
def sCount (b : zBr) (x : Int32) : Int32 := if x = nI 0 then b.2.2.2.2.2.2.1 else if x = nI 1 then b.2.2.2.2.2.2.2.1 else if x = nI 2 then b.2.2.2.2.2.2.2.2.1 else if x = nI 3 then b.2.2.2.2.2.2.2.2.2.1 else if x = nI 4 then b.2.2.2.2.2.2.2.2.2.2 else if x = nI 5 then nI (zcnt (fun i => decide ((b.2.2.1 i).2.1 = nI 1)) 6 0) else if x = nI 6 then (b.2.2.2.2.2.1 0).1 else if x = nI 7 then (b.2.2.2.2.2.1 1).1 else -1
end
section
/-! CONTRACTS of LogBroker: reading (rows by program) -/
theorem mG_firstVisible (l : Launch) (D : va_G) (dA : Nat → ClassId) {S : zS} {tp : Nat} {g : zLg} {o0 : Nat} (c : Bool) (htp : tp < 12) (hO : zLogA S tp g) (hW : zLogW g) (ho0 : o0 ≤ 60) : zMet l D vwCl zKK dA (zG0 D dA) yG_firstVisible (Cond.code yG_firstVisible cG_firstVisible 5 (some .int) :: zTs) { frames := 1, cells := 0, slots := 0, locals := 21 } 0 0 [.ref (60 + tp), .int (nI o0), .int (zB c)] S (fun v S' => v = some (.int (zOI (zVis g o0 c))) ∧ S' = S) (fun _ _ => False) := by
  cases c with
  | true => exact mG_firstVisibleT l D dA htp hO hW ho0
  | false => exact mG_firstVisibleF l D dA htp hO hW ho0
set_option maxHeartbeats 600000 in
set_option maxRecDepth 100000 in
theorem mB_fetch (l : Launch) (D : va_G) (dA : Nat → ClassId) {S : zS} {b : zBr} {x y : Int32} {c0 : Bool} (hl0 : l.stackTraces = false) (hB : zBrA S b) (hW : zBrW b) : zMet l D vwCl zKK dA (zG0 D dA) yB_fetch (Cond.code yB_fetch cB_fetch 5 (some .int) :: zTs) { frames := 7, cells := 2, slots := 12, locals := 103 } 2 12 [.ref 1, .int x, .int y, .int (zB c0)] S (fun v S' => S' = S ∧ ∃ r, v = some (.int r) ∧ sFetch b x y c0 = (0, r)) (fun E S' => S' = S ∧ ((E = "java/lang/IllegalArgumentException" ∧ sFetch b x y c0 = (1, 0)) ∨ (E = "java/util/NoSuchElementException" ∧ sFetch b x y c0 = (2, 0)) ∨ (E = "java/lang/IndexOutOfBoundsException" ∧ sFetch b x y c0 = (3, 0)))) := by
  refine z_met (tys := ztys dA) (by decide) rfl zG0_K rfl (Nat.le_of_ble_eq_true rfl) (fun p e s m args below meth c A ad X hr hlocks hin hex => ?_)
  obtain ⟨hT, hLg, hSs, hGs, hnx, hnf⟩ := id hB
  obtain ⟨v1, v2, v3, v4, v5, v6, v7⟩ := id hW
  obtain ⟨hn, t0, t1, t2, t3, t4, t5, q6, q7, q8, q9, q10, hpt, hlg, hse, hcu, hop, hgr⟩ := id hT
  refine z_aload_n (j := 0) X dB_fetch_0 rfl rfl ?_
  refine z_iload_n (j := 1) X dB_fetch_1 rfl rfl ?_
  refine z_callV (n := 1) (As := [.int x]) (rest := []) X zG0_m (mB_logAt l D dA (x := x) hl0 hT) (w_V X.2.2.2.2.1 lB_80 jB_logAt sB_logAt i_LogBroker kB_logAt rfl rfl (by decide +kernel) ⟨Nat.le_of_ble_eq_true rfl, Nat.le_of_ble_eq_true rfl⟩) rfl rfl rfl rfl rfl (Nat.le_of_ble_eq_true rfl) dB_fetch_2 ⟨Nat.le_of_ble_eq_true rfl, Nat.le_of_ble_eq_true rfl⟩ (fun v S9 hp => ?_) (fun E S1 hx => ?_)
  · obtain ⟨hS9, t, ht, hx9, hv⟩ := hp
    subst hv
    have hS9 := hS9.symm
    subst hS9
    subst hx9
    obtain ⟨g, hg0⟩ : ∃ g, g = b.2.1 t := ⟨_, rfl⟩
    have hO : zLogA S t g := by rw [hg0]; exact hLg t ht
    have hWg : zLogW g := by rw [hg0]; exact v2 t ht
    have hV : ∀ o e, g.2.2 o = some e → zEW e := by rw [hg0]; exact v3 t ht
    obtain ⟨gd1, gd2, f0, f1, f2, f3, f4, f5, f6, f7, f8, hent, hee⟩ := id hO
    obtain ⟨w1, w2, w3, w4, w5, w6, w7, w8, w9⟩ := id hWg
    have wb := zBa_le g
    have wp : zPr g ≤ 60 := zcnt_le
    have ht12 := ht.1
    refine z_astore (L' := [(4, .ref (60 + t)), (0, .ref 1), (1, .int (nI t)), (2, .int y), (3, .int (zB c0))]) X dB_fetch_5 (by decide) rfl ?_
    refine z_iload_n (j := 3) X dB_fetch_7 rfl rfl ?_
    refine z_aload (j := 0) X dB_fetch_8 rfl ?_
    refine z_geti (C := RG) (T := TG) (N := 9) (k := 4) X (w_in inG) rfl rfl (kd_G ht.1) (by decide) (w_m lB_145) rfl rfl dB_fetch_10 (hv := f4) ?_
    refine z_icmp_lt (tgt := 25) X dB_fetch_13 (by decide) (fun c_13 => ?_) (fun c_13 => ?_)
    · exact z_thIOB (text := "the offset is out of the log") X hl0 (by decide +kernel) dB_fetch_25 dB_fetch_28 dB_fetch_29 dB_fetch_31 dB_fetch_34 hex (Nat.le_of_ble_eq_true rfl) (Nat.le_of_ble_eq_true rfl) (Nat.le_of_ble_eq_true rfl) (Nat.le_of_ble_eq_true rfl) hlocks (by omega) (by omega) ⟨rfl, Or.inr (Or.inr ⟨rfl, sFetch_3 ht (by rw [← hg0]; first | exact Or.inl c_13 | exact Or.inr (Int32.not_le.mp c_22))⟩)⟩
    · refine z_iload_n (j := 3) X dB_fetch_16 rfl rfl ?_
      refine z_aload (j := 0) X dB_fetch_17 rfl ?_
      refine z_geti (C := RG) (T := TG) (N := 9) (k := 5) X (w_in inG) rfl rfl (kd_G ht.1) (by decide) (w_m lB_148) rfl rfl dB_fetch_19 (hv := f5) ?_
      refine z_icmp_le (tgt := 35) X dB_fetch_22 (by decide) (fun c_22 => ?_) (fun c_22 => ?_)
      · obtain ⟨o, hy, hs1, hs2⟩ := zIn (y := y) (st := g.2.1.1) (en := g.2.1.2) (by omega) (by omega) c_13 c_22
        subst hy
        refine z_aload (j := 0) X dB_fetch_35 rfl ?_
        refine z_iload_n (j := 3) X dB_fetch_37 rfl rfl ?_
        refine z_iload_n (j := 4) X dB_fetch_38 rfl rfl ?_
        refine z_callV (n := 2) (As := [.int (nI o), .int (zB c0)]) (rest := []) X zG0_m (mG_firstVisible l D dA c0 ht.1 hO hWg (by omega)) (w_V X.2.2.2.2.1 lB_156 jG_firstVisible sG_firstVisible i_LogBroker_Log kG_firstVisible rfl rfl (by decide +kernel) ⟨Nat.le_of_ble_eq_true rfl, Nat.le_of_ble_eq_true rfl⟩) (kd_G ht.1) rfl rfl rfl rfl (Nat.le_of_ble_eq_true rfl) dB_fetch_39 ⟨Nat.le_of_ble_eq_true rfl, Nat.le_of_ble_eq_true rfl⟩ (fun v S9 hp => ?_) (fun E S1 hx => hx.elim)
        obtain ⟨hv, hS9⟩ := hp
        subst hv
        have hS9 := hS9.symm
        subst hS9
        refine z_callS (n := 1) (As := [.int (zOI (zVis g o c0))]) (rest := []) X zG0_m (mB_found l D dA hl0) (w_S X.2.2.2.2.1 lB_160 tB_found i_LogBroker kB_found rfl rfl (by decide +kernel) ⟨Nat.le_of_ble_eq_true rfl, Nat.le_of_ble_eq_true rfl⟩) rfl rfl (Nat.le_of_ble_eq_true rfl) dB_fetch_42 ⟨Nat.le_of_ble_eq_true rfl, Nat.le_of_ble_eq_true rfl⟩ (fun v S9 hp => ?_) (fun E S1 hx => ?_)
        · obtain ⟨hv, hS9, hnf⟩ := hp
          subst hv
          have hS9 := hS9.symm
          subst hS9
          refine z_iret X hlocks hr dB_fetch_45 (by omega) (by omega) ?_
          refine ⟨rfl, _, rfl, ?_⟩
          rw [sFetch_v ht (by rw [← hg0]; exact hs1) (by rw [← hg0]; exact hs2) (by rw [← hg0]; exact w6), ← hg0]
          cases hvs : zVis g o c0 with
          | none => rw [hvs] at hnf; exact absurd rfl hnf
          | some z => rfl
        · obtain ⟨hE, hS9, hnf⟩ := hx
          subst hE
          have hS9 := hS9.symm
          subst hS9
          exact z_out (fun x hx9 => (hex x hx9).elim) hlocks ⟨rfl, Or.inr (Or.inl ⟨rfl, by rw [sFetch_v ht (by rw [← hg0]; exact hs1) (by rw [← hg0]; exact hs2) (by rw [← hg0]; exact w6), ← hg0, zOI_m1 hnf (fun z hz => by have := zVis_le hWg hz; omega)]⟩)⟩ (by omega) (by omega)
      · exact z_thIOB (text := "the offset is out of the log") X hl0 (by decide +kernel) dB_fetch_25 dB_fetch_28 dB_fetch_29 dB_fetch_31 dB_fetch_34 hex (Nat.le_of_ble_eq_true rfl) (Nat.le_of_ble_eq_true rfl) (Nat.le_of_ble_eq_true rfl) (Nat.le_of_ble_eq_true rfl) hlocks (by omega) (by omega) ⟨rfl, Or.inr (Or.inr ⟨rfl, sFetch_3 ht (by rw [← hg0]; first | exact Or.inl c_13 | exact Or.inr (Int32.not_le.mp c_22))⟩)⟩
  · obtain ⟨hE, hS9, hn9⟩ := hx
    subst hE
    have hS9 := hS9.symm
    subst hS9
    exact z_out (fun x hx9 => (hex x hx9).elim) hlocks ⟨rfl, Or.inl ⟨rfl, sFetch_1 hn9⟩⟩ (by omega) (by omega)
end
section
/-! the broker with one thing changed -/
def bG (b : zBr) (t : Nat) (g : zLg) : zBr := (b.1, (fun j => if j = t then g else b.2.1 j), b.2.2)
def bS (b : zBr) (i : Nat) (u : zSn) : zBr := (b.1, b.2.1, (fun j => if j = i then u else b.2.2.1 j), b.2.2.2)
def bC (b : zBr) (q : Nat) (v : Int32) : zBr := (b.1, b.2.1, b.2.2.1, (fun j => if j = q then v else b.2.2.2.1 j), b.2.2.2.2)
def bO (b : zBr) (q : Nat) (v : Int32) : zBr := (b.1, b.2.1, b.2.2.1, b.2.2.2.1, (fun j => if j = q then v else b.2.2.2.2.1 j), b.2.2.2.2.2)
def bH (b : zBr) (i : Nat) (u : zGr) : zBr := (b.1, b.2.1, b.2.2.1, b.2.2.2.1, b.2.2.2.2.1, (fun j => if j = i then u else b.2.2.2.2.2.1 j), b.2.2.2.2.2.2)
def bN (b : zBr) (n : Int32 × Int32 × Int32 × Int32 × Int32) : zBr := (b.1, b.2.1, b.2.2.1, b.2.2.2.1, b.2.2.2.2.1, b.2.2.2.2.2.1, n)
/-- an argument in 0 .. n; a partition that is there; an answer that may be none -/
def zA {α : Type} (x : Int32) (n : Nat) (d : α) (k : Nat → α) : α := if x < nI 0 ∨ nI n < x then d else k x.toNatClampNeg
theorem zA_n {α : Type} {x : Int32} {n : Nat} {d : α} {k : Nat → α} (h : x < nI 0 ∨ nI n < x) : zA x n d k = d := if_pos h
theorem zA_s {α : Type} {i n : Nat} {d : α} {k : Nat → α} (h : i ≤ n) (hn : n < 2 ^ 31) : zA (nI i) n d k = k i := by
  unfold zA
  rw [if_neg (fun q => q.elim (fun q => absurd ((nI_ltI (by omega) (by decide)).mp q) (by omega)) (fun q => absurd ((nI_ltI (by omega) (by omega)).mp q) (by omega))), nI_clamp (by omega)]
def zT {α : Type} (b : zBr) (x : Int32) (d : α) (k : Nat → α) : α := match zTpOf b x with
  | none => d
  | some t => k t
theorem zT_n {α : Type} {b : zBr} {x : Int32} {d : α} {k : Nat → α} (h : ¬ ∃ t, zEx b t ∧ x = nI t) : zT b x d k = d := by unfold zT; rw [zTpOf_n h]
theorem zT_s {α : Type} {b : zBr} {t : Nat} {d : α} {k : Nat → α} (h : zEx b t) : zT b (nI t) d k = k t := by unfold zT; rw [zTpOf_s h]
def zO {β α : Type} (r : Option β) (d : α) (k : β → α) : α := match r with
  | none => d
  | some t => k t
def sFld (e : zE) (k : Nat) : Int32 := if k = 0 then e.2.1 else if k = 1 then e.2.2.1 else if k = 2 then e.1 else if k = 3 then e.2.2.2.1 else e.2.2.2.2
def sTold (b : zBr) (x y w : Int32) : Nat × Int32 := zT b x (1, 0) fun t => zA w 4 (1, 0) fun k => if y < nI (b.2.1 t).2.1.1 ∨ ¬ y < nI (b.2.1 t).2.1.2 then (3, 0) else zO ((b.2.1 t).2.2 y.toNatClampNeg) (2, 0) fun e => (0, sFld e k)
def sOwner (b : zBr) (x y : Int32) : Nat × Int32 := zA x 1 (1, 0) fun i => zT b y (1, 0) fun t => if (b.2.2.2.2.2.1 i).2.2.1 t = -1 then (2, 0) else (0, (b.2.2.2.2.2.1 i).2.2.1 t)
def sPoll (b : zBr) (x m gn y : Int32) : (Nat × Int32) × zBr := zA x 1 ((1, 0), b) fun i => zA m 3 ((1, 0), b) fun k => zT b y ((1, 0), b) fun t => if ¬ (gn = (b.2.2.2.2.2.1 i).1 ∧ (b.2.2.2.2.2.1 i).2.2.1 t = nI k) then ((3, 0), b) else
  zO (zVis (b.2.1 t) (max ((b.2.2.2.2.2.1 i).2.2.2.1 t) (b.2.1 t).2.1.1) true) ((2, 0), b) fun z => ((0, nI z), bH b i ((b.2.2.2.2.2.1 i).1, (b.2.2.2.2.2.1 i).2.1, (b.2.2.2.2.2.1 i).2.2.1, (fun j => if j = t then z + 1 else (b.2.2.2.2.2.1 i).2.2.2.1 j), (b.2.2.2.2.2.1 i).2.2.2.2))
def sKeep (b : zBr) (x m gn y o : Int32) : (Nat × Int32) × zBr := zA x 1 ((1, 0), b) fun i => zA m 3 ((1, 0), b) fun k => zT b y ((1, 0), b) fun t => zA o (b.2.1 t).2.1.2 ((1, 0), b) fun z => if ¬ (gn = (b.2.2.2.2.2.1 i).1 ∧ (b.2.2.2.2.2.1 i).2.2.1 t = nI k) then ((2, 0), b) else
  ((0, 0), bH b i ((b.2.2.2.2.2.1 i).1, (b.2.2.2.2.2.1 i).2.1, (b.2.2.2.2.2.1 i).2.2.1, (b.2.2.2.2.2.1 i).2.2.2.1, (fun j => if j = t then z else (b.2.2.2.2.2.1 i).2.2.2.2 j)))
def sLogV (b : zBr) (t k : Nat) : Nat := if k = 0 then (b.2.1 t).2.1.1 else if k = 1 then (b.2.1 t).2.1.2 else if k = 2 then zStab (b.2.1 t) else if k = 3 then zPr (b.2.1 t) else if k = 4 then zCl (b.2.1 t) else if k = 5 then (b.2.2.2.2.2.1 0).2.2.2.1 t else if k = 6 then (b.2.2.2.2.2.1 1).2.2.2.1 t else if k = 7 then (b.2.2.2.2.2.1 0).2.2.2.2 t else (b.2.2.2.2.2.1 1).2.2.2.2 t
def sLog (b : zBr) (x w : Int32) : Nat × Int32 := zT b x (1, 0) fun t => zA w 8 (1, 0) fun k => (0, nI (sLogV b t k))
theorem sLog_v {b : zBr} {t k : Nat} (h : zEx b t) (hk : k ≤ 8) : sLog b (nI t) (nI k) = (0, nI (sLogV b t k)) := by unfold sLog; rw [zT_s h, zA_s hk (by decide)]
theorem sLogV_0 {b : zBr} {t : Nat} : sLogV b t 0 = (b.2.1 t).2.1.1 := by unfold sLogV; rw [if_pos rfl]
theorem sLogV_1 {b : zBr} {t : Nat} : sLogV b t 1 = (b.2.1 t).2.1.2 := by unfold sLogV; rw [if_neg (by decide), if_pos rfl]
theorem sLogV_2 {b : zBr} {t : Nat} : sLogV b t 2 = zStab (b.2.1 t) := by unfold sLogV; rw [if_neg (by decide), if_neg (by decide), if_pos rfl]
theorem sLogV_3 {b : zBr} {t : Nat} : sLogV b t 3 = zPr (b.2.1 t) := by unfold sLogV; rw [if_neg (by decide), if_neg (by decide), if_neg (by decide), if_pos rfl]
theorem sLogV_4 {b : zBr} {t : Nat} : sLogV b t 4 = zCl (b.2.1 t) := by unfold sLogV; rw [if_neg (by decide), if_neg (by decide), if_neg (by decide), if_neg (by decide), if_pos rfl]
theorem sLogV_5 {b : zBr} {t : Nat} : sLogV b t 5 = (b.2.2.2.2.2.1 0).2.2.2.1 t := by unfold sLogV; rw [if_neg (by decide), if_neg (by decide), if_neg (by decide), if_neg (by decide), if_neg (by decide), if_pos rfl]
theorem sLogV_6 {b : zBr} {t : Nat} : sLogV b t 6 = (b.2.2.2.2.2.1 1).2.2.2.1 t := by unfold sLogV; rw [if_neg (by decide), if_neg (by decide), if_neg (by decide), if_neg (by decide), if_neg (by decide), if_neg (by decide), if_pos rfl]
theorem sLogV_7 {b : zBr} {t : Nat} : sLogV b t 7 = (b.2.2.2.2.2.1 0).2.2.2.2 t := by unfold sLogV; rw [if_neg (by decide), if_neg (by decide), if_neg (by decide), if_neg (by decide), if_neg (by decide), if_neg (by decide), if_neg (by decide), if_pos rfl]
theorem sLogV_8 {b : zBr} {t : Nat} : sLogV b t 8 = (b.2.2.2.2.2.1 1).2.2.2.2 t := by unfold sLogV; rw [if_neg (by decide), if_neg (by decide), if_neg (by decide), if_neg (by decide), if_neg (by decide), if_neg (by decide), if_neg (by decide), if_neg (by decide)]
def sCompact (b : zBr) (x : Int32) : (Nat × Int32) × zBr := zT b x ((1, 0), b) fun t => if (b.2.1 t).1.2.2 = nI 0 then ((2, 0), b) else
  ((0, nI (zPr (b.2.1 t) - zPr (zComp (b.2.1 t)))), bN (bG b t (zComp (b.2.1 t))) (b.2.2.2.2.2.2.1, b.2.2.2.2.2.2.2.1, b.2.2.2.2.2.2.2.2.1, b.2.2.2.2.2.2.2.2.2.1, b.2.2.2.2.2.2.2.2.2.2 + nI (zPr (b.2.1 t) - zPr (zComp (b.2.1 t)))))
/-- the session i is its producer's current one -/
def zCur (b : zBr) (i : Nat) : Prop := b.2.2.2.1 (b.2.2.1 i).1.toNatClampNeg = nI i
theorem zCur_iff {b : zBr} {i : Nat} (h : ∃ q, q < 4 ∧ (b.2.2.1 i).1 = nI q) : zCur b i ↔ ∃ q, q < 4 ∧ (b.2.2.1 i).1 = nI q ∧ b.2.2.2.1 q = nI i := by
  obtain ⟨q, h1, h2⟩ := h
  unfold zCur
  rw [h2, nI_clamp (by omega)]
  constructor
  · intro h; exact ⟨q, h1, rfl, h⟩
  · rintro ⟨q2, h3, h4, h5⟩
    rw [(nI_eq (by omega) (by omega)).mp h4]; exact h5
def sBegin (b : zBr) (x : Int32) : (Nat × Int32) × zBr := zA x 5 ((1, 0), b) fun i => if (b.2.2.1 i).1 = -1 then ((2, 0), b) else if ¬ (b.2.2.1 i).2.1 = nI 0 then ((3, 0), b) else
  if ¬ b.2.2.2.1 (b.2.2.1 i).1.toNatClampNeg = nI i then ((4, 0), b) else ((0, 0), bS b i ((b.2.2.1 i).1, nI 1, (b.2.2.1 i).2.2))
theorem zLogW_comp {g : zLg} (h : zLogW g) : zLogW (zComp g) := zLogW_ent h (fun o ho => by
  show (if o < zStab g ∧ o < zBa g ∧ zGoes g (zStab g) o = true then none else g.2.2 o) = none
  by_cases e9 : o < zStab g ∧ o < zBa g ∧ zGoes g (zStab g) o = true
  · rw [if_pos e9]
  · rw [if_neg e9]; exact ho)
theorem zMaxN {a b : Nat} (ha : a < 2 ^ 31) (hb : b < 2 ^ 31) : (if nI a < nI b then nI b else nI a) = nI (max a b) := by
  by_cases h : a < b
  · rw [if_pos ((nI_ltI ha hb).mpr h), Nat.max_eq_right (by omega)]
  · rw [if_neg (fun q => h ((nI_ltI ha hb).mp q)), Nat.max_eq_left (by omega)]
/-- the class's own names -/
def zOwnB (n : Nat) : Prop := n < 1000
/-- the object after a change: what is changed is said anew, the rest is not touched -/
theorem zBrA_upd {S S' : zS} {b b' : zBr} {own : Nat → Prop} (hB : zBrA S b) (hW : zBrW b) (hf : zfr own S S') (hT : zTop S' b') (h1 : b'.1 = b.1)
    (hL : ∀ t, zEx b t → (zLogA S' t (b'.2.1 t) ∧ ∀ o, o < 60 → (b'.2.1 t).2.1.2 ≤ o → S'.1 (200 + 60 * t + o) = false) ∨ (b'.2.1 t = b.2.1 t ∧ ∀ n, zOwnG t n → ¬ own n))
    (hS : ∀ i, i < 6 → zSsA S' i (b'.2.2.1 i) ∨ (b'.2.2.1 i = b.2.2.1 i ∧ ∀ n, zOwnS i n → ¬ own n))
    (hG : ∀ i, i < 2 → zGrA S' i (b'.2.2.2.2.2.1 i) ∨ (b'.2.2.2.2.2.1 i = b.2.2.2.2.2.1 i ∧ ∀ n, zOwnH i n → ¬ own n))
    (hN : ∀ t, t < 12 → ¬ zEx b t → ∀ n, zOwnG t n → ¬ own n) : zBrA S' b' := by
  obtain ⟨-, hLg, hSs, hGs, hnx, hnf⟩ := hB
  have ex : ∀ t, zEx b' t ↔ zEx b t := fun t => by unfold zEx; rw [h1]
  refine ⟨hT, fun t ht => ?_, fun i hi => ?_, fun i hi => ?_, fun t h12 ht => ?_, fun t ht o ho he => ?_⟩
  · have ht' := (ex t).mp ht
    rcases hL t ht' with h | ⟨h, hn⟩
    · exact h.1
    · rw [h]; exact zLogA_fr (hLg t ht') (hW.2.1 t ht') (fun n h9 => hf.ag (hn n h9))
  · rcases hS i hi with h | ⟨h, hn⟩
    · exact h
    · rw [h]; exact zSsA_fr (hSs i hi) (fun n h9 => hf.ag (hn n h9))
  · rcases hG i hi with h | ⟨h, hn⟩
    · exact h
    · rw [h]; exact zGrA_fr (hGs i hi) (fun n h9 => hf.ag (hn n h9))
  · have ht' : ¬ zEx b t := fun q => ht ((ex t).mpr q)
    have h := hnx t h12 ht'
    have hn := hN t h12 ht'
    exact ⟨(hf.1 _ (hn _ (Or.inl rfl))).trans h.1, (hf.1 _ (hn _ (Or.inr (Or.inl rfl)))).trans h.2.1, fun o ho => (hf.1 _ (hn _ (Or.inr (Or.inr (by omega))))).trans (h.2.2 o ho)⟩
  · have ht' := (ex t).mp ht
    rcases hL t ht' with h | ⟨h, hn⟩
    · exact h.2 o ho he
    · rw [h] at he
      exact (hf.1 _ (hn _ (Or.inr (Or.inr (by omega))))).trans (hnf t ht' o ho he)
theorem zfr.ownB {own : Nat → Prop} {S S' : zS} (h : zfr own S S') (m : ∀ n, own n → n < 1000) : zfr zOwnB S S' := h.mono m
end
section
/-! CONTRACTS of LogBroker: reading and keeping (rows by program) -/
set_option maxHeartbeats 600000 in
set_option maxRecDepth 100000 in
theorem mB_told (l : Launch) (D : va_G) (dA : Nat → ClassId) {S : zS} {b : zBr} {x y w : Int32} (hl0 : l.stackTraces = false) (hB : zBrA S b) (hW : zBrW b) : zMet l D vwCl zKK dA (zG0 D dA) yB_told (Cond.code yB_told cB_told 6 (some .int) :: zTs) { frames := 7, cells := 8, slots := 48, locals := 104 } 8 48 [.ref 1, .int x, .int y, .int w] S (fun v S' => S' = S ∧ ∃ r, v = some (.int r) ∧ sTold b x y w = (0, r)) (fun E S' => S' = S ∧ ((E = "java/lang/IllegalArgumentException" ∧ sTold b x y w = (1, 0)) ∨ (E = "java/util/NoSuchElementException" ∧ sTold b x y w = (2, 0)) ∨ (E = "java/lang/IndexOutOfBoundsException" ∧ sTold b x y w = (3, 0)))) := by
  refine z_met (tys := ztys dA) (by decide) rfl zG0_K rfl (Nat.le_of_ble_eq_true rfl) (fun p e s m args below meth c A ad X hr hlocks hin hex => ?_)
  obtain ⟨hT, hLg, hSs, hGs, hnx, hnf⟩ := id hB
  obtain ⟨v1, v2, v3, v4, v5, v6, v7⟩ := id hW
  obtain ⟨hn, t0, t1, t2, t3, t4, t5, q6, q7, q8, q9, q10, hpt, hlg, hse, hcu, hop, hgr⟩ := id hT
  refine z_aload_n (j := 0) X dB_told_0 rfl rfl ?_
  refine z_iload_n (j := 1) X dB_told_1 rfl rfl ?_
  refine z_callV (n := 1) (As := [.int x]) (rest := []) X zG0_m (mB_logAt l D dA (x := x) hl0 hT) (w_V X.2.2.2.2.1 lB_80 jB_logAt sB_logAt i_LogBroker kB_logAt rfl rfl (by decide +kernel) ⟨Nat.le_of_ble_eq_true rfl, Nat.le_of_ble_eq_true rfl⟩) rfl rfl rfl rfl rfl (Nat.le_of_ble_eq_true rfl) dB_told_2 ⟨Nat.le_of_ble_eq_true rfl, Nat.le_of_ble_eq_true rfl⟩ (fun v S9 hp => ?_) (fun E S1 hx => ?_)
  · obtain ⟨hS9, t, ht, hx9, hv⟩ := hp
    subst hv
    have hS9 := hS9.symm
    subst hS9
    subst hx9
    obtain ⟨g, hg0⟩ : ∃ g, g = b.2.1 t := ⟨_, rfl⟩
    have hO : zLogA S t g := by rw [hg0]; exact hLg t ht
    have hWg : zLogW g := by rw [hg0]; exact v2 t ht
    have hV : ∀ o e, g.2.2 o = some e → zEW e := by rw [hg0]; exact v3 t ht
    obtain ⟨gd1, gd2, f0, f1, f2, f3, f4, f5, f6, f7, f8, hent, hee⟩ := id hO
    obtain ⟨w1, w2, w3, w4, w5, w6, w7, w8, w9⟩ := id hWg
    have wb := zBa_le g
    have wp : zPr g ≤ 60 := zcnt_le
    have ht12 := ht.1
    refine z_astore (L' := [(4, .ref (60 + t)), (0, .ref 1), (1, .int (nI t)), (2, .int y), (3, .int w)]) X dB_told_5 (by decide) rfl ?_
    refine z_iload_n (j := 4) X dB_told_7 rfl rfl ?_
    refine z_iconst (v := (nI 0)) X dB_told_8 (by decide) ?_
    refine z_iconst (v := (nI 4)) X dB_told_9 (by decide) ?_
    refine z_callS (n := 3) (As := [.int w, .int (nI 0), .int (nI 4)]) (rest := []) X zG0_m (mB_mustBeWithin l D dA hl0) (w_S X.2.2.2.2.1 lB_45 tB_mustBeWithin i_LogBroker kB_mustBeWithin rfl rfl (by decide +kernel) ⟨Nat.le_of_ble_eq_true rfl, Nat.le_of_ble_eq_true rfl⟩) rfl rfl (Nat.le_of_ble_eq_true rfl) dB_told_10 ⟨Nat.le_of_ble_eq_true rfl, Nat.le_of_ble_eq_true rfl⟩ (fun v S9 hp => ?_) (fun E S1 hx => ?_)
    · obtain ⟨hv, hS9, hr1, hr2⟩ := hp
      subst hv
      have hS9 := hS9.symm
      subst hS9
      obtain ⟨k, hx9, hk⟩ := zRg (n := 4) (by omega) hr1 hr2
      subst hx9
      refine z_iload_n (j := 3) X dB_told_13 rfl rfl ?_
      refine z_aload (j := 0) X dB_told_14 rfl ?_
      refine z_geti (C := RG) (T := TG) (N := 9) (k := 4) X (w_in inG) rfl rfl (kd_G ht12) (by decide) (w_m lB_145) rfl rfl dB_told_16 (hv := f4) ?_
      refine z_icmp_lt (tgt := 31) X dB_told_19 (by decide) (fun c_19 => ?_) (fun c_19 => ?_)
      · exact z_thIOB (text := "the offset is out of the log") X hl0 (by decide +kernel) dB_told_31 dB_told_34 dB_told_35 dB_told_37 dB_told_40 hex (Nat.le_of_ble_eq_true rfl) (Nat.le_of_ble_eq_true rfl) (Nat.le_of_ble_eq_true rfl) (Nat.le_of_ble_eq_true rfl) hlocks (by omega) (by omega) ⟨rfl, Or.inr (Or.inr (⟨rfl, by unfold sTold; rw [zT_s ht, zA_s hk (by decide), if_pos (by rw [← hg0]; first | exact Or.inl c_19 | exact Or.inr c_28)]⟩))⟩
      · refine z_iload_n (j := 3) X dB_told_22 rfl rfl ?_
        refine z_aload (j := 0) X dB_told_23 rfl ?_
        refine z_geti (C := RG) (T := TG) (N := 9) (k := 5) X (w_in inG) rfl rfl (kd_G ht12) (by decide) (w_m lB_148) rfl rfl dB_told_25 (hv := f5) ?_
        refine z_icmp_lt (tgt := 41) X dB_told_28 (by decide) (fun c_28 => ?_) (fun c_28 => ?_)
        · obtain ⟨o, hy, hs1, hs3⟩ := zIn (y := y) (st := g.2.1.1) (en := g.2.1.2) (by omega) (by omega) c_19 (Int32.le_of_lt c_28)
          subst hy
          have hs2 : o < g.2.1.2 := (nI_ltI (by omega) (by omega)).mp c_28
          rcases he : g.2.2 o with _ | r
          · refine z_aload (j := 0) X dB_told_41 rfl ?_
            refine z_getr (C := RG) (T := TG) (N := 9) (k := 3) X (w_in inG) rfl rfl (kd_G ht12) (by decide) (w_m lB_164) rfl rfl f3 dB_told_43 ?_
            refine z_iload_n (j := 3) X dB_told_46 rfl rfl ?_
            refine z_aaldN (t0 := 6) X (kd_GA (by omega)) (by decide) (by decide) (by decide) rfl (by omega) (by decide) (by rw [hent, he]; rfl) dB_told_47 ?_
            refine z_astoreN (L' := [(5, .null), (4, .ref (60 + t)), (0, .ref 1), (1, .int (nI t)), (2, .int (nI o)), (3, .int (nI k))]) X dB_told_48 (by decide) rfl ?_
            refine z_aloadN (j := 0) X dB_told_50 rfl ?_
            refine z_ifnonnullN X dB_told_52 ?_
            exact z_thNSE (text := "the record is gone") X hl0 (by decide +kernel) dB_told_55 dB_told_58 dB_told_59 dB_told_61 dB_told_64 hex (Nat.le_of_ble_eq_true rfl) (Nat.le_of_ble_eq_true rfl) (Nat.le_of_ble_eq_true rfl) (Nat.le_of_ble_eq_true rfl) hlocks (by omega) (by omega) ⟨rfl, Or.inr (Or.inl ⟨rfl, by unfold sTold; rw [zT_s ht, zA_s hk (by decide), if_neg (fun q => q.elim (fun q => by rw [← hg0] at q; exact absurd ((nI_ltI (by omega) (by omega)).mp q) (by omega)) (fun q => by rw [← hg0] at q; exact q ((nI_ltI (by omega) (by omega)).mpr hs2))), nI_clamp (by omega), ← hg0, he]; rfl⟩)⟩
          · refine z_aload (j := 0) X dB_told_41 rfl ?_
            refine z_getr (C := RG) (T := TG) (N := 9) (k := 3) X (w_in inG) rfl rfl (kd_G ht12) (by decide) (w_m lB_164) rfl rfl f3 dB_told_43 ?_
            refine z_iload_n (j := 3) X dB_told_46 rfl rfl ?_
            refine z_aald (t0 := 6) X (kd_GA (by omega)) (by decide) (by decide) (by decide) rfl (by omega) (by decide) (by rw [hent, he]; rfl) dB_told_47 ?_
            refine z_astore (L' := [(5, .ref (200 + 60 * t + o)), (4, .ref (60 + t)), (0, .ref 1), (1, .int (nI t)), (2, .int (nI o)), (3, .int (nI k))]) X dB_told_48 (by decide) rfl ?_
            refine z_aload (j := 0) X dB_told_50 rfl ?_
            refine z_ifnonnull (tgt := 65) X dB_told_52 (by decide) ?_
            refine z_iload_n (j := 5) X dB_told_65 rfl rfl ?_
            rcases (show k = 0 ∨ k = 1 ∨ k = 2 ∨ k = 3 ∨ k = 4 by omega) with e | e | e | e | e <;> subst e
            · refine z_tableIn (tgt := 96) X dB_told_66 (by decide) (by decide) rfl (by decide) ?_
              refine z_aload (j := 0) X dB_told_96 rfl ?_
              refine z_geti (C := RE) (T := TE) (N := 5) (k := 1) X (w_in inE) rfl rfl (kd_E ht12 (by omega)) (by decide) (w_m lB_173) rfl rfl dB_told_98 (hv := (hee o r he).2.2.1) ?_
              refine z_iret X hlocks hr dB_told_101 (by omega) (by omega) ?_
              exact ⟨rfl, _, rfl, by unfold sTold; rw [zT_s ht, zA_s hk (by decide), if_neg (fun q => q.elim (fun q => by rw [← hg0] at q; exact absurd ((nI_ltI (by omega) (by omega)).mp q) (by omega)) (fun q => by rw [← hg0] at q; exact q ((nI_ltI (by omega) (by omega)).mpr hs2))), nI_clamp (by omega), ← hg0, he]; rfl⟩
            · refine z_tableIn (tgt := 102) X dB_told_66 (by decide) (by decide) rfl (by decide) ?_
              refine z_aload (j := 0) X dB_told_102 rfl ?_
              refine z_geti (C := RE) (T := TE) (N := 5) (k := 2) X (w_in inE) rfl rfl (kd_E ht12 (by omega)) (by decide) (w_m lB_176) rfl rfl dB_told_104 (hv := (hee o r he).2.2.2.1) ?_
              refine z_iret X hlocks hr dB_told_107 (by omega) (by omega) ?_
              exact ⟨rfl, _, rfl, by unfold sTold; rw [zT_s ht, zA_s hk (by decide), if_neg (fun q => q.elim (fun q => by rw [← hg0] at q; exact absurd ((nI_ltI (by omega) (by omega)).mp q) (by omega)) (fun q => by rw [← hg0] at q; exact q ((nI_ltI (by omega) (by omega)).mpr hs2))), nI_clamp (by omega), ← hg0, he]; rfl⟩
            · refine z_tableIn (tgt := 108) X dB_told_66 (by decide) (by decide) rfl (by decide) ?_
              refine z_aload (j := 0) X dB_told_108 rfl ?_
              refine z_geti (C := RE) (T := TE) (N := 5) (k := 0) X (w_in inE) rfl rfl (kd_E ht12 (by omega)) (by decide) (w_m lB_179) rfl rfl dB_told_110 (hv := (hee o r he).2.1) ?_
              refine z_iret X hlocks hr dB_told_113 (by omega) (by omega) ?_
              exact ⟨rfl, _, rfl, by unfold sTold; rw [zT_s ht, zA_s hk (by decide), if_neg (fun q => q.elim (fun q => by rw [← hg0] at q; exact absurd ((nI_ltI (by omega) (by omega)).mp q) (by omega)) (fun q => by rw [← hg0] at q; exact q ((nI_ltI (by omega) (by omega)).mpr hs2))), nI_clamp (by omega), ← hg0, he]; rfl⟩
            · refine z_tableIn (tgt := 114) X dB_told_66 (by decide) (by decide) rfl (by decide) ?_
              refine z_aload (j := 0) X dB_told_114 rfl ?_
              refine z_geti (C := RE) (T := TE) (N := 5) (k := 3) X (w_in inE) rfl rfl (kd_E ht12 (by omega)) (by decide) (w_m lB_182) rfl rfl dB_told_116 (hv := (hee o r he).2.2.2.2.1) ?_
              refine z_iret X hlocks hr dB_told_119 (by omega) (by omega) ?_
              exact ⟨rfl, _, rfl, by unfold sTold; rw [zT_s ht, zA_s hk (by decide), if_neg (fun q => q.elim (fun q => by rw [← hg0] at q; exact absurd ((nI_ltI (by omega) (by omega)).mp q) (by omega)) (fun q => by rw [← hg0] at q; exact q ((nI_ltI (by omega) (by omega)).mpr hs2))), nI_clamp (by omega), ← hg0, he]; rfl⟩
            · refine z_tableOut (tgt := 120) X dB_told_66 (Or.inr (by decide)) (by decide) ?_
              refine z_aload (j := 0) X dB_told_120 rfl ?_
              refine z_geti (C := RE) (T := TE) (N := 5) (k := 4) X (w_in inE) rfl rfl (kd_E ht12 (by omega)) (by decide) (w_m lB_183) rfl rfl dB_told_122 (hv := (hee o r he).2.2.2.2.2) ?_
              refine z_iret X hlocks hr dB_told_125 (by omega) (by omega) ?_
              exact ⟨rfl, _, rfl, by unfold sTold; rw [zT_s ht, zA_s hk (by decide), if_neg (fun q => q.elim (fun q => by rw [← hg0] at q; exact absurd ((nI_ltI (by omega) (by omega)).mp q) (by omega)) (fun q => by rw [← hg0] at q; exact q ((nI_ltI (by omega) (by omega)).mpr hs2))), nI_clamp (by omega), ← hg0, he]; rfl⟩
        · exact z_thIOB (text := "the offset is out of the log") X hl0 (by decide +kernel) dB_told_31 dB_told_34 dB_told_35 dB_told_37 dB_told_40 hex (Nat.le_of_ble_eq_true rfl) (Nat.le_of_ble_eq_true rfl) (Nat.le_of_ble_eq_true rfl) (Nat.le_of_ble_eq_true rfl) hlocks (by omega) (by omega) ⟨rfl, Or.inr (Or.inr (⟨rfl, by unfold sTold; rw [zT_s ht, zA_s hk (by decide), if_pos (by rw [← hg0]; first | exact Or.inl c_19 | exact Or.inr c_28)]⟩))⟩
    · obtain ⟨hE, hS9, hn9⟩ := hx
      subst hE
      have hS9 := hS9.symm
      subst hS9
      exact z_out (fun x hx9 => (hex x hx9).elim) hlocks ⟨rfl, Or.inl ⟨rfl, by unfold sTold; rw [zT_s ht, zA_n hn9]⟩⟩ (by omega) (by omega)
  · obtain ⟨hE, hS9, hn9⟩ := hx
    subst hE
    have hS9 := hS9.symm
    subst hS9
    exact z_out (fun x hx9 => (hex x hx9).elim) hlocks ⟨rfl, Or.inl ⟨rfl, by unfold sTold; rw [zT_n hn9]⟩⟩ (by omega) (by omega)

set_option maxHeartbeats 600000 in
set_option maxRecDepth 100000 in
theorem mB_owner (l : Launch) (D : va_G) (dA : Nat → ClassId) {S : zS} {b : zBr} {x y : Int32} (hl0 : l.stackTraces = false) (hB : zBrA S b) (hW : zBrW b) : zMet l D vwCl zKK dA (zG0 D dA) yB_owner (Cond.code yB_owner cB_owner 3 (some .int) :: zTs) { frames := 7, cells := 8, slots := 48, locals := 104 } 8 48 [.ref 1, .int x, .int y] S (fun v S' => S' = S ∧ ∃ r, v = some (.int r) ∧ sOwner b x y = (0, r)) (fun E S' => S' = S ∧ ((E = "java/lang/IllegalArgumentException" ∧ sOwner b x y = (1, 0)) ∨ (E = "java/util/NoSuchElementException" ∧ sOwner b x y = (2, 0)))) := by
  refine z_met (tys := ztys dA) (by decide) rfl zG0_K rfl (Nat.le_of_ble_eq_true rfl) (fun p e s m args below meth c A ad X hr hlocks hin hex => ?_)
  obtain ⟨hT, hLg, hSs, hGs, hnx, hnf⟩ := id hB
  obtain ⟨v1, v2, v3, v4, v5, v6, v7⟩ := id hW
  obtain ⟨hn, t0, t1, t2, t3, t4, t5, q6, q7, q8, q9, q10, hpt, hlg, hse, hcu, hop, hgr⟩ := id hT
  refine z_iload_n (j := 1) X dB_owner_0 rfl rfl ?_
  refine z_iconst (v := (nI 0)) X dB_owner_1 (by decide) ?_
  refine z_iconst (v := (nI 1)) X dB_owner_2 (by decide) ?_
  refine z_callS (n := 3) (As := [.int x, .int (nI 0), .int (nI 1)]) (rest := []) X zG0_m (mB_mustBeWithin l D dA hl0) (w_S X.2.2.2.2.1 lB_45 tB_mustBeWithin i_LogBroker kB_mustBeWithin rfl rfl (by decide +kernel) ⟨Nat.le_of_ble_eq_true rfl, Nat.le_of_ble_eq_true rfl⟩) rfl rfl (Nat.le_of_ble_eq_true rfl) dB_owner_3 ⟨Nat.le_of_ble_eq_true rfl, Nat.le_of_ble_eq_true rfl⟩ (fun v S9 hp => ?_) (fun E S1 hx => ?_)
  · obtain ⟨hv, hS9, hr1, hr2⟩ := hp
    subst hv
    have hS9 := hS9.symm
    subst hS9
    obtain ⟨i, hx9, hi⟩ := zRg (n := 1) (by omega) hr1 hr2
    subst hx9
    refine z_aload_n (j := 0) X dB_owner_6 rfl rfl ?_
    refine z_iload_n (j := 2) X dB_owner_7 rfl rfl ?_
    refine z_callV (n := 1) (As := [.int y]) (rest := []) X zG0_m (mB_logAt l D dA (x := y) hl0 hT) (w_V X.2.2.2.2.1 lB_80 jB_logAt sB_logAt i_LogBroker kB_logAt rfl rfl (by decide +kernel) ⟨Nat.le_of_ble_eq_true rfl, Nat.le_of_ble_eq_true rfl⟩) rfl rfl rfl rfl rfl (Nat.le_of_ble_eq_true rfl) dB_owner_8 ⟨Nat.le_of_ble_eq_true rfl, Nat.le_of_ble_eq_true rfl⟩ (fun v S9 hp => ?_) (fun E S1 hx => ?_)
    · obtain ⟨hS9, t, ht, hx9, hv⟩ := hp
      subst hv
      have hS9 := hS9.symm
      subst hS9
      subst hx9
      obtain ⟨g, hg0⟩ : ∃ g, g = b.2.1 t := ⟨_, rfl⟩
      have hO : zLogA S t g := by rw [hg0]; exact hLg t ht
      have hWg : zLogW g := by rw [hg0]; exact v2 t ht
      have hV : ∀ o e, g.2.2 o = some e → zEW e := by rw [hg0]; exact v3 t ht
      obtain ⟨gd1, gd2, f0, f1, f2, f3, f4, f5, f6, f7, f8, hent, hee⟩ := id hO
      obtain ⟨w1, w2, w3, w4, w5, w6, w7, w8, w9⟩ := id hWg
      have wb := zBa_le g
      have wp : zPr g ≤ 60 := zcnt_le
      have ht12 := ht.1
      refine z_pop X dB_owner_11 rfl ?_
      refine z_aload_n (j := 0) X dB_owner_12 rfl rfl ?_
      refine z_getr (C := RB) (T := TB) (N := 11) (k := 5) X (w_in inB) rfl rfl rfl (by decide) (w_m lB_33) rfl rfl t5 dB_owner_13 ?_
      refine z_iload_n (j := 1) X dB_owner_16 rfl rfl ?_
      refine z_aald (t0 := 5) X rfl (by decide) (by decide) (by decide) rfl (by omega) (by decide) (hgr i (by omega)) dB_owner_17 ?_
      refine z_getr (C := RH) (T := TH) (N := 5) (k := 2) X (w_in inH) rfl rfl (kd_H (by omega)) (by decide) (w_m lB_209) rfl rfl (hGs i (by omega)).2.2.2.2.2.2.2.1 dB_owner_18 ?_
      refine z_iload_n (j := 2) X dB_owner_21 rfl rfl ?_
      refine z_iald (t0 := 0) X (kd_HO (by omega)) rfl (by omega) (by decide) dB_owner_22 (hv := ((hGs i (by omega)).2.2.2.2.2.2.2.2.2.2.2.1 t (by omega))) ?_
      refine z_callS (n := 1) (As := [.int ((b.2.2.2.2.2.1 i).2.2.1 t)]) (rest := []) X zG0_m (mB_found l D dA hl0) (w_S X.2.2.2.2.1 lB_160 tB_found i_LogBroker kB_found rfl rfl (by decide +kernel) ⟨Nat.le_of_ble_eq_true rfl, Nat.le_of_ble_eq_true rfl⟩) rfl rfl (Nat.le_of_ble_eq_true rfl) dB_owner_23 ⟨Nat.le_of_ble_eq_true rfl, Nat.le_of_ble_eq_true rfl⟩ (fun v S9 hp => ?_) (fun E S1 hx => ?_)
      · obtain ⟨hv, hS9, hnf⟩ := hp
        subst hv
        have hS9 := hS9.symm
        subst hS9
        refine z_iret X hlocks hr dB_owner_26 (by omega) (by omega) ?_
        exact ⟨rfl, _, rfl, by unfold sOwner; rw [zA_s hi (by decide), zT_s ht, if_neg hnf]⟩
      · obtain ⟨hE, hS9, hnf⟩ := hx
        subst hE
        have hS9 := hS9.symm
        subst hS9
        exact z_out (fun x hx9 => (hex x hx9).elim) hlocks ⟨rfl, Or.inr (⟨rfl, by unfold sOwner; rw [zA_s hi (by decide), zT_s ht, if_pos hnf]⟩)⟩ (by omega) (by omega)
    · obtain ⟨hE, hS9, hn9⟩ := hx
      subst hE
      have hS9 := hS9.symm
      subst hS9
      exact z_out (fun x hx9 => (hex x hx9).elim) hlocks ⟨rfl, Or.inl ⟨rfl, by unfold sOwner; rw [zA_s hi (by decide), zT_n hn9]⟩⟩ (by omega) (by omega)
  · obtain ⟨hE, hS9, hn9⟩ := hx
    subst hE
    have hS9 := hS9.symm
    subst hS9
    exact z_out (fun x hx9 => (hex x hx9).elim) hlocks ⟨rfl, Or.inl ⟨rfl, by unfold sOwner; rw [zA_n hn9]⟩⟩ (by omega) (by omega)

set_option maxHeartbeats 600000 in
set_option maxRecDepth 100000 in
theorem mB_log (l : Launch) (D : va_G) (dA : Nat → ClassId) {S : zS} {b : zBr} {x w : Int32} (hl0 : l.stackTraces = false) (hB : zBrA S b) (hW : zBrW b) : zMet l D vwCl zKK dA (zG0 D dA) yB_log (Cond.code yB_log cB_log 4 (some .int) :: zTs) { frames := 7, cells := 8, slots := 48, locals := 104 } 8 48 [.ref 1, .int x, .int w] S (fun v S' => S' = S ∧ ∃ r, v = some (.int r) ∧ sLog b x w = (0, r)) (fun E S' => S' = S ∧ (E = "java/lang/IllegalArgumentException" ∧ sLog b x w = (1, 0))) := by
  refine z_met (tys := ztys dA) (by decide) rfl zG0_K rfl (Nat.le_of_ble_eq_true rfl) (fun p e s m args below meth c A ad X hr hlocks hin hex => ?_)
  obtain ⟨hT, hLg, hSs, hGs, hnx, hnf⟩ := id hB
  obtain ⟨v1, v2, v3, v4, v5, v6, v7⟩ := id hW
  obtain ⟨hn, t0, t1, t2, t3, t4, t5, q6, q7, q8, q9, q10, hpt, hlg, hse, hcu, hop, hgr⟩ := id hT
  refine z_aload_n (j := 0) X dB_log_0 rfl rfl ?_
  refine z_iload_n (j := 1) X dB_log_1 rfl rfl ?_
  refine z_callV (n := 1) (As := [.int x]) (rest := []) X zG0_m (mB_logAt l D dA (x := x) hl0 hT) (w_V X.2.2.2.2.1 lB_80 jB_logAt sB_logAt i_LogBroker kB_logAt rfl rfl (by decide +kernel) ⟨Nat.le_of_ble_eq_true rfl, Nat.le_of_ble_eq_true rfl⟩) rfl rfl rfl rfl rfl (Nat.le_of_ble_eq_true rfl) dB_log_2 ⟨Nat.le_of_ble_eq_true rfl, Nat.le_of_ble_eq_true rfl⟩ (fun v S9 hp => ?_) (fun E S1 hx => ?_)
  · obtain ⟨hS9, t, ht, hx9, hv⟩ := hp
    subst hv
    have hS9 := hS9.symm
    subst hS9
    subst hx9
    obtain ⟨g, hg0⟩ : ∃ g, g = b.2.1 t := ⟨_, rfl⟩
    have hO : zLogA S t g := by rw [hg0]; exact hLg t ht
    have hWg : zLogW g := by rw [hg0]; exact v2 t ht
    have hV : ∀ o e, g.2.2 o = some e → zEW e := by rw [hg0]; exact v3 t ht
    obtain ⟨gd1, gd2, f0, f1, f2, f3, f4, f5, f6, f7, f8, hent, hee⟩ := id hO
    obtain ⟨w1, w2, w3, w4, w5, w6, w7, w8, w9⟩ := id hWg
    have wb := zBa_le g
    have wp : zPr g ≤ 60 := zcnt_le
    have ht12 := ht.1
    refine z_astore_n (L' := [(3, .ref (60 + t)), (0, .ref 1), (1, .int (nI t)), (2, .int w)]) X dB_log_5 rfl (by decide) rfl ?_
    refine z_iload_n (j := 3) X dB_log_6 rfl rfl ?_
    refine z_iconst (v := (nI 0)) X dB_log_7 (by decide) ?_
    refine z_bipush (v := (nI 8)) X dB_log_8 (by decide) ?_
    refine z_callS (n := 3) (As := [.int w, .int (nI 0), .int (nI 8)]) (rest := []) X zG0_m (mB_mustBeWithin l D dA hl0) (w_S X.2.2.2.2.1 lB_45 tB_mustBeWithin i_LogBroker kB_mustBeWithin rfl rfl (by decide +kernel) ⟨Nat.le_of_ble_eq_true rfl, Nat.le_of_ble_eq_true rfl⟩) rfl rfl (Nat.le_of_ble_eq_true rfl) dB_log_10 ⟨Nat.le_of_ble_eq_true rfl, Nat.le_of_ble_eq_true rfl⟩ (fun v S9 hp => ?_) (fun E S1 hx => ?_)
    · obtain ⟨hv, hS9, hr1, hr2⟩ := hp
      subst hv
      have hS9 := hS9.symm
      subst hS9
      obtain ⟨k, hx9, hk⟩ := zRg (n := 8) (by omega) hr1 hr2
      subst hx9
      refine z_iload_n (j := 3) X dB_log_13 rfl rfl ?_
      rcases (show k = 0 ∨ k = 1 ∨ k = 2 ∨ k = 3 ∨ k = 4 ∨ k = 5 ∨ k = 6 ∨ k = 7 ∨ k = 8 by omega) with e | e | e | e | e | e | e | e | e <;> subst e
      · refine z_tableIn (tgt := 60) X dB_log_14 (by decide) (by decide) rfl (by decide) ?_
        refine z_aload_n (j := 0) X dB_log_60 rfl rfl ?_
        refine z_geti (C := RG) (T := TG) (N := 9) (k := 4) X (w_in inG) rfl rfl (kd_G ht12) (by decide) (w_m lB_145) rfl rfl dB_log_61 (hv := f4) ?_
        refine z_iret X hlocks hr dB_log_64 (by omega) (by omega) ?_
        exact ⟨rfl, _, rfl, by rw [sLog_v ht (by decide), sLogV_0, ← hg0]⟩
      · refine z_tableIn (tgt := 65) X dB_log_14 (by decide) (by decide) rfl (by decide) ?_
        refine z_aload_n (j := 0) X dB_log_65 rfl rfl ?_
        refine z_geti (C := RG) (T := TG) (N := 9) (k := 5) X (w_in inG) rfl rfl (kd_G ht12) (by decide) (w_m lB_148) rfl rfl dB_log_66 (hv := f5) ?_
        refine z_iret X hlocks hr dB_log_69 (by omega) (by omega) ?_
        exact ⟨rfl, _, rfl, by rw [sLog_v ht (by decide), sLogV_1, ← hg0]⟩
      · refine z_tableIn (tgt := 70) X dB_log_14 (by decide) (by decide) rfl (by decide) ?_
        refine z_aload_n (j := 0) X dB_log_70 rfl rfl ?_
        refine z_callV (n := 0) (As := []) (rest := []) X zG0_m (mG_stableOffset l D dA ht12 hO hWg) (w_V X.2.2.2.2.1 lB_227 jG_stableOffset sG_stableOffset i_LogBroker_Log kG_stableOffset rfl rfl (by decide +kernel) ⟨Nat.le_of_ble_eq_true rfl, Nat.le_of_ble_eq_true rfl⟩) (kd_G ht12) rfl rfl rfl rfl (Nat.le_of_ble_eq_true rfl) dB_log_71 ⟨Nat.le_of_ble_eq_true rfl, Nat.le_of_ble_eq_true rfl⟩ (fun v S9 hp => ?_) (fun E S1 hx => hx.elim)
        obtain ⟨hv, hS9⟩ := hp
        subst hv
        have hS9 := hS9.symm
        subst hS9
        refine z_iret X hlocks hr dB_log_74 (by omega) (by omega) ?_
        exact ⟨rfl, _, rfl, by rw [sLog_v ht (by decide), sLogV_2, ← hg0]⟩
      · refine z_tableIn (tgt := 75) X dB_log_14 (by decide) (by decide) rfl (by decide) ?_
        refine z_aload_n (j := 0) X dB_log_75 rfl rfl ?_
        refine z_geti (C := RG) (T := TG) (N := 9) (k := 8) X (w_in inG) rfl rfl (kd_G ht12) (by decide) (w_m lB_230) rfl rfl dB_log_76 (hv := f8) ?_
        refine z_iret X hlocks hr dB_log_79 (by omega) (by omega) ?_
        exact ⟨rfl, _, rfl, by rw [sLog_v ht (by decide), sLogV_3, ← hg0]⟩
      · refine z_tableIn (tgt := 80) X dB_log_14 (by decide) (by decide) rfl (by decide) ?_
        refine z_aload_n (j := 0) X dB_log_80 rfl rfl ?_
        refine z_geti (C := RG) (T := TG) (N := 9) (k := 7) X (w_in inG) rfl rfl (kd_G ht12) (by decide) (w_m lB_233) rfl rfl dB_log_81 (hv := f7) ?_
        refine z_iret X hlocks hr dB_log_84 (by omega) (by omega) ?_
        exact ⟨rfl, _, rfl, by rw [sLog_v ht (by decide), sLogV_4, ← hg0]⟩
      · refine z_tableIn (tgt := 85) X dB_log_14 (by decide) (by decide) rfl (by decide) ?_
        refine z_aload_n (j := 1) X dB_log_85 rfl rfl ?_
        refine z_getr (C := RB) (T := TB) (N := 11) (k := 5) X (w_in inB) rfl rfl rfl (by decide) (w_m lB_33) rfl rfl t5 dB_log_86 ?_
        refine z_iconst (v := (nI 0)) X dB_log_89 (by decide) ?_
        refine z_aald (t0 := 5) X rfl (by decide) (by decide) (by decide) rfl (by decide) (by decide) (hgr 0 (by decide)) dB_log_90 ?_
        refine z_getr (C := RH) (T := TH) (N := 5) (k := 3) X (w_in inH) rfl rfl rfl (by decide) (w_m lB_216) rfl rfl (hGs 0 (by decide)).2.2.2.2.2.2.2.2.1 dB_log_91 ?_
        refine z_iload_n (j := 2) X dB_log_94 rfl rfl ?_
        refine z_iald (t0 := 0) X rfl rfl (by omega) (by decide) dB_log_95 (hv := ((hGs 0 (by decide)).2.2.2.2.2.2.2.2.2.2.2.2.1 t (by omega))) ?_
        refine z_iret X hlocks hr dB_log_96 (by omega) (by omega) ?_
        exact ⟨rfl, _, rfl, by rw [sLog_v ht (by decide), sLogV_5]⟩
      · refine z_tableIn (tgt := 97) X dB_log_14 (by decide) (by decide) rfl (by decide) ?_
        refine z_aload_n (j := 1) X dB_log_97 rfl rfl ?_
        refine z_getr (C := RB) (T := TB) (N := 11) (k := 5) X (w_in inB) rfl rfl rfl (by decide) (w_m lB_33) rfl rfl t5 dB_log_98 ?_
        refine z_iconst (v := (nI 1)) X dB_log_101 (by decide) ?_
        refine z_aald (t0 := 5) X rfl (by decide) (by decide) (by decide) rfl (by decide) (by decide) (hgr 1 (by decide)) dB_log_102 ?_
        refine z_getr (C := RH) (T := TH) (N := 5) (k := 3) X (w_in inH) rfl rfl rfl (by decide) (w_m lB_216) rfl rfl (hGs 1 (by decide)).2.2.2.2.2.2.2.2.1 dB_log_103 ?_
        refine z_iload_n (j := 2) X dB_log_106 rfl rfl ?_
        refine z_iald (t0 := 0) X rfl rfl (by omega) (by decide) dB_log_107 (hv := ((hGs 1 (by decide)).2.2.2.2.2.2.2.2.2.2.2.2.1 t (by omega))) ?_
        refine z_iret X hlocks hr dB_log_108 (by omega) (by omega) ?_
        exact ⟨rfl, _, rfl, by rw [sLog_v ht (by decide), sLogV_6]⟩
      · refine z_tableIn (tgt := 109) X dB_log_14 (by decide) (by decide) rfl (by decide) ?_
        refine z_aload_n (j := 1) X dB_log_109 rfl rfl ?_
        refine z_getr (C := RB) (T := TB) (N := 11) (k := 5) X (w_in inB) rfl rfl rfl (by decide) (w_m lB_33) rfl rfl t5 dB_log_110 ?_
        refine z_iconst (v := (nI 0)) X dB_log_113 (by decide) ?_
        refine z_aald (t0 := 5) X rfl (by decide) (by decide) (by decide) rfl (by decide) (by decide) (hgr 0 (by decide)) dB_log_114 ?_
        refine z_getr (C := RH) (T := TH) (N := 5) (k := 4) X (w_in inH) rfl rfl rfl (by decide) (w_m lB_224) rfl rfl (hGs 0 (by decide)).2.2.2.2.2.2.2.2.2.1 dB_log_115 ?_
        refine z_iload_n (j := 2) X dB_log_118 rfl rfl ?_
        refine z_iald (t0 := 0) X rfl rfl (by omega) (by decide) dB_log_119 (hv := ((hGs 0 (by decide)).2.2.2.2.2.2.2.2.2.2.2.2.2 t (by omega))) ?_
        refine z_iret X hlocks hr dB_log_120 (by omega) (by omega) ?_
        exact ⟨rfl, _, rfl, by rw [sLog_v ht (by decide), sLogV_7]⟩
      · refine z_tableOut (tgt := 121) X dB_log_14 (Or.inr (by decide)) (by decide) ?_
        refine z_aload_n (j := 1) X dB_log_121 rfl rfl ?_
        refine z_getr (C := RB) (T := TB) (N := 11) (k := 5) X (w_in inB) rfl rfl rfl (by decide) (w_m lB_33) rfl rfl t5 dB_log_122 ?_
        refine z_iconst (v := (nI 1)) X dB_log_125 (by decide) ?_
        refine z_aald (t0 := 5) X rfl (by decide) (by decide) (by decide) rfl (by decide) (by decide) (hgr 1 (by decide)) dB_log_126 ?_
        refine z_getr (C := RH) (T := TH) (N := 5) (k := 4) X (w_in inH) rfl rfl rfl (by decide) (w_m lB_224) rfl rfl (hGs 1 (by decide)).2.2.2.2.2.2.2.2.2.1 dB_log_127 ?_
        refine z_iload_n (j := 2) X dB_log_130 rfl rfl ?_
        refine z_iald (t0 := 0) X rfl rfl (by omega) (by decide) dB_log_131 (hv := ((hGs 1 (by decide)).2.2.2.2.2.2.2.2.2.2.2.2.2 t (by omega))) ?_
        refine z_iret X hlocks hr dB_log_132 (by omega) (by omega) ?_
        exact ⟨rfl, _, rfl, by rw [sLog_v ht (by decide), sLogV_8]⟩
    · obtain ⟨hE, hS9, hn9⟩ := hx
      subst hE
      have hS9 := hS9.symm
      subst hS9
      exact z_out (fun x hx9 => (hex x hx9).elim) hlocks ⟨rfl, rfl, by unfold sLog; rw [zT_s ht, zA_n hn9]⟩ (by omega) (by omega)
  · obtain ⟨hE, hS9, hn9⟩ := hx
    subst hE
    have hS9 := hS9.symm
    subst hS9
    exact z_out (fun x hx9 => (hex x hx9).elim) hlocks ⟨rfl, rfl, by unfold sLog; rw [zT_n hn9]⟩ (by omega) (by omega)

theorem zcount_out {b : zBr} {x : Int32} (h : x < 0 ∨ nI 8 ≤ x) : sCount b x = -1 := by
  have hk : ∀ k, k < 8 → ¬ x = nI k := fun k hk e => by
    subst e
    rcases h with h | h
    · exact nI_pos (by omega) h
    · exact absurd ((nI_leI (by decide) (by omega)).mp h) (by omega)
  unfold sCount
  rw [if_neg (hk 0 (by decide)), if_neg (hk 1 (by decide)), if_neg (hk 2 (by decide)), if_neg (hk 3 (by decide)), if_neg (hk 4 (by decide)), if_neg (hk 5 (by decide)), if_neg (hk 6 (by decide)), if_neg (hk 7 (by decide))]
set_option maxHeartbeats 600000 in
set_option maxRecDepth 100000 in
theorem mB_count (l : Launch) (D : va_G) (dA : Nat → ClassId) {S : zS} {b : zBr} {x : Int32} (hB : zBrA S b) (hW : zBrW b) : zMet l D vwCl zKK dA (zG0 D dA) yB_count (Cond.code yB_count cB_count 2 (some .int) :: zTs) { frames := 1, cells := 0, slots := 0, locals := 22 } 0 0 [.ref 1, .int x] S (fun v S' => S' = S ∧ v = some (.int (sCount b x))) (fun _ _ => False) := by
  refine z_met (tys := ztys dA) (by decide) rfl zG0_K rfl (Nat.le_of_ble_eq_true rfl) (fun p e s m args below meth c A ad X hr hlocks hin hex => ?_)
  obtain ⟨hT, hLg, hSs, hGs, hnx, hnf⟩ := id hB
  obtain ⟨v1, v2, v3, v4, v5, v6, v7⟩ := id hW
  obtain ⟨hn, t0, t1, t2, t3, t4, t5, q6, q7, q8, q9, q10, hpt, hlg, hse, hcu, hop, hgr⟩ := id hT
  refine z_iload_n (j := 1) X dB_count_0 rfl rfl ?_
  rcases pk_ix x (n := 8) (by decide) with h | h | ⟨k, hk, rfl⟩
  · have hout : sCount b x = -1 := zcount_out (Or.inl h)
    refine z_tableOut (tgt := 98) X dB_count_1 (Or.inl (by rw [Int32.lt_iff_toInt_lt, Int32.toInt_zero] at h; omega)) (by decide) ?_
    refine z_iconst (v := (-1)) X dB_count_98 (by decide) ?_
    refine z_iret X hlocks hr dB_count_99 (by omega) (by omega) ?_
    exact ⟨rfl, by rw [hout]⟩
  · have hout : sCount b x = -1 := zcount_out (Or.inr h)
    refine z_tableOut (tgt := 98) X dB_count_1 (Or.inr (by rw [Int32.le_iff_toInt_le, nI_toInt (by decide)] at h; omega)) (by decide) ?_
    refine z_iconst (v := (-1)) X dB_count_98 (by decide) ?_
    refine z_iret X hlocks hr dB_count_99 (by omega) (by omega) ?_
    exact ⟨rfl, by rw [hout]⟩
  · rcases (show k = 0 ∨ k = 1 ∨ k = 2 ∨ k = 3 ∨ k = 4 ∨ k = 5 ∨ k = 6 ∨ k = 7 by omega) with e | e | e | e | e | e | e | e <;> subst e
    · refine z_tableIn (tgt := 48) X dB_count_1 (by decide) (by decide) rfl (by decide) ?_
      refine z_aload_n (j := 0) X dB_count_48 rfl rfl ?_
      refine z_geti (C := RB) (T := TB) (N := 11) (k := 6) X (w_in inB) rfl rfl rfl (by decide) (w_m lB_236) rfl rfl dB_count_49 (hv := q6) ?_
      refine z_iret X hlocks hr dB_count_52 (by omega) (by omega) ?_
      exact ⟨rfl, rfl⟩
    · refine z_tableIn (tgt := 53) X dB_count_1 (by decide) (by decide) rfl (by decide) ?_
      refine z_aload_n (j := 0) X dB_count_53 rfl rfl ?_
      refine z_geti (C := RB) (T := TB) (N := 11) (k := 7) X (w_in inB) rfl rfl rfl (by decide) (w_m lB_105) rfl rfl dB_count_54 (hv := q7) ?_
      refine z_iret X hlocks hr dB_count_57 (by omega) (by omega) ?_
      exact ⟨rfl, rfl⟩
    · refine z_tableIn (tgt := 58) X dB_count_1 (by decide) (by decide) rfl (by decide) ?_
      refine z_aload_n (j := 0) X dB_count_58 rfl rfl ?_
      refine z_geti (C := RB) (T := TB) (N := 11) (k := 8) X (w_in inB) rfl rfl rfl (by decide) (w_m lB_239) rfl rfl dB_count_59 (hv := q8) ?_
      refine z_iret X hlocks hr dB_count_62 (by omega) (by omega) ?_
      exact ⟨rfl, rfl⟩
    · refine z_tableIn (tgt := 63) X dB_count_1 (by decide) (by decide) rfl (by decide) ?_
      refine z_aload_n (j := 0) X dB_count_63 rfl rfl ?_
      refine z_geti (C := RB) (T := TB) (N := 11) (k := 9) X (w_in inB) rfl rfl rfl (by decide) (w_m lB_242) rfl rfl dB_count_64 (hv := q9) ?_
      refine z_iret X hlocks hr dB_count_67 (by omega) (by omega) ?_
      exact ⟨rfl, rfl⟩
    · refine z_tableIn (tgt := 68) X dB_count_1 (by decide) (by decide) rfl (by decide) ?_
      refine z_aload_n (j := 0) X dB_count_68 rfl rfl ?_
      refine z_geti (C := RB) (T := TB) (N := 11) (k := 10) X (w_in inB) rfl rfl rfl (by decide) (w_m lB_195) rfl rfl dB_count_69 (hv := q10) ?_
      refine z_iret X hlocks hr dB_count_72 (by omega) (by omega) ?_
      exact ⟨rfl, rfl⟩
    · refine z_tableIn (tgt := 73) X dB_count_1 (by decide) (by decide) rfl (by decide) ?_
      refine z_aload_n (j := 0) X dB_count_73 rfl rfl ?_
      refine z_callV (n := 0) (As := []) (rest := []) X zG0_m (mB_openTransactions l D dA hB hW) (w_V X.2.2.2.2.1 lB_245 jB_openTransactions sB_openTransactions i_LogBroker kB_openTransactions rfl rfl (by decide +kernel) ⟨Nat.le_of_ble_eq_true rfl, Nat.le_of_ble_eq_true rfl⟩) rfl rfl rfl rfl rfl (Nat.le_of_ble_eq_true rfl) dB_count_74 ⟨Nat.le_of_ble_eq_true rfl, Nat.le_of_ble_eq_true rfl⟩ (fun v S9 hp => ?_) (fun E S1 hx => hx.elim)
      obtain ⟨hS9, hv⟩ := hp
      subst hv
      have hS9 := hS9.symm
      subst hS9
      refine z_iret X hlocks hr dB_count_77 (by omega) (by omega) ?_
      exact ⟨rfl, rfl⟩
    · refine z_tableIn (tgt := 78) X dB_count_1 (by decide) (by decide) rfl (by decide) ?_
      refine z_aload_n (j := 0) X dB_count_78 rfl rfl ?_
      refine z_getr (C := RB) (T := TB) (N := 11) (k := 5) X (w_in inB) rfl rfl rfl (by decide) (w_m lB_33) rfl rfl t5 dB_count_79 ?_
      refine z_iconst (v := (nI 0)) X dB_count_82 (by decide) ?_
      refine z_aald (t0 := 5) X rfl (by decide) (by decide) (by decide) rfl (by decide) (by decide) (hgr 0 (by decide)) dB_count_83 ?_
      refine z_geti (C := RH) (T := TH) (N := 5) (k := 0) X (w_in inH) rfl rfl rfl (by decide) (w_m lB_248) rfl rfl dB_count_84 (hv := (hGs 0 (by decide)).2.2.2.2.2.1) ?_
      refine z_iret X hlocks hr dB_count_87 (by omega) (by omega) ?_
      exact ⟨rfl, rfl⟩
    · refine z_tableIn (tgt := 88) X dB_count_1 (by decide) (by decide) rfl (by decide) ?_
      refine z_aload_n (j := 0) X dB_count_88 rfl rfl ?_
      refine z_getr (C := RB) (T := TB) (N := 11) (k := 5) X (w_in inB) rfl rfl rfl (by decide) (w_m lB_33) rfl rfl t5 dB_count_89 ?_
      refine z_iconst (v := (nI 1)) X dB_count_92 (by decide) ?_
      refine z_aald (t0 := 5) X rfl (by decide) (by decide) (by decide) rfl (by decide) (by decide) (hgr 1 (by decide)) dB_count_93 ?_
      refine z_geti (C := RH) (T := TH) (N := 5) (k := 0) X (w_in inH) rfl rfl rfl (by decide) (w_m lB_248) rfl rfl dB_count_94 (hv := (hGs 1 (by decide)).2.2.2.2.2.1) ?_
      refine z_iret X hlocks hr dB_count_97 (by omega) (by omega) ?_
      exact ⟨rfl, rfl⟩
end
section
/-! CONTRACTS of LogBroker: compacting, polling, keeping, beginning (rows by program) -/
set_option maxHeartbeats 600000 in
set_option maxRecDepth 100000 in
theorem mB_compact (l : Launch) (D : va_G) (dA : Nat → ClassId) {S : zS} {b : zBr} {x : Int32} (hl0 : l.stackTraces = false) (hB : zBrA S b) (hW : zBrW b) : zMet l D vwCl zKK dA (zG0 D dA) yB_compact (Cond.code yB_compact cB_compact 4 (some .int) :: zTs) { frames := 7, cells := 8, slots := 48, locals := 103 } 8 48 [.ref 1, .int x] S (fun v S' => ∃ r b', v = some (.int r) ∧ sCompact b x = ((0, r), b') ∧ zBrA S' b' ∧ zfr zOwnB S S') (fun E S' => S' = S ∧ ((E = "java/lang/IllegalArgumentException" ∧ sCompact b x = ((1, 0), b)) ∨ (E = "java/lang/IllegalStateException" ∧ sCompact b x = ((2, 0), b)))) := by
  refine z_met (tys := ztys dA) (by decide) rfl zG0_K rfl (Nat.le_of_ble_eq_true rfl) (fun p e s m args below meth c A ad X hr hlocks hin hex => ?_)
  obtain ⟨hT, hLg, hSs, hGs, hnx, hnf⟩ := id hB
  obtain ⟨v1, v2, v3, v4, v5, v6, v7⟩ := id hW
  obtain ⟨hn, t0, t1, t2, t3, t4, t5, q6, q7, q8, q9, q10, hpt, hlg, hse, hcu, hop, hgr⟩ := id hT
  refine z_aload_n (j := 0) X dB_compact_0 rfl rfl ?_
  refine z_iload_n (j := 1) X dB_compact_1 rfl rfl ?_
  refine z_callV (n := 1) (As := [.int x]) (rest := []) X zG0_m (mB_logAt l D dA (x := x) hl0 hT) (w_V X.2.2.2.2.1 lB_80 jB_logAt sB_logAt i_LogBroker kB_logAt rfl rfl (by decide +kernel) ⟨Nat.le_of_ble_eq_true rfl, Nat.le_of_ble_eq_true rfl⟩) rfl rfl rfl rfl rfl (Nat.le_of_ble_eq_true rfl) dB_compact_2 ⟨Nat.le_of_ble_eq_true rfl, Nat.le_of_ble_eq_true rfl⟩ (fun v S9 hp => ?_) (fun E S1 hx => ?_)
  · obtain ⟨hS9, t, ht, hx9, hv⟩ := hp
    subst hv
    have hS9 := hS9.symm
    subst hS9
    subst hx9
    obtain ⟨g, hg0⟩ : ∃ g, g = b.2.1 t := ⟨_, rfl⟩
    have hO : zLogA S t g := by rw [hg0]; exact hLg t ht
    have hWg : zLogW g := by rw [hg0]; exact v2 t ht
    have hV : ∀ o e, g.2.2 o = some e → zEW e := by rw [hg0]; exact v3 t ht
    obtain ⟨gd1, gd2, f0, f1, f2, f3, f4, f5, f6, f7, f8, hent, hee⟩ := id hO
    obtain ⟨w1, w2, w3, w4, w5, w6, w7, w8, w9⟩ := id hWg
    have wb := zBa_le g
    have wp : zPr g ≤ 60 := zcnt_le
    have ht12 := ht.1
    refine z_astore_n (L' := [(2, .ref (60 + t)), (0, .ref 1), (1, .int (nI t))]) X dB_compact_5 rfl (by decide) rfl ?_
    refine z_aload_n (j := 0) X dB_compact_6 rfl rfl ?_
    refine z_geti (C := RG) (T := TG) (N := 9) (k := 2) X (w_in inG) rfl rfl (kd_G ht12) (by decide) (w_m lB_186) rfl rfl dB_compact_7 (hv := f2) ?_
    refine z_if_ne (tgt := 23) X dB_compact_10 (by decide) (fun c_10 => ?_) (fun c_10 => ?_)
    · refine z_aload_n (j := 0) X dB_compact_23 rfl rfl ?_
      have hc0 : ¬ g.1.2.2 = nI 0 := c_10
      refine z_callV (n := 0) (As := []) (rest := []) X zG0_m (mG_dropOutdated l D dA ht12 hO hWg hV) (w_V X.2.2.2.2.1 lB_191 jG_dropOutdated sG_dropOutdated i_LogBroker_Log kG_dropOutdated rfl rfl (by decide +kernel) ⟨Nat.le_of_ble_eq_true rfl, Nat.le_of_ble_eq_true rfl⟩) (kd_G ht12) rfl rfl rfl rfl (Nat.le_of_ble_eq_true rfl) dB_compact_24 ⟨Nat.le_of_ble_eq_true rfl, Nat.le_of_ble_eq_true rfl⟩ (fun v S1 hp => ?_) (fun E S1 hx => hx.elim)
      obtain ⟨hv, hA1, hf1, hd1⟩ := hp
      subst hv
      have hT1 : zTop S1 b := zTop_fr hT (fun n h1 h2 => hf1.ag (fun h => by unfold zOwnG at h; omega))
      obtain ⟨hn, t0, t1, t2, t3, t4, t5, q6, q7, q8, q9, q10, hpt, hlg, hse, hcu, hop, hgr⟩ := id hT1
      refine z_istore_n (L' := [(3, .int (nI (zPr g - zPr (zComp g)))), (2, .ref (60 + t)), (0, .ref 1), (1, .int (nI t))]) X dB_compact_27 rfl (by decide) rfl ?_
      refine z_aload_n (j := 2) X dB_compact_28 rfl rfl ?_
      refine z_dup X dB_compact_29 rfl ?_
      refine z_geti (C := RB) (T := TB) (N := 11) (k := 10) X (w_in inB) rfl rfl rfl (by decide) (w_m lB_195) rfl rfl dB_compact_30 (hv := q10) ?_
      refine z_iload_n (j := 0) X dB_compact_33 rfl rfl ?_
      refine z_iadd X dB_compact_34 ?_
      refine z_puti (C := RB) (T := TB) (N := 11) (k := 10) X (w_in inB) rfl rfl rfl (by decide) (w_m lB_195) rfl tyB tyB_ok nmB rfl rfl (ty := .int) (by decide +kernel) rfl rfl dB_compact_35 ?_
      refine z_iload_n (j := 0) X dB_compact_38 rfl rfl ?_
      refine z_iret X hlocks hr dB_compact_39 (by omega) (by omega) ?_
      have hfx : zfr (fun n => n = 1 ∨ zOwnG t n) S (zsi S1 1 10 (b.2.2.2.2.2.2.2.2.2.2 + nI (zPr g - zPr (zComp g)))) := (hf1.mono (fun n h => Or.inr h)).tr (zfr.i (Or.inl rfl))
      refine ⟨_, _, rfl, by unfold sCompact; rw [zT_s ht, if_neg (by rw [← hg0]; exact fun h => hc0 h), ← hg0], ?_, hfx.ownB (fun n h => by unfold zOwnG at h; omega)⟩
      refine zBrA_upd hB hW hfx (zTop_10 hT1) rfl (fun t2 h2 => ?_) (fun i hi => Or.inr ⟨rfl, fun n h9 h => by unfold zOwnS at h9; unfold zOwnG at h; omega⟩) (fun i hi => Or.inr ⟨rfl, fun n h9 h => by unfold zOwnH at h9; unfold zOwnG at h; omega⟩) (fun t2 h12 h2 n h9 h => ?_)
      · by_cases e9 : t2 = t
        · subst e9
          have e8 : (bG b t2 (zComp g)).2.1 t2 = zComp g := if_pos rfl
          refine Or.inl ⟨?_, fun o ho h => ?_⟩
          · show zLogA _ t2 ((bG b t2 (zComp g)).2.1 t2)
            rw [e8]
            exact zLogA_fr hA1 (zLogW_comp hWg) (fun n hn9 => zAg_i (fun e => by unfold zOwnG at hn9; omega))
          · have h' : ((bG b t2 (zComp g)).2.1 t2).2.1.2 ≤ o := h
            rw [e8] at h'
            show S1.1 _ = false
            rw [hd1]
            exact hnf t2 ht o ho (by rw [← hg0]; exact h')
        · exact Or.inr ⟨if_neg e9, fun n h9 h => by unfold zOwnG at h9 h; have := h2.1; omega⟩
      · unfold zOwnG at h9 h
        have : ¬ t2 = t := fun e => h2 (by rw [e]; exact ht)
        omega
    · exact z_thISE (text := "the topic is not compacted") X hl0 (by decide +kernel) dB_compact_13 dB_compact_16 dB_compact_17 dB_compact_19 dB_compact_22 hex (Nat.le_of_ble_eq_true rfl) (Nat.le_of_ble_eq_true rfl) (Nat.le_of_ble_eq_true rfl) (Nat.le_of_ble_eq_true rfl) hlocks (by omega) (by omega) ⟨rfl, Or.inr (⟨rfl, by unfold sCompact; rw [zT_s ht, if_pos (by rw [← hg0]; exact c_10)]⟩)⟩
  · obtain ⟨hE, hS9, hn9⟩ := hx
    subst hE
    have hS9 := hS9.symm
    subst hS9
    exact z_out (fun x hx9 => (hex x hx9).elim) hlocks ⟨rfl, Or.inl ⟨rfl, by unfold sCompact; rw [zT_n hn9]⟩⟩ (by omega) (by omega)

set_option maxHeartbeats 600000 in
set_option maxRecDepth 100000 in
theorem mB_begin (l : Launch) (D : va_G) (dA : Nat → ClassId) {S : zS} {b : zBr} {x : Int32} (hl0 : l.stackTraces = false) (hB : zBrA S b) (hW : zBrW b) : zMet l D vwCl zKK dA (zG0 D dA) yB_begin (Cond.code yB_begin cB_begin 3 none :: zTs) { frames := 7, cells := 8, slots := 48, locals := 104 } 8 48 [.ref 1, .int x] S (fun v S' => ∃ b', v = none ∧ sBegin b x = ((0, 0), b') ∧ zBrA S' b' ∧ zfr zOwnB S S') (fun E S' => S' = S ∧ ((E = "java/lang/IllegalArgumentException" ∧ sBegin b x = ((1, 0), b)) ∨ (E = "java/util/NoSuchElementException" ∧ sBegin b x = ((2, 0), b)) ∨ (E = "java/lang/IllegalStateException" ∧ sBegin b x = ((3, 0), b)) ∨ (E = "java/lang/UnsupportedOperationException" ∧ sBegin b x = ((4, 0), b)))) := by
  refine z_met (tys := ztys dA) (by decide) rfl zG0_K rfl (Nat.le_of_ble_eq_true rfl) (fun p e s m args below meth c A ad X hr hlocks hin hex => ?_)
  obtain ⟨hT, hLg, hSs, hGs, hnx, hnf⟩ := id hB
  obtain ⟨v1, v2, v3, v4, v5, v6, v7⟩ := id hW
  obtain ⟨hn, t0, t1, t2, t3, t4, t5, q6, q7, q8, q9, q10, hpt, hlg, hse, hcu, hop, hgr⟩ := id hT
  refine z_iload_n (j := 1) X dB_begin_0 rfl rfl ?_
  refine z_iconst (v := (nI 0)) X dB_begin_1 (by decide) ?_
  refine z_iconst (v := (nI 5)) X dB_begin_2 (by decide) ?_
  refine z_callS (n := 3) (As := [.int x, .int (nI 0), .int (nI 5)]) (rest := []) X zG0_m (mB_mustBeWithin l D dA hl0) (w_S X.2.2.2.2.1 lB_45 tB_mustBeWithin i_LogBroker kB_mustBeWithin rfl rfl (by decide +kernel) ⟨Nat.le_of_ble_eq_true rfl, Nat.le_of_ble_eq_true rfl⟩) rfl rfl (Nat.le_of_ble_eq_true rfl) dB_begin_3 ⟨Nat.le_of_ble_eq_true rfl, Nat.le_of_ble_eq_true rfl⟩ (fun v S9 hp => ?_) (fun E S1 hx => ?_)
  · obtain ⟨hv, hS9, hr1, hr2⟩ := hp
    subst hv
    have hS9 := hS9.symm
    subst hS9
    obtain ⟨i, hx9, hi⟩ := zRg (n := 5) (by omega) hr1 hr2
    subst hx9
    refine z_aload_n (j := 0) X dB_begin_6 rfl rfl ?_
    refine z_iload_n (j := 1) X dB_begin_7 rfl rfl ?_
    refine z_callV (n := 1) (As := [.int (nI i)]) (rest := []) X zG0_m (mB_openedSession l D dA hl0 hT (by omega) (hSs i (by omega))) (w_V X.2.2.2.2.1 lB_89 jB_openedSession sB_openedSession i_LogBroker kB_openedSession rfl rfl (by decide +kernel) ⟨Nat.le_of_ble_eq_true rfl, Nat.le_of_ble_eq_true rfl⟩) rfl rfl rfl rfl rfl (Nat.le_of_ble_eq_true rfl) dB_begin_8 ⟨Nat.le_of_ble_eq_true rfl, Nat.le_of_ble_eq_true rfl⟩ (fun v S9 hp => ?_) (fun E S1 hx => ?_)
    · obtain ⟨hS9, hv, hpr1⟩ := hp
      subst hv
      have hS9 := hS9.symm
      subst hS9
      have hpr2 := (v4 i (by omega)).1.resolve_left hpr1
      refine z_astore_n (L' := [(2, .ref (10 + i)), (0, .ref 1), (1, .int (nI i))]) X dB_begin_11 rfl (by decide) rfl ?_
      refine z_aload_n (j := 0) X dB_begin_12 rfl rfl ?_
      refine z_geti (C := RS) (T := TS) (N := 4) (k := 1) X (w_in inS) rfl rfl (kd_S (by omega)) (by decide) (w_m lB_59) rfl rfl dB_begin_13 (hv := (hSs i (by omega)).2.2.2.2.1) ?_
      refine z_if_eq (tgt := 29) X dB_begin_16 (by decide) (fun c_16 => ?_) (fun c_16 => ?_)
      · refine z_aload_n (j := 1) X dB_begin_29 rfl rfl ?_
        refine z_iload_n (j := 2) X dB_begin_30 rfl rfl ?_
        refine z_callV (n := 1) (As := [.int (nI i)]) (rest := []) X zG0_m (mB_mustBeCurrent l D dA hl0 hT (by omega) (hSs i (by omega)) (v4 i (by omega)).1) (w_V X.2.2.2.2.1 lB_102 jB_mustBeCurrent sB_mustBeCurrent i_LogBroker kB_mustBeCurrent rfl rfl (by decide +kernel) ⟨Nat.le_of_ble_eq_true rfl, Nat.le_of_ble_eq_true rfl⟩) rfl rfl rfl rfl rfl (Nat.le_of_ble_eq_true rfl) dB_begin_31 ⟨Nat.le_of_ble_eq_true rfl, Nat.le_of_ble_eq_true rfl⟩ (fun v S9 hp => ?_) (fun E S1 hx => ?_)
        · obtain ⟨hS9, hv, hcur⟩ := hp
          subst hv
          have hS9 := hS9.symm
          subst hS9
          have hcur := (zCur_iff hpr2).mpr hcur
          refine z_aload_n (j := 0) X dB_begin_34 rfl rfl ?_
          refine z_iconst (v := (nI 1)) X dB_begin_35 (by decide) ?_
          refine z_puti (C := RS) (T := TS) (N := 4) (k := 1) X (w_in inS) rfl rfl (kd_S (by omega)) (by decide) (w_m lB_59) rfl tyS tyS_ok nmS rfl rfl (ty := .boolean) (by decide +kernel) rfl rfl dB_begin_36 ?_
          refine z_vret X hlocks hr dB_begin_39 (by omega) (by omega) ?_
          have hfx : zfr (zOwnS i) S (zsi S (10 + i) 1 (nI 1)) := zfr.i (Or.inl rfl)
          refine ⟨_, rfl, by unfold sBegin; rw [zA_s hi (by decide), if_neg hpr1, if_neg (fun h => h c_16), if_neg (fun h => h hcur)], ?_, hfx.ownB (fun n h => by unfold zOwnS at h; omega)⟩
          refine zBrA_upd hB hW hfx (zTop_fr hT (fun n h1 h2 => zAg_i (by omega))) rfl (fun t2 h2 => Or.inr ⟨rfl, fun n h9 h => by unfold zOwnS at h; unfold zOwnG at h9; have := h2.1; omega⟩) (fun j hj => ?_) (fun j hj => Or.inr ⟨rfl, fun n h9 h => by unfold zOwnH at h9; unfold zOwnS at h; omega⟩) (fun t2 h12 h2 n h9 h => by unfold zOwnS at h; unfold zOwnG at h9; omega)
          by_cases e9 : j = i
          · subst e9
            refine Or.inl ?_
            show zSsA _ j (if j = j then ((b.2.2.1 j).1, nI 1, (b.2.2.1 j).2.2) else b.2.2.1 j)
            rw [if_pos rfl]
            obtain ⟨k1, k2, k3, k4, k5, k6, k7, k8, k9⟩ := hSs j hj
            exact ⟨k1, k2, k3, rd_i (Or.inr (by decide)) k4, rd_s, k6, k7, fun t ht => rd_i (Or.inl (by omega)) (k8 t ht), fun t ht => rd_i (Or.inl (by omega)) (k9 t ht)⟩
          · exact Or.inr ⟨if_neg e9, fun n h9 h => by unfold zOwnS at h9 h; omega⟩
        · obtain ⟨hE, hS9, hcur⟩ := hx
          subst hE
          have hS9 := hS9.symm
          subst hS9
          have hcur := fun h => hcur ((zCur_iff hpr2).mp h)
          exact z_out (fun x hx9 => (hex x hx9).elim) hlocks ⟨rfl, Or.inr (Or.inr (Or.inr (⟨rfl, by unfold sBegin; rw [zA_s hi (by decide), if_neg hpr1, if_neg (fun h => h c_16), if_pos (show ¬ b.2.2.2.1 (b.2.2.1 i).1.toNatClampNeg = nI i from hcur)]⟩)))⟩ (by omega) (by omega)
      · exact z_thISE (text := "a transaction is open") X hl0 (by decide +kernel) dB_begin_19 dB_begin_22 dB_begin_23 dB_begin_25 dB_begin_28 hex (Nat.le_of_ble_eq_true rfl) (Nat.le_of_ble_eq_true rfl) (Nat.le_of_ble_eq_true rfl) (Nat.le_of_ble_eq_true rfl) hlocks (by omega) (by omega) ⟨rfl, Or.inr (Or.inr (Or.inl ⟨rfl, by unfold sBegin; rw [zA_s hi (by decide), if_neg hpr1, if_pos (show ¬ (b.2.2.1 i).2.1 = nI 0 from c_16)]⟩))⟩
    · obtain ⟨hE, hS9, hpr1⟩ := hx
      subst hE
      have hS9 := hS9.symm
      subst hS9
      exact z_out (fun x hx9 => (hex x hx9).elim) hlocks ⟨rfl, Or.inr (Or.inl ⟨rfl, by unfold sBegin; rw [zA_s hi (by decide), if_pos hpr1]⟩)⟩ (by omega) (by omega)
  · obtain ⟨hE, hS9, hn9⟩ := hx
    subst hE
    have hS9 := hS9.symm
    subst hS9
    exact z_out (fun x hx9 => (hex x hx9).elim) hlocks ⟨rfl, Or.inl ⟨rfl, by unfold sBegin; rw [zA_n hn9]⟩⟩ (by omega) (by omega)

set_option maxHeartbeats 600000 in
set_option maxRecDepth 100000 in
theorem mB_poll (l : Launch) (D : va_G) (dA : Nat → ClassId) {S : zS} {b : zBr} {x mm gn y : Int32} (hl0 : l.stackTraces = false) (hB : zBrA S b) (hW : zBrW b) : zMet l D vwCl zKK dA (zG0 D dA) yB_poll (Cond.code yB_poll cB_poll 8 (some .int) :: zTs) { frames := 7, cells := 10, slots := 60, locals := 105 } 10 60 [.ref 1, .int x, .int mm, .int gn, .int y] S (fun v S' => ∃ r b', v = some (.int r) ∧ sPoll b x mm gn y = ((0, r), b') ∧ zBrA S' b' ∧ zfr zOwnB S S') (fun E S' => S' = S ∧ ((E = "java/lang/IllegalArgumentException" ∧ sPoll b x mm gn y = ((1, 0), b)) ∨ (E = "java/util/NoSuchElementException" ∧ sPoll b x mm gn y = ((2, 0), b)) ∨ (E = "java/lang/IllegalStateException" ∧ sPoll b x mm gn y = ((3, 0), b)))) := by
  refine z_met (tys := ztys dA) (by decide) rfl zG0_K rfl (Nat.le_of_ble_eq_true rfl) (fun p e s m args below meth c A ad X hr hlocks hin hex => ?_)
  obtain ⟨hT, hLg, hSs, hGs, hnx, hnf⟩ := id hB
  obtain ⟨v1, v2, v3, v4, v5, v6, v7⟩ := id hW
  obtain ⟨hn, t0, t1, t2, t3, t4, t5, q6, q7, q8, q9, q10, hpt, hlg, hse, hcu, hop, hgr⟩ := id hT
  refine z_iload_n (j := 1) X dB_poll_0 rfl rfl ?_
  refine z_iconst (v := (nI 0)) X dB_poll_1 (by decide) ?_
  refine z_iconst (v := (nI 1)) X dB_poll_2 (by decide) ?_
  refine z_callS (n := 3) (As := [.int x, .int (nI 0), .int (nI 1)]) (rest := []) X zG0_m (mB_mustBeWithin l D dA hl0) (w_S X.2.2.2.2.1 lB_45 tB_mustBeWithin i_LogBroker kB_mustBeWithin rfl rfl (by decide +kernel) ⟨Nat.le_of_ble_eq_true rfl, Nat.le_of_ble_eq_true rfl⟩) rfl rfl (Nat.le_of_ble_eq_true rfl) dB_poll_3 ⟨Nat.le_of_ble_eq_true rfl, Nat.le_of_ble_eq_true rfl⟩ (fun v S9 hp => ?_) (fun E S1 hx => ?_)
  · obtain ⟨hv, hS9, hr1, hr2⟩ := hp
    subst hv
    have hS9 := hS9.symm
    subst hS9
    obtain ⟨i, hx9, hi⟩ := zRg (n := 1) (by omega) hr1 hr2
    subst hx9
    refine z_iload_n (j := 2) X dB_poll_6 rfl rfl ?_
    refine z_iconst (v := (nI 0)) X dB_poll_7 (by decide) ?_
    refine z_iconst (v := (nI 3)) X dB_poll_8 (by decide) ?_
    refine z_callS (n := 3) (As := [.int mm, .int (nI 0), .int (nI 3)]) (rest := []) X zG0_m (mB_mustBeWithin l D dA hl0) (w_S X.2.2.2.2.1 lB_45 tB_mustBeWithin i_LogBroker kB_mustBeWithin rfl rfl (by decide +kernel) ⟨Nat.le_of_ble_eq_true rfl, Nat.le_of_ble_eq_true rfl⟩) rfl rfl (Nat.le_of_ble_eq_true rfl) dB_poll_9 ⟨Nat.le_of_ble_eq_true rfl, Nat.le_of_ble_eq_true rfl⟩ (fun v S9 hp => ?_) (fun E S1 hx => ?_)
    · obtain ⟨hv, hS9, hr1, hr2⟩ := hp
      subst hv
      have hS9 := hS9.symm
      subst hS9
      obtain ⟨k, hx9, hk⟩ := zRg (n := 3) (by omega) hr1 hr2
      subst hx9
      refine z_aload_n (j := 0) X dB_poll_12 rfl rfl ?_
      refine z_iload (j := 4) X dB_poll_13 rfl ?_
      refine z_callV (n := 1) (As := [.int y]) (rest := []) X zG0_m (mB_logAt l D dA (x := y) hl0 hT) (w_V X.2.2.2.2.1 lB_80 jB_logAt sB_logAt i_LogBroker kB_logAt rfl rfl (by decide +kernel) ⟨Nat.le_of_ble_eq_true rfl, Nat.le_of_ble_eq_true rfl⟩) rfl rfl rfl rfl rfl (Nat.le_of_ble_eq_true rfl) dB_poll_15 ⟨Nat.le_of_ble_eq_true rfl, Nat.le_of_ble_eq_true rfl⟩ (fun v S9 hp => ?_) (fun E S1 hx => ?_)
      · obtain ⟨hS9, t, ht, hx9, hv⟩ := hp
        subst hv
        have hS9 := hS9.symm
        subst hS9
        subst hx9
        obtain ⟨g, hg0⟩ : ∃ g, g = b.2.1 t := ⟨_, rfl⟩
        have hO : zLogA S t g := by rw [hg0]; exact hLg t ht
        have hWg : zLogW g := by rw [hg0]; exact v2 t ht
        have hV : ∀ o e, g.2.2 o = some e → zEW e := by rw [hg0]; exact v3 t ht
        obtain ⟨gd1, gd2, f0, f1, f2, f3, f4, f5, f6, f7, f8, hent, hee⟩ := id hO
        obtain ⟨w1, w2, w3, w4, w5, w6, w7, w8, w9⟩ := id hWg
        have wb := zBa_le g
        have wp : zPr g ≤ 60 := zcnt_le
        have ht12 := ht.1
        refine z_astore (L' := [(5, .ref (60 + t)), (0, .ref 1), (1, .int (nI i)), (2, .int (nI k)), (3, .int gn), (4, .int (nI t))]) X dB_poll_18 (by decide) rfl ?_
        refine z_aload_n (j := 1) X dB_poll_20 rfl rfl ?_
        refine z_getr (C := RB) (T := TB) (N := 11) (k := 5) X (w_in inB) rfl rfl rfl (by decide) (w_m lB_33) rfl rfl t5 dB_poll_21 ?_
        refine z_iload_n (j := 2) X dB_poll_24 rfl rfl ?_
        refine z_aald (t0 := 5) X rfl (by decide) (by decide) (by decide) rfl (by omega) (by decide) (hgr i (by omega)) dB_poll_25 ?_
        refine z_astore (L' := [(6, .ref (40 + i)), (5, .ref (60 + t)), (0, .ref 1), (1, .int (nI i)), (2, .int (nI k)), (3, .int gn), (4, .int (nI t))]) X dB_poll_26 (by decide) rfl ?_
        refine z_aload (j := 0) X dB_poll_28 rfl ?_
        refine z_iload_n (j := 4) X dB_poll_30 rfl rfl ?_
        refine z_iload_n (j := 5) X dB_poll_31 rfl rfl ?_
        refine z_iload (j := 6) X dB_poll_32 rfl ?_
        refine z_callS (n := 4) (As := [.ref (40 + i), .int (nI k), .int gn, .int (nI t)]) (rest := []) X zG0_m (mB_mustOwn l D dA hl0 (by omega) (hGs i (by omega)) ht12 (by omega)) (w_S X.2.2.2.2.1 lB_212 tB_mustOwn i_LogBroker kB_mustOwn rfl rfl (by decide +kernel) ⟨Nat.le_of_ble_eq_true rfl, Nat.le_of_ble_eq_true rfl⟩) rfl rfl (Nat.le_of_ble_eq_true rfl) dB_poll_34 ⟨Nat.le_of_ble_eq_true rfl, Nat.le_of_ble_eq_true rfl⟩ (fun v S9 hp => ?_) (fun E S1 hx => ?_)
        · obtain ⟨hS9, hv, hown⟩ := hp
          subst hv
          have hS9 := hS9.symm
          subst hS9
          refine z_aload (j := 1) X dB_poll_37 rfl ?_
          refine z_aload (j := 0) X dB_poll_39 rfl ?_
          refine z_getr (C := RH) (T := TH) (N := 5) (k := 3) X (w_in inH) rfl rfl (kd_H (by omega)) (by decide) (w_m lB_216) rfl rfl (hGs i (by omega)).2.2.2.2.2.2.2.2.1 dB_poll_41 ?_
          refine z_iload (j := 6) X dB_poll_44 rfl ?_
          refine z_iald (t0 := 0) X (kd_HP (by omega)) rfl (by omega) (by decide) dB_poll_46 (hv := ((hGs i (by omega)).2.2.2.2.2.2.2.2.2.2.2.2.1 t (by omega))) ?_
          refine z_aload (j := 1) X dB_poll_47 rfl ?_
          refine z_geti (C := RG) (T := TG) (N := 9) (k := 4) X (w_in inG) rfl rfl (kd_G ht12) (by decide) (w_m lB_145) rfl rfl dB_poll_49 (hv := f4) ?_
          have hps := (v7 i t (by omega) ht12).1
          refine z_mmax X (w_m lB_219) dB_poll_52 (Nat.le_of_ble_eq_true rfl) (Nat.le_of_ble_eq_true rfl) (Nat.le_of_ble_eq_true rfl) (Nat.le_of_ble_eq_true rfl) ?_
          refine z_top (zMaxN (by omega) (by omega)) ?_
          refine z_iconst (v := (nI 1)) X dB_poll_55 (by decide) ?_
          refine z_callV (n := 2) (As := [.int (nI (max ((b.2.2.2.2.2.1 i).2.2.2.1 t) g.2.1.1)), .int (nI 1)]) (rest := []) X zG0_m (mG_firstVisible l D dA true ht12 hO hWg (by omega)) (w_V X.2.2.2.2.1 lB_156 jG_firstVisible sG_firstVisible i_LogBroker_Log kG_firstVisible rfl rfl (by decide +kernel) ⟨Nat.le_of_ble_eq_true rfl, Nat.le_of_ble_eq_true rfl⟩) (kd_G ht12) rfl rfl rfl rfl (Nat.le_of_ble_eq_true rfl) dB_poll_56 ⟨Nat.le_of_ble_eq_true rfl, Nat.le_of_ble_eq_true rfl⟩ (fun v S9 hp => ?_) (fun E S1 hx => hx.elim)
          obtain ⟨hv, hS9⟩ := hp
          subst hv
          have hS9 := hS9.symm
          subst hS9
          refine z_callS (n := 1) (As := [.int (zOI (zVis g (max ((b.2.2.2.2.2.1 i).2.2.2.1 t) g.2.1.1) true))]) (rest := []) X zG0_m (mB_found l D dA hl0) (w_S X.2.2.2.2.1 lB_160 tB_found i_LogBroker kB_found rfl rfl (by decide +kernel) ⟨Nat.le_of_ble_eq_true rfl, Nat.le_of_ble_eq_true rfl⟩) rfl rfl (Nat.le_of_ble_eq_true rfl) dB_poll_59 ⟨Nat.le_of_ble_eq_true rfl, Nat.le_of_ble_eq_true rfl⟩ (fun v S9 hp => ?_) (fun E S1 hx => ?_)
          · obtain ⟨hv, hS9, hnf⟩ := hp
            subst hv
            have hS9 := hS9.symm
            subst hS9
            obtain ⟨z, hvs⟩ : ∃ z, (zVis g (max ((b.2.2.2.2.2.1 i).2.2.2.1 t) g.2.1.1) true) = some z := by
              cases hvs : (zVis g (max ((b.2.2.2.2.2.1 i).2.2.2.1 t) g.2.1.1) true) with
              | none => rw [hvs] at hnf; exact absurd rfl hnf
              | some z => exact ⟨z, rfl⟩
            rw [hvs]
            have hz := zVis_le hWg hvs
            refine z_top (show zOI (some z) = nI z from rfl) ?_
            refine z_istore (L' := [(7, .int (nI z)), (6, .ref (40 + i)), (5, .ref (60 + t)), (0, .ref 1), (1, .int (nI i)), (2, .int (nI k)), (3, .int gn), (4, .int (nI t))]) X dB_poll_62 (by decide) rfl ?_
            refine z_aload (j := 1) X dB_poll_64 rfl ?_
            refine z_getr (C := RH) (T := TH) (N := 5) (k := 3) X (w_in inH) rfl rfl (kd_H (by omega)) (by decide) (w_m lB_216) rfl rfl (hGs i (by omega)).2.2.2.2.2.2.2.2.1 dB_poll_66 ?_
            refine z_iload (j := 7) X dB_poll_69 rfl ?_
            refine z_iload (j := 0) X dB_poll_71 rfl ?_
            refine z_iconst (v := (nI 1)) X dB_poll_73 (by decide) ?_
            refine z_iadd X dB_poll_74 ?_
            refine z_top (nI_add z 1) ?_
            refine z_iast (t0 := 0) X (kd_HP (by omega)) rfl (by omega) (by decide) dB_poll_75 ?_
            refine z_iload (j := 0) X dB_poll_76 rfl ?_
            refine z_iret X hlocks hr dB_poll_78 (by omega) (by omega) ?_
            have hfx : zfr (zOwnH i) S (zsi S (46 + i) t (nI (z + 1))) := zfr.i (Or.inr (Or.inr (Or.inr (Or.inl rfl))))
            refine ⟨_, _, rfl, by unfold sPoll; rw [zA_s hi (by decide), zA_s hk (by decide), zT_s ht, if_neg (fun h => h hown), ← hg0, hvs]; rfl, ?_, hfx.ownB (fun n h => by unfold zOwnH at h; omega)⟩
            refine zBrA_upd hB hW hfx (zTop_fr hT (fun n h1 h2 => zAg_i (by omega))) rfl (fun t2 h2 => Or.inr ⟨rfl, fun n h9 h => by unfold zOwnH at h; unfold zOwnG at h9; have := h2.1; omega⟩) (fun j hj => Or.inr ⟨rfl, fun n h9 h => by unfold zOwnH at h; unfold zOwnS at h9; omega⟩) (fun j hj => ?_) (fun t2 h12 h2 n h9 h => by unfold zOwnH at h; unfold zOwnG at h9; omega)
            by_cases e9 : j = i
            · subst e9
              refine Or.inl ?_
              show zGrA _ j (if j = j then _ else b.2.2.2.2.2.1 j)
              rw [if_pos rfl]
              obtain ⟨k1, k2, k3, k4, k5, k6, k7, k8, k9, k10, k11, k12, k13, k14⟩ := hGs j hj
              exact ⟨k1, k2, k3, k4, k5, rd_i (Or.inl (by omega)) k6, k7, k8, k9, k10, fun k hk => rd_i (Or.inl (by omega)) (k11 k hk), fun k hk => rd_i (Or.inl (by omega)) (k12 k hk), fun k hk => by
                show _ = nI (if k = t then z + 1 else _)
                by_cases e8 : k = t
                · subst e8; rw [if_pos rfl]; exact rd_s
                · rw [if_neg e8]; exact rd_i (Or.inr e8) (k13 k hk), fun k hk => rd_i (Or.inl (by omega)) (k14 k hk)⟩
            · exact Or.inr ⟨if_neg e9, fun n h9 h => by unfold zOwnH at h9 h; omega⟩
          · obtain ⟨hE, hS9, hnf⟩ := hx
            subst hE
            have hS9 := hS9.symm
            subst hS9
            exact z_out (fun x hx9 => (hex x hx9).elim) hlocks ⟨rfl, Or.inr (Or.inl ⟨rfl, by unfold sPoll; rw [zA_s hi (by decide), zA_s hk (by decide), zT_s ht, if_neg (fun h => h hown), ← hg0, zOI_m1 hnf (fun z hz => by have := zVis_le hWg hz; omega)]; rfl⟩)⟩ (by omega) (by omega)
        · obtain ⟨hE, hS9, hown⟩ := hx
          subst hE
          have hS9 := hS9.symm
          subst hS9
          exact z_out (fun x hx9 => (hex x hx9).elim) hlocks ⟨rfl, Or.inr (Or.inr (⟨rfl, by unfold sPoll; rw [zA_s hi (by decide), zA_s hk (by decide), zT_s ht, if_pos hown]⟩))⟩ (by omega) (by omega)
      · obtain ⟨hE, hS9, hn9⟩ := hx
        subst hE
        have hS9 := hS9.symm
        subst hS9
        exact z_out (fun x hx9 => (hex x hx9).elim) hlocks ⟨rfl, Or.inl ⟨rfl, by unfold sPoll; rw [zA_s hi (by decide), zA_s hk (by decide), zT_n hn9]⟩⟩ (by omega) (by omega)
    · obtain ⟨hE, hS9, hn9⟩ := hx
      subst hE
      have hS9 := hS9.symm
      subst hS9
      exact z_out (fun x hx9 => (hex x hx9).elim) hlocks ⟨rfl, Or.inl ⟨rfl, by unfold sPoll; rw [zA_s hi (by decide), zA_n hn9]⟩⟩ (by omega) (by omega)
  · obtain ⟨hE, hS9, hn9⟩ := hx
    subst hE
    have hS9 := hS9.symm
    subst hS9
    exact z_out (fun x hx9 => (hex x hx9).elim) hlocks ⟨rfl, Or.inl ⟨rfl, by unfold sPoll; rw [zA_n hn9]⟩⟩ (by omega) (by omega)

set_option maxHeartbeats 600000 in
set_option maxRecDepth 100000 in
theorem mB_keep (l : Launch) (D : va_G) (dA : Nat → ClassId) {S : zS} {b : zBr} {x mm gn y o : Int32} (hl0 : l.stackTraces = false) (hB : zBrA S b) (hW : zBrW b) : zMet l D vwCl zKK dA (zG0 D dA) yB_keep (Cond.code yB_keep cB_keep 7 none :: zTs) { frames := 7, cells := 10, slots := 60, locals := 105 } 10 60 [.ref 1, .int x, .int mm, .int gn, .int y, .int o] S (fun v S' => ∃ b', v = none ∧ sKeep b x mm gn y o = ((0, 0), b') ∧ zBrA S' b' ∧ zfr zOwnB S S') (fun E S' => S' = S ∧ ((E = "java/lang/IllegalArgumentException" ∧ sKeep b x mm gn y o = ((1, 0), b)) ∨ (E = "java/lang/IllegalStateException" ∧ sKeep b x mm gn y o = ((2, 0), b)))) := by
  refine z_met (tys := ztys dA) (by decide) rfl zG0_K rfl (Nat.le_of_ble_eq_true rfl) (fun p e s m args below meth c A ad X hr hlocks hin hex => ?_)
  obtain ⟨hT, hLg, hSs, hGs, hnx, hnf⟩ := id hB
  obtain ⟨v1, v2, v3, v4, v5, v6, v7⟩ := id hW
  obtain ⟨hn, t0, t1, t2, t3, t4, t5, q6, q7, q8, q9, q10, hpt, hlg, hse, hcu, hop, hgr⟩ := id hT
  refine z_iload_n (j := 1) X dB_keep_0 rfl rfl ?_
  refine z_iconst (v := (nI 0)) X dB_keep_1 (by decide) ?_
  refine z_iconst (v := (nI 1)) X dB_keep_2 (by decide) ?_
  refine z_callS (n := 3) (As := [.int x, .int (nI 0), .int (nI 1)]) (rest := []) X zG0_m (mB_mustBeWithin l D dA hl0) (w_S X.2.2.2.2.1 lB_45 tB_mustBeWithin i_LogBroker kB_mustBeWithin rfl rfl (by decide +kernel) ⟨Nat.le_of_ble_eq_true rfl, Nat.le_of_ble_eq_true rfl⟩) rfl rfl (Nat.le_of_ble_eq_true rfl) dB_keep_3 ⟨Nat.le_of_ble_eq_true rfl, Nat.le_of_ble_eq_true rfl⟩ (fun v S9 hp => ?_) (fun E S1 hx => ?_)
  · obtain ⟨hv, hS9, hr1, hr2⟩ := hp
    subst hv
    have hS9 := hS9.symm
    subst hS9
    obtain ⟨i, hx9, hi⟩ := zRg (n := 1) (by omega) hr1 hr2
    subst hx9
    refine z_iload_n (j := 2) X dB_keep_6 rfl rfl ?_
    refine z_iconst (v := (nI 0)) X dB_keep_7 (by decide) ?_
    refine z_iconst (v := (nI 3)) X dB_keep_8 (by decide) ?_
    refine z_callS (n := 3) (As := [.int mm, .int (nI 0), .int (nI 3)]) (rest := []) X zG0_m (mB_mustBeWithin l D dA hl0) (w_S X.2.2.2.2.1 lB_45 tB_mustBeWithin i_LogBroker kB_mustBeWithin rfl rfl (by decide +kernel) ⟨Nat.le_of_ble_eq_true rfl, Nat.le_of_ble_eq_true rfl⟩) rfl rfl (Nat.le_of_ble_eq_true rfl) dB_keep_9 ⟨Nat.le_of_ble_eq_true rfl, Nat.le_of_ble_eq_true rfl⟩ (fun v S9 hp => ?_) (fun E S1 hx => ?_)
    · obtain ⟨hv, hS9, hr1, hr2⟩ := hp
      subst hv
      have hS9 := hS9.symm
      subst hS9
      obtain ⟨k, hx9, hk⟩ := zRg (n := 3) (by omega) hr1 hr2
      subst hx9
      refine z_aload_n (j := 0) X dB_keep_12 rfl rfl ?_
      refine z_iload (j := 4) X dB_keep_13 rfl ?_
      refine z_callV (n := 1) (As := [.int y]) (rest := []) X zG0_m (mB_logAt l D dA (x := y) hl0 hT) (w_V X.2.2.2.2.1 lB_80 jB_logAt sB_logAt i_LogBroker kB_logAt rfl rfl (by decide +kernel) ⟨Nat.le_of_ble_eq_true rfl, Nat.le_of_ble_eq_true rfl⟩) rfl rfl rfl rfl rfl (Nat.le_of_ble_eq_true rfl) dB_keep_15 ⟨Nat.le_of_ble_eq_true rfl, Nat.le_of_ble_eq_true rfl⟩ (fun v S9 hp => ?_) (fun E S1 hx => ?_)
      · obtain ⟨hS9, t, ht, hx9, hv⟩ := hp
        subst hv
        have hS9 := hS9.symm
        subst hS9
        subst hx9
        obtain ⟨g, hg0⟩ : ∃ g, g = b.2.1 t := ⟨_, rfl⟩
        have hO : zLogA S t g := by rw [hg0]; exact hLg t ht
        have hWg : zLogW g := by rw [hg0]; exact v2 t ht
        have hV : ∀ o e, g.2.2 o = some e → zEW e := by rw [hg0]; exact v3 t ht
        obtain ⟨gd1, gd2, f0, f1, f2, f3, f4, f5, f6, f7, f8, hent, hee⟩ := id hO
        obtain ⟨w1, w2, w3, w4, w5, w6, w7, w8, w9⟩ := id hWg
        have wb := zBa_le g
        have wp : zPr g ≤ 60 := zcnt_le
        have ht12 := ht.1
        refine z_astore (L' := [(6, .ref (60 + t)), (0, .ref 1), (1, .int (nI i)), (2, .int (nI k)), (3, .int gn), (4, .int (nI t)), (5, .int o)]) X dB_keep_18 (by decide) rfl ?_
        refine z_iload (j := 6) X dB_keep_20 rfl ?_
        refine z_iconst (v := (nI 0)) X dB_keep_22 (by decide) ?_
        refine z_aload (j := 0) X dB_keep_23 rfl ?_
        refine z_geti (C := RG) (T := TG) (N := 9) (k := 5) X (w_in inG) rfl rfl (kd_G ht12) (by decide) (w_m lB_148) rfl rfl dB_keep_25 (hv := f5) ?_
        refine z_callS (n := 3) (As := [.int o, .int (nI 0), .int (nI g.2.1.2)]) (rest := []) X zG0_m (mB_mustBeWithin l D dA hl0) (w_S X.2.2.2.2.1 lB_45 tB_mustBeWithin i_LogBroker kB_mustBeWithin rfl rfl (by decide +kernel) ⟨Nat.le_of_ble_eq_true rfl, Nat.le_of_ble_eq_true rfl⟩) rfl rfl (Nat.le_of_ble_eq_true rfl) dB_keep_28 ⟨Nat.le_of_ble_eq_true rfl, Nat.le_of_ble_eq_true rfl⟩ (fun v S9 hp => ?_) (fun E S1 hx => ?_)
        · obtain ⟨hv, hS9, hr1, hr2⟩ := hp
          subst hv
          have hS9 := hS9.symm
          subst hS9
          obtain ⟨z, hx9, hz⟩ := zRg (n := g.2.1.2) (by omega) hr1 hr2
          subst hx9
          refine z_aload_n (j := 1) X dB_keep_31 rfl rfl ?_
          refine z_getr (C := RB) (T := TB) (N := 11) (k := 5) X (w_in inB) rfl rfl rfl (by decide) (w_m lB_33) rfl rfl t5 dB_keep_32 ?_
          refine z_iload_n (j := 2) X dB_keep_35 rfl rfl ?_
          refine z_aald (t0 := 5) X rfl (by decide) (by decide) (by decide) rfl (by omega) (by decide) (hgr i (by omega)) dB_keep_36 ?_
          refine z_iload_n (j := 3) X dB_keep_37 rfl rfl ?_
          refine z_iload_n (j := 4) X dB_keep_38 rfl rfl ?_
          refine z_iload (j := 5) X dB_keep_39 rfl ?_
          refine z_callS (n := 4) (As := [.ref (40 + i), .int (nI k), .int gn, .int (nI t)]) (rest := []) X zG0_m (mB_mustOwn l D dA hl0 (by omega) (hGs i (by omega)) ht12 (by omega)) (w_S X.2.2.2.2.1 lB_212 tB_mustOwn i_LogBroker kB_mustOwn rfl rfl (by decide +kernel) ⟨Nat.le_of_ble_eq_true rfl, Nat.le_of_ble_eq_true rfl⟩) rfl rfl (Nat.le_of_ble_eq_true rfl) dB_keep_41 ⟨Nat.le_of_ble_eq_true rfl, Nat.le_of_ble_eq_true rfl⟩ (fun v S9 hp => ?_) (fun E S1 hx => ?_)
          · obtain ⟨hS9, hv, hown⟩ := hp
            subst hv
            have hS9 := hS9.symm
            subst hS9
            refine z_aload_n (j := 1) X dB_keep_44 rfl rfl ?_
            refine z_getr (C := RB) (T := TB) (N := 11) (k := 5) X (w_in inB) rfl rfl rfl (by decide) (w_m lB_33) rfl rfl t5 dB_keep_45 ?_
            refine z_iload_n (j := 2) X dB_keep_48 rfl rfl ?_
            refine z_aald (t0 := 5) X rfl (by decide) (by decide) (by decide) rfl (by omega) (by decide) (hgr i (by omega)) dB_keep_49 ?_
            refine z_getr (C := RH) (T := TH) (N := 5) (k := 4) X (w_in inH) rfl rfl (kd_H (by omega)) (by decide) (w_m lB_224) rfl rfl (hGs i (by omega)).2.2.2.2.2.2.2.2.2.1 dB_keep_50 ?_
            refine z_iload (j := 5) X dB_keep_53 rfl ?_
            refine z_iload (j := 6) X dB_keep_55 rfl ?_
            refine z_iast (t0 := 0) X (kd_HK (by omega)) rfl (by omega) (by decide) dB_keep_57 ?_
            refine z_vret X hlocks hr dB_keep_58 (by omega) (by omega) ?_
            have hfx : zfr (zOwnH i) S (zsi S (48 + i) t (nI z)) := zfr.i (Or.inr (Or.inr (Or.inr (Or.inr rfl))))
            refine ⟨_, rfl, by unfold sKeep; rw [zA_s hi (by decide), zA_s hk (by decide), zT_s ht, ← hg0, zA_s hz (by omega), if_neg (fun h => h hown)], ?_, hfx.ownB (fun n h => by unfold zOwnH at h; omega)⟩
            refine zBrA_upd hB hW hfx (zTop_fr hT (fun n h1 h2 => zAg_i (by omega))) rfl (fun t2 h2 => Or.inr ⟨rfl, fun n h9 h => by unfold zOwnH at h; unfold zOwnG at h9; have := h2.1; omega⟩) (fun j hj => Or.inr ⟨rfl, fun n h9 h => by unfold zOwnH at h; unfold zOwnS at h9; omega⟩) (fun j hj => ?_) (fun t2 h12 h2 n h9 h => by unfold zOwnH at h; unfold zOwnG at h9; omega)
            by_cases e9 : j = i
            · subst e9
              refine Or.inl ?_
              show zGrA _ j (if j = j then _ else b.2.2.2.2.2.1 j)
              rw [if_pos rfl]
              obtain ⟨k1, k2, k3, k4, k5, k6, k7, k8, k9, k10, k11, k12, k13, k14⟩ := hGs j hj
              exact ⟨k1, k2, k3, k4, k5, rd_i (Or.inl (by omega)) k6, k7, k8, k9, k10, fun k hk => rd_i (Or.inl (by omega)) (k11 k hk), fun k hk => rd_i (Or.inl (by omega)) (k12 k hk), fun k hk => rd_i (Or.inl (by omega)) (k13 k hk), fun k hk => by
                show _ = nI (if k = t then z else _)
                by_cases e8 : k = t
                · subst e8; rw [if_pos rfl]; exact rd_s
                · rw [if_neg e8]; exact rd_i (Or.inr e8) (k14 k hk)⟩
            · exact Or.inr ⟨if_neg e9, fun n h9 h => by unfold zOwnH at h9 h; omega⟩
          · obtain ⟨hE, hS9, hown⟩ := hx
            subst hE
            have hS9 := hS9.symm
            subst hS9
            exact z_out (fun x hx9 => (hex x hx9).elim) hlocks ⟨rfl, Or.inr (⟨rfl, by unfold sKeep; rw [zA_s hi (by decide), zA_s hk (by decide), zT_s ht, ← hg0, zA_s hz (by omega), if_pos hown]⟩)⟩ (by omega) (by omega)
        · obtain ⟨hE, hS9, hn9⟩ := hx
          subst hE
          have hS9 := hS9.symm
          subst hS9
          exact z_out (fun x hx9 => (hex x hx9).elim) hlocks ⟨rfl, Or.inl ⟨rfl, by unfold sKeep; rw [zA_s hi (by decide), zA_s hk (by decide), zT_s ht, ← hg0, zA_n hn9]⟩⟩ (by omega) (by omega)
      · obtain ⟨hE, hS9, hn9⟩ := hx
        subst hE
        have hS9 := hS9.symm
        subst hS9
        exact z_out (fun x hx9 => (hex x hx9).elim) hlocks ⟨rfl, Or.inl ⟨rfl, by unfold sKeep; rw [zA_s hi (by decide), zA_s hk (by decide), zT_n hn9]⟩⟩ (by omega) (by omega)
    · obtain ⟨hE, hS9, hn9⟩ := hx
      subst hE
      have hS9 := hS9.symm
      subst hS9
      exact z_out (fun x hx9 => (hex x hx9).elim) hlocks ⟨rfl, Or.inl ⟨rfl, by unfold sKeep; rw [zA_s hi (by decide), zA_n hn9]⟩⟩ (by omega) (by omega)
  · obtain ⟨hE, hS9, hn9⟩ := hx
    subst hE
    have hS9 := hS9.symm
    subst hS9
    exact z_out (fun x hx9 => (hex x hx9).elim) hlocks ⟨rfl, Or.inl ⟨rfl, by unfold sKeep; rw [zA_n hn9]⟩⟩ (by omega) (by omega)
end
section
/-! writing, deciding, opening, producing, new topics -/
def zWr (g : zLg) (e : zE) : zLg := zShort (zStab (zApp g e)) 61 (zApp g e)
theorem zShort_1 {stb : Nat} : ∀ {f : Nat} {g : zLg}, (zShort stb f g).1 = g.1 ∧ (zShort stb f g).2.1.2 = g.2.1.2 ∧ ∀ o e, (zShort stb f g).2.2 o = some e → g.2.2 o = some e
  | 0, g => ⟨rfl, rfl, fun _ _ h => h⟩
  | f + 1, g => by
    unfold zShort
    by_cases h : g.1.2.1 < zCl g ∧ g.2.1.1 + g.1.1 ≤ stb
    · rw [if_pos h]
      obtain ⟨h1, h2, h3⟩ := zShort_1 (stb := stb) (f := f) (g := zSh1 g)
      refine ⟨h1, h2, fun o e he => ?_⟩
      have h4 : (if o < g.2.1.1 + g.1.1 then none else g.2.2 o) = some e := h3 o e he
      by_cases h5 : o < g.2.1.1 + g.1.1
      · rw [if_pos h5] at h4; cases h4
      · rw [if_neg h5] at h4; exact h4
    · rw [if_neg h]; exact ⟨rfl, rfl, fun _ _ h => h⟩
theorem zLogW_short {stb : Nat} : ∀ {f : Nat} {g : zLg}, zLogW g → zLogW (zShort stb f g)
  | 0, g, h => h
  | f + 1, g, hW => by
    unfold zShort
    by_cases h : g.1.2.1 < zCl g ∧ g.2.1.1 + g.1.1 ≤ stb
    · rw [if_pos h]
      exact zLogW_short (zLogW_sh1 hW (by omega))
    · rw [if_neg h]; exact hW
theorem zWr_end (g : zLg) (e : zE) : (zWr g e).2.1.2 = g.2.1.2 + 1 := zShort_1.2.1
theorem zWr_ent {g : zLg} {e : zE} {o : Nat} {e2 : zE} (h : (zWr g e).2.2 o = some e2) : (o = g.2.1.2 ∧ e2 = e) ∨ g.2.2 o = some e2 := by
  have h1 : (if o = g.2.1.2 then some e else g.2.2 o) = some e2 := zShort_1.2.2 o e2 h
  by_cases h2 : o = g.2.1.2
  · rw [if_pos h2] at h1; cases h1; exact Or.inl ⟨h2, rfl⟩
  · rw [if_neg h2] at h1; exact Or.inr h1
theorem zLogW_wr {g : zLg} {e : zE} (h : zLogW g) (hen : g.2.1.2 < 60) : zLogW (zWr g e) := zLogW_short (zLogW_app h hen)
/-- how many go when it is written -/
def zWd (g : zLg) (e : zE) : Nat := zPr (zApp g e) - zPr (zWr g e)
def bW (b : zBr) (t : Nat) (e : zE) : zBr := bN (bG b t (zWr (b.2.1 t) e)) (b.2.2.2.2.2.2.1 + nI 1, b.2.2.2.2.2.2.2.1, b.2.2.2.2.2.2.2.2.1, b.2.2.2.2.2.2.2.2.2.1 + nI (zWd (b.2.1 t) e), b.2.2.2.2.2.2.2.2.2.2)
theorem zBrW_wr {b : zBr} {t : Nat} {e : zE} (h : zBrW b) (ht : zEx b t) (hen : (b.2.1 t).2.1.2 < 60) (he : zEW e) : zBrW (bW b t e) := by
  obtain ⟨v1, v2, v3, v4, v5, v6, v7⟩ := h
  have e1 : ∀ j, (bW b t e).2.1 j = if j = t then zWr (b.2.1 t) e else b.2.1 j := fun j => rfl
  refine ⟨v1, fun j hj => ?_, fun j hj o e2 h2 => ?_, v4, fun i j hi hj => ?_, v6, v7⟩
  · rw [e1]
    by_cases h9 : j = t
    · rw [if_pos h9]; exact zLogW_wr (v2 t ht) hen
    · rw [if_neg h9]; exact v2 j hj
  · rw [e1] at h2
    by_cases h9 : j = t
    · rw [if_pos h9] at h2
      rcases zWr_ent h2 with h3 | h3
      · rw [h3.2]; exact he
      · exact v3 t ht o e2 h3
    · rw [if_neg h9] at h2; exact v3 j hj o e2 h2
  · rw [e1]
    have h5 := v5 i j hi hj
    show (b.2.2.1 i).2.2.1 j ≤ _ ∧ _
    by_cases h9 : j = t
    · subst h9; rw [if_pos rfl, zWr_end]; omega
    · rw [if_neg h9]; exact h5
/-- a record newly made -/
theorem zNewE {S : zS} {n : Nat} {a0 a1 a2 a3 a4 : Int32} : zEat (zsi (zsi (zsi (zsi (zsi (zadd S n) n 0 a0) n 1 a1) n 2 a2) n 3 a3) n 4 a4) n (a0, a1, a2, a3, a4) ∧ zfr (fun q => q = n) S (zsi (zsi (zsi (zsi (zsi (zadd S n) n 0 a0) n 1 a1) n 2 a2) n 3 a3) n 4 a4) ∧ ∀ q, q ≠ n → (zsi (zsi (zsi (zsi (zsi (zadd S n) n 0 a0) n 1 a1) n 2 a2) n 3 a3) n 4 a4).1 q = S.1 q := by
  refine ⟨⟨zadd_s, rd_i (Or.inr (by decide)) (rd_i (Or.inr (by decide)) (rd_i (Or.inr (by decide)) (rd_i (Or.inr (by decide)) rd_s))), rd_i (Or.inr (by decide)) (rd_i (Or.inr (by decide)) (rd_i (Or.inr (by decide)) rd_s)), rd_i (Or.inr (by decide)) (rd_i (Or.inr (by decide)) rd_s), rd_i (Or.inr (by decide)) rd_s, rd_s⟩, ?_, fun q hq => zadd_n hq⟩
  exact ((((zfr.tr (S2 := zadd S n) ⟨fun q hq => zadd_n hq, fun q hq => ⟨rfl, rfl, rfl⟩⟩ (zfr.i rfl)).tr (zfr.i rfl)).tr (zfr.i rfl)).tr (zfr.i rfl)).tr (zfr.i rfl)
/-- the object after a record was made and written -/
theorem zBrA_wr {S S0 S' : zS} {b : zBr} {t : Nat} {e : zE} (hB : zBrA S b) (hW : zBrW b) (ht : zEx b t) (h0 : zfr (fun q => q = 200 + 60 * t + (b.2.1 t).2.1.2) S S0) (hd0 : ∀ q, q ≠ 200 + 60 * t + (b.2.1 t).2.1.2 → S0.1 q = S.1 q) (hen : (b.2.1 t).2.1.2 < 60)
    (hT : zTop S' (b.1, b.2.1, b.2.2.1, b.2.2.2.1, b.2.2.2.2.1, b.2.2.2.2.2.1, b.2.2.2.2.2.2.1 + nI 1, b.2.2.2.2.2.2.2.1, b.2.2.2.2.2.2.2.2.1, b.2.2.2.2.2.2.2.2.2.1 + nI (zWd (b.2.1 t) e), b.2.2.2.2.2.2.2.2.2.2)) (hA : zLogA S' t (zWr (b.2.1 t) e)) (hf : zfr (fun n => n = 1 ∨ zOwnG t n) S0 S') (hd : S'.1 = S0.1) :
    zBrA S' (bW b t e) ∧ zfr (fun n => n = 1 ∨ zOwnG t n) S S' := by
  have ht12 := ht.1
  have hfx : zfr (fun n => n = 1 ∨ zOwnG t n) S S' := (h0.mono (fun q hq => Or.inr (Or.inr (Or.inr (by omega))))).tr hf
  refine ⟨zBrA_upd hB hW hfx hT rfl (fun t2 h2 => ?_) (fun i hi => Or.inr ⟨rfl, fun n h9 h => by unfold zOwnS at h9; unfold zOwnG at h; omega⟩) (fun i hi => Or.inr ⟨rfl, fun n h9 h => by unfold zOwnH at h9; unfold zOwnG at h; omega⟩) (fun t2 h12 h2 n h9 h => ?_), hfx⟩
  · by_cases e9 : t2 = t
    · subst e9
      have e8 : (bW b t2 e).2.1 t2 = zWr (b.2.1 t2) e := if_pos rfl
      refine Or.inl ⟨by rw [e8]; exact hA, fun o ho h => ?_⟩
      rw [e8, zWr_end] at h
      rw [hd, hd0 _ (by omega)]
      exact hB.2.2.2.2.2 t2 ht o ho (by omega)
    · exact Or.inr ⟨if_neg e9, fun n h9 h => by unfold zOwnG at h9 h; have := h2.1; omega⟩
  · unfold zOwnG at h9 h
    have : ¬ t2 = t := fun e => h2 (by rw [e]; exact ht)
    omega
def bM (b : zBr) (v : Int32) : zBr := bN b (b.2.2.2.2.2.2.1, b.2.2.2.2.2.2.2.1, v, b.2.2.2.2.2.2.2.2.2.1, b.2.2.2.2.2.2.2.2.2.2)
/-- sums of k numbers from 0 on -/
def zsum (f : Nat → Nat) : Nat → Nat
  | 0 => 0
  | k + 1 => zsum f k + f k
def zU (b : zBr) (q : Int32) (t : Nat) : Bool := zHasU (b.2.1 t) q
/-- the markers of the partitions below k are written -/
def bDk (b : zBr) (q : Int32) (e : zE) (k : Nat) : zBr := (b.1, (fun t => if t < k ∧ zU b q t = true then zWr (b.2.1 t) e else b.2.1 t), b.2.2.1, b.2.2.2.1, b.2.2.2.2.1, b.2.2.2.2.2.1, b.2.2.2.2.2.2.1 + nI (zcnt (zU b q) k 0), b.2.2.2.2.2.2.2.1, b.2.2.2.2.2.2.2.2.1, b.2.2.2.2.2.2.2.2.2.1 + nI (zsum (fun t => if zU b q t = true then zWd (b.2.1 t) e else 0) k), b.2.2.2.2.2.2.2.2.2.2)
theorem zIa (x : Int32) (a c : Nat) : x + nI a + nI c = x + nI (a + c) := by rw [Int32.add_assoc, nI_add]
theorem bDk_0 {b : zBr} {q : Int32} {e : zE} : bDk b q e 0 = b := by
  have e1 : (fun t => if t < 0 ∧ zU b q t = true then zWr (b.2.1 t) e else b.2.1 t) = b.2.1 := by
    funext t; exact if_neg (by omega)
  unfold bDk
  rw [e1]
  show (b.1, b.2.1, b.2.2.1, b.2.2.2.1, b.2.2.2.2.1, b.2.2.2.2.2.1, b.2.2.2.2.2.2.1 + nI 0, _, _, b.2.2.2.2.2.2.2.2.2.1 + nI 0, _) = _
  rw [nI_0, Int32.add_zero, Int32.add_zero]
theorem bDk_at {b : zBr} {q : Int32} {e : zE} {k t : Nat} (h : k ≤ t) : (bDk b q e k).2.1 t = b.2.1 t := if_neg (by omega)
theorem bDk_y {b : zBr} {q : Int32} {e : zE} {k : Nat} (h : zU b q k = true) : bDk b q e (k + 1) = bW (bDk b q e k) k e := by
  have e0 : (bDk b q e k).2.1 k = b.2.1 k := bDk_at (Nat.le_refl _)
  have e1 : (fun t => if t < k + 1 ∧ zU b q t = true then zWr (b.2.1 t) e else b.2.1 t) = fun j => if j = k then zWr (b.2.1 k) e else (if j < k ∧ zU b q j = true then zWr (b.2.1 j) e else b.2.1 j) := by
    funext t
    by_cases h1 : t = k
    · subst h1; rw [if_pos rfl, if_pos ⟨by omega, h⟩]
    · rw [if_neg h1]
      by_cases h2 : t < k ∧ zU b q t = true
      · rw [if_pos h2, if_pos ⟨by omega, h2.2⟩]
      · rw [if_neg h2, if_neg (fun q9 => h2 ⟨by omega, q9.2⟩)]
  unfold bW
  rw [e0]
  unfold bDk bN bG
  dsimp only
  rw [e1, zcnt_step, if_pos h, zIa, zIa]
  show _ = (_, _, _, _, _, _, _, _, _, _ + nI (zsum (fun t => if zU b q t = true then zWd (b.2.1 t) e else 0) k + zWd (b.2.1 k) e), _)
  show (_, _, _, _, _, _, _, _, _, _ + nI (zsum (fun t => if zU b q t = true then zWd (b.2.1 t) e else 0) k + (if zU b q k = true then zWd (b.2.1 k) e else 0)), _) = _
  rw [if_pos h]
theorem bDk_n {b : zBr} {q : Int32} {e : zE} {k : Nat} (h : ¬ zU b q k = true) : bDk b q e (k + 1) = bDk b q e k := by
  have e1 : (fun t => if t < k + 1 ∧ zU b q t = true then zWr (b.2.1 t) e else b.2.1 t) = fun j => (if j < k ∧ zU b q j = true then zWr (b.2.1 j) e else b.2.1 j) := by
    funext t
    by_cases h2 : t < k ∧ zU b q t = true
    · rw [if_pos h2, if_pos ⟨by omega, h2.2⟩]
    · rw [if_neg h2, if_neg (fun q9 => h2 ⟨by
        rcases Nat.lt_or_ge t k with h3 | h3
        · exact h3
        · have : t = k := by omega
          subst this; exact absurd q9.2 h, q9.2⟩)]
  unfold bDk
  rw [e1, zcnt_step, if_neg h]
  show (_, _, _, _, _, _, _, _, _, _ + nI (zsum (fun t => if zU b q t = true then zWd (b.2.1 t) e else 0) k + (if zU b q k = true then zWd (b.2.1 k) e else 0)), _) = _
  rw [if_neg h]
  rfl
def zRoom (b : zBr) (q : Int32) : Bool := (zfind (fun t => zU b q t && decide (¬ (b.2.1 t).2.1.2 < 60)) 12 0).isNone
theorem zRoom_iff {b : zBr} {q : Int32} : zRoom b q = true ↔ ∀ t, t < 12 → zU b q t = true → (b.2.1 t).2.1.2 < 60 := by
  unfold zRoom
  constructor
  · intro h t ht hu
    have h1 := zfind_nspec (Option.isNone_iff_eq_none.mp h) t (by omega) (by omega)
    rw [hu, Bool.true_and] at h1
    rcases Nat.lt_or_ge (b.2.1 t).2.1.2 60 with h2 | h2
    · exact h2
    · rw [decide_eq_true (by omega)] at h1; cases h1
  · intro h
    rw [zfind_none (fun j h1 h2 => ?_)]
    · rfl
    · cases hu : zU b q j with
      | false => rfl
      | true => rw [Bool.true_and]; exact decide_eq_false (fun q => q (h j (by omega) hu))
theorem zEW_mk {q c : Int32} (h : ∃ k, k < 4 ∧ q = nI k) (hc : c = nI 1 ∨ c = nI 2) : zEW (c, -1, nI 0, q, nI 0) := ⟨hc.elim (fun h => ⟨1, by omega, h⟩) (fun h => ⟨2, by omega, h⟩), Or.inl rfl, h, ⟨0, by omega, rfl⟩, fun h => absurd (show nI 0 = nI 2 from h) (by decide)⟩
theorem zBrW_Dk {b : zBr} {q : Int32} {e : zE} (hW : zBrW b) (hr : ∀ t, zEx b t → zU b q t = true → (b.2.1 t).2.1.2 < 60) (hn : ∀ t, t < 12 → ¬ zEx b t → zU b q t = false) (he : zEW e) : ∀ k, k ≤ 12 → zBrW (bDk b q e k)
  | 0, _ => by rw [bDk_0]; exact hW
  | k + 1, hk => by
    have ih := zBrW_Dk hW hr hn he k (by omega)
    by_cases h : zU b q k = true
    · rw [bDk_y h]
      have hx : zEx b k := Classical.byContradiction fun q9 => by rw [hn k (by omega) q9] at h; cases h
      exact zBrW_wr ih hx (by rw [bDk_at (Nat.le_refl _)]; exact hr k hx h) he
    · rw [bDk_n h]; exact ih
def zMk (q : Int32) (c : Bool) : zE := (if c = true then nI 1 else nI 2, -1, nI 0, q, nI 0)
theorem zI_acc (x y : Int32) : x + y - x = y := by rw [Int32.add_comm, Int32.add_sub_cancel]
theorem bM_W {b : zBr} {v : Int32} {t : Nat} {e : zE} : bW (bM b v) t e = bM (bW b t e) v := rfl
theorem bM_M {b : zBr} {v x : Int32} : bM (bM b v) x = bM b x := rfl
theorem zBrW_M {b : zBr} {v : Int32} (h : zBrW b) : zBrW (bM b v) := h
theorem zTop_M {S : zS} {b : zBr} {v : Int32} (h : zTop S b) : zTop (zsi S 1 8 v) (bM b v) := zTop_8 h
theorem zBrA_M {S : zS} {b : zBr} {v : Int32} (h : zBrA S b) (hW : zBrW b) : zBrA (zsi S 1 8 v) (bM b v) ∧ zfr (fun n => n = 1) S (zsi S 1 8 v) := by
  have hf : zfr (fun n => n = 1) S (zsi S 1 8 v) := zfr.i rfl
  exact ⟨zBrA_upd h hW hf (zTop_M h.1) rfl (fun t2 h2 => Or.inr ⟨rfl, fun n h9 h => by unfold zOwnG at h9; omega⟩) (fun i hi => Or.inr ⟨rfl, fun n h9 h => by unfold zOwnS at h9; omega⟩) (fun i hi => Or.inr ⟨rfl, fun n h9 h => by unfold zOwnH at h9; omega⟩) (fun t2 h12 h2 n h9 h => by unfold zOwnG at h9; omega), hf⟩
/-- the states of the partitions below k are written -/
def bSk (b : zBr) (q x : Int32) (k : Nat) : zBr := (b.1, (fun t => if t < k then zSet (b.2.1 t) q x else b.2.1 t), b.2.2)
theorem bSk_0 {b : zBr} {q x : Int32} : bSk b q x 0 = b := by
  have e1 : (fun t => if t < 0 then zSet (b.2.1 t) q x else b.2.1 t) = b.2.1 := by funext t; exact if_neg (by omega)
  unfold bSk; rw [e1]
theorem bSk_at {b : zBr} {q x : Int32} {k t : Nat} (h : k ≤ t) : (bSk b q x k).2.1 t = b.2.1 t := if_neg (by omega)
theorem bSk_s {b : zBr} {q x : Int32} {k : Nat} : bSk b q x (k + 1) = bG (bSk b q x k) k (zSet (b.2.1 k) q x) := by
  have e1 : (fun t => if t < k + 1 then zSet (b.2.1 t) q x else b.2.1 t) = fun j => if j = k then zSet (b.2.1 k) q x else (if j < k then zSet (b.2.1 j) q x else b.2.1 j) := by
    funext t
    by_cases h1 : t = k
    · subst h1; rw [if_pos rfl, if_pos (by omega)]
    · rw [if_neg h1]
      by_cases h2 : t < k
      · rw [if_pos h2, if_pos (by omega)]
      · rw [if_neg h2, if_neg (by omega)]
  unfold bSk bG
  rw [e1]
theorem zSet_end {g : zLg} {q x : Int32} : (zSet g q x).2.1 = g.2.1 := rfl
theorem zSet_some {g : zLg} {q x : Int32} {o : Nat} {e : zE} (h : (zSet g q x).2.2 o = some e) : ∃ e0, g.2.2 o = some e0 ∧ e = if e0.2.2.2.2 = nI 2 ∧ e0.2.2.2.1 = q then (e0.1, e0.2.1, e0.2.2.1, e0.2.2.2.1, x) else e0 := by
  have h' : (g.2.2 o).map (fun e => if e.2.2.2.2 = nI 2 ∧ e.2.2.2.1 = q then (e.1, e.2.1, e.2.2.1, e.2.2.2.1, x) else e) = some e := h
  cases hg : g.2.2 o with
  | none => rw [hg] at h'; cases h'
  | some e0 => rw [hg] at h'; cases h'; exact ⟨e0, rfl, rfl⟩
theorem zLogW_set {g : zLg} {q x : Int32} (h : zLogW g) : zLogW (zSet g q x) := zLogW_ent h (fun o ho => by show (g.2.2 o).map _ = none; rw [ho]; rfl)
theorem zEW_set {e0 : zE} {q x : Int32} (h : zEW e0) (hx : x = nI 0 ∨ x = nI 1) : zEW (if e0.2.2.2.2 = nI 2 ∧ e0.2.2.2.1 = q then (e0.1, e0.2.1, e0.2.2.1, e0.2.2.2.1, x) else e0) := by
  by_cases h9 : e0.2.2.2.2 = nI 2 ∧ e0.2.2.2.1 = q
  · rw [if_pos h9]
    obtain ⟨a, b, c, d, e⟩ := h
    refine ⟨a, b, c, hx.elim (fun h => ⟨0, by omega, h⟩) (fun h => ⟨1, by omega, h⟩), fun h => ?_⟩
    have h' : x = nI 2 := h
    rcases hx with h1 | h1 <;> (rw [h1] at h'; exact absurd h' (by decide))
  · rw [if_neg h9]; exact h
theorem zBrW_G {b : zBr} {t : Nat} {g : zLg} (h : zBrW b) (hg : zLogW g) (he : ∀ o e, g.2.2 o = some e → zEW e) (hend : (b.2.1 t).2.1.2 ≤ g.2.1.2) : zBrW (bG b t g) := by
  obtain ⟨v1, v2, v3, v4, v5, v6, v7⟩ := h
  have e1 : ∀ j, (bG b t g).2.1 j = if j = t then g else b.2.1 j := fun j => rfl
  refine ⟨v1, fun j hj => ?_, fun j hj o e2 h2 => ?_, v4, fun i j hi hj => ?_, v6, v7⟩
  · rw [e1]
    by_cases h9 : j = t
    · rw [if_pos h9]; exact hg
    · rw [if_neg h9]; exact v2 j hj
  · rw [e1] at h2
    by_cases h9 : j = t
    · rw [if_pos h9] at h2; exact he o e2 h2
    · rw [if_neg h9] at h2; exact v3 j hj o e2 h2
  · rw [e1]
    have h5 := v5 i j hi hj
    show (b.2.2.1 i).2.2.1 j ≤ _ ∧ _
    by_cases h9 : j = t
    · subst h9; rw [if_pos rfl]; exact ⟨Nat.le_trans h5.1 hend, hg.2.2.2.2.2.1⟩
    · rw [if_neg h9]; exact h5
theorem zBrA_G {S S' : zS} {b : zBr} {t : Nat} {g : zLg} (hB : zBrA S b) (hW : zBrW b) (ht : zEx b t) (hA : zLogA S' t g) (hf : zfr (zOwnG t) S S') (hd : S'.1 = S.1) (hend : g.2.1.2 = (b.2.1 t).2.1.2) : zBrA S' (bG b t g) := by
  have ht12 := ht.1
  refine zBrA_upd hB hW hf (zTop_fr hB.1 (fun n h1 h2 => hf.ag (fun h => by unfold zOwnG at h; omega))) rfl (fun t2 h2 => ?_) (fun i hi => Or.inr ⟨rfl, fun n h9 h => by unfold zOwnS at h9; unfold zOwnG at h; omega⟩) (fun i hi => Or.inr ⟨rfl, fun n h9 h => by unfold zOwnH at h9; unfold zOwnG at h; omega⟩) (fun t2 h12 h2 n h9 h => ?_)
  · by_cases e9 : t2 = t
    · subst e9
      have e8 : (bG b t2 g).2.1 t2 = g := if_pos rfl
      refine Or.inl ⟨by rw [e8]; exact hA, fun o ho h => ?_⟩
      rw [e8, hend] at h
      rw [hd]
      exact hB.2.2.2.2.2 t2 ht o ho h
    · exact Or.inr ⟨if_neg e9, fun n h9 h => by unfold zOwnG at h9 h; have := h2.1; omega⟩
  · unfold zOwnG at h9 h
    have : ¬ t2 = t := fun e => h2 (by rw [e]; exact ht)
    omega
theorem zBrA_S {S S' : zS} {b : zBr} {i : Nat} {u : zSn} (hB : zBrA S b) (hW : zBrW b) (hi : i < 6) (hA : zSsA S' i u) (hf : zfr (zOwnS i) S S') : zBrA S' (bS b i u) := by
  refine zBrA_upd hB hW hf (zTop_fr hB.1 (fun n h1 h2 => hf.ag (fun h => by unfold zOwnS at h; omega))) rfl (fun t2 h2 => Or.inr ⟨rfl, fun n h9 h => by unfold zOwnS at h; unfold zOwnG at h9; have := h2.1; omega⟩) (fun j hj => ?_) (fun j hj => Or.inr ⟨rfl, fun n h9 h => by unfold zOwnH at h9; unfold zOwnS at h; omega⟩) (fun t2 h12 h2 n h9 h => by unfold zOwnS at h; unfold zOwnG at h9; omega)
  by_cases e9 : j = i
  · subst e9
    have e8 : (bS b j u).2.2.1 j = u := if_pos rfl
    exact Or.inl (by rw [e8]; exact hA)
  · exact Or.inr ⟨if_neg e9, fun n h9 h => by unfold zOwnS at h9 h; omega⟩
theorem zSsA_tr {S : zS} {i : Nat} {u : zSn} {v : Int32} (hA : zSsA S i u) (hi : i < 6) : zSsA (zsi S (10 + i) 1 v) i (u.1, v, u.2.2) := by
  obtain ⟨k1, k2, k3, k4, k5, k6, k7, k8, k9⟩ := hA
  exact ⟨k1, k2, k3, rd_i (Or.inr (by decide)) k4, rd_s, k6, k7, fun t ht => rd_i (Or.inl (by omega)) (k8 t ht), fun t ht => rd_i (Or.inl (by omega)) (k9 t ht)⟩
def sDec (b : zBr) (i : Nat) (c : Bool) : zBr := bS (bSk (bM (bDk b (b.2.2.1 i).1 (zMk (b.2.2.1 i).1 c) 12) (b.2.2.2.2.2.2.2.2.1 + nI (zcnt (zU b (b.2.2.1 i).1) 12 0))) (b.2.2.1 i).1 (if c = true then nI 0 else nI 1) 12) i ((b.2.2.1 i).1, nI 0, (b.2.2.1 i).2.2)
/-- a new record's name is not among the log's records -/
theorem zLogA_nw {S S0 : zS} {t : Nat} {g : zLg} (h : zLogA S t g) (hW : zLogW g) (ht : t < 12) (hf : zfr (fun q => q = 200 + 60 * t + g.2.1.2) S S0) : zLogA S0 t g := by
  obtain ⟨w1, w2, w3, w4, w5, w6, w7, w8, w9⟩ := hW
  obtain ⟨h1, h2, f0, f1, f2, f3, f4, f5, f6, f7, f8, hent, hee⟩ := h
  have a1 : zAg S S0 (60 + t) := hf.ag (by omega)
  have a2 : zAg S S0 (80 + t) := hf.ag (by omega)
  refine ⟨a1.d h1, a2.d h2, a1.i f0, a1.i f1, a1.i f2, a1.p f3, a1.i f4, a1.i f5, a1.i f6, a1.i f7, a1.i f8, fun o => a2.p (hent o), fun o e he => zEat_fr (hee o e he) (hf.ag ?_)⟩
  intro h9
  have : o = g.2.1.2 := by omega
  rw [w8 o (by omega)] at he; cases he
theorem zSet_no {b : zBr} {k : Nat} {g g0 : zLg} {q x : Int32} (hb : b.2.1 k = g) (h : ∀ o : Nat, g = g0 ∧ g0.2.2 o = none) : bG b k (zSet g q x) = b := by
  have h1 : zSet g q x = g := by
    unfold zSet
    rw [show (fun o => (g.2.2 o).map (fun e => if e.2.2.2.2 = nI 2 ∧ e.2.2.2.1 = q then (e.1, e.2.1, e.2.2.1, e.2.2.2.1, x) else e)) = g.2.2 from by
      funext o
      rw [(h o).1, (h o).2]; rfl]
  unfold bG
  rw [h1, ← hb, show (fun j => if j = k then b.2.1 k else b.2.1 j) = b.2.1 from by
    funext j
    by_cases e9 : j = k
    · rw [if_pos e9, e9]
    · rw [if_neg e9]]
end
section
/-! CONTRACTS of LogBroker: deciding (rows by program) -/
set_option maxHeartbeats 600000 in
set_option maxRecDepth 100000 in
theorem mB_decideT (l : Launch) (D : va_G) (dA : Nat → ClassId) {S : zS} {b : zBr} {i : Nat} (hB : zBrA S b) (hW : zBrW b) (hi : i < 6) (hq : ∃ k, k < 4 ∧ (b.2.2.1 i).1 = nI k) (hrm : ∀ t, zEx b t → zU b (b.2.2.1 i).1 t = true → (b.2.1 t).2.1.2 < 60) (hdf : ∀ t, t < 12 → ¬ zEx b t → zU b (b.2.2.1 i).1 t = false) (hemp : ∀ t, t < 12 → ¬ zEx b t → ∀ o, (b.2.1 t).2.2 o = none) : zMet l D vwCl zKK dA (zG0 D dA) yB_decide (Cond.code yB_decide cB_decide 6 (some .int) :: zTs) { frames := 3, cells := 12, slots := 60, locals := 67 } 12 60 [.ref 1, .ref (10 + i), .int (nI 1)] S (fun v S' => v = some (.int (nI (zcnt (zU b (b.2.2.1 i).1) 12 0))) ∧ zBrA S' (sDec b i true) ∧ zfr zOwnB S S') (fun _ _ => False) := by
  refine z_met (tys := ztys dA) (by decide) rfl zG0_K rfl (Nat.le_of_ble_eq_true rfl) (fun p e s m args below meth c A ad X hr hlocks hin hex => ?_)
  obtain ⟨hT, hLg, hSs, hGs, hnx, hnf⟩ := id hB
  obtain ⟨v1, v2, v3, v4, v5, v6, v7⟩ := id hW
  have hno : ∀ k, k < 12 → ¬ zEx b k → ∀ o, (bDk b (b.2.2.1 i).1 (zMk (b.2.2.1 i).1 true) 12).2.1 k = b.2.1 k ∧ (b.2.1 k).2.2 o = none := fun k h1 h2 o => ⟨if_neg (fun h => by rw [hdf k h1 h2] at h; cases h.2), hemp k h1 h2 o⟩
  have loop2 : zBrW (bDk b (b.2.2.1 i).1 (zMk (b.2.2.1 i).1 true) 12) → ∀ (f k : Nat) (S1 : zS) (kc ks : Nat), 12 - k < f → k ≤ 12 → kc ≤ 12 → ks ≤ 60 → zBrA S1 (bSk (bM (bDk b (b.2.2.1 i).1 (zMk (b.2.2.1 i).1 true) 12) (b.2.2.2.2.2.2.2.2.1 + nI (zcnt (zU b (b.2.2.1 i).1) 12 0))) (b.2.2.1 i).1 (nI 0) k) → zBrW (bSk (bM (bDk b (b.2.2.1 i).1 (zMk (b.2.2.1 i).1 true) 12) (b.2.2.2.2.2.2.2.2.1 + nI (zcnt (zU b (b.2.2.1 i).1) 12 0))) (b.2.2.1 i).1 (nI 0) k) → zfr zOwnB S S1 → AW p l e { frames := 3, cells := 12, slots := 60, locals := 67 } s m args below meth c D vwCl zKK dA A (ad, S) 6 S1 kc ks (vx_MQ below (zQc D vwCl zKK dA A ad S (fun v S' => v = some (.int (nI (zcnt (zU b (b.2.2.1 i).1) 12 0))) ∧ zBrA S' (sDec b i true) ∧ zfr zOwnB S S')) (zXC D vwCl zKK dA A ad S (fun _ _ => False)) args s 12 60 A) 82 [(5, .int (nI k)), (4, .int b.2.2.2.2.2.2.2.2.1), (3, .int (b.2.2.1 i).1), (0, .ref 1), (1, .ref (10 + i)), (2, .int (nI 1))] [] := by
    intro hW2 f
    induction f with
    | zero => intro k S1 kc ks h0; omega
    | succ f ih =>
    intro k S1 kc ks h0 hk12 hkc hks hB1 hWk hfr
    obtain ⟨hn, t0, t1, t2, t3, t4, t5, q6, q7, q8, q9, q10, hpt, hlg, hse, hcu, hop, hgr⟩ := id hB1.1
    refine z_iload (j := 0) X dB_decide_82 rfl ?_
    refine z_bipush (v := (nI 12)) X dB_decide_84 (by decide) ?_
    refine z_icmp_geN (tgt := 125) X dB_decide_86 (by decide) (by omega) (by omega) (fun c_86 => ?_) (fun c_86 => ?_)
    · have e12 : k = 12 := by omega
      subst e12
      have hB5 := zBrA_S hB1 hWk hi (zSsA_tr (v := nI 0) (hB1.2.2.1 i hi) hi) (zfr.i (Or.inl rfl))
      have hfr5 := hfr.tr (zfr.ownB (zfr.i (S := S1) (own := zOwnS i) (n := 10 + i) (k := 1) (x := nI 0) (Or.inl rfl)) (fun n h => by unfold zOwnS at h; omega))
      refine z_aload_n (j := 4) X dB_decide_125 rfl rfl ?_
      refine z_iconst (v := (nI 0)) X dB_decide_126 (by decide) ?_
      refine z_puti (C := RS) (T := TS) (N := 4) (k := 1) X (w_in inS) rfl rfl (kd_S hi) (by decide) (w_m lB_59) rfl tyS tyS_ok nmS rfl rfl (ty := .boolean) (by decide +kernel) rfl rfl dB_decide_127 ?_
      refine z_aload_n (j := 3) X dB_decide_130 rfl rfl ?_
      refine z_geti (C := RB) (T := TB) (N := 11) (k := 8) X (w_in inB) rfl rfl rfl (by decide) (w_m lB_239) rfl rfl dB_decide_131 (hv := (rd_i (Or.inl (by omega)) q8)) ?_
      refine z_iload (j := 1) X dB_decide_134 rfl ?_
      refine z_isub X dB_decide_136 ?_
      refine z_iret X hlocks hr dB_decide_137 (by omega) (by omega) ?_
      exact ⟨congrArg (fun z => some (Value.int z)) (zI_acc _ _), hB5, hfr5⟩
    · refine z_aload_n (j := 3) X dB_decide_89 rfl rfl ?_
      refine z_getr (C := RB) (T := TB) (N := 11) (k := 1) X (w_in inB) rfl rfl rfl (by decide) (w_m lB_15) rfl rfl t1 dB_decide_90 ?_
      refine z_iload (j := 0) X dB_decide_93 rfl ?_
      by_cases hex1 : zEx b k
      · refine z_aald (t0 := 3) X rfl (by decide) (by decide) (by decide) rfl (by omega) (by decide) (by rw [hlg k (by omega)]; exact if_pos hex1.2) dB_decide_95 ?_
        refine z_ifnull X dB_decide_96 ?_
        refine z_aload_n (j := 3) X dB_decide_99 rfl rfl ?_
        refine z_getr (C := RB) (T := TB) (N := 11) (k := 1) X (w_in inB) rfl rfl rfl (by decide) (w_m lB_15) rfl rfl t1 dB_decide_100 ?_
        refine z_iload (j := 0) X dB_decide_103 rfl ?_
        refine z_aald (t0 := 3) X rfl (by decide) (by decide) (by decide) rfl (by omega) (by decide) (by rw [hlg k (by omega)]; exact if_pos hex1.2) dB_decide_105 ?_
        refine z_iload_n (j := 2) X dB_decide_106 rfl rfl ?_
        refine z_iload_n (j := 5) X dB_decide_107 rfl rfl ?_
        refine z_if_eq (tgt := 115) X dB_decide_108 (by decide) (fun c_108 => absurd c_108 (by decide)) (fun c_108 => ?_)
        refine z_iconst (v := (nI 0)) X dB_decide_111 (by decide) ?_
        refine z_goto (tgt := 116) X dB_decide_112 (by decide) ?_
        refine z_callV (n := 2) (As := [.int ((b.2.2.1 i).1), .int (nI 0)]) (rest := []) X zG0_m (mG_settle l D dA (by omega) (by have h9 := hB1.2.1 k hex1; rw [bSk_at (Nat.le_refl _)] at h9; exact h9) (hW2.2.1 k hex1)) (w_V X.2.2.2.2.1 lB_271 jG_settle sG_settle i_LogBroker_Log kG_settle rfl rfl (by decide +kernel) ⟨Nat.le_of_ble_eq_true rfl, Nat.le_of_ble_eq_true rfl⟩) (kd_G (by omega)) rfl rfl rfl rfl (Nat.le_of_ble_eq_true rfl) dB_decide_116 ⟨by show _ ≤ 12; omega, by show _ ≤ 60; omega⟩ (fun v S2 hp => ?_) (fun E S1 hx => hx.elim)
        obtain ⟨hv, hA2, hf2, hd2⟩ := hp
        subst hv
        refine z_iinc (j := 0) (v := (nI (k + 1))) (L' := [(5, .int (nI (k + 1))), (4, .int b.2.2.2.2.2.2.2.2.1), (3, .int ((b.2.2.1 i).1)), (0, .ref 1), (1, .ref (10 + i)), (2, .int (nI 1))]) X dB_decide_119 rfl (nI_1 k) (by decide) rfl ?_
        refine z_goto (tgt := 82) X dB_decide_122 (by decide) ?_
        have hB4 := zBrA_G hB1 hWk hex1 hA2 hf2 hd2 (by rw [bSk_at (Nat.le_refl _)]; rfl)
        have hB4 : zBrA S2 (bSk (bM (bDk b (b.2.2.1 i).1 (zMk (b.2.2.1 i).1 true) 12) (b.2.2.2.2.2.2.2.2.1 + nI (zcnt (zU b (b.2.2.1 i).1) 12 0))) (b.2.2.1 i).1 (nI 0) (k + 1)) := by rw [bSk_s]; exact hB4
        exact ih (k + 1) _ _ _ (by omega) (by omega) (by omega) (by omega) hB4 (by
          rw [bSk_s]
          exact zBrW_G hWk (zLogW_set (hW2.2.1 k hex1)) (fun o e he => by
            obtain ⟨e0, h1, h2⟩ := zSet_some he
            rw [h2]; exact zEW_set (hW2.2.2.1 k hex1 o e0 h1) (Or.inl rfl)) (by rw [bSk_at (Nat.le_refl _)]; exact Nat.le_refl _)) (hfr.tr (hf2.ownB (fun n h => by unfold zOwnG at h; omega)))
      · refine z_aaldN (t0 := 3) X rfl (by decide) (by decide) (by decide) rfl (by omega) (by decide) (by rw [hlg k (by omega)]; exact if_neg (fun h => hex1 ⟨by omega, h⟩)) dB_decide_95 ?_
        refine z_ifnullN (tgt := 119) X dB_decide_96 (by decide) ?_
        refine z_iinc (j := 0) (v := (nI (k + 1))) (L' := [(5, .int (nI (k + 1))), (4, .int b.2.2.2.2.2.2.2.2.1), (3, .int ((b.2.2.1 i).1)), (0, .ref 1), (1, .ref (10 + i)), (2, .int (nI 1))]) X dB_decide_119 rfl (nI_1 k) (by decide) rfl ?_
        refine z_goto (tgt := 82) X dB_decide_122 (by decide) ?_
        have hz : bSk (bM (bDk b (b.2.2.1 i).1 (zMk (b.2.2.1 i).1 true) 12) (b.2.2.2.2.2.2.2.2.1 + nI (zcnt (zU b (b.2.2.1 i).1) 12 0))) (b.2.2.1 i).1 (nI 0) (k + 1) = bSk (bM (bDk b (b.2.2.1 i).1 (zMk (b.2.2.1 i).1 true) 12) (b.2.2.2.2.2.2.2.2.1 + nI (zcnt (zU b (b.2.2.1 i).1) 12 0))) (b.2.2.1 i).1 (nI 0) k := by
          rw [bSk_s]
          exact zSet_no (by rw [bSk_at (Nat.le_refl _)]) (fun o => hno k (by omega) hex1 o)
        exact ih (k + 1) _ _ _ (by omega) (by omega) (by omega) (by omega) (by rw [hz]; exact hB1) (by rw [hz]; exact hWk) hfr
  have loop2' : ∀ (S1 : zS) (kc ks : Nat), kc ≤ 12 → ks ≤ 60 → zBrA S1 (bM (bDk b (b.2.2.1 i).1 (zMk (b.2.2.1 i).1 true) 12) (b.2.2.2.2.2.2.2.2.1 + nI (zcnt (zU b (b.2.2.1 i).1) 12 0))) → zBrW (bDk b (b.2.2.1 i).1 (zMk (b.2.2.1 i).1 true) 12) → zfr zOwnB S S1 → AW p l e { frames := 3, cells := 12, slots := 60, locals := 67 } s m args below meth c D vwCl zKK dA A (ad, S) 6 S1 kc ks (vx_MQ below (zQc D vwCl zKK dA A ad S (fun v S' => v = some (.int (nI (zcnt (zU b (b.2.2.1 i).1) 12 0))) ∧ zBrA S' (sDec b i true) ∧ zfr zOwnB S S')) (zXC D vwCl zKK dA A ad S (fun _ _ => False)) args s 12 60 A) 79 [(5, .int (nI 12)), (4, .int b.2.2.2.2.2.2.2.2.1), (3, .int (b.2.2.1 i).1), (0, .ref 1), (1, .ref (10 + i)), (2, .int (nI 1))] [] := by
    intro S1 kc ks hkc hks hB1 hW2 hfr
    refine z_iconst (v := (nI 0)) X dB_decide_79 (by decide) ?_
    refine z_istore (L' := [(5, .int (nI 0)), (4, .int b.2.2.2.2.2.2.2.2.1), (3, .int ((b.2.2.1 i).1)), (0, .ref 1), (1, .ref (10 + i)), (2, .int (nI 1))]) X dB_decide_80 (by decide) rfl ?_
    exact loop2 hW2 13 0 S1 kc ks (by omega) (by omega) hkc hks (by rw [bSk_0]; exact hB1) (by rw [bSk_0]; exact zBrW_M hW2) hfr
  have loop : ∀ (f k : Nat) (S1 : zS) (kc ks : Nat), 12 - k < f → k ≤ 12 → kc ≤ k → ks ≤ 5 * k → zBrA S1 (bM (bDk b (b.2.2.1 i).1 (zMk (b.2.2.1 i).1 true) k) (b.2.2.2.2.2.2.2.2.1 + nI (zcnt (zU b (b.2.2.1 i).1) k 0))) → zBrW (bDk b (b.2.2.1 i).1 (zMk (b.2.2.1 i).1 true) k) → zfr zOwnB S S1 → AW p l e { frames := 3, cells := 12, slots := 60, locals := 67 } s m args below meth c D vwCl zKK dA A (ad, S) 6 S1 kc ks (vx_MQ below (zQc D vwCl zKK dA A ad S (fun v S' => v = some (.int (nI (zcnt (zU b (b.2.2.1 i).1) 12 0))) ∧ zBrA S' (sDec b i true) ∧ zfr zOwnB S S')) (zXC D vwCl zKK dA A ad S (fun _ _ => False)) args s 12 60 A) 14 [(5, .int (nI k)), (4, .int b.2.2.2.2.2.2.2.2.1), (3, .int (b.2.2.1 i).1), (0, .ref 1), (1, .ref (10 + i)), (2, .int (nI 1))] [] := by
    intro f
    induction f with
    | zero => intro k S1 kc ks h0; omega
    | succ f ih =>
    intro k S1 kc ks h0 hk12 hkc hks hB1 hW1 hfr
    obtain ⟨hn, t0, t1, t2, t3, t4, t5, q6, q7, q8, q9, q10, hpt, hlg, hse, hcu, hop, hgr⟩ := id hB1.1
    refine z_iload (j := 0) X dB_decide_14 rfl ?_
    refine z_bipush (v := (nI 12)) X dB_decide_16 (by decide) ?_
    refine z_icmp_geN (tgt := 79) X dB_decide_18 (by decide) (by omega) (by omega) (fun c_18 => ?_) (fun c_18 => ?_)
    · have e12 : k = 12 := by omega
      subst e12
      exact loop2' _ _ _ (by omega) (by omega) hB1 hW1 hfr
    · refine z_aload_n (j := 3) X dB_decide_21 rfl rfl ?_
      refine z_iload (j := 0) X dB_decide_22 rfl ?_
      refine z_iload_n (j := 2) X dB_decide_24 rfl rfl ?_
      refine z_callV (n := 2) (As := [.int (nI k), .int ((b.2.2.1 i).1)]) (rest := []) X zG0_m (mB_awaitsMarker l D dA (b := (bM (bDk b (b.2.2.1 i).1 (zMk (b.2.2.1 i).1 true) k) (b.2.2.2.2.2.2.2.2.1 + nI (zcnt (zU b (b.2.2.1 i).1) k 0)))) (t := k) hB1 (zBrW_M hW1) (by omega)) (w_V X.2.2.2.2.1 lB_263 jB_awaitsMarker sB_awaitsMarker i_LogBroker kB_awaitsMarker rfl rfl (by decide +kernel) ⟨Nat.le_of_ble_eq_true rfl, Nat.le_of_ble_eq_true rfl⟩) rfl rfl rfl rfl rfl (Nat.le_of_ble_eq_true rfl) dB_decide_25 ⟨by show _ ≤ 12; omega, by show _ ≤ 60; omega⟩ (fun v S9 hp => ?_) (fun E S1 hx => hx.elim)
      obtain ⟨hS9, hp⟩ := hp
      have hS9 := hS9.symm
      subst hS9
      have e0 : (bM (bDk b (b.2.2.1 i).1 (zMk (b.2.2.1 i).1 true) k) (b.2.2.2.2.2.2.2.2.1 + nI (zcnt (zU b (b.2.2.1 i).1) k 0))).2.1 k = b.2.1 k := bDk_at (Nat.le_refl _)
      rcases hp with ⟨hv, hc⟩ | ⟨hv, hc⟩ <;> subst hv
      · have hex1 : zEx b k := hc.1
        have hU1 : zU b (b.2.2.1 i).1 k = true := by have h9 := hc.2; rw [e0] at h9; exact h9
        have hen := hrm k hex1 hU1
        refine z_if_eq (tgt := 73) X dB_decide_28 (by decide) (fun c_28 => absurd c_28 (by decide)) (fun c_28 => ?_)
        refine z_aload_n (j := 3) X dB_decide_31 rfl rfl ?_
        refine z_aload_n (j := 3) X dB_decide_32 rfl rfl ?_
        refine z_getr (C := RB) (T := TB) (N := 11) (k := 1) X (w_in inB) rfl rfl rfl (by decide) (w_m lB_15) rfl rfl t1 dB_decide_33 ?_
        refine z_iload (j := 0) X dB_decide_36 rfl ?_
        refine z_aald (t0 := 3) X rfl (by decide) (by decide) (by decide) rfl (by omega) (by decide) (by rw [hlg k (by omega)]; exact if_pos hex1.2) dB_decide_38 ?_
        refine z_new (C := RE) (T := TE) (N := 5) (ci := 0) (n := (200 + 60 * k + (b.2.1 k).2.1.2)) X (w_in inE) rfl rfl (kd_E (by omega) (by omega)) (by have h9 := hB1.2.2.2.2.2 k hex1 (b.2.1 k).2.1.2 hen (by rw [e0]; exact Nat.le_refl _); exact h9) (by omega) tyE tyE_ok (by decide +kernel) (w_m lB_121) (w_m n_LogBroker_Entry) (w_m i_LogBroker_Entry) (by show _ ≤ 12; omega) (by show _ ≤ 60; omega) dB_decide_39 ?_
        refine z_dup X dB_decide_42 rfl ?_
        refine z_iload_n (j := 5) X dB_decide_43 rfl rfl ?_
        refine z_if_eq (tgt := 51) X dB_decide_44 (by decide) (fun c_44 => absurd c_44 (by decide)) (fun c_44 => ?_)
        refine z_iconst (v := (nI 1)) X dB_decide_47 (by decide) ?_
        refine z_goto (tgt := 52) X dB_decide_48 (by decide) ?_
        refine z_iconst (v := (-1)) X dB_decide_52 (by decide) ?_
        refine z_iconst (v := (nI 0)) X dB_decide_53 (by decide) ?_
        refine z_iload_n (j := 2) X dB_decide_54 rfl rfl ?_
        refine z_iconst (v := (nI 0)) X dB_decide_55 (by decide) ?_
        refine z_callI (n := 5) (As := [.int (nI 1), .int (-1), .int (nI 0), .int ((b.2.2.1 i).1), .int (nI 0)]) (rest := [.ref (200 + 60 * k + (b.2.1 k).2.1.2), .ref (60 + k), .ref 1]) X zG0_m (fun _ _ h => h) (mE_init l D dA (kd_E (by omega) (by omega))) (w_I X.2.2.2.2.1 lB_123 jE_init i_LogBroker_Entry kE_init rfl rfl rfl (by decide +kernel) ⟨Nat.le_of_ble_eq_true rfl, Nat.le_of_ble_eq_true rfl⟩) rfl rfl (Nat.le_of_ble_eq_true rfl) dB_decide_56 ⟨by show _ ≤ 12; omega, by show _ ≤ 60; omega⟩ (fun v S0 hp => ?_)
        obtain ⟨hv, hS0⟩ := hp
        subst hv
        obtain ⟨hE0, hf0, hd0⟩ := zNewE (S := S1) (n := (200 + 60 * k + (b.2.1 k).2.1.2)) (a0 := (nI 1)) (a1 := -1) (a2 := nI 0) (a3 := (b.2.2.1 i).1) (a4 := nI 0)
        rw [← hS0] at hE0 hf0 hd0
        clear hS0
        have hT0 : zTop S0 (bM (bDk b (b.2.2.1 i).1 (zMk (b.2.2.1 i).1 true) k) (b.2.2.2.2.2.2.2.2.1 + nI (zcnt (zU b (b.2.2.1 i).1) k 0))) := zTop_fr hB1.1 (fun n h1 h2 => hf0.ag (by omega))
        have hO0 : zLogA S0 k (b.2.1 k) := zLogA_nw (by have h9 := hB1.2.1 k hex1; rw [e0] at h9; exact h9) (v2 k hex1) (by omega) hf0
        refine z_callV (n := 2) (As := [.ref (60 + k), .ref (200 + 60 * k + (b.2.1 k).2.1.2)]) (rest := []) X zG0_m (mB_write l D dA (b := (bM (bDk b (b.2.2.1 i).1 (zMk (b.2.2.1 i).1 true) k) (b.2.2.2.2.2.2.2.2.1 + nI (zcnt (zU b (b.2.2.1 i).1) k 0)))) (t := k) (g := b.2.1 k) hT0 (by omega) hO0 (v2 k hex1) hen hE0) (w_V X.2.2.2.2.1 lB_126 jB_write sB_write i_LogBroker kB_write rfl rfl (by decide +kernel) ⟨Nat.le_of_ble_eq_true rfl, Nat.le_of_ble_eq_true rfl⟩) rfl rfl rfl rfl rfl (Nat.le_of_ble_eq_true rfl) dB_decide_59 ⟨by show _ ≤ 12; omega, by show _ ≤ 60; omega⟩ (fun v S3 hp => ?_) (fun E S1 hx => hx.elim)
        obtain ⟨hv, hT3, hA3, hW3, hf3, hd3⟩ := hp
        subst hv
        obtain ⟨hB3, hfx3⟩ := zBrA_wr (e := ((nI 1), -1, nI 0, (b.2.2.1 i).1, nI 0)) (t := k) hB1 (zBrW_M hW1) hex1 (by rw [e0]; exact hf0) (by rw [e0]; exact hd0) (by rw [e0]; exact hen) (by rw [e0]; exact hT3) (by rw [e0]; exact hA3) hf3 hd3
        have hB3 : zBrA S3 (bM (bDk b (b.2.2.1 i).1 (zMk (b.2.2.1 i).1 true) (k + 1)) (b.2.2.2.2.2.2.2.2.1 + nI (zcnt (zU b (b.2.2.1 i).1) k 0))) := by rw [bDk_y hU1]; exact hB3
        have hW2 := zBrW_Dk hW hrm hdf (zEW_mk hq (Or.inl rfl)) (k + 1) (by omega)
        obtain ⟨hn, t0, t1, t2, t3, t4, t5, q6, q7, q8, q9, q10, hpt, hlg, hse, hcu, hop, hgr⟩ := id hB3.1
        refine z_pop X dB_decide_62 rfl ?_
        refine z_aload_n (j := 3) X dB_decide_63 rfl rfl ?_
        refine z_dup X dB_decide_64 rfl ?_
        refine z_geti (C := RB) (T := TB) (N := 11) (k := 8) X (w_in inB) rfl rfl rfl (by decide) (w_m lB_239) rfl rfl dB_decide_65 (hv := q8) ?_
        refine z_iconst (v := (nI 1)) X dB_decide_68 (by decide) ?_
        refine z_iadd X dB_decide_69 ?_
        refine z_top (zIa _ _ _) ?_
        rw [show zcnt (zU b (b.2.2.1 i).1) k 0 + 1 = zcnt (zU b (b.2.2.1 i).1) (k + 1) 0 by rw [zcnt_step, if_pos hU1]]
        refine z_puti (C := RB) (T := TB) (N := 11) (k := 8) X (w_in inB) rfl rfl rfl (by decide) (w_m lB_239) rfl tyB tyB_ok nmB rfl rfl (ty := .int) (by decide +kernel) rfl rfl dB_decide_70 ?_
        refine z_iinc (j := 0) (v := (nI (k + 1))) (L' := [(5, .int (nI (k + 1))), (4, .int b.2.2.2.2.2.2.2.2.1), (3, .int ((b.2.2.1 i).1)), (0, .ref 1), (1, .ref (10 + i)), (2, .int (nI 1))]) X dB_decide_73 rfl (nI_1 k) (by decide) rfl ?_
        refine z_goto (tgt := 14) X dB_decide_76 (by decide) ?_
        obtain ⟨hB4, hf4⟩ := zBrA_M (v := b.2.2.2.2.2.2.2.2.1 + nI (zcnt (zU b (b.2.2.1 i).1) (k + 1) 0)) hB3 (zBrW_M hW2)
        exact ih (k + 1) _ _ _ (by omega) (by omega) (by omega) (by omega) hB4 hW2 ((hfr.tr (hfx3.ownB (fun n h => by unfold zOwnG at h; omega))).tr (hf4.ownB (fun n h => by omega)))
      · have hU1 : ¬ zU b (b.2.2.1 i).1 k = true := fun h => by
          by_cases hex1 : zEx b k
          · exact hc ⟨hex1, by rw [e0]; exact h⟩
          · rw [hdf k (by omega) hex1] at h; cases h
        refine z_if_eq (tgt := 73) X dB_decide_28 (by decide) (fun c_28 => ?_) (fun c_28 => absurd c_28 (by decide))
        refine z_iinc (j := 0) (v := (nI (k + 1))) (L' := [(5, .int (nI (k + 1))), (4, .int b.2.2.2.2.2.2.2.2.1), (3, .int ((b.2.2.1 i).1)), (0, .ref 1), (1, .ref (10 + i)), (2, .int (nI 1))]) X dB_decide_73 rfl (nI_1 k) (by decide) rfl ?_
        refine z_goto (tgt := 14) X dB_decide_76 (by decide) ?_
        refine ih (k + 1) _ _ _ (by omega) (by omega) (by omega) (by omega) ?_ (by rw [bDk_n hU1]; exact hW1) hfr
        rw [bDk_n hU1, zcnt_step, if_neg hU1]; exact hB1
  obtain ⟨hn, t0, t1, t2, t3, t4, t5, q6, q7, q8, q9, q10, hpt, hlg, hse, hcu, hop, hgr⟩ := id hT
  refine z_aload_n (j := 1) X dB_decide_0 rfl rfl ?_
  refine z_geti (C := RS) (T := TS) (N := 4) (k := 0) X (w_in inS) rfl rfl (kd_S hi) (by decide) (w_m lB_63) rfl rfl dB_decide_1 (hv := (hSs i hi).2.2.2.1) ?_
  refine z_istore_n (L' := [(3, .int ((b.2.2.1 i).1)), (0, .ref 1), (1, .ref (10 + i)), (2, .int (nI 1))]) X dB_decide_4 rfl (by decide) rfl ?_
  refine z_aload_n (j := 1) X dB_decide_5 rfl rfl ?_
  refine z_geti (C := RB) (T := TB) (N := 11) (k := 8) X (w_in inB) rfl rfl rfl (by decide) (w_m lB_239) rfl rfl dB_decide_6 (hv := q8) ?_
  refine z_istore (L' := [(4, .int b.2.2.2.2.2.2.2.2.1), (3, .int ((b.2.2.1 i).1)), (0, .ref 1), (1, .ref (10 + i)), (2, .int (nI 1))]) X dB_decide_9 (by decide) rfl ?_
  refine z_iconst (v := (nI 0)) X dB_decide_11 (by decide) ?_
  refine z_istore (L' := [(5, .int (nI 0)), (4, .int b.2.2.2.2.2.2.2.2.1), (3, .int ((b.2.2.1 i).1)), (0, .ref 1), (1, .ref (10 + i)), (2, .int (nI 1))]) X dB_decide_12 (by decide) rfl ?_
  refine z_loc [0, 1, 2, 3, 4, 5] rfl ?_
  exact loop 13 0 S 0 0 (by omega) (by omega) (by omega) (by omega) (by
    rw [bDk_0]
    show zBrA S (bM b (b.2.2.2.2.2.2.2.2.1 + nI 0))
    rw [nI_0, Int32.add_zero]; exact hB) (by rw [bDk_0]; exact hW) zfr.rf

set_option maxHeartbeats 600000 in
set_option maxRecDepth 100000 in
theorem mB_decideF (l : Launch) (D : va_G) (dA : Nat → ClassId) {S : zS} {b : zBr} {i : Nat} (hB : zBrA S b) (hW : zBrW b) (hi : i < 6) (hq : ∃ k, k < 4 ∧ (b.2.2.1 i).1 = nI k) (hrm : ∀ t, zEx b t → zU b (b.2.2.1 i).1 t = true → (b.2.1 t).2.1.2 < 60) (hdf : ∀ t, t < 12 → ¬ zEx b t → zU b (b.2.2.1 i).1 t = false) (hemp : ∀ t, t < 12 → ¬ zEx b t → ∀ o, (b.2.1 t).2.2 o = none) : zMet l D vwCl zKK dA (zG0 D dA) yB_decide (Cond.code yB_decide cB_decide 6 (some .int) :: zTs) { frames := 3, cells := 12, slots := 60, locals := 67 } 12 60 [.ref 1, .ref (10 + i), .int (nI 0)] S (fun v S' => v = some (.int (nI (zcnt (zU b (b.2.2.1 i).1) 12 0))) ∧ zBrA S' (sDec b i false) ∧ zfr zOwnB S S') (fun _ _ => False) := by
  refine z_met (tys := ztys dA) (by decide) rfl zG0_K rfl (Nat.le_of_ble_eq_true rfl) (fun p e s m args below meth c A ad X hr hlocks hin hex => ?_)
  obtain ⟨hT, hLg, hSs, hGs, hnx, hnf⟩ := id hB
  obtain ⟨v1, v2, v3, v4, v5, v6, v7⟩ := id hW
  have hno : ∀ k, k < 12 → ¬ zEx b k → ∀ o, (bDk b (b.2.2.1 i).1 (zMk (b.2.2.1 i).1 false) 12).2.1 k = b.2.1 k ∧ (b.2.1 k).2.2 o = none := fun k h1 h2 o => ⟨if_neg (fun h => by rw [hdf k h1 h2] at h; cases h.2), hemp k h1 h2 o⟩
  have loop2 : zBrW (bDk b (b.2.2.1 i).1 (zMk (b.2.2.1 i).1 false) 12) → ∀ (f k : Nat) (S1 : zS) (kc ks : Nat), 12 - k < f → k ≤ 12 → kc ≤ 12 → ks ≤ 60 → zBrA S1 (bSk (bM (bDk b (b.2.2.1 i).1 (zMk (b.2.2.1 i).1 false) 12) (b.2.2.2.2.2.2.2.2.1 + nI (zcnt (zU b (b.2.2.1 i).1) 12 0))) (b.2.2.1 i).1 (nI 1) k) → zBrW (bSk (bM (bDk b (b.2.2.1 i).1 (zMk (b.2.2.1 i).1 false) 12) (b.2.2.2.2.2.2.2.2.1 + nI (zcnt (zU b (b.2.2.1 i).1) 12 0))) (b.2.2.1 i).1 (nI 1) k) → zfr zOwnB S S1 → AW p l e { frames := 3, cells := 12, slots := 60, locals := 67 } s m args below meth c D vwCl zKK dA A (ad, S) 6 S1 kc ks (vx_MQ below (zQc D vwCl zKK dA A ad S (fun v S' => v = some (.int (nI (zcnt (zU b (b.2.2.1 i).1) 12 0))) ∧ zBrA S' (sDec b i false) ∧ zfr zOwnB S S')) (zXC D vwCl zKK dA A ad S (fun _ _ => False)) args s 12 60 A) 82 [(5, .int (nI k)), (4, .int b.2.2.2.2.2.2.2.2.1), (3, .int (b.2.2.1 i).1), (0, .ref 1), (1, .ref (10 + i)), (2, .int (nI 0))] [] := by
    intro hW2 f
    induction f with
    | zero => intro k S1 kc ks h0; omega
    | succ f ih =>
    intro k S1 kc ks h0 hk12 hkc hks hB1 hWk hfr
    obtain ⟨hn, t0, t1, t2, t3, t4, t5, q6, q7, q8, q9, q10, hpt, hlg, hse, hcu, hop, hgr⟩ := id hB1.1
    refine z_iload (j := 0) X dB_decide_82 rfl ?_
    refine z_bipush (v := (nI 12)) X dB_decide_84 (by decide) ?_
    refine z_icmp_geN (tgt := 125) X dB_decide_86 (by decide) (by omega) (by omega) (fun c_86 => ?_) (fun c_86 => ?_)
    · have e12 : k = 12 := by omega
      subst e12
      have hB5 := zBrA_S hB1 hWk hi (zSsA_tr (v := nI 0) (hB1.2.2.1 i hi) hi) (zfr.i (Or.inl rfl))
      have hfr5 := hfr.tr (zfr.ownB (zfr.i (S := S1) (own := zOwnS i) (n := 10 + i) (k := 1) (x := nI 0) (Or.inl rfl)) (fun n h => by unfold zOwnS at h; omega))
      refine z_aload_n (j := 4) X dB_decide_125 rfl rfl ?_
      refine z_iconst (v := (nI 0)) X dB_decide_126 (by decide) ?_
      refine z_puti (C := RS) (T := TS) (N := 4) (k := 1) X (w_in inS) rfl rfl (kd_S hi) (by decide) (w_m lB_59) rfl tyS tyS_ok nmS rfl rfl (ty := .boolean) (by decide +kernel) rfl rfl dB_decide_127 ?_
      refine z_aload_n (j := 3) X dB_decide_130 rfl rfl ?_
      refine z_geti (C := RB) (T := TB) (N := 11) (k := 8) X (w_in inB) rfl rfl rfl (by decide) (w_m lB_239) rfl rfl dB_decide_131 (hv := (rd_i (Or.inl (by omega)) q8)) ?_
      refine z_iload (j := 1) X dB_decide_134 rfl ?_
      refine z_isub X dB_decide_136 ?_
      refine z_iret X hlocks hr dB_decide_137 (by omega) (by omega) ?_
      exact ⟨congrArg (fun z => some (Value.int z)) (zI_acc _ _), hB5, hfr5⟩
    · refine z_aload_n (j := 3) X dB_decide_89 rfl rfl ?_
      refine z_getr (C := RB) (T := TB) (N := 11) (k := 1) X (w_in inB) rfl rfl rfl (by decide) (w_m lB_15) rfl rfl t1 dB_decide_90 ?_
      refine z_iload (j := 0) X dB_decide_93 rfl ?_
      by_cases hex1 : zEx b k
      · refine z_aald (t0 := 3) X rfl (by decide) (by decide) (by decide) rfl (by omega) (by decide) (by rw [hlg k (by omega)]; exact if_pos hex1.2) dB_decide_95 ?_
        refine z_ifnull X dB_decide_96 ?_
        refine z_aload_n (j := 3) X dB_decide_99 rfl rfl ?_
        refine z_getr (C := RB) (T := TB) (N := 11) (k := 1) X (w_in inB) rfl rfl rfl (by decide) (w_m lB_15) rfl rfl t1 dB_decide_100 ?_
        refine z_iload (j := 0) X dB_decide_103 rfl ?_
        refine z_aald (t0 := 3) X rfl (by decide) (by decide) (by decide) rfl (by omega) (by decide) (by rw [hlg k (by omega)]; exact if_pos hex1.2) dB_decide_105 ?_
        refine z_iload_n (j := 2) X dB_decide_106 rfl rfl ?_
        refine z_iload_n (j := 5) X dB_decide_107 rfl rfl ?_
        refine z_if_eq (tgt := 115) X dB_decide_108 (by decide) (fun c_108 => ?_) (fun c_108 => absurd c_108 (by decide))
        refine z_iconst (v := (nI 1)) X dB_decide_115 (by decide) ?_
        refine z_callV (n := 2) (As := [.int ((b.2.2.1 i).1), .int (nI 1)]) (rest := []) X zG0_m (mG_settle l D dA (by omega) (by have h9 := hB1.2.1 k hex1; rw [bSk_at (Nat.le_refl _)] at h9; exact h9) (hW2.2.1 k hex1)) (w_V X.2.2.2.2.1 lB_271 jG_settle sG_settle i_LogBroker_Log kG_settle rfl rfl (by decide +kernel) ⟨Nat.le_of_ble_eq_true rfl, Nat.le_of_ble_eq_true rfl⟩) (kd_G (by omega)) rfl rfl rfl rfl (Nat.le_of_ble_eq_true rfl) dB_decide_116 ⟨by show _ ≤ 12; omega, by show _ ≤ 60; omega⟩ (fun v S2 hp => ?_) (fun E S1 hx => hx.elim)
        obtain ⟨hv, hA2, hf2, hd2⟩ := hp
        subst hv
        refine z_iinc (j := 0) (v := (nI (k + 1))) (L' := [(5, .int (nI (k + 1))), (4, .int b.2.2.2.2.2.2.2.2.1), (3, .int ((b.2.2.1 i).1)), (0, .ref 1), (1, .ref (10 + i)), (2, .int (nI 0))]) X dB_decide_119 rfl (nI_1 k) (by decide) rfl ?_
        refine z_goto (tgt := 82) X dB_decide_122 (by decide) ?_
        have hB4 := zBrA_G hB1 hWk hex1 hA2 hf2 hd2 (by rw [bSk_at (Nat.le_refl _)]; rfl)
        have hB4 : zBrA S2 (bSk (bM (bDk b (b.2.2.1 i).1 (zMk (b.2.2.1 i).1 false) 12) (b.2.2.2.2.2.2.2.2.1 + nI (zcnt (zU b (b.2.2.1 i).1) 12 0))) (b.2.2.1 i).1 (nI 1) (k + 1)) := by rw [bSk_s]; exact hB4
        exact ih (k + 1) _ _ _ (by omega) (by omega) (by omega) (by omega) hB4 (by
          rw [bSk_s]
          exact zBrW_G hWk (zLogW_set (hW2.2.1 k hex1)) (fun o e he => by
            obtain ⟨e0, h1, h2⟩ := zSet_some he
            rw [h2]; exact zEW_set (hW2.2.2.1 k hex1 o e0 h1) (Or.inr rfl)) (by rw [bSk_at (Nat.le_refl _)]; exact Nat.le_refl _)) (hfr.tr (hf2.ownB (fun n h => by unfold zOwnG at h; omega)))
      · refine z_aaldN (t0 := 3) X rfl (by decide) (by decide) (by decide) rfl (by omega) (by decide) (by rw [hlg k (by omega)]; exact if_neg (fun h => hex1 ⟨by omega, h⟩)) dB_decide_95 ?_
        refine z_ifnullN (tgt := 119) X dB_decide_96 (by decide) ?_
        refine z_iinc (j := 0) (v := (nI (k + 1))) (L' := [(5, .int (nI (k + 1))), (4, .int b.2.2.2.2.2.2.2.2.1), (3, .int ((b.2.2.1 i).1)), (0, .ref 1), (1, .ref (10 + i)), (2, .int (nI 0))]) X dB_decide_119 rfl (nI_1 k) (by decide) rfl ?_
        refine z_goto (tgt := 82) X dB_decide_122 (by decide) ?_
        have hz : bSk (bM (bDk b (b.2.2.1 i).1 (zMk (b.2.2.1 i).1 false) 12) (b.2.2.2.2.2.2.2.2.1 + nI (zcnt (zU b (b.2.2.1 i).1) 12 0))) (b.2.2.1 i).1 (nI 1) (k + 1) = bSk (bM (bDk b (b.2.2.1 i).1 (zMk (b.2.2.1 i).1 false) 12) (b.2.2.2.2.2.2.2.2.1 + nI (zcnt (zU b (b.2.2.1 i).1) 12 0))) (b.2.2.1 i).1 (nI 1) k := by
          rw [bSk_s]
          exact zSet_no (by rw [bSk_at (Nat.le_refl _)]) (fun o => hno k (by omega) hex1 o)
        exact ih (k + 1) _ _ _ (by omega) (by omega) (by omega) (by omega) (by rw [hz]; exact hB1) (by rw [hz]; exact hWk) hfr
  have loop2' : ∀ (S1 : zS) (kc ks : Nat), kc ≤ 12 → ks ≤ 60 → zBrA S1 (bM (bDk b (b.2.2.1 i).1 (zMk (b.2.2.1 i).1 false) 12) (b.2.2.2.2.2.2.2.2.1 + nI (zcnt (zU b (b.2.2.1 i).1) 12 0))) → zBrW (bDk b (b.2.2.1 i).1 (zMk (b.2.2.1 i).1 false) 12) → zfr zOwnB S S1 → AW p l e { frames := 3, cells := 12, slots := 60, locals := 67 } s m args below meth c D vwCl zKK dA A (ad, S) 6 S1 kc ks (vx_MQ below (zQc D vwCl zKK dA A ad S (fun v S' => v = some (.int (nI (zcnt (zU b (b.2.2.1 i).1) 12 0))) ∧ zBrA S' (sDec b i false) ∧ zfr zOwnB S S')) (zXC D vwCl zKK dA A ad S (fun _ _ => False)) args s 12 60 A) 79 [(5, .int (nI 12)), (4, .int b.2.2.2.2.2.2.2.2.1), (3, .int (b.2.2.1 i).1), (0, .ref 1), (1, .ref (10 + i)), (2, .int (nI 0))] [] := by
    intro S1 kc ks hkc hks hB1 hW2 hfr
    refine z_iconst (v := (nI 0)) X dB_decide_79 (by decide) ?_
    refine z_istore (L' := [(5, .int (nI 0)), (4, .int b.2.2.2.2.2.2.2.2.1), (3, .int ((b.2.2.1 i).1)), (0, .ref 1), (1, .ref (10 + i)), (2, .int (nI 0))]) X dB_decide_80 (by decide) rfl ?_
    exact loop2 hW2 13 0 S1 kc ks (by omega) (by omega) hkc hks (by rw [bSk_0]; exact hB1) (by rw [bSk_0]; exact zBrW_M hW2) hfr
  have loop : ∀ (f k : Nat) (S1 : zS) (kc ks : Nat), 12 - k < f → k ≤ 12 → kc ≤ k → ks ≤ 5 * k → zBrA S1 (bM (bDk b (b.2.2.1 i).1 (zMk (b.2.2.1 i).1 false) k) (b.2.2.2.2.2.2.2.2.1 + nI (zcnt (zU b (b.2.2.1 i).1) k 0))) → zBrW (bDk b (b.2.2.1 i).1 (zMk (b.2.2.1 i).1 false) k) → zfr zOwnB S S1 → AW p l e { frames := 3, cells := 12, slots := 60, locals := 67 } s m args below meth c D vwCl zKK dA A (ad, S) 6 S1 kc ks (vx_MQ below (zQc D vwCl zKK dA A ad S (fun v S' => v = some (.int (nI (zcnt (zU b (b.2.2.1 i).1) 12 0))) ∧ zBrA S' (sDec b i false) ∧ zfr zOwnB S S')) (zXC D vwCl zKK dA A ad S (fun _ _ => False)) args s 12 60 A) 14 [(5, .int (nI k)), (4, .int b.2.2.2.2.2.2.2.2.1), (3, .int (b.2.2.1 i).1), (0, .ref 1), (1, .ref (10 + i)), (2, .int (nI 0))] [] := by
    intro f
    induction f with
    | zero => intro k S1 kc ks h0; omega
    | succ f ih =>
    intro k S1 kc ks h0 hk12 hkc hks hB1 hW1 hfr
    obtain ⟨hn, t0, t1, t2, t3, t4, t5, q6, q7, q8, q9, q10, hpt, hlg, hse, hcu, hop, hgr⟩ := id hB1.1
    refine z_iload (j := 0) X dB_decide_14 rfl ?_
    refine z_bipush (v := (nI 12)) X dB_decide_16 (by decide) ?_
    refine z_icmp_geN (tgt := 79) X dB_decide_18 (by decide) (by omega) (by omega) (fun c_18 => ?_) (fun c_18 => ?_)
    · have e12 : k = 12 := by omega
      subst e12
      exact loop2' _ _ _ (by omega) (by omega) hB1 hW1 hfr
    · refine z_aload_n (j := 3) X dB_decide_21 rfl rfl ?_
      refine z_iload (j := 0) X dB_decide_22 rfl ?_
      refine z_iload_n (j := 2) X dB_decide_24 rfl rfl ?_
      refine z_callV (n := 2) (As := [.int (nI k), .int ((b.2.2.1 i).1)]) (rest := []) X zG0_m (mB_awaitsMarker l D dA (b := (bM (bDk b (b.2.2.1 i).1 (zMk (b.2.2.1 i).1 false) k) (b.2.2.2.2.2.2.2.2.1 + nI (zcnt (zU b (b.2.2.1 i).1) k 0)))) (t := k) hB1 (zBrW_M hW1) (by omega)) (w_V X.2.2.2.2.1 lB_263 jB_awaitsMarker sB_awaitsMarker i_LogBroker kB_awaitsMarker rfl rfl (by decide +kernel) ⟨Nat.le_of_ble_eq_true rfl, Nat.le_of_ble_eq_true rfl⟩) rfl rfl rfl rfl rfl (Nat.le_of_ble_eq_true rfl) dB_decide_25 ⟨by show _ ≤ 12; omega, by show _ ≤ 60; omega⟩ (fun v S9 hp => ?_) (fun E S1 hx => hx.elim)
      obtain ⟨hS9, hp⟩ := hp
      have hS9 := hS9.symm
      subst hS9
      have e0 : (bM (bDk b (b.2.2.1 i).1 (zMk (b.2.2.1 i).1 false) k) (b.2.2.2.2.2.2.2.2.1 + nI (zcnt (zU b (b.2.2.1 i).1) k 0))).2.1 k = b.2.1 k := bDk_at (Nat.le_refl _)
      rcases hp with ⟨hv, hc⟩ | ⟨hv, hc⟩ <;> subst hv
      · have hex1 : zEx b k := hc.1
        have hU1 : zU b (b.2.2.1 i).1 k = true := by have h9 := hc.2; rw [e0] at h9; exact h9
        have hen := hrm k hex1 hU1
        refine z_if_eq (tgt := 73) X dB_decide_28 (by decide) (fun c_28 => absurd c_28 (by decide)) (fun c_28 => ?_)
        refine z_aload_n (j := 3) X dB_decide_31 rfl rfl ?_
        refine z_aload_n (j := 3) X dB_decide_32 rfl rfl ?_
        refine z_getr (C := RB) (T := TB) (N := 11) (k := 1) X (w_in inB) rfl rfl rfl (by decide) (w_m lB_15) rfl rfl t1 dB_decide_33 ?_
        refine z_iload (j := 0) X dB_decide_36 rfl ?_
        refine z_aald (t0 := 3) X rfl (by decide) (by decide) (by decide) rfl (by omega) (by decide) (by rw [hlg k (by omega)]; exact if_pos hex1.2) dB_decide_38 ?_
        refine z_new (C := RE) (T := TE) (N := 5) (ci := 0) (n := (200 + 60 * k + (b.2.1 k).2.1.2)) X (w_in inE) rfl rfl (kd_E (by omega) (by omega)) (by have h9 := hB1.2.2.2.2.2 k hex1 (b.2.1 k).2.1.2 hen (by rw [e0]; exact Nat.le_refl _); exact h9) (by omega) tyE tyE_ok (by decide +kernel) (w_m lB_121) (w_m n_LogBroker_Entry) (w_m i_LogBroker_Entry) (by show _ ≤ 12; omega) (by show _ ≤ 60; omega) dB_decide_39 ?_
        refine z_dup X dB_decide_42 rfl ?_
        refine z_iload_n (j := 5) X dB_decide_43 rfl rfl ?_
        refine z_if_eq (tgt := 51) X dB_decide_44 (by decide) (fun c_44 => ?_) (fun c_44 => absurd c_44 (by decide))
        refine z_iconst (v := (nI 2)) X dB_decide_51 (by decide) ?_
        refine z_iconst (v := (-1)) X dB_decide_52 (by decide) ?_
        refine z_iconst (v := (nI 0)) X dB_decide_53 (by decide) ?_
        refine z_iload_n (j := 2) X dB_decide_54 rfl rfl ?_
        refine z_iconst (v := (nI 0)) X dB_decide_55 (by decide) ?_
        refine z_callI (n := 5) (As := [.int (nI 2), .int (-1), .int (nI 0), .int ((b.2.2.1 i).1), .int (nI 0)]) (rest := [.ref (200 + 60 * k + (b.2.1 k).2.1.2), .ref (60 + k), .ref 1]) X zG0_m (fun _ _ h => h) (mE_init l D dA (kd_E (by omega) (by omega))) (w_I X.2.2.2.2.1 lB_123 jE_init i_LogBroker_Entry kE_init rfl rfl rfl (by decide +kernel) ⟨Nat.le_of_ble_eq_true rfl, Nat.le_of_ble_eq_true rfl⟩) rfl rfl (Nat.le_of_ble_eq_true rfl) dB_decide_56 ⟨by show _ ≤ 12; omega, by show _ ≤ 60; omega⟩ (fun v S0 hp => ?_)
        obtain ⟨hv, hS0⟩ := hp
        subst hv
        obtain ⟨hE0, hf0, hd0⟩ := zNewE (S := S1) (n := (200 + 60 * k + (b.2.1 k).2.1.2)) (a0 := (nI 2)) (a1 := -1) (a2 := nI 0) (a3 := (b.2.2.1 i).1) (a4 := nI 0)
        rw [← hS0] at hE0 hf0 hd0
        clear hS0
        have hT0 : zTop S0 (bM (bDk b (b.2.2.1 i).1 (zMk (b.2.2.1 i).1 false) k) (b.2.2.2.2.2.2.2.2.1 + nI (zcnt (zU b (b.2.2.1 i).1) k 0))) := zTop_fr hB1.1 (fun n h1 h2 => hf0.ag (by omega))
        have hO0 : zLogA S0 k (b.2.1 k) := zLogA_nw (by have h9 := hB1.2.1 k hex1; rw [e0] at h9; exact h9) (v2 k hex1) (by omega) hf0
        refine z_callV (n := 2) (As := [.ref (60 + k), .ref (200 + 60 * k + (b.2.1 k).2.1.2)]) (rest := []) X zG0_m (mB_write l D dA (b := (bM (bDk b (b.2.2.1 i).1 (zMk (b.2.2.1 i).1 false) k) (b.2.2.2.2.2.2.2.2.1 + nI (zcnt (zU b (b.2.2.1 i).1) k 0)))) (t := k) (g := b.2.1 k) hT0 (by omega) hO0 (v2 k hex1) hen hE0) (w_V X.2.2.2.2.1 lB_126 jB_write sB_write i_LogBroker kB_write rfl rfl (by decide +kernel) ⟨Nat.le_of_ble_eq_true rfl, Nat.le_of_ble_eq_true rfl⟩) rfl rfl rfl rfl rfl (Nat.le_of_ble_eq_true rfl) dB_decide_59 ⟨by show _ ≤ 12; omega, by show _ ≤ 60; omega⟩ (fun v S3 hp => ?_) (fun E S1 hx => hx.elim)
        obtain ⟨hv, hT3, hA3, hW3, hf3, hd3⟩ := hp
        subst hv
        obtain ⟨hB3, hfx3⟩ := zBrA_wr (e := ((nI 2), -1, nI 0, (b.2.2.1 i).1, nI 0)) (t := k) hB1 (zBrW_M hW1) hex1 (by rw [e0]; exact hf0) (by rw [e0]; exact hd0) (by rw [e0]; exact hen) (by rw [e0]; exact hT3) (by rw [e0]; exact hA3) hf3 hd3
        have hB3 : zBrA S3 (bM (bDk b (b.2.2.1 i).1 (zMk (b.2.2.1 i).1 false) (k + 1)) (b.2.2.2.2.2.2.2.2.1 + nI (zcnt (zU b (b.2.2.1 i).1) k 0))) := by rw [bDk_y hU1]; exact hB3
        have hW2 := zBrW_Dk hW hrm hdf (zEW_mk hq (Or.inr rfl)) (k + 1) (by omega)
        obtain ⟨hn, t0, t1, t2, t3, t4, t5, q6, q7, q8, q9, q10, hpt, hlg, hse, hcu, hop, hgr⟩ := id hB3.1
        refine z_pop X dB_decide_62 rfl ?_
        refine z_aload_n (j := 3) X dB_decide_63 rfl rfl ?_
        refine z_dup X dB_decide_64 rfl ?_
        refine z_geti (C := RB) (T := TB) (N := 11) (k := 8) X (w_in inB) rfl rfl rfl (by decide) (w_m lB_239) rfl rfl dB_decide_65 (hv := q8) ?_
        refine z_iconst (v := (nI 1)) X dB_decide_68 (by decide) ?_
        refine z_iadd X dB_decide_69 ?_
        refine z_top (zIa _ _ _) ?_
        rw [show zcnt (zU b (b.2.2.1 i).1) k 0 + 1 = zcnt (zU b (b.2.2.1 i).1) (k + 1) 0 by rw [zcnt_step, if_pos hU1]]
        refine z_puti (C := RB) (T := TB) (N := 11) (k := 8) X (w_in inB) rfl rfl rfl (by decide) (w_m lB_239) rfl tyB tyB_ok nmB rfl rfl (ty := .int) (by decide +kernel) rfl rfl dB_decide_70 ?_
        refine z_iinc (j := 0) (v := (nI (k + 1))) (L' := [(5, .int (nI (k + 1))), (4, .int b.2.2.2.2.2.2.2.2.1), (3, .int ((b.2.2.1 i).1)), (0, .ref 1), (1, .ref (10 + i)), (2, .int (nI 0))]) X dB_decide_73 rfl (nI_1 k) (by decide) rfl ?_
        refine z_goto (tgt := 14) X dB_decide_76 (by decide) ?_
        obtain ⟨hB4, hf4⟩ := zBrA_M (v := b.2.2.2.2.2.2.2.2.1 + nI (zcnt (zU b (b.2.2.1 i).1) (k + 1) 0)) hB3 (zBrW_M hW2)
        exact ih (k + 1) _ _ _ (by omega) (by omega) (by omega) (by omega) hB4 hW2 ((hfr.tr (hfx3.ownB (fun n h => by unfold zOwnG at h; omega))).tr (hf4.ownB (fun n h => by omega)))
      · have hU1 : ¬ zU b (b.2.2.1 i).1 k = true := fun h => by
          by_cases hex1 : zEx b k
          · exact hc ⟨hex1, by rw [e0]; exact h⟩
          · rw [hdf k (by omega) hex1] at h; cases h
        refine z_if_eq (tgt := 73) X dB_decide_28 (by decide) (fun c_28 => ?_) (fun c_28 => absurd c_28 (by decide))
        refine z_iinc (j := 0) (v := (nI (k + 1))) (L' := [(5, .int (nI (k + 1))), (4, .int b.2.2.2.2.2.2.2.2.1), (3, .int ((b.2.2.1 i).1)), (0, .ref 1), (1, .ref (10 + i)), (2, .int (nI 0))]) X dB_decide_73 rfl (nI_1 k) (by decide) rfl ?_
        refine z_goto (tgt := 14) X dB_decide_76 (by decide) ?_
        refine ih (k + 1) _ _ _ (by omega) (by omega) (by omega) (by omega) ?_ (by rw [bDk_n hU1]; exact hW1) hfr
        rw [bDk_n hU1, zcnt_step, if_neg hU1]; exact hB1
  obtain ⟨hn, t0, t1, t2, t3, t4, t5, q6, q7, q8, q9, q10, hpt, hlg, hse, hcu, hop, hgr⟩ := id hT
  refine z_aload_n (j := 1) X dB_decide_0 rfl rfl ?_
  refine z_geti (C := RS) (T := TS) (N := 4) (k := 0) X (w_in inS) rfl rfl (kd_S hi) (by decide) (w_m lB_63) rfl rfl dB_decide_1 (hv := (hSs i hi).2.2.2.1) ?_
  refine z_istore_n (L' := [(3, .int ((b.2.2.1 i).1)), (0, .ref 1), (1, .ref (10 + i)), (2, .int (nI 0))]) X dB_decide_4 rfl (by decide) rfl ?_
  refine z_aload_n (j := 1) X dB_decide_5 rfl rfl ?_
  refine z_geti (C := RB) (T := TB) (N := 11) (k := 8) X (w_in inB) rfl rfl rfl (by decide) (w_m lB_239) rfl rfl dB_decide_6 (hv := q8) ?_
  refine z_istore (L' := [(4, .int b.2.2.2.2.2.2.2.2.1), (3, .int ((b.2.2.1 i).1)), (0, .ref 1), (1, .ref (10 + i)), (2, .int (nI 0))]) X dB_decide_9 (by decide) rfl ?_
  refine z_iconst (v := (nI 0)) X dB_decide_11 (by decide) ?_
  refine z_istore (L' := [(5, .int (nI 0)), (4, .int b.2.2.2.2.2.2.2.2.1), (3, .int ((b.2.2.1 i).1)), (0, .ref 1), (1, .ref (10 + i)), (2, .int (nI 0))]) X dB_decide_12 (by decide) rfl ?_
  refine z_loc [0, 1, 2, 3, 4, 5] rfl ?_
  exact loop 13 0 S 0 0 (by omega) (by omega) (by omega) (by omega) (by
    rw [bDk_0]
    show zBrA S (bM b (b.2.2.2.2.2.2.2.2.1 + nI 0))
    rw [nI_0, Int32.add_zero]; exact hB) (by rw [bDk_0]; exact hW) zfr.rf
end
section
/-! ending, opening, producing, new topics -/
def zLg0 : zLg := ((1, 1, nI 0), (0, 0), fun _ => none)
/-- what is not there is empty -/
def zBrE (b : zBr) : Prop := ∀ t, t < 12 → ¬ zEx b t → b.2.1 t = zLg0
theorem zBrE.u {b : zBr} (h : zBrE b) {q : Int32} (t : Nat) (ht : t < 12) (hx : ¬ zEx b t) : zU b q t = false := by unfold zU; rw [h t ht hx]; rfl
theorem zBrE.n {b : zBr} (h : zBrE b) (t : Nat) (ht : t < 12) (hx : ¬ zEx b t) (o : Nat) : (b.2.1 t).2.2 o = none := by rw [h t ht hx]; rfl
theorem zRoom_y {b : zBr} {q : Int32} (hE : zBrE b) (h : ∀ t, zEx b t → zHasU (b.2.1 t) q = true → (b.2.1 t).2.1.2 < 60) : zRoom b q = true := zRoom_iff.mpr fun t ht hu => by
  by_cases hx : zEx b t
  · exact h t hx hu
  · rw [hE.u t ht hx] at hu; cases hu
theorem zRoom_n {b : zBr} {q : Int32} (h : ∃ t, zEx b t ∧ zHasU (b.2.1 t) q = true ∧ ¬ (b.2.1 t).2.1.2 < 60) : ¬ zRoom b q = true := fun h1 => by
  obtain ⟨t, hx, hu, he⟩ := h
  exact he (zRoom_iff.mp h1 t hx.1 hu)
def sEnd (b : zBr) (x : Int32) (c : Bool) : (Nat × Int32) × zBr := zA x 5 ((1, 0), b) fun i => if (b.2.2.1 i).1 = -1 then ((2, 0), b) else if (b.2.2.1 i).2.1 = nI 0 then ((3, 0), b) else
  if ¬ zRoom b (b.2.2.1 i).1 = true then ((4, 0), b) else ((0, nI (zcnt (zU b (b.2.2.1 i).1) 12 0)), sDec b i c)
/-- a producer's current session, if there is one -/
def zOpT (b : zBr) (p : Nat) : Prop := ¬ b.2.2.2.1 p = -1 ∧ ¬ (b.2.2.1 (b.2.2.2.1 p).toNatClampNeg).2.1 = nI 0
def sAb (b : zBr) (p : Nat) : Option zBr := if ¬ b.2.2.2.1 p = -1 ∧ ¬ (b.2.2.1 (b.2.2.2.1 p).toNatClampNeg).2.1 = nI 0 then (if zRoom b (nI p) = true then some (sDec b (b.2.2.2.1 p).toNatClampNeg false) else none) else some b
def sOp2 (b : zBr) (i p : Nat) : zBr := bO (bC (bS (if ¬ (b.2.2.1 i).1 = -1 ∧ b.2.2.2.1 (b.2.2.1 i).1.toNatClampNeg = nI i then bC b (b.2.2.1 i).1.toNatClampNeg (-1) else b) i (nI p, (b.2.2.1 i).2.1, (fun _ => 0), (b.2.2.1 i).2.2.2)) p (nI i)) p (b.2.2.2.2.1 p + nI 1)
def sOpen (b : zBr) (x y : Int32) : (Nat × Int32) × zBr := zA x 5 ((1, 0), b) fun i => zA y 3 ((1, 0), b) fun p => if ¬ (b.2.2.1 i).2.1 = nI 0 ∧ ¬ (b.2.2.1 i).1 = nI p then ((2, 0), b) else
  zO (sAb b p) ((3, 0), b) fun b1 => ((0, b1.2.2.2.2.1 p + nI 1), sOp2 b1 i p)
/-- a producer's current session belongs to it -/
def zBrC (b : zBr) : Prop := ∀ q i, q < 4 → i < 6 → b.2.2.2.1 q = nI i → (b.2.2.1 i).1 = nI q
theorem zBrW_S {b : zBr} {i : Nat} {u : zSn} (h : zBrW b) (h1 : (u.1 = -1 ∨ ∃ q, q < 4 ∧ u.1 = nI q) ∧ (u.2.1 = nI 0 ∨ u.2.1 = nI 1)) (h2 : ∀ t, t < 12 → u.2.2.1 t ≤ (b.2.1 t).2.1.2) : zBrW (bS b i u) := by
  obtain ⟨v1, v2, v3, v4, v5, v6, v7⟩ := h
  have e1 : ∀ j, (bS b i u).2.2.1 j = if j = i then u else b.2.2.1 j := fun j => rfl
  refine ⟨v1, v2, v3, fun j hj => ?_, fun j t hj ht => ?_, v6, v7⟩
  · rw [e1]
    by_cases h9 : j = i
    · rw [if_pos h9]; exact h1
    · rw [if_neg h9]; exact v4 j hj
  · rw [e1]
    have h5 := v5 j t hj ht
    by_cases h9 : j = i
    · rw [if_pos h9]; exact ⟨h2 t ht, h5.2⟩
    · rw [if_neg h9]; exact h5
theorem zBrW_Sk {b : zBr} {q x : Int32} (h : zBrW b) (hx : x = nI 0 ∨ x = nI 1) (hE : ∀ t, t < 12 → ¬ zEx b t → ∀ o, (b.2.1 t).2.2 o = none) : ∀ k, k ≤ 12 → zBrW (bSk b q x k)
  | 0, _ => by rw [bSk_0]; exact h
  | k + 1, hk => by
    have ih := zBrW_Sk (q := q) h hx hE k (by omega)
    by_cases hex : zEx b k
    · rw [bSk_s]
      exact zBrW_G ih (zLogW_set (h.2.1 k hex)) (fun o e he => by
        obtain ⟨e0, h1, h2⟩ := zSet_some he
        rw [h2]; exact zEW_set (h.2.2.1 k hex o e0 h1) hx) (by rw [bSk_at (Nat.le_refl _)]; exact Nat.le_refl _)
    · rw [bSk_s, zSet_no (g0 := b.2.1 k) (bSk_at (Nat.le_refl _)) (fun o => ⟨rfl, hE k (by omega) hex o⟩)]; exact ih
theorem zBrW_dec {b : zBr} {i : Nat} {c : Bool} (hW : zBrW b) (hE : zBrE b) (hi : i < 6) (hq : ∃ k, k < 4 ∧ (b.2.2.1 i).1 = nI k) (hr : ∀ t, zEx b t → zU b (b.2.2.1 i).1 t = true → (b.2.1 t).2.1.2 < 60) : zBrW (sDec b i c) := by
  have h1 := zBrW_Dk (e := zMk (b.2.2.1 i).1 c) hW hr (fun t h1 h2 => hE.u t h1 h2) (zEW_mk hq (by cases c <;> first | exact Or.inl rfl | exact Or.inr rfl)) 12 (by omega)
  have h2 := zBrW_Sk (q := (b.2.2.1 i).1) (x := if c = true then nI 0 else nI 1) (zBrW_M (v := b.2.2.2.2.2.2.2.2.1 + nI (zcnt (zU b (b.2.2.1 i).1) 12 0)) h1) (by cases c <;> first | exact Or.inl rfl | exact Or.inr rfl) (fun t h3 h4 o => by
    have h5 : (bDk b (b.2.2.1 i).1 (zMk (b.2.2.1 i).1 c) 12).2.1 t = b.2.1 t := if_neg (fun h => by rw [hE.u t h3 h4] at h; cases h.2)
    show ((bDk b (b.2.2.1 i).1 (zMk (b.2.2.1 i).1 c) 12).2.1 t).2.2 o = none
    rw [h5]; exact hE.n t h3 h4 o) 12 (by omega)
  exact zBrW_S h2 ⟨(hW.2.2.2.1 i hi).1, Or.inl rfl⟩ (fun t ht => (h2.2.2.2.2.1 i t hi ht).1)
theorem zTop_C {S : zS} {b : zBr} {q : Nat} {v : Int32} (h : zTop S b) : zTop (zsi S 5 q v) (bC b q v) := by
  obtain ⟨hn, t0, t1, t2, t3, t4, t5, q6, q7, q8, q9, q10, hpt, hlg, hse, hcu, hop, hgr⟩ := h
  refine ⟨hn, t0, t1, t2, t3, t4, t5, rd_i (Or.inl (by decide)) q6, rd_i (Or.inl (by decide)) q7, rd_i (Or.inl (by decide)) q8, rd_i (Or.inl (by decide)) q9, rd_i (Or.inl (by decide)) q10, fun t ht => rd_i (Or.inl (by decide)) (hpt t ht), hlg, hse, fun j hj => ?_, fun t ht => rd_i (Or.inl (by decide)) (hop t ht), hgr⟩
  show _ = if j = q then v else b.2.2.2.1 j
  by_cases e9 : j = q
  · subst e9; rw [if_pos rfl]; exact rd_s
  · rw [if_neg e9]; exact rd_i (Or.inr e9) (hcu j hj)
theorem zTop_O {S : zS} {b : zBr} {q : Nat} {v : Int32} (h : zTop S b) : zTop (zsi S 6 q v) (bO b q v) := by
  obtain ⟨hn, t0, t1, t2, t3, t4, t5, q6, q7, q8, q9, q10, hpt, hlg, hse, hcu, hop, hgr⟩ := h
  refine ⟨hn, t0, t1, t2, t3, t4, t5, rd_i (Or.inl (by decide)) q6, rd_i (Or.inl (by decide)) q7, rd_i (Or.inl (by decide)) q8, rd_i (Or.inl (by decide)) q9, rd_i (Or.inl (by decide)) q10, fun t ht => rd_i (Or.inl (by decide)) (hpt t ht), hlg, hse, fun t ht => rd_i (Or.inl (by decide)) (hcu t ht), fun j hj => ?_, hgr⟩
  show _ = if j = q then v else b.2.2.2.2.1 j
  by_cases e9 : j = q
  · subst e9; rw [if_pos rfl]; exact rd_s
  · rw [if_neg e9]; exact rd_i (Or.inr e9) (hop j hj)
/-- the object's own cells have changed alone -/
theorem zBrA_t {S S' : zS} {b b' : zBr} (h : zBrA S b) (hW : zBrW b) (hf : zfr (fun n => 1 ≤ n ∧ n < 8) S S') (hT : zTop S' b') (h1 : b'.1 = b.1) (h2 : b'.2.1 = b.2.1) (h3 : b'.2.2.1 = b.2.2.1) (h4 : b'.2.2.2.2.2.1 = b.2.2.2.2.2.1) : zBrA S' b' :=
  zBrA_upd h hW hf hT h1 (fun t2 h9 => Or.inr ⟨by rw [h2], fun n h9 h => by unfold zOwnG at h9; omega⟩) (fun i hi => Or.inr ⟨by rw [h3], fun n h9 h => by unfold zOwnS at h9; omega⟩) (fun i hi => Or.inr ⟨by rw [h4], fun n h9 h => by unfold zOwnH at h9; omega⟩) (fun t2 h12 h2 n h9 h => by unfold zOwnG at h9; omega)
theorem zBrA_C {S : zS} {b : zBr} {q : Nat} {v : Int32} (h : zBrA S b) (hW : zBrW b) : zBrA (zsi S 5 q v) (bC b q v) := zBrA_t h hW (zfr.i (by decide)) (zTop_C h.1) rfl rfl rfl rfl
theorem zBrA_O {S : zS} {b : zBr} {q : Nat} {v : Int32} (h : zBrA S b) (hW : zBrW b) : zBrA (zsi S 6 q v) (bO b q v) := zBrA_t h hW (zfr.i (by decide)) (zTop_O h.1) rfl rfl rfl rfl
theorem zBrW_C {b : zBr} {q : Nat} {v : Int32} (h : zBrW b) (hv : v = -1 ∨ ∃ i, i < 6 ∧ v = nI i) : zBrW (bC b q v) := by
  obtain ⟨v1, v2, v3, v4, v5, v6, v7⟩ := h
  refine ⟨v1, v2, v3, v4, v5, fun j hj => ?_, v7⟩
  show (if j = q then v else b.2.2.2.1 j) = -1 ∨ ∃ i, i < 6 ∧ (if j = q then v else b.2.2.2.1 j) = nI i
  by_cases h9 : j = q
  · rw [if_pos h9]; exact hv
  · rw [if_neg h9]; exact v6 j hj
theorem zBrW_O {b : zBr} {q : Nat} {v : Int32} (h : zBrW b) : zBrW (bO b q v) := h
def zRem (n ex : Nat) : Prop := n < ex ∧ ex ≤ n + 3
/-- what is produced -/
def zPe (u : zSn) (k v : Int32) : zE := (nI 0, k, v, u.1, if u.2.1 = nI 0 then nI 0 else nI 2)
def sProduce (b : zBr) (x y n k v : Int32) : (Nat × Int32) × zBr := zA x 5 ((1, 0), b) fun i => zT b y ((1, 0), b) fun t => if (k < -1 ∨ nI 7 < k) ∨ n < 0 then ((1, 0), b) else if (b.2.2.1 i).1 = -1 then ((2, 0), b) else
  if n.toNatClampNeg < (b.2.2.1 i).2.2.1 t ∧ (b.2.2.1 i).2.2.1 t ≤ n.toNatClampNeg + 3 then
    (if ¬ b.2.2.2.1 (b.2.2.1 i).1.toNatClampNeg = nI i then ((4, 0), b) else ((0, (b.2.2.1 i).2.2.2 (t * 3 + n.toNatClampNeg % 3)), bN b (b.2.2.2.2.2.2.1, b.2.2.2.2.2.2.2.1 + nI 1, b.2.2.2.2.2.2.2.2)))
  else if ¬ n.toNatClampNeg = (b.2.2.1 i).2.2.1 t then ((3, 0), b) else if ¬ b.2.2.2.1 (b.2.2.1 i).1.toNatClampNeg = nI i ∨ ¬ (b.2.1 t).2.1.2 < 60 then ((4, 0), b) else
    ((0, nI (b.2.1 t).2.1.2), bS (bW b t (zPe (b.2.2.1 i) k v)) i ((b.2.2.1 i).1, (b.2.2.1 i).2.1, (fun j => if j = t then (b.2.2.1 i).2.2.1 t + 1 else (b.2.2.1 i).2.2.1 j), fun j => if j = t * 3 + (b.2.2.1 i).2.2.1 t % 3 then nI (b.2.1 t).2.1.2 else (b.2.2.1 i).2.2.2 j))
/-- an argument in lo .. n -/
def zR {α : Type} (x : Int32) (lo n : Nat) (d : α) (k : Nat → α) : α := if x < nI lo ∨ nI n < x then d else k x.toNatClampNeg
theorem zR_n {α : Type} {x : Int32} {lo n : Nat} {d : α} {k : Nat → α} (h : x < nI lo ∨ nI n < x) : zR x lo n d k = d := if_pos h
theorem zR_s {α : Type} {i lo n : Nat} {d : α} {k : Nat → α} (h0 : lo ≤ i) (h : i ≤ n) (hn : n < 2 ^ 31) : zR (nI i) lo n d k = k i := by
  unfold zR
  rw [if_neg (fun q => q.elim (fun q => absurd ((nI_ltI (by omega) (by omega)).mp q) (by omega)) (fun q => absurd ((nI_ltI (by omega) (by omega)).mp q) (by omega))), nI_clamp (by omega)]
/-- topic t with n partitions -/
def bT (b : zBr) (t n z k : Nat) (c : Int32) : zBr := ((fun j => if j = t then n else b.1 j), (fun j => if j / 4 = t ∧ j % 4 < n then ((z, k, c), (0, 0), fun _ => none) else b.2.1 j), b.2.2)
def sTopic (b : zBr) (x n z k : Int32) (c : Int32) : (Nat × Int32) × zBr := zR x 0 2 ((1, 0), b) fun t => zR n 1 3 ((1, 0), b) fun n => zR z 1 4 ((1, 0), b) fun z => zR k 1 5 ((1, 0), b) fun k => if ¬ b.1 t = 0 then ((2, 0), b) else ((0, 0), bT b t n z k c)
/-- names that are not there hold nothing -/
theorem z_zero {p : Program} {l : Launch} {e : Env} {R : Room} {s : State} {m : MethodId} {args : Array Value} {below : List Frame} {meth : Method} {c : Code} {kc ks : Nat} {Q : State → Prop} {D : va_G} {cl : List vw_C} {K : zK} {dA : Nat → ClassId} {A : Nat → Prop} {O : (Nat → Nat) × zS} {nL : Nat} {S : zS} {pc : Nat} {L : List (Nat × Value)} {st : List Value}
    (k : (∀ n, S.1 n = false → ∀ k, S.2.1 n k = 0 ∧ S.2.2.1 n k = none ∧ S.2.2.2 n k = 0) → AW p l e R s m args below meth c D cl K dA A O nL S kc ks Q pc L st) : AW p l e R s m args below meth c D cl K dA A O nL S kc ks Q pc L st := fun ad H locs ls hH hS hl ho => k hH.2.2.1 ad H locs ls hH hS hl ho
theorem zKey {k : Int32} (h1 : ¬ k < -1) (h2 : ¬ nI 7 < k) : k = -1 ∨ ∃ j, j < 8 ∧ k = nI j := by
  by_cases h : k < 0
  · refine Or.inl ?_
    rw [Int32.lt_iff_toInt_lt] at h h1
    rw [← Int32.toInt_inj]
    have e0 : (0 : Int32).toInt = 0 := by decide
    have e1 : (-1 : Int32).toInt = -1 := by decide
    rw [e0] at h
    rw [e1] at h1 ⊢
    omega
  · obtain ⟨j, hj, rfl⟩ := nI_of h
    refine Or.inr ⟨j, ?_, rfl⟩
    rcases Nat.lt_or_ge j 8 with h9 | h9
    · exact h9
    · exact absurd ((nI_ltI (by omega) hj).mpr (show 7 < j by omega)) h2
theorem zEW_pe {u : zSn} {k v : Int32} (h1 : ∃ q, q < 4 ∧ u.1 = nI q) (h2 : k = -1 ∨ ∃ j, j < 8 ∧ k = nI j) : zEW (zPe u k v) := by
  refine ⟨⟨0, by omega, rfl⟩, h2, h1, ?_, fun _ => rfl⟩
  show ∃ k, k < 3 ∧ (if u.2.1 = nI 0 then nI 0 else nI 2) = nI k
  by_cases h : u.2.1 = nI 0
  · rw [if_pos h]; exact ⟨0, by omega, rfl⟩
  · rw [if_neg h]; exact ⟨2, by omega, rfl⟩
end
section
/-! CONTRACTS of LogBroker: ending, opening (rows by program) -/
theorem mB_decide (l : Launch) (D : va_G) (dA : Nat → ClassId) {S : zS} {b : zBr} {i : Nat} (c : Bool) (hB : zBrA S b) (hW : zBrW b) (hE : zBrE b) (hi : i < 6) (hq : ∃ k, k < 4 ∧ (b.2.2.1 i).1 = nI k) (hrm : ∀ t, zEx b t → zU b (b.2.2.1 i).1 t = true → (b.2.1 t).2.1.2 < 60) : zMet l D vwCl zKK dA (zG0 D dA) yB_decide (Cond.code yB_decide cB_decide 6 (some .int) :: zTs) { frames := 3, cells := 12, slots := 60, locals := 67 } 12 60 [.ref 1, .ref (10 + i), .int (zB c)] S (fun v S' => v = some (.int (nI (zcnt (zU b (b.2.2.1 i).1) 12 0))) ∧ zBrA S' (sDec b i c) ∧ zfr zOwnB S S') (fun _ _ => False) := by
  cases c with
  | true => exact mB_decideT l D dA hB hW hi hq hrm (fun t h1 h2 => hE.u t h1 h2) (fun t h1 h2 o => hE.n t h1 h2 o)
  | false => exact mB_decideF l D dA hB hW hi hq hrm (fun t h1 h2 => hE.u t h1 h2) (fun t h1 h2 o => hE.n t h1 h2 o)
set_option maxHeartbeats 600000 in
set_option maxRecDepth 100000 in
theorem mB_end (l : Launch) (D : va_G) (dA : Nat → ClassId) {S : zS} {b : zBr} {x : Int32} {c0 : Bool} (hl0 : l.stackTraces = false) (hB : zBrA S b) (hW : zBrW b) (hE : zBrE b) : zMet l D vwCl zKK dA (zG0 D dA) yB_end (Cond.code yB_end cB_end 4 (some .int) :: zTs) { frames := 7, cells := 20, slots := 120, locals := 104 } 20 120 [.ref 1, .int x, .int (zB c0)] S (fun v S' => ∃ r b', v = some (.int r) ∧ sEnd b x c0 = ((0, r), b') ∧ zBrA S' b' ∧ zfr zOwnB S S') (fun E S' => S' = S ∧ ((E = "java/lang/IllegalArgumentException" ∧ sEnd b x c0 = ((1, 0), b)) ∨ (E = "java/util/NoSuchElementException" ∧ sEnd b x c0 = ((2, 0), b)) ∨ (E = "java/lang/IllegalStateException" ∧ sEnd b x c0 = ((3, 0), b)) ∨ (E = "java/lang/UnsupportedOperationException" ∧ sEnd b x c0 = ((4, 0), b)))) := by
  refine z_met (tys := ztys dA) (by decide) rfl zG0_K rfl (Nat.le_of_ble_eq_true rfl) (fun p e s m args below meth c A ad X hr hlocks hin hex => ?_)
  obtain ⟨hT, hLg, hSs, hGs, hnx, hnf⟩ := id hB
  obtain ⟨v1, v2, v3, v4, v5, v6, v7⟩ := id hW
  obtain ⟨hn, t0, t1, t2, t3, t4, t5, q6, q7, q8, q9, q10, hpt, hlg, hse, hcu, hop, hgr⟩ := id hT
  refine z_iload_n (j := 1) X dB_end_0 rfl rfl ?_
  refine z_iconst (v := (nI 0)) X dB_end_1 (by decide) ?_
  refine z_iconst (v := (nI 5)) X dB_end_2 (by decide) ?_
  refine z_callS (n := 3) (As := [.int x, .int (nI 0), .int (nI 5)]) (rest := []) X zG0_m (mB_mustBeWithin l D dA hl0) (w_S X.2.2.2.2.1 lB_45 tB_mustBeWithin i_LogBroker kB_mustBeWithin rfl rfl (by decide +kernel) ⟨Nat.le_of_ble_eq_true rfl, Nat.le_of_ble_eq_true rfl⟩) rfl rfl (Nat.le_of_ble_eq_true rfl) dB_end_3 ⟨Nat.le_of_ble_eq_true rfl, Nat.le_of_ble_eq_true rfl⟩ (fun v S9 hp => ?_) (fun E S1 hx => ?_)
  · obtain ⟨hv, hS9, hr1, hr2⟩ := hp
    subst hv
    have hS9 := hS9.symm
    subst hS9
    obtain ⟨i, hx9, hi⟩ := zRg (n := 5) (by omega) hr1 hr2
    subst hx9
    refine z_aload_n (j := 0) X dB_end_6 rfl rfl ?_
    refine z_iload_n (j := 1) X dB_end_7 rfl rfl ?_
    refine z_callV (n := 1) (As := [.int (nI i)]) (rest := []) X zG0_m (mB_openedSession l D dA hl0 hT (by omega) (hSs i (by omega))) (w_V X.2.2.2.2.1 lB_89 jB_openedSession sB_openedSession i_LogBroker kB_openedSession rfl rfl (by decide +kernel) ⟨Nat.le_of_ble_eq_true rfl, Nat.le_of_ble_eq_true rfl⟩) rfl rfl rfl rfl rfl (Nat.le_of_ble_eq_true rfl) dB_end_8 ⟨Nat.le_of_ble_eq_true rfl, Nat.le_of_ble_eq_true rfl⟩ (fun v S9 hp => ?_) (fun E S1 hx => ?_)
    · obtain ⟨hS9, hv, hpr1⟩ := hp
      subst hv
      have hS9 := hS9.symm
      subst hS9
      have hpr2 := (v4 i (by omega)).1.resolve_left hpr1
      refine z_astore_n (L' := [(3, .ref (10 + i)), (0, .ref 1), (1, .int (nI i)), (2, .int (zB c0))]) X dB_end_11 rfl (by decide) rfl ?_
      refine z_aload_n (j := 0) X dB_end_12 rfl rfl ?_
      refine z_geti (C := RS) (T := TS) (N := 4) (k := 1) X (w_in inS) rfl rfl (kd_S (by omega)) (by decide) (w_m lB_59) rfl rfl dB_end_13 (hv := (hSs i (by omega)).2.2.2.2.1) ?_
      refine z_if_ne (tgt := 29) X dB_end_16 (by decide) (fun c_16 => ?_) (fun c_16 => ?_)
      · refine z_aload_n (j := 1) X dB_end_29 rfl rfl ?_
        refine z_aload_n (j := 0) X dB_end_30 rfl rfl ?_
        refine z_geti (C := RS) (T := TS) (N := 4) (k := 0) X (w_in inS) rfl rfl (kd_S (by omega)) (by decide) (w_m lB_63) rfl rfl dB_end_31 (hv := (hSs i (by omega)).2.2.2.1) ?_
        refine z_callV (n := 1) (As := [.int ((b.2.2.1 i).1)]) (rest := []) X zG0_m (mB_mustHaveRoomForMarkers l D dA hl0 hB hW) (w_V X.2.2.2.2.1 lB_138 jB_mustHaveRoomForMarkers sB_mustHaveRoomForMarkers i_LogBroker kB_mustHaveRoomForMarkers rfl rfl (by decide +kernel) ⟨Nat.le_of_ble_eq_true rfl, Nat.le_of_ble_eq_true rfl⟩) rfl rfl rfl rfl rfl (Nat.le_of_ble_eq_true rfl) dB_end_34 ⟨Nat.le_of_ble_eq_true rfl, Nat.le_of_ble_eq_true rfl⟩ (fun v S9 hp => ?_) (fun E S1 hx => ?_)
        · obtain ⟨hS9, hv, hrm⟩ := hp
          subst hv
          have hS9 := hS9.symm
          subst hS9
          refine z_aload_n (j := 1) X dB_end_37 rfl rfl ?_
          refine z_aload_n (j := 0) X dB_end_38 rfl rfl ?_
          refine z_iload_n (j := 3) X dB_end_39 rfl rfl ?_
          refine z_callV (n := 2) (As := [.ref (10 + i), .int (zB c0)]) (rest := []) X zG0_m (mB_decide l D dA c0 hB hW hE (by omega) hpr2 hrm) (w_V X.2.2.2.2.1 lB_141 jB_decide sB_decide i_LogBroker kB_decide rfl rfl (by decide +kernel) ⟨Nat.le_of_ble_eq_true rfl, Nat.le_of_ble_eq_true rfl⟩) rfl rfl rfl rfl rfl (Nat.le_of_ble_eq_true rfl) dB_end_40 ⟨Nat.le_of_ble_eq_true rfl, Nat.le_of_ble_eq_true rfl⟩ (fun v S2 hp => ?_) (fun E S1 hx => hx.elim)
          obtain ⟨hv, hB2, hfr2⟩ := hp
          subst hv
          refine z_iret X hlocks hr dB_end_43 (by omega) (by omega) ?_
          exact ⟨_, _, rfl, by unfold sEnd; rw [zA_s hi (by decide), if_neg hpr1, if_neg (show ¬ (b.2.2.1 i).2.1 = nI 0 from c_16), if_neg (fun h => h (zRoom_y hE hrm))], hB2, hfr2⟩
        · obtain ⟨hX, hS9, hrm⟩ := hx
          subst hX
          have hS9 := hS9.symm
          subst hS9
          exact z_out (fun x hx9 => (hex x hx9).elim) hlocks ⟨rfl, Or.inr (Or.inr (Or.inr (⟨rfl, by unfold sEnd; rw [zA_s hi (by decide), if_neg hpr1, if_neg (show ¬ (b.2.2.1 i).2.1 = nI 0 from c_16), if_pos (zRoom_n hrm)]⟩)))⟩ (by omega) (by omega)
      · exact z_thISE (text := "no transaction is open") X hl0 (by decide +kernel) dB_end_19 dB_end_22 dB_end_23 dB_end_25 dB_end_28 hex (Nat.le_of_ble_eq_true rfl) (Nat.le_of_ble_eq_true rfl) (Nat.le_of_ble_eq_true rfl) (Nat.le_of_ble_eq_true rfl) hlocks (by omega) (by omega) ⟨rfl, Or.inr (Or.inr (Or.inl ⟨rfl, by unfold sEnd; rw [zA_s hi (by decide), if_neg hpr1, if_pos (show (b.2.2.1 i).2.1 = nI 0 from c_16)]⟩))⟩
    · obtain ⟨hE, hS9, hpr1⟩ := hx
      subst hE
      have hS9 := hS9.symm
      subst hS9
      exact z_out (fun x hx9 => (hex x hx9).elim) hlocks ⟨rfl, Or.inr (Or.inl ⟨rfl, by unfold sEnd; rw [zA_s hi (by decide), if_pos hpr1]⟩)⟩ (by omega) (by omega)
  · obtain ⟨hE, hS9, hn9⟩ := hx
    subst hE
    have hS9 := hS9.symm
    subst hS9
    exact z_out (fun x hx9 => (hex x hx9).elim) hlocks ⟨rfl, Or.inl ⟨rfl, by unfold sEnd; rw [zA_n hn9]⟩⟩ (by omega) (by omega)

set_option maxHeartbeats 600000 in
set_option maxRecDepth 100000 in
theorem mB_abortOpenTransactionOf (l : Launch) (D : va_G) (dA : Nat → ClassId) {S : zS} {b : zBr} {p9 : Nat} (hl0 : l.stackTraces = false) (hB : zBrA S b) (hW : zBrW b) (hE : zBrE b) (hC : zBrC b) (hp4 : p9 < 4) : zMet l D vwCl zKK dA (zG0 D dA) yB_abortOpenTransactionOf (Cond.code yB_abortOpenTransactionOf cB_abortOpenTransactionOf 3 none :: zTs) { frames := 7, cells := 16, slots := 90, locals := 104 } 16 90 [.ref 1, .int (nI p9)] S (fun v S' => ∃ b1, v = none ∧ sAb b p9 = some b1 ∧ zBrA S' b1 ∧ zBrW b1 ∧ zfr zOwnB S S') (fun E S' => E = "java/lang/UnsupportedOperationException" ∧ S' = S ∧ sAb b p9 = none) := by
  refine z_met (tys := ztys dA) (by decide) rfl zG0_K rfl (Nat.le_of_ble_eq_true rfl) (fun p e s m args below meth c A ad X hr hlocks hin hex => ?_)
  obtain ⟨hT, hLg, hSs, hGs, hnx, hnf⟩ := id hB
  obtain ⟨v1, v2, v3, v4, v5, v6, v7⟩ := id hW
  obtain ⟨hn, t0, t1, t2, t3, t4, t5, q6, q7, q8, q9, q10, hpt, hlg, hse, hcu, hop, hgr⟩ := id hT
  refine z_aload_n (j := 0) X dB_abortOpenTransactionOf_0 rfl rfl ?_
  refine z_getr (C := RB) (T := TB) (N := 11) (k := 3) X (w_in inB) rfl rfl rfl (by decide) (w_m lB_25) rfl rfl t3 dB_abortOpenTransactionOf_1 ?_
  refine z_iload_n (j := 1) X dB_abortOpenTransactionOf_4 rfl rfl ?_
  refine z_iald (t0 := 0) X rfl rfl hp4 (by decide) dB_abortOpenTransactionOf_5 (hv := (hcu p9 hp4)) ?_
  refine z_istore_n (L' := [(2, .int (b.2.2.2.1 p9)), (0, .ref 1), (1, .int (nI p9))]) X dB_abortOpenTransactionOf_6 rfl (by decide) rfl ?_
  refine z_iload_n (j := 0) X dB_abortOpenTransactionOf_7 rfl rfl ?_
  refine z_iconst (v := (-1)) X dB_abortOpenTransactionOf_8 (by decide) ?_
  refine z_icmp_eq (tgt := 41) X dB_abortOpenTransactionOf_9 (by decide) (fun c_9 => ?_) (fun c_9 => ?_)
  · refine z_vret X hlocks hr dB_abortOpenTransactionOf_41 (by omega) (by omega) ?_
    exact ⟨b, rfl, by unfold sAb; rw [if_neg (fun h => by first | exact h.1 c_9 | (have h9 := h.2; rw [hj, nI_clamp (by omega)] at h9; exact h9 c_21))], hB, hW, zfr.rf⟩
  · obtain ⟨j, hj6, hj⟩ := (v6 p9 hp4).resolve_left c_9
    rw [hj]
    refine z_aload_n (j := 1) X dB_abortOpenTransactionOf_12 rfl rfl ?_
    refine z_getr (C := RB) (T := TB) (N := 11) (k := 2) X (w_in inB) rfl rfl rfl (by decide) (w_m lB_21) rfl rfl t2 dB_abortOpenTransactionOf_13 ?_
    refine z_iload_n (j := 0) X dB_abortOpenTransactionOf_16 rfl rfl ?_
    refine z_aald (t0 := 4) X rfl (by decide) (by decide) (by decide) rfl hj6 (by decide) (hse j hj6) dB_abortOpenTransactionOf_17 ?_
    refine z_geti (C := RS) (T := TS) (N := 4) (k := 1) X (w_in inS) rfl rfl (kd_S hj6) (by decide) (w_m lB_59) rfl rfl dB_abortOpenTransactionOf_18 (hv := (hSs j hj6).2.2.2.2.1) ?_
    refine z_if_eq (tgt := 41) X dB_abortOpenTransactionOf_21 (by decide) (fun c_21 => ?_) (fun c_21 => ?_)
    · refine z_vret X hlocks hr dB_abortOpenTransactionOf_41 (by omega) (by omega) ?_
      exact ⟨b, rfl, by unfold sAb; rw [if_neg (fun h => by first | exact h.1 c_9 | (have h9 := h.2; rw [hj, nI_clamp (by omega)] at h9; exact h9 c_21))], hB, hW, zfr.rf⟩
    · refine z_aload_n (j := 1) X dB_abortOpenTransactionOf_24 rfl rfl ?_
      refine z_iload_n (j := 2) X dB_abortOpenTransactionOf_25 rfl rfl ?_
      refine z_callV (n := 1) (As := [.int (nI p9)]) (rest := []) X zG0_m (mB_mustHaveRoomForMarkers l D dA hl0 hB hW) (w_V X.2.2.2.2.1 lB_138 jB_mustHaveRoomForMarkers sB_mustHaveRoomForMarkers i_LogBroker kB_mustHaveRoomForMarkers rfl rfl (by decide +kernel) ⟨Nat.le_of_ble_eq_true rfl, Nat.le_of_ble_eq_true rfl⟩) rfl rfl rfl rfl rfl (Nat.le_of_ble_eq_true rfl) dB_abortOpenTransactionOf_26 ⟨Nat.le_of_ble_eq_true rfl, Nat.le_of_ble_eq_true rfl⟩ (fun v S9 hp => ?_) (fun E S1 hx => ?_)
      · obtain ⟨hS9, hv, hrm⟩ := hp
        subst hv
        have hS9 := hS9.symm
        subst hS9
        refine z_aload_n (j := 1) X dB_abortOpenTransactionOf_29 rfl rfl ?_
        refine z_aload_n (j := 1) X dB_abortOpenTransactionOf_30 rfl rfl ?_
        refine z_getr (C := RB) (T := TB) (N := 11) (k := 2) X (w_in inB) rfl rfl rfl (by decide) (w_m lB_21) rfl rfl t2 dB_abortOpenTransactionOf_31 ?_
        refine z_iload_n (j := 0) X dB_abortOpenTransactionOf_34 rfl rfl ?_
        refine z_aald (t0 := 4) X rfl (by decide) (by decide) (by decide) rfl hj6 (by decide) (hse j hj6) dB_abortOpenTransactionOf_35 ?_
        refine z_iconst (v := (nI 0)) X dB_abortOpenTransactionOf_36 (by decide) ?_
        have hq : (b.2.2.1 j).1 = nI p9 := hC p9 j hp4 hj6 hj
        have hrm2 : ∀ t, zEx b t → zU b (b.2.2.1 j).1 t = true → (b.2.1 t).2.1.2 < 60 := by rw [hq]; exact hrm
        refine z_callV (n := 2) (As := [.ref (10 + j), .int (nI 0)]) (rest := []) X zG0_m (mB_decide l D dA false hB hW hE hj6 ⟨p9, hp4, hq⟩ hrm2) (w_V X.2.2.2.2.1 lB_141 jB_decide sB_decide i_LogBroker kB_decide rfl rfl (by decide +kernel) ⟨Nat.le_of_ble_eq_true rfl, Nat.le_of_ble_eq_true rfl⟩) rfl rfl rfl rfl rfl (Nat.le_of_ble_eq_true rfl) dB_abortOpenTransactionOf_37 ⟨Nat.le_of_ble_eq_true rfl, Nat.le_of_ble_eq_true rfl⟩ (fun v S2 hp => ?_) (fun E S1 hx => hx.elim)
        obtain ⟨hv, hB2, hfr2⟩ := hp
        subst hv
        have hW2 := zBrW_dec (c := false) hW hE hj6 ⟨p9, hp4, hq⟩ hrm2
        refine z_pop X dB_abortOpenTransactionOf_40 rfl ?_
        refine z_vret X hlocks hr dB_abortOpenTransactionOf_41 (by omega) (by omega) ?_
        exact ⟨_, rfl, by unfold sAb; rw [if_pos ⟨c_9, by rw [hj, nI_clamp (by omega)]; exact c_21⟩, if_pos (zRoom_y hE hrm), hj, nI_clamp (by omega)], hB2, hW2, hfr2⟩
      · obtain ⟨hX, hS9, hrm⟩ := hx
        subst hX
        have hS9 := hS9.symm
        subst hS9
        exact z_out (fun x hx9 => (hex x hx9).elim) hlocks ⟨rfl, rfl, by unfold sAb; rw [if_pos ⟨c_9, by rw [hj, nI_clamp (by omega)]; exact c_21⟩, if_neg (zRoom_n hrm)]⟩ (by omega) (by omega)

set_option maxHeartbeats 600000 in
set_option maxRecDepth 100000 in
theorem mB_open (l : Launch) (D : va_G) (dA : Nat → ClassId) {S : zS} {b : zBr} {x y : Int32} (hl0 : l.stackTraces = false) (hB : zBrA S b) (hW : zBrW b) (hE : zBrE b) (hC : zBrC b) : zMet l D vwCl zKK dA (zG0 D dA) yB_open (Cond.code yB_open cB_open 4 (some .int) :: zTs) { frames := 8, cells := 22, slots := 130, locals := 126 } 22 130 [.ref 1, .int x, .int y] S (fun v S' => ∃ r b', v = some (.int r) ∧ sOpen b x y = ((0, r), b') ∧ zBrA S' b' ∧ zfr zOwnB S S') (fun E S' => S' = S ∧ ((E = "java/lang/IllegalArgumentException" ∧ sOpen b x y = ((1, 0), b)) ∨ (E = "java/lang/IllegalStateException" ∧ sOpen b x y = ((2, 0), b)) ∨ (E = "java/lang/UnsupportedOperationException" ∧ sOpen b x y = ((3, 0), b)))) := by
  refine z_met (tys := ztys dA) (by decide) rfl zG0_K rfl (Nat.le_of_ble_eq_true rfl) (fun p e s m args below meth c A ad X hr hlocks hin hex => ?_)
  obtain ⟨hT, hLg, hSs, hGs, hnx, hnf⟩ := id hB
  obtain ⟨v1, v2, v3, v4, v5, v6, v7⟩ := id hW
  obtain ⟨hn, t0, t1, t2, t3, t4, t5, q6, q7, q8, q9, q10, hpt, hlg, hse, hcu, hop, hgr⟩ := id hT
  refine z_iload_n (j := 1) X dB_open_0 rfl rfl ?_
  refine z_iconst (v := (nI 0)) X dB_open_1 (by decide) ?_
  refine z_iconst (v := (nI 5)) X dB_open_2 (by decide) ?_
  refine z_callS (n := 3) (As := [.int x, .int (nI 0), .int (nI 5)]) (rest := []) X zG0_m (mB_mustBeWithin l D dA hl0) (w_S X.2.2.2.2.1 lB_45 tB_mustBeWithin i_LogBroker kB_mustBeWithin rfl rfl (by decide +kernel) ⟨Nat.le_of_ble_eq_true rfl, Nat.le_of_ble_eq_true rfl⟩) rfl rfl (Nat.le_of_ble_eq_true rfl) dB_open_3 ⟨Nat.le_of_ble_eq_true rfl, Nat.le_of_ble_eq_true rfl⟩ (fun v S9 hp => ?_) (fun E S1 hx => ?_)
  · obtain ⟨hv, hS9, hr1, hr2⟩ := hp
    subst hv
    have hS9 := hS9.symm
    subst hS9
    obtain ⟨i, hx9, hi⟩ := zRg (n := 5) (by omega) hr1 hr2
    subst hx9
    refine z_iload_n (j := 2) X dB_open_6 rfl rfl ?_
    refine z_iconst (v := (nI 0)) X dB_open_7 (by decide) ?_
    refine z_iconst (v := (nI 3)) X dB_open_8 (by decide) ?_
    refine z_callS (n := 3) (As := [.int y, .int (nI 0), .int (nI 3)]) (rest := []) X zG0_m (mB_mustBeWithin l D dA hl0) (w_S X.2.2.2.2.1 lB_45 tB_mustBeWithin i_LogBroker kB_mustBeWithin rfl rfl (by decide +kernel) ⟨Nat.le_of_ble_eq_true rfl, Nat.le_of_ble_eq_true rfl⟩) rfl rfl (Nat.le_of_ble_eq_true rfl) dB_open_9 ⟨Nat.le_of_ble_eq_true rfl, Nat.le_of_ble_eq_true rfl⟩ (fun v S9 hp => ?_) (fun E S1 hx => ?_)
    · obtain ⟨hv, hS9, hr1, hr2⟩ := hp
      subst hv
      have hS9 := hS9.symm
      subst hS9
      obtain ⟨p9, hx9, hp9⟩ := zRg (n := 3) (by omega) hr1 hr2
      subst hx9
      refine z_aload_n (j := 0) X dB_open_12 rfl rfl ?_
      refine z_getr (C := RB) (T := TB) (N := 11) (k := 2) X (w_in inB) rfl rfl rfl (by decide) (w_m lB_21) rfl rfl t2 dB_open_13 ?_
      refine z_iload_n (j := 1) X dB_open_16 rfl rfl ?_
      refine z_aald (t0 := 4) X rfl (by decide) (by decide) (by decide) rfl (by omega) (by decide) (hse i (by omega)) dB_open_17 ?_
      refine z_astore_n (L' := [(3, .ref (10 + i)), (0, .ref 1), (1, .int (nI i)), (2, .int (nI p9))]) X dB_open_18 rfl (by decide) rfl ?_
      refine z_aload_n (j := 0) X dB_open_19 rfl rfl ?_
      refine z_geti (C := RS) (T := TS) (N := 4) (k := 1) X (w_in inS) rfl rfl (kd_S (by omega)) (by decide) (w_m lB_59) rfl rfl dB_open_20 (hv := (hSs i (by omega)).2.2.2.2.1) ?_
      refine z_if_eq (tgt := 44) X dB_open_23 (by decide) (fun c_23 => ?_) (fun c_23 => ?_)
      · refine z_aload_n (j := 1) X dB_open_44 rfl rfl ?_
        refine z_iload_n (j := 3) X dB_open_45 rfl rfl ?_
        have hno : ¬ (¬ (b.2.2.1 i).2.1 = nI 0 ∧ ¬ (b.2.2.1 i).1 = nI p9) := fun h => by first | exact h.1 c_23 | exact h.2 c_31
        refine z_callV (n := 1) (As := [.int (nI p9)]) (rest := []) X zG0_m (mB_abortOpenTransactionOf l D dA hl0 hB hW hE hC (by omega)) (w_V X.2.2.2.2.1 lB_69 jB_abortOpenTransactionOf sB_abortOpenTransactionOf i_LogBroker kB_abortOpenTransactionOf rfl rfl (by decide +kernel) ⟨Nat.le_of_ble_eq_true rfl, Nat.le_of_ble_eq_true rfl⟩) rfl rfl rfl rfl rfl (Nat.le_of_ble_eq_true rfl) dB_open_46 ⟨Nat.le_of_ble_eq_true rfl, Nat.le_of_ble_eq_true rfl⟩ (fun v S1 hp => ?_) (fun E S1 hx => ?_)
        · obtain ⟨b1, hv, hab, hB1, hW1, hfr1⟩ := hp
          subst hv
          obtain ⟨hn, t0, t1, t2, t3, t4, t5, q6, q7, q8, q9, q10, hpt, hlg, hse, hcu, hop, hgr⟩ := id hB1.1
          have hSs := hB1.2.2.1
          have v4 := hW1.2.2.2.1
          have hSs1 := hSs i (by omega)
          refine z_aload_n (j := 1) X dB_open_49 rfl rfl ?_
          refine z_iload_n (j := 2) X dB_open_50 rfl rfl ?_
          refine z_callV (n := 1) (As := [.int (nI i)]) (rest := []) X zG0_m (mB_isCurrent l D dA hB1.1 (by omega) hSs1 (v4 i (by omega)).1) (w_V X.2.2.2.2.1 lB_73 jB_isCurrent sB_isCurrent i_LogBroker kB_isCurrent rfl rfl (by decide +kernel) ⟨Nat.le_of_ble_eq_true rfl, Nat.le_of_ble_eq_true rfl⟩) rfl rfl rfl rfl rfl (Nat.le_of_ble_eq_true rfl) dB_open_51 ⟨Nat.le_of_ble_eq_true rfl, Nat.le_of_ble_eq_true rfl⟩ (fun v S9 hp => ?_) (fun E S1 hx => hx.elim)
          obtain ⟨hS9, hp⟩ := hp
          have hS9 := hS9.symm
          subst hS9
          rcases hp with ⟨hv, hc⟩ | ⟨hv, hc⟩ <;> subst hv
          · obtain ⟨q, hq4, hq1, hq2⟩ := hc
            have hck : ¬ (b1.2.2.1 i).1 = -1 ∧ b1.2.2.2.1 (b1.2.2.1 i).1.toNatClampNeg = nI i := ⟨fun h => absurd (show nI q < 0 by rw [← hq1, h]; decide) (nI_pos (by omega)), by rw [hq1, nI_clamp (by omega)]; exact hq2⟩
            refine z_if_eq (tgt := 67) X dB_open_54 (by decide) (fun c_54 => absurd c_54 (by decide)) (fun c_54 => ?_)
            refine z_aload_n (j := 1) X dB_open_57 rfl rfl ?_
            refine z_getr (C := RB) (T := TB) (N := 11) (k := 3) X (w_in inB) rfl rfl rfl (by decide) (w_m lB_25) rfl rfl t3 dB_open_58 ?_
            refine z_aload_n (j := 0) X dB_open_61 rfl rfl ?_
            refine z_geti (C := RS) (T := TS) (N := 4) (k := 0) X (w_in inS) rfl rfl (kd_S (by omega)) (by decide) (w_m lB_63) rfl rfl dB_open_62 (hv := hSs1.2.2.2.1) ?_
            refine z_iconst (v := (-1)) X dB_open_65 (by decide) ?_
            rw [hq1]
            refine z_iast (t0 := 0) X rfl rfl hq4 (by decide) dB_open_66 ?_
            have hBx := zBrA_C (q := q) (v := -1) hB1 hW1
            have hWx := zBrW_C (q := q) (v := -1) hW1 (Or.inl rfl)
            have hfx := hfr1.tr (zfr.ownB (zfr.i (S := S1) (own := fun n => n = 5) (n := 5) (k := q) (x := -1) rfl) (fun n h => by omega))
            refine z_aload_n (j := 0) X dB_open_67 rfl rfl ?_
            refine z_iload_n (j := 3) X dB_open_68 rfl rfl ?_
            have hSx := hBx.2.2.1 i (by omega)
            refine z_callV (n := 1) (As := [.int (nI p9)]) (rest := []) X zG0_m (mS_startFor l D dA (by omega) hSx) (w_V X.2.2.2.2.1 lB_77 jS_startFor sS_startFor i_LogBroker_Session kS_startFor rfl rfl (by decide +kernel) ⟨Nat.le_of_ble_eq_true rfl, Nat.le_of_ble_eq_true rfl⟩) (kd_S (by omega)) rfl rfl rfl rfl (Nat.le_of_ble_eq_true rfl) dB_open_69 ⟨Nat.le_of_ble_eq_true rfl, Nat.le_of_ble_eq_true rfl⟩ (fun v S5 hp => ?_) (fun E S1 hx => hx.elim)
            obtain ⟨hv, hA5, hf5, hd5⟩ := hp
            subst hv
            have hB5 := zBrA_S hBx hWx (by omega) hA5 hf5
            have hW5 := zBrW_S hWx (i := i) (u := (nI p9, (b1.2.2.1 i).2.1, (fun _ => 0), (b1.2.2.1 i).2.2.2)) ⟨Or.inr ⟨p9, by omega, rfl⟩, (v4 i (by omega)).2⟩ (fun t ht => Nat.zero_le _)
            have hfr5 := hfx.tr (hf5.ownB (fun n h => by unfold zOwnS at h; omega))
            obtain ⟨hn, t0, t1, t2, t3, t4, t5, q6, q7, q8, q9, q10, hpt, hlg, hse, hcu, hop, hgr⟩ := id hB5.1
            refine z_aload_n (j := 1) X dB_open_72 rfl rfl ?_
            refine z_getr (C := RB) (T := TB) (N := 11) (k := 3) X (w_in inB) rfl rfl rfl (by decide) (w_m lB_25) rfl rfl t3 dB_open_73 ?_
            refine z_iload_n (j := 3) X dB_open_76 rfl rfl ?_
            refine z_iload_n (j := 2) X dB_open_77 rfl rfl ?_
            refine z_iast (t0 := 0) X rfl rfl (by omega) (by decide) dB_open_78 ?_
            have hB6 := zBrA_C (q := p9) (v := nI i) hB5 hW5
            have hW6 := zBrW_C (q := p9) (v := nI i) hW5 (Or.inr ⟨i, by omega, rfl⟩)
            refine z_aload_n (j := 1) X dB_open_79 rfl rfl ?_
            refine z_getr (C := RB) (T := TB) (N := 11) (k := 4) X (w_in inB) rfl rfl rfl (by decide) (w_m lB_28) rfl rfl (rp_i t4) dB_open_80 ?_
            refine z_iload_n (j := 3) X dB_open_83 rfl rfl ?_
            refine z_dup2 X dB_open_84 rfl rfl ?_
            refine z_iald (t0 := 0) X rfl rfl (by omega) (by decide) dB_open_85 (hv := (rd_i (Or.inl (by omega)) (hop p9 (by omega)))) ?_
            refine z_iconst (v := (nI 1)) X dB_open_86 (by decide) ?_
            refine z_iadd X dB_open_87 ?_
            refine z_iast (t0 := 0) X rfl rfl (by omega) (by decide) dB_open_88 ?_
            have hBo := zBrA_O (q := p9) (v := b1.2.2.2.2.1 p9 + nI 1) hB6 hW6
            have hfo := (hfr5.tr (zfr.ownB (zfr.i (S := S5) (own := fun n => n = 5) (n := 5) (k := p9) (x := nI i) rfl) (fun n h => by omega))).tr (zfr.ownB (zfr.i (own := fun n => n = 6) (n := 6) (k := p9) (x := b1.2.2.2.2.1 p9 + nI 1) rfl) (fun n h => by omega))
            refine z_aload_n (j := 1) X dB_open_89 rfl rfl ?_
            refine z_getr (C := RB) (T := TB) (N := 11) (k := 4) X (w_in inB) rfl rfl rfl (by decide) (w_m lB_28) rfl rfl (rp_i (rp_i t4)) dB_open_90 ?_
            refine z_iload_n (j := 3) X dB_open_93 rfl rfl ?_
            refine z_iald (t0 := 0) X rfl rfl (by omega) (by decide) dB_open_94 (hv := rd_s) ?_
            refine z_iret X hlocks hr dB_open_95 (by omega) (by omega) ?_
            refine ⟨_, _, rfl, by unfold sOpen; rw [zA_s hi (by decide), zA_s hp9 (by decide), if_neg hno, hab]; show ((0, _), sOp2 b1 i p9) = _; unfold sOp2; rw [if_pos hck, show (b1.2.2.1 i).1.toNatClampNeg = q by rw [hq1, nI_clamp (by omega)]]; rfl, hBo, hfo⟩
          · have hck : ¬ (¬ (b1.2.2.1 i).1 = -1 ∧ b1.2.2.2.1 (b1.2.2.1 i).1.toNatClampNeg = nI i) := fun h => by
              obtain ⟨q, hq4, hq1⟩ := (v4 i (by omega)).1.resolve_left h.1
              have h2 := h.2
              rw [hq1, nI_clamp (by omega)] at h2
              exact hc ⟨q, hq4, hq1, h2⟩
            have hBx := hB1
            have hWx := hW1
            have hfx := hfr1
            refine z_if_eq (tgt := 67) X dB_open_54 (by decide) (fun c_54 => ?_) (fun c_54 => absurd c_54 (by decide))
            refine z_aload_n (j := 0) X dB_open_67 rfl rfl ?_
            refine z_iload_n (j := 3) X dB_open_68 rfl rfl ?_
            have hSx := hBx.2.2.1 i (by omega)
            refine z_callV (n := 1) (As := [.int (nI p9)]) (rest := []) X zG0_m (mS_startFor l D dA (by omega) hSx) (w_V X.2.2.2.2.1 lB_77 jS_startFor sS_startFor i_LogBroker_Session kS_startFor rfl rfl (by decide +kernel) ⟨Nat.le_of_ble_eq_true rfl, Nat.le_of_ble_eq_true rfl⟩) (kd_S (by omega)) rfl rfl rfl rfl (Nat.le_of_ble_eq_true rfl) dB_open_69 ⟨Nat.le_of_ble_eq_true rfl, Nat.le_of_ble_eq_true rfl⟩ (fun v S5 hp => ?_) (fun E S1 hx => hx.elim)
            obtain ⟨hv, hA5, hf5, hd5⟩ := hp
            subst hv
            have hB5 := zBrA_S hBx hWx (by omega) hA5 hf5
            have hW5 := zBrW_S hWx (i := i) (u := (nI p9, (b1.2.2.1 i).2.1, (fun _ => 0), (b1.2.2.1 i).2.2.2)) ⟨Or.inr ⟨p9, by omega, rfl⟩, (v4 i (by omega)).2⟩ (fun t ht => Nat.zero_le _)
            have hfr5 := hfx.tr (hf5.ownB (fun n h => by unfold zOwnS at h; omega))
            obtain ⟨hn, t0, t1, t2, t3, t4, t5, q6, q7, q8, q9, q10, hpt, hlg, hse, hcu, hop, hgr⟩ := id hB5.1
            refine z_aload_n (j := 1) X dB_open_72 rfl rfl ?_
            refine z_getr (C := RB) (T := TB) (N := 11) (k := 3) X (w_in inB) rfl rfl rfl (by decide) (w_m lB_25) rfl rfl t3 dB_open_73 ?_
            refine z_iload_n (j := 3) X dB_open_76 rfl rfl ?_
            refine z_iload_n (j := 2) X dB_open_77 rfl rfl ?_
            refine z_iast (t0 := 0) X rfl rfl (by omega) (by decide) dB_open_78 ?_
            have hB6 := zBrA_C (q := p9) (v := nI i) hB5 hW5
            have hW6 := zBrW_C (q := p9) (v := nI i) hW5 (Or.inr ⟨i, by omega, rfl⟩)
            refine z_aload_n (j := 1) X dB_open_79 rfl rfl ?_
            refine z_getr (C := RB) (T := TB) (N := 11) (k := 4) X (w_in inB) rfl rfl rfl (by decide) (w_m lB_28) rfl rfl (rp_i t4) dB_open_80 ?_
            refine z_iload_n (j := 3) X dB_open_83 rfl rfl ?_
            refine z_dup2 X dB_open_84 rfl rfl ?_
            refine z_iald (t0 := 0) X rfl rfl (by omega) (by decide) dB_open_85 (hv := (rd_i (Or.inl (by omega)) (hop p9 (by omega)))) ?_
            refine z_iconst (v := (nI 1)) X dB_open_86 (by decide) ?_
            refine z_iadd X dB_open_87 ?_
            refine z_iast (t0 := 0) X rfl rfl (by omega) (by decide) dB_open_88 ?_
            have hBo := zBrA_O (q := p9) (v := b1.2.2.2.2.1 p9 + nI 1) hB6 hW6
            have hfo := (hfr5.tr (zfr.ownB (zfr.i (S := S5) (own := fun n => n = 5) (n := 5) (k := p9) (x := nI i) rfl) (fun n h => by omega))).tr (zfr.ownB (zfr.i (own := fun n => n = 6) (n := 6) (k := p9) (x := b1.2.2.2.2.1 p9 + nI 1) rfl) (fun n h => by omega))
            refine z_aload_n (j := 1) X dB_open_89 rfl rfl ?_
            refine z_getr (C := RB) (T := TB) (N := 11) (k := 4) X (w_in inB) rfl rfl rfl (by decide) (w_m lB_28) rfl rfl (rp_i (rp_i t4)) dB_open_90 ?_
            refine z_iload_n (j := 3) X dB_open_93 rfl rfl ?_
            refine z_iald (t0 := 0) X rfl rfl (by omega) (by decide) dB_open_94 (hv := rd_s) ?_
            refine z_iret X hlocks hr dB_open_95 (by omega) (by omega) ?_
            refine ⟨_, _, rfl, by unfold sOpen; rw [zA_s hi (by decide), zA_s hp9 (by decide), if_neg hno, hab]; show ((0, _), sOp2 b1 i p9) = _; unfold sOp2; rw [if_neg hck]; rfl, hBo, hfo⟩
        · obtain ⟨hX, hS9, hab⟩ := hx
          subst hX
          have hS9 := hS9.symm
          subst hS9
          exact z_out (fun x hx9 => (hex x hx9).elim) hlocks ⟨rfl, Or.inr (Or.inr (⟨rfl, by unfold sOpen; rw [zA_s hi (by decide), zA_s hp9 (by decide), if_neg hno, hab]; rfl⟩))⟩ (by omega) (by omega)
      · refine z_aload_n (j := 0) X dB_open_26 rfl rfl ?_
        refine z_geti (C := RS) (T := TS) (N := 4) (k := 0) X (w_in inS) rfl rfl (kd_S (by omega)) (by decide) (w_m lB_63) rfl rfl dB_open_27 (hv := (hSs i (by omega)).2.2.2.1) ?_
        refine z_iload_n (j := 3) X dB_open_30 rfl rfl ?_
        refine z_icmp_eq (tgt := 44) X dB_open_31 (by decide) (fun c_31 => ?_) (fun c_31 => ?_)
        · refine z_aload_n (j := 1) X dB_open_44 rfl rfl ?_
          refine z_iload_n (j := 3) X dB_open_45 rfl rfl ?_
          have hno : ¬ (¬ (b.2.2.1 i).2.1 = nI 0 ∧ ¬ (b.2.2.1 i).1 = nI p9) := fun h => by first | exact h.1 c_23 | exact h.2 c_31
          refine z_callV (n := 1) (As := [.int (nI p9)]) (rest := []) X zG0_m (mB_abortOpenTransactionOf l D dA hl0 hB hW hE hC (by omega)) (w_V X.2.2.2.2.1 lB_69 jB_abortOpenTransactionOf sB_abortOpenTransactionOf i_LogBroker kB_abortOpenTransactionOf rfl rfl (by decide +kernel) ⟨Nat.le_of_ble_eq_true rfl, Nat.le_of_ble_eq_true rfl⟩) rfl rfl rfl rfl rfl (Nat.le_of_ble_eq_true rfl) dB_open_46 ⟨Nat.le_of_ble_eq_true rfl, Nat.le_of_ble_eq_true rfl⟩ (fun v S1 hp => ?_) (fun E S1 hx => ?_)
          · obtain ⟨b1, hv, hab, hB1, hW1, hfr1⟩ := hp
            subst hv
            obtain ⟨hn, t0, t1, t2, t3, t4, t5, q6, q7, q8, q9, q10, hpt, hlg, hse, hcu, hop, hgr⟩ := id hB1.1
            have hSs := hB1.2.2.1
            have v4 := hW1.2.2.2.1
            have hSs1 := hSs i (by omega)
            refine z_aload_n (j := 1) X dB_open_49 rfl rfl ?_
            refine z_iload_n (j := 2) X dB_open_50 rfl rfl ?_
            refine z_callV (n := 1) (As := [.int (nI i)]) (rest := []) X zG0_m (mB_isCurrent l D dA hB1.1 (by omega) hSs1 (v4 i (by omega)).1) (w_V X.2.2.2.2.1 lB_73 jB_isCurrent sB_isCurrent i_LogBroker kB_isCurrent rfl rfl (by decide +kernel) ⟨Nat.le_of_ble_eq_true rfl, Nat.le_of_ble_eq_true rfl⟩) rfl rfl rfl rfl rfl (Nat.le_of_ble_eq_true rfl) dB_open_51 ⟨Nat.le_of_ble_eq_true rfl, Nat.le_of_ble_eq_true rfl⟩ (fun v S9 hp => ?_) (fun E S1 hx => hx.elim)
            obtain ⟨hS9, hp⟩ := hp
            have hS9 := hS9.symm
            subst hS9
            rcases hp with ⟨hv, hc⟩ | ⟨hv, hc⟩ <;> subst hv
            · obtain ⟨q, hq4, hq1, hq2⟩ := hc
              have hck : ¬ (b1.2.2.1 i).1 = -1 ∧ b1.2.2.2.1 (b1.2.2.1 i).1.toNatClampNeg = nI i := ⟨fun h => absurd (show nI q < 0 by rw [← hq1, h]; decide) (nI_pos (by omega)), by rw [hq1, nI_clamp (by omega)]; exact hq2⟩
              refine z_if_eq (tgt := 67) X dB_open_54 (by decide) (fun c_54 => absurd c_54 (by decide)) (fun c_54 => ?_)
              refine z_aload_n (j := 1) X dB_open_57 rfl rfl ?_
              refine z_getr (C := RB) (T := TB) (N := 11) (k := 3) X (w_in inB) rfl rfl rfl (by decide) (w_m lB_25) rfl rfl t3 dB_open_58 ?_
              refine z_aload_n (j := 0) X dB_open_61 rfl rfl ?_
              refine z_geti (C := RS) (T := TS) (N := 4) (k := 0) X (w_in inS) rfl rfl (kd_S (by omega)) (by decide) (w_m lB_63) rfl rfl dB_open_62 (hv := hSs1.2.2.2.1) ?_
              refine z_iconst (v := (-1)) X dB_open_65 (by decide) ?_
              rw [hq1]
              refine z_iast (t0 := 0) X rfl rfl hq4 (by decide) dB_open_66 ?_
              have hBx := zBrA_C (q := q) (v := -1) hB1 hW1
              have hWx := zBrW_C (q := q) (v := -1) hW1 (Or.inl rfl)
              have hfx := hfr1.tr (zfr.ownB (zfr.i (S := S1) (own := fun n => n = 5) (n := 5) (k := q) (x := -1) rfl) (fun n h => by omega))
              refine z_aload_n (j := 0) X dB_open_67 rfl rfl ?_
              refine z_iload_n (j := 3) X dB_open_68 rfl rfl ?_
              have hSx := hBx.2.2.1 i (by omega)
              refine z_callV (n := 1) (As := [.int (nI p9)]) (rest := []) X zG0_m (mS_startFor l D dA (by omega) hSx) (w_V X.2.2.2.2.1 lB_77 jS_startFor sS_startFor i_LogBroker_Session kS_startFor rfl rfl (by decide +kernel) ⟨Nat.le_of_ble_eq_true rfl, Nat.le_of_ble_eq_true rfl⟩) (kd_S (by omega)) rfl rfl rfl rfl (Nat.le_of_ble_eq_true rfl) dB_open_69 ⟨Nat.le_of_ble_eq_true rfl, Nat.le_of_ble_eq_true rfl⟩ (fun v S5 hp => ?_) (fun E S1 hx => hx.elim)
              obtain ⟨hv, hA5, hf5, hd5⟩ := hp
              subst hv
              have hB5 := zBrA_S hBx hWx (by omega) hA5 hf5
              have hW5 := zBrW_S hWx (i := i) (u := (nI p9, (b1.2.2.1 i).2.1, (fun _ => 0), (b1.2.2.1 i).2.2.2)) ⟨Or.inr ⟨p9, by omega, rfl⟩, (v4 i (by omega)).2⟩ (fun t ht => Nat.zero_le _)
              have hfr5 := hfx.tr (hf5.ownB (fun n h => by unfold zOwnS at h; omega))
              obtain ⟨hn, t0, t1, t2, t3, t4, t5, q6, q7, q8, q9, q10, hpt, hlg, hse, hcu, hop, hgr⟩ := id hB5.1
              refine z_aload_n (j := 1) X dB_open_72 rfl rfl ?_
              refine z_getr (C := RB) (T := TB) (N := 11) (k := 3) X (w_in inB) rfl rfl rfl (by decide) (w_m lB_25) rfl rfl t3 dB_open_73 ?_
              refine z_iload_n (j := 3) X dB_open_76 rfl rfl ?_
              refine z_iload_n (j := 2) X dB_open_77 rfl rfl ?_
              refine z_iast (t0 := 0) X rfl rfl (by omega) (by decide) dB_open_78 ?_
              have hB6 := zBrA_C (q := p9) (v := nI i) hB5 hW5
              have hW6 := zBrW_C (q := p9) (v := nI i) hW5 (Or.inr ⟨i, by omega, rfl⟩)
              refine z_aload_n (j := 1) X dB_open_79 rfl rfl ?_
              refine z_getr (C := RB) (T := TB) (N := 11) (k := 4) X (w_in inB) rfl rfl rfl (by decide) (w_m lB_28) rfl rfl (rp_i t4) dB_open_80 ?_
              refine z_iload_n (j := 3) X dB_open_83 rfl rfl ?_
              refine z_dup2 X dB_open_84 rfl rfl ?_
              refine z_iald (t0 := 0) X rfl rfl (by omega) (by decide) dB_open_85 (hv := (rd_i (Or.inl (by omega)) (hop p9 (by omega)))) ?_
              refine z_iconst (v := (nI 1)) X dB_open_86 (by decide) ?_
              refine z_iadd X dB_open_87 ?_
              refine z_iast (t0 := 0) X rfl rfl (by omega) (by decide) dB_open_88 ?_
              have hBo := zBrA_O (q := p9) (v := b1.2.2.2.2.1 p9 + nI 1) hB6 hW6
              have hfo := (hfr5.tr (zfr.ownB (zfr.i (S := S5) (own := fun n => n = 5) (n := 5) (k := p9) (x := nI i) rfl) (fun n h => by omega))).tr (zfr.ownB (zfr.i (own := fun n => n = 6) (n := 6) (k := p9) (x := b1.2.2.2.2.1 p9 + nI 1) rfl) (fun n h => by omega))
              refine z_aload_n (j := 1) X dB_open_89 rfl rfl ?_
              refine z_getr (C := RB) (T := TB) (N := 11) (k := 4) X (w_in inB) rfl rfl rfl (by decide) (w_m lB_28) rfl rfl (rp_i (rp_i t4)) dB_open_90 ?_
              refine z_iload_n (j := 3) X dB_open_93 rfl rfl ?_
              refine z_iald (t0 := 0) X rfl rfl (by omega) (by decide) dB_open_94 (hv := rd_s) ?_
              refine z_iret X hlocks hr dB_open_95 (by omega) (by omega) ?_
              refine ⟨_, _, rfl, by unfold sOpen; rw [zA_s hi (by decide), zA_s hp9 (by decide), if_neg hno, hab]; show ((0, _), sOp2 b1 i p9) = _; unfold sOp2; rw [if_pos hck, show (b1.2.2.1 i).1.toNatClampNeg = q by rw [hq1, nI_clamp (by omega)]]; rfl, hBo, hfo⟩
            · have hck : ¬ (¬ (b1.2.2.1 i).1 = -1 ∧ b1.2.2.2.1 (b1.2.2.1 i).1.toNatClampNeg = nI i) := fun h => by
                obtain ⟨q, hq4, hq1⟩ := (v4 i (by omega)).1.resolve_left h.1
                have h2 := h.2
                rw [hq1, nI_clamp (by omega)] at h2
                exact hc ⟨q, hq4, hq1, h2⟩
              have hBx := hB1
              have hWx := hW1
              have hfx := hfr1
              refine z_if_eq (tgt := 67) X dB_open_54 (by decide) (fun c_54 => ?_) (fun c_54 => absurd c_54 (by decide))
              refine z_aload_n (j := 0) X dB_open_67 rfl rfl ?_
              refine z_iload_n (j := 3) X dB_open_68 rfl rfl ?_
              have hSx := hBx.2.2.1 i (by omega)
              refine z_callV (n := 1) (As := [.int (nI p9)]) (rest := []) X zG0_m (mS_startFor l D dA (by omega) hSx) (w_V X.2.2.2.2.1 lB_77 jS_startFor sS_startFor i_LogBroker_Session kS_startFor rfl rfl (by decide +kernel) ⟨Nat.le_of_ble_eq_true rfl, Nat.le_of_ble_eq_true rfl⟩) (kd_S (by omega)) rfl rfl rfl rfl (Nat.le_of_ble_eq_true rfl) dB_open_69 ⟨Nat.le_of_ble_eq_true rfl, Nat.le_of_ble_eq_true rfl⟩ (fun v S5 hp => ?_) (fun E S1 hx => hx.elim)
              obtain ⟨hv, hA5, hf5, hd5⟩ := hp
              subst hv
              have hB5 := zBrA_S hBx hWx (by omega) hA5 hf5
              have hW5 := zBrW_S hWx (i := i) (u := (nI p9, (b1.2.2.1 i).2.1, (fun _ => 0), (b1.2.2.1 i).2.2.2)) ⟨Or.inr ⟨p9, by omega, rfl⟩, (v4 i (by omega)).2⟩ (fun t ht => Nat.zero_le _)
              have hfr5 := hfx.tr (hf5.ownB (fun n h => by unfold zOwnS at h; omega))
              obtain ⟨hn, t0, t1, t2, t3, t4, t5, q6, q7, q8, q9, q10, hpt, hlg, hse, hcu, hop, hgr⟩ := id hB5.1
              refine z_aload_n (j := 1) X dB_open_72 rfl rfl ?_
              refine z_getr (C := RB) (T := TB) (N := 11) (k := 3) X (w_in inB) rfl rfl rfl (by decide) (w_m lB_25) rfl rfl t3 dB_open_73 ?_
              refine z_iload_n (j := 3) X dB_open_76 rfl rfl ?_
              refine z_iload_n (j := 2) X dB_open_77 rfl rfl ?_
              refine z_iast (t0 := 0) X rfl rfl (by omega) (by decide) dB_open_78 ?_
              have hB6 := zBrA_C (q := p9) (v := nI i) hB5 hW5
              have hW6 := zBrW_C (q := p9) (v := nI i) hW5 (Or.inr ⟨i, by omega, rfl⟩)
              refine z_aload_n (j := 1) X dB_open_79 rfl rfl ?_
              refine z_getr (C := RB) (T := TB) (N := 11) (k := 4) X (w_in inB) rfl rfl rfl (by decide) (w_m lB_28) rfl rfl (rp_i t4) dB_open_80 ?_
              refine z_iload_n (j := 3) X dB_open_83 rfl rfl ?_
              refine z_dup2 X dB_open_84 rfl rfl ?_
              refine z_iald (t0 := 0) X rfl rfl (by omega) (by decide) dB_open_85 (hv := (rd_i (Or.inl (by omega)) (hop p9 (by omega)))) ?_
              refine z_iconst (v := (nI 1)) X dB_open_86 (by decide) ?_
              refine z_iadd X dB_open_87 ?_
              refine z_iast (t0 := 0) X rfl rfl (by omega) (by decide) dB_open_88 ?_
              have hBo := zBrA_O (q := p9) (v := b1.2.2.2.2.1 p9 + nI 1) hB6 hW6
              have hfo := (hfr5.tr (zfr.ownB (zfr.i (S := S5) (own := fun n => n = 5) (n := 5) (k := p9) (x := nI i) rfl) (fun n h => by omega))).tr (zfr.ownB (zfr.i (own := fun n => n = 6) (n := 6) (k := p9) (x := b1.2.2.2.2.1 p9 + nI 1) rfl) (fun n h => by omega))
              refine z_aload_n (j := 1) X dB_open_89 rfl rfl ?_
              refine z_getr (C := RB) (T := TB) (N := 11) (k := 4) X (w_in inB) rfl rfl rfl (by decide) (w_m lB_28) rfl rfl (rp_i (rp_i t4)) dB_open_90 ?_
              refine z_iload_n (j := 3) X dB_open_93 rfl rfl ?_
              refine z_iald (t0 := 0) X rfl rfl (by omega) (by decide) dB_open_94 (hv := rd_s) ?_
              refine z_iret X hlocks hr dB_open_95 (by omega) (by omega) ?_
              refine ⟨_, _, rfl, by unfold sOpen; rw [zA_s hi (by decide), zA_s hp9 (by decide), if_neg hno, hab]; show ((0, _), sOp2 b1 i p9) = _; unfold sOp2; rw [if_neg hck]; rfl, hBo, hfo⟩
          · obtain ⟨hX, hS9, hab⟩ := hx
            subst hX
            have hS9 := hS9.symm
            subst hS9
            exact z_out (fun x hx9 => (hex x hx9).elim) hlocks ⟨rfl, Or.inr (Or.inr (⟨rfl, by unfold sOpen; rw [zA_s hi (by decide), zA_s hp9 (by decide), if_neg hno, hab]; rfl⟩))⟩ (by omega) (by omega)
        · exact z_thISE (text := "it has an open transaction for another producer") X hl0 (by decide +kernel) dB_open_34 dB_open_37 dB_open_38 dB_open_40 dB_open_43 hex (Nat.le_of_ble_eq_true rfl) (Nat.le_of_ble_eq_true rfl) (Nat.le_of_ble_eq_true rfl) (Nat.le_of_ble_eq_true rfl) hlocks (by omega) (by omega) ⟨rfl, Or.inr (Or.inl ⟨rfl, by unfold sOpen; rw [zA_s hi (by decide), zA_s hp9 (by decide), if_pos (show ¬ (b.2.2.1 i).2.1 = nI 0 ∧ ¬ (b.2.2.1 i).1 = nI p9 from ⟨c_23, c_31⟩)]⟩)⟩
    · obtain ⟨hE, hS9, hn9⟩ := hx
      subst hE
      have hS9 := hS9.symm
      subst hS9
      exact z_out (fun x hx9 => (hex x hx9).elim) hlocks ⟨rfl, Or.inl ⟨rfl, by unfold sOpen; rw [zA_s hi (by decide), zA_n hn9]⟩⟩ (by omega) (by omega)
  · obtain ⟨hE, hS9, hn9⟩ := hx
    subst hE
    have hS9 := hS9.symm
    subst hS9
    exact z_out (fun x hx9 => (hex x hx9).elim) hlocks ⟨rfl, Or.inl ⟨rfl, by unfold sOpen; rw [zA_n hn9]⟩⟩ (by omega) (by omega)
end
section
/-! CONTRACTS of LogBroker: producing (rows by program) -/
set_option maxHeartbeats 600000 in
set_option maxRecDepth 100000 in
theorem mB_produce (l : Launch) (D : va_G) (dA : Nat → ClassId) {S : zS} {b : zBr} {x y n0 k v0 : Int32} (hl0 : l.stackTraces = false) (hB : zBrA S b) (hW : zBrW b) : zMet l D vwCl zKK dA (zG0 D dA) yB_produce (Cond.code yB_produce cB_produce 11 (some .int) :: zTs) { frames := 7, cells := 12, slots := 70, locals := 104 } 12 70 [.ref 1, .int x, .int y, .int n0, .int k, .int v0] S (fun v S' => ∃ r b', v = some (.int r) ∧ sProduce b x y n0 k v0 = ((0, r), b') ∧ zBrA S' b' ∧ zfr zOwnB S S') (fun E S' => S' = S ∧ ((E = "java/lang/IllegalArgumentException" ∧ sProduce b x y n0 k v0 = ((1, 0), b)) ∨ (E = "java/util/NoSuchElementException" ∧ sProduce b x y n0 k v0 = ((2, 0), b)) ∨ (E = "java/lang/IllegalStateException" ∧ sProduce b x y n0 k v0 = ((3, 0), b)) ∨ (E = "java/lang/UnsupportedOperationException" ∧ sProduce b x y n0 k v0 = ((4, 0), b)))) := by
  refine z_met (tys := ztys dA) (by decide) rfl zG0_K rfl (Nat.le_of_ble_eq_true rfl) (fun p e s m args below meth c A ad X hr hlocks hin hex => ?_)
  obtain ⟨hT, hLg, hSs, hGs, hnx, hnf⟩ := id hB
  obtain ⟨v1, v2, v3, v4, v5, v6, v7⟩ := id hW
  obtain ⟨hn, t0, t1, t2, t3, t4, t5, q6, q7, q8, q9, q10, hpt, hlg, hse, hcu, hop, hgr⟩ := id hT
  refine z_iload_n (j := 1) X dB_produce_0 rfl rfl ?_
  refine z_iconst (v := (nI 0)) X dB_produce_1 (by decide) ?_
  refine z_iconst (v := (nI 5)) X dB_produce_2 (by decide) ?_
  refine z_callS (n := 3) (As := [.int x, .int (nI 0), .int (nI 5)]) (rest := []) X zG0_m (mB_mustBeWithin l D dA hl0) (w_S X.2.2.2.2.1 lB_45 tB_mustBeWithin i_LogBroker kB_mustBeWithin rfl rfl (by decide +kernel) ⟨Nat.le_of_ble_eq_true rfl, Nat.le_of_ble_eq_true rfl⟩) rfl rfl (Nat.le_of_ble_eq_true rfl) dB_produce_3 ⟨Nat.le_of_ble_eq_true rfl, Nat.le_of_ble_eq_true rfl⟩ (fun v S9 hp => ?_) (fun E S1 hx => ?_)
  · obtain ⟨hv, hS9, hr1, hr2⟩ := hp
    subst hv
    have hS9 := hS9.symm
    subst hS9
    obtain ⟨i, hx9, hi⟩ := zRg (n := 5) (by omega) hr1 hr2
    subst hx9
    refine z_aload_n (j := 0) X dB_produce_6 rfl rfl ?_
    refine z_iload_n (j := 2) X dB_produce_7 rfl rfl ?_
    refine z_callV (n := 1) (As := [.int y]) (rest := []) X zG0_m (mB_logAt l D dA (x := y) hl0 hT) (w_V X.2.2.2.2.1 lB_80 jB_logAt sB_logAt i_LogBroker kB_logAt rfl rfl (by decide +kernel) ⟨Nat.le_of_ble_eq_true rfl, Nat.le_of_ble_eq_true rfl⟩) rfl rfl rfl rfl rfl (Nat.le_of_ble_eq_true rfl) dB_produce_8 ⟨Nat.le_of_ble_eq_true rfl, Nat.le_of_ble_eq_true rfl⟩ (fun v S9 hp => ?_) (fun E S1 hx => ?_)
    · obtain ⟨hS9, t, ht, hx9, hv⟩ := hp
      subst hv
      have hS9 := hS9.symm
      subst hS9
      subst hx9
      obtain ⟨g, hg0⟩ : ∃ g, g = b.2.1 t := ⟨_, rfl⟩
      have hO : zLogA S t g := by rw [hg0]; exact hLg t ht
      have hWg : zLogW g := by rw [hg0]; exact v2 t ht
      have hV : ∀ o e, g.2.2 o = some e → zEW e := by rw [hg0]; exact v3 t ht
      obtain ⟨gd1, gd2, f0, f1, f2, f3, f4, f5, f6, f7, f8, hent, hee⟩ := id hO
      obtain ⟨w1, w2, w3, w4, w5, w6, w7, w8, w9⟩ := id hWg
      have wb := zBa_le g
      have wp : zPr g ≤ 60 := zcnt_le
      have ht12 := ht.1
      refine z_astore (L' := [(6, .ref (60 + t)), (0, .ref 1), (1, .int (nI i)), (2, .int (nI t)), (3, .int n0), (4, .int k), (5, .int v0)]) X dB_produce_11 (by decide) rfl ?_
      refine z_iload (j := 5) X dB_produce_13 rfl ?_
      refine z_iconst (v := (-1)) X dB_produce_15 (by decide) ?_
      refine z_bipush (v := (nI 7)) X dB_produce_16 (by decide) ?_
      refine z_callS (n := 3) (As := [.int k, .int (-1), .int (nI 7)]) (rest := []) X zG0_m (mB_mustBeWithin l D dA hl0) (w_S X.2.2.2.2.1 lB_45 tB_mustBeWithin i_LogBroker kB_mustBeWithin rfl rfl (by decide +kernel) ⟨Nat.le_of_ble_eq_true rfl, Nat.le_of_ble_eq_true rfl⟩) rfl rfl (Nat.le_of_ble_eq_true rfl) dB_produce_18 ⟨Nat.le_of_ble_eq_true rfl, Nat.le_of_ble_eq_true rfl⟩ (fun v S9 hp => ?_) (fun E S1 hx => ?_)
      · obtain ⟨hv, hS9, hr1, hr2⟩ := hp
        subst hv
        have hS9 := hS9.symm
        subst hS9
        have hkey := zKey hr1 hr2
        refine z_iload_n (j := 4) X dB_produce_21 rfl rfl ?_
        refine z_if_ge (tgt := 35) X dB_produce_22 (by decide) (fun c_22 => ?_) (fun c_22 => ?_)
        · obtain ⟨n9, hn2, hn3⟩ := nI_of (Int32.not_lt.mpr c_22)
          subst hn3
          have hkn : ¬ ((k < -1 ∨ nI 7 < k) ∨ nI n9 < 0) := fun h => h.elim (fun h => h.elim hr1 hr2) (nI_pos hn2)
          refine z_aload_n (j := 1) X dB_produce_35 rfl rfl ?_
          refine z_iload_n (j := 2) X dB_produce_36 rfl rfl ?_
          refine z_callV (n := 1) (As := [.int (nI i)]) (rest := []) X zG0_m (mB_openedSession l D dA hl0 hT (by omega) (hSs i (by omega))) (w_V X.2.2.2.2.1 lB_89 jB_openedSession sB_openedSession i_LogBroker kB_openedSession rfl rfl (by decide +kernel) ⟨Nat.le_of_ble_eq_true rfl, Nat.le_of_ble_eq_true rfl⟩) rfl rfl rfl rfl rfl (Nat.le_of_ble_eq_true rfl) dB_produce_37 ⟨Nat.le_of_ble_eq_true rfl, Nat.le_of_ble_eq_true rfl⟩ (fun v S9 hp => ?_) (fun E S1 hx => ?_)
          · obtain ⟨hS9, hv, hpr1⟩ := hp
            subst hv
            have hS9 := hS9.symm
            subst hS9
            have hpr2 := (v4 i (by omega)).1.resolve_left hpr1
            refine z_astore (L' := [(7, .ref (10 + i)), (6, .ref (60 + t)), (0, .ref 1), (1, .int (nI i)), (2, .int (nI t)), (3, .int (nI n9)), (4, .int k), (5, .int v0)]) X dB_produce_40 (by decide) rfl ?_
            refine z_aload (j := 0) X dB_produce_42 rfl ?_
            refine z_iload_n (j := 4) X dB_produce_44 rfl rfl ?_
            refine z_iload_n (j := 5) X dB_produce_45 rfl rfl ?_
            refine z_callV (n := 2) (As := [.int (nI t), .int (nI n9)]) (rest := []) X zG0_m (mS_remembers l D dA (by omega) (hSs i (by omega)) ht12 hn2 (Nat.lt_of_le_of_lt (Nat.le_trans (v5 i t (by omega) ht12).1 (v5 i t (by omega) ht12).2) (by decide))) (w_V X.2.2.2.2.1 lB_93 jS_remembers sS_remembers i_LogBroker_Session kS_remembers rfl rfl (by decide +kernel) ⟨Nat.le_of_ble_eq_true rfl, Nat.le_of_ble_eq_true rfl⟩) (kd_S (by omega)) rfl rfl rfl rfl (Nat.le_of_ble_eq_true rfl) dB_produce_46 ⟨Nat.le_of_ble_eq_true rfl, Nat.le_of_ble_eq_true rfl⟩ (fun v S9 hp => ?_) (fun E S1 hx => hx.elim)
            obtain ⟨hv, hS9⟩ := hp
            subst hv
            have hS9 := hS9.symm
            subst hS9
            by_cases hrem : n9 < (b.2.2.1 i).2.2.1 t ∧ (b.2.2.1 i).2.2.1 t ≤ n9 + 3
            · refine z_top (if_pos hrem) ?_
              refine z_istore (L' := [(8, .int (nI 1)), (7, .ref (10 + i)), (6, .ref (60 + t)), (0, .ref 1), (1, .int (nI i)), (2, .int (nI t)), (3, .int (nI n9)), (4, .int k), (5, .int v0)]) X dB_produce_49 (by decide) rfl ?_
              refine z_iload (j := 0) X dB_produce_51 rfl ?_
              refine z_if_ne (tgt := 76) X dB_produce_53 (by decide) (fun c_53 => ?_) (fun c_53 => absurd c_53 (by decide))
              refine z_aload_n (j := 3) X dB_produce_76 rfl rfl ?_
              refine z_iload_n (j := 4) X dB_produce_77 rfl rfl ?_
              refine z_callV (n := 1) (As := [.int (nI i)]) (rest := []) X zG0_m (mB_mustBeCurrent l D dA hl0 hT (by omega) (hSs i (by omega)) (v4 i (by omega)).1) (w_V X.2.2.2.2.1 lB_102 jB_mustBeCurrent sB_mustBeCurrent i_LogBroker kB_mustBeCurrent rfl rfl (by decide +kernel) ⟨Nat.le_of_ble_eq_true rfl, Nat.le_of_ble_eq_true rfl⟩) rfl rfl rfl rfl rfl (Nat.le_of_ble_eq_true rfl) dB_produce_78 ⟨Nat.le_of_ble_eq_true rfl, Nat.le_of_ble_eq_true rfl⟩ (fun v S9 hp => ?_) (fun E S1 hx => ?_)
              · obtain ⟨hS9, hv, hcur⟩ := hp
                subst hv
                have hS9 := hS9.symm
                subst hS9
                have hcur := (zCur_iff hpr2).mpr hcur
                refine z_iload (j := 0) X dB_produce_81 rfl ?_
                refine z_if_eq (tgt := 104) X dB_produce_83 (by decide) (fun c_83 => absurd c_83 (by decide)) (fun c_83 => ?_)
                refine z_aload_n (j := 3) X dB_produce_86 rfl rfl ?_
                refine z_dup X dB_produce_87 rfl ?_
                refine z_geti (C := RB) (T := TB) (N := 11) (k := 7) X (w_in inB) rfl rfl rfl (by decide) (w_m lB_105) rfl rfl dB_produce_88 (hv := q7) ?_
                refine z_iconst (v := (nI 1)) X dB_produce_91 (by decide) ?_
                refine z_iadd X dB_produce_92 ?_
                refine z_puti (C := RB) (T := TB) (N := 11) (k := 7) X (w_in inB) rfl rfl rfl (by decide) (w_m lB_105) rfl tyB tyB_ok nmB rfl rfl (ty := .int) (by decide +kernel) rfl rfl dB_produce_93 ?_
                refine z_aload (j := 1) X dB_produce_96 rfl ?_
                refine z_iload_n (j := 5) X dB_produce_98 rfl rfl ?_
                refine z_iload_n (j := 6) X dB_produce_99 rfl rfl ?_
                refine z_callV (n := 2) (As := [.int (nI t), .int (nI n9)]) (rest := []) X zG0_m (mS_offsetRemembered l D dA (by omega) (zSsA_fr (hSs i (by omega)) (fun n h => zAg_i (fun e => by unfold zOwnS at h; omega))) ht12 hn2 (Nat.lt_of_le_of_lt (Nat.le_trans (v5 i t (by omega) ht12).1 (v5 i t (by omega) ht12).2) (by decide))) (w_V X.2.2.2.2.1 lB_108 jS_offsetRemembered sS_offsetRemembered i_LogBroker_Session kS_offsetRemembered rfl rfl (by decide +kernel) ⟨Nat.le_of_ble_eq_true rfl, Nat.le_of_ble_eq_true rfl⟩) (kd_S (by omega)) rfl rfl rfl rfl (Nat.le_of_ble_eq_true rfl) dB_produce_100 ⟨Nat.le_of_ble_eq_true rfl, Nat.le_of_ble_eq_true rfl⟩ (fun v S9 hp => ?_) (fun E S1 hx => hx.elim)
                obtain ⟨hv, hS9⟩ := hp
                subst hv
                have hS9 := hS9.symm
                subst hS9
                refine z_iret X hlocks hr dB_produce_103 (by omega) (by omega) ?_
                have hfx : zfr (fun n => 1 ≤ n ∧ n < 8) S (zsi S 1 7 (b.2.2.2.2.2.2.2.1 + nI 1)) := zfr.i (by decide)
                exact ⟨_, _, rfl, by unfold sProduce; rw [zA_s hi (by decide), zT_s ht, if_neg (show ¬ ((k < -1 ∨ nI 7 < k) ∨ nI n9 < 0) from hkn), if_neg hpr1, nI_clamp hn2, if_pos hrem, if_neg (fun h => h hcur)]; rfl, zBrA_t hB hW hfx (zTop_7 hT) rfl rfl rfl rfl, hfx.ownB (fun n h => by omega)⟩
              · obtain ⟨hE, hS9, hcur⟩ := hx
                subst hE
                have hS9 := hS9.symm
                subst hS9
                have hcur := fun h => hcur ((zCur_iff hpr2).mp h)
                exact z_out (fun x hx9 => (hex x hx9).elim) hlocks ⟨rfl, Or.inr (Or.inr (Or.inr (⟨rfl, by unfold sProduce; rw [zA_s hi (by decide), zT_s ht, if_neg (show ¬ ((k < -1 ∨ nI 7 < k) ∨ nI n9 < 0) from hkn), if_neg hpr1, nI_clamp hn2, if_pos hrem, if_pos (show ¬ b.2.2.2.1 (b.2.2.1 i).1.toNatClampNeg = nI i from hcur)]⟩)))⟩ (by omega) (by omega)
            · refine z_top (if_neg hrem) ?_
              refine z_istore (L' := [(8, .int (nI 0)), (7, .ref (10 + i)), (6, .ref (60 + t)), (0, .ref 1), (1, .int (nI i)), (2, .int (nI t)), (3, .int (nI n9)), (4, .int k), (5, .int v0)]) X dB_produce_49 (by decide) rfl ?_
              refine z_iload (j := 0) X dB_produce_51 rfl ?_
              refine z_if_ne (tgt := 76) X dB_produce_53 (by decide) (fun c_53 => absurd c_53 (by decide)) (fun c_53 => ?_)
              refine z_aload (j := 1) X dB_produce_56 rfl ?_
              refine z_iload_n (j := 5) X dB_produce_58 rfl rfl ?_
              refine z_iload_n (j := 6) X dB_produce_59 rfl rfl ?_
              refine z_callV (n := 2) (As := [.int (nI t), .int (nI n9)]) (rest := []) X zG0_m (mS_expects l D dA (by omega) (hSs i (by omega)) ht12 hn2 (Nat.lt_of_le_of_lt (Nat.le_trans (v5 i t (by omega) ht12).1 (v5 i t (by omega) ht12).2) (by decide))) (w_V X.2.2.2.2.1 lB_97 jS_expects sS_expects i_LogBroker_Session kS_expects rfl rfl (by decide +kernel) ⟨Nat.le_of_ble_eq_true rfl, Nat.le_of_ble_eq_true rfl⟩) (kd_S (by omega)) rfl rfl rfl rfl (Nat.le_of_ble_eq_true rfl) dB_produce_60 ⟨Nat.le_of_ble_eq_true rfl, Nat.le_of_ble_eq_true rfl⟩ (fun v S9 hp => ?_) (fun E S1 hx => hx.elim)
              obtain ⟨hv, hS9⟩ := hp
              subst hv
              have hS9 := hS9.symm
              subst hS9
              by_cases hexp : n9 = (b.2.2.1 i).2.2.1 t
              · refine z_top (if_pos hexp) ?_
                refine z_if_ne (tgt := 76) X dB_produce_63 (by decide) (fun c_63 => ?_) (fun c_63 => absurd c_63 (by decide))
                refine z_aload_n (j := 3) X dB_produce_76 rfl rfl ?_
                refine z_iload_n (j := 4) X dB_produce_77 rfl rfl ?_
                refine z_callV (n := 1) (As := [.int (nI i)]) (rest := []) X zG0_m (mB_mustBeCurrent l D dA hl0 hT (by omega) (hSs i (by omega)) (v4 i (by omega)).1) (w_V X.2.2.2.2.1 lB_102 jB_mustBeCurrent sB_mustBeCurrent i_LogBroker kB_mustBeCurrent rfl rfl (by decide +kernel) ⟨Nat.le_of_ble_eq_true rfl, Nat.le_of_ble_eq_true rfl⟩) rfl rfl rfl rfl rfl (Nat.le_of_ble_eq_true rfl) dB_produce_78 ⟨Nat.le_of_ble_eq_true rfl, Nat.le_of_ble_eq_true rfl⟩ (fun v S9 hp => ?_) (fun E S1 hx => ?_)
                · obtain ⟨hS9, hv, hcur⟩ := hp
                  subst hv
                  have hS9 := hS9.symm
                  subst hS9
                  have hcur := (zCur_iff hpr2).mpr hcur
                  refine z_iload (j := 0) X dB_produce_81 rfl ?_
                  refine z_if_eq (tgt := 104) X dB_produce_83 (by decide) (fun c_83 => ?_) (fun c_83 => absurd c_83 (by decide))
                  refine z_aload (j := 2) X dB_produce_104 rfl ?_
                  refine z_callV (n := 0) (As := []) (rest := []) X zG0_m (mG_isFull l D dA ht12 hO hWg) (w_V X.2.2.2.2.1 lB_112 jG_isFull sG_isFull i_LogBroker_Log kG_isFull rfl rfl (by decide +kernel) ⟨Nat.le_of_ble_eq_true rfl, Nat.le_of_ble_eq_true rfl⟩) (kd_G ht12) rfl rfl rfl rfl (Nat.le_of_ble_eq_true rfl) dB_produce_106 ⟨Nat.le_of_ble_eq_true rfl, Nat.le_of_ble_eq_true rfl⟩ (fun v S9 hp => ?_) (fun E S1 hx => hx.elim)
                  obtain ⟨hv, hS9⟩ := hp
                  subst hv
                  have hS9 := hS9.symm
                  subst hS9
                  by_cases hfu : 60 ≤ g.2.1.2
                  · refine z_top (if_pos hfu) ?_
                    have hen : ¬ (b.2.1 t).2.1.2 < 60 := by rw [← hg0]; omega
                    refine z_if_eq (tgt := 122) X dB_produce_109 (by decide) (fun c_109 => absurd c_109 (by decide)) (fun c_109 => ?_)
                    exact z_thUOE (text := "no room in the log") X hl0 (by decide +kernel) dB_produce_112 dB_produce_115 dB_produce_116 dB_produce_118 dB_produce_121 hex (Nat.le_of_ble_eq_true rfl) (Nat.le_of_ble_eq_true rfl) (Nat.le_of_ble_eq_true rfl) (Nat.le_of_ble_eq_true rfl) hlocks (by omega) (by omega) ⟨rfl, Or.inr (Or.inr (Or.inr (⟨rfl, by unfold sProduce; rw [zA_s hi (by decide), zT_s ht, if_neg (show ¬ ((k < -1 ∨ nI 7 < k) ∨ nI n9 < 0) from hkn), if_neg hpr1, nI_clamp hn2, if_neg hrem, if_neg (fun h => h hexp), if_pos (Or.inr hen)]⟩)))⟩
                  · refine z_top (if_neg hfu) ?_
                    have hen : (b.2.1 t).2.1.2 < 60 := by rw [← hg0]; omega
                    subst hg0
                    refine z_if_eq (tgt := 122) X dB_produce_109 (by decide) (fun c_109 => ?_) (fun c_109 => absurd c_109 (by decide))
                    refine z_aload (j := 1) X dB_produce_122 rfl ?_
                    refine z_geti (C := RS) (T := TS) (N := 4) (k := 1) X (w_in inS) rfl rfl (kd_S (by omega)) (by decide) (w_m lB_59) rfl rfl dB_produce_124 (hv := (hSs i (by omega)).2.2.2.2.1) ?_
                    refine z_if_eq (tgt := 134) X dB_produce_127 (by decide) (fun c_127 => ?_) (fun c_127 => ?_)
                    · refine z_iconst (v := (nI 0)) X dB_produce_134 (by decide) ?_
                      refine z_istore (L' := [(9, .int (nI 0)), (8, .int (nI 0)), (7, .ref (10 + i)), (6, .ref (60 + t)), (0, .ref 1), (1, .int (nI i)), (2, .int (nI t)), (3, .int (nI n9)), (4, .int k), (5, .int v0)]) X dB_produce_135 (by decide) rfl ?_
                      refine z_aload_n (j := 4) X dB_produce_137 rfl rfl ?_
                      refine z_aload (j := 3) X dB_produce_138 rfl ?_
                      refine z_new (C := RE) (T := TE) (N := 5) (ci := 0) (n := (200 + 60 * t + (b.2.1 t).2.1.2)) X (w_in inE) rfl rfl (kd_E ht12 (by omega)) (hnf t ht (b.2.1 t).2.1.2 hen (Nat.le_refl _)) (by omega) tyE tyE_ok (by decide +kernel) (w_m lB_121) (w_m n_LogBroker_Entry) (w_m i_LogBroker_Entry) (Nat.le_of_ble_eq_true rfl) (Nat.le_of_ble_eq_true rfl) dB_produce_140 ?_
                      refine z_dup X dB_produce_143 rfl ?_
                      refine z_iconst (v := (nI 0)) X dB_produce_144 (by decide) ?_
                      refine z_iload (j := 8) X dB_produce_145 rfl ?_
                      refine z_iload (j := 9) X dB_produce_147 rfl ?_
                      refine z_aload (j := 2) X dB_produce_149 rfl ?_
                      refine z_geti (C := RS) (T := TS) (N := 4) (k := 0) X (w_in inS) rfl rfl (kd_S (by omega)) (by decide) (w_m lB_63) rfl rfl dB_produce_151 (hv := (hSs i (by omega)).2.2.2.1) ?_
                      refine z_iload (j := 0) X dB_produce_154 rfl ?_
                      refine z_callI (n := 5) (As := [.int (nI 0), .int k, .int v0, .int ((b.2.2.1 i).1), .int (nI 0)]) (rest := [.ref (200 + 60 * t + (b.2.1 t).2.1.2), .ref (60 + t), .ref 1]) X zG0_m (fun _ _ h => h) (mE_init l D dA (kd_E ht12 (by omega))) (w_I X.2.2.2.2.1 lB_123 jE_init i_LogBroker_Entry kE_init rfl rfl rfl (by decide +kernel) ⟨Nat.le_of_ble_eq_true rfl, Nat.le_of_ble_eq_true rfl⟩) rfl rfl (Nat.le_of_ble_eq_true rfl) dB_produce_156 ⟨Nat.le_of_ble_eq_true rfl, Nat.le_of_ble_eq_true rfl⟩ (fun v S0 hp => ?_)
                      obtain ⟨hv, hS0⟩ := hp
                      subst hv
                      obtain ⟨hE0, hf0, hd0⟩ := zNewE (S := S) (n := (200 + 60 * t + (b.2.1 t).2.1.2)) (a0 := nI 0) (a1 := k) (a2 := v0) (a3 := (b.2.2.1 i).1) (a4 := nI 0)
                      rw [← hS0] at hE0 hf0 hd0
                      clear hS0
                      have hpe : (nI 0, k, v0, (b.2.2.1 i).1, nI 0) = zPe (b.2.2.1 i) k v0 := by unfold zPe; rw [if_pos (show (b.2.2.1 i).2.1 = nI 0 from c_127)]
                      rw [hpe] at hE0
                      have hT0 : zTop S0 b := zTop_fr hT (fun n h1 h2 => hf0.ag (by omega))
                      have hO0 : zLogA S0 t (b.2.1 t) := zLogA_nw (hLg t ht) (v2 t ht) ht12 hf0
                      refine z_callV (n := 2) (As := [.ref (60 + t), .ref (200 + 60 * t + (b.2.1 t).2.1.2)]) (rest := []) X zG0_m (mB_write l D dA (b := b) (t := t) (g := b.2.1 t) hT0 ht12 hO0 (v2 t ht) hen hE0) (w_V X.2.2.2.2.1 lB_126 jB_write sB_write i_LogBroker kB_write rfl rfl (by decide +kernel) ⟨Nat.le_of_ble_eq_true rfl, Nat.le_of_ble_eq_true rfl⟩) rfl rfl rfl rfl rfl (Nat.le_of_ble_eq_true rfl) dB_produce_159 ⟨Nat.le_of_ble_eq_true rfl, Nat.le_of_ble_eq_true rfl⟩ (fun v S3 hp => ?_) (fun E S1 hx => hx.elim)
                      obtain ⟨hv, hT3, hA3, hW3, hf3, hd3⟩ := hp
                      subst hv
                      obtain ⟨hB3, hfx3⟩ := zBrA_wr (e := zPe (b.2.2.1 i) k v0) (t := t) hB hW ht hf0 hd0 hen hT3 hA3 hf3 hd3
                      have hW3 := zBrW_wr hW ht hen (zEW_pe (v := v0) hpr2 hkey)
                      refine z_istore (L' := [(10, .int (nI (b.2.1 t).2.1.2)), (9, .int (nI 0)), (8, .int (nI 0)), (7, .ref (10 + i)), (6, .ref (60 + t)), (0, .ref 1), (1, .int (nI i)), (2, .int (nI t)), (3, .int (nI n9)), (4, .int k), (5, .int v0)]) X dB_produce_162 (by decide) rfl ?_
                      refine z_aload (j := 3) X dB_produce_164 rfl ?_
                      refine z_iload_n (j := 7) X dB_produce_166 rfl rfl ?_
                      refine z_iload (j := 0) X dB_produce_167 rfl ?_
                      refine z_callV (n := 2) (As := [.int (nI t), .int (nI (b.2.1 t).2.1.2)]) (rest := []) X zG0_m (mS_remember l D dA (by omega) (hB3.2.2.1 i (by omega)) ht12 (Nat.lt_of_le_of_lt (Nat.le_trans (v5 i t (by omega) ht12).1 (v5 i t (by omega) ht12).2) (by decide))) (w_V X.2.2.2.2.1 lB_130 jS_remember sS_remember i_LogBroker_Session kS_remember rfl rfl (by decide +kernel) ⟨Nat.le_of_ble_eq_true rfl, Nat.le_of_ble_eq_true rfl⟩) (kd_S (by omega)) rfl rfl rfl rfl (Nat.le_of_ble_eq_true rfl) dB_produce_169 ⟨Nat.le_of_ble_eq_true rfl, Nat.le_of_ble_eq_true rfl⟩ (fun v S4 hp => ?_) (fun E S1 hx => hx.elim)
                      obtain ⟨hv, hA4, hf4, hd4⟩ := hp
                      subst hv
                      have hB4 := zBrA_S hB3 hW3 (by omega) hA4 hf4
                      have hfr4 := (hfx3.ownB (fun n h => by unfold zOwnG at h; omega)).tr (hf4.ownB (fun n h => by unfold zOwnS at h; omega))
                      refine z_iload (j := 0) X dB_produce_172 rfl ?_
                      refine z_iret X hlocks hr dB_produce_174 (by omega) (by omega) ?_
                      refine ⟨_, _, rfl, by unfold sProduce; rw [zA_s hi (by decide), zT_s ht, if_neg (show ¬ ((k < -1 ∨ nI 7 < k) ∨ nI n9 < 0) from hkn), if_neg hpr1, nI_clamp hn2, if_neg hrem, if_neg (fun h => h hexp), if_neg (fun h => h.elim (fun h => h hcur) (fun h => h hen))]; rfl, hB4, hfr4⟩
                    · refine z_iconst (v := (nI 2)) X dB_produce_130 (by decide) ?_
                      refine z_goto (tgt := 135) X dB_produce_131 (by decide) ?_
                      refine z_istore (L' := [(9, .int (nI 2)), (8, .int (nI 0)), (7, .ref (10 + i)), (6, .ref (60 + t)), (0, .ref 1), (1, .int (nI i)), (2, .int (nI t)), (3, .int (nI n9)), (4, .int k), (5, .int v0)]) X dB_produce_135 (by decide) rfl ?_
                      refine z_aload_n (j := 4) X dB_produce_137 rfl rfl ?_
                      refine z_aload (j := 3) X dB_produce_138 rfl ?_
                      refine z_new (C := RE) (T := TE) (N := 5) (ci := 0) (n := (200 + 60 * t + (b.2.1 t).2.1.2)) X (w_in inE) rfl rfl (kd_E ht12 (by omega)) (hnf t ht (b.2.1 t).2.1.2 hen (Nat.le_refl _)) (by omega) tyE tyE_ok (by decide +kernel) (w_m lB_121) (w_m n_LogBroker_Entry) (w_m i_LogBroker_Entry) (Nat.le_of_ble_eq_true rfl) (Nat.le_of_ble_eq_true rfl) dB_produce_140 ?_
                      refine z_dup X dB_produce_143 rfl ?_
                      refine z_iconst (v := (nI 0)) X dB_produce_144 (by decide) ?_
                      refine z_iload (j := 8) X dB_produce_145 rfl ?_
                      refine z_iload (j := 9) X dB_produce_147 rfl ?_
                      refine z_aload (j := 2) X dB_produce_149 rfl ?_
                      refine z_geti (C := RS) (T := TS) (N := 4) (k := 0) X (w_in inS) rfl rfl (kd_S (by omega)) (by decide) (w_m lB_63) rfl rfl dB_produce_151 (hv := (hSs i (by omega)).2.2.2.1) ?_
                      refine z_iload (j := 0) X dB_produce_154 rfl ?_
                      refine z_callI (n := 5) (As := [.int (nI 0), .int k, .int v0, .int ((b.2.2.1 i).1), .int (nI 2)]) (rest := [.ref (200 + 60 * t + (b.2.1 t).2.1.2), .ref (60 + t), .ref 1]) X zG0_m (fun _ _ h => h) (mE_init l D dA (kd_E ht12 (by omega))) (w_I X.2.2.2.2.1 lB_123 jE_init i_LogBroker_Entry kE_init rfl rfl rfl (by decide +kernel) ⟨Nat.le_of_ble_eq_true rfl, Nat.le_of_ble_eq_true rfl⟩) rfl rfl (Nat.le_of_ble_eq_true rfl) dB_produce_156 ⟨Nat.le_of_ble_eq_true rfl, Nat.le_of_ble_eq_true rfl⟩ (fun v S0 hp => ?_)
                      obtain ⟨hv, hS0⟩ := hp
                      subst hv
                      obtain ⟨hE0, hf0, hd0⟩ := zNewE (S := S) (n := (200 + 60 * t + (b.2.1 t).2.1.2)) (a0 := nI 0) (a1 := k) (a2 := v0) (a3 := (b.2.2.1 i).1) (a4 := nI 2)
                      rw [← hS0] at hE0 hf0 hd0
                      clear hS0
                      have hpe : (nI 0, k, v0, (b.2.2.1 i).1, nI 2) = zPe (b.2.2.1 i) k v0 := by unfold zPe; rw [if_neg (show ¬ (b.2.2.1 i).2.1 = nI 0 from c_127)]
                      rw [hpe] at hE0
                      have hT0 : zTop S0 b := zTop_fr hT (fun n h1 h2 => hf0.ag (by omega))
                      have hO0 : zLogA S0 t (b.2.1 t) := zLogA_nw (hLg t ht) (v2 t ht) ht12 hf0
                      refine z_callV (n := 2) (As := [.ref (60 + t), .ref (200 + 60 * t + (b.2.1 t).2.1.2)]) (rest := []) X zG0_m (mB_write l D dA (b := b) (t := t) (g := b.2.1 t) hT0 ht12 hO0 (v2 t ht) hen hE0) (w_V X.2.2.2.2.1 lB_126 jB_write sB_write i_LogBroker kB_write rfl rfl (by decide +kernel) ⟨Nat.le_of_ble_eq_true rfl, Nat.le_of_ble_eq_true rfl⟩) rfl rfl rfl rfl rfl (Nat.le_of_ble_eq_true rfl) dB_produce_159 ⟨Nat.le_of_ble_eq_true rfl, Nat.le_of_ble_eq_true rfl⟩ (fun v S3 hp => ?_) (fun E S1 hx => hx.elim)
                      obtain ⟨hv, hT3, hA3, hW3, hf3, hd3⟩ := hp
                      subst hv
                      obtain ⟨hB3, hfx3⟩ := zBrA_wr (e := zPe (b.2.2.1 i) k v0) (t := t) hB hW ht hf0 hd0 hen hT3 hA3 hf3 hd3
                      have hW3 := zBrW_wr hW ht hen (zEW_pe (v := v0) hpr2 hkey)
                      refine z_istore (L' := [(10, .int (nI (b.2.1 t).2.1.2)), (9, .int (nI 2)), (8, .int (nI 0)), (7, .ref (10 + i)), (6, .ref (60 + t)), (0, .ref 1), (1, .int (nI i)), (2, .int (nI t)), (3, .int (nI n9)), (4, .int k), (5, .int v0)]) X dB_produce_162 (by decide) rfl ?_
                      refine z_aload (j := 3) X dB_produce_164 rfl ?_
                      refine z_iload_n (j := 7) X dB_produce_166 rfl rfl ?_
                      refine z_iload (j := 0) X dB_produce_167 rfl ?_
                      refine z_callV (n := 2) (As := [.int (nI t), .int (nI (b.2.1 t).2.1.2)]) (rest := []) X zG0_m (mS_remember l D dA (by omega) (hB3.2.2.1 i (by omega)) ht12 (Nat.lt_of_le_of_lt (Nat.le_trans (v5 i t (by omega) ht12).1 (v5 i t (by omega) ht12).2) (by decide))) (w_V X.2.2.2.2.1 lB_130 jS_remember sS_remember i_LogBroker_Session kS_remember rfl rfl (by decide +kernel) ⟨Nat.le_of_ble_eq_true rfl, Nat.le_of_ble_eq_true rfl⟩) (kd_S (by omega)) rfl rfl rfl rfl (Nat.le_of_ble_eq_true rfl) dB_produce_169 ⟨Nat.le_of_ble_eq_true rfl, Nat.le_of_ble_eq_true rfl⟩ (fun v S4 hp => ?_) (fun E S1 hx => hx.elim)
                      obtain ⟨hv, hA4, hf4, hd4⟩ := hp
                      subst hv
                      have hB4 := zBrA_S hB3 hW3 (by omega) hA4 hf4
                      have hfr4 := (hfx3.ownB (fun n h => by unfold zOwnG at h; omega)).tr (hf4.ownB (fun n h => by unfold zOwnS at h; omega))
                      refine z_iload (j := 0) X dB_produce_172 rfl ?_
                      refine z_iret X hlocks hr dB_produce_174 (by omega) (by omega) ?_
                      refine ⟨_, _, rfl, by unfold sProduce; rw [zA_s hi (by decide), zT_s ht, if_neg (show ¬ ((k < -1 ∨ nI 7 < k) ∨ nI n9 < 0) from hkn), if_neg hpr1, nI_clamp hn2, if_neg hrem, if_neg (fun h => h hexp), if_neg (fun h => h.elim (fun h => h hcur) (fun h => h hen))]; rfl, hB4, hfr4⟩
                · obtain ⟨hE, hS9, hcur⟩ := hx
                  subst hE
                  have hS9 := hS9.symm
                  subst hS9
                  have hcur := fun h => hcur ((zCur_iff hpr2).mp h)
                  exact z_out (fun x hx9 => (hex x hx9).elim) hlocks ⟨rfl, Or.inr (Or.inr (Or.inr (⟨rfl, by unfold sProduce; rw [zA_s hi (by decide), zT_s ht, if_neg (show ¬ ((k < -1 ∨ nI 7 < k) ∨ nI n9 < 0) from hkn), if_neg hpr1, nI_clamp hn2, if_neg hrem, if_neg (fun h => h hexp), if_pos (Or.inl (show ¬ b.2.2.2.1 (b.2.2.1 i).1.toNatClampNeg = nI i from hcur))]⟩)))⟩ (by omega) (by omega)
              · refine z_top (if_neg hexp) ?_
                refine z_if_ne (tgt := 76) X dB_produce_63 (by decide) (fun c_63 => absurd c_63 (by decide)) (fun c_63 => ?_)
                exact z_thISE (text := "the number is neither expected nor remembered") X hl0 (by decide +kernel) dB_produce_66 dB_produce_69 dB_produce_70 dB_produce_72 dB_produce_75 hex (Nat.le_of_ble_eq_true rfl) (Nat.le_of_ble_eq_true rfl) (Nat.le_of_ble_eq_true rfl) (Nat.le_of_ble_eq_true rfl) hlocks (by omega) (by omega) ⟨rfl, Or.inr (Or.inr (Or.inl ⟨rfl, by unfold sProduce; rw [zA_s hi (by decide), zT_s ht, if_neg (show ¬ ((k < -1 ∨ nI 7 < k) ∨ nI n9 < 0) from hkn), if_neg hpr1, nI_clamp hn2, if_neg hrem, if_pos hexp]⟩))⟩
          · obtain ⟨hE, hS9, hpr1⟩ := hx
            subst hE
            have hS9 := hS9.symm
            subst hS9
            exact z_out (fun x hx9 => (hex x hx9).elim) hlocks ⟨rfl, Or.inr (Or.inl ⟨rfl, by unfold sProduce; rw [zA_s hi (by decide), zT_s ht, if_neg (show ¬ ((k < -1 ∨ nI 7 < k) ∨ nI n9 < 0) from hkn), if_pos hpr1]⟩)⟩ (by omega) (by omega)
        · exact z_thIAE (text := "the number is below 0") X hl0 (by decide +kernel) dB_produce_25 dB_produce_28 dB_produce_29 dB_produce_31 dB_produce_34 hex (Nat.le_of_ble_eq_true rfl) (Nat.le_of_ble_eq_true rfl) (Nat.le_of_ble_eq_true rfl) (Nat.le_of_ble_eq_true rfl) hlocks (by omega) (by omega) ⟨rfl, Or.inl ⟨rfl, by unfold sProduce; rw [zA_s hi (by decide), zT_s ht, if_pos (Or.inr (Int32.not_le.mp c_22))]⟩⟩
      · obtain ⟨hX, hS9, hn9⟩ := hx
        subst hX
        have hS9 := hS9.symm
        subst hS9
        exact z_out (fun x hx9 => (hex x hx9).elim) hlocks ⟨rfl, Or.inl ⟨rfl, by unfold sProduce; rw [zA_s hi (by decide), zT_s ht, if_pos (Or.inl hn9)]⟩⟩ (by omega) (by omega)
    · obtain ⟨hE, hS9, hn9⟩ := hx
      subst hE
      have hS9 := hS9.symm
      subst hS9
      exact z_out (fun x hx9 => (hex x hx9).elim) hlocks ⟨rfl, Or.inl ⟨rfl, by unfold sProduce; rw [zA_s hi (by decide), zT_n hn9]⟩⟩ (by omega) (by omega)
  · obtain ⟨hE, hS9, hn9⟩ := hx
    subst hE
    have hS9 := hS9.symm
    subst hS9
    exact z_out (fun x hx9 => (hex x hx9).elim) hlocks ⟨rfl, Or.inl ⟨rfl, by unfold sProduce; rw [zA_n hn9]⟩⟩ (by omega) (by omega)
end
section
/-! a partition more -/
theorem zEx_T {b : zBr} {t n z k : Nat} {c : Int32} {v : Nat} : zEx (bT b t n z k c) v ↔ v < 12 ∧ v % 4 < (if v / 4 = t then n else b.1 (v / 4)) := Iff.rfl
theorem zcnt_0 {p : Nat → Bool} (h : ∀ j, p j = false) : ∀ k o, zcnt p k o = 0
  | 0, _ => rfl
  | k + 1, o => by
    show (if p o = true then 1 else 0) + zcnt p k (o + 1) = 0
    rw [h o, zcnt_0 h k (o + 1)]; rfl
/-- the log newly made -/
theorem zLogA_new {S S2 : zS} {u z k : Nat} {cm : Int32} (h1 : S.1 (60 + u) = false) (h2 : S.1 (80 + u) = false) (hz : ∀ n, S.1 n = false → ∀ k, S.2.1 n k = 0 ∧ S.2.2.1 n k = none ∧ S.2.2.2 n k = 0)
    (hS2 : S2 = zsp (zsi (zsi (zsi (zsp (zadd (zadd S (60 + u)) (80 + u)) (60 + u) 3 (some (80 + u))) (60 + u) 0 (nI z)) (60 + u) 1 (nI k)) (60 + u) 2 cm) 3 u (some (60 + u))) : zLogA S2 u ((z, k, cm), (0, 0), fun _ => none) := by
  have hb : zBa ((z, k, cm), (0, 0), fun _ => none) = 0 := by unfold zBa; show 0 / z * z = 0; rw [Nat.zero_div, Nat.zero_mul]
  have hc : zCl ((z, k, cm), (0, 0), fun _ => none) = 0 := by unfold zCl; rw [hb]; show (0 - 0) / z = 0; rw [Nat.sub_zero, Nat.zero_div]
  have hpr : zPr ((z, k, cm), (0, 0), fun _ => none) = 0 := zcnt_0 (fun _ => rfl) 60 0
  have i0 : ∀ j, 3 ≤ j → S2.2.1 (60 + u) j = nI 0 := fun j hj => by
    rw [hS2]
    exact rd_ip (rd_i (Or.inr (by omega)) (rd_i (Or.inr (by omega)) (rd_i (Or.inr (by omega)) (rd_ip ((hz _ h1 j).1.trans nI_0.symm)))))
  have p0 : ∀ o, S2.2.2.1 (80 + u) o = none := fun o => by
    rw [hS2]
    exact rp_p (Or.inl (by omega)) (rp_i (rp_i (rp_i (rp_p (Or.inl (by omega)) (hz _ h2 o).2.1))))
  refine ⟨?_, ?_, ?_, ?_, ?_, ?_, i0 4 (by omega), i0 5 (by omega), by rw [hb]; exact i0 6 (by omega), by rw [hc]; exact i0 7 (by omega), by rw [hpr]; exact i0 8 (by omega), p0, fun o e he => by cases he⟩
  · rw [hS2]; exact zadd_t zadd_s
  · rw [hS2]; exact zadd_s
  · rw [hS2]; exact rd_ip (rd_i (Or.inr (by decide)) (rd_i (Or.inr (by decide)) rd_s))
  · rw [hS2]; exact rd_ip (rd_i (Or.inr (by decide)) rd_s)
  · rw [hS2]; exact rd_ip rd_s
  · rw [hS2]; exact rp_p (Or.inl (by omega)) (rp_i (rp_i (rp_i rp_s)))
theorem zBrA_tp {S1 S2 : zS} {b : zBr} {t j z k : Nat} {cm : Int32} (hB : zBrA (zsi S1 2 t (nI j)) (bT b t j z k cm)) (hL : ∀ v, zEx (bT b t j z k cm) v → zLogW ((bT b t j z k cm).2.1 v)) (ht : t < 3) (hj : j < 3) (hz : ∀ n, S1.1 n = false → ∀ k, S1.2.1 n k = 0 ∧ S1.2.2.1 n k = none ∧ S1.2.2.2 n k = 0)
    (hS2 : S2 = zsp (zsi (zsi (zsi (zsp (zadd (zadd S1 (60 + (t * 4 + j))) (80 + (t * 4 + j))) (60 + (t * 4 + j)) 3 (some (80 + (t * 4 + j)))) (60 + (t * 4 + j)) 0 (nI z)) (60 + (t * 4 + j)) 1 (nI k)) (60 + (t * 4 + j)) 2 cm) 3 (t * 4 + j) (some (60 + (t * 4 + j)))) :
    zBrA (zsi S2 2 t (nI (j + 1))) (bT b t (j + 1) z k cm) ∧ zfr zOwnB S1 S2 := by
  obtain ⟨⟨hn, t0, t1, t2, t3, t4, t5, q6, q7, q8, q9, q10, hpt, hlg, hse, hcu, hop, hgr⟩, hLg, hSs, hGs, hnx, hnf⟩ := hB
  obtain ⟨u, hu⟩ : ∃ u, u = t * 4 + j := ⟨_, rfl⟩
  rw [← hu] at hS2
  have hux : ¬ zEx (bT b t j z k cm) u := fun h => by
    have h2 := (zEx_T.mp h).2
    rw [if_pos (by omega)] at h2; omega
  obtain ⟨n1, n2, n3⟩ := hnx u (by omega) hux
  have n1' : S1.1 (60 + u) = false := n1
  have n2' : S1.1 (80 + u) = false := n2
  have hnew := zLogA_new (u := u) n1' n2' hz hS2
  have hex : ∀ v, zEx (bT b t (j + 1) z k cm) v ↔ zEx (bT b t j z k cm) v ∨ v = u := fun v => by
    rw [zEx_T, zEx_T]
    by_cases h9 : v / 4 = t
    · rw [if_pos h9, if_pos h9]; omega
    · rw [if_neg h9, if_neg h9]
      constructor
      · intro h; exact Or.inl h
      · rintro (h | h)
        · exact h
        · omega
  have hlo : ∀ v, v ≠ u → (bT b t (j + 1) z k cm).2.1 v = (bT b t j z k cm).2.1 v := fun v hv => by
    show (if v / 4 = t ∧ v % 4 < j + 1 then _ else b.2.1 v) = (if v / 4 = t ∧ v % 4 < j then _ else b.2.1 v)
    by_cases h9 : v / 4 = t ∧ v % 4 < j
    · rw [if_pos h9, if_pos ⟨h9.1, by omega⟩]
    · rw [if_neg h9, if_neg (by omega)]
  have hlu : (bT b t (j + 1) z k cm).2.1 u = ((z, k, cm), (0, 0), fun _ => none) := if_pos ⟨by omega, by omega⟩
  have hf2 : zfr (fun n => n = 3 ∨ n = 60 + u ∨ n = 80 + u) S1 S2 := by
    rw [hS2]
    exact (((((zfr.tr (S2 := zadd S1 (60 + u)) ⟨fun q hq => zadd_n (by omega), fun q hq => ⟨rfl, rfl, rfl⟩⟩ (zfr.tr (S2 := zadd (zadd S1 (60 + u)) (80 + u)) ⟨fun q hq => zadd_n (by omega), fun q hq => ⟨rfl, rfl, rfl⟩⟩ (zfr.p (Or.inr (Or.inl rfl))))).tr (zfr.i (Or.inr (Or.inl rfl)))).tr (zfr.i (Or.inr (Or.inl rfl)))).tr (zfr.i (Or.inr (Or.inl rfl))))).tr (zfr.p (Or.inl rfl))
  have hag : ∀ n, n ≠ 2 → n ≠ 3 → n ≠ 60 + u → n ≠ 80 + u → zAg (zsi S1 2 t (nI j)) (zsi S2 2 t (nI (j + 1))) n := fun n h1 h2 h3 h4 => by
    have a := hf2.ag (n := n) (by omega)
    exact ⟨a.1, (z2_o h1).symm.trans (a.2.1.trans (z2_o h1)), a.2.2⟩
  refine ⟨⟨?_, fun v hv => ?_, fun i hi => ?_, fun i hi => ?_, fun v h12 hv => ?_, fun v hv o ho he => ?_⟩, hf2.ownB (fun n h => by omega)⟩
  · have a1 := hag 1 (by decide) (by decide) (by omega) (by omega)
    refine ⟨fun n h1 h2 => ?_, a1.p t0, a1.p t1, a1.p t2, a1.p t3, a1.p t4, a1.p t5, a1.i q6, a1.i q7, a1.i q8, a1.i q9, a1.i q10, fun v hv => ?_, fun v hv => ?_, fun v hv => (hag 4 (by decide) (by decide) (by omega) (by omega)).p (hse v hv), fun v hv => (hag 5 (by decide) (by decide) (by omega) (by omega)).i (hcu v hv), fun v hv => (hag 6 (by decide) (by decide) (by omega) (by omega)).i (hop v hv), fun v hv => (hag 7 (by decide) (by decide) (by omega) (by omega)).p (hgr v hv)⟩
    · show S2.1 n = true
      have h3 : S1.1 n = true := hn n h1 h2
      rw [hS2]
      exact zadd_t (zadd_t h3)
    · show z2 S2.2.1 2 t (nI (j + 1)) 2 v = nI (if v = t then j + 1 else b.1 v)
      by_cases h9 : v = t
      · subst h9; rw [if_pos rfl, z2_s]
      · rw [if_neg h9, z2_n (Or.inr h9)]
        have h8 : z2 S1.2.1 2 t (nI j) 2 v = nI (if v = t then j else b.1 v) := hpt v hv
        rw [if_neg h9, z2_n (Or.inr h9)] at h8
        rw [(hf2.2 2 (by omega)).1]; exact h8
    · show S2.2.2.1 3 v = if v % 4 < (if v / 4 = t then j + 1 else b.1 (v / 4)) then some (60 + v) else none
      have h8 : S1.2.2.1 3 v = if v % 4 < (if v / 4 = t then j else b.1 (v / 4)) then some (60 + v) else none := hlg v hv
      by_cases h9 : v = u
      · subst h9
        rw [if_pos (show v / 4 = t by omega), if_pos (show v % 4 < j + 1 by omega), hS2]; exact rp_s
      · have h7 : S2.2.2.1 3 v = S1.2.2.1 3 v := by
          rw [hS2]
          exact rp_p (Or.inr h9) (rp_i (rp_i (rp_i (rp_p (Or.inl (by omega)) rfl))))
        rw [h7, h8]
        by_cases h6 : v / 4 = t
        · rw [if_pos h6, if_pos h6]
          by_cases h5 : v % 4 < j
          · rw [if_pos h5, if_pos (by omega)]
          · rw [if_neg h5, if_neg (by omega)]
        · rw [if_neg h6, if_neg h6]
  · by_cases h9 : v = u
    · subst h9
      rw [hlu]
      obtain ⟨h1, h2, f0, f1, f2, f3, f4, f5, f6, f7, f8, hent, hee⟩ := hnew
      have r : ∀ {k : Nat} {x : Int32}, S2.2.1 (60 + v) k = x → (zsi S2 2 t (nI (j + 1))).2.1 (60 + v) k = x := fun h => rd_i (Or.inl (by omega)) h
      exact ⟨h1, h2, r f0, r f1, r f2, f3, r f4, r f5, r f6, r f7, r f8, hent, fun o e he => by cases he⟩
    · have hv' := ((hex v).mp hv).resolve_right h9
      have hv12 := hv'.1
      rw [hlo v h9]
      exact zLogA_fr (hLg v hv') (hL v hv') (fun n h8 => hag n (by unfold zOwnG at h8; omega) (by unfold zOwnG at h8; omega) (by unfold zOwnG at h8; omega) (by unfold zOwnG at h8; omega))
  · exact zSsA_fr (hSs i hi) (fun n h8 => hag n (by unfold zOwnS at h8; omega) (by unfold zOwnS at h8; omega) (by unfold zOwnS at h8; omega) (by unfold zOwnS at h8; omega))
  · exact zGrA_fr (hGs i hi) (fun n h8 => hag n (by unfold zOwnH at h8; omega) (by unfold zOwnH at h8; omega) (by unfold zOwnH at h8; omega) (by unfold zOwnH at h8; omega))
  · have h1 : ¬ zEx (bT b t j z k cm) v := fun h => hv ((hex v).mpr (Or.inl h))
    have h2 : v ≠ u := fun h => hv ((hex v).mpr (Or.inr h))
    obtain ⟨m1, m2, m3⟩ := hnx v h12 h1
    exact ⟨(hf2.1 _ (by omega)).trans m1, (hf2.1 _ (by omega)).trans m2, fun o ho => (hf2.1 _ (by omega)).trans (m3 o ho)⟩
  · by_cases h9 : v = u
    · subst h9
      exact (hf2.1 _ (by omega)).trans (n3 o ho)
    · have hv' := ((hex v).mp hv).resolve_right h9
      rw [hlo v h9] at he
      exact (hf2.1 _ (by omega)).trans (hnf v hv' o ho he)
theorem zsi_same {S : zS} {n k : Nat} {x : Int32} (h : S.2.1 n k = x) : zsi S n k x = S := by
  unfold zsi
  rw [show z2 S.2.1 n k x = S.2.1 from by
    funext a b
    by_cases h9 : a = n ∧ b = k
    · rw [h9.1, h9.2, z2_s, h]
    · unfold z2; rw [if_neg h9]]
theorem zsi_zsi {S : zS} {n k : Nat} {x y : Int32} : zsi (zsi S n k x) n k y = zsi S n k y := by
  unfold zsi
  rw [show z2 (S.1, z2 S.2.1 n k x, S.2.2).2.1 n k y = z2 S.2.1 n k y from by
    funext a b
    unfold z2
    by_cases h9 : a = n ∧ b = k
    · rw [if_pos h9, if_pos h9]
    · rw [if_neg h9, if_neg h9]; exact if_neg h9]
theorem bT_0 {b : zBr} {t z k : Nat} {c : Int32} (h : b.1 t = 0) : bT b t 0 z k c = b := by
  unfold bT
  rw [show (fun j => if j = t then 0 else b.1 j) = b.1 from by
    funext j
    by_cases h9 : j = t
    · rw [if_pos h9, h9, h]
    · rw [if_neg h9], show (fun j => if j / 4 = t ∧ j % 4 < 0 then ((z, k, c), (0, 0), fun _ => none) else b.2.1 j) = b.2.1 from by
    funext j
    exact if_neg (by omega)]
theorem zLogW_new {z k : Nat} {c : Int32} (h1 : 1 ≤ z) (h2 : z ≤ 4) (h3 : 1 ≤ k) (h4 : k ≤ 5) : zLogW ((z, k, c), (0, 0), fun _ => none) := ⟨h1, h2, h3, h4, Nat.zero_le _, (by show 0 ≤ 60; omega), Nat.zero_mod _, fun _ _ => rfl, fun _ _ => rfl⟩
theorem zLogW_T {b : zBr} {t j z k : Nat} {c : Int32} (hW : zBrW b) (h1 : 1 ≤ z) (h2 : z ≤ 4) (h3 : 1 ≤ k) (h4 : k ≤ 5) (v : Nat) (h : zEx (bT b t j z k c) v) (h0 : b.1 t = 0) : zLogW ((bT b t j z k c).2.1 v) := by
  show zLogW (if v / 4 = t ∧ v % 4 < j then ((z, k, c), (0, 0), fun _ => none) else b.2.1 v)
  by_cases h9 : v / 4 = t ∧ v % 4 < j
  · rw [if_pos h9]; exact zLogW_new h1 h2 h3 h4
  · rw [if_neg h9]
    have h8 := zEx_T.mp h
    by_cases h7 : v / 4 = t
    · rw [if_pos h7] at h8; omega
    · rw [if_neg h7] at h8; exact hW.2.1 v h8
end
section
/-! CONTRACTS of LogBroker: a new topic (rows by program) -/
set_option maxHeartbeats 600000 in
set_option maxRecDepth 100000 in
theorem mB_topic (l : Launch) (D : va_G) (dA : Nat → ClassId) {S : zS} {b : zBr} {x n0 z0 k0 : Int32} {c0 : Bool} (hl0 : l.stackTraces = false) (hB : zBrA S b) (hW : zBrW b) : zMet l D vwCl zKK dA (zG0 D dA) yB_topic (Cond.code yB_topic cB_topic 7 none :: zTs) { frames := 7, cells := 14, slots := 260, locals := 104 } 14 260 [.ref 1, .int x, .int n0, .int z0, .int k0, .int (zB c0)] S (fun v S' => ∃ b', v = none ∧ sTopic b x n0 z0 k0 (zB c0) = ((0, 0), b') ∧ zBrA S' b' ∧ zfr zOwnB S S') (fun E S' => S' = S ∧ ((E = "java/lang/IllegalArgumentException" ∧ sTopic b x n0 z0 k0 (zB c0) = ((1, 0), b)) ∨ (E = "java/lang/IllegalStateException" ∧ sTopic b x n0 z0 k0 (zB c0) = ((2, 0), b)))) := by
  refine z_met (tys := ztys dA) (by decide) rfl zG0_K rfl (Nat.le_of_ble_eq_true rfl) (fun p e s m args below meth c A ad X hr hlocks hin hex => ?_)
  obtain ⟨hT, hLg, hSs, hGs, hnx, hnf⟩ := id hB
  obtain ⟨v1, v2, v3, v4, v5, v6, v7⟩ := id hW
  obtain ⟨hn, t0, t1, t2, t3, t4, t5, q6, q7, q8, q9, q10, hpt, hlg, hse, hcu, hop, hgr⟩ := id hT
  refine z_iload_n (j := 1) X dB_topic_0 rfl rfl ?_
  refine z_iconst (v := (nI 0)) X dB_topic_1 (by decide) ?_
  refine z_iconst (v := (nI 2)) X dB_topic_2 (by decide) ?_
  refine z_callS (n := 3) (As := [.int x, .int (nI 0), .int (nI 2)]) (rest := []) X zG0_m (mB_mustBeWithin l D dA hl0) (w_S X.2.2.2.2.1 lB_45 tB_mustBeWithin i_LogBroker kB_mustBeWithin rfl rfl (by decide +kernel) ⟨Nat.le_of_ble_eq_true rfl, Nat.le_of_ble_eq_true rfl⟩) rfl rfl (Nat.le_of_ble_eq_true rfl) dB_topic_3 ⟨Nat.le_of_ble_eq_true rfl, Nat.le_of_ble_eq_true rfl⟩ (fun v S9 hp => ?_) (fun E S1 hx => ?_)
  · obtain ⟨hv, hS9, hr1, hr2⟩ := hp
    subst hv
    have hS9 := hS9.symm
    subst hS9
    obtain ⟨t, hx9, ht1, ht2⟩ := zIn (st := 0) (en := 2) (by decide) (by decide) hr1 (Int32.not_lt.mp hr2)
    subst hx9
    refine z_iload_n (j := 2) X dB_topic_6 rfl rfl ?_
    refine z_iconst (v := (nI 1)) X dB_topic_7 (by decide) ?_
    refine z_iconst (v := (nI 3)) X dB_topic_8 (by decide) ?_
    refine z_callS (n := 3) (As := [.int n0, .int (nI 1), .int (nI 3)]) (rest := []) X zG0_m (mB_mustBeWithin l D dA hl0) (w_S X.2.2.2.2.1 lB_45 tB_mustBeWithin i_LogBroker kB_mustBeWithin rfl rfl (by decide +kernel) ⟨Nat.le_of_ble_eq_true rfl, Nat.le_of_ble_eq_true rfl⟩) rfl rfl (Nat.le_of_ble_eq_true rfl) dB_topic_9 ⟨Nat.le_of_ble_eq_true rfl, Nat.le_of_ble_eq_true rfl⟩ (fun v S9 hp => ?_) (fun E S1 hx => ?_)
    · obtain ⟨hv, hS9, hr1, hr2⟩ := hp
      subst hv
      have hS9 := hS9.symm
      subst hS9
      obtain ⟨n, hx9, hn1, hn2⟩ := zIn (st := 1) (en := 3) (by decide) (by decide) hr1 (Int32.not_lt.mp hr2)
      subst hx9
      refine z_iload_n (j := 3) X dB_topic_12 rfl rfl ?_
      refine z_iconst (v := (nI 1)) X dB_topic_13 (by decide) ?_
      refine z_iconst (v := (nI 4)) X dB_topic_14 (by decide) ?_
      refine z_callS (n := 3) (As := [.int z0, .int (nI 1), .int (nI 4)]) (rest := []) X zG0_m (mB_mustBeWithin l D dA hl0) (w_S X.2.2.2.2.1 lB_45 tB_mustBeWithin i_LogBroker kB_mustBeWithin rfl rfl (by decide +kernel) ⟨Nat.le_of_ble_eq_true rfl, Nat.le_of_ble_eq_true rfl⟩) rfl rfl (Nat.le_of_ble_eq_true rfl) dB_topic_15 ⟨Nat.le_of_ble_eq_true rfl, Nat.le_of_ble_eq_true rfl⟩ (fun v S9 hp => ?_) (fun E S1 hx => ?_)
      · obtain ⟨hv, hS9, hr1, hr2⟩ := hp
        subst hv
        have hS9 := hS9.symm
        subst hS9
        obtain ⟨z, hx9, hz1, hz2⟩ := zIn (st := 1) (en := 4) (by decide) (by decide) hr1 (Int32.not_lt.mp hr2)
        subst hx9
        refine z_iload (j := 4) X dB_topic_18 rfl ?_
        refine z_iconst (v := (nI 1)) X dB_topic_20 (by decide) ?_
        refine z_iconst (v := (nI 5)) X dB_topic_21 (by decide) ?_
        refine z_callS (n := 3) (As := [.int k0, .int (nI 1), .int (nI 5)]) (rest := []) X zG0_m (mB_mustBeWithin l D dA hl0) (w_S X.2.2.2.2.1 lB_45 tB_mustBeWithin i_LogBroker kB_mustBeWithin rfl rfl (by decide +kernel) ⟨Nat.le_of_ble_eq_true rfl, Nat.le_of_ble_eq_true rfl⟩) rfl rfl (Nat.le_of_ble_eq_true rfl) dB_topic_22 ⟨Nat.le_of_ble_eq_true rfl, Nat.le_of_ble_eq_true rfl⟩ (fun v S9 hp => ?_) (fun E S1 hx => ?_)
        · obtain ⟨hv, hS9, hr1, hr2⟩ := hp
          subst hv
          have hS9 := hS9.symm
          subst hS9
          obtain ⟨k, hx9, hk1, hk2⟩ := zIn (st := 1) (en := 5) (by decide) (by decide) hr1 (Int32.not_lt.mp hr2)
          subst hx9
          refine z_aload_n (j := 0) X dB_topic_25 rfl rfl ?_
          refine z_getr (C := RB) (T := TB) (N := 11) (k := 0) X (w_in inB) rfl rfl rfl (by decide) (w_m lB_9) rfl rfl t0 dB_topic_26 ?_
          refine z_iload_n (j := 1) X dB_topic_29 rfl rfl ?_
          refine z_iald (t0 := 0) X rfl rfl (by omega) (by decide) dB_topic_30 (hv := (hpt t (by omega))) ?_
          refine z_if_le (tgt := 44) X dB_topic_31 (by decide) (fun c_31 => ?_) (fun c_31 => ?_)
          · refine z_aload_n (j := 0) X dB_topic_44 rfl rfl ?_
            refine z_getr (C := RB) (T := TB) (N := 11) (k := 0) X (w_in inB) rfl rfl rfl (by decide) (w_m lB_9) rfl rfl t0 dB_topic_45 ?_
            refine z_iload_n (j := 1) X dB_topic_48 rfl rfl ?_
            refine z_iload_n (j := 2) X dB_topic_49 rfl rfl ?_
            have h0 : b.1 t = 0 := by
              have h9 := v1 t (by omega)
              exact Nat.eq_zero_of_not_pos (fun h => nI_nle h (by omega) c_31)
            refine z_iast (t0 := 0) X rfl rfl (by omega) (by decide) dB_topic_50 ?_
            refine z_iconst (v := (nI 0)) X dB_topic_51 (by decide) ?_
            refine z_istore (L' := [(6, .int (nI 0)), (0, .ref 1), (1, .int (nI t)), (2, .int (nI n)), (3, .int (nI z)), (4, .int (nI k)), (5, .int (zB c0))]) X dB_topic_52 (by decide) rfl ?_
            have loop : ∀ (f j : Nat) (S1 : zS) (kc ks : Nat), n - j < f → j ≤ n → kc ≤ 4 + 2 * j → ks ≤ 24 + 69 * j → zBrA (zsi S1 2 t (nI j)) (bT b t j z k (zB c0)) → zfr zOwnB S S1 → S1.2.1 2 t = nI n → AW p l e { frames := 7, cells := 14, slots := 260, locals := 104 } s m args below meth c D vwCl zKK dA A (ad, S) 7 S1 kc ks (vx_MQ below (zQc D vwCl zKK dA A ad S (fun v S' => ∃ b', v = none ∧ sTopic b (nI t) (nI n) (nI z) (nI k) (zB c0) = ((0, 0), b') ∧ zBrA S' b' ∧ zfr zOwnB S S')) (zXC D vwCl zKK dA A ad S (fun E S' => S' = S ∧ ((E = "java/lang/IllegalArgumentException" ∧ sTopic b (nI t) (nI n) (nI z) (nI k) (zB c0) = ((1, 0), b)) ∨ (E = "java/lang/IllegalStateException" ∧ sTopic b (nI t) (nI n) (nI z) (nI k) (zB c0) = ((2, 0), b))))) args s 14 260 A) 54 [(6, .int (nI j)), (0, .ref 1), (1, .int (nI t)), (2, .int (nI n)), (3, .int (nI z)), (4, .int (nI k)), (5, .int (zB c0))] [] := by
              intro f
              induction f with
              | zero => intro j S1 kc ks h0; omega
              | succ f ih =>
              intro j S1 kc ks h0' hj hkc hks hB1 hfr hp2
              obtain ⟨hn, t0, t1, t2, t3, t4, t5, q6, q7, q8, q9, q10, hpt, hlg, hse, hcu, hop, hgr⟩ := id hB1.1
              refine z_iload (j := 0) X dB_topic_54 rfl ?_
              refine z_iload_n (j := 3) X dB_topic_56 rfl rfl ?_
              refine z_icmp_geN (tgt := 89) X dB_topic_57 (by decide) (by omega) (by omega) (fun c_57 => ?_) (fun c_57 => ?_)
              · refine z_vret X hlocks hr dB_topic_89 (by omega) (by omega) ?_
                have e9 : j = n := by omega
                subst e9
                rw [zsi_same hp2] at hB1
                exact ⟨_, rfl, by unfold sTopic; rw [zR_s ht1 ht2 (by decide), zR_s hn1 hn2 (by decide), zR_s hz1 hz2 (by decide), zR_s hk1 hk2 (by decide), if_neg (fun h => h h0)], hB1, hfr⟩
              · refine z_zero (fun hz0 => ?_)
                obtain ⟨hx1, hx2, hx3⟩ := hB1.2.2.2.2.1 (t * 4 + j) (by omega) (fun h => by
                  have h2 := (zEx_T.mp h).2
                  rw [if_pos (by omega)] at h2; omega)
                have hx1 : S1.1 (60 + (t * 4 + j)) = false := hx1
                have hx2 : S1.1 (80 + (t * 4 + j)) = false := hx2
                refine z_aload_n (j := 1) X dB_topic_60 rfl rfl ?_
                refine z_getr (C := RB) (T := TB) (N := 11) (k := 1) X (w_in inB) rfl rfl rfl (by decide) (w_m lB_15) rfl rfl t1 dB_topic_61 ?_
                refine z_iload_n (j := 2) X dB_topic_64 rfl rfl ?_
                refine z_iconst (v := (nI 4)) X dB_topic_65 (by decide) ?_
                refine z_imul X dB_topic_66 ?_
                refine z_top (pk_mul t 4) ?_
                refine z_iload (j := 0) X dB_topic_67 rfl ?_
                refine z_iadd X dB_topic_69 ?_
                refine z_top (nI_add (t * 4) j) ?_
                refine z_new (C := RG) (T := TG) (N := 9) (ci := 1) (n := 60 + (t * 4 + j)) X (w_in inG) rfl rfl (kd_G (by omega)) hx1 (by omega) tyG tyG_ok (by decide +kernel) (w_m lB_13) (w_m n_LogBroker_Log) (w_m i_LogBroker_Log) (by show _ ≤ 14; omega) (by show _ ≤ 260; omega) dB_topic_70 ?_
                refine z_dup X dB_topic_73 rfl ?_
                refine z_iload_n (j := 4) X dB_topic_74 rfl rfl ?_
                refine z_iload (j := 5) X dB_topic_75 rfl ?_
                refine z_iload (j := 6) X dB_topic_77 rfl ?_
                refine z_callI (n := 3) (As := [.int (nI z), .int (nI k), .int (zB c0)]) (rest := [.ref (60 + (t * 4 + j)), .int (nI (t * 4 + j)), .ref 3]) X zG0_m (fun _ _ h => h) (mG_init l D dA (tp := (t * 4 + j)) (z := z) (k := k) (by omega) ((zadd_n (by omega)).trans hx2) (by cases c0 <;> first | exact Or.inl rfl | exact Or.inr rfl)) (w_I X.2.2.2.2.1 lB_56 jG_init i_LogBroker_Log kG_init rfl rfl rfl (by decide +kernel) ⟨Nat.le_of_ble_eq_true rfl, Nat.le_of_ble_eq_true rfl⟩) rfl rfl (Nat.le_of_ble_eq_true rfl) dB_topic_79 ⟨by show _ ≤ 14; omega, by show _ ≤ 260; omega⟩ (fun v S2 hp => ?_)
                obtain ⟨hv, hS2⟩ := hp
                subst hv
                subst hS2
                refine z_aast (t0 := 3) X rfl (by decide) (by decide) (by decide) rfl (by omega) (by decide) (kd_G (by omega)) rfl rfl dB_topic_82 ?_
                refine z_iinc (j := 0) (v := (nI (j + 1))) (L' := [(6, .int (nI (j + 1))), (0, .ref 1), (1, .int (nI t)), (2, .int (nI n)), (3, .int (nI z)), (4, .int (nI k)), (5, .int (zB c0))]) X dB_topic_83 rfl (nI_1 j) (by decide) rfl ?_
                refine z_goto (tgt := 54) X dB_topic_86 (by decide) ?_
                obtain ⟨hB2, hf2⟩ := zBrA_tp hB1 (fun v hv => zLogW_T hW hz1 hz2 hk1 hk2 v hv h0) (by omega) (by omega) hz0 rfl
                exact ih (j + 1) _ _ _ (by omega) (by omega) (by omega) (by omega) hB2 (hfr.tr hf2) (rd_ip (rd_i (Or.inl (by omega)) (rd_i (Or.inl (by omega)) (rd_i (Or.inl (by omega)) (rd_ip hp2)))))
            refine z_loc [0, 1, 2, 3, 4, 5, 6] rfl ?_
            exact loop (n + 1) 0 _ _ _ (by omega) (by omega) (by omega) (by omega) (by
              rw [bT_0 h0, zsi_zsi, zsi_same (by rw [hpt t (by omega), h0])]; exact hB) (zfr.ownB (zfr.i (own := fun n => n = 2) rfl) (fun n h => by omega)) rd_s
          · exact z_thISE (text := "the topic is there") X hl0 (by decide +kernel) dB_topic_34 dB_topic_37 dB_topic_38 dB_topic_40 dB_topic_43 hex (Nat.le_of_ble_eq_true rfl) (Nat.le_of_ble_eq_true rfl) (Nat.le_of_ble_eq_true rfl) (Nat.le_of_ble_eq_true rfl) hlocks (by omega) (by omega) ⟨rfl, Or.inr (⟨rfl, by unfold sTopic; rw [zR_s ht1 ht2 (by decide), zR_s hn1 hn2 (by decide), zR_s hz1 hz2 (by decide), zR_s hk1 hk2 (by decide), if_pos (show ¬ b.1 t = 0 from fun h => c_31 (by rw [h]; decide))]⟩)⟩
        · obtain ⟨hX, hS9, hn9⟩ := hx
          subst hX
          have hS9 := hS9.symm
          subst hS9
          exact z_out (fun x hx9 => (hex x hx9).elim) hlocks ⟨rfl, Or.inl ⟨rfl, by unfold sTopic; rw [zR_s ht1 ht2 (by decide), zR_s hn1 hn2 (by decide), zR_s hz1 hz2 (by decide), zR_n hn9]⟩⟩ (by omega) (by omega)
      · obtain ⟨hX, hS9, hn9⟩ := hx
        subst hX
        have hS9 := hS9.symm
        subst hS9
        exact z_out (fun x hx9 => (hex x hx9).elim) hlocks ⟨rfl, Or.inl ⟨rfl, by unfold sTopic; rw [zR_s ht1 ht2 (by decide), zR_s hn1 hn2 (by decide), zR_n hn9]⟩⟩ (by omega) (by omega)
    · obtain ⟨hX, hS9, hn9⟩ := hx
      subst hX
      have hS9 := hS9.symm
      subst hS9
      exact z_out (fun x hx9 => (hex x hx9).elim) hlocks ⟨rfl, Or.inl ⟨rfl, by unfold sTopic; rw [zR_s ht1 ht2 (by decide), zR_n hn9]⟩⟩ (by omega) (by omega)
  · obtain ⟨hX, hS9, hn9⟩ := hx
    subst hX
    have hS9 := hS9.symm
    subst hS9
    exact z_out (fun x hx9 => (hex x hx9).elim) hlocks ⟨rfl, Or.inl ⟨rfl, by unfold sTopic; rw [zR_n hn9]⟩⟩ (by omega) (by omega)
end
