/-! THE LAW'S ENTRY: what the tables and the start give -/
theorem k_prim {args : Array Value} {s : State} {t : FieldType} (ht : ∀ C, t ≠ .object C) (h : (Cond.arrayClass t).before args s = true) : ∃ c : ClassId, ArrOfT s c t ∧ va_RA s c t := by
  obtain ⟨c, k, comp, h1, h2, h3⟩ := Cond.arrayClass_spec h
  refine ⟨c, fun N z => ⟨(fun k h => by cases h), k, h2, comp, h3⟩, ?_⟩
  cases t with
  | object C => exact absurd rfl (ht C)
  | _ => exact h1
theorem k_obj9 {args : Array Value} {s : State} {C : String} (h : (Cond.arrayOver (.object C)).before args s = true) : ∃ c : ClassId, ArrOfT s c (.object C) ∧ va_RA s c (.object C) := by
  obtain ⟨comp, c, k, h1, h2, h3, h4, h5⟩ := Cond.arrayOver_spec h
  exact ⟨c, fun N z => ⟨(fun k h => by cases h), k, h3, comp, h4⟩, k, comp, h3, h4, h1, h5⟩
theorem k_str {args : Array Value} {s : State} {own tx : String} {k : Nat} (h1 : (Cond.stringRef own k tx).before args s = true) (h2 : (Cond.exactly (.string own k) "java/lang/String").before args s = true) : ∃ sa, vk_R own k tx sa s := by
  obtain ⟨a, c, cell, kk, q1, -⟩ := Cond.exactly_spec (args := args) (first := s) (o := none) (s := s) (idx := []) h2
  exact ⟨a, vk_R.of h1 q1⟩
def zGiven : List Cond := flatC (Jvm.Cond.and given_1 narrow_1)
theorem zg_cast : ∀ q ∈ zcast, Cond.castable q.1 q.2 ∈ lw_tbl := by decide +kernel
theorem zg_decl : ∀ y ∈ zdecl, Cond.declares y ∈ lw_tbl := by decide +kernel
theorem zg_text : ∀ q ∈ ztexts, Cond.stringRef q.1 q.2.1 q.2.2 ∈ lw_tbl := by decide +kernel
theorem zg_exact : ∀ q ∈ ztexts, Cond.exactly (.string q.1 q.2.1) "java/lang/String" ∈ zGiven := by decide +kernel
theorem zg_over : ∀ C ∈ zover, Cond.arrayOver (.object C) ∈ lw_tbl := by decide +kernel
theorem zg_nc : ∀ q ∈ znc, Cond.not (.castable q.1 q.2) ∈ zGiven := by decide +kernel
theorem zg_nest : zNest ∈ lw_tbl := by decide +kernel
theorem zg_u : Cond.laysStatic Bundle.tN "UNASSIGNED_STACK" Bundle.steD ∈ lw_tbl ∧ Cond.laysStatic Bundle.tN "SUPPRESSED_SENTINEL" Bundle.listD ∈ lw_tbl ∧ Cond.initialized Bundle.tN ∈ lw_tbl := by decide +kernel
theorem zg_r : Cond.isRef (.static Bundle.tN "UNASSIGNED_STACK" Bundle.steD) ∈ zGiven ∧ Cond.isRef (.static Bundle.tN "SUPPRESSED_SENTINEL" Bundle.listD) ∈ zGiven := by decide +kernel
theorem zg_ac : Cond.arrayClass .int ∈ lw_tbl ∧ Cond.arrayClass .boolean ∈ lw_tbl ∧ Cond.arrayClass .long ∈ lw_tbl := by decide +kernel
set_option maxHeartbeats 1000000 in
theorem whole_start {p : Program} {e : Env} {s : State} {m : MethodId} {below : List Frame} {meth : Method} {c : Code} (l : Launch) (hl0 : l.stackTraces = false) {b L : Nat} {xs : Nat → Int32} (hL : L ≤ 3072) (C0 : lw_At p s m meth c b L xs) : W p l e room_1 s m #[Value.ref b] below meth c s.heap [] 0 0 (lw_Z below #[Value.ref b] s) (entryFrame m ([Value.ref b] : List Value).toArray 7) := by
  obtain ⟨hx, hb, hr, hml, hown, hts, hX, hbl, hlocks, hgv⟩ := id C0
  have hg : ∀ w ∈ zGiven, w.before #[Value.ref b] s = true := flat_of_before _ hgv
  have hz : ∀ w ∈ zTs, w.before #[Value.ref b] s = true := fun w h => hts w (List.mem_filter.mp h).1
  obtain ⟨c0, i0, k0⟩ := u_known (C := RE) (T := TE) (N := 5) (n := 5) hz inE (hz _ n_LogBroker_Entry)
  obtain ⟨c1, i1, k1⟩ := u_known (C := RG) (T := TG) (N := 9) (n := 9) hz inG (hz _ n_LogBroker_Log)
  obtain ⟨c2, i2, k2⟩ := u_known (C := RS) (T := TS) (N := 4) (n := 4) hz inS (hz _ n_LogBroker_Session)
  obtain ⟨c3, i3, k3⟩ := u_known (C := RH) (T := TH) (N := 5) (n := 5) hz inH (hz _ n_LogBroker_Group)
  obtain ⟨c4, i4, k4⟩ := u_known (C := RB) (T := TB) (N := 11) (n := 11) hz inB (hz _ n_LogBroker)
  obtain ⟨c5, i5, k5⟩ := u_known (C := RM) (T := TM) (N := 28) (n := 28) hz inM (hz _ n_LogBrokerModel)
  obtain ⟨a0, ha0⟩ := k_prim (t := .int) (fun _ h => by cases h) (hts _ zg_ac.1)
  obtain ⟨a1, ha1⟩ := k_prim (t := .boolean) (fun _ h => by cases h) (hts _ zg_ac.2.1)
  obtain ⟨a2, ha2⟩ := k_prim (t := .long) (fun _ h => by cases h) (hts _ zg_ac.2.2)
  obtain ⟨a3, ha3⟩ := k_obj9 (C := "LogBroker$Log") (hts _ (zg_over _ (by decide)))
  obtain ⟨a4, ha4⟩ := k_obj9 (C := "LogBroker$Session") (hts _ (zg_over _ (by decide)))
  obtain ⟨a5, ha5⟩ := k_obj9 (C := "LogBroker$Group") (hts _ (zg_over _ (by decide)))
  obtain ⟨a6, ha6⟩ := k_obj9 (C := "LogBroker$Entry") (hts _ (zg_over _ (by decide)))
  obtain ⟨D, hD⟩ : ∃ D : va_G, ∀ (k : Nat) (q : vw_C), vwCl[k]? = some q → u_Kn s q.1 q.2.1 q.2.2 (D.1 k) (D.2 k) := by
    refine ⟨(fun k => if k = 0 then c0 else if k = 1 then c1 else if k = 2 then c2 else if k = 3 then c3 else if k = 4 then c4 else c5, fun k => if k = 0 then i0 else if k = 1 then i1 else if k = 2 then i2 else if k = 3 then i3 else if k = 4 then i4 else i5), ?_⟩
    intro k q hq
    match k, hq with
    | 0, hq => cases hq; exact k0
    | 1, hq => cases hq; exact k1
    | 2, hq => cases hq; exact k2
    | 3, hq => cases hq; exact k3
    | 4, hq => cases hq; exact k4
    | 5, hq => cases hq; exact k5
    | k + 6, hq => simp [vwCl] at hq
  obtain ⟨dA, hdA⟩ : ∃ dA : Nat → ClassId, ∀ (k : Nat) (q : ClassId × FieldType), (ztys dA)[k]? = some q → ArrOfT s q.1 q.2 ∧ va_RA s q.1 q.2 := by
    refine ⟨fun k => if k = 0 then a0 else if k = 1 then a1 else if k = 2 then a2 else if k = 3 then a3 else if k = 4 then a4 else if k = 5 then a5 else a6, ?_⟩
    intro k q hq
    match k, hq with
    | 0, hq => cases hq; exact ha0
    | 1, hq => cases hq; exact ha1
    | 2, hq => cases hq; exact ha2
    | 3, hq => cases hq; exact ha3
    | 4, hq => cases hq; exact ha4
    | 5, hq => cases hq; exact ha5
    | 6, hq => cases hq; exact ha6
    | k + 7, hq => simp [ztys] at hq
  have hK : va_K D vwCl (ztys dA) s := ⟨hD, hdA⟩
  have hG : zG1 D dA (fun q : Nat => s.heap.size ≤ q) s := ⟨⟨hK, vx_Zqof (hts _ zg_u.1) (hts _ zg_u.2.2) (hg _ zg_r.1) (fun a h9 => Nat.not_le.mpr h9), vx_Zqof (hts _ zg_u.2.1) (hts _ zg_u.2.2) (hg _ zg_r.2) (fun a h9 => Nat.not_le.mpr h9), fun q hq => va_Nw.of rfl (hts _ (zg_cast q hq)), fun y hy => va_Nw.of rfl (hts _ (zg_decl y hy)), fun q hq => k_str (hts _ (zg_text q hq)) (hg _ (zg_exact q hq)), fun C hC => va_AO.of (hts _ (zg_over C hC)), fun q hq => va_Nc.of (hg _ (zg_nc q hq))⟩, va_Nw.of rfl (hts _ zg_nest)⟩
  have X : zX p s m #[Value.ref b] c D vwCl zKK (fun q : Nat => s.heap.size ≤ q) code 7 "LogBrokerLaw" (Cond.initialized "LogBroker" :: zTs) (ztys dA) (zG1 D dA) := ⟨hx, hb, hml, hown, fun w hw => (List.mem_cons.mp hw).elim (fun h => by rw [h]; exact hz _ i_LogBroker) (hz w), hK, fun _ h => h, rfl, hG⟩
  have h0 := law_start (l := l) (e := e) (below := below) X hr hlocks hl0 hX hbl (O := (fun _ => b, zS0)) rfl hL
  have hl := lv_entry ([.ref b]) (n := 7) (Nat.le_of_ble_eq_true rfl)
  rw [lg_entry_eq]
  generalize (lg_sl ([.ref b]) ++ List.replicate (7 - (lg_sl ([.ref b])).length) Slot.unset).toArray = ls at hl ⊢
  have hH0 : zH D vwCl zKK dA (fun q : Nat => s.heap.size ≤ q) (fun _ => b, zS0) (fun _ => b) zS0 s.heap := by
    refine ⟨zext.rf, ?_, ?_, rfl, [], List.nodup_nil, ?_, ?_, ?_⟩
    · intro n k x h
      exact absurd (show (none : Option Nat) = some x from h) (by simp)
    · intro n _ k
      exact ⟨rfl, rfl, rfl⟩
    · intro n
      exact ⟨fun h => absurd h List.not_mem_nil, fun h => absurd (show false = true from h) (by decide)⟩
    · intro k q h
      exact absurd (show (([] : va_W)[k]?) = some q from h) (by simp)
    · exact ⟨fun i j p q h => absurd (show (([] : va_W)[i]?) = some p from h) (by simp), fun k q h => absurd (show (([] : va_W)[k]?) = some q from h) (by simp)⟩
  exact h0 (fun _ => b) s.heap [] ls hH0 va_S.rf hl ⟨fun q hq => by
    rw [List.mem_singleton.mp hq]
    exact Or.inl rfl, fun _ h => nomatch h⟩
set_option maxHeartbeats 4000000 in
theorem lw_walk (l : Launch) (hl0 : l.stackTraces = false) (b : Addr) (xs : List Int32) : MetFree l x (headSpec (Jvm.Cond.code x code maxLocals ret :: tables_1) room_1) (lw_P b xs) (fun _ _ _ _ _ => True) lw_Q := by
  refine MetFree.of_bodyS (code := code) (maxLocals := maxLocals) (ret := ret) (by decide) ?_ ?_
  · intro args s m h hn
    obtain ⟨meth, c, h1, h2, h3, h4, h5, h6, -, -⟩ := Cond.code_spec hn (atoms_spec (ws := Jvm.Cond.code x code maxLocals ret :: tables_1) h _ List.mem_cons_self)
    exact ⟨meth, c, h1, h2, h3, h4, h5, h6⟩
  · intro p e s m args below meth c s₁ B hml0 hP _
    obtain ⟨rfl, hx, hbd, hgv⟩ := hP
    obtain ⟨scr, harrAt, hlist, hof, hsmall⟩ := hx
    obtain ⟨hcb, hkn, -, -⟩ := State.arrayAt?_spec harrAt
    have hown : s.vm.findClass R_law = some m.cls := findClass_of_methodNamed B.named
    have hts0 : ∀ c ∈ (Jvm.Cond.code x code maxLocals ret :: tables_1), c.before #[Value.ref b] s = true := atoms_spec (ws := Jvm.Cond.code x code maxLocals ret :: tables_1) B.pre
    have hts : ∀ w ∈ lw_tbl, w.before #[Value.ref b] s = true := k2_hts_sels lw_privs (fun w hw => hts0 w (List.mem_cons_of_mem _ hw)) lw_privs_ok
    have hml : c.maxLocals = 7 := B.maxLocals_eq (hts0 _ List.mem_cons_self)
    have X₀ : Stand p l e room_1 s m #[Value.ref b] below meth c s₁ [] 0 0 := Stand.of_body B
    have hh0 : s₁.heap = s.heap := by rw [B.state]; rfl
    have hsz : scr.slots.size = xs.length := by rw [← Array.length_toList, hlist, List.length_map]
    have hval : ∀ j : Nat, j < xs.length → scr.slots[j]? = some (.int (xs.getD j 0)) := fun j hj => by
      rw [← Array.getElem?_toList, hlist]
      simp [hj]
    have hbl : b < s.heap.size := (Array.getElem?_eq_some_iff.mp hcb).1
    have hX : va_X b xs.length (fun j => xs.getD j 0) s s.heap := ⟨scr, hcb, hof, hkn, hsz, hval⟩
    have K : W p l e room_1 s m #[Value.ref b] below meth c s₁.heap [] 0 0 (lw_Z below #[Value.ref b] s) (entryFrame m ([Value.ref b] : List Value).toArray 7) := by
      rw [hh0]
      exact whole_start l hl0 hbd ⟨B.exec, B.bytes, B.returns, hml, hown, hts, hX, hbl, B.notSynchronized, hgv⟩
    obtain ⟨t, a1, o, b1, b2, b3⟩ := K s₁ rfl X₀
    exact ⟨t, o, a1, b1, b2, b3⟩
theorem lw_pre_spec {args : Array Value} {s : State} (h : (Jvm.Cond.and given_1 narrow_1).before args s = true) (hr : rest_1_c.before args s = true) : ∃ (b : Addr) (xs : List Int32), lw_P b xs args s := by
  have hs := flat_of_before _ h
  have hq := flat_of_before _ hr
  have hc : (Cond.count 1).before args s = true := hs _ (by decide +kernel)
  have harr : (Cond.arrayOf (.arg 0) .int).before args s = true := hs _ (by decide +kernel)
  have hle : (Cond.le (.length (.arg 0)) (.int 3072)).before args s = true := hs _ (by decide +kernel)
  have hlen : (Cond.isInt (.length (.arg 0))).before args s = true := hq _ (by decide +kernel)
  have hall : (Cond.all (.arg 0) (.isInt (.elem (.arg 0) (.index 0)))).before args s = true := hq _ (by decide +kernel)
  obtain ⟨b, xs, hb, hx⟩ := State.ints_of_pre rfl harr hlen hall
  have hsm : xs.length < 2 ^ 31 := hx.choose_spec.2.2.2
  have hev : (Term.length (.arg 0)).eval args s none [] s = some (.int xs.length.toInt32) := hx.length_eval hb
  have hv := Cond.le_ints hev (show (Term.int 3072).eval args s none [] s = some (.int 3072) from rfl)
  have hd : xs.length.toInt32 ≤ 3072 := by
    simpa [Cond.before, Cond.holds, hv] using hle
  have hN : xs.length ≤ 3072 := (Int32.ofNat_le_ofNat hsm (by decide)).mp (show Int32.ofNat xs.length ≤ Int32.ofNat 3072 from hd)
  exact ⟨b, xs, Cond.one_arg hc (show args[0]? = some (.ref b) from hb), hx, hN, h⟩
theorem lw_comes (l : Launch) (hl0 : l.stackTraces = false) : Comes l x (Jvm.Cond.code x code maxLocals ret :: tables_1) room_1 (fun tb e args s => Calls_1 tb e args s ∧ rest_1 tb e args s ∧ Pre_1 tb e args s)
    (fun _ _ args s o t => lw_Q args s o t) := by
  intro p e ha hc hk s m args below hf hfit hheap happ hpre
  obtain ⟨b, xs, hP⟩ := lw_pre_spec hpre.2.2 hpre.2.1
  obtain ⟨k, o, h1, h2, h3, hQ⟩ := lw_walk l hl0 b xs p e ha hc hk s m args below hf ((Spec.applies_iff_loose hf).mp happ).1 hP trivial
  exact ⟨k, o, h1, h2, h3, hQ⟩
theorem lw_frame {s t : State} {o : Outcome} {args : Array Value} (h : Framed s o t [] 601024 7293034) :
    Framed s o t (fieldLocs frame_1_writes args s ++ arrayLocs frame_1_arrays args s ++ staticLocs frame_1_statics s) 601024 7293034 := h
theorem lw_limb (L : Cond) (hL : ∀ (args : Array Value) (s t : State), L.after args s (.returned (some (.int 1))) t = true) :
    ArmFor flags0 classFile x code maxLocals ret World_1 tables_1 room_1 Calls_1 rest_1 Pre_1
      (fun tb e a s o t => postC L tb e a s o t ∧ Framed s o t (fieldLocs frame_1_writes a s ++ arrayLocs frame_1_arrays a s ++ staticLocs frame_1_statics s) 601024 7293034) := by
  intro l hfl _ _ p e ha hc hk s m args below hf hfit hheap happ hpre
  obtain ⟨k, o, h1, h2, h3, rfl, hF⟩ := lw_comes l (by show (!l.flags.contains Jvm.noTraceFlag) = false; rw [hfl]; decide +kernel) p e ha hc hk s m args below hf hfit hheap happ hpre
  exact ⟨k, _, h1, h2, h3, hL args s _, lw_frame hF⟩
theorem i_vc : Claimed_1_1 ∧ Claimed_1_2 := ⟨lw_limb limb_1_1 (fun args s t => by simp [limb_1_1, Cond.after, Cond.holds, Cond.value]), lw_limb limb_1_2 (fun args s t => Cond.after_iff.mpr (by
  first | (rw [show limb_1_2 = Cond.eq .result (.int 1) from rfl, Cond.eq_ints (x := 1) (y := 1) rfl rfl]; simp; done) | (simp [limb_1_2, Cond.value, Term.eval]; done)))⟩
