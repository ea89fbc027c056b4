/-! CONTRACTS of the law's helpers (rows by program) -/
theorem rl_s {S : zS} {n k : Nat} {x : Int64} : (zsl S n k x).2.2.2 n k = x := z2_s
/-! calls of a method with an exception table, from the abstract store -/
section ZSX
variable {p : Program} {l : Launch} {e : Env} {R : Room} {s : State} {m : MethodId} {args : Array Value} {below : List Frame} {meth : Method} {c : Code} {kc ks : Nat} {Q : State → Prop}
variable {D : va_G} {cl : List vw_C} {K : zK} {dA : Nat → ClassId} {A : Nat → Prop} {O : (Nat → Nat) × zS} {cc : ByteArray} {nL : Nat} {own : String} {Ts : List Cond} {tys : List (ClassId × FieldType)} {G : (Nat → Prop) → State → Prop} {S : zS} {pc : Nat} {L : List (Nat × Value)} {st : List Value}
theorem z_callSX (X : zX p s m args c D cl K A cc nL own Ts tys G) (hG : zGm G) {y : MethodName} {bytes : ByteArray} {maxL mc ms index n : Nat} {ret : Option FieldType} {hh : List (Nat × Nat × Nat × Nat)} {ws : List Cond} {rm : Room} {As rest st0 : List Value} {Post : Option Value → zS → Prop} {PX : String → zS → Prop}
    (hM : zMet l D cl K dA G y ws rm mc ms As S Post PX) (cw : vx_CSW R s args own index y bytes maxL ret hh ws rm mc ms n) (hn : As.length = n) (hst : As.reverse ++ rest = st0)
    (hw : (rest.map fun v => v.category).sum ≤ 8) (hd : decode cc pc = .ok (.invokestatic index, 3)) (hf : kc + mc ≤ R.cells ∧ ks + ms ≤ R.slots)
    (kk : ∀ (v : Option Value) (S' : zS), Post v S' → AW p l e R s m args below meth c D cl K dA A O nL S' (kc + mc) (ks + ms) Q (pc + 3) L (v.toList ++ rest))
    (kx : ∀ (E : String) (S' : zS), PX E S' → AWX p l e R s m args below meth c D cl K dA A O nL S' (kc + mc) (ks + ms) Q pc L rest E) : AW p l e R s m args below meth c D cl K dA A O nL S kc ks Q pc L st0 := by
  intro ad H locs ls hH hS hl ho
  have hoA : ∀ v ∈ As, zo S v := fun v hv => ho.2 v (by rw [← hst]; exact List.mem_append_left _ (List.mem_reverse.mpr hv))
  have hor : zok S L rest := ⟨ho.1, fun v hv => ho.2 v (by rw [← hst]; exact List.mem_append_right _ hv)⟩
  refine z_run (a := (As.map (zv ad)).toArray) (vx_runSX (As := As.map (zv ad)) ⟨X.1, X.2.1, X.2.2.1, X.2.2.2.1, X.2.2.2.2.1⟩ (hM A ad hoA) cw ⟨zPc_blind hG, fun U hU hW => ⟨rfl, by rw [hU]; exact ⟨zext.rf, hH.2⟩, fun q hq => X.2.2.2.2.2.2.1 q (Nat.le_trans hS.1 (by rw [← hU]; exact hq)), hG A s U hW (by rw [hU]; exact hS.1) (fun q h1 h2 => by rw [hU]; exact hS.2.1 q h1 h2) X.2.2.2.2.2.2.2.2⟩⟩ rfl (by rw [List.length_map]; exact hn) hl.1 (z_rev0 hst) (lv_room (z_room hw)) hd hf) hH hS hl hor kk kx
end ZSX
theorem w_SX {R : Room} {s : State} {args : Array Value} {own : String} {index maxL mc ms n : Nat} {y : MethodName} {bytes : ByteArray} {ret : Option FieldType} {hh : List (Nat × Nat × Nat × Nat)} {rm : Room} {c0 : Cond} (hts : ∀ w ∈ c0 :: zTs, w.before args s = true) (h1 : Cond.methodLink own index y ∈ zTs) (h2 : Cond.static y ∈ zTs) (h4 : Cond.initialized y.cls ∈ zTs) (h5 : Cond.codeWith y bytes maxL ret hh ∈ zTs) (hrc : rm.cells = mc) (hrs : rm.slots = ms)
    (hd : y.cls ≠ "java/lang/invoke/MethodHandle" ∧ y.cls ≠ "java/lang/invoke/VarHandle" ∧ (parseMethodDescriptor y.desc).map (fun d => d.parameters.length) = some n) (hR : rm.frames + 1 ≤ R.frames ∧ 8 + (maxL + 11) + rm.locals ≤ R.locals) : vx_CSW R s args own index y bytes maxL ret hh (Cond.codeWith y bytes maxL ret hh :: zTs) rm mc ms n :=
  vx_cwSW n hts (w_good (fun w hw => by
    rcases List.mem_append.mp hw with h | h
    · simp only [List.mem_cons, List.not_mem_nil, or_false] at h
      rcases h with e | e | e <;> rw [e] <;> assumption
    · rcases List.mem_cons.mp h with e | h
      · rw [e]; exact h5
      · exact h)) rfl hrc hrs hd hR
set_option maxHeartbeats 600000 in
set_option maxRecDepth 100000 in
theorem mL_topic (l : Launch) (D : va_G) (dA : Nat → ClassId) {S : zS} {b : zBr} {x n0 z0 k0 : Int32} {c0 : Bool} (hl0 : l.stackTraces = false) (hB : zBrA S b) (hI : zInv b) : zMet l D vwCl zKK dA (zG0 D dA) yL_topic (Cond.codeWith yL_topic cL_topic 7 (some .int) [(0, 11, 14, 13), (0, 11, 18, 15)] :: zTs) { frames := 8, cells := 14, slots := 260, locals := 130 } 14 260 [.ref 1, .int x, .int n0, .int z0, .int k0, .int (zB c0)] S (fun v S' => v = some (.int (nI (sTopic b x n0 z0 k0 (zB c0)).1.1)) ∧ (sTopic b x n0 z0 k0 (zB c0)).1.1 ≤ 4 ∧ zBrA S' (sTopic b x n0 z0 k0 (zB c0)).2 ∧ zfr zOwnL S S' ∧ S'.1 2000 = S.1 2000) (fun _ _ => False) := by
  refine z_metH (tys := ztys dA) (hh := [(0, 11, 14, 13), (0, 11, 18, 15)]) (by decide) rfl zG0_K rfl (Nat.le_of_ble_eq_true rfl) (fun p e s m args below meth c A ad X hr hlocks htab => ?_)
  refine z_aload_n (j := 0) X dL_topic_0 rfl rfl ?_
  refine z_iload_n (j := 1) X dL_topic_1 rfl rfl ?_
  refine z_iload_n (j := 2) X dL_topic_2 rfl rfl ?_
  refine z_iload_n (j := 3) X dL_topic_3 rfl rfl ?_
  refine z_iload (j := 4) X dL_topic_4 rfl ?_
  refine z_iload (j := 5) X dL_topic_6 rfl ?_
  refine z_callV (n := 5) (As := [.int x, .int n0, .int z0, .int k0, .int (zB c0)]) (rest := []) X zG0_m (mB_topic l D dA hl0 hB hI.1) (w_V X.2.2.2.2.1 lL_7 jB_topic sB_topic i_LogBroker kB_topic rfl rfl (by decide +kernel) ⟨Nat.le_of_ble_eq_true rfl, Nat.le_of_ble_eq_true rfl⟩) rfl rfl rfl rfl rfl (Nat.le_of_ble_eq_true rfl) dL_topic_8 ⟨Nat.le_of_ble_eq_true rfl, Nat.le_of_ble_eq_true rfl⟩ (fun v S1 hp => ?_) (fun E S1 hx => ?_)
  · obtain ⟨b', hv, hs, hB', hf⟩ := hp
    subst hv
    refine z_goto (tgt := 22) X dL_topic_11 (by decide) ?_
    refine z_iconst (v := (nI 0)) X dL_topic_22 (by decide) ?_
    refine z_iret X hlocks hr dL_topic_23 (by omega) (by omega) ?_
    rw [hs]
    exact ⟨rfl, Nat.le_of_ble_eq_true rfl, hB', hf.mono (fun n h => Or.inl h), hf.1 2000 (by unfold zOwnB; omega)⟩
  · obtain ⟨hS9, hx⟩ := hx
    have hS9 := hS9.symm
    subst hS9
    rcases hx with ⟨hE, hs⟩ | ⟨hE, hs⟩ <;> subst hE
    · refine z_catch X (nm := "java/lang/IllegalArgumentException") (i := 6) (L' := [(0, .ref 1), (1, .int x), (2, .int n0), (3, .int z0), (4, .int k0), (5, .int (zB c0))]) [] ⟨0, 11, 14, 13⟩ [⟨0, 11, 18, 15⟩] htab (fun z hz => by cases hz) (by decide) (by decide) (X.2.2.2.2.1 _ (w_m lL_13)) (zG0_cast X.2.2.2.2.2.2.2.2 (q := ("java/lang/IllegalArgumentException", "java/lang/IllegalArgumentException")) (by decide +kernel)) dL_topic_14 (by decide) rfl ?_
      refine z_iconst (v := (nI 1)) X dL_topic_16 (by decide) ?_
      refine z_iret X hlocks hr dL_topic_17 (by omega) (by omega) ?_
      rw [hs]
      exact ⟨rfl, Nat.le_of_ble_eq_true rfl, hB, zfr.rf, rfl⟩
    · refine z_catch X (nm := "java/lang/IllegalStateException") (i := 6) (L' := [(0, .ref 1), (1, .int x), (2, .int n0), (3, .int z0), (4, .int k0), (5, .int (zB c0))]) [⟨0, 11, 14, 13⟩] ⟨0, 11, 18, 15⟩ [] htab (fun z hz => by
        rw [List.mem_singleton] at hz
        subst hz
        exact Or.inr ⟨by decide, _, X.2.2.2.2.1 _ (w_m lL_13), zG0_nc X.2.2.2.2.2.2.2.2 (q := ("java/lang/IllegalStateException", "java/lang/IllegalArgumentException")) (by decide +kernel)⟩) (by decide) (by decide) (X.2.2.2.2.1 _ (w_m lL_15)) (zG0_cast X.2.2.2.2.2.2.2.2 (q := ("java/lang/IllegalStateException", "java/lang/IllegalStateException")) (by decide +kernel)) dL_topic_18 (by decide) rfl ?_
      refine z_iconst (v := (nI 2)) X dL_topic_20 (by decide) ?_
      refine z_iret X hlocks hr dL_topic_21 (by omega) (by omega) ?_
      rw [hs]
      exact ⟨rfl, Nat.le_of_ble_eq_true rfl, hB, zfr.rf, rfl⟩

set_option maxHeartbeats 600000 in
set_option maxRecDepth 100000 in
theorem mL_open (l : Launch) (D : va_G) (dA : Nat → ClassId) {S : zS} {b : zBr} {x y : Int32} (hl0 : l.stackTraces = false) (hB : zBrA S b) (hI : zInv b) : zMet l D vwCl zKK dA (zG0 D dA) yL_open (Cond.codeWith yL_open cL_open 5 (some .int) [(0, 10, 13, 13), (0, 10, 17, 15), (0, 10, 21, 21)] :: zTs) { frames := 9, cells := 22, slots := 130, locals := 149 } 22 130 [.ref 1, .int x, .int y, .ref 2000] S (fun v S' => v = some (.int (nI (sOpen b x y).1.1)) ∧ (sOpen b x y).1.1 ≤ 4 ∧ zBrA S' (sOpen b x y).2 ∧ zfr zOwnL S S' ∧ S'.1 2000 = S.1 2000 ∧ ((sOpen b x y).1.1 = 0 → S'.2.2.2 2000 0 = ((sOpen b x y).1.2).toInt64)) (fun _ _ => False) := by
  refine z_metH (tys := ztys dA) (hh := [(0, 10, 13, 13), (0, 10, 17, 15), (0, 10, 21, 21)]) (by decide) rfl zG0_K rfl (Nat.le_of_ble_eq_true rfl) (fun p e s m args below meth c A ad X hr hlocks htab => ?_)
  refine z_aload_n (j := 3) X dL_open_0 rfl rfl ?_
  refine z_iconst (v := (nI 0)) X dL_open_1 (by decide) ?_
  refine z_aload_n (j := 0) X dL_open_2 rfl rfl ?_
  refine z_iload_n (j := 1) X dL_open_3 rfl rfl ?_
  refine z_iload_n (j := 2) X dL_open_4 rfl rfl ?_
  refine z_callV (n := 2) (As := [.int x, .int y]) (rest := [.int (nI 0), .ref 2000]) X zG0_m (mB_open l D dA hl0 hB hI.1 hI.2.1 hI.2.2.1) (w_V X.2.2.2.2.1 lL_17 jB_open sB_open i_LogBroker kB_open rfl rfl (by decide +kernel) ⟨Nat.le_of_ble_eq_true rfl, Nat.le_of_ble_eq_true rfl⟩) rfl rfl rfl rfl rfl (Nat.le_of_ble_eq_true rfl) dL_open_5 ⟨Nat.le_of_ble_eq_true rfl, Nat.le_of_ble_eq_true rfl⟩ (fun v S1 hp => ?_) (fun E S1 hx => ?_)
  · obtain ⟨r, b', hv, hs, hB', hf⟩ := hp
    subst hv
    refine z_i2l X dL_open_8 rfl ?_
    refine z_last (t0 := 2) (j9 := 0) X rfl rfl (by decide) (by decide) dL_open_9 ?_
    refine z_goto (tgt := 25) X dL_open_10 (by decide) ?_
    refine z_iconst (v := (nI 0)) X dL_open_25 (by decide) ?_
    refine z_iret X hlocks hr dL_open_26 (by omega) (by omega) ?_
    rw [hs]
    exact ⟨rfl, Nat.le_of_ble_eq_true rfl, hB', (hf.mono (fun n h => Or.inl h)).tr (zfr.l (Or.inr rfl)), hf.1 2000 (by unfold zOwnB; omega), fun _ => rl_s⟩
  · obtain ⟨hS9, hx⟩ := hx
    have hS9 := hS9.symm
    subst hS9
    rcases hx with ⟨hE, hs⟩ | ⟨hE, hs⟩ | ⟨hE, hs⟩ <;> subst hE
    · refine z_catch X (nm := "java/lang/IllegalArgumentException") (i := 4) (L' := [(0, .ref 1), (1, .int x), (2, .int y), (3, .ref 2000)]) [] ⟨0, 10, 13, 13⟩ [⟨0, 10, 17, 15⟩, ⟨0, 10, 21, 21⟩] htab (fun z hz => by cases hz) (by decide) (by decide) (X.2.2.2.2.1 _ (w_m lL_13)) (zG0_cast X.2.2.2.2.2.2.2.2 (q := ("java/lang/IllegalArgumentException", "java/lang/IllegalArgumentException")) (by decide +kernel)) dL_open_13 (by decide) rfl ?_
      refine z_iconst (v := (nI 1)) X dL_open_15 (by decide) ?_
      refine z_iret X hlocks hr dL_open_16 (by omega) (by omega) ?_
      rw [hs]
      exact ⟨rfl, Nat.le_of_ble_eq_true rfl, hB, zfr.rf, rfl, fun h => absurd (show (1 : Nat) = 0 from h) (by decide)⟩
    · refine z_catch X (nm := "java/lang/IllegalStateException") (i := 4) (L' := [(0, .ref 1), (1, .int x), (2, .int y), (3, .ref 2000)]) [⟨0, 10, 13, 13⟩] ⟨0, 10, 17, 15⟩ [⟨0, 10, 21, 21⟩] htab (fun z hz => by
        rw [List.mem_singleton] at hz
        subst hz
        exact Or.inr ⟨by decide, _, X.2.2.2.2.1 _ (w_m lL_13), zG0_nc X.2.2.2.2.2.2.2.2 (q := ("java/lang/IllegalStateException", "java/lang/IllegalArgumentException")) (by decide +kernel)⟩) (by decide) (by decide) (X.2.2.2.2.1 _ (w_m lL_15)) (zG0_cast X.2.2.2.2.2.2.2.2 (q := ("java/lang/IllegalStateException", "java/lang/IllegalStateException")) (by decide +kernel)) dL_open_17 (by decide) rfl ?_
      refine z_iconst (v := (nI 2)) X dL_open_19 (by decide) ?_
      refine z_iret X hlocks hr dL_open_20 (by omega) (by omega) ?_
      rw [hs]
      exact ⟨rfl, Nat.le_of_ble_eq_true rfl, hB, zfr.rf, rfl, fun h => absurd (show (2 : Nat) = 0 from h) (by decide)⟩
    · refine z_catch X (nm := "java/lang/UnsupportedOperationException") (i := 4) (L' := [(0, .ref 1), (1, .int x), (2, .int y), (3, .ref 2000)]) [⟨0, 10, 13, 13⟩, ⟨0, 10, 17, 15⟩] ⟨0, 10, 21, 21⟩ [] htab (fun z hz => by
        simp only [List.mem_cons, List.not_mem_nil, or_false] at hz
        rcases hz with hz | hz <;> subst hz
        · exact Or.inr ⟨by decide, _, X.2.2.2.2.1 _ (w_m lL_13), zG0_nc X.2.2.2.2.2.2.2.2 (q := ("java/lang/UnsupportedOperationException", "java/lang/IllegalArgumentException")) (by decide +kernel)⟩
        · exact Or.inr ⟨by decide, _, X.2.2.2.2.1 _ (w_m lL_15), zG0_nc X.2.2.2.2.2.2.2.2 (q := ("java/lang/UnsupportedOperationException", "java/lang/IllegalStateException")) (by decide +kernel)⟩) (by decide) (by decide) (X.2.2.2.2.1 _ (w_m lL_21)) (zG0_cast X.2.2.2.2.2.2.2.2 (q := ("java/lang/UnsupportedOperationException", "java/lang/UnsupportedOperationException")) (by decide +kernel)) dL_open_21 (by decide) rfl ?_
      refine z_iconst (v := (nI 3)) X dL_open_23 (by decide) ?_
      refine z_iret X hlocks hr dL_open_24 (by omega) (by omega) ?_
      rw [hs]
      exact ⟨rfl, Nat.le_of_ble_eq_true rfl, hB, zfr.rf, rfl, fun h => absurd (show (3 : Nat) = 0 from h) (by decide)⟩

set_option maxHeartbeats 600000 in
set_option maxRecDepth 100000 in
theorem mL_produce (l : Launch) (D : va_G) (dA : Nat → ClassId) {S : zS} {b : zBr} {x y n0 k v0 : Int32} (hl0 : l.stackTraces = false) (hB : zBrA S b) (hI : zInv b) : zMet l D vwCl zKK dA (zG0 D dA) yL_produce (Cond.codeWith yL_produce cL_produce 8 (some .int) [(0, 16, 19, 13), (0, 16, 23, 27), (0, 16, 27, 15), (0, 16, 31, 21)] :: zTs) { frames := 8, cells := 12, slots := 70, locals := 134 } 12 70 [.ref 1, .int x, .int y, .int n0, .int k, .int v0, .ref 2000] S (fun v S' => v = some (.int (nI (sProduce b x y n0 k v0).1.1)) ∧ (sProduce b x y n0 k v0).1.1 ≤ 4 ∧ zBrA S' (sProduce b x y n0 k v0).2 ∧ zfr zOwnL S S' ∧ S'.1 2000 = S.1 2000 ∧ ((sProduce b x y n0 k v0).1.1 = 0 → S'.2.2.2 2000 0 = ((sProduce b x y n0 k v0).1.2).toInt64)) (fun _ _ => False) := by
  refine z_metH (tys := ztys dA) (hh := [(0, 16, 19, 13), (0, 16, 23, 27), (0, 16, 27, 15), (0, 16, 31, 21)]) (by decide) rfl zG0_K rfl (Nat.le_of_ble_eq_true rfl) (fun p e s m args below meth c A ad X hr hlocks htab => ?_)
  refine z_aload (j := 6) X dL_produce_0 rfl ?_
  refine z_iconst (v := (nI 0)) X dL_produce_2 (by decide) ?_
  refine z_aload_n (j := 0) X dL_produce_3 rfl rfl ?_
  refine z_iload_n (j := 1) X dL_produce_4 rfl rfl ?_
  refine z_iload_n (j := 2) X dL_produce_5 rfl rfl ?_
  refine z_iload_n (j := 3) X dL_produce_6 rfl rfl ?_
  refine z_iload (j := 4) X dL_produce_7 rfl ?_
  refine z_iload (j := 5) X dL_produce_9 rfl ?_
  refine z_callV (n := 5) (As := [.int x, .int y, .int n0, .int k, .int v0]) (rest := [.int (nI 0), .ref 2000]) X zG0_m (mB_produce l D dA hl0 hB hI.1) (w_V X.2.2.2.2.1 lL_23 jB_produce sB_produce i_LogBroker kB_produce rfl rfl (by decide +kernel) ⟨Nat.le_of_ble_eq_true rfl, Nat.le_of_ble_eq_true rfl⟩) rfl rfl rfl rfl rfl (Nat.le_of_ble_eq_true rfl) dL_produce_11 ⟨Nat.le_of_ble_eq_true rfl, Nat.le_of_ble_eq_true rfl⟩ (fun v S1 hp => ?_) (fun E S1 hx => ?_)
  · obtain ⟨r, b', hv, hs, hB', hf⟩ := hp
    subst hv
    refine z_i2l X dL_produce_14 rfl ?_
    refine z_last (t0 := 2) (j9 := 0) X rfl rfl (by decide) (by decide) dL_produce_15 ?_
    refine z_goto (tgt := 35) X dL_produce_16 (by decide) ?_
    refine z_iconst (v := (nI 0)) X dL_produce_35 (by decide) ?_
    refine z_iret X hlocks hr dL_produce_36 (by omega) (by omega) ?_
    rw [hs]
    exact ⟨rfl, Nat.le_of_ble_eq_true rfl, hB', (hf.mono (fun n h => Or.inl h)).tr (zfr.l (Or.inr rfl)), hf.1 2000 (by unfold zOwnB; omega), fun _ => rl_s⟩
  · obtain ⟨hS9, hx⟩ := hx
    have hS9 := hS9.symm
    subst hS9
    rcases hx with ⟨hE, hs⟩ | ⟨hE, hs⟩ | ⟨hE, hs⟩ | ⟨hE, hs⟩ <;> subst hE
    · refine z_catch X (nm := "java/lang/IllegalArgumentException") (i := 7) (L' := [(0, .ref 1), (1, .int x), (2, .int y), (3, .int n0), (4, .int k), (5, .int v0), (6, .ref 2000)]) [] ⟨0, 16, 19, 13⟩ [⟨0, 16, 23, 27⟩, ⟨0, 16, 27, 15⟩, ⟨0, 16, 31, 21⟩] htab (fun z hz => by cases hz) (by decide) (by decide) (X.2.2.2.2.1 _ (w_m lL_13)) (zG0_cast X.2.2.2.2.2.2.2.2 (q := ("java/lang/IllegalArgumentException", "java/lang/IllegalArgumentException")) (by decide +kernel)) dL_produce_19 (by decide) rfl ?_
      refine z_iconst (v := (nI 1)) X dL_produce_21 (by decide) ?_
      refine z_iret X hlocks hr dL_produce_22 (by omega) (by omega) ?_
      rw [hs]
      exact ⟨rfl, Nat.le_of_ble_eq_true rfl, hB, zfr.rf, rfl, fun h => absurd (show (1 : Nat) = 0 from h) (by decide)⟩
    · refine z_catch X (nm := "java/util/NoSuchElementException") (i := 7) (L' := [(0, .ref 1), (1, .int x), (2, .int y), (3, .int n0), (4, .int k), (5, .int v0), (6, .ref 2000)]) [⟨0, 16, 19, 13⟩] ⟨0, 16, 23, 27⟩ [⟨0, 16, 27, 15⟩, ⟨0, 16, 31, 21⟩] htab (fun z hz => by
        rw [List.mem_singleton] at hz
        subst hz
        exact Or.inr ⟨by decide, _, X.2.2.2.2.1 _ (w_m lL_13), zG0_nc X.2.2.2.2.2.2.2.2 (q := ("java/util/NoSuchElementException", "java/lang/IllegalArgumentException")) (by decide +kernel)⟩) (by decide) (by decide) (X.2.2.2.2.1 _ (w_m lL_27)) (zG0_cast X.2.2.2.2.2.2.2.2 (q := ("java/util/NoSuchElementException", "java/util/NoSuchElementException")) (by decide +kernel)) dL_produce_23 (by decide) rfl ?_
      refine z_iconst (v := (nI 2)) X dL_produce_25 (by decide) ?_
      refine z_iret X hlocks hr dL_produce_26 (by omega) (by omega) ?_
      rw [hs]
      exact ⟨rfl, Nat.le_of_ble_eq_true rfl, hB, zfr.rf, rfl, fun h => absurd (show (2 : Nat) = 0 from h) (by decide)⟩
    · refine z_catch X (nm := "java/lang/IllegalStateException") (i := 7) (L' := [(0, .ref 1), (1, .int x), (2, .int y), (3, .int n0), (4, .int k), (5, .int v0), (6, .ref 2000)]) [⟨0, 16, 19, 13⟩, ⟨0, 16, 23, 27⟩] ⟨0, 16, 27, 15⟩ [⟨0, 16, 31, 21⟩] htab (fun z hz => by
        simp only [List.mem_cons, List.not_mem_nil, or_false] at hz
        rcases hz with hz | hz <;> subst hz
        · exact Or.inr ⟨by decide, _, X.2.2.2.2.1 _ (w_m lL_13), zG0_nc X.2.2.2.2.2.2.2.2 (q := ("java/lang/IllegalStateException", "java/lang/IllegalArgumentException")) (by decide +kernel)⟩
        · exact Or.inr ⟨by decide, _, X.2.2.2.2.1 _ (w_m lL_27), zG0_nc X.2.2.2.2.2.2.2.2 (q := ("java/lang/IllegalStateException", "java/util/NoSuchElementException")) (by decide +kernel)⟩) (by decide) (by decide) (X.2.2.2.2.1 _ (w_m lL_15)) (zG0_cast X.2.2.2.2.2.2.2.2 (q := ("java/lang/IllegalStateException", "java/lang/IllegalStateException")) (by decide +kernel)) dL_produce_27 (by decide) rfl ?_
      refine z_iconst (v := (nI 3)) X dL_produce_29 (by decide) ?_
      refine z_iret X hlocks hr dL_produce_30 (by omega) (by omega) ?_
      rw [hs]
      exact ⟨rfl, Nat.le_of_ble_eq_true rfl, hB, zfr.rf, rfl, fun h => absurd (show (3 : Nat) = 0 from h) (by decide)⟩
    · refine z_catch X (nm := "java/lang/UnsupportedOperationException") (i := 7) (L' := [(0, .ref 1), (1, .int x), (2, .int y), (3, .int n0), (4, .int k), (5, .int v0), (6, .ref 2000)]) [⟨0, 16, 19, 13⟩, ⟨0, 16, 23, 27⟩, ⟨0, 16, 27, 15⟩] ⟨0, 16, 31, 21⟩ [] htab (fun z hz => by
        simp only [List.mem_cons, List.not_mem_nil, or_false] at hz
        rcases hz with hz | hz | hz <;> subst hz
        · exact Or.inr ⟨by decide, _, X.2.2.2.2.1 _ (w_m lL_13), zG0_nc X.2.2.2.2.2.2.2.2 (q := ("java/lang/UnsupportedOperationException", "java/lang/IllegalArgumentException")) (by decide +kernel)⟩
        · exact Or.inr ⟨by decide, _, X.2.2.2.2.1 _ (w_m lL_27), zG0_nc X.2.2.2.2.2.2.2.2 (q := ("java/lang/UnsupportedOperationException", "java/util/NoSuchElementException")) (by decide +kernel)⟩
        · exact Or.inr ⟨by decide, _, X.2.2.2.2.1 _ (w_m lL_15), zG0_nc X.2.2.2.2.2.2.2.2 (q := ("java/lang/UnsupportedOperationException", "java/lang/IllegalStateException")) (by decide +kernel)⟩) (by decide) (by decide) (X.2.2.2.2.1 _ (w_m lL_21)) (zG0_cast X.2.2.2.2.2.2.2.2 (q := ("java/lang/UnsupportedOperationException", "java/lang/UnsupportedOperationException")) (by decide +kernel)) dL_produce_31 (by decide) rfl ?_
      refine z_iconst (v := (nI 4)) X dL_produce_33 (by decide) ?_
      refine z_iret X hlocks hr dL_produce_34 (by omega) (by omega) ?_
      rw [hs]
      exact ⟨rfl, Nat.le_of_ble_eq_true rfl, hB, zfr.rf, rfl, fun h => absurd (show (4 : Nat) = 0 from h) (by decide)⟩

set_option maxHeartbeats 600000 in
set_option maxRecDepth 100000 in
theorem mL_begin (l : Launch) (D : va_G) (dA : Nat → ClassId) {S : zS} {b : zBr} {x : Int32} (hl0 : l.stackTraces = false) (hB : zBrA S b) (hI : zInv b) : zMet l D vwCl zKK dA (zG0 D dA) yL_begin (Cond.codeWith yL_begin cL_begin 3 (some .int) [(0, 5, 8, 13), (0, 5, 11, 27), (0, 5, 14, 15), (0, 5, 17, 21)] :: zTs) { frames := 8, cells := 8, slots := 48, locals := 126 } 8 48 [.ref 1, .int x] S (fun v S' => v = some (.int (nI (sBegin b x).1.1)) ∧ (sBegin b x).1.1 ≤ 4 ∧ zBrA S' (sBegin b x).2 ∧ zfr zOwnL S S' ∧ S'.1 2000 = S.1 2000) (fun _ _ => False) := by
  refine z_metH (tys := ztys dA) (hh := [(0, 5, 8, 13), (0, 5, 11, 27), (0, 5, 14, 15), (0, 5, 17, 21)]) (by decide) rfl zG0_K rfl (Nat.le_of_ble_eq_true rfl) (fun p e s m args below meth c A ad X hr hlocks htab => ?_)
  refine z_aload_n (j := 0) X dL_begin_0 rfl rfl ?_
  refine z_iload_n (j := 1) X dL_begin_1 rfl rfl ?_
  refine z_callV (n := 1) (As := [.int x]) (rest := []) X zG0_m (mB_begin l D dA hl0 hB hI.1) (w_V X.2.2.2.2.1 lL_29 jB_begin sB_begin i_LogBroker kB_begin rfl rfl (by decide +kernel) ⟨Nat.le_of_ble_eq_true rfl, Nat.le_of_ble_eq_true rfl⟩) rfl rfl rfl rfl rfl (Nat.le_of_ble_eq_true rfl) dL_begin_2 ⟨Nat.le_of_ble_eq_true rfl, Nat.le_of_ble_eq_true rfl⟩ (fun v S1 hp => ?_) (fun E S1 hx => ?_)
  · obtain ⟨b', hv, hs, hB', hf⟩ := hp
    subst hv
    refine z_goto (tgt := 20) X dL_begin_5 (by decide) ?_
    refine z_iconst (v := (nI 0)) X dL_begin_20 (by decide) ?_
    refine z_iret X hlocks hr dL_begin_21 (by omega) (by omega) ?_
    rw [hs]
    exact ⟨rfl, Nat.le_of_ble_eq_true rfl, hB', hf.mono (fun n h => Or.inl h), hf.1 2000 (by unfold zOwnB; omega)⟩
  · obtain ⟨hS9, hx⟩ := hx
    have hS9 := hS9.symm
    subst hS9
    rcases hx with ⟨hE, hs⟩ | ⟨hE, hs⟩ | ⟨hE, hs⟩ | ⟨hE, hs⟩ <;> subst hE
    · refine z_catch_n X (nm := "java/lang/IllegalArgumentException") (i := 2) (L' := [(0, .ref 1), (1, .int x)]) [] ⟨0, 5, 8, 13⟩ [⟨0, 5, 11, 27⟩, ⟨0, 5, 14, 15⟩, ⟨0, 5, 17, 21⟩] htab (fun z hz => by cases hz) (by decide) (by decide) (X.2.2.2.2.1 _ (w_m lL_13)) (zG0_cast X.2.2.2.2.2.2.2.2 (q := ("java/lang/IllegalArgumentException", "java/lang/IllegalArgumentException")) (by decide +kernel)) dL_begin_8 rfl (by decide) rfl ?_
      refine z_iconst (v := (nI 1)) X dL_begin_9 (by decide) ?_
      refine z_iret X hlocks hr dL_begin_10 (by omega) (by omega) ?_
      rw [hs]
      exact ⟨rfl, Nat.le_of_ble_eq_true rfl, hB, zfr.rf, rfl⟩
    · refine z_catch_n X (nm := "java/util/NoSuchElementException") (i := 2) (L' := [(0, .ref 1), (1, .int x)]) [⟨0, 5, 8, 13⟩] ⟨0, 5, 11, 27⟩ [⟨0, 5, 14, 15⟩, ⟨0, 5, 17, 21⟩] htab (fun z hz => by
        rw [List.mem_singleton] at hz
        subst hz
        exact Or.inr ⟨by decide, _, X.2.2.2.2.1 _ (w_m lL_13), zG0_nc X.2.2.2.2.2.2.2.2 (q := ("java/util/NoSuchElementException", "java/lang/IllegalArgumentException")) (by decide +kernel)⟩) (by decide) (by decide) (X.2.2.2.2.1 _ (w_m lL_27)) (zG0_cast X.2.2.2.2.2.2.2.2 (q := ("java/util/NoSuchElementException", "java/util/NoSuchElementException")) (by decide +kernel)) dL_begin_11 rfl (by decide) rfl ?_
      refine z_iconst (v := (nI 2)) X dL_begin_12 (by decide) ?_
      refine z_iret X hlocks hr dL_begin_13 (by omega) (by omega) ?_
      rw [hs]
      exact ⟨rfl, Nat.le_of_ble_eq_true rfl, hB, zfr.rf, rfl⟩
    · refine z_catch_n X (nm := "java/lang/IllegalStateException") (i := 2) (L' := [(0, .ref 1), (1, .int x)]) [⟨0, 5, 8, 13⟩, ⟨0, 5, 11, 27⟩] ⟨0, 5, 14, 15⟩ [⟨0, 5, 17, 21⟩] htab (fun z hz => by
        simp only [List.mem_cons, List.not_mem_nil, or_false] at hz
        rcases hz with hz | hz <;> subst hz
        · exact Or.inr ⟨by decide, _, X.2.2.2.2.1 _ (w_m lL_13), zG0_nc X.2.2.2.2.2.2.2.2 (q := ("java/lang/IllegalStateException", "java/lang/IllegalArgumentException")) (by decide +kernel)⟩
        · exact Or.inr ⟨by decide, _, X.2.2.2.2.1 _ (w_m lL_27), zG0_nc X.2.2.2.2.2.2.2.2 (q := ("java/lang/IllegalStateException", "java/util/NoSuchElementException")) (by decide +kernel)⟩) (by decide) (by decide) (X.2.2.2.2.1 _ (w_m lL_15)) (zG0_cast X.2.2.2.2.2.2.2.2 (q := ("java/lang/IllegalStateException", "java/lang/IllegalStateException")) (by decide +kernel)) dL_begin_14 rfl (by decide) rfl ?_
      refine z_iconst (v := (nI 3)) X dL_begin_15 (by decide) ?_
      refine z_iret X hlocks hr dL_begin_16 (by omega) (by omega) ?_
      rw [hs]
      exact ⟨rfl, Nat.le_of_ble_eq_true rfl, hB, zfr.rf, rfl⟩
    · refine z_catch_n X (nm := "java/lang/UnsupportedOperationException") (i := 2) (L' := [(0, .ref 1), (1, .int x)]) [⟨0, 5, 8, 13⟩, ⟨0, 5, 11, 27⟩, ⟨0, 5, 14, 15⟩] ⟨0, 5, 17, 21⟩ [] htab (fun z hz => by
        simp only [List.mem_cons, List.not_mem_nil, or_false] at hz
        rcases hz with hz | hz | hz <;> subst hz
        · exact Or.inr ⟨by decide, _, X.2.2.2.2.1 _ (w_m lL_13), zG0_nc X.2.2.2.2.2.2.2.2 (q := ("java/lang/UnsupportedOperationException", "java/lang/IllegalArgumentException")) (by decide +kernel)⟩
        · exact Or.inr ⟨by decide, _, X.2.2.2.2.1 _ (w_m lL_27), zG0_nc X.2.2.2.2.2.2.2.2 (q := ("java/lang/UnsupportedOperationException", "java/util/NoSuchElementException")) (by decide +kernel)⟩
        · exact Or.inr ⟨by decide, _, X.2.2.2.2.1 _ (w_m lL_15), zG0_nc X.2.2.2.2.2.2.2.2 (q := ("java/lang/UnsupportedOperationException", "java/lang/IllegalStateException")) (by decide +kernel)⟩) (by decide) (by decide) (X.2.2.2.2.1 _ (w_m lL_21)) (zG0_cast X.2.2.2.2.2.2.2.2 (q := ("java/lang/UnsupportedOperationException", "java/lang/UnsupportedOperationException")) (by decide +kernel)) dL_begin_17 rfl (by decide) rfl ?_
      refine z_iconst (v := (nI 4)) X dL_begin_18 (by decide) ?_
      refine z_iret X hlocks hr dL_begin_19 (by omega) (by omega) ?_
      rw [hs]
      exact ⟨rfl, Nat.le_of_ble_eq_true rfl, hB, zfr.rf, rfl⟩

set_option maxHeartbeats 600000 in
set_option maxRecDepth 100000 in
theorem mL_end (l : Launch) (D : va_G) (dA : Nat → ClassId) {S : zS} {b : zBr} {x : Int32} {c0 : Bool} (hl0 : l.stackTraces = false) (hB : zBrA S b) (hI : zInv b) : zMet l D vwCl zKK dA (zG0 D dA) yL_end (Cond.codeWith yL_end cL_end 5 (some .int) [(0, 10, 13, 13), (0, 10, 17, 27), (0, 10, 21, 15), (0, 10, 25, 21)] :: zTs) { frames := 8, cells := 20, slots := 120, locals := 127 } 20 120 [.ref 1, .int x, .int (zB c0), .ref 2000] S (fun v S' => v = some (.int (nI (sEnd b x c0).1.1)) ∧ (sEnd b x c0).1.1 ≤ 4 ∧ zBrA S' (sEnd b x c0).2 ∧ zfr zOwnL S S' ∧ S'.1 2000 = S.1 2000 ∧ ((sEnd b x c0).1.1 = 0 → S'.2.2.2 2000 0 = ((sEnd b x c0).1.2).toInt64)) (fun _ _ => False) := by
  refine z_metH (tys := ztys dA) (hh := [(0, 10, 13, 13), (0, 10, 17, 27), (0, 10, 21, 15), (0, 10, 25, 21)]) (by decide) rfl zG0_K rfl (Nat.le_of_ble_eq_true rfl) (fun p e s m args below meth c A ad X hr hlocks htab => ?_)
  refine z_aload_n (j := 3) X dL_end_0 rfl rfl ?_
  refine z_iconst (v := (nI 0)) X dL_end_1 (by decide) ?_
  refine z_aload_n (j := 0) X dL_end_2 rfl rfl ?_
  refine z_iload_n (j := 1) X dL_end_3 rfl rfl ?_
  refine z_iload_n (j := 2) X dL_end_4 rfl rfl ?_
  refine z_callV (n := 2) (As := [.int x, .int (zB c0)]) (rest := [.int (nI 0), .ref 2000]) X zG0_m (mB_end l D dA hl0 hB hI.1 hI.2.1) (w_V X.2.2.2.2.1 lL_33 jB_end sB_end i_LogBroker kB_end rfl rfl (by decide +kernel) ⟨Nat.le_of_ble_eq_true rfl, Nat.le_of_ble_eq_true rfl⟩) rfl rfl rfl rfl rfl (Nat.le_of_ble_eq_true rfl) dL_end_5 ⟨Nat.le_of_ble_eq_true rfl, Nat.le_of_ble_eq_true rfl⟩ (fun v S1 hp => ?_) (fun E S1 hx => ?_)
  · obtain ⟨r, b', hv, hs, hB', hf⟩ := hp
    subst hv
    refine z_i2l X dL_end_8 rfl ?_
    refine z_last (t0 := 2) (j9 := 0) X rfl rfl (by decide) (by decide) dL_end_9 ?_
    refine z_goto (tgt := 29) X dL_end_10 (by decide) ?_
    refine z_iconst (v := (nI 0)) X dL_end_29 (by decide) ?_
    refine z_iret X hlocks hr dL_end_30 (by omega) (by omega) ?_
    rw [hs]
    exact ⟨rfl, Nat.le_of_ble_eq_true rfl, hB', (hf.mono (fun n h => Or.inl h)).tr (zfr.l (Or.inr rfl)), hf.1 2000 (by unfold zOwnB; omega), fun _ => rl_s⟩
  · obtain ⟨hS9, hx⟩ := hx
    have hS9 := hS9.symm
    subst hS9
    rcases hx with ⟨hE, hs⟩ | ⟨hE, hs⟩ | ⟨hE, hs⟩ | ⟨hE, hs⟩ <;> subst hE
    · refine z_catch X (nm := "java/lang/IllegalArgumentException") (i := 4) (L' := [(0, .ref 1), (1, .int x), (2, .int (zB c0)), (3, .ref 2000)]) [] ⟨0, 10, 13, 13⟩ [⟨0, 10, 17, 27⟩, ⟨0, 10, 21, 15⟩, ⟨0, 10, 25, 21⟩] htab (fun z hz => by cases hz) (by decide) (by decide) (X.2.2.2.2.1 _ (w_m lL_13)) (zG0_cast X.2.2.2.2.2.2.2.2 (q := ("java/lang/IllegalArgumentException", "java/lang/IllegalArgumentException")) (by decide +kernel)) dL_end_13 (by decide) rfl ?_
      refine z_iconst (v := (nI 1)) X dL_end_15 (by decide) ?_
      refine z_iret X hlocks hr dL_end_16 (by omega) (by omega) ?_
      rw [hs]
      exact ⟨rfl, Nat.le_of_ble_eq_true rfl, hB, zfr.rf, rfl, fun h => absurd (show (1 : Nat) = 0 from h) (by decide)⟩
    · refine z_catch X (nm := "java/util/NoSuchElementException") (i := 4) (L' := [(0, .ref 1), (1, .int x), (2, .int (zB c0)), (3, .ref 2000)]) [⟨0, 10, 13, 13⟩] ⟨0, 10, 17, 27⟩ [⟨0, 10, 21, 15⟩, ⟨0, 10, 25, 21⟩] htab (fun z hz => by
        rw [List.mem_singleton] at hz
        subst hz
        exact Or.inr ⟨by decide, _, X.2.2.2.2.1 _ (w_m lL_13), zG0_nc X.2.2.2.2.2.2.2.2 (q := ("java/util/NoSuchElementException", "java/lang/IllegalArgumentException")) (by decide +kernel)⟩) (by decide) (by decide) (X.2.2.2.2.1 _ (w_m lL_27)) (zG0_cast X.2.2.2.2.2.2.2.2 (q := ("java/util/NoSuchElementException", "java/util/NoSuchElementException")) (by decide +kernel)) dL_end_17 (by decide) rfl ?_
      refine z_iconst (v := (nI 2)) X dL_end_19 (by decide) ?_
      refine z_iret X hlocks hr dL_end_20 (by omega) (by omega) ?_
      rw [hs]
      exact ⟨rfl, Nat.le_of_ble_eq_true rfl, hB, zfr.rf, rfl, fun h => absurd (show (2 : Nat) = 0 from h) (by decide)⟩
    · refine z_catch X (nm := "java/lang/IllegalStateException") (i := 4) (L' := [(0, .ref 1), (1, .int x), (2, .int (zB c0)), (3, .ref 2000)]) [⟨0, 10, 13, 13⟩, ⟨0, 10, 17, 27⟩] ⟨0, 10, 21, 15⟩ [⟨0, 10, 25, 21⟩] htab (fun z hz => by
        simp only [List.mem_cons, List.not_mem_nil, or_false] at hz
        rcases hz with hz | hz <;> subst hz
        · exact Or.inr ⟨by decide, _, X.2.2.2.2.1 _ (w_m lL_13), zG0_nc X.2.2.2.2.2.2.2.2 (q := ("java/lang/IllegalStateException", "java/lang/IllegalArgumentException")) (by decide +kernel)⟩
        · exact Or.inr ⟨by decide, _, X.2.2.2.2.1 _ (w_m lL_27), zG0_nc X.2.2.2.2.2.2.2.2 (q := ("java/lang/IllegalStateException", "java/util/NoSuchElementException")) (by decide +kernel)⟩) (by decide) (by decide) (X.2.2.2.2.1 _ (w_m lL_15)) (zG0_cast X.2.2.2.2.2.2.2.2 (q := ("java/lang/IllegalStateException", "java/lang/IllegalStateException")) (by decide +kernel)) dL_end_21 (by decide) rfl ?_
      refine z_iconst (v := (nI 3)) X dL_end_23 (by decide) ?_
      refine z_iret X hlocks hr dL_end_24 (by omega) (by omega) ?_
      rw [hs]
      exact ⟨rfl, Nat.le_of_ble_eq_true rfl, hB, zfr.rf, rfl, fun h => absurd (show (3 : Nat) = 0 from h) (by decide)⟩
    · refine z_catch X (nm := "java/lang/UnsupportedOperationException") (i := 4) (L' := [(0, .ref 1), (1, .int x), (2, .int (zB c0)), (3, .ref 2000)]) [⟨0, 10, 13, 13⟩, ⟨0, 10, 17, 27⟩, ⟨0, 10, 21, 15⟩] ⟨0, 10, 25, 21⟩ [] htab (fun z hz => by
        simp only [List.mem_cons, List.not_mem_nil, or_false] at hz
        rcases hz with hz | hz | hz <;> subst hz
        · exact Or.inr ⟨by decide, _, X.2.2.2.2.1 _ (w_m lL_13), zG0_nc X.2.2.2.2.2.2.2.2 (q := ("java/lang/UnsupportedOperationException", "java/lang/IllegalArgumentException")) (by decide +kernel)⟩
        · exact Or.inr ⟨by decide, _, X.2.2.2.2.1 _ (w_m lL_27), zG0_nc X.2.2.2.2.2.2.2.2 (q := ("java/lang/UnsupportedOperationException", "java/util/NoSuchElementException")) (by decide +kernel)⟩
        · exact Or.inr ⟨by decide, _, X.2.2.2.2.1 _ (w_m lL_15), zG0_nc X.2.2.2.2.2.2.2.2 (q := ("java/lang/UnsupportedOperationException", "java/lang/IllegalStateException")) (by decide +kernel)⟩) (by decide) (by decide) (X.2.2.2.2.1 _ (w_m lL_21)) (zG0_cast X.2.2.2.2.2.2.2.2 (q := ("java/lang/UnsupportedOperationException", "java/lang/UnsupportedOperationException")) (by decide +kernel)) dL_end_25 (by decide) rfl ?_
      refine z_iconst (v := (nI 4)) X dL_end_27 (by decide) ?_
      refine z_iret X hlocks hr dL_end_28 (by omega) (by omega) ?_
      rw [hs]
      exact ⟨rfl, Nat.le_of_ble_eq_true rfl, hB, zfr.rf, rfl, fun h => absurd (show (4 : Nat) = 0 from h) (by decide)⟩

set_option maxHeartbeats 600000 in
set_option maxRecDepth 100000 in
theorem mL_fetch (l : Launch) (D : va_G) (dA : Nat → ClassId) {S : zS} {b : zBr} {x y : Int32} {c0 : Bool} (hl0 : l.stackTraces = false) (hB : zBrA S b) (hI : zInv b) : zMet l D vwCl zKK dA (zG0 D dA) yL_fetch (Cond.codeWith yL_fetch cL_fetch 6 (some .int) [(0, 12, 15, 13), (0, 12, 19, 27), (0, 12, 23, 41)] :: zTs) { frames := 8, cells := 2, slots := 12, locals := 127 } 2 12 [.ref 1, .int x, .int y, .int (zB c0), .ref 2000] S (fun v S' => v = some (.int (nI (sFetch b x y c0).1)) ∧ (sFetch b x y c0).1 ≤ 4 ∧ zBrA S' b ∧ zfr zOwnL S S' ∧ S'.1 2000 = S.1 2000 ∧ ((sFetch b x y c0).1 = 0 → S'.2.2.2 2000 0 = ((sFetch b x y c0).2).toInt64)) (fun _ _ => False) := by
  refine z_metH (tys := ztys dA) (hh := [(0, 12, 15, 13), (0, 12, 19, 27), (0, 12, 23, 41)]) (by decide) rfl zG0_K rfl (Nat.le_of_ble_eq_true rfl) (fun p e s m args below meth c A ad X hr hlocks htab => ?_)
  refine z_aload (j := 4) X dL_fetch_0 rfl ?_
  refine z_iconst (v := (nI 0)) X dL_fetch_2 (by decide) ?_
  refine z_aload_n (j := 0) X dL_fetch_3 rfl rfl ?_
  refine z_iload_n (j := 1) X dL_fetch_4 rfl rfl ?_
  refine z_iload_n (j := 2) X dL_fetch_5 rfl rfl ?_
  refine z_iload_n (j := 3) X dL_fetch_6 rfl rfl ?_
  refine z_callV (n := 3) (As := [.int x, .int y, .int (zB c0)]) (rest := [.int (nI 0), .ref 2000]) X zG0_m (mB_fetch l D dA hl0 hB hI.1) (w_V X.2.2.2.2.1 lL_37 jB_fetch sB_fetch i_LogBroker kB_fetch rfl rfl (by decide +kernel) ⟨Nat.le_of_ble_eq_true rfl, Nat.le_of_ble_eq_true rfl⟩) rfl rfl rfl rfl rfl (Nat.le_of_ble_eq_true rfl) dL_fetch_7 ⟨Nat.le_of_ble_eq_true rfl, Nat.le_of_ble_eq_true rfl⟩ (fun v S1 hp => ?_) (fun E S1 hx => ?_)
  · obtain ⟨hS9, r, hv, hs⟩ := hp
    subst hv
    have hS9 := hS9.symm
    subst hS9
    refine z_i2l X dL_fetch_10 rfl ?_
    refine z_last (t0 := 2) (j9 := 0) X rfl rfl (by decide) (by decide) dL_fetch_11 ?_
    refine z_goto (tgt := 27) X dL_fetch_12 (by decide) ?_
    refine z_iconst (v := (nI 0)) X dL_fetch_27 (by decide) ?_
    refine z_iret X hlocks hr dL_fetch_28 (by omega) (by omega) ?_
    rw [hs]
    exact ⟨rfl, Nat.le_of_ble_eq_true rfl, hB, zfr.l (Or.inr rfl), rfl, fun _ => rl_s⟩
  · obtain ⟨hS9, hx⟩ := hx
    have hS9 := hS9.symm
    subst hS9
    rcases hx with ⟨hE, hs⟩ | ⟨hE, hs⟩ | ⟨hE, hs⟩ <;> subst hE
    · refine z_catch X (nm := "java/lang/IllegalArgumentException") (i := 5) (L' := [(0, .ref 1), (1, .int x), (2, .int y), (3, .int (zB c0)), (4, .ref 2000)]) [] ⟨0, 12, 15, 13⟩ [⟨0, 12, 19, 27⟩, ⟨0, 12, 23, 41⟩] htab (fun z hz => by cases hz) (by decide) (by decide) (X.2.2.2.2.1 _ (w_m lL_13)) (zG0_cast X.2.2.2.2.2.2.2.2 (q := ("java/lang/IllegalArgumentException", "java/lang/IllegalArgumentException")) (by decide +kernel)) dL_fetch_15 (by decide) rfl ?_
      refine z_iconst (v := (nI 1)) X dL_fetch_17 (by decide) ?_
      refine z_iret X hlocks hr dL_fetch_18 (by omega) (by omega) ?_
      rw [hs]
      exact ⟨rfl, Nat.le_of_ble_eq_true rfl, hB, zfr.rf, rfl, fun h => absurd (show (1 : Nat) = 0 from h) (by decide)⟩
    · refine z_catch X (nm := "java/util/NoSuchElementException") (i := 5) (L' := [(0, .ref 1), (1, .int x), (2, .int y), (3, .int (zB c0)), (4, .ref 2000)]) [⟨0, 12, 15, 13⟩] ⟨0, 12, 19, 27⟩ [⟨0, 12, 23, 41⟩] htab (fun z hz => by
        rw [List.mem_singleton] at hz
        subst hz
        exact Or.inr ⟨by decide, _, X.2.2.2.2.1 _ (w_m lL_13), zG0_nc X.2.2.2.2.2.2.2.2 (q := ("java/util/NoSuchElementException", "java/lang/IllegalArgumentException")) (by decide +kernel)⟩) (by decide) (by decide) (X.2.2.2.2.1 _ (w_m lL_27)) (zG0_cast X.2.2.2.2.2.2.2.2 (q := ("java/util/NoSuchElementException", "java/util/NoSuchElementException")) (by decide +kernel)) dL_fetch_19 (by decide) rfl ?_
      refine z_iconst (v := (nI 2)) X dL_fetch_21 (by decide) ?_
      refine z_iret X hlocks hr dL_fetch_22 (by omega) (by omega) ?_
      rw [hs]
      exact ⟨rfl, Nat.le_of_ble_eq_true rfl, hB, zfr.rf, rfl, fun h => absurd (show (2 : Nat) = 0 from h) (by decide)⟩
    · refine z_catch X (nm := "java/lang/IndexOutOfBoundsException") (i := 5) (L' := [(0, .ref 1), (1, .int x), (2, .int y), (3, .int (zB c0)), (4, .ref 2000)]) [⟨0, 12, 15, 13⟩, ⟨0, 12, 19, 27⟩] ⟨0, 12, 23, 41⟩ [] htab (fun z hz => by
        simp only [List.mem_cons, List.not_mem_nil, or_false] at hz
        rcases hz with hz | hz <;> subst hz
        · exact Or.inr ⟨by decide, _, X.2.2.2.2.1 _ (w_m lL_13), zG0_nc X.2.2.2.2.2.2.2.2 (q := ("java/lang/IndexOutOfBoundsException", "java/lang/IllegalArgumentException")) (by decide +kernel)⟩
        · exact Or.inr ⟨by decide, _, X.2.2.2.2.1 _ (w_m lL_27), zG0_nc X.2.2.2.2.2.2.2.2 (q := ("java/lang/IndexOutOfBoundsException", "java/util/NoSuchElementException")) (by decide +kernel)⟩) (by decide) (by decide) (X.2.2.2.2.1 _ (w_m lL_41)) (zG0_cast X.2.2.2.2.2.2.2.2 (q := ("java/lang/IndexOutOfBoundsException", "java/lang/IndexOutOfBoundsException")) (by decide +kernel)) dL_fetch_23 (by decide) rfl ?_
      refine z_iconst (v := (nI 3)) X dL_fetch_25 (by decide) ?_
      refine z_iret X hlocks hr dL_fetch_26 (by omega) (by omega) ?_
      rw [hs]
      exact ⟨rfl, Nat.le_of_ble_eq_true rfl, hB, zfr.rf, rfl, fun h => absurd (show (3 : Nat) = 0 from h) (by decide)⟩

set_option maxHeartbeats 600000 in
set_option maxRecDepth 100000 in
theorem mL_told (l : Launch) (D : va_G) (dA : Nat → ClassId) {S : zS} {b : zBr} {x y w : Int32} (hl0 : l.stackTraces = false) (hB : zBrA S b) (hI : zInv b) : zMet l D vwCl zKK dA (zG0 D dA) yL_told (Cond.codeWith yL_told cL_told 6 (some .int) [(0, 12, 15, 13), (0, 12, 19, 27), (0, 12, 23, 41)] :: zTs) { frames := 8, cells := 8, slots := 48, locals := 129 } 8 48 [.ref 1, .int x, .int y, .int w, .ref 2000] S (fun v S' => v = some (.int (nI (sTold b x y w).1)) ∧ (sTold b x y w).1 ≤ 4 ∧ zBrA S' b ∧ zfr zOwnL S S' ∧ S'.1 2000 = S.1 2000 ∧ ((sTold b x y w).1 = 0 → S'.2.2.2 2000 0 = ((sTold b x y w).2).toInt64)) (fun _ _ => False) := by
  refine z_metH (tys := ztys dA) (hh := [(0, 12, 15, 13), (0, 12, 19, 27), (0, 12, 23, 41)]) (by decide) rfl zG0_K rfl (Nat.le_of_ble_eq_true rfl) (fun p e s m args below meth c A ad X hr hlocks htab => ?_)
  refine z_aload (j := 4) X dL_told_0 rfl ?_
  refine z_iconst (v := (nI 0)) X dL_told_2 (by decide) ?_
  refine z_aload_n (j := 0) X dL_told_3 rfl rfl ?_
  refine z_iload_n (j := 1) X dL_told_4 rfl rfl ?_
  refine z_iload_n (j := 2) X dL_told_5 rfl rfl ?_
  refine z_iload_n (j := 3) X dL_told_6 rfl rfl ?_
  refine z_callV (n := 3) (As := [.int x, .int y, .int w]) (rest := [.int (nI 0), .ref 2000]) X zG0_m (mB_told l D dA hl0 hB hI.1) (w_V X.2.2.2.2.1 lL_43 jB_told sB_told i_LogBroker kB_told rfl rfl (by decide +kernel) ⟨Nat.le_of_ble_eq_true rfl, Nat.le_of_ble_eq_true rfl⟩) rfl rfl rfl rfl rfl (Nat.le_of_ble_eq_true rfl) dL_told_7 ⟨Nat.le_of_ble_eq_true rfl, Nat.le_of_ble_eq_true rfl⟩ (fun v S1 hp => ?_) (fun E S1 hx => ?_)
  · obtain ⟨hS9, r, hv, hs⟩ := hp
    subst hv
    have hS9 := hS9.symm
    subst hS9
    refine z_i2l X dL_told_10 rfl ?_
    refine z_last (t0 := 2) (j9 := 0) X rfl rfl (by decide) (by decide) dL_told_11 ?_
    refine z_goto (tgt := 27) X dL_told_12 (by decide) ?_
    refine z_iconst (v := (nI 0)) X dL_told_27 (by decide) ?_
    refine z_iret X hlocks hr dL_told_28 (by omega) (by omega) ?_
    rw [hs]
    exact ⟨rfl, Nat.le_of_ble_eq_true rfl, hB, zfr.l (Or.inr rfl), rfl, fun _ => rl_s⟩
  · obtain ⟨hS9, hx⟩ := hx
    have hS9 := hS9.symm
    subst hS9
    rcases hx with ⟨hE, hs⟩ | ⟨hE, hs⟩ | ⟨hE, hs⟩ <;> subst hE
    · refine z_catch X (nm := "java/lang/IllegalArgumentException") (i := 5) (L' := [(0, .ref 1), (1, .int x), (2, .int y), (3, .int w), (4, .ref 2000)]) [] ⟨0, 12, 15, 13⟩ [⟨0, 12, 19, 27⟩, ⟨0, 12, 23, 41⟩] htab (fun z hz => by cases hz) (by decide) (by decide) (X.2.2.2.2.1 _ (w_m lL_13)) (zG0_cast X.2.2.2.2.2.2.2.2 (q := ("java/lang/IllegalArgumentException", "java/lang/IllegalArgumentException")) (by decide +kernel)) dL_told_15 (by decide) rfl ?_
      refine z_iconst (v := (nI 1)) X dL_told_17 (by decide) ?_
      refine z_iret X hlocks hr dL_told_18 (by omega) (by omega) ?_
      rw [hs]
      exact ⟨rfl, Nat.le_of_ble_eq_true rfl, hB, zfr.rf, rfl, fun h => absurd (show (1 : Nat) = 0 from h) (by decide)⟩
    · refine z_catch X (nm := "java/util/NoSuchElementException") (i := 5) (L' := [(0, .ref 1), (1, .int x), (2, .int y), (3, .int w), (4, .ref 2000)]) [⟨0, 12, 15, 13⟩] ⟨0, 12, 19, 27⟩ [⟨0, 12, 23, 41⟩] htab (fun z hz => by
        rw [List.mem_singleton] at hz
        subst hz
        exact Or.inr ⟨by decide, _, X.2.2.2.2.1 _ (w_m lL_13), zG0_nc X.2.2.2.2.2.2.2.2 (q := ("java/util/NoSuchElementException", "java/lang/IllegalArgumentException")) (by decide +kernel)⟩) (by decide) (by decide) (X.2.2.2.2.1 _ (w_m lL_27)) (zG0_cast X.2.2.2.2.2.2.2.2 (q := ("java/util/NoSuchElementException", "java/util/NoSuchElementException")) (by decide +kernel)) dL_told_19 (by decide) rfl ?_
      refine z_iconst (v := (nI 2)) X dL_told_21 (by decide) ?_
      refine z_iret X hlocks hr dL_told_22 (by omega) (by omega) ?_
      rw [hs]
      exact ⟨rfl, Nat.le_of_ble_eq_true rfl, hB, zfr.rf, rfl, fun h => absurd (show (2 : Nat) = 0 from h) (by decide)⟩
    · refine z_catch X (nm := "java/lang/IndexOutOfBoundsException") (i := 5) (L' := [(0, .ref 1), (1, .int x), (2, .int y), (3, .int w), (4, .ref 2000)]) [⟨0, 12, 15, 13⟩, ⟨0, 12, 19, 27⟩] ⟨0, 12, 23, 41⟩ [] htab (fun z hz => by
        simp only [List.mem_cons, List.not_mem_nil, or_false] at hz
        rcases hz with hz | hz <;> subst hz
        · exact Or.inr ⟨by decide, _, X.2.2.2.2.1 _ (w_m lL_13), zG0_nc X.2.2.2.2.2.2.2.2 (q := ("java/lang/IndexOutOfBoundsException", "java/lang/IllegalArgumentException")) (by decide +kernel)⟩
        · exact Or.inr ⟨by decide, _, X.2.2.2.2.1 _ (w_m lL_27), zG0_nc X.2.2.2.2.2.2.2.2 (q := ("java/lang/IndexOutOfBoundsException", "java/util/NoSuchElementException")) (by decide +kernel)⟩) (by decide) (by decide) (X.2.2.2.2.1 _ (w_m lL_41)) (zG0_cast X.2.2.2.2.2.2.2.2 (q := ("java/lang/IndexOutOfBoundsException", "java/lang/IndexOutOfBoundsException")) (by decide +kernel)) dL_told_23 (by decide) rfl ?_
      refine z_iconst (v := (nI 3)) X dL_told_25 (by decide) ?_
      refine z_iret X hlocks hr dL_told_26 (by omega) (by omega) ?_
      rw [hs]
      exact ⟨rfl, Nat.le_of_ble_eq_true rfl, hB, zfr.rf, rfl, fun h => absurd (show (3 : Nat) = 0 from h) (by decide)⟩

set_option maxHeartbeats 600000 in
set_option maxRecDepth 100000 in
theorem mL_compact (l : Launch) (D : va_G) (dA : Nat → ClassId) {S : zS} {b : zBr} {x : Int32} (hl0 : l.stackTraces = false) (hB : zBrA S b) (hI : zInv b) : zMet l D vwCl zKK dA (zG0 D dA) yL_compact (Cond.codeWith yL_compact cL_compact 4 (some .int) [(0, 9, 12, 13), (0, 9, 15, 15)] :: zTs) { frames := 8, cells := 8, slots := 48, locals := 126 } 8 48 [.ref 1, .int x, .ref 2000] S (fun v S' => v = some (.int (nI (sCompact b x).1.1)) ∧ (sCompact b x).1.1 ≤ 4 ∧ zBrA S' (sCompact b x).2 ∧ zfr zOwnL S S' ∧ S'.1 2000 = S.1 2000 ∧ ((sCompact b x).1.1 = 0 → S'.2.2.2 2000 0 = ((sCompact b x).1.2).toInt64)) (fun _ _ => False) := by
  refine z_metH (tys := ztys dA) (hh := [(0, 9, 12, 13), (0, 9, 15, 15)]) (by decide) rfl zG0_K rfl (Nat.le_of_ble_eq_true rfl) (fun p e s m args below meth c A ad X hr hlocks htab => ?_)
  refine z_aload_n (j := 2) X dL_compact_0 rfl rfl ?_
  refine z_iconst (v := (nI 0)) X dL_compact_1 (by decide) ?_
  refine z_aload_n (j := 0) X dL_compact_2 rfl rfl ?_
  refine z_iload_n (j := 1) X dL_compact_3 rfl rfl ?_
  refine z_callV (n := 1) (As := [.int x]) (rest := [.int (nI 0), .ref 2000]) X zG0_m (mB_compact l D dA hl0 hB hI.1) (w_V X.2.2.2.2.1 lL_47 jB_compact sB_compact i_LogBroker kB_compact rfl rfl (by decide +kernel) ⟨Nat.le_of_ble_eq_true rfl, Nat.le_of_ble_eq_true rfl⟩) rfl rfl rfl rfl rfl (Nat.le_of_ble_eq_true rfl) dL_compact_4 ⟨Nat.le_of_ble_eq_true rfl, Nat.le_of_ble_eq_true rfl⟩ (fun v S1 hp => ?_) (fun E S1 hx => ?_)
  · obtain ⟨r, b', hv, hs, hB', hf⟩ := hp
    subst hv
    refine z_i2l X dL_compact_7 rfl ?_
    refine z_last (t0 := 2) (j9 := 0) X rfl rfl (by decide) (by decide) dL_compact_8 ?_
    refine z_goto (tgt := 18) X dL_compact_9 (by decide) ?_
    refine z_iconst (v := (nI 0)) X dL_compact_18 (by decide) ?_
    refine z_iret X hlocks hr dL_compact_19 (by omega) (by omega) ?_
    rw [hs]
    exact ⟨rfl, Nat.le_of_ble_eq_true rfl, hB', (hf.mono (fun n h => Or.inl h)).tr (zfr.l (Or.inr rfl)), hf.1 2000 (by unfold zOwnB; omega), fun _ => rl_s⟩
  · obtain ⟨hS9, hx⟩ := hx
    have hS9 := hS9.symm
    subst hS9
    rcases hx with ⟨hE, hs⟩ | ⟨hE, hs⟩ <;> subst hE
    · refine z_catch_n X (nm := "java/lang/IllegalArgumentException") (i := 3) (L' := [(0, .ref 1), (1, .int x), (2, .ref 2000)]) [] ⟨0, 9, 12, 13⟩ [⟨0, 9, 15, 15⟩] htab (fun z hz => by cases hz) (by decide) (by decide) (X.2.2.2.2.1 _ (w_m lL_13)) (zG0_cast X.2.2.2.2.2.2.2.2 (q := ("java/lang/IllegalArgumentException", "java/lang/IllegalArgumentException")) (by decide +kernel)) dL_compact_12 rfl (by decide) rfl ?_
      refine z_iconst (v := (nI 1)) X dL_compact_13 (by decide) ?_
      refine z_iret X hlocks hr dL_compact_14 (by omega) (by omega) ?_
      rw [hs]
      exact ⟨rfl, Nat.le_of_ble_eq_true rfl, hB, zfr.rf, rfl, fun h => absurd (show (1 : Nat) = 0 from h) (by decide)⟩
    · refine z_catch_n X (nm := "java/lang/IllegalStateException") (i := 3) (L' := [(0, .ref 1), (1, .int x), (2, .ref 2000)]) [⟨0, 9, 12, 13⟩] ⟨0, 9, 15, 15⟩ [] htab (fun z hz => by
        rw [List.mem_singleton] at hz
        subst hz
        exact Or.inr ⟨by decide, _, X.2.2.2.2.1 _ (w_m lL_13), zG0_nc X.2.2.2.2.2.2.2.2 (q := ("java/lang/IllegalStateException", "java/lang/IllegalArgumentException")) (by decide +kernel)⟩) (by decide) (by decide) (X.2.2.2.2.1 _ (w_m lL_15)) (zG0_cast X.2.2.2.2.2.2.2.2 (q := ("java/lang/IllegalStateException", "java/lang/IllegalStateException")) (by decide +kernel)) dL_compact_15 rfl (by decide) rfl ?_
      refine z_iconst (v := (nI 2)) X dL_compact_16 (by decide) ?_
      refine z_iret X hlocks hr dL_compact_17 (by omega) (by omega) ?_
      rw [hs]
      exact ⟨rfl, Nat.le_of_ble_eq_true rfl, hB, zfr.rf, rfl, fun h => absurd (show (2 : Nat) = 0 from h) (by decide)⟩

set_option maxHeartbeats 600000 in
set_option maxRecDepth 100000 in
theorem mL_join (l : Launch) (D : va_G) (dA : Nat → ClassId) {S : zS} {b : zBr} {x mm y : Int32} (hl0 : l.stackTraces = false) (hB : zBrA S b) (hI : zInv b) : zMet l D vwCl zKK dA (zG0 D dA) yL_join (Cond.codeWith yL_join cL_join 6 (some .int) [(0, 12, 15, 13), (0, 12, 19, 27)] :: zTs) { frames := 8, cells := 10, slots := 60, locals := 127 } 10 60 [.ref 1, .int x, .int mm, .int y, .ref 2000] S (fun v S' => v = some (.int (nI (sJoin b x mm y).1.1)) ∧ (sJoin b x mm y).1.1 ≤ 4 ∧ zBrA S' (sJoin b x mm y).2 ∧ zfr zOwnL S S' ∧ S'.1 2000 = S.1 2000 ∧ ((sJoin b x mm y).1.1 = 0 → S'.2.2.2 2000 0 = ((sJoin b x mm y).1.2).toInt64)) (fun _ _ => False) := by
  refine z_metH (tys := ztys dA) (hh := [(0, 12, 15, 13), (0, 12, 19, 27)]) (by decide) rfl zG0_K rfl (Nat.le_of_ble_eq_true rfl) (fun p e s m args below meth c A ad X hr hlocks htab => ?_)
  refine z_aload (j := 4) X dL_join_0 rfl ?_
  refine z_iconst (v := (nI 0)) X dL_join_2 (by decide) ?_
  refine z_aload_n (j := 0) X dL_join_3 rfl rfl ?_
  refine z_iload_n (j := 1) X dL_join_4 rfl rfl ?_
  refine z_iload_n (j := 2) X dL_join_5 rfl rfl ?_
  refine z_iload_n (j := 3) X dL_join_6 rfl rfl ?_
  refine z_callV (n := 3) (As := [.int x, .int mm, .int y]) (rest := [.int (nI 0), .ref 2000]) X zG0_m (mB_join l D dA hl0 hB hI.1) (w_V X.2.2.2.2.1 lL_51 jB_join sB_join i_LogBroker kB_join rfl rfl (by decide +kernel) ⟨Nat.le_of_ble_eq_true rfl, Nat.le_of_ble_eq_true rfl⟩) rfl rfl rfl rfl rfl (Nat.le_of_ble_eq_true rfl) dL_join_7 ⟨Nat.le_of_ble_eq_true rfl, Nat.le_of_ble_eq_true rfl⟩ (fun v S1 hp => ?_) (fun E S1 hx => ?_)
  · obtain ⟨r, b', hv, hs, hB', hf⟩ := hp
    subst hv
    refine z_i2l X dL_join_10 rfl ?_
    refine z_last (t0 := 2) (j9 := 0) X rfl rfl (by decide) (by decide) dL_join_11 ?_
    refine z_goto (tgt := 23) X dL_join_12 (by decide) ?_
    refine z_iconst (v := (nI 0)) X dL_join_23 (by decide) ?_
    refine z_iret X hlocks hr dL_join_24 (by omega) (by omega) ?_
    rw [hs]
    exact ⟨rfl, Nat.le_of_ble_eq_true rfl, hB', (hf.mono (fun n h => Or.inl h)).tr (zfr.l (Or.inr rfl)), hf.1 2000 (by unfold zOwnB; omega), fun _ => rl_s⟩
  · obtain ⟨hS9, hx⟩ := hx
    have hS9 := hS9.symm
    subst hS9
    rcases hx with ⟨hE, hs⟩ | ⟨hE, hs⟩ <;> subst hE
    · refine z_catch X (nm := "java/lang/IllegalArgumentException") (i := 5) (L' := [(0, .ref 1), (1, .int x), (2, .int mm), (3, .int y), (4, .ref 2000)]) [] ⟨0, 12, 15, 13⟩ [⟨0, 12, 19, 27⟩] htab (fun z hz => by cases hz) (by decide) (by decide) (X.2.2.2.2.1 _ (w_m lL_13)) (zG0_cast X.2.2.2.2.2.2.2.2 (q := ("java/lang/IllegalArgumentException", "java/lang/IllegalArgumentException")) (by decide +kernel)) dL_join_15 (by decide) rfl ?_
      refine z_iconst (v := (nI 1)) X dL_join_17 (by decide) ?_
      refine z_iret X hlocks hr dL_join_18 (by omega) (by omega) ?_
      rw [hs]
      exact ⟨rfl, Nat.le_of_ble_eq_true rfl, hB, zfr.rf, rfl, fun h => absurd (show (1 : Nat) = 0 from h) (by decide)⟩
    · refine z_catch X (nm := "java/util/NoSuchElementException") (i := 5) (L' := [(0, .ref 1), (1, .int x), (2, .int mm), (3, .int y), (4, .ref 2000)]) [⟨0, 12, 15, 13⟩] ⟨0, 12, 19, 27⟩ [] htab (fun z hz => by
        rw [List.mem_singleton] at hz
        subst hz
        exact Or.inr ⟨by decide, _, X.2.2.2.2.1 _ (w_m lL_13), zG0_nc X.2.2.2.2.2.2.2.2 (q := ("java/util/NoSuchElementException", "java/lang/IllegalArgumentException")) (by decide +kernel)⟩) (by decide) (by decide) (X.2.2.2.2.1 _ (w_m lL_27)) (zG0_cast X.2.2.2.2.2.2.2.2 (q := ("java/util/NoSuchElementException", "java/util/NoSuchElementException")) (by decide +kernel)) dL_join_19 (by decide) rfl ?_
      refine z_iconst (v := (nI 2)) X dL_join_21 (by decide) ?_
      refine z_iret X hlocks hr dL_join_22 (by omega) (by omega) ?_
      rw [hs]
      exact ⟨rfl, Nat.le_of_ble_eq_true rfl, hB, zfr.rf, rfl, fun h => absurd (show (2 : Nat) = 0 from h) (by decide)⟩

set_option maxHeartbeats 600000 in
set_option maxRecDepth 100000 in
theorem mL_leave (l : Launch) (D : va_G) (dA : Nat → ClassId) {S : zS} {b : zBr} {x mm : Int32} (hl0 : l.stackTraces = false) (hB : zBrA S b) (hI : zInv b) : zMet l D vwCl zKK dA (zG0 D dA) yL_leave (Cond.codeWith yL_leave cL_leave 5 (some .int) [(0, 10, 13, 13), (0, 10, 17, 27)] :: zTs) { frames := 8, cells := 10, slots := 60, locals := 126 } 10 60 [.ref 1, .int x, .int mm, .ref 2000] S (fun v S' => v = some (.int (nI (sLeave b x mm).1.1)) ∧ (sLeave b x mm).1.1 ≤ 4 ∧ zBrA S' (sLeave b x mm).2 ∧ zfr zOwnL S S' ∧ S'.1 2000 = S.1 2000 ∧ ((sLeave b x mm).1.1 = 0 → S'.2.2.2 2000 0 = ((sLeave b x mm).1.2).toInt64)) (fun _ _ => False) := by
  refine z_metH (tys := ztys dA) (hh := [(0, 10, 13, 13), (0, 10, 17, 27)]) (by decide) rfl zG0_K rfl (Nat.le_of_ble_eq_true rfl) (fun p e s m args below meth c A ad X hr hlocks htab => ?_)
  refine z_aload_n (j := 3) X dL_leave_0 rfl rfl ?_
  refine z_iconst (v := (nI 0)) X dL_leave_1 (by decide) ?_
  refine z_aload_n (j := 0) X dL_leave_2 rfl rfl ?_
  refine z_iload_n (j := 1) X dL_leave_3 rfl rfl ?_
  refine z_iload_n (j := 2) X dL_leave_4 rfl rfl ?_
  refine z_callV (n := 2) (As := [.int x, .int mm]) (rest := [.int (nI 0), .ref 2000]) X zG0_m (mB_leave l D dA hl0 hB hI.1) (w_V X.2.2.2.2.1 lL_54 jB_leave sB_leave i_LogBroker kB_leave rfl rfl (by decide +kernel) ⟨Nat.le_of_ble_eq_true rfl, Nat.le_of_ble_eq_true rfl⟩) rfl rfl rfl rfl rfl (Nat.le_of_ble_eq_true rfl) dL_leave_5 ⟨Nat.le_of_ble_eq_true rfl, Nat.le_of_ble_eq_true rfl⟩ (fun v S1 hp => ?_) (fun E S1 hx => ?_)
  · obtain ⟨r, b', hv, hs, hB', hf⟩ := hp
    subst hv
    refine z_i2l X dL_leave_8 rfl ?_
    refine z_last (t0 := 2) (j9 := 0) X rfl rfl (by decide) (by decide) dL_leave_9 ?_
    refine z_goto (tgt := 21) X dL_leave_10 (by decide) ?_
    refine z_iconst (v := (nI 0)) X dL_leave_21 (by decide) ?_
    refine z_iret X hlocks hr dL_leave_22 (by omega) (by omega) ?_
    rw [hs]
    exact ⟨rfl, Nat.le_of_ble_eq_true rfl, hB', (hf.mono (fun n h => Or.inl h)).tr (zfr.l (Or.inr rfl)), hf.1 2000 (by unfold zOwnB; omega), fun _ => rl_s⟩
  · obtain ⟨hS9, hx⟩ := hx
    have hS9 := hS9.symm
    subst hS9
    rcases hx with ⟨hE, hs⟩ | ⟨hE, hs⟩ <;> subst hE
    · refine z_catch X (nm := "java/lang/IllegalArgumentException") (i := 4) (L' := [(0, .ref 1), (1, .int x), (2, .int mm), (3, .ref 2000)]) [] ⟨0, 10, 13, 13⟩ [⟨0, 10, 17, 27⟩] htab (fun z hz => by cases hz) (by decide) (by decide) (X.2.2.2.2.1 _ (w_m lL_13)) (zG0_cast X.2.2.2.2.2.2.2.2 (q := ("java/lang/IllegalArgumentException", "java/lang/IllegalArgumentException")) (by decide +kernel)) dL_leave_13 (by decide) rfl ?_
      refine z_iconst (v := (nI 1)) X dL_leave_15 (by decide) ?_
      refine z_iret X hlocks hr dL_leave_16 (by omega) (by omega) ?_
      rw [hs]
      exact ⟨rfl, Nat.le_of_ble_eq_true rfl, hB, zfr.rf, rfl, fun h => absurd (show (1 : Nat) = 0 from h) (by decide)⟩
    · refine z_catch X (nm := "java/util/NoSuchElementException") (i := 4) (L' := [(0, .ref 1), (1, .int x), (2, .int mm), (3, .ref 2000)]) [⟨0, 10, 13, 13⟩] ⟨0, 10, 17, 27⟩ [] htab (fun z hz => by
        rw [List.mem_singleton] at hz
        subst hz
        exact Or.inr ⟨by decide, _, X.2.2.2.2.1 _ (w_m lL_13), zG0_nc X.2.2.2.2.2.2.2.2 (q := ("java/util/NoSuchElementException", "java/lang/IllegalArgumentException")) (by decide +kernel)⟩) (by decide) (by decide) (X.2.2.2.2.1 _ (w_m lL_27)) (zG0_cast X.2.2.2.2.2.2.2.2 (q := ("java/util/NoSuchElementException", "java/util/NoSuchElementException")) (by decide +kernel)) dL_leave_17 (by decide) rfl ?_
      refine z_iconst (v := (nI 2)) X dL_leave_19 (by decide) ?_
      refine z_iret X hlocks hr dL_leave_20 (by omega) (by omega) ?_
      rw [hs]
      exact ⟨rfl, Nat.le_of_ble_eq_true rfl, hB, zfr.rf, rfl, fun h => absurd (show (2 : Nat) = 0 from h) (by decide)⟩

set_option maxHeartbeats 600000 in
set_option maxRecDepth 100000 in
theorem mL_owner (l : Launch) (D : va_G) (dA : Nat → ClassId) {S : zS} {b : zBr} {x y : Int32} (hl0 : l.stackTraces = false) (hB : zBrA S b) (hI : zInv b) : zMet l D vwCl zKK dA (zG0 D dA) yL_owner (Cond.codeWith yL_owner cL_owner 5 (some .int) [(0, 10, 13, 13), (0, 10, 17, 27)] :: zTs) { frames := 8, cells := 8, slots := 48, locals := 126 } 8 48 [.ref 1, .int x, .int y, .ref 2000] S (fun v S' => v = some (.int (nI (sOwner b x y).1)) ∧ (sOwner b x y).1 ≤ 4 ∧ zBrA S' b ∧ zfr zOwnL S S' ∧ S'.1 2000 = S.1 2000 ∧ ((sOwner b x y).1 = 0 → S'.2.2.2 2000 0 = ((sOwner b x y).2).toInt64)) (fun _ _ => False) := by
  refine z_metH (tys := ztys dA) (hh := [(0, 10, 13, 13), (0, 10, 17, 27)]) (by decide) rfl zG0_K rfl (Nat.le_of_ble_eq_true rfl) (fun p e s m args below meth c A ad X hr hlocks htab => ?_)
  refine z_aload_n (j := 3) X dL_owner_0 rfl rfl ?_
  refine z_iconst (v := (nI 0)) X dL_owner_1 (by decide) ?_
  refine z_aload_n (j := 0) X dL_owner_2 rfl rfl ?_
  refine z_iload_n (j := 1) X dL_owner_3 rfl rfl ?_
  refine z_iload_n (j := 2) X dL_owner_4 rfl rfl ?_
  refine z_callV (n := 2) (As := [.int x, .int y]) (rest := [.int (nI 0), .ref 2000]) X zG0_m (mB_owner l D dA hl0 hB hI.1) (w_V X.2.2.2.2.1 lL_57 jB_owner sB_owner i_LogBroker kB_owner rfl rfl (by decide +kernel) ⟨Nat.le_of_ble_eq_true rfl, Nat.le_of_ble_eq_true rfl⟩) rfl rfl rfl rfl rfl (Nat.le_of_ble_eq_true rfl) dL_owner_5 ⟨Nat.le_of_ble_eq_true rfl, Nat.le_of_ble_eq_true rfl⟩ (fun v S1 hp => ?_) (fun E S1 hx => ?_)
  · obtain ⟨hS9, r, hv, hs⟩ := hp
    subst hv
    have hS9 := hS9.symm
    subst hS9
    refine z_i2l X dL_owner_8 rfl ?_
    refine z_last (t0 := 2) (j9 := 0) X rfl rfl (by decide) (by decide) dL_owner_9 ?_
    refine z_goto (tgt := 21) X dL_owner_10 (by decide) ?_
    refine z_iconst (v := (nI 0)) X dL_owner_21 (by decide) ?_
    refine z_iret X hlocks hr dL_owner_22 (by omega) (by omega) ?_
    rw [hs]
    exact ⟨rfl, Nat.le_of_ble_eq_true rfl, hB, zfr.l (Or.inr rfl), rfl, fun _ => rl_s⟩
  · obtain ⟨hS9, hx⟩ := hx
    have hS9 := hS9.symm
    subst hS9
    rcases hx with ⟨hE, hs⟩ | ⟨hE, hs⟩ <;> subst hE
    · refine z_catch X (nm := "java/lang/IllegalArgumentException") (i := 4) (L' := [(0, .ref 1), (1, .int x), (2, .int y), (3, .ref 2000)]) [] ⟨0, 10, 13, 13⟩ [⟨0, 10, 17, 27⟩] htab (fun z hz => by cases hz) (by decide) (by decide) (X.2.2.2.2.1 _ (w_m lL_13)) (zG0_cast X.2.2.2.2.2.2.2.2 (q := ("java/lang/IllegalArgumentException", "java/lang/IllegalArgumentException")) (by decide +kernel)) dL_owner_13 (by decide) rfl ?_
      refine z_iconst (v := (nI 1)) X dL_owner_15 (by decide) ?_
      refine z_iret X hlocks hr dL_owner_16 (by omega) (by omega) ?_
      rw [hs]
      exact ⟨rfl, Nat.le_of_ble_eq_true rfl, hB, zfr.rf, rfl, fun h => absurd (show (1 : Nat) = 0 from h) (by decide)⟩
    · refine z_catch X (nm := "java/util/NoSuchElementException") (i := 4) (L' := [(0, .ref 1), (1, .int x), (2, .int y), (3, .ref 2000)]) [⟨0, 10, 13, 13⟩] ⟨0, 10, 17, 27⟩ [] htab (fun z hz => by
        rw [List.mem_singleton] at hz
        subst hz
        exact Or.inr ⟨by decide, _, X.2.2.2.2.1 _ (w_m lL_13), zG0_nc X.2.2.2.2.2.2.2.2 (q := ("java/util/NoSuchElementException", "java/lang/IllegalArgumentException")) (by decide +kernel)⟩) (by decide) (by decide) (X.2.2.2.2.1 _ (w_m lL_27)) (zG0_cast X.2.2.2.2.2.2.2.2 (q := ("java/util/NoSuchElementException", "java/util/NoSuchElementException")) (by decide +kernel)) dL_owner_17 (by decide) rfl ?_
      refine z_iconst (v := (nI 2)) X dL_owner_19 (by decide) ?_
      refine z_iret X hlocks hr dL_owner_20 (by omega) (by omega) ?_
      rw [hs]
      exact ⟨rfl, Nat.le_of_ble_eq_true rfl, hB, zfr.rf, rfl, fun h => absurd (show (2 : Nat) = 0 from h) (by decide)⟩

set_option maxHeartbeats 600000 in
set_option maxRecDepth 100000 in
theorem mL_poll (l : Launch) (D : va_G) (dA : Nat → ClassId) {S : zS} {b : zBr} {x mm gn y : Int32} (hl0 : l.stackTraces = false) (hB : zBrA S b) (hI : zInv b) : zMet l D vwCl zKK dA (zG0 D dA) yL_poll (Cond.codeWith yL_poll cL_poll 7 (some .int) [(0, 14, 17, 13), (0, 14, 21, 27), (0, 14, 25, 15)] :: zTs) { frames := 8, cells := 10, slots := 60, locals := 132 } 10 60 [.ref 1, .int x, .int mm, .int gn, .int y, .ref 2000] S (fun v S' => v = some (.int (nI (sPoll b x mm gn y).1.1)) ∧ (sPoll b x mm gn y).1.1 ≤ 4 ∧ zBrA S' (sPoll b x mm gn y).2 ∧ zfr zOwnL S S' ∧ S'.1 2000 = S.1 2000 ∧ ((sPoll b x mm gn y).1.1 = 0 → S'.2.2.2 2000 0 = ((sPoll b x mm gn y).1.2).toInt64)) (fun _ _ => False) := by
  refine z_metH (tys := ztys dA) (hh := [(0, 14, 17, 13), (0, 14, 21, 27), (0, 14, 25, 15)]) (by decide) rfl zG0_K rfl (Nat.le_of_ble_eq_true rfl) (fun p e s m args below meth c A ad X hr hlocks htab => ?_)
  refine z_aload (j := 5) X dL_poll_0 rfl ?_
  refine z_iconst (v := (nI 0)) X dL_poll_2 (by decide) ?_
  refine z_aload_n (j := 0) X dL_poll_3 rfl rfl ?_
  refine z_iload_n (j := 1) X dL_poll_4 rfl rfl ?_
  refine z_iload_n (j := 2) X dL_poll_5 rfl rfl ?_
  refine z_iload_n (j := 3) X dL_poll_6 rfl rfl ?_
  refine z_iload (j := 4) X dL_poll_7 rfl ?_
  refine z_callV (n := 4) (As := [.int x, .int mm, .int gn, .int y]) (rest := [.int (nI 0), .ref 2000]) X zG0_m (mB_poll l D dA hl0 hB hI.1) (w_V X.2.2.2.2.1 lL_60 jB_poll sB_poll i_LogBroker kB_poll rfl rfl (by decide +kernel) ⟨Nat.le_of_ble_eq_true rfl, Nat.le_of_ble_eq_true rfl⟩) rfl rfl rfl rfl rfl (Nat.le_of_ble_eq_true rfl) dL_poll_9 ⟨Nat.le_of_ble_eq_true rfl, Nat.le_of_ble_eq_true rfl⟩ (fun v S1 hp => ?_) (fun E S1 hx => ?_)
  · obtain ⟨r, b', hv, hs, hB', hf⟩ := hp
    subst hv
    refine z_i2l X dL_poll_12 rfl ?_
    refine z_last (t0 := 2) (j9 := 0) X rfl rfl (by decide) (by decide) dL_poll_13 ?_
    refine z_goto (tgt := 29) X dL_poll_14 (by decide) ?_
    refine z_iconst (v := (nI 0)) X dL_poll_29 (by decide) ?_
    refine z_iret X hlocks hr dL_poll_30 (by omega) (by omega) ?_
    rw [hs]
    exact ⟨rfl, Nat.le_of_ble_eq_true rfl, hB', (hf.mono (fun n h => Or.inl h)).tr (zfr.l (Or.inr rfl)), hf.1 2000 (by unfold zOwnB; omega), fun _ => rl_s⟩
  · obtain ⟨hS9, hx⟩ := hx
    have hS9 := hS9.symm
    subst hS9
    rcases hx with ⟨hE, hs⟩ | ⟨hE, hs⟩ | ⟨hE, hs⟩ <;> subst hE
    · refine z_catch X (nm := "java/lang/IllegalArgumentException") (i := 6) (L' := [(0, .ref 1), (1, .int x), (2, .int mm), (3, .int gn), (4, .int y), (5, .ref 2000)]) [] ⟨0, 14, 17, 13⟩ [⟨0, 14, 21, 27⟩, ⟨0, 14, 25, 15⟩] htab (fun z hz => by cases hz) (by decide) (by decide) (X.2.2.2.2.1 _ (w_m lL_13)) (zG0_cast X.2.2.2.2.2.2.2.2 (q := ("java/lang/IllegalArgumentException", "java/lang/IllegalArgumentException")) (by decide +kernel)) dL_poll_17 (by decide) rfl ?_
      refine z_iconst (v := (nI 1)) X dL_poll_19 (by decide) ?_
      refine z_iret X hlocks hr dL_poll_20 (by omega) (by omega) ?_
      rw [hs]
      exact ⟨rfl, Nat.le_of_ble_eq_true rfl, hB, zfr.rf, rfl, fun h => absurd (show (1 : Nat) = 0 from h) (by decide)⟩
    · refine z_catch X (nm := "java/util/NoSuchElementException") (i := 6) (L' := [(0, .ref 1), (1, .int x), (2, .int mm), (3, .int gn), (4, .int y), (5, .ref 2000)]) [⟨0, 14, 17, 13⟩] ⟨0, 14, 21, 27⟩ [⟨0, 14, 25, 15⟩] htab (fun z hz => by
        rw [List.mem_singleton] at hz
        subst hz
        exact Or.inr ⟨by decide, _, X.2.2.2.2.1 _ (w_m lL_13), zG0_nc X.2.2.2.2.2.2.2.2 (q := ("java/util/NoSuchElementException", "java/lang/IllegalArgumentException")) (by decide +kernel)⟩) (by decide) (by decide) (X.2.2.2.2.1 _ (w_m lL_27)) (zG0_cast X.2.2.2.2.2.2.2.2 (q := ("java/util/NoSuchElementException", "java/util/NoSuchElementException")) (by decide +kernel)) dL_poll_21 (by decide) rfl ?_
      refine z_iconst (v := (nI 2)) X dL_poll_23 (by decide) ?_
      refine z_iret X hlocks hr dL_poll_24 (by omega) (by omega) ?_
      rw [hs]
      exact ⟨rfl, Nat.le_of_ble_eq_true rfl, hB, zfr.rf, rfl, fun h => absurd (show (2 : Nat) = 0 from h) (by decide)⟩
    · refine z_catch X (nm := "java/lang/IllegalStateException") (i := 6) (L' := [(0, .ref 1), (1, .int x), (2, .int mm), (3, .int gn), (4, .int y), (5, .ref 2000)]) [⟨0, 14, 17, 13⟩, ⟨0, 14, 21, 27⟩] ⟨0, 14, 25, 15⟩ [] htab (fun z hz => by
        simp only [List.mem_cons, List.not_mem_nil, or_false] at hz
        rcases hz with hz | hz <;> subst hz
        · exact Or.inr ⟨by decide, _, X.2.2.2.2.1 _ (w_m lL_13), zG0_nc X.2.2.2.2.2.2.2.2 (q := ("java/lang/IllegalStateException", "java/lang/IllegalArgumentException")) (by decide +kernel)⟩
        · exact Or.inr ⟨by decide, _, X.2.2.2.2.1 _ (w_m lL_27), zG0_nc X.2.2.2.2.2.2.2.2 (q := ("java/lang/IllegalStateException", "java/util/NoSuchElementException")) (by decide +kernel)⟩) (by decide) (by decide) (X.2.2.2.2.1 _ (w_m lL_15)) (zG0_cast X.2.2.2.2.2.2.2.2 (q := ("java/lang/IllegalStateException", "java/lang/IllegalStateException")) (by decide +kernel)) dL_poll_25 (by decide) rfl ?_
      refine z_iconst (v := (nI 3)) X dL_poll_27 (by decide) ?_
      refine z_iret X hlocks hr dL_poll_28 (by omega) (by omega) ?_
      rw [hs]
      exact ⟨rfl, Nat.le_of_ble_eq_true rfl, hB, zfr.rf, rfl, fun h => absurd (show (3 : Nat) = 0 from h) (by decide)⟩

set_option maxHeartbeats 600000 in
set_option maxRecDepth 100000 in
theorem mL_keep (l : Launch) (D : va_G) (dA : Nat → ClassId) {S : zS} {b : zBr} {x mm gn y o : Int32} (hl0 : l.stackTraces = false) (hB : zBrA S b) (hI : zInv b) : zMet l D vwCl zKK dA (zG0 D dA) yL_keep (Cond.codeWith yL_keep cL_keep 7 (some .int) [(0, 11, 14, 13), (0, 11, 18, 15)] :: zTs) { frames := 8, cells := 10, slots := 60, locals := 131 } 10 60 [.ref 1, .int x, .int mm, .int gn, .int y, .int o] S (fun v S' => v = some (.int (nI (sKeep b x mm gn y o).1.1)) ∧ (sKeep b x mm gn y o).1.1 ≤ 4 ∧ zBrA S' (sKeep b x mm gn y o).2 ∧ zfr zOwnL S S' ∧ S'.1 2000 = S.1 2000) (fun _ _ => False) := by
  refine z_metH (tys := ztys dA) (hh := [(0, 11, 14, 13), (0, 11, 18, 15)]) (by decide) rfl zG0_K rfl (Nat.le_of_ble_eq_true rfl) (fun p e s m args below meth c A ad X hr hlocks htab => ?_)
  refine z_aload_n (j := 0) X dL_keep_0 rfl rfl ?_
  refine z_iload_n (j := 1) X dL_keep_1 rfl rfl ?_
  refine z_iload_n (j := 2) X dL_keep_2 rfl rfl ?_
  refine z_iload_n (j := 3) X dL_keep_3 rfl rfl ?_
  refine z_iload (j := 4) X dL_keep_4 rfl ?_
  refine z_iload (j := 5) X dL_keep_6 rfl ?_
  refine z_callV (n := 5) (As := [.int x, .int mm, .int gn, .int y, .int o]) (rest := []) X zG0_m (mB_keep l D dA hl0 hB hI.1) (w_V X.2.2.2.2.1 lL_64 jB_keep sB_keep i_LogBroker kB_keep rfl rfl (by decide +kernel) ⟨Nat.le_of_ble_eq_true rfl, Nat.le_of_ble_eq_true rfl⟩) rfl rfl rfl rfl rfl (Nat.le_of_ble_eq_true rfl) dL_keep_8 ⟨Nat.le_of_ble_eq_true rfl, Nat.le_of_ble_eq_true rfl⟩ (fun v S1 hp => ?_) (fun E S1 hx => ?_)
  · obtain ⟨b', hv, hs, hB', hf⟩ := hp
    subst hv
    refine z_goto (tgt := 22) X dL_keep_11 (by decide) ?_
    refine z_iconst (v := (nI 0)) X dL_keep_22 (by decide) ?_
    refine z_iret X hlocks hr dL_keep_23 (by omega) (by omega) ?_
    rw [hs]
    exact ⟨rfl, Nat.le_of_ble_eq_true rfl, hB', hf.mono (fun n h => Or.inl h), hf.1 2000 (by unfold zOwnB; omega)⟩
  · obtain ⟨hS9, hx⟩ := hx
    have hS9 := hS9.symm
    subst hS9
    rcases hx with ⟨hE, hs⟩ | ⟨hE, hs⟩ <;> subst hE
    · refine z_catch X (nm := "java/lang/IllegalArgumentException") (i := 6) (L' := [(0, .ref 1), (1, .int x), (2, .int mm), (3, .int gn), (4, .int y), (5, .int o)]) [] ⟨0, 11, 14, 13⟩ [⟨0, 11, 18, 15⟩] htab (fun z hz => by cases hz) (by decide) (by decide) (X.2.2.2.2.1 _ (w_m lL_13)) (zG0_cast X.2.2.2.2.2.2.2.2 (q := ("java/lang/IllegalArgumentException", "java/lang/IllegalArgumentException")) (by decide +kernel)) dL_keep_14 (by decide) rfl ?_
      refine z_iconst (v := (nI 1)) X dL_keep_16 (by decide) ?_
      refine z_iret X hlocks hr dL_keep_17 (by omega) (by omega) ?_
      rw [hs]
      exact ⟨rfl, Nat.le_of_ble_eq_true rfl, hB, zfr.rf, rfl⟩
    · refine z_catch X (nm := "java/lang/IllegalStateException") (i := 6) (L' := [(0, .ref 1), (1, .int x), (2, .int mm), (3, .int gn), (4, .int y), (5, .int o)]) [⟨0, 11, 14, 13⟩] ⟨0, 11, 18, 15⟩ [] htab (fun z hz => by
        rw [List.mem_singleton] at hz
        subst hz
        exact Or.inr ⟨by decide, _, X.2.2.2.2.1 _ (w_m lL_13), zG0_nc X.2.2.2.2.2.2.2.2 (q := ("java/lang/IllegalStateException", "java/lang/IllegalArgumentException")) (by decide +kernel)⟩) (by decide) (by decide) (X.2.2.2.2.1 _ (w_m lL_15)) (zG0_cast X.2.2.2.2.2.2.2.2 (q := ("java/lang/IllegalStateException", "java/lang/IllegalStateException")) (by decide +kernel)) dL_keep_18 (by decide) rfl ?_
      refine z_iconst (v := (nI 2)) X dL_keep_20 (by decide) ?_
      refine z_iret X hlocks hr dL_keep_21 (by omega) (by omega) ?_
      rw [hs]
      exact ⟨rfl, Nat.le_of_ble_eq_true rfl, hB, zfr.rf, rfl⟩

set_option maxHeartbeats 600000 in
set_option maxRecDepth 100000 in
theorem mL_log (l : Launch) (D : va_G) (dA : Nat → ClassId) {S : zS} {b : zBr} {x w : Int32} (hl0 : l.stackTraces = false) (hB : zBrA S b) (hI : zInv b) : zMet l D vwCl zKK dA (zG0 D dA) yL_log (Cond.codeWith yL_log cL_log 5 (some .int) [(0, 10, 13, 13)] :: zTs) { frames := 8, cells := 8, slots := 48, locals := 127 } 8 48 [.ref 1, .int x, .int w, .ref 2000] S (fun v S' => v = some (.int (nI (sLog b x w).1)) ∧ (sLog b x w).1 ≤ 4 ∧ zBrA S' b ∧ zfr zOwnL S S' ∧ S'.1 2000 = S.1 2000 ∧ ((sLog b x w).1 = 0 → S'.2.2.2 2000 0 = ((sLog b x w).2).toInt64)) (fun _ _ => False) := by
  refine z_metH (tys := ztys dA) (hh := [(0, 10, 13, 13)]) (by decide) rfl zG0_K rfl (Nat.le_of_ble_eq_true rfl) (fun p e s m args below meth c A ad X hr hlocks htab => ?_)
  refine z_aload_n (j := 3) X dL_log_0 rfl rfl ?_
  refine z_iconst (v := (nI 0)) X dL_log_1 (by decide) ?_
  refine z_aload_n (j := 0) X dL_log_2 rfl rfl ?_
  refine z_iload_n (j := 1) X dL_log_3 rfl rfl ?_
  refine z_iload_n (j := 2) X dL_log_4 rfl rfl ?_
  refine z_callV (n := 2) (As := [.int x, .int w]) (rest := [.int (nI 0), .ref 2000]) X zG0_m (mB_log l D dA hl0 hB hI.1) (w_V X.2.2.2.2.1 lL_68 jB_log sB_log i_LogBroker kB_log rfl rfl (by decide +kernel) ⟨Nat.le_of_ble_eq_true rfl, Nat.le_of_ble_eq_true rfl⟩) rfl rfl rfl rfl rfl (Nat.le_of_ble_eq_true rfl) dL_log_5 ⟨Nat.le_of_ble_eq_true rfl, Nat.le_of_ble_eq_true rfl⟩ (fun v S1 hp => ?_) (fun E S1 hx => ?_)
  · obtain ⟨hS9, r, hv, hs⟩ := hp
    subst hv
    have hS9 := hS9.symm
    subst hS9
    refine z_i2l X dL_log_8 rfl ?_
    refine z_last (t0 := 2) (j9 := 0) X rfl rfl (by decide) (by decide) dL_log_9 ?_
    refine z_goto (tgt := 17) X dL_log_10 (by decide) ?_
    refine z_iconst (v := (nI 0)) X dL_log_17 (by decide) ?_
    refine z_iret X hlocks hr dL_log_18 (by omega) (by omega) ?_
    rw [hs]
    exact ⟨rfl, Nat.le_of_ble_eq_true rfl, hB, zfr.l (Or.inr rfl), rfl, fun _ => rl_s⟩
  · obtain ⟨hS9, hx⟩ := hx
    have hS9 := hS9.symm
    subst hS9
    obtain ⟨hE, hs⟩ := hx
    subst hE
    refine z_catch X (nm := "java/lang/IllegalArgumentException") (i := 4) (L' := [(0, .ref 1), (1, .int x), (2, .int w), (3, .ref 2000)]) [] ⟨0, 10, 13, 13⟩ [] htab (fun z hz => by cases hz) (by decide) (by decide) (X.2.2.2.2.1 _ (w_m lL_13)) (zG0_cast X.2.2.2.2.2.2.2.2 (q := ("java/lang/IllegalArgumentException", "java/lang/IllegalArgumentException")) (by decide +kernel)) dL_log_13 (by decide) rfl ?_
    refine z_iconst (v := (nI 1)) X dL_log_15 (by decide) ?_
    refine z_iret X hlocks hr dL_log_16 (by omega) (by omega) ?_
    rw [hs]
    exact ⟨rfl, Nat.le_of_ble_eq_true rfl, hB, zfr.rf, rfl, fun h => absurd (show (1 : Nat) = 0 from h) (by decide)⟩
