/-! CONTRACTS of LogBroker: compacting, polling, keeping, beginning (rows by program) -/
set_option maxHeartbeats 600000 in
set_option maxRecDepth 100000 in
theorem mB_compact (l : Launch) (D : va_G) (dA : Nat → ClassId) {S : zS} {b : zBr} {x : Int32} (hl0 : l.stackTraces = false) (hB : zBrA S b) (hW : zBrW b) : zMet l D vwCl zKK dA (zG0 D dA) yB_compact (Cond.code yB_compact cB_compact 4 (some .int) :: zTs) { frames := 7, cells := 8, slots := 48, locals := 103 } 8 48 [.ref 1, .int x] S (fun v S' => ∃ r b', v = some (.int r) ∧ sCompact b x = ((0, r), b') ∧ zBrA S' b' ∧ zfr zOwnB S S') (fun E S' => S' = S ∧ ((E = "java/lang/IllegalArgumentException" ∧ sCompact b x = ((1, 0), b)) ∨ (E = "java/lang/IllegalStateException" ∧ sCompact b x = ((2, 0), b)))) := by
  refine z_met (tys := ztys dA) (by decide) rfl zG0_K rfl (Nat.le_of_ble_eq_true rfl) (fun p e s m args below meth c A ad X hr hlocks hin hex => ?_)
  obtain ⟨hT, hLg, hSs, hGs, hnx, hnf⟩ := id hB
  obtain ⟨v1, v2, v3, v4, v5, v6, v7⟩ := id hW
  obtain ⟨hn, t0, t1, t2, t3, t4, t5, q6, q7, q8, q9, q10, hpt, hlg, hse, hcu, hop, hgr⟩ := id hT
  refine z_aload_n (j := 0) X dB_compact_0 rfl rfl ?_
  refine z_iload_n (j := 1) X dB_compact_1 rfl rfl ?_
  refine z_callV (n := 1) (As := [.int x]) (rest := []) X zG0_m (mB_logAt l D dA (x := x) hl0 hT) (w_V X.2.2.2.2.1 lB_80 jB_logAt sB_logAt i_LogBroker kB_logAt rfl rfl (by decide +kernel) ⟨Nat.le_of_ble_eq_true rfl, Nat.le_of_ble_eq_true rfl⟩) rfl rfl rfl rfl rfl (Nat.le_of_ble_eq_true rfl) dB_compact_2 ⟨Nat.le_of_ble_eq_true rfl, Nat.le_of_ble_eq_true rfl⟩ (fun v S9 hp => ?_) (fun E S1 hx => ?_)
  · obtain ⟨hS9, t, ht, hx9, hv⟩ := hp
    subst hv
    have hS9 := hS9.symm
    subst hS9
    subst hx9
    obtain ⟨g, hg0⟩ : ∃ g, g = b.2.1 t := ⟨_, rfl⟩
    have hO : zLogA S t g := by rw [hg0]; exact hLg t ht
    have hWg : zLogW g := by rw [hg0]; exact v2 t ht
    have hV : ∀ o e, g.2.2 o = some e → zEW e := by rw [hg0]; exact v3 t ht
    obtain ⟨gd1, gd2, f0, f1, f2, f3, f4, f5, f6, f7, f8, hent, hee⟩ := id hO
    obtain ⟨w1, w2, w3, w4, w5, w6, w7, w8, w9⟩ := id hWg
    have wb := zBa_le g
    have wp : zPr g ≤ 60 := zcnt_le
    have ht12 := ht.1
    refine z_astore_n (L' := [(2, .ref (60 + t)), (0, .ref 1), (1, .int (nI t))]) X dB_compact_5 rfl (by decide) rfl ?_
    refine z_aload_n (j := 0) X dB_compact_6 rfl rfl ?_
    refine z_geti (C := RG) (T := TG) (N := 9) (k := 2) X (w_in inG) rfl rfl (kd_G ht12) (by decide) (w_m lB_186) rfl rfl dB_compact_7 (hv := f2) ?_
    refine z_if_ne (tgt := 23) X dB_compact_10 (by decide) (fun c_10 => ?_) (fun c_10 => ?_)
    · refine z_aload_n (j := 0) X dB_compact_23 rfl rfl ?_
      have hc0 : ¬ g.1.2.2 = nI 0 := c_10
      refine z_callV (n := 0) (As := []) (rest := []) X zG0_m (mG_dropOutdated l D dA ht12 hO hWg hV) (w_V X.2.2.2.2.1 lB_191 jG_dropOutdated sG_dropOutdated i_LogBroker_Log kG_dropOutdated rfl rfl (by decide +kernel) ⟨Nat.le_of_ble_eq_true rfl, Nat.le_of_ble_eq_true rfl⟩) (kd_G ht12) rfl rfl rfl rfl (Nat.le_of_ble_eq_true rfl) dB_compact_24 ⟨Nat.le_of_ble_eq_true rfl, Nat.le_of_ble_eq_true rfl⟩ (fun v S1 hp => ?_) (fun E S1 hx => hx.elim)
      obtain ⟨hv, hA1, hf1, hd1⟩ := hp
      subst hv
      have hT1 : zTop S1 b := zTop_fr hT (fun n h1 h2 => hf1.ag (fun h => by unfold zOwnG at h; omega))
      obtain ⟨hn, t0, t1, t2, t3, t4, t5, q6, q7, q8, q9, q10, hpt, hlg, hse, hcu, hop, hgr⟩ := id hT1
      refine z_istore_n (L' := [(3, .int (nI (zPr g - zPr (zComp g)))), (2, .ref (60 + t)), (0, .ref 1), (1, .int (nI t))]) X dB_compact_27 rfl (by decide) rfl ?_
      refine z_aload_n (j := 2) X dB_compact_28 rfl rfl ?_
      refine z_dup X dB_compact_29 rfl ?_
      refine z_geti (C := RB) (T := TB) (N := 11) (k := 10) X (w_in inB) rfl rfl rfl (by decide) (w_m lB_195) rfl rfl dB_compact_30 (hv := q10) ?_
      refine z_iload_n (j := 0) X dB_compact_33 rfl rfl ?_
      refine z_iadd X dB_compact_34 ?_
      refine z_puti (C := RB) (T := TB) (N := 11) (k := 10) X (w_in inB) rfl rfl rfl (by decide) (w_m lB_195) rfl tyB tyB_ok nmB rfl rfl (ty := .int) (by decide +kernel) rfl rfl dB_compact_35 ?_
      refine z_iload_n (j := 0) X dB_compact_38 rfl rfl ?_
      refine z_iret X hlocks hr dB_compact_39 (by omega) (by omega) ?_
      have hfx : zfr (fun n => n = 1 ∨ zOwnG t n) S (zsi S1 1 10 (b.2.2.2.2.2.2.2.2.2.2 + nI (zPr g - zPr (zComp g)))) := (hf1.mono (fun n h => Or.inr h)).tr (zfr.i (Or.inl rfl))
      refine ⟨_, _, rfl, by unfold sCompact; rw [zT_s ht, if_neg (by rw [← hg0]; exact fun h => hc0 h), ← hg0], ?_, hfx.ownB (fun n h => by unfold zOwnG at h; omega)⟩
      refine zBrA_upd hB hW hfx (zTop_10 hT1) rfl (fun t2 h2 => ?_) (fun i hi => Or.inr ⟨rfl, fun n h9 h => by unfold zOwnS at h9; unfold zOwnG at h; omega⟩) (fun i hi => Or.inr ⟨rfl, fun n h9 h => by unfold zOwnH at h9; unfold zOwnG at h; omega⟩) (fun t2 h12 h2 n h9 h => ?_)
      · by_cases e9 : t2 = t
        · subst e9
          have e8 : (bG b t2 (zComp g)).2.1 t2 = zComp g := if_pos rfl
          refine Or.inl ⟨?_, fun o ho h => ?_⟩
          · show zLogA _ t2 ((bG b t2 (zComp g)).2.1 t2)
            rw [e8]
            exact zLogA_fr hA1 (zLogW_comp hWg) (fun n hn9 => zAg_i (fun e => by unfold zOwnG at hn9; omega))
          · have h' : ((bG b t2 (zComp g)).2.1 t2).2.1.2 ≤ o := h
            rw [e8] at h'
            show S1.1 _ = false
            rw [hd1]
            exact hnf t2 ht o ho (by rw [← hg0]; exact h')
        · exact Or.inr ⟨if_neg e9, fun n h9 h => by unfold zOwnG at h9 h; have := h2.1; omega⟩
      · unfold zOwnG at h9 h
        have : ¬ t2 = t := fun e => h2 (by rw [e]; exact ht)
        omega
    · exact z_thISE (text := "the topic is not compacted") X hl0 (by decide +kernel) dB_compact_13 dB_compact_16 dB_compact_17 dB_compact_19 dB_compact_22 hex (Nat.le_of_ble_eq_true rfl) (Nat.le_of_ble_eq_true rfl) (Nat.le_of_ble_eq_true rfl) (Nat.le_of_ble_eq_true rfl) hlocks (by omega) (by omega) ⟨rfl, Or.inr (⟨rfl, by unfold sCompact; rw [zT_s ht, if_pos (by rw [← hg0]; exact c_10)]⟩)⟩
  · obtain ⟨hE, hS9, hn9⟩ := hx
    subst hE
    have hS9 := hS9.symm
    subst hS9
    exact z_out (fun x hx9 => (hex x hx9).elim) hlocks ⟨rfl, Or.inl ⟨rfl, by unfold sCompact; rw [zT_n hn9]⟩⟩ (by omega) (by omega)

set_option maxHeartbeats 600000 in
set_option maxRecDepth 100000 in
theorem mB_begin (l : Launch) (D : va_G) (dA : Nat → ClassId) {S : zS} {b : zBr} {x : Int32} (hl0 : l.stackTraces = false) (hB : zBrA S b) (hW : zBrW b) : zMet l D vwCl zKK dA (zG0 D dA) yB_begin (Cond.code yB_begin cB_begin 3 none :: zTs) { frames := 7, cells := 8, slots := 48, locals := 104 } 8 48 [.ref 1, .int x] S (fun v S' => ∃ b', v = none ∧ sBegin b x = ((0, 0), b') ∧ zBrA S' b' ∧ zfr zOwnB S S') (fun E S' => S' = S ∧ ((E = "java/lang/IllegalArgumentException" ∧ sBegin b x = ((1, 0), b)) ∨ (E = "java/util/NoSuchElementException" ∧ sBegin b x = ((2, 0), b)) ∨ (E = "java/lang/IllegalStateException" ∧ sBegin b x = ((3, 0), b)) ∨ (E = "java/lang/UnsupportedOperationException" ∧ sBegin b x = ((4, 0), b)))) := by
  refine z_met (tys := ztys dA) (by decide) rfl zG0_K rfl (Nat.le_of_ble_eq_true rfl) (fun p e s m args below meth c A ad X hr hlocks hin hex => ?_)
  obtain ⟨hT, hLg, hSs, hGs, hnx, hnf⟩ := id hB
  obtain ⟨v1, v2, v3, v4, v5, v6, v7⟩ := id hW
  obtain ⟨hn, t0, t1, t2, t3, t4, t5, q6, q7, q8, q9, q10, hpt, hlg, hse, hcu, hop, hgr⟩ := id hT
  refine z_iload_n (j := 1) X dB_begin_0 rfl rfl ?_
  refine z_iconst (v := (nI 0)) X dB_begin_1 (by decide) ?_
  refine z_iconst (v := (nI 5)) X dB_begin_2 (by decide) ?_
  refine z_callS (n := 3) (As := [.int x, .int (nI 0), .int (nI 5)]) (rest := []) X zG0_m (mB_mustBeWithin l D dA hl0) (w_S X.2.2.2.2.1 lB_45 tB_mustBeWithin i_LogBroker kB_mustBeWithin rfl rfl (by decide +kernel) ⟨Nat.le_of_ble_eq_true rfl, Nat.le_of_ble_eq_true rfl⟩) rfl rfl (Nat.le_of_ble_eq_true rfl) dB_begin_3 ⟨Nat.le_of_ble_eq_true rfl, Nat.le_of_ble_eq_true rfl⟩ (fun v S9 hp => ?_) (fun E S1 hx => ?_)
  · obtain ⟨hv, hS9, hr1, hr2⟩ := hp
    subst hv
    have hS9 := hS9.symm
    subst hS9
    obtain ⟨i, hx9, hi⟩ := zRg (n := 5) (by omega) hr1 hr2
    subst hx9
    refine z_aload_n (j := 0) X dB_begin_6 rfl rfl ?_
    refine z_iload_n (j := 1) X dB_begin_7 rfl rfl ?_
    refine z_callV (n := 1) (As := [.int (nI i)]) (rest := []) X zG0_m (mB_openedSession l D dA hl0 hT (by omega) (hSs i (by omega))) (w_V X.2.2.2.2.1 lB_89 jB_openedSession sB_openedSession i_LogBroker kB_openedSession rfl rfl (by decide +kernel) ⟨Nat.le_of_ble_eq_true rfl, Nat.le_of_ble_eq_true rfl⟩) rfl rfl rfl rfl rfl (Nat.le_of_ble_eq_true rfl) dB_begin_8 ⟨Nat.le_of_ble_eq_true rfl, Nat.le_of_ble_eq_true rfl⟩ (fun v S9 hp => ?_) (fun E S1 hx => ?_)
    · obtain ⟨hS9, hv, hpr1⟩ := hp
      subst hv
      have hS9 := hS9.symm
      subst hS9
      have hpr2 := (v4 i (by omega)).1.resolve_left hpr1
      refine z_astore_n (L' := [(2, .ref (10 + i)), (0, .ref 1), (1, .int (nI i))]) X dB_begin_11 rfl (by decide) rfl ?_
      refine z_aload_n (j := 0) X dB_begin_12 rfl rfl ?_
      refine z_geti (C := RS) (T := TS) (N := 4) (k := 1) X (w_in inS) rfl rfl (kd_S (by omega)) (by decide) (w_m lB_59) rfl rfl dB_begin_13 (hv := (hSs i (by omega)).2.2.2.2.1) ?_
      refine z_if_eq (tgt := 29) X dB_begin_16 (by decide) (fun c_16 => ?_) (fun c_16 => ?_)
      · refine z_aload_n (j := 1) X dB_begin_29 rfl rfl ?_
        refine z_iload_n (j := 2) X dB_begin_30 rfl rfl ?_
        refine z_callV (n := 1) (As := [.int (nI i)]) (rest := []) X zG0_m (mB_mustBeCurrent l D dA hl0 hT (by omega) (hSs i (by omega)) (v4 i (by omega)).1) (w_V X.2.2.2.2.1 lB_102 jB_mustBeCurrent sB_mustBeCurrent i_LogBroker kB_mustBeCurrent rfl rfl (by decide +kernel) ⟨Nat.le_of_ble_eq_true rfl, Nat.le_of_ble_eq_true rfl⟩) rfl rfl rfl rfl rfl (Nat.le_of_ble_eq_true rfl) dB_begin_31 ⟨Nat.le_of_ble_eq_true rfl, Nat.le_of_ble_eq_true rfl⟩ (fun v S9 hp => ?_) (fun E S1 hx => ?_)
        · obtain ⟨hS9, hv, hcur⟩ := hp
          subst hv
          have hS9 := hS9.symm
          subst hS9
          have hcur := (zCur_iff hpr2).mpr hcur
          refine z_aload_n (j := 0) X dB_begin_34 rfl rfl ?_
          refine z_iconst (v := (nI 1)) X dB_begin_35 (by decide) ?_
          refine z_puti (C := RS) (T := TS) (N := 4) (k := 1) X (w_in inS) rfl rfl (kd_S (by omega)) (by decide) (w_m lB_59) rfl tyS tyS_ok nmS rfl rfl (ty := .boolean) (by decide +kernel) rfl rfl dB_begin_36 ?_
          refine z_vret X hlocks hr dB_begin_39 (by omega) (by omega) ?_
          have hfx : zfr (zOwnS i) S (zsi S (10 + i) 1 (nI 1)) := zfr.i (Or.inl rfl)
          refine ⟨_, rfl, by unfold sBegin; rw [zA_s hi (by decide), if_neg hpr1, if_neg (fun h => h c_16), if_neg (fun h => h hcur)], ?_, hfx.ownB (fun n h => by unfold zOwnS at h; omega)⟩
          refine zBrA_upd hB hW hfx (zTop_fr hT (fun n h1 h2 => zAg_i (by omega))) rfl (fun t2 h2 => Or.inr ⟨rfl, fun n h9 h => by unfold zOwnS at h; unfold zOwnG at h9; have := h2.1; omega⟩) (fun j hj => ?_) (fun j hj => Or.inr ⟨rfl, fun n h9 h => by unfold zOwnH at h9; unfold zOwnS at h; omega⟩) (fun t2 h12 h2 n h9 h => by unfold zOwnS at h; unfold zOwnG at h9; omega)
          by_cases e9 : j = i
          · subst e9
            refine Or.inl ?_
            show zSsA _ j (if j = j then ((b.2.2.1 j).1, nI 1, (b.2.2.1 j).2.2) else b.2.2.1 j)
            rw [if_pos rfl]
            obtain ⟨k1, k2, k3, k4, k5, k6, k7, k8, k9⟩ := hSs j hj
            exact ⟨k1, k2, k3, rd_i (Or.inr (by decide)) k4, rd_s, k6, k7, fun t ht => rd_i (Or.inl (by omega)) (k8 t ht), fun t ht => rd_i (Or.inl (by omega)) (k9 t ht)⟩
          · exact Or.inr ⟨if_neg e9, fun n h9 h => by unfold zOwnS at h9 h; omega⟩
        · obtain ⟨hE, hS9, hcur⟩ := hx
          subst hE
          have hS9 := hS9.symm
          subst hS9
          have hcur := fun h => hcur ((zCur_iff hpr2).mp h)
          exact z_out (fun x hx9 => (hex x hx9).elim) hlocks ⟨rfl, Or.inr (Or.inr (Or.inr (⟨rfl, by unfold sBegin; rw [zA_s hi (by decide), if_neg hpr1, if_neg (fun h => h c_16), if_pos (show ¬ b.2.2.2.1 (b.2.2.1 i).1.toNatClampNeg = nI i from hcur)]⟩)))⟩ (by omega) (by omega)
      · exact z_thISE (text := "a transaction is open") X hl0 (by decide +kernel) dB_begin_19 dB_begin_22 dB_begin_23 dB_begin_25 dB_begin_28 hex (Nat.le_of_ble_eq_true rfl) (Nat.le_of_ble_eq_true rfl) (Nat.le_of_ble_eq_true rfl) (Nat.le_of_ble_eq_true rfl) hlocks (by omega) (by omega) ⟨rfl, Or.inr (Or.inr (Or.inl ⟨rfl, by unfold sBegin; rw [zA_s hi (by decide), if_neg hpr1, if_pos (show ¬ (b.2.2.1 i).2.1 = nI 0 from c_16)]⟩))⟩
    · obtain ⟨hE, hS9, hpr1⟩ := hx
      subst hE
      have hS9 := hS9.symm
      subst hS9
      exact z_out (fun x hx9 => (hex x hx9).elim) hlocks ⟨rfl, Or.inr (Or.inl ⟨rfl, by unfold sBegin; rw [zA_s hi (by decide), if_pos hpr1]⟩)⟩ (by omega) (by omega)
  · obtain ⟨hE, hS9, hn9⟩ := hx
    subst hE
    have hS9 := hS9.symm
    subst hS9
    exact z_out (fun x hx9 => (hex x hx9).elim) hlocks ⟨rfl, Or.inl ⟨rfl, by unfold sBegin; rw [zA_n hn9]⟩⟩ (by omega) (by omega)

set_option maxHeartbeats 600000 in
set_option maxRecDepth 100000 in
theorem mB_poll (l : Launch) (D : va_G) (dA : Nat → ClassId) {S : zS} {b : zBr} {x mm gn y : Int32} (hl0 : l.stackTraces = false) (hB : zBrA S b) (hW : zBrW b) : zMet l D vwCl zKK dA (zG0 D dA) yB_poll (Cond.code yB_poll cB_poll 8 (some .int) :: zTs) { frames := 7, cells := 10, slots := 60, locals := 105 } 10 60 [.ref 1, .int x, .int mm, .int gn, .int y] S (fun v S' => ∃ r b', v = some (.int r) ∧ sPoll b x mm gn y = ((0, r), b') ∧ zBrA S' b' ∧ zfr zOwnB S S') (fun E S' => S' = S ∧ ((E = "java/lang/IllegalArgumentException" ∧ sPoll b x mm gn y = ((1, 0), b)) ∨ (E = "java/util/NoSuchElementException" ∧ sPoll b x mm gn y = ((2, 0), b)) ∨ (E = "java/lang/IllegalStateException" ∧ sPoll b x mm gn y = ((3, 0), b)))) := by
  refine z_met (tys := ztys dA) (by decide) rfl zG0_K rfl (Nat.le_of_ble_eq_true rfl) (fun p e s m args below meth c A ad X hr hlocks hin hex => ?_)
  obtain ⟨hT, hLg, hSs, hGs, hnx, hnf⟩ := id hB
  obtain ⟨v1, v2, v3, v4, v5, v6, v7⟩ := id hW
  obtain ⟨hn, t0, t1, t2, t3, t4, t5, q6, q7, q8, q9, q10, hpt, hlg, hse, hcu, hop, hgr⟩ := id hT
  refine z_iload_n (j := 1) X dB_poll_0 rfl rfl ?_
  refine z_iconst (v := (nI 0)) X dB_poll_1 (by decide) ?_
  refine z_iconst (v := (nI 1)) X dB_poll_2 (by decide) ?_
  refine z_callS (n := 3) (As := [.int x, .int (nI 0), .int (nI 1)]) (rest := []) X zG0_m (mB_mustBeWithin l D dA hl0) (w_S X.2.2.2.2.1 lB_45 tB_mustBeWithin i_LogBroker kB_mustBeWithin rfl rfl (by decide +kernel) ⟨Nat.le_of_ble_eq_true rfl, Nat.le_of_ble_eq_true rfl⟩) rfl rfl (Nat.le_of_ble_eq_true rfl) dB_poll_3 ⟨Nat.le_of_ble_eq_true rfl, Nat.le_of_ble_eq_true rfl⟩ (fun v S9 hp => ?_) (fun E S1 hx => ?_)
  · obtain ⟨hv, hS9, hr1, hr2⟩ := hp
    subst hv
    have hS9 := hS9.symm
    subst hS9
    obtain ⟨i, hx9, hi⟩ := zRg (n := 1) (by omega) hr1 hr2
    subst hx9
    refine z_iload_n (j := 2) X dB_poll_6 rfl rfl ?_
    refine z_iconst (v := (nI 0)) X dB_poll_7 (by decide) ?_
    refine z_iconst (v := (nI 3)) X dB_poll_8 (by decide) ?_
    refine z_callS (n := 3) (As := [.int mm, .int (nI 0), .int (nI 3)]) (rest := []) X zG0_m (mB_mustBeWithin l D dA hl0) (w_S X.2.2.2.2.1 lB_45 tB_mustBeWithin i_LogBroker kB_mustBeWithin rfl rfl (by decide +kernel) ⟨Nat.le_of_ble_eq_true rfl, Nat.le_of_ble_eq_true rfl⟩) rfl rfl (Nat.le_of_ble_eq_true rfl) dB_poll_9 ⟨Nat.le_of_ble_eq_true rfl, Nat.le_of_ble_eq_true rfl⟩ (fun v S9 hp => ?_) (fun E S1 hx => ?_)
    · obtain ⟨hv, hS9, hr1, hr2⟩ := hp
      subst hv
      have hS9 := hS9.symm
      subst hS9
      obtain ⟨k, hx9, hk⟩ := zRg (n := 3) (by omega) hr1 hr2
      subst hx9
      refine z_aload_n (j := 0) X dB_poll_12 rfl rfl ?_
      refine z_iload (j := 4) X dB_poll_13 rfl ?_
      refine z_callV (n := 1) (As := [.int y]) (rest := []) X zG0_m (mB_logAt l D dA (x := y) hl0 hT) (w_V X.2.2.2.2.1 lB_80 jB_logAt sB_logAt i_LogBroker kB_logAt rfl rfl (by decide +kernel) ⟨Nat.le_of_ble_eq_true rfl, Nat.le_of_ble_eq_true rfl⟩) rfl rfl rfl rfl rfl (Nat.le_of_ble_eq_true rfl) dB_poll_15 ⟨Nat.le_of_ble_eq_true rfl, Nat.le_of_ble_eq_true rfl⟩ (fun v S9 hp => ?_) (fun E S1 hx => ?_)
      · obtain ⟨hS9, t, ht, hx9, hv⟩ := hp
        subst hv
        have hS9 := hS9.symm
        subst hS9
        subst hx9
        obtain ⟨g, hg0⟩ : ∃ g, g = b.2.1 t := ⟨_, rfl⟩
        have hO : zLogA S t g := by rw [hg0]; exact hLg t ht
        have hWg : zLogW g := by rw [hg0]; exact v2 t ht
        have hV : ∀ o e, g.2.2 o = some e → zEW e := by rw [hg0]; exact v3 t ht
        obtain ⟨gd1, gd2, f0, f1, f2, f3, f4, f5, f6, f7, f8, hent, hee⟩ := id hO
        obtain ⟨w1, w2, w3, w4, w5, w6, w7, w8, w9⟩ := id hWg
        have wb := zBa_le g
        have wp : zPr g ≤ 60 := zcnt_le
        have ht12 := ht.1
        refine z_astore (L' := [(5, .ref (60 + t)), (0, .ref 1), (1, .int (nI i)), (2, .int (nI k)), (3, .int gn), (4, .int (nI t))]) X dB_poll_18 (by decide) rfl ?_
        refine z_aload_n (j := 1) X dB_poll_20 rfl rfl ?_
        refine z_getr (C := RB) (T := TB) (N := 11) (k := 5) X (w_in inB) rfl rfl rfl (by decide) (w_m lB_33) rfl rfl t5 dB_poll_21 ?_
        refine z_iload_n (j := 2) X dB_poll_24 rfl rfl ?_
        refine z_aald (t0 := 5) X rfl (by decide) (by decide) (by decide) rfl (by omega) (by decide) (hgr i (by omega)) dB_poll_25 ?_
        refine z_astore (L' := [(6, .ref (40 + i)), (5, .ref (60 + t)), (0, .ref 1), (1, .int (nI i)), (2, .int (nI k)), (3, .int gn), (4, .int (nI t))]) X dB_poll_26 (by decide) rfl ?_
        refine z_aload (j := 0) X dB_poll_28 rfl ?_
        refine z_iload_n (j := 4) X dB_poll_30 rfl rfl ?_
        refine z_iload_n (j := 5) X dB_poll_31 rfl rfl ?_
        refine z_iload (j := 6) X dB_poll_32 rfl ?_
        refine z_callS (n := 4) (As := [.ref (40 + i), .int (nI k), .int gn, .int (nI t)]) (rest := []) X zG0_m (mB_mustOwn l D dA hl0 (by omega) (hGs i (by omega)) ht12 (by omega)) (w_S X.2.2.2.2.1 lB_212 tB_mustOwn i_LogBroker kB_mustOwn rfl rfl (by decide +kernel) ⟨Nat.le_of_ble_eq_true rfl, Nat.le_of_ble_eq_true rfl⟩) rfl rfl (Nat.le_of_ble_eq_true rfl) dB_poll_34 ⟨Nat.le_of_ble_eq_true rfl, Nat.le_of_ble_eq_true rfl⟩ (fun v S9 hp => ?_) (fun E S1 hx => ?_)
        · obtain ⟨hS9, hv, hown⟩ := hp
          subst hv
          have hS9 := hS9.symm
          subst hS9
          refine z_aload (j := 1) X dB_poll_37 rfl ?_
          refine z_aload (j := 0) X dB_poll_39 rfl ?_
          refine z_getr (C := RH) (T := TH) (N := 5) (k := 3) X (w_in inH) rfl rfl (kd_H (by omega)) (by decide) (w_m lB_216) rfl rfl (hGs i (by omega)).2.2.2.2.2.2.2.2.1 dB_poll_41 ?_
          refine z_iload (j := 6) X dB_poll_44 rfl ?_
          refine z_iald (t0 := 0) X (kd_HP (by omega)) rfl (by omega) (by decide) dB_poll_46 (hv := ((hGs i (by omega)).2.2.2.2.2.2.2.2.2.2.2.2.1 t (by omega))) ?_
          refine z_aload (j := 1) X dB_poll_47 rfl ?_
          refine z_geti (C := RG) (T := TG) (N := 9) (k := 4) X (w_in inG) rfl rfl (kd_G ht12) (by decide) (w_m lB_145) rfl rfl dB_poll_49 (hv := f4) ?_
          have hps := (v7 i t (by omega) ht12).1
          refine z_mmax X (w_m lB_219) dB_poll_52 (Nat.le_of_ble_eq_true rfl) (Nat.le_of_ble_eq_true rfl) (Nat.le_of_ble_eq_true rfl) (Nat.le_of_ble_eq_true rfl) ?_
          refine z_top (zMaxN (by omega) (by omega)) ?_
          refine z_iconst (v := (nI 1)) X dB_poll_55 (by decide) ?_
          refine z_callV (n := 2) (As := [.int (nI (max ((b.2.2.2.2.2.1 i).2.2.2.1 t) g.2.1.1)), .int (nI 1)]) (rest := []) X zG0_m (mG_firstVisible l D dA true ht12 hO hWg (by omega)) (w_V X.2.2.2.2.1 lB_156 jG_firstVisible sG_firstVisible i_LogBroker_Log kG_firstVisible rfl rfl (by decide +kernel) ⟨Nat.le_of_ble_eq_true rfl, Nat.le_of_ble_eq_true rfl⟩) (kd_G ht12) rfl rfl rfl rfl (Nat.le_of_ble_eq_true rfl) dB_poll_56 ⟨Nat.le_of_ble_eq_true rfl, Nat.le_of_ble_eq_true rfl⟩ (fun v S9 hp => ?_) (fun E S1 hx => hx.elim)
          obtain ⟨hv, hS9⟩ := hp
          subst hv
          have hS9 := hS9.symm
          subst hS9
          refine z_callS (n := 1) (As := [.int (zOI (zVis g (max ((b.2.2.2.2.2.1 i).2.2.2.1 t) g.2.1.1) true))]) (rest := []) X zG0_m (mB_found l D dA hl0) (w_S X.2.2.2.2.1 lB_160 tB_found i_LogBroker kB_found rfl rfl (by decide +kernel) ⟨Nat.le_of_ble_eq_true rfl, Nat.le_of_ble_eq_true rfl⟩) rfl rfl (Nat.le_of_ble_eq_true rfl) dB_poll_59 ⟨Nat.le_of_ble_eq_true rfl, Nat.le_of_ble_eq_true rfl⟩ (fun v S9 hp => ?_) (fun E S1 hx => ?_)
          · obtain ⟨hv, hS9, hnf⟩ := hp
            subst hv
            have hS9 := hS9.symm
            subst hS9
            obtain ⟨z, hvs⟩ : ∃ z, (zVis g (max ((b.2.2.2.2.2.1 i).2.2.2.1 t) g.2.1.1) true) = some z := by
              cases hvs : (zVis g (max ((b.2.2.2.2.2.1 i).2.2.2.1 t) g.2.1.1) true) with
              | none => rw [hvs] at hnf; exact absurd rfl hnf
              | some z => exact ⟨z, rfl⟩
            rw [hvs]
            have hz := zVis_le hWg hvs
            refine z_top (show zOI (some z) = nI z from rfl) ?_
            refine z_istore (L' := [(7, .int (nI z)), (6, .ref (40 + i)), (5, .ref (60 + t)), (0, .ref 1), (1, .int (nI i)), (2, .int (nI k)), (3, .int gn), (4, .int (nI t))]) X dB_poll_62 (by decide) rfl ?_
            refine z_aload (j := 1) X dB_poll_64 rfl ?_
            refine z_getr (C := RH) (T := TH) (N := 5) (k := 3) X (w_in inH) rfl rfl (kd_H (by omega)) (by decide) (w_m lB_216) rfl rfl (hGs i (by omega)).2.2.2.2.2.2.2.2.1 dB_poll_66 ?_
            refine z_iload (j := 7) X dB_poll_69 rfl ?_
            refine z_iload (j := 0) X dB_poll_71 rfl ?_
            refine z_iconst (v := (nI 1)) X dB_poll_73 (by decide) ?_
            refine z_iadd X dB_poll_74 ?_
            refine z_top (nI_add z 1) ?_
            refine z_iast (t0 := 0) X (kd_HP (by omega)) rfl (by omega) (by decide) dB_poll_75 ?_
            refine z_iload (j := 0) X dB_poll_76 rfl ?_
            refine z_iret X hlocks hr dB_poll_78 (by omega) (by omega) ?_
            have hfx : zfr (zOwnH i) S (zsi S (46 + i) t (nI (z + 1))) := zfr.i (Or.inr (Or.inr (Or.inr (Or.inl rfl))))
            refine ⟨_, _, rfl, by unfold sPoll; rw [zA_s hi (by decide), zA_s hk (by decide), zT_s ht, if_neg (fun h => h hown), ← hg0, hvs]; rfl, ?_, hfx.ownB (fun n h => by unfold zOwnH at h; omega)⟩
            refine zBrA_upd hB hW hfx (zTop_fr hT (fun n h1 h2 => zAg_i (by omega))) rfl (fun t2 h2 => Or.inr ⟨rfl, fun n h9 h => by unfold zOwnH at h; unfold zOwnG at h9; have := h2.1; omega⟩) (fun j hj => Or.inr ⟨rfl, fun n h9 h => by unfold zOwnH at h; unfold zOwnS at h9; omega⟩) (fun j hj => ?_) (fun t2 h12 h2 n h9 h => by unfold zOwnH at h; unfold zOwnG at h9; omega)
            by_cases e9 : j = i
            · subst e9
              refine Or.inl ?_
              show zGrA _ j (if j = j then _ else b.2.2.2.2.2.1 j)
              rw [if_pos rfl]
              obtain ⟨k1, k2, k3, k4, k5, k6, k7, k8, k9, k10, k11, k12, k13, k14⟩ := hGs j hj
              exact ⟨k1, k2, k3, k4, k5, rd_i (Or.inl (by omega)) k6, k7, k8, k9, k10, fun k hk => rd_i (Or.inl (by omega)) (k11 k hk), fun k hk => rd_i (Or.inl (by omega)) (k12 k hk), fun k hk => by
                show _ = nI (if k = t then z + 1 else _)
                by_cases e8 : k = t
                · subst e8; rw [if_pos rfl]; exact rd_s
                · rw [if_neg e8]; exact rd_i (Or.inr e8) (k13 k hk), fun k hk => rd_i (Or.inl (by omega)) (k14 k hk)⟩
            · exact Or.inr ⟨if_neg e9, fun n h9 h => by unfold zOwnH at h9 h; omega⟩
          · obtain ⟨hE, hS9, hnf⟩ := hx
            subst hE
            have hS9 := hS9.symm
            subst hS9
            exact z_out (fun x hx9 => (hex x hx9).elim) hlocks ⟨rfl, Or.inr (Or.inl ⟨rfl, by unfold sPoll; rw [zA_s hi (by decide), zA_s hk (by decide), zT_s ht, if_neg (fun h => h hown), ← hg0, zOI_m1 hnf (fun z hz => by have := zVis_le hWg hz; omega)]; rfl⟩)⟩ (by omega) (by omega)
        · obtain ⟨hE, hS9, hown⟩ := hx
          subst hE
          have hS9 := hS9.symm
          subst hS9
          exact z_out (fun x hx9 => (hex x hx9).elim) hlocks ⟨rfl, Or.inr (Or.inr (⟨rfl, by unfold sPoll; rw [zA_s hi (by decide), zA_s hk (by decide), zT_s ht, if_pos hown]⟩))⟩ (by omega) (by omega)
      · obtain ⟨hE, hS9, hn9⟩ := hx
        subst hE
        have hS9 := hS9.symm
        subst hS9
        exact z_out (fun x hx9 => (hex x hx9).elim) hlocks ⟨rfl, Or.inl ⟨rfl, by unfold sPoll; rw [zA_s hi (by decide), zA_s hk (by decide), zT_n hn9]⟩⟩ (by omega) (by omega)
    · obtain ⟨hE, hS9, hn9⟩ := hx
      subst hE
      have hS9 := hS9.symm
      subst hS9
      exact z_out (fun x hx9 => (hex x hx9).elim) hlocks ⟨rfl, Or.inl ⟨rfl, by unfold sPoll; rw [zA_s hi (by decide), zA_n hn9]⟩⟩ (by omega) (by omega)
  · obtain ⟨hE, hS9, hn9⟩ := hx
    subst hE
    have hS9 := hS9.symm
    subst hS9
    exact z_out (fun x hx9 => (hex x hx9).elim) hlocks ⟨rfl, Or.inl ⟨rfl, by unfold sPoll; rw [zA_n hn9]⟩⟩ (by omega) (by omega)

set_option maxHeartbeats 600000 in
set_option maxRecDepth 100000 in
theorem mB_keep (l : Launch) (D : va_G) (dA : Nat → ClassId) {S : zS} {b : zBr} {x mm gn y o : Int32} (hl0 : l.stackTraces = false) (hB : zBrA S b) (hW : zBrW b) : zMet l D vwCl zKK dA (zG0 D dA) yB_keep (Cond.code yB_keep cB_keep 7 none :: zTs) { frames := 7, cells := 10, slots := 60, locals := 105 } 10 60 [.ref 1, .int x, .int mm, .int gn, .int y, .int o] S (fun v S' => ∃ b', v = none ∧ sKeep b x mm gn y o = ((0, 0), b') ∧ zBrA S' b' ∧ zfr zOwnB S S') (fun E S' => S' = S ∧ ((E = "java/lang/IllegalArgumentException" ∧ sKeep b x mm gn y o = ((1, 0), b)) ∨ (E = "java/lang/IllegalStateException" ∧ sKeep b x mm gn y o = ((2, 0), b)))) := by
  refine z_met (tys := ztys dA) (by decide) rfl zG0_K rfl (Nat.le_of_ble_eq_true rfl) (fun p e s m args below meth c A ad X hr hlocks hin hex => ?_)
  obtain ⟨hT, hLg, hSs, hGs, hnx, hnf⟩ := id hB
  obtain ⟨v1, v2, v3, v4, v5, v6, v7⟩ := id hW
  obtain ⟨hn, t0, t1, t2, t3, t4, t5, q6, q7, q8, q9, q10, hpt, hlg, hse, hcu, hop, hgr⟩ := id hT
  refine z_iload_n (j := 1) X dB_keep_0 rfl rfl ?_
  refine z_iconst (v := (nI 0)) X dB_keep_1 (by decide) ?_
  refine z_iconst (v := (nI 1)) X dB_keep_2 (by decide) ?_
  refine z_callS (n := 3) (As := [.int x, .int (nI 0), .int (nI 1)]) (rest := []) X zG0_m (mB_mustBeWithin l D dA hl0) (w_S X.2.2.2.2.1 lB_45 tB_mustBeWithin i_LogBroker kB_mustBeWithin rfl rfl (by decide +kernel) ⟨Nat.le_of_ble_eq_true rfl, Nat.le_of_ble_eq_true rfl⟩) rfl rfl (Nat.le_of_ble_eq_true rfl) dB_keep_3 ⟨Nat.le_of_ble_eq_true rfl, Nat.le_of_ble_eq_true rfl⟩ (fun v S9 hp => ?_) (fun E S1 hx => ?_)
  · obtain ⟨hv, hS9, hr1, hr2⟩ := hp
    subst hv
    have hS9 := hS9.symm
    subst hS9
    obtain ⟨i, hx9, hi⟩ := zRg (n := 1) (by omega) hr1 hr2
    subst hx9
    refine z_iload_n (j := 2) X dB_keep_6 rfl rfl ?_
    refine z_iconst (v := (nI 0)) X dB_keep_7 (by decide) ?_
    refine z_iconst (v := (nI 3)) X dB_keep_8 (by decide) ?_
    refine z_callS (n := 3) (As := [.int mm, .int (nI 0), .int (nI 3)]) (rest := []) X zG0_m (mB_mustBeWithin l D dA hl0) (w_S X.2.2.2.2.1 lB_45 tB_mustBeWithin i_LogBroker kB_mustBeWithin rfl rfl (by decide +kernel) ⟨Nat.le_of_ble_eq_true rfl, Nat.le_of_ble_eq_true rfl⟩) rfl rfl (Nat.le_of_ble_eq_true rfl) dB_keep_9 ⟨Nat.le_of_ble_eq_true rfl, Nat.le_of_ble_eq_true rfl⟩ (fun v S9 hp => ?_) (fun E S1 hx => ?_)
    · obtain ⟨hv, hS9, hr1, hr2⟩ := hp
      subst hv
      have hS9 := hS9.symm
      subst hS9
      obtain ⟨k, hx9, hk⟩ := zRg (n := 3) (by omega) hr1 hr2
      subst hx9
      refine z_aload_n (j := 0) X dB_keep_12 rfl rfl ?_
      refine z_iload (j := 4) X dB_keep_13 rfl ?_
      refine z_callV (n := 1) (As := [.int y]) (rest := []) X zG0_m (mB_logAt l D dA (x := y) hl0 hT) (w_V X.2.2.2.2.1 lB_80 jB_logAt sB_logAt i_LogBroker kB_logAt rfl rfl (by decide +kernel) ⟨Nat.le_of_ble_eq_true rfl, Nat.le_of_ble_eq_true rfl⟩) rfl rfl rfl rfl rfl (Nat.le_of_ble_eq_true rfl) dB_keep_15 ⟨Nat.le_of_ble_eq_true rfl, Nat.le_of_ble_eq_true rfl⟩ (fun v S9 hp => ?_) (fun E S1 hx => ?_)
      · obtain ⟨hS9, t, ht, hx9, hv⟩ := hp
        subst hv
        have hS9 := hS9.symm
        subst hS9
        subst hx9
        obtain ⟨g, hg0⟩ : ∃ g, g = b.2.1 t := ⟨_, rfl⟩
        have hO : zLogA S t g := by rw [hg0]; exact hLg t ht
        have hWg : zLogW g := by rw [hg0]; exact v2 t ht
        have hV : ∀ o e, g.2.2 o = some e → zEW e := by rw [hg0]; exact v3 t ht
        obtain ⟨gd1, gd2, f0, f1, f2, f3, f4, f5, f6, f7, f8, hent, hee⟩ := id hO
        obtain ⟨w1, w2, w3, w4, w5, w6, w7, w8, w9⟩ := id hWg
        have wb := zBa_le g
        have wp : zPr g ≤ 60 := zcnt_le
        have ht12 := ht.1
        refine z_astore (L' := [(6, .ref (60 + t)), (0, .ref 1), (1, .int (nI i)), (2, .int (nI k)), (3, .int gn), (4, .int (nI t)), (5, .int o)]) X dB_keep_18 (by decide) rfl ?_
        refine z_iload (j := 6) X dB_keep_20 rfl ?_
        refine z_iconst (v := (nI 0)) X dB_keep_22 (by decide) ?_
        refine z_aload (j := 0) X dB_keep_23 rfl ?_
        refine z_geti (C := RG) (T := TG) (N := 9) (k := 5) X (w_in inG) rfl rfl (kd_G ht12) (by decide) (w_m lB_148) rfl rfl dB_keep_25 (hv := f5) ?_
        refine z_callS (n := 3) (As := [.int o, .int (nI 0), .int (nI g.2.1.2)]) (rest := []) X zG0_m (mB_mustBeWithin l D dA hl0) (w_S X.2.2.2.2.1 lB_45 tB_mustBeWithin i_LogBroker kB_mustBeWithin rfl rfl (by decide +kernel) ⟨Nat.le_of_ble_eq_true rfl, Nat.le_of_ble_eq_true rfl⟩) rfl rfl (Nat.le_of_ble_eq_true rfl) dB_keep_28 ⟨Nat.le_of_ble_eq_true rfl, Nat.le_of_ble_eq_true rfl⟩ (fun v S9 hp => ?_) (fun E S1 hx => ?_)
        · obtain ⟨hv, hS9, hr1, hr2⟩ := hp
          subst hv
          have hS9 := hS9.symm
          subst hS9
          obtain ⟨z, hx9, hz⟩ := zRg (n := g.2.1.2) (by omega) hr1 hr2
          subst hx9
          refine z_aload_n (j := 1) X dB_keep_31 rfl rfl ?_
          refine z_getr (C := RB) (T := TB) (N := 11) (k := 5) X (w_in inB) rfl rfl rfl (by decide) (w_m lB_33) rfl rfl t5 dB_keep_32 ?_
          refine z_iload_n (j := 2) X dB_keep_35 rfl rfl ?_
          refine z_aald (t0 := 5) X rfl (by decide) (by decide) (by decide) rfl (by omega) (by decide) (hgr i (by omega)) dB_keep_36 ?_
          refine z_iload_n (j := 3) X dB_keep_37 rfl rfl ?_
          refine z_iload_n (j := 4) X dB_keep_38 rfl rfl ?_
          refine z_iload (j := 5) X dB_keep_39 rfl ?_
          refine z_callS (n := 4) (As := [.ref (40 + i), .int (nI k), .int gn, .int (nI t)]) (rest := []) X zG0_m (mB_mustOwn l D dA hl0 (by omega) (hGs i (by omega)) ht12 (by omega)) (w_S X.2.2.2.2.1 lB_212 tB_mustOwn i_LogBroker kB_mustOwn rfl rfl (by decide +kernel) ⟨Nat.le_of_ble_eq_true rfl, Nat.le_of_ble_eq_true rfl⟩) rfl rfl (Nat.le_of_ble_eq_true rfl) dB_keep_41 ⟨Nat.le_of_ble_eq_true rfl, Nat.le_of_ble_eq_true rfl⟩ (fun v S9 hp => ?_) (fun E S1 hx => ?_)
          · obtain ⟨hS9, hv, hown⟩ := hp
            subst hv
            have hS9 := hS9.symm
            subst hS9
            refine z_aload_n (j := 1) X dB_keep_44 rfl rfl ?_
            refine z_getr (C := RB) (T := TB) (N := 11) (k := 5) X (w_in inB) rfl rfl rfl (by decide) (w_m lB_33) rfl rfl t5 dB_keep_45 ?_
            refine z_iload_n (j := 2) X dB_keep_48 rfl rfl ?_
            refine z_aald (t0 := 5) X rfl (by decide) (by decide) (by decide) rfl (by omega) (by decide) (hgr i (by omega)) dB_keep_49 ?_
            refine z_getr (C := RH) (T := TH) (N := 5) (k := 4) X (w_in inH) rfl rfl (kd_H (by omega)) (by decide) (w_m lB_224) rfl rfl (hGs i (by omega)).2.2.2.2.2.2.2.2.2.1 dB_keep_50 ?_
            refine z_iload (j := 5) X dB_keep_53 rfl ?_
            refine z_iload (j := 6) X dB_keep_55 rfl ?_
            refine z_iast (t0 := 0) X (kd_HK (by omega)) rfl (by omega) (by decide) dB_keep_57 ?_
            refine z_vret X hlocks hr dB_keep_58 (by omega) (by omega) ?_
            have hfx : zfr (zOwnH i) S (zsi S (48 + i) t (nI z)) := zfr.i (Or.inr (Or.inr (Or.inr (Or.inr rfl))))
            refine ⟨_, rfl, by unfold sKeep; rw [zA_s hi (by decide), zA_s hk (by decide), zT_s ht, ← hg0, zA_s hz (by omega), if_neg (fun h => h hown)], ?_, hfx.ownB (fun n h => by unfold zOwnH at h; omega)⟩
            refine zBrA_upd hB hW hfx (zTop_fr hT (fun n h1 h2 => zAg_i (by omega))) rfl (fun t2 h2 => Or.inr ⟨rfl, fun n h9 h => by unfold zOwnH at h; unfold zOwnG at h9; have := h2.1; omega⟩) (fun j hj => Or.inr ⟨rfl, fun n h9 h => by unfold zOwnH at h; unfold zOwnS at h9; omega⟩) (fun j hj => ?_) (fun t2 h12 h2 n h9 h => by unfold zOwnH at h; unfold zOwnG at h9; omega)
            by_cases e9 : j = i
            · subst e9
              refine Or.inl ?_
              show zGrA _ j (if j = j then _ else b.2.2.2.2.2.1 j)
              rw [if_pos rfl]
              obtain ⟨k1, k2, k3, k4, k5, k6, k7, k8, k9, k10, k11, k12, k13, k14⟩ := hGs j hj
              exact ⟨k1, k2, k3, k4, k5, rd_i (Or.inl (by omega)) k6, k7, k8, k9, k10, fun k hk => rd_i (Or.inl (by omega)) (k11 k hk), fun k hk => rd_i (Or.inl (by omega)) (k12 k hk), fun k hk => rd_i (Or.inl (by omega)) (k13 k hk), fun k hk => by
                show _ = nI (if k = t then z else _)
                by_cases e8 : k = t
                · subst e8; rw [if_pos rfl]; exact rd_s
                · rw [if_neg e8]; exact rd_i (Or.inr e8) (k14 k hk)⟩
            · exact Or.inr ⟨if_neg e9, fun n h9 h => by unfold zOwnH at h9 h; omega⟩
          · obtain ⟨hE, hS9, hown⟩ := hx
            subst hE
            have hS9 := hS9.symm
            subst hS9
            exact z_out (fun x hx9 => (hex x hx9).elim) hlocks ⟨rfl, Or.inr (⟨rfl, by unfold sKeep; rw [zA_s hi (by decide), zA_s hk (by decide), zT_s ht, ← hg0, zA_s hz (by omega), if_pos hown]⟩)⟩ (by omega) (by omega)
        · obtain ⟨hE, hS9, hn9⟩ := hx
          subst hE
          have hS9 := hS9.symm
          subst hS9
          exact z_out (fun x hx9 => (hex x hx9).elim) hlocks ⟨rfl, Or.inl ⟨rfl, by unfold sKeep; rw [zA_s hi (by decide), zA_s hk (by decide), zT_s ht, ← hg0, zA_n hn9]⟩⟩ (by omega) (by omega)
      · obtain ⟨hE, hS9, hn9⟩ := hx
        subst hE
        have hS9 := hS9.symm
        subst hS9
        exact z_out (fun x hx9 => (hex x hx9).elim) hlocks ⟨rfl, Or.inl ⟨rfl, by unfold sKeep; rw [zA_s hi (by decide), zA_s hk (by decide), zT_n hn9]⟩⟩ (by omega) (by omega)
    · obtain ⟨hE, hS9, hn9⟩ := hx
      subst hE
      have hS9 := hS9.symm
      subst hS9
      exact z_out (fun x hx9 => (hex x hx9).elim) hlocks ⟨rfl, Or.inl ⟨rfl, by unfold sKeep; rw [zA_s hi (by decide), zA_n hn9]⟩⟩ (by omega) (by omega)
  · obtain ⟨hE, hS9, hn9⟩ := hx
    subst hE
    have hS9 := hS9.symm
    subst hS9
    exact z_out (fun x hx9 => (hex x hx9).elim) hlocks ⟨rfl, Or.inl ⟨rfl, by unfold sKeep; rw [zA_n hn9]⟩⟩ (by omega) (by omega)
