/-! CONTRACTS of the reference: polling, keeping, compacting, logs, counts, topics, producing (rows by program) -/
set_option maxHeartbeats 600000 in
set_option maxRecDepth 100000 in
theorem mM_poll (l : Launch) (D : va_G) (dA : Nat → ClassId) {S : zS} {b : zBr} {x mm gn y : Int32} (hA : zMdA S b) (hI : zInv b)  : zMet l D vwCl zKK dA (zG0 D dA) yM_poll (Cond.code yM_poll cM_poll 7 (some .int) :: zTs) { frames := 2, cells := 0, slots := 0, locals := 48 } 0 0 [.ref 1000, .int x, .int mm, .int gn, .int y] S (fun v S' => v = some (.int (sPoll b x mm gn y).1.2) ∧ S'.2.1 1000 27 = nI (sPoll b x mm gn y).1.1 ∧ zMdA S' (sPoll b x mm gn y).2 ∧ zch oM S S') (fun _ _ => False) := by
  refine z_met (tys := ztys dA) (by decide) rfl zG0_K rfl (Nat.le_of_ble_eq_true rfl) (fun p e s m args below meth c A ad X hr hlocks hin hex => ?_)
  refine z_aload_n (j := 0) X dM_poll_0 rfl rfl ?_
  refine z_aload_n (j := 0) X dM_poll_1 rfl rfl ?_
  refine z_iload_n (j := 1) X dM_poll_2 rfl rfl ?_
  refine z_iload_n (j := 2) X dM_poll_3 rfl rfl ?_
  refine z_callV (n := 2) (As := [.int x, .int mm]) (rest := [.ref 1000]) X zG0_m (mM_badMember l D dA) (w_V X.2.2.2.2.1 lM_143 jM_badMember sM_badMember i_LogBrokerModel kM_badMember rfl rfl (by decide +kernel) ⟨Nat.le_of_ble_eq_true rfl, Nat.le_of_ble_eq_true rfl⟩) rfl rfl rfl rfl rfl (Nat.le_of_ble_eq_true rfl) dM_poll_4 ⟨Nat.le_of_ble_eq_true rfl, Nat.le_of_ble_eq_true rfl⟩ (fun v S9 hp => ?_) (fun E S1 hx => hx.elim)
  obtain ⟨hS9, hp⟩ := hp
  have hS9 := hS9.symm
  subst hS9
  rcases hp with ⟨hv, hp⟩ | ⟨hv, hp⟩ <;> subst hv
  · have hbM := hp
    refine z_if_ne (tgt := 19) X dM_poll_7 (by decide) (fun c_7 => ?_) (fun c_7 => absurd c_7 (by decide))
    refine z_iconst (v := (nI 1)) X dM_poll_19 (by decide) ?_
    refine z_goto (tgt := 49) X dM_poll_20 (by decide) ?_
    refine z_puti (C := RM) (T := TM) (N := 28) (k := 27) X (w_in inM) rfl rfl rfl (by decide) (w_m lM_77) rfl tyM tyM_ok nmM rfl rfl (ty := .int) (by decide +kernel) rfl rfl dM_poll_49 ?_
    refine z_aload_n (j := 0) X dM_poll_52 rfl rfl ?_
    refine z_geti (C := RM) (T := TM) (N := 28) (k := 27) X (w_in inM) rfl rfl rfl (by decide) (w_m lM_77) rfl rfl dM_poll_53 (hv := rd_s) ?_
    refine z_if_eq (tgt := 61) X dM_poll_56 (by decide) (fun c_56 => absurd c_56 (by decide)) (fun c_56 => ?_)
    refine z_iconst (v := (nI 0)) X dM_poll_59 (by decide) ?_
    refine z_iret X hlocks hr dM_poll_60 (by omega) (by omega) ?_
    have hs : sPoll b x mm gn y = ((1, 0), b) := by
      unfold sPoll
      rcases hbM with h | h
      · rw [zA_n h]
      · by_cases h2 : x < nI 0 ∨ nI 1 < x
        · rw [zA_n h2]
        · obtain ⟨i, hx9, hi⟩ := zRg (n := 1) (x := x) (by decide) (fun q => h2 (Or.inl q)) (fun q => h2 (Or.inr q))
          rw [hx9, zA_s hi (by decide), zA_n h]
    rw [hs]
    exact ⟨congrArg (fun z => some (Value.int z)) nI_0, rd_s, (zMdA_th hA), (zch.rf.tr (zch.i ⟨by omega, by omega⟩))⟩
  · obtain ⟨i, k, ⟨hx9, hi⟩, hx8, hk⟩ := hp
    subst hx9
    subst hx8
    refine z_if_ne (tgt := 19) X dM_poll_7 (by decide) (fun c_7 => absurd c_7 (by decide)) (fun c_7 => ?_)
    refine z_aload_n (j := 0) X dM_poll_10 rfl rfl ?_
    refine z_iload (j := 4) X dM_poll_11 rfl ?_
    refine z_callV (n := 1) (As := [.int y]) (rest := [.ref 1000]) X zG0_m (mM_badLog l D dA hA.1 hA.2.2.1 hI.1.1) (w_V X.2.2.2.2.1 lM_123 jM_badLog sM_badLog i_LogBrokerModel kM_badLog rfl rfl (by decide +kernel) ⟨Nat.le_of_ble_eq_true rfl, Nat.le_of_ble_eq_true rfl⟩) rfl rfl rfl rfl rfl (Nat.le_of_ble_eq_true rfl) dM_poll_13 ⟨Nat.le_of_ble_eq_true rfl, Nat.le_of_ble_eq_true rfl⟩ (fun v S9 hp => ?_) (fun E S1 hx => hx.elim)
    obtain ⟨hS9, hp⟩ := hp
    have hS9 := hS9.symm
    subst hS9
    rcases hp with ⟨hv, hp⟩ | ⟨hv, hp⟩ <;> subst hv
    · have hbL := hp
      refine z_if_eq (tgt := 23) X dM_poll_16 (by decide) (fun c_16 => absurd c_16 (by decide)) (fun c_16 => ?_)
      refine z_iconst (v := (nI 1)) X dM_poll_19 (by decide) ?_
      refine z_goto (tgt := 49) X dM_poll_20 (by decide) ?_
      refine z_puti (C := RM) (T := TM) (N := 28) (k := 27) X (w_in inM) rfl rfl rfl (by decide) (w_m lM_77) rfl tyM tyM_ok nmM rfl rfl (ty := .int) (by decide +kernel) rfl rfl dM_poll_49 ?_
      refine z_aload_n (j := 0) X dM_poll_52 rfl rfl ?_
      refine z_geti (C := RM) (T := TM) (N := 28) (k := 27) X (w_in inM) rfl rfl rfl (by decide) (w_m lM_77) rfl rfl dM_poll_53 (hv := rd_s) ?_
      refine z_if_eq (tgt := 61) X dM_poll_56 (by decide) (fun c_56 => absurd c_56 (by decide)) (fun c_56 => ?_)
      refine z_iconst (v := (nI 0)) X dM_poll_59 (by decide) ?_
      refine z_iret X hlocks hr dM_poll_60 (by omega) (by omega) ?_
      have hs : sPoll b (nI i) (nI k) gn y = ((1, 0), b) := by unfold sPoll; rw [zA_s hi (by decide), zA_s hk (by decide), zT_n hbL]
      rw [hs]
      exact ⟨congrArg (fun z => some (Value.int z)) nI_0, rd_s, (zMdA_th hA), (zch.rf.tr (zch.i ⟨by omega, by omega⟩))⟩
    · obtain ⟨t, ht, hx8⟩ := hp
      subst hx8
      have ht12 := ht.1
      have hWg := hI.1.2.1 t ht
      have hVg := hI.1.2.2.1 t ht
      obtain ⟨w1, w2, w3, w4, w5, w6, w7, w8, w9⟩ := id hWg
      have wb := zBa_le (b.2.1 t)
      refine z_if_eq (tgt := 23) X dM_poll_16 (by decide) (fun c_16 => ?_) (fun c_16 => absurd c_16 (by decide))
      refine z_iload_n (j := 3) X dM_poll_23 rfl rfl ?_
      refine z_aload_n (j := 0) X dM_poll_24 rfl rfl ?_
      refine z_getr (C := RM) (T := TM) (N := 28) (k := 19) X (w_in inM) rfl rfl rfl (by decide) (w_m lM_68) rfl rfl (hA.1.2 19 (by decide)) dM_poll_25 ?_
      refine z_iload_n (j := 1) X dM_poll_28 rfl rfl ?_
      refine z_iald (t0 := 0) X rfl rfl (by omega) (by decide) dM_poll_29 (hv := (hA.2.2.2.2.2.2 i (by omega)).1) ?_
      refine z_icmp_ne (tgt := 44) X dM_poll_30 (by decide) (fun c_30 => ?_) (fun c_30 => ?_)
      · refine z_iconst (v := (nI 3)) X dM_poll_44 (by decide) ?_
        refine z_goto (tgt := 49) X dM_poll_45 (by decide) ?_
        refine z_puti (C := RM) (T := TM) (N := 28) (k := 27) X (w_in inM) rfl rfl rfl (by decide) (w_m lM_77) rfl tyM tyM_ok nmM rfl rfl (ty := .int) (by decide +kernel) rfl rfl dM_poll_49 ?_
        refine z_aload_n (j := 0) X dM_poll_52 rfl rfl ?_
        refine z_geti (C := RM) (T := TM) (N := 28) (k := 27) X (w_in inM) rfl rfl rfl (by decide) (w_m lM_77) rfl rfl dM_poll_53 (hv := rd_s) ?_
        refine z_if_eq (tgt := 61) X dM_poll_56 (by decide) (fun c_56 => absurd c_56 (by decide)) (fun c_56 => ?_)
        refine z_iconst (v := (nI 0)) X dM_poll_59 (by decide) ?_
        refine z_iret X hlocks hr dM_poll_60 (by omega) (by omega) ?_
        have hs : sPoll b (nI i) (nI k) gn (nI t) = ((3, 0), b) := by unfold sPoll; rw [zA_s hi (by decide), zA_s hk (by decide), zT_s ht, if_pos (fun h => by first | exact c_30 h.1 | exact c_41 (hown.symm.trans h.2))]
        rw [hs]
        exact ⟨congrArg (fun z => some (Value.int z)) nI_0, rd_s, (zMdA_th hA), (zch.rf.tr (zch.i ⟨by omega, by omega⟩))⟩
      · refine z_aload_n (j := 0) X dM_poll_33 rfl rfl ?_
        refine z_iload_n (j := 1) X dM_poll_34 rfl rfl ?_
        refine z_iload (j := 4) X dM_poll_35 rfl ?_
        have hown : (b.2.2.2.2.2.1 i).2.2.1 t = zOI (zWho (b.2.2.2.2.2.1 i).2.1 (b.1 (t / 4)) t) := (hI.2.2.2.2.2 i (by omega)).1 t ht12
        refine z_callV (n := 2) (As := [.int (nI i), .int (nI t)]) (rest := [.ref 1000]) X zG0_m (mM_whose l D dA (n := b.1 (t / 4)) hA.1 (by omega) ht12 (hA.2.2.2.2.2.2 i (by omega)) (hI.1.1 (t / 4) (by omega)) (hA.2.2.1.1 (t / 4) (by omega))) (w_V X.2.2.2.2.1 lM_149 jM_whose sM_whose i_LogBrokerModel kM_whose rfl rfl (by decide +kernel) ⟨Nat.le_of_ble_eq_true rfl, Nat.le_of_ble_eq_true rfl⟩) rfl rfl rfl rfl rfl (Nat.le_of_ble_eq_true rfl) dM_poll_37 ⟨Nat.le_of_ble_eq_true rfl, Nat.le_of_ble_eq_true rfl⟩ (fun v S9 hp => ?_) (fun E S1 hx => hx.elim)
        obtain ⟨hS9, hp⟩ := hp
        have hS9 := hS9.symm
        subst hS9
        subst hp
        refine z_iload_n (j := 2) X dM_poll_40 rfl rfl ?_
        refine z_icmp_eq (tgt := 48) X dM_poll_41 (by decide) (fun c_41 => ?_) (fun c_41 => ?_)
        · refine z_iconst (v := (nI 0)) X dM_poll_48 (by decide) ?_
          refine z_puti (C := RM) (T := TM) (N := 28) (k := 27) X (w_in inM) rfl rfl rfl (by decide) (w_m lM_77) rfl tyM tyM_ok nmM rfl rfl (ty := .int) (by decide +kernel) rfl rfl dM_poll_49 ?_
          generalize hS1 : zsi S 1000 27 (nI 0) = S1
          have hA1 : zMdA S1 b := by rw [← hS1]; exact zMdA_th hA
          have h27 : S1.2.1 1000 27 = nI 0 := by rw [← hS1]; exact rd_s
          have hc1 : zch oM S S1 := by rw [← hS1]; exact zch.i ⟨by decide, by decide⟩
          refine z_aload_n (j := 0) X dM_poll_52 rfl rfl ?_
          refine z_geti (C := RM) (T := TM) (N := 28) (k := 27) X (w_in inM) rfl rfl rfl (by decide) (w_m lM_77) rfl rfl dM_poll_53 (hv := h27) ?_
          refine z_if_eq (tgt := 61) X dM_poll_56 (by decide) (fun c_56 => ?_) (fun c_56 => absurd c_56 (by decide))
          refine z_aload_n (j := 0) X dM_poll_61 rfl rfl ?_
          refine z_getr (C := RM) (T := TM) (N := 28) (k := 20) X (w_in inM) rfl rfl rfl (by decide) (w_m lM_71) rfl rfl (hA1.1.2 20 (by decide)) dM_poll_62 ?_
          refine z_iload_n (j := 1) X dM_poll_65 rfl rfl ?_
          refine z_bipush (v := (nI 12)) X dM_poll_66 (by decide) ?_
          refine z_imul X dM_poll_68 ?_
          refine z_top (pk_mul i 12) ?_
          refine z_iload (j := 4) X dM_poll_69 rfl ?_
          refine z_iadd X dM_poll_71 ?_
          refine z_top (nI_add (i * 12) t) ?_
          refine z_iald (t0 := 0) X rfl rfl (by omega) (by decide) dM_poll_72 (hv := ((hA1.2.2.2.2.2.2 i (by omega)).2.2.1 t ht12)) ?_
          refine z_aload_n (j := 0) X dM_poll_73 rfl rfl ?_
          refine z_getr (C := RM) (T := TM) (N := 28) (k := 4) X (w_in inM) rfl rfl rfl (by decide) (w_m lM_23) rfl rfl (hA1.1.2 4 (by decide)) dM_poll_74 ?_
          refine z_iload (j := 4) X dM_poll_77 rfl ?_
          refine z_iald (t0 := 0) X rfl rfl (by omega) (by decide) dM_poll_79 (hv := (hA1.2.2.2.1 t ht12).1) ?_
          have hps := (hI.1.2.2.2.2.2.2 i t (by omega) ht12).1
          refine z_icmp_leN (tgt := 98) X dM_poll_80 (by decide) (by omega) (by omega) (fun c_80 => ?_) (fun c_80 => ?_)
          · refine z_aload_n (j := 0) X dM_poll_98 rfl rfl ?_
            refine z_getr (C := RM) (T := TM) (N := 28) (k := 4) X (w_in inM) rfl rfl rfl (by decide) (w_m lM_23) rfl rfl (hA1.1.2 4 (by decide)) dM_poll_99 ?_
            refine z_iload (j := 4) X dM_poll_102 rfl ?_
            refine z_iald (t0 := 0) X rfl rfl (by omega) (by decide) dM_poll_104 (hv := (hA1.2.2.2.1 t ht12).1) ?_
            refine z_top (y := nI (max ((b.2.2.2.2.2.1 i).2.2.2.1 t) (b.2.1 t).2.1.1)) (congrArg nI (by omega)) ?_
            refine z_istore (L' := [(5, .int (nI (max ((b.2.2.2.2.2.1 i).2.2.2.1 t) (b.2.1 t).2.1.1))), (0, .ref 1000), (1, .int (nI i)), (2, .int (nI k)), (3, .int gn), (4, .int (nI t))]) X dM_poll_105 (by decide) rfl ?_
            refine z_aload_n (j := 1) X dM_poll_107 rfl rfl ?_
            refine z_iload (j := 5) X dM_poll_108 rfl ?_
            refine z_iload (j := 0) X dM_poll_110 rfl ?_
            refine z_iconst (v := (nI 1)) X dM_poll_112 (by decide) ?_
            refine z_callV (n := 3) (As := [.int (nI t), .int (nI (max ((b.2.2.2.2.2.1 i).2.2.2.1 t) (b.2.1 t).2.1.1)), .int (nI 1)]) (rest := []) X zG0_m (mM_searchT l D dA ht12 hA1.1 (hA1.2.2.2.1 t ht12) hWg hVg (by omega)) (w_V X.2.2.2.2.1 lM_132 jM_search sM_search i_LogBrokerModel kM_search rfl rfl (by decide +kernel) ⟨Nat.le_of_ble_eq_true rfl, Nat.le_of_ble_eq_true rfl⟩) rfl rfl rfl rfl rfl (Nat.le_of_ble_eq_true rfl) dM_poll_113 ⟨Nat.le_of_ble_eq_true rfl, Nat.le_of_ble_eq_true rfl⟩ (fun v S9 hp => ?_) (fun E S1 hx => hx.elim)
            obtain ⟨hS9, hp⟩ := hp
            have hS9 := hS9.symm
            subst hS9
            subst hp
            refine z_istore (L' := [(6, .int (zOI (zVis (b.2.1 t) (max ((b.2.2.2.2.2.1 i).2.2.2.1 t) (b.2.1 t).2.1.1) true))), (5, .int (nI (max ((b.2.2.2.2.2.1 i).2.2.2.1 t) (b.2.1 t).2.1.1))), (0, .ref 1000), (1, .int (nI i)), (2, .int (nI k)), (3, .int gn), (4, .int (nI t))]) X dM_poll_116 (by decide) rfl ?_
            refine z_iload (j := 0) X dM_poll_118 rfl ?_
            rcases hvs : (zVis (b.2.1 t) (max ((b.2.2.2.2.2.1 i).2.2.2.1 t) (b.2.1 t).2.1.1) true) with _ | z
            · refine z_if_ge (tgt := 130) X dM_poll_120 (by decide) (fun c_120 => absurd c_120 (by decide)) (fun c_120 => ?_)
              refine z_aload_n (j := 2) X dM_poll_123 rfl rfl ?_
              refine z_iconst (v := (nI 2)) X dM_poll_124 (by decide) ?_
              refine z_puti (C := RM) (T := TM) (N := 28) (k := 27) X (w_in inM) rfl rfl rfl (by decide) (w_m lM_77) rfl tyM tyM_ok nmM rfl rfl (ty := .int) (by decide +kernel) rfl rfl dM_poll_125 ?_
              refine z_iconst (v := (nI 0)) X dM_poll_128 (by decide) ?_
              refine z_iret X hlocks hr dM_poll_129 (by omega) (by omega) ?_
              have hs : sPoll b (nI i) (nI k) gn (nI t) = ((2, 0), b) := by unfold sPoll; rw [zA_s hi (by decide), zA_s hk (by decide), zT_s ht, if_neg (fun h => h ⟨c_30, hown.trans c_41⟩), hvs]; rfl
              rw [hs]
              exact ⟨congrArg (fun z => some (Value.int z)) nI_0, rd_s, (zMdA_th hA1), (hc1.tr (zch.i ⟨by omega, by omega⟩))⟩
            · have hz := zVis_le hWg hvs
              refine z_if_ge (tgt := 130) X dM_poll_120 (by decide) (fun c_120 => ?_) (fun c_120 => absurd (Int32.not_lt.mp (nI_pos (by omega))) c_120)
              refine z_aload_n (j := 2) X dM_poll_130 rfl rfl ?_
              refine z_getr (C := RM) (T := TM) (N := 28) (k := 20) X (w_in inM) rfl rfl rfl (by decide) (w_m lM_71) rfl rfl (hA1.1.2 20 (by decide)) dM_poll_131 ?_
              refine z_iload_n (j := 3) X dM_poll_134 rfl rfl ?_
              refine z_bipush (v := (nI 12)) X dM_poll_135 (by decide) ?_
              refine z_imul X dM_poll_137 ?_
              refine z_top (pk_mul i 12) ?_
              refine z_iload (j := 6) X dM_poll_138 rfl ?_
              refine z_iadd X dM_poll_140 ?_
              refine z_top (nI_add (i * 12) t) ?_
              refine z_iload (j := 0) X dM_poll_141 rfl ?_
              refine z_iconst (v := (nI 1)) X dM_poll_143 (by decide) ?_
              refine z_iadd X dM_poll_144 ?_
              refine z_top (nI_add z 1) ?_
              refine z_iast (t0 := 0) X rfl rfl (by omega) (by decide) dM_poll_145 ?_
              refine z_iload (j := 0) X dM_poll_146 rfl ?_
              refine z_iret X hlocks hr dM_poll_148 (by omega) (by omega) ?_
              have hs : sPoll b (nI i) (nI k) gn (nI t) = ((0, nI z), bH b i ((b.2.2.2.2.2.1 i).1, (b.2.2.2.2.2.1 i).2.1, (b.2.2.2.2.2.1 i).2.2.1, (fun j => if j = t then z + 1 else (b.2.2.2.2.2.1 i).2.2.2.1 j), (b.2.2.2.2.2.1 i).2.2.2.2)) := by unfold sPoll; rw [zA_s hi (by decide), zA_s hk (by decide), zT_s ht, if_neg (fun h => h ⟨c_30, hown.trans c_41⟩), hvs]; rfl
              rw [hs]
              exact ⟨rfl, (rd_i (Or.inl (by omega)) h27), zMdA_H hA1 (zch.i (Or.inr (Or.inr ⟨Or.inl rfl, by omega, by omega⟩))) (by
                obtain ⟨g1, g2, g3, g4⟩ := hA1.2.2.2.2.2.2 i (by omega)
                refine ⟨rd_i (Or.inl (by omega)) g1, fun j hj => rd_i (Or.inl (by omega)) (g2 j hj), fun j hj => ?_, fun j hj => rd_i (Or.inl (by omega)) (g4 j hj)⟩
                show _ = nI (if j = t then z + 1 else _)
                by_cases e9 : j = t
                · subst e9; rw [if_pos rfl]; exact rd_s
                · rw [if_neg e9]; exact rd_i (Or.inr (by omega)) (g3 j hj)), (hc1.tr (zch.i ⟨by omega, by omega⟩))⟩
          · refine z_aload_n (j := 0) X dM_poll_83 rfl rfl ?_
            refine z_getr (C := RM) (T := TM) (N := 28) (k := 20) X (w_in inM) rfl rfl rfl (by decide) (w_m lM_71) rfl rfl (hA1.1.2 20 (by decide)) dM_poll_84 ?_
            refine z_iload_n (j := 1) X dM_poll_87 rfl rfl ?_
            refine z_bipush (v := (nI 12)) X dM_poll_88 (by decide) ?_
            refine z_imul X dM_poll_90 ?_
            refine z_top (pk_mul i 12) ?_
            refine z_iload (j := 4) X dM_poll_91 rfl ?_
            refine z_iadd X dM_poll_93 ?_
            refine z_top (nI_add (i * 12) t) ?_
            refine z_iald (t0 := 0) X rfl rfl (by omega) (by decide) dM_poll_94 (hv := ((hA1.2.2.2.2.2.2 i (by omega)).2.2.1 t ht12)) ?_
            refine z_goto (tgt := 105) X dM_poll_95 (by decide) ?_
            refine z_top (y := nI (max ((b.2.2.2.2.2.1 i).2.2.2.1 t) (b.2.1 t).2.1.1)) (congrArg nI (by omega)) ?_
            refine z_istore (L' := [(5, .int (nI (max ((b.2.2.2.2.2.1 i).2.2.2.1 t) (b.2.1 t).2.1.1))), (0, .ref 1000), (1, .int (nI i)), (2, .int (nI k)), (3, .int gn), (4, .int (nI t))]) X dM_poll_105 (by decide) rfl ?_
            refine z_aload_n (j := 1) X dM_poll_107 rfl rfl ?_
            refine z_iload (j := 5) X dM_poll_108 rfl ?_
            refine z_iload (j := 0) X dM_poll_110 rfl ?_
            refine z_iconst (v := (nI 1)) X dM_poll_112 (by decide) ?_
            refine z_callV (n := 3) (As := [.int (nI t), .int (nI (max ((b.2.2.2.2.2.1 i).2.2.2.1 t) (b.2.1 t).2.1.1)), .int (nI 1)]) (rest := []) X zG0_m (mM_searchT l D dA ht12 hA1.1 (hA1.2.2.2.1 t ht12) hWg hVg (by omega)) (w_V X.2.2.2.2.1 lM_132 jM_search sM_search i_LogBrokerModel kM_search rfl rfl (by decide +kernel) ⟨Nat.le_of_ble_eq_true rfl, Nat.le_of_ble_eq_true rfl⟩) rfl rfl rfl rfl rfl (Nat.le_of_ble_eq_true rfl) dM_poll_113 ⟨Nat.le_of_ble_eq_true rfl, Nat.le_of_ble_eq_true rfl⟩ (fun v S9 hp => ?_) (fun E S1 hx => hx.elim)
            obtain ⟨hS9, hp⟩ := hp
            have hS9 := hS9.symm
            subst hS9
            subst hp
            refine z_istore (L' := [(6, .int (zOI (zVis (b.2.1 t) (max ((b.2.2.2.2.2.1 i).2.2.2.1 t) (b.2.1 t).2.1.1) true))), (5, .int (nI (max ((b.2.2.2.2.2.1 i).2.2.2.1 t) (b.2.1 t).2.1.1))), (0, .ref 1000), (1, .int (nI i)), (2, .int (nI k)), (3, .int gn), (4, .int (nI t))]) X dM_poll_116 (by decide) rfl ?_
            refine z_iload (j := 0) X dM_poll_118 rfl ?_
            rcases hvs : (zVis (b.2.1 t) (max ((b.2.2.2.2.2.1 i).2.2.2.1 t) (b.2.1 t).2.1.1) true) with _ | z
            · refine z_if_ge (tgt := 130) X dM_poll_120 (by decide) (fun c_120 => absurd c_120 (by decide)) (fun c_120 => ?_)
              refine z_aload_n (j := 2) X dM_poll_123 rfl rfl ?_
              refine z_iconst (v := (nI 2)) X dM_poll_124 (by decide) ?_
              refine z_puti (C := RM) (T := TM) (N := 28) (k := 27) X (w_in inM) rfl rfl rfl (by decide) (w_m lM_77) rfl tyM tyM_ok nmM rfl rfl (ty := .int) (by decide +kernel) rfl rfl dM_poll_125 ?_
              refine z_iconst (v := (nI 0)) X dM_poll_128 (by decide) ?_
              refine z_iret X hlocks hr dM_poll_129 (by omega) (by omega) ?_
              have hs : sPoll b (nI i) (nI k) gn (nI t) = ((2, 0), b) := by unfold sPoll; rw [zA_s hi (by decide), zA_s hk (by decide), zT_s ht, if_neg (fun h => h ⟨c_30, hown.trans c_41⟩), hvs]; rfl
              rw [hs]
              exact ⟨congrArg (fun z => some (Value.int z)) nI_0, rd_s, (zMdA_th hA1), (hc1.tr (zch.i ⟨by omega, by omega⟩))⟩
            · have hz := zVis_le hWg hvs
              refine z_if_ge (tgt := 130) X dM_poll_120 (by decide) (fun c_120 => ?_) (fun c_120 => absurd (Int32.not_lt.mp (nI_pos (by omega))) c_120)
              refine z_aload_n (j := 2) X dM_poll_130 rfl rfl ?_
              refine z_getr (C := RM) (T := TM) (N := 28) (k := 20) X (w_in inM) rfl rfl rfl (by decide) (w_m lM_71) rfl rfl (hA1.1.2 20 (by decide)) dM_poll_131 ?_
              refine z_iload_n (j := 3) X dM_poll_134 rfl rfl ?_
              refine z_bipush (v := (nI 12)) X dM_poll_135 (by decide) ?_
              refine z_imul X dM_poll_137 ?_
              refine z_top (pk_mul i 12) ?_
              refine z_iload (j := 6) X dM_poll_138 rfl ?_
              refine z_iadd X dM_poll_140 ?_
              refine z_top (nI_add (i * 12) t) ?_
              refine z_iload (j := 0) X dM_poll_141 rfl ?_
              refine z_iconst (v := (nI 1)) X dM_poll_143 (by decide) ?_
              refine z_iadd X dM_poll_144 ?_
              refine z_top (nI_add z 1) ?_
              refine z_iast (t0 := 0) X rfl rfl (by omega) (by decide) dM_poll_145 ?_
              refine z_iload (j := 0) X dM_poll_146 rfl ?_
              refine z_iret X hlocks hr dM_poll_148 (by omega) (by omega) ?_
              have hs : sPoll b (nI i) (nI k) gn (nI t) = ((0, nI z), bH b i ((b.2.2.2.2.2.1 i).1, (b.2.2.2.2.2.1 i).2.1, (b.2.2.2.2.2.1 i).2.2.1, (fun j => if j = t then z + 1 else (b.2.2.2.2.2.1 i).2.2.2.1 j), (b.2.2.2.2.2.1 i).2.2.2.2)) := by unfold sPoll; rw [zA_s hi (by decide), zA_s hk (by decide), zT_s ht, if_neg (fun h => h ⟨c_30, hown.trans c_41⟩), hvs]; rfl
              rw [hs]
              exact ⟨rfl, (rd_i (Or.inl (by omega)) h27), zMdA_H hA1 (zch.i (Or.inr (Or.inr ⟨Or.inl rfl, by omega, by omega⟩))) (by
                obtain ⟨g1, g2, g3, g4⟩ := hA1.2.2.2.2.2.2 i (by omega)
                refine ⟨rd_i (Or.inl (by omega)) g1, fun j hj => rd_i (Or.inl (by omega)) (g2 j hj), fun j hj => ?_, fun j hj => rd_i (Or.inl (by omega)) (g4 j hj)⟩
                show _ = nI (if j = t then z + 1 else _)
                by_cases e9 : j = t
                · subst e9; rw [if_pos rfl]; exact rd_s
                · rw [if_neg e9]; exact rd_i (Or.inr (by omega)) (g3 j hj)), (hc1.tr (zch.i ⟨by omega, by omega⟩))⟩
        · refine z_iconst (v := (nI 3)) X dM_poll_44 (by decide) ?_
          refine z_goto (tgt := 49) X dM_poll_45 (by decide) ?_
          refine z_puti (C := RM) (T := TM) (N := 28) (k := 27) X (w_in inM) rfl rfl rfl (by decide) (w_m lM_77) rfl tyM tyM_ok nmM rfl rfl (ty := .int) (by decide +kernel) rfl rfl dM_poll_49 ?_
          refine z_aload_n (j := 0) X dM_poll_52 rfl rfl ?_
          refine z_geti (C := RM) (T := TM) (N := 28) (k := 27) X (w_in inM) rfl rfl rfl (by decide) (w_m lM_77) rfl rfl dM_poll_53 (hv := rd_s) ?_
          refine z_if_eq (tgt := 61) X dM_poll_56 (by decide) (fun c_56 => absurd c_56 (by decide)) (fun c_56 => ?_)
          refine z_iconst (v := (nI 0)) X dM_poll_59 (by decide) ?_
          refine z_iret X hlocks hr dM_poll_60 (by omega) (by omega) ?_
          have hs : sPoll b (nI i) (nI k) gn (nI t) = ((3, 0), b) := by unfold sPoll; rw [zA_s hi (by decide), zA_s hk (by decide), zT_s ht, if_pos (fun h => by first | exact c_30 h.1 | exact c_41 (hown.symm.trans h.2))]
          rw [hs]
          exact ⟨congrArg (fun z => some (Value.int z)) nI_0, rd_s, (zMdA_th hA), (zch.rf.tr (zch.i ⟨by omega, by omega⟩))⟩

set_option maxHeartbeats 600000 in
set_option maxRecDepth 100000 in
theorem mM_keep (l : Launch) (D : va_G) (dA : Nat → ClassId) {S : zS} {b : zBr} {x mm gn y z : Int32} (hA : zMdA S b) (hI : zInv b)  : zMet l D vwCl zKK dA (zG0 D dA) yM_keep (Cond.code yM_keep cM_keep 7 none :: zTs) { frames := 1, cells := 0, slots := 0, locals := 27 } 0 0 [.ref 1000, .int x, .int mm, .int gn, .int y, .int z] S (fun v S' => v = none ∧ S'.2.1 1000 27 = nI (sKeep b x mm gn y z).1.1 ∧ zMdA S' (sKeep b x mm gn y z).2 ∧ zch oM S S') (fun _ _ => False) := by
  refine z_met (tys := ztys dA) (by decide) rfl zG0_K rfl (Nat.le_of_ble_eq_true rfl) (fun p e s m args below meth c A ad X hr hlocks hin hex => ?_)
  refine z_aload_n (j := 0) X dM_keep_0 rfl rfl ?_
  refine z_iload_n (j := 1) X dM_keep_1 rfl rfl ?_
  refine z_iload_n (j := 2) X dM_keep_2 rfl rfl ?_
  refine z_callV (n := 2) (As := [.int x, .int mm]) (rest := []) X zG0_m (mM_badMember l D dA) (w_V X.2.2.2.2.1 lM_143 jM_badMember sM_badMember i_LogBrokerModel kM_badMember rfl rfl (by decide +kernel) ⟨Nat.le_of_ble_eq_true rfl, Nat.le_of_ble_eq_true rfl⟩) rfl rfl rfl rfl rfl (Nat.le_of_ble_eq_true rfl) dM_keep_3 ⟨Nat.le_of_ble_eq_true rfl, Nat.le_of_ble_eq_true rfl⟩ (fun v S9 hp => ?_) (fun E S1 hx => hx.elim)
  obtain ⟨hS9, hp⟩ := hp
  have hS9 := hS9.symm
  subst hS9
  rcases hp with ⟨hv, hp⟩ | ⟨hv, hp⟩ <;> subst hv
  · have hbM := hp
    refine z_if_ne (tgt := 35) X dM_keep_6 (by decide) (fun c_6 => ?_) (fun c_6 => absurd c_6 (by decide))
    refine z_iconst (v := (nI 1)) X dM_keep_35 (by decide) ?_
    refine z_goto (tgt := 40) X dM_keep_36 (by decide) ?_
    refine z_istore (L' := [(6, .int (nI 1)), (0, .ref 1000), (1, .int x), (2, .int mm), (3, .int gn), (4, .int y), (5, .int z)]) X dM_keep_40 (by decide) rfl ?_
    refine z_aload_n (j := 1) X dM_keep_42 rfl rfl ?_
    refine z_iload (j := 0) X dM_keep_43 rfl ?_
    refine z_if_eq (tgt := 52) X dM_keep_45 (by decide) (fun c_45 => absurd c_45 (by decide)) (fun c_45 => ?_)
    refine z_iconst (v := (nI 1)) X dM_keep_48 (by decide) ?_
    refine z_goto (tgt := 78) X dM_keep_49 (by decide) ?_
    refine z_puti (C := RM) (T := TM) (N := 28) (k := 27) X (w_in inM) rfl rfl rfl (by decide) (w_m lM_77) rfl tyM tyM_ok nmM rfl rfl (ty := .int) (by decide +kernel) rfl rfl dM_keep_78 ?_
    refine z_aload_n (j := 1) X dM_keep_81 rfl rfl ?_
    refine z_geti (C := RM) (T := TM) (N := 28) (k := 27) X (w_in inM) rfl rfl rfl (by decide) (w_m lM_77) rfl rfl dM_keep_82 (hv := rd_s) ?_
    refine z_if_ne (tgt := 102) X dM_keep_85 (by decide) (fun c_85 => ?_) (fun c_85 => absurd c_85 (by decide))
    refine z_vret X hlocks hr dM_keep_102 (by omega) (by omega) ?_
    have hs : sKeep b x mm gn y z = ((1, 0), b) := by
      unfold sKeep
      rcases hbM with h | h
      · rw [zA_n h]
      · by_cases h2 : x < nI 0 ∨ nI 1 < x
        · rw [zA_n h2]
        · obtain ⟨i, hx9, hi⟩ := zRg (n := 1) (x := x) (by decide) (fun q => h2 (Or.inl q)) (fun q => h2 (Or.inr q))
          rw [hx9, zA_s hi (by decide), zA_n h]
    rw [hs]
    exact ⟨rfl, rd_s, (zMdA_th hA), (zch.rf.tr (zch.i ⟨by omega, by omega⟩))⟩
  · obtain ⟨i, k, ⟨hx9, hi⟩, hx8, hk⟩ := hp
    subst hx9
    subst hx8
    refine z_if_ne (tgt := 35) X dM_keep_6 (by decide) (fun c_6 => absurd c_6 (by decide)) (fun c_6 => ?_)
    refine z_aload_n (j := 0) X dM_keep_9 rfl rfl ?_
    refine z_iload (j := 4) X dM_keep_10 rfl ?_
    refine z_callV (n := 1) (As := [.int y]) (rest := []) X zG0_m (mM_badLog l D dA hA.1 hA.2.2.1 hI.1.1) (w_V X.2.2.2.2.1 lM_123 jM_badLog sM_badLog i_LogBrokerModel kM_badLog rfl rfl (by decide +kernel) ⟨Nat.le_of_ble_eq_true rfl, Nat.le_of_ble_eq_true rfl⟩) rfl rfl rfl rfl rfl (Nat.le_of_ble_eq_true rfl) dM_keep_12 ⟨Nat.le_of_ble_eq_true rfl, Nat.le_of_ble_eq_true rfl⟩ (fun v S9 hp => ?_) (fun E S1 hx => hx.elim)
    obtain ⟨hS9, hp⟩ := hp
    have hS9 := hS9.symm
    subst hS9
    rcases hp with ⟨hv, hp⟩ | ⟨hv, hp⟩ <;> subst hv
    · have hbL := hp
      refine z_if_ne (tgt := 35) X dM_keep_15 (by decide) (fun c_15 => ?_) (fun c_15 => absurd c_15 (by decide))
      refine z_iconst (v := (nI 1)) X dM_keep_35 (by decide) ?_
      refine z_goto (tgt := 40) X dM_keep_36 (by decide) ?_
      refine z_istore (L' := [(6, .int (nI 1)), (0, .ref 1000), (1, .int (nI i)), (2, .int (nI k)), (3, .int gn), (4, .int y), (5, .int z)]) X dM_keep_40 (by decide) rfl ?_
      refine z_aload_n (j := 1) X dM_keep_42 rfl rfl ?_
      refine z_iload (j := 0) X dM_keep_43 rfl ?_
      refine z_if_eq (tgt := 52) X dM_keep_45 (by decide) (fun c_45 => absurd c_45 (by decide)) (fun c_45 => ?_)
      refine z_iconst (v := (nI 1)) X dM_keep_48 (by decide) ?_
      refine z_goto (tgt := 78) X dM_keep_49 (by decide) ?_
      refine z_puti (C := RM) (T := TM) (N := 28) (k := 27) X (w_in inM) rfl rfl rfl (by decide) (w_m lM_77) rfl tyM tyM_ok nmM rfl rfl (ty := .int) (by decide +kernel) rfl rfl dM_keep_78 ?_
      refine z_aload_n (j := 1) X dM_keep_81 rfl rfl ?_
      refine z_geti (C := RM) (T := TM) (N := 28) (k := 27) X (w_in inM) rfl rfl rfl (by decide) (w_m lM_77) rfl rfl dM_keep_82 (hv := rd_s) ?_
      refine z_if_ne (tgt := 102) X dM_keep_85 (by decide) (fun c_85 => ?_) (fun c_85 => absurd c_85 (by decide))
      refine z_vret X hlocks hr dM_keep_102 (by omega) (by omega) ?_
      have hs : sKeep b (nI i) (nI k) gn y z = ((1, 0), b) := by
        unfold sKeep
        rw [zA_s hi (by decide), zA_s hk (by decide)]
        first | rw [zT_n hbL] | (rw [zT_s ht]; exact zA_n (by first | exact Or.inl (by rw [nI_0]; exact c_20) | exact Or.inr (Int32.not_le.mp c_32)))
      rw [hs]
      exact ⟨rfl, rd_s, (zMdA_th hA), (zch.rf.tr (zch.i ⟨by omega, by omega⟩))⟩
    · obtain ⟨t, ht, hx8⟩ := hp
      subst hx8
      have ht12 := ht.1
      have hWg := hI.1.2.1 t ht
      have hVg := hI.1.2.2.1 t ht
      obtain ⟨w1, w2, w3, w4, w5, w6, w7, w8, w9⟩ := id hWg
      have wb := zBa_le (b.2.1 t)
      refine z_if_ne (tgt := 35) X dM_keep_15 (by decide) (fun c_15 => absurd c_15 (by decide)) (fun c_15 => ?_)
      refine z_iload (j := 5) X dM_keep_18 rfl ?_
      refine z_if_lt (tgt := 35) X dM_keep_20 (by decide) (fun c_20 => ?_) (fun c_20 => ?_)
      · refine z_iconst (v := (nI 1)) X dM_keep_35 (by decide) ?_
        refine z_goto (tgt := 40) X dM_keep_36 (by decide) ?_
        refine z_istore (L' := [(6, .int (nI 1)), (0, .ref 1000), (1, .int (nI i)), (2, .int (nI k)), (3, .int gn), (4, .int (nI t)), (5, .int z)]) X dM_keep_40 (by decide) rfl ?_
        refine z_aload_n (j := 1) X dM_keep_42 rfl rfl ?_
        refine z_iload (j := 0) X dM_keep_43 rfl ?_
        refine z_if_eq (tgt := 52) X dM_keep_45 (by decide) (fun c_45 => absurd c_45 (by decide)) (fun c_45 => ?_)
        refine z_iconst (v := (nI 1)) X dM_keep_48 (by decide) ?_
        refine z_goto (tgt := 78) X dM_keep_49 (by decide) ?_
        refine z_puti (C := RM) (T := TM) (N := 28) (k := 27) X (w_in inM) rfl rfl rfl (by decide) (w_m lM_77) rfl tyM tyM_ok nmM rfl rfl (ty := .int) (by decide +kernel) rfl rfl dM_keep_78 ?_
        refine z_aload_n (j := 1) X dM_keep_81 rfl rfl ?_
        refine z_geti (C := RM) (T := TM) (N := 28) (k := 27) X (w_in inM) rfl rfl rfl (by decide) (w_m lM_77) rfl rfl dM_keep_82 (hv := rd_s) ?_
        refine z_if_ne (tgt := 102) X dM_keep_85 (by decide) (fun c_85 => ?_) (fun c_85 => absurd c_85 (by decide))
        refine z_vret X hlocks hr dM_keep_102 (by omega) (by omega) ?_
        have hs : sKeep b (nI i) (nI k) gn (nI t) z = ((1, 0), b) := by
          unfold sKeep
          rw [zA_s hi (by decide), zA_s hk (by decide)]
          first | rw [zT_n hbL] | (rw [zT_s ht]; exact zA_n (by first | exact Or.inl (by rw [nI_0]; exact c_20) | exact Or.inr (Int32.not_le.mp c_32)))
        rw [hs]
        exact ⟨rfl, rd_s, (zMdA_th hA), (zch.rf.tr (zch.i ⟨by omega, by omega⟩))⟩
      · refine z_iload (j := 5) X dM_keep_23 rfl ?_
        refine z_aload_n (j := 0) X dM_keep_25 rfl rfl ?_
        refine z_getr (C := RM) (T := TM) (N := 28) (k := 5) X (w_in inM) rfl rfl rfl (by decide) (w_m lM_26) rfl rfl (hA.1.2 5 (by decide)) dM_keep_26 ?_
        refine z_iload (j := 4) X dM_keep_29 rfl ?_
        refine z_iald (t0 := 0) X rfl rfl (by omega) (by decide) dM_keep_31 (hv := (hA.2.2.2.1 t ht12).2.1) ?_
        refine z_icmp_le (tgt := 39) X dM_keep_32 (by decide) (fun c_32 => ?_) (fun c_32 => ?_)
        · obtain ⟨z9, hx9, hz9⟩ := zRg (x := z) (show (b.2.1 t).2.1.2 < 2 ^ 31 by omega) (fun h => c_20 (by rw [← nI_0]; exact h)) (Int32.not_lt.mpr c_32)
          subst hx9
          refine z_iconst (v := (nI 0)) X dM_keep_39 (by decide) ?_
          refine z_istore (L' := [(6, .int (nI 0)), (0, .ref 1000), (1, .int (nI i)), (2, .int (nI k)), (3, .int gn), (4, .int (nI t)), (5, .int (nI z9))]) X dM_keep_40 (by decide) rfl ?_
          refine z_aload_n (j := 1) X dM_keep_42 rfl rfl ?_
          refine z_iload (j := 0) X dM_keep_43 rfl ?_
          refine z_if_eq (tgt := 52) X dM_keep_45 (by decide) (fun c_45 => ?_) (fun c_45 => absurd c_45 (by decide))
          refine z_iload_n (j := 4) X dM_keep_52 rfl rfl ?_
          refine z_aload_n (j := 1) X dM_keep_53 rfl rfl ?_
          refine z_getr (C := RM) (T := TM) (N := 28) (k := 19) X (w_in inM) rfl rfl rfl (by decide) (w_m lM_68) rfl rfl (hA.1.2 19 (by decide)) dM_keep_54 ?_
          refine z_iload_n (j := 2) X dM_keep_57 rfl rfl ?_
          refine z_iald (t0 := 0) X rfl rfl (by omega) (by decide) dM_keep_58 (hv := (hA.2.2.2.2.2.2 i (by omega)).1) ?_
          refine z_icmp_ne (tgt := 73) X dM_keep_59 (by decide) (fun c_59 => ?_) (fun c_59 => ?_)
          · refine z_iconst (v := (nI 2)) X dM_keep_73 (by decide) ?_
            refine z_goto (tgt := 78) X dM_keep_74 (by decide) ?_
            refine z_puti (C := RM) (T := TM) (N := 28) (k := 27) X (w_in inM) rfl rfl rfl (by decide) (w_m lM_77) rfl tyM tyM_ok nmM rfl rfl (ty := .int) (by decide +kernel) rfl rfl dM_keep_78 ?_
            refine z_aload_n (j := 1) X dM_keep_81 rfl rfl ?_
            refine z_geti (C := RM) (T := TM) (N := 28) (k := 27) X (w_in inM) rfl rfl rfl (by decide) (w_m lM_77) rfl rfl dM_keep_82 (hv := rd_s) ?_
            refine z_if_ne (tgt := 102) X dM_keep_85 (by decide) (fun c_85 => ?_) (fun c_85 => absurd c_85 (by decide))
            refine z_vret X hlocks hr dM_keep_102 (by omega) (by omega) ?_
            have hs : sKeep b (nI i) (nI k) gn (nI t) (nI z9) = ((2, 0), b) := by unfold sKeep; rw [zA_s hi (by decide), zA_s hk (by decide), zT_s ht, zA_s hz9 (by omega), if_pos (fun h => by first | exact c_59 h.1 | exact c_70 (hown.symm.trans h.2))]
            rw [hs]
            exact ⟨rfl, rd_s, (zMdA_th hA), (zch.rf.tr (zch.i ⟨by omega, by omega⟩))⟩
          · refine z_aload_n (j := 1) X dM_keep_62 rfl rfl ?_
            refine z_iload_n (j := 2) X dM_keep_63 rfl rfl ?_
            refine z_iload (j := 5) X dM_keep_64 rfl ?_
            have hown : (b.2.2.2.2.2.1 i).2.2.1 t = zOI (zWho (b.2.2.2.2.2.1 i).2.1 (b.1 (t / 4)) t) := (hI.2.2.2.2.2 i (by omega)).1 t ht12
            refine z_callV (n := 2) (As := [.int (nI i), .int (nI t)]) (rest := [.ref 1000]) X zG0_m (mM_whose l D dA (n := b.1 (t / 4)) hA.1 (by omega) ht12 (hA.2.2.2.2.2.2 i (by omega)) (hI.1.1 (t / 4) (by omega)) (hA.2.2.1.1 (t / 4) (by omega))) (w_V X.2.2.2.2.1 lM_149 jM_whose sM_whose i_LogBrokerModel kM_whose rfl rfl (by decide +kernel) ⟨Nat.le_of_ble_eq_true rfl, Nat.le_of_ble_eq_true rfl⟩) rfl rfl rfl rfl rfl (Nat.le_of_ble_eq_true rfl) dM_keep_66 ⟨Nat.le_of_ble_eq_true rfl, Nat.le_of_ble_eq_true rfl⟩ (fun v S9 hp => ?_) (fun E S1 hx => hx.elim)
            obtain ⟨hS9, hp⟩ := hp
            have hS9 := hS9.symm
            subst hS9
            subst hp
            refine z_iload_n (j := 3) X dM_keep_69 rfl rfl ?_
            refine z_icmp_eq (tgt := 77) X dM_keep_70 (by decide) (fun c_70 => ?_) (fun c_70 => ?_)
            · refine z_iconst (v := (nI 0)) X dM_keep_77 (by decide) ?_
              refine z_puti (C := RM) (T := TM) (N := 28) (k := 27) X (w_in inM) rfl rfl rfl (by decide) (w_m lM_77) rfl tyM tyM_ok nmM rfl rfl (ty := .int) (by decide +kernel) rfl rfl dM_keep_78 ?_
              generalize hS1 : zsi S 1000 27 (nI 0) = S1
              have hA1 : zMdA S1 b := by rw [← hS1]; exact zMdA_th hA
              have h27 : S1.2.1 1000 27 = nI 0 := by rw [← hS1]; exact rd_s
              have hc1 : zch oM S S1 := by rw [← hS1]; exact zch.i ⟨by decide, by decide⟩
              refine z_aload_n (j := 1) X dM_keep_81 rfl rfl ?_
              refine z_geti (C := RM) (T := TM) (N := 28) (k := 27) X (w_in inM) rfl rfl rfl (by decide) (w_m lM_77) rfl rfl dM_keep_82 (hv := h27) ?_
              refine z_if_ne (tgt := 102) X dM_keep_85 (by decide) (fun c_85 => absurd c_85 (by decide)) (fun c_85 => ?_)
              refine z_aload_n (j := 1) X dM_keep_88 rfl rfl ?_
              refine z_getr (C := RM) (T := TM) (N := 28) (k := 21) X (w_in inM) rfl rfl rfl (by decide) (w_m lM_74) rfl rfl (hA1.1.2 21 (by decide)) dM_keep_89 ?_
              refine z_iload_n (j := 2) X dM_keep_92 rfl rfl ?_
              refine z_bipush (v := (nI 12)) X dM_keep_93 (by decide) ?_
              refine z_imul X dM_keep_95 ?_
              refine z_top (pk_mul i 12) ?_
              refine z_iload (j := 5) X dM_keep_96 rfl ?_
              refine z_iadd X dM_keep_98 ?_
              refine z_top (nI_add (i * 12) t) ?_
              refine z_iload (j := 6) X dM_keep_99 rfl ?_
              refine z_iast (t0 := 0) X rfl rfl (by omega) (by decide) dM_keep_101 ?_
              refine z_vret X hlocks hr dM_keep_102 (by omega) (by omega) ?_
              have hs : sKeep b (nI i) (nI k) gn (nI t) (nI z9) = ((0, 0), bH b i ((b.2.2.2.2.2.1 i).1, (b.2.2.2.2.2.1 i).2.1, (b.2.2.2.2.2.1 i).2.2.1, (b.2.2.2.2.2.1 i).2.2.2.1, (fun j => if j = t then z9 else (b.2.2.2.2.2.1 i).2.2.2.2 j))) := by unfold sKeep; rw [zA_s hi (by decide), zA_s hk (by decide), zT_s ht, zA_s hz9 (by omega), if_neg (fun h => h ⟨c_59, hown.trans c_70⟩)]
              rw [hs]
              exact ⟨rfl, (rd_i (Or.inl (by omega)) h27), zMdA_H hA1 (zch.i (Or.inr (Or.inr ⟨Or.inr rfl, by omega, by omega⟩))) (by
                obtain ⟨g1, g2, g3, g4⟩ := hA1.2.2.2.2.2.2 i (by omega)
                refine ⟨rd_i (Or.inl (by omega)) g1, fun j hj => rd_i (Or.inl (by omega)) (g2 j hj), fun j hj => rd_i (Or.inl (by omega)) (g3 j hj), fun j hj => ?_⟩
                show _ = nI (if j = t then z9 else _)
                by_cases e9 : j = t
                · subst e9; rw [if_pos rfl]; exact rd_s
                · rw [if_neg e9]; exact rd_i (Or.inr (by omega)) (g4 j hj)), (hc1.tr (zch.i ⟨by omega, by omega⟩))⟩
            · refine z_iconst (v := (nI 2)) X dM_keep_73 (by decide) ?_
              refine z_goto (tgt := 78) X dM_keep_74 (by decide) ?_
              refine z_puti (C := RM) (T := TM) (N := 28) (k := 27) X (w_in inM) rfl rfl rfl (by decide) (w_m lM_77) rfl tyM tyM_ok nmM rfl rfl (ty := .int) (by decide +kernel) rfl rfl dM_keep_78 ?_
              refine z_aload_n (j := 1) X dM_keep_81 rfl rfl ?_
              refine z_geti (C := RM) (T := TM) (N := 28) (k := 27) X (w_in inM) rfl rfl rfl (by decide) (w_m lM_77) rfl rfl dM_keep_82 (hv := rd_s) ?_
              refine z_if_ne (tgt := 102) X dM_keep_85 (by decide) (fun c_85 => ?_) (fun c_85 => absurd c_85 (by decide))
              refine z_vret X hlocks hr dM_keep_102 (by omega) (by omega) ?_
              have hs : sKeep b (nI i) (nI k) gn (nI t) (nI z9) = ((2, 0), b) := by unfold sKeep; rw [zA_s hi (by decide), zA_s hk (by decide), zT_s ht, zA_s hz9 (by omega), if_pos (fun h => by first | exact c_59 h.1 | exact c_70 (hown.symm.trans h.2))]
              rw [hs]
              exact ⟨rfl, rd_s, (zMdA_th hA), (zch.rf.tr (zch.i ⟨by omega, by omega⟩))⟩
        · refine z_iconst (v := (nI 1)) X dM_keep_35 (by decide) ?_
          refine z_goto (tgt := 40) X dM_keep_36 (by decide) ?_
          refine z_istore (L' := [(6, .int (nI 1)), (0, .ref 1000), (1, .int (nI i)), (2, .int (nI k)), (3, .int gn), (4, .int (nI t)), (5, .int z)]) X dM_keep_40 (by decide) rfl ?_
          refine z_aload_n (j := 1) X dM_keep_42 rfl rfl ?_
          refine z_iload (j := 0) X dM_keep_43 rfl ?_
          refine z_if_eq (tgt := 52) X dM_keep_45 (by decide) (fun c_45 => absurd c_45 (by decide)) (fun c_45 => ?_)
          refine z_iconst (v := (nI 1)) X dM_keep_48 (by decide) ?_
          refine z_goto (tgt := 78) X dM_keep_49 (by decide) ?_
          refine z_puti (C := RM) (T := TM) (N := 28) (k := 27) X (w_in inM) rfl rfl rfl (by decide) (w_m lM_77) rfl tyM tyM_ok nmM rfl rfl (ty := .int) (by decide +kernel) rfl rfl dM_keep_78 ?_
          refine z_aload_n (j := 1) X dM_keep_81 rfl rfl ?_
          refine z_geti (C := RM) (T := TM) (N := 28) (k := 27) X (w_in inM) rfl rfl rfl (by decide) (w_m lM_77) rfl rfl dM_keep_82 (hv := rd_s) ?_
          refine z_if_ne (tgt := 102) X dM_keep_85 (by decide) (fun c_85 => ?_) (fun c_85 => absurd c_85 (by decide))
          refine z_vret X hlocks hr dM_keep_102 (by omega) (by omega) ?_
          have hs : sKeep b (nI i) (nI k) gn (nI t) z = ((1, 0), b) := by
            unfold sKeep
            rw [zA_s hi (by decide), zA_s hk (by decide)]
            first | rw [zT_n hbL] | (rw [zT_s ht]; exact zA_n (by first | exact Or.inl (by rw [nI_0]; exact c_20) | exact Or.inr (Int32.not_le.mp c_32)))
          rw [hs]
          exact ⟨rfl, rd_s, (zMdA_th hA), (zch.rf.tr (zch.i ⟨by omega, by omega⟩))⟩

set_option maxHeartbeats 600000 in
set_option maxRecDepth 100000 in
theorem mM_compact (l : Launch) (D : va_G) (dA : Nat → ClassId) {S : zS} {b : zBr} {x : Int32} (hA : zMdA S b) (hI : zInv b)  : zMet l D vwCl zKK dA (zG0 D dA) yM_compact (Cond.code yM_compact cM_compact 7 (some .int) :: zTs) { frames := 1, cells := 0, slots := 0, locals := 25 } 0 0 [.ref 1000, .int x] S (fun v S' => v = some (.int (sCompact b x).1.2) ∧ S'.2.1 1000 27 = nI (sCompact b x).1.1 ∧ zMdA S' (sCompact b x).2 ∧ zch oM S S') (fun _ _ => False) := by
  refine z_met (tys := ztys dA) (by decide) rfl zG0_K rfl (Nat.le_of_ble_eq_true rfl) (fun p e s m args below meth c A ad X hr hlocks hin hex => ?_)
  refine z_aload_n (j := 0) X dM_compact_0 rfl rfl ?_
  refine z_aload_n (j := 0) X dM_compact_1 rfl rfl ?_
  refine z_iload_n (j := 1) X dM_compact_2 rfl rfl ?_
  refine z_callV (n := 1) (As := [.int x]) (rest := [.ref 1000]) X zG0_m (mM_badLog l D dA hA.1 hA.2.2.1 hI.1.1) (w_V X.2.2.2.2.1 lM_123 jM_badLog sM_badLog i_LogBrokerModel kM_badLog rfl rfl (by decide +kernel) ⟨Nat.le_of_ble_eq_true rfl, Nat.le_of_ble_eq_true rfl⟩) rfl rfl rfl rfl rfl (Nat.le_of_ble_eq_true rfl) dM_compact_3 ⟨Nat.le_of_ble_eq_true rfl, Nat.le_of_ble_eq_true rfl⟩ (fun v S9 hp => ?_) (fun E S1 hx => hx.elim)
  obtain ⟨hS9, hp⟩ := hp
  have hS9 := hS9.symm
  subst hS9
  rcases hp with ⟨hv, hp⟩ | ⟨hv, hp⟩ <;> subst hv
  · have hbL := hp
    refine z_if_eq (tgt := 13) X dM_compact_6 (by decide) (fun c_6 => absurd c_6 (by decide)) (fun c_6 => ?_)
    refine z_iconst (v := (nI 1)) X dM_compact_9 (by decide) ?_
    refine z_goto (tgt := 29) X dM_compact_10 (by decide) ?_
    refine z_puti (C := RM) (T := TM) (N := 28) (k := 27) X (w_in inM) rfl rfl rfl (by decide) (w_m lM_77) rfl tyM tyM_ok nmM rfl rfl (ty := .int) (by decide +kernel) rfl rfl dM_compact_29 ?_
    refine z_aload_n (j := 0) X dM_compact_32 rfl rfl ?_
    refine z_geti (C := RM) (T := TM) (N := 28) (k := 27) X (w_in inM) rfl rfl rfl (by decide) (w_m lM_77) rfl rfl dM_compact_33 (hv := rd_s) ?_
    refine z_if_eq (tgt := 41) X dM_compact_36 (by decide) (fun c_36 => absurd c_36 (by decide)) (fun c_36 => ?_)
    refine z_iconst (v := (nI 0)) X dM_compact_39 (by decide) ?_
    refine z_iret X hlocks hr dM_compact_40 (by omega) (by omega) ?_
    have hs : sCompact b x = ((1, 0), b) := by unfold sCompact; rw [zT_n hbL]
    rw [hs]
    exact ⟨congrArg (fun z => some (Value.int z)) nI_0, rd_s, (zMdA_th hA), (zch.rf.tr (zch.i ⟨by omega, by omega⟩))⟩
  · obtain ⟨t, ht, hx8⟩ := hp
    subst hx8
    have ht12 := ht.1
    have hWg := hI.1.2.1 t ht
    have hVg := hI.1.2.2.1 t ht
    obtain ⟨w1, w2, w3, w4, w5, w6, w7, w8, w9⟩ := id hWg
    have wb := zBa_le (b.2.1 t)
    refine z_if_eq (tgt := 13) X dM_compact_6 (by decide) (fun c_6 => ?_) (fun c_6 => absurd c_6 (by decide))
    refine z_aload_n (j := 0) X dM_compact_13 rfl rfl ?_
    refine z_getr (C := RM) (T := TM) (N := 28) (k := 3) X (w_in inM) rfl rfl rfl (by decide) (w_m lM_19) rfl rfl (hA.1.2 3 (by decide)) dM_compact_14 ?_
    refine z_iload_n (j := 1) X dM_compact_17 rfl rfl ?_
    refine z_iconst (v := (nI 4)) X dM_compact_18 (by decide) ?_
    refine z_idiv X dM_compact_19 (nI_ne0 (by omega) (by omega)) ?_
    refine z_top (pk_div (a := t) (d := 4) (by omega) (by omega) (by omega)) ?_
    refine z_zald (t0 := 1) X rfl rfl (by omega) (by decide) dM_compact_20 (hv := (hA.2.2.1.2 t ht).2.2) ?_
    refine z_if_ne (tgt := 28) X dM_compact_21 (by decide) (fun c_21 => ?_) (fun c_21 => ?_)
    · refine z_iconst (v := (nI 0)) X dM_compact_28 (by decide) ?_
      refine z_puti (C := RM) (T := TM) (N := 28) (k := 27) X (w_in inM) rfl rfl rfl (by decide) (w_m lM_77) rfl tyM tyM_ok nmM rfl rfl (ty := .int) (by decide +kernel) rfl rfl dM_compact_29 ?_
      generalize hS1 : zsi S 1000 27 (nI 0) = S1
      have hA1 : zMdA S1 b := by rw [← hS1]; exact zMdA_th hA
      have h27 : S1.2.1 1000 27 = nI 0 := by rw [← hS1]; exact rd_s
      have hc1 : zch oM S S1 := by rw [← hS1]; exact zch.i ⟨by decide, by decide⟩
      refine z_aload_n (j := 0) X dM_compact_32 rfl rfl ?_
      refine z_geti (C := RM) (T := TM) (N := 28) (k := 27) X (w_in inM) rfl rfl rfl (by decide) (w_m lM_77) rfl rfl dM_compact_33 (hv := h27) ?_
      refine z_if_eq (tgt := 41) X dM_compact_36 (by decide) (fun c_36 => ?_) (fun c_36 => absurd c_36 (by decide))
      refine z_aload_n (j := 0) X dM_compact_41 rfl rfl ?_
      refine z_iload_n (j := 1) X dM_compact_42 rfl rfl ?_
      refine z_callV (n := 1) (As := [.int (nI t)]) (rest := []) X zG0_m (mM_stable l D dA ht12 hA1.1 (hA1.2.2.2.1 t ht12) hWg hVg) (w_V X.2.2.2.2.1 lM_88 jM_stable sM_stable i_LogBrokerModel kM_stable rfl rfl (by decide +kernel) ⟨Nat.le_of_ble_eq_true rfl, Nat.le_of_ble_eq_true rfl⟩) rfl rfl rfl rfl rfl (Nat.le_of_ble_eq_true rfl) dM_compact_43 ⟨Nat.le_of_ble_eq_true rfl, Nat.le_of_ble_eq_true rfl⟩ (fun v S9 hp => ?_) (fun E S1 hx => hx.elim)
      obtain ⟨hS9, hp⟩ := hp
      have hS9 := hS9.symm
      subst hS9
      subst hp
      refine z_istore_n (L' := [(2, .int (nI (zStab (b.2.1 t)))), (0, .ref 1000), (1, .int (nI t))]) X dM_compact_46 rfl (by decide) rfl ?_
      refine z_aload_n (j := 1) X dM_compact_47 rfl rfl ?_
      refine z_iload_n (j := 2) X dM_compact_48 rfl rfl ?_
      refine z_callV (n := 1) (As := [.int (nI t)]) (rest := []) X zG0_m (mM_openBase l D dA ht12 hA1.1 (hA1.2.2.2.1 t ht12) hWg hVg (hA1.2.2.1.2 t ht).1) (w_V X.2.2.2.2.1 lM_81 jM_openBase sM_openBase i_LogBrokerModel kM_openBase rfl rfl (by decide +kernel) ⟨Nat.le_of_ble_eq_true rfl, Nat.le_of_ble_eq_true rfl⟩) rfl rfl rfl rfl rfl (Nat.le_of_ble_eq_true rfl) dM_compact_49 ⟨Nat.le_of_ble_eq_true rfl, Nat.le_of_ble_eq_true rfl⟩ (fun v S9 hp => ?_) (fun E S1 hx => hx.elim)
      obtain ⟨hS9, hp⟩ := hp
      have hS9 := hS9.symm
      subst hS9
      subst hp
      refine z_iload_n (j := 0) X dM_compact_52 rfl rfl ?_
      have hsl := zStab_le (b.2.1 t) (by omega)
      refine z_icmp_geN (tgt := 64) X dM_compact_53 (by decide) (by omega) (by omega) (fun c_53 => ?_) (fun c_53 => ?_)
      · refine z_iload_n (j := 0) X dM_compact_64 rfl rfl ?_
        refine z_top (y := nI (min (zBa (b.2.1 t)) (zStab (b.2.1 t)))) (congrArg nI (by omega)) ?_
        refine z_istore_n (L' := [(3, .int (nI (min (zBa (b.2.1 t)) (zStab (b.2.1 t))))), (2, .int (nI (zStab (b.2.1 t)))), (0, .ref 1000), (1, .int (nI t))]) X dM_compact_65 rfl (by decide) rfl ?_
        refine z_iconst (v := (nI 0)) X dM_compact_66 (by decide) ?_
        refine z_istore (L' := [(4, .int (nI 0)), (3, .int (nI (min (zBa (b.2.1 t)) (zStab (b.2.1 t))))), (2, .int (nI (zStab (b.2.1 t)))), (0, .ref 1000), (1, .int (nI t))]) X dM_compact_67 (by decide) rfl ?_
        refine z_aload_n (j := 3) X dM_compact_69 rfl rfl ?_
        refine z_getr (C := RM) (T := TM) (N := 28) (k := 4) X (w_in inM) rfl rfl rfl (by decide) (w_m lM_23) rfl rfl (hA1.1.2 4 (by decide)) dM_compact_70 ?_
        refine z_iload_n (j := 4) X dM_compact_73 rfl rfl ?_
        refine z_iald (t0 := 0) X rfl rfl (by omega) (by decide) dM_compact_74 (hv := (hA1.2.2.2.1 t ht12).1) ?_
        refine z_istore (L' := [(5, .int (nI ((b.2.1 t).2.1.1))), (4, .int (nI 0)), (3, .int (nI (min (zBa (b.2.1 t)) (zStab (b.2.1 t))))), (2, .int (nI (zStab (b.2.1 t)))), (0, .ref 1000), (1, .int (nI t))]) X dM_compact_75 (by decide) rfl ?_
        have loop : ∀ (f o : Nat) (S2 : zS), min (zBa (b.2.1 t)) (zStab (b.2.1 t)) - o < f → (b.2.1 t).2.1.1 ≤ o → o ≤ min (zBa (b.2.1 t)) (zStab (b.2.1 t)) → mL S2 b.2.2.2.1 t (zCmp (b.2.1 t) o) → zch (fun n k => n = 1007 ∧ t * 60 ≤ k ∧ k < t * 60 + 60) S1 S2 → AW p l e { frames := 1, cells := 0, slots := 0, locals := 25 } s m args below meth c D vwCl zKK dA A (ad, S) 7 S2 0 0 (vx_MQ below (zQc D vwCl zKK dA A ad S (fun v S' => v = some (.int (sCompact b (nI t)).1.2) ∧ S'.2.1 1000 27 = nI (sCompact b (nI t)).1.1 ∧ zMdA S' (sCompact b (nI t)).2 ∧ zch oM S S')) (zXC D vwCl zKK dA A ad S (fun _ _ => False)) args s 0 0 A) 77 [(5, .int (nI o)), (4, .int (nI (zPr (b.2.1 t) - zPr (zCmp (b.2.1 t) o)))), (3, .int (nI (min (zBa (b.2.1 t)) (zStab (b.2.1 t))))), (2, .int (nI (zStab (b.2.1 t)))), (0, .ref 1000), (1, .int (nI t))] [] := by
          intro f
          induction f with
          | zero => intro o S2 h0; omega
          | succ f ih =>
          intro o S2 h0 ho1 ho2 hL2 hc2
          have hP2 : mP S2 := mP_fr hA1.1 hc2
          refine z_iload (j := 0) X dM_compact_77 rfl ?_
          refine z_iload_n (j := 2) X dM_compact_79 rfl rfl ?_
          refine z_icmp_geN (tgt := 151) X dM_compact_80 (by decide) (by omega) (by omega) (fun c_80 => ?_) (fun c_80 => ?_)
          · refine z_aload_n (j := 4) X dM_compact_151 rfl rfl ?_
            refine z_dup X dM_compact_152 rfl ?_
            refine z_geti (C := RM) (T := TM) (N := 28) (k := 26) X (w_in inM) rfl rfl rfl (by decide) (w_m lM_140) rfl rfl dM_compact_153 (hv := rfl) ?_
            refine z_iload (j := 1) X dM_compact_156 rfl ?_
            refine z_iadd X dM_compact_158 ?_
            refine z_puti (C := RM) (T := TM) (N := 28) (k := 26) X (w_in inM) rfl rfl rfl (by decide) (w_m lM_140) rfl tyM tyM_ok nmM rfl rfl (ty := .int) (by decide +kernel) rfl rfl dM_compact_159 ?_
            refine z_iload (j := 1) X dM_compact_162 rfl ?_
            refine z_iret X hlocks hr dM_compact_164 (by omega) (by omega) ?_
            have e9 : o = min (zBa (b.2.1 t)) (zStab (b.2.1 t)) := by omega
            have hce := zCmp_end (g := (b.2.1 t)) e9
            rw [hce] at hL2
            rw [hce]
            have hN1 := hA1.2.1
            have hc3 : zch (oW t) S1 (zsi S2 1000 26 ((S2.2.1 1000 26) + (nI (zPr (b.2.1 t) - zPr (zComp (b.2.1 t)))))) := (hc2.mono (fun n k h => Or.inl (Or.inr (by omega)))).tr (zch.i (Or.inr ⟨rfl, by omega, by omega⟩))
            have hm3 : mN (zsi S2 1000 26 ((S2.2.1 1000 26) + (nI (zPr (b.2.1 t) - zPr (zComp (b.2.1 t)))))) (b.2.2.2.2.2.2.1, b.2.2.2.2.2.2.2.1, b.2.2.2.2.2.2.2.2.1, b.2.2.2.2.2.2.2.2.2.1, b.2.2.2.2.2.2.2.2.2.2 + nI (zPr (b.2.1 t) - zPr (zComp (b.2.1 t)))) := ⟨rd_i (Or.inr (by decide)) ((hc2.2.2 _ _ (by omega)).trans hN1.1), rd_i (Or.inr (by decide)) ((hc2.2.2 _ _ (by omega)).trans hN1.2.1), rd_i (Or.inr (by decide)) ((hc2.2.2 _ _ (by omega)).trans hN1.2.2.1), rd_i (Or.inr (by decide)) ((hc2.2.2 _ _ (by omega)).trans hN1.2.2.2.1), rd_s.trans (by rw [hc2.2.2 _ _ (by omega), hN1.2.2.2.2])⟩
            have hl3 : mL (zsi S2 1000 26 ((S2.2.1 1000 26) + (nI (zPr (b.2.1 t) - zPr (zComp (b.2.1 t)))))) b.2.2.2.1 t (zComp (b.2.1 t)) := mL_fr hL2 (fun n k h => rd_i (Or.inl (by unfold oL at h; omega)) rfl)
            have hA3 : zMdA (zsi S2 1000 26 ((S2.2.1 1000 26) + (nI (zPr (b.2.1 t) - zPr (zComp (b.2.1 t)))))) (bN (bG b t (zComp (b.2.1 t))) (b.2.2.2.2.2.2.1, b.2.2.2.2.2.2.2.1, b.2.2.2.2.2.2.2.2.1, b.2.2.2.2.2.2.2.2.2.1, b.2.2.2.2.2.2.2.2.2.2 + nI (zPr (b.2.1 t) - zPr (zComp (b.2.1 t))))) := zMdA_L hA1 hc3 hm3 hl3 rfl
            have h273 : (zsi S2 1000 26 ((S2.2.1 1000 26) + (nI (zPr (b.2.1 t) - zPr (zComp (b.2.1 t)))))).2.1 1000 27 = nI 0 := rd_i (Or.inr (by decide)) ((hc2.2.2 _ _ (by omega)).trans h27)
            have hcz : zch oM S (zsi S2 1000 26 ((S2.2.1 1000 26) + (nI (zPr (b.2.1 t) - zPr (zComp (b.2.1 t)))))) := ((hc1.tr (hc2.mono (fun n k h => ⟨by omega, by omega⟩))).tr (zch.i ⟨by omega, by omega⟩))
            have hs : sCompact b (nI t) = ((0, nI (zPr (b.2.1 t) - zPr (zComp (b.2.1 t)))), bN (bG b t (zComp (b.2.1 t))) (b.2.2.2.2.2.2.1, b.2.2.2.2.2.2.2.1, b.2.2.2.2.2.2.2.2.1, b.2.2.2.2.2.2.2.2.2.1, b.2.2.2.2.2.2.2.2.2.2 + nI (zPr (b.2.1 t) - zPr (zComp (b.2.1 t))))) := by unfold sCompact; rw [zT_s ht, if_neg (fun h => c_21 (h.trans nI_0))]
            rw [hs]
            exact ⟨rfl, h273, hA3, hcz⟩
          · refine z_iload_n (j := 5) X dM_compact_83 rfl rfl ?_
            refine z_bipush (v := (nI 60)) X dM_compact_84 (by decide) ?_
            refine z_imul X dM_compact_86 ?_
            refine z_top (pk_mul t 60) ?_
            refine z_iload (j := 0) X dM_compact_87 rfl ?_
            refine z_iadd X dM_compact_89 ?_
            refine z_top (nI_add (t * 60) o) ?_
            refine z_istore (L' := [(6, .int (nI (t * 60 + o))), (5, .int (nI o)), (4, .int (nI (zPr (b.2.1 t) - zPr (zCmp (b.2.1 t) o)))), (3, .int (nI (min (zBa (b.2.1 t)) (zStab (b.2.1 t))))), (2, .int (nI (zStab (b.2.1 t)))), (0, .ref 1000), (1, .int (nI t))]) X dM_compact_90 (by decide) rfl ?_
            have hlo := hL2.2.2 o (by omega)
            rw [zCmp_at (Nat.le_refl _)] at hlo
            rcases he : (b.2.1 t).2.2 o with _ | r <;> rw [he] at hlo
            · refine z_aload_n (j := 5) X dM_compact_92 rfl rfl ?_
              refine z_getr (C := RM) (T := TM) (N := 28) (k := 6) X (w_in inM) rfl rfl rfl (by decide) (w_m lM_29) rfl rfl (hP2.2 6 (by decide)) dM_compact_93 ?_
              refine z_iload (j := 0) X dM_compact_96 rfl ?_
              refine z_iald (t0 := 0) X rfl rfl (by omega) (by decide) dM_compact_98 (hv := hlo) ?_
              refine z_if_ne (tgt := 145) X dM_compact_99 (by decide) (fun c_99 => ?_) (fun c_99 => absurd c_99 (by decide))
              refine z_iinc (j := 1) (v := (nI (o + 1))) (L' := [(5, .int (nI (o + 1))), (6, .int (nI (t * 60 + o))), (4, .int (nI (zPr (b.2.1 t) - zPr (zCmp (b.2.1 t) o)))), (3, .int (nI (min (zBa (b.2.1 t)) (zStab (b.2.1 t))))), (2, .int (nI (zStab (b.2.1 t)))), (0, .ref 1000), (1, .int (nI t))]) X dM_compact_145 rfl (nI_1 o) (by decide) rfl ?_
              refine z_goto (tgt := 77) X dM_compact_148 (by decide) ?_
              refine z_loc [0, 2, 3, 4, 5, 6] rfl ?_
              have hgo : ¬ zGoes (b.2.1 t) (zStab (b.2.1 t)) o = true := zGo_n he
              rw [← zCmp_n hgo]
              exact ih (o + 1) _ (by omega) (by omega) (by omega) (by rw [zCmp_n hgo]; exact hL2) hc2
            · refine z_aload_n (j := 5) X dM_compact_92 rfl rfl ?_
              refine z_getr (C := RM) (T := TM) (N := 28) (k := 6) X (w_in inM) rfl rfl rfl (by decide) (w_m lM_29) rfl rfl (hP2.2 6 (by decide)) dM_compact_93 ?_
              refine z_iload (j := 0) X dM_compact_96 rfl ?_
              refine z_iald (t0 := 0) X rfl rfl (by omega) (by decide) dM_compact_98 (hv := hlo.1) ?_
              refine z_if_ne (tgt := 145) X dM_compact_99 (by decide) (fun c_99 => ?_) (fun c_99 => ?_)
              · refine z_iinc (j := 1) (v := (nI (o + 1))) (L' := [(5, .int (nI (o + 1))), (6, .int (nI (t * 60 + o))), (4, .int (nI (zPr (b.2.1 t) - zPr (zCmp (b.2.1 t) o)))), (3, .int (nI (min (zBa (b.2.1 t)) (zStab (b.2.1 t))))), (2, .int (nI (zStab (b.2.1 t)))), (0, .ref 1000), (1, .int (nI t))]) X dM_compact_145 rfl (nI_1 o) (by decide) rfl ?_
                refine z_goto (tgt := 77) X dM_compact_148 (by decide) ?_
                refine z_loc [0, 2, 3, 4, 5, 6] rfl ?_
                have hgo : ¬ zGoes (b.2.1 t) (zStab (b.2.1 t)) o = true := zGo_k he (fun h => c_99 (h.trans nI_0))
                rw [← zCmp_n hgo]
                exact ih (o + 1) _ (by omega) (by omega) (by omega) (by rw [zCmp_n hgo]; exact hL2) hc2
              · refine z_aload_n (j := 5) X dM_compact_102 rfl rfl ?_
                refine z_getr (C := RM) (T := TM) (N := 28) (k := 10) X (w_in inM) rfl rfl rfl (by decide) (w_m lM_41) rfl rfl (hP2.2 10 (by decide)) dM_compact_103 ?_
                refine z_iload (j := 0) X dM_compact_106 rfl ?_
                refine z_iald (t0 := 0) X rfl rfl (by omega) (by decide) dM_compact_108 (hv := hlo.2.2.2.2.1) ?_
                refine z_iconst (v := (nI 1)) X dM_compact_109 (by decide) ?_
                refine z_icmp_eq (tgt := 134) X dM_compact_110 (by decide) (fun c_110 => ?_) (fun c_110 => ?_)
                · refine z_aload_n (j := 5) X dM_compact_134 rfl rfl ?_
                  refine z_getr (C := RM) (T := TM) (N := 28) (k := 6) X (w_in inM) rfl rfl rfl (by decide) (w_m lM_29) rfl rfl (hP2.2 6 (by decide)) dM_compact_135 ?_
                  refine z_iload (j := 0) X dM_compact_138 rfl ?_
                  refine z_iconst (v := (-1)) X dM_compact_140 (by decide) ?_
                  refine z_iast (t0 := 0) X rfl rfl (by omega) (by decide) dM_compact_141 ?_
                  refine z_iinc (j := 2) (v := (nI (zPr (b.2.1 t) - zPr (zCmp (b.2.1 t) o) + 1))) (L' := [(4, .int (nI (zPr (b.2.1 t) - zPr (zCmp (b.2.1 t) o) + 1))), (6, .int (nI (t * 60 + o))), (5, .int (nI o)), (3, .int (nI (min (zBa (b.2.1 t)) (zStab (b.2.1 t))))), (2, .int (nI (zStab (b.2.1 t)))), (0, .ref 1000), (1, .int (nI t))]) X dM_compact_142 rfl (nI_1 (zPr (b.2.1 t) - zPr (zCmp (b.2.1 t) o))) (by decide) rfl ?_
                  refine z_iinc (j := 2) (v := (nI (o + 1))) (L' := [(5, .int (nI (o + 1))), (4, .int (nI (zPr (b.2.1 t) - zPr (zCmp (b.2.1 t) o) + 1))), (6, .int (nI (t * 60 + o))), (3, .int (nI (min (zBa (b.2.1 t)) (zStab (b.2.1 t))))), (2, .int (nI (zStab (b.2.1 t)))), (0, .ref 1000), (1, .int (nI t))]) X dM_compact_145 rfl (nI_1 o) (by decide) rfl ?_
                  refine z_goto (tgt := 77) X dM_compact_148 (by decide) ?_
                  refine z_loc [0, 1, 3, 4, 5, 6] rfl ?_
                  have hgo : zGoes (b.2.1 t) (zStab (b.2.1 t)) o = true := zGo1 he (c_99.trans nI_0.symm) c_110
                  have hpd := zPr_drop (g := zCmp (b.2.1 t) o) (o := o) (by omega) (by rw [zCmp_at (Nat.le_refl _)]; exact he)
                  rw [← zCmp_y hgo] at hpd
                  have hcl := zCmp_le (g := (b.2.1 t)) (k := o)
                  rw [show zPr (b.2.1 t) - zPr (zCmp (b.2.1 t) o) + 1 = zPr (b.2.1 t) - zPr (zCmp (b.2.1 t) (o + 1)) by omega]
                  exact ih (o + 1) _ (by omega) (by omega) (by omega) (by rw [zCmp_y hgo]; exact mL_drop hL2 (by omega)) (hc2.tr (zch.i ⟨rfl, by omega, by omega⟩))
                · refine z_aload_n (j := 5) X dM_compact_113 rfl rfl ?_
                  refine z_getr (C := RM) (T := TM) (N := 28) (k := 7) X (w_in inM) rfl rfl rfl (by decide) (w_m lM_32) rfl rfl (hP2.2 7 (by decide)) dM_compact_114 ?_
                  refine z_iload (j := 0) X dM_compact_117 rfl ?_
                  refine z_iald (t0 := 0) X rfl rfl (by omega) (by decide) dM_compact_119 (hv := hlo.2.1) ?_
                  refine z_if_lt (tgt := 145) X dM_compact_120 (by decide) (fun c_120 => ?_) (fun c_120 => ?_)
                  · have hk1 : r.2.1 = -1 := (hVg o r he).2.1.resolve_right (fun h => by
                      obtain ⟨k9, h8, h9⟩ := h
                      exact absurd c_120 (by rw [h9]; exact nI_pos (by omega)))
                    refine z_iinc (j := 1) (v := (nI (o + 1))) (L' := [(5, .int (nI (o + 1))), (6, .int (nI (t * 60 + o))), (4, .int (nI (zPr (b.2.1 t) - zPr (zCmp (b.2.1 t) o)))), (3, .int (nI (min (zBa (b.2.1 t)) (zStab (b.2.1 t))))), (2, .int (nI (zStab (b.2.1 t)))), (0, .ref 1000), (1, .int (nI t))]) X dM_compact_145 rfl (nI_1 o) (by decide) rfl ?_
                    refine z_goto (tgt := 77) X dM_compact_148 (by decide) ?_
                    refine z_loc [0, 2, 3, 4, 5, 6] rfl ?_
                    have hgo : ¬ zGoes (b.2.1 t) (zStab (b.2.1 t)) o = true := zGo_m he c_110 (Or.inl hk1)
                    rw [← zCmp_n hgo]
                    exact ih (o + 1) _ (by omega) (by omega) (by omega) (by rw [zCmp_n hgo]; exact hL2) hc2
                  · have hk1 : ¬ r.2.1 = -1 := fun h => c_120 (by rw [h]; decide)
                    refine z_aload_n (j := 5) X dM_compact_123 rfl rfl ?_
                    refine z_iload_n (j := 6) X dM_compact_124 rfl rfl ?_
                    refine z_iload (j := 1) X dM_compact_125 rfl ?_
                    refine z_iload_n (j := 4) X dM_compact_127 rfl rfl ?_
                    refine z_callV (n := 3) (As := [.int (nI t), .int (nI o), .int (nI (zStab (b.2.1 t)))]) (rest := []) X zG0_m (mM_newer l D dA ht12 hP2 hL2 (zCmp_W hWg hVg).1 (zCmp_W hWg hVg).2 (by omega) (by omega) (by rw [zCmp_at (Nat.le_refl _)]; exact he)) (w_V X.2.2.2.2.1 lM_136 jM_newer sM_newer i_LogBrokerModel kM_newer rfl rfl (by decide +kernel) ⟨Nat.le_of_ble_eq_true rfl, Nat.le_of_ble_eq_true rfl⟩) rfl rfl rfl rfl rfl (Nat.le_of_ble_eq_true rfl) dM_compact_128 ⟨Nat.le_of_ble_eq_true rfl, Nat.le_of_ble_eq_true rfl⟩ (fun v S9 hp => ?_) (fun E S1 hx => hx.elim)
                    obtain ⟨hS9, hp⟩ := hp
                    have hS9 := hS9.symm
                    subst hS9
                    rw [zCmp_new (Nat.le_refl _)] at hp
                    rcases hp with ⟨hv, hp⟩ | ⟨hv, hp⟩ <;> subst hv
                    · refine z_if_eq (tgt := 145) X dM_compact_131 (by decide) (fun c_131 => absurd c_131 (by decide)) (fun c_131 => ?_)
                      refine z_aload_n (j := 5) X dM_compact_134 rfl rfl ?_
                      refine z_getr (C := RM) (T := TM) (N := 28) (k := 6) X (w_in inM) rfl rfl rfl (by decide) (w_m lM_29) rfl rfl (hP2.2 6 (by decide)) dM_compact_135 ?_
                      refine z_iload (j := 0) X dM_compact_138 rfl ?_
                      refine z_iconst (v := (-1)) X dM_compact_140 (by decide) ?_
                      refine z_iast (t0 := 0) X rfl rfl (by omega) (by decide) dM_compact_141 ?_
                      refine z_iinc (j := 2) (v := (nI (zPr (b.2.1 t) - zPr (zCmp (b.2.1 t) o) + 1))) (L' := [(4, .int (nI (zPr (b.2.1 t) - zPr (zCmp (b.2.1 t) o) + 1))), (6, .int (nI (t * 60 + o))), (5, .int (nI o)), (3, .int (nI (min (zBa (b.2.1 t)) (zStab (b.2.1 t))))), (2, .int (nI (zStab (b.2.1 t)))), (0, .ref 1000), (1, .int (nI t))]) X dM_compact_142 rfl (nI_1 (zPr (b.2.1 t) - zPr (zCmp (b.2.1 t) o))) (by decide) rfl ?_
                      refine z_iinc (j := 2) (v := (nI (o + 1))) (L' := [(5, .int (nI (o + 1))), (4, .int (nI (zPr (b.2.1 t) - zPr (zCmp (b.2.1 t) o) + 1))), (6, .int (nI (t * 60 + o))), (3, .int (nI (min (zBa (b.2.1 t)) (zStab (b.2.1 t))))), (2, .int (nI (zStab (b.2.1 t)))), (0, .ref 1000), (1, .int (nI t))]) X dM_compact_145 rfl (nI_1 o) (by decide) rfl ?_
                      refine z_goto (tgt := 77) X dM_compact_148 (by decide) ?_
                      refine z_loc [0, 1, 3, 4, 5, 6] rfl ?_
                      have hgo : zGoes (b.2.1 t) (zStab (b.2.1 t)) o = true := zGo_new he (c_99.trans nI_0.symm) hk1 hp
                      have hpd := zPr_drop (g := zCmp (b.2.1 t) o) (o := o) (by omega) (by rw [zCmp_at (Nat.le_refl _)]; exact he)
                      rw [← zCmp_y hgo] at hpd
                      have hcl := zCmp_le (g := (b.2.1 t)) (k := o)
                      rw [show zPr (b.2.1 t) - zPr (zCmp (b.2.1 t) o) + 1 = zPr (b.2.1 t) - zPr (zCmp (b.2.1 t) (o + 1)) by omega]
                      exact ih (o + 1) _ (by omega) (by omega) (by omega) (by rw [zCmp_y hgo]; exact mL_drop hL2 (by omega)) (hc2.tr (zch.i ⟨rfl, by omega, by omega⟩))
                    · refine z_if_eq (tgt := 145) X dM_compact_131 (by decide) (fun c_131 => ?_) (fun c_131 => absurd c_131 (by decide))
                      refine z_iinc (j := 1) (v := (nI (o + 1))) (L' := [(5, .int (nI (o + 1))), (6, .int (nI (t * 60 + o))), (4, .int (nI (zPr (b.2.1 t) - zPr (zCmp (b.2.1 t) o)))), (3, .int (nI (min (zBa (b.2.1 t)) (zStab (b.2.1 t))))), (2, .int (nI (zStab (b.2.1 t)))), (0, .ref 1000), (1, .int (nI t))]) X dM_compact_145 rfl (nI_1 o) (by decide) rfl ?_
                      refine z_goto (tgt := 77) X dM_compact_148 (by decide) ?_
                      refine z_loc [0, 2, 3, 4, 5, 6] rfl ?_
                      have hgo : ¬ zGoes (b.2.1 t) (zStab (b.2.1 t)) o = true := zGo_m he c_110 (Or.inr hp)
                      rw [← zCmp_n hgo]
                      exact ih (o + 1) _ (by omega) (by omega) (by omega) (by rw [zCmp_n hgo]; exact hL2) hc2
        refine z_loc [0, 1, 2, 3, 4, 5] rfl ?_
        have h00 := loop (min (zBa (b.2.1 t)) (zStab (b.2.1 t)) + 1) (b.2.1 t).2.1.1 S1 (by omega) (Nat.le_refl _) (by omega) (by rw [zCmp_0 hWg]; exact hA1.2.2.2.1 t ht12) zch.rf
        rw [zCmp_0 hWg, Nat.sub_self] at h00
        exact h00
      · refine z_aload_n (j := 1) X dM_compact_56 rfl rfl ?_
        refine z_iload_n (j := 2) X dM_compact_57 rfl rfl ?_
        refine z_callV (n := 1) (As := [.int (nI t)]) (rest := []) X zG0_m (mM_openBase l D dA ht12 hA1.1 (hA1.2.2.2.1 t ht12) hWg hVg (hA1.2.2.1.2 t ht).1) (w_V X.2.2.2.2.1 lM_81 jM_openBase sM_openBase i_LogBrokerModel kM_openBase rfl rfl (by decide +kernel) ⟨Nat.le_of_ble_eq_true rfl, Nat.le_of_ble_eq_true rfl⟩) rfl rfl rfl rfl rfl (Nat.le_of_ble_eq_true rfl) dM_compact_58 ⟨Nat.le_of_ble_eq_true rfl, Nat.le_of_ble_eq_true rfl⟩ (fun v S9 hp => ?_) (fun E S1 hx => hx.elim)
        obtain ⟨hS9, hp⟩ := hp
        have hS9 := hS9.symm
        subst hS9
        subst hp
        refine z_goto (tgt := 65) X dM_compact_61 (by decide) ?_
        refine z_top (y := nI (min (zBa (b.2.1 t)) (zStab (b.2.1 t)))) (congrArg nI (by omega)) ?_
        refine z_istore_n (L' := [(3, .int (nI (min (zBa (b.2.1 t)) (zStab (b.2.1 t))))), (2, .int (nI (zStab (b.2.1 t)))), (0, .ref 1000), (1, .int (nI t))]) X dM_compact_65 rfl (by decide) rfl ?_
        refine z_iconst (v := (nI 0)) X dM_compact_66 (by decide) ?_
        refine z_istore (L' := [(4, .int (nI 0)), (3, .int (nI (min (zBa (b.2.1 t)) (zStab (b.2.1 t))))), (2, .int (nI (zStab (b.2.1 t)))), (0, .ref 1000), (1, .int (nI t))]) X dM_compact_67 (by decide) rfl ?_
        refine z_aload_n (j := 3) X dM_compact_69 rfl rfl ?_
        refine z_getr (C := RM) (T := TM) (N := 28) (k := 4) X (w_in inM) rfl rfl rfl (by decide) (w_m lM_23) rfl rfl (hA1.1.2 4 (by decide)) dM_compact_70 ?_
        refine z_iload_n (j := 4) X dM_compact_73 rfl rfl ?_
        refine z_iald (t0 := 0) X rfl rfl (by omega) (by decide) dM_compact_74 (hv := (hA1.2.2.2.1 t ht12).1) ?_
        refine z_istore (L' := [(5, .int (nI ((b.2.1 t).2.1.1))), (4, .int (nI 0)), (3, .int (nI (min (zBa (b.2.1 t)) (zStab (b.2.1 t))))), (2, .int (nI (zStab (b.2.1 t)))), (0, .ref 1000), (1, .int (nI t))]) X dM_compact_75 (by decide) rfl ?_
        have loop : ∀ (f o : Nat) (S2 : zS), min (zBa (b.2.1 t)) (zStab (b.2.1 t)) - o < f → (b.2.1 t).2.1.1 ≤ o → o ≤ min (zBa (b.2.1 t)) (zStab (b.2.1 t)) → mL S2 b.2.2.2.1 t (zCmp (b.2.1 t) o) → zch (fun n k => n = 1007 ∧ t * 60 ≤ k ∧ k < t * 60 + 60) S1 S2 → AW p l e { frames := 1, cells := 0, slots := 0, locals := 25 } s m args below meth c D vwCl zKK dA A (ad, S) 7 S2 0 0 (vx_MQ below (zQc D vwCl zKK dA A ad S (fun v S' => v = some (.int (sCompact b (nI t)).1.2) ∧ S'.2.1 1000 27 = nI (sCompact b (nI t)).1.1 ∧ zMdA S' (sCompact b (nI t)).2 ∧ zch oM S S')) (zXC D vwCl zKK dA A ad S (fun _ _ => False)) args s 0 0 A) 77 [(5, .int (nI o)), (4, .int (nI (zPr (b.2.1 t) - zPr (zCmp (b.2.1 t) o)))), (3, .int (nI (min (zBa (b.2.1 t)) (zStab (b.2.1 t))))), (2, .int (nI (zStab (b.2.1 t)))), (0, .ref 1000), (1, .int (nI t))] [] := by
          intro f
          induction f with
          | zero => intro o S2 h0; omega
          | succ f ih =>
          intro o S2 h0 ho1 ho2 hL2 hc2
          have hP2 : mP S2 := mP_fr hA1.1 hc2
          refine z_iload (j := 0) X dM_compact_77 rfl ?_
          refine z_iload_n (j := 2) X dM_compact_79 rfl rfl ?_
          refine z_icmp_geN (tgt := 151) X dM_compact_80 (by decide) (by omega) (by omega) (fun c_80 => ?_) (fun c_80 => ?_)
          · refine z_aload_n (j := 4) X dM_compact_151 rfl rfl ?_
            refine z_dup X dM_compact_152 rfl ?_
            refine z_geti (C := RM) (T := TM) (N := 28) (k := 26) X (w_in inM) rfl rfl rfl (by decide) (w_m lM_140) rfl rfl dM_compact_153 (hv := rfl) ?_
            refine z_iload (j := 1) X dM_compact_156 rfl ?_
            refine z_iadd X dM_compact_158 ?_
            refine z_puti (C := RM) (T := TM) (N := 28) (k := 26) X (w_in inM) rfl rfl rfl (by decide) (w_m lM_140) rfl tyM tyM_ok nmM rfl rfl (ty := .int) (by decide +kernel) rfl rfl dM_compact_159 ?_
            refine z_iload (j := 1) X dM_compact_162 rfl ?_
            refine z_iret X hlocks hr dM_compact_164 (by omega) (by omega) ?_
            have e9 : o = min (zBa (b.2.1 t)) (zStab (b.2.1 t)) := by omega
            have hce := zCmp_end (g := (b.2.1 t)) e9
            rw [hce] at hL2
            rw [hce]
            have hN1 := hA1.2.1
            have hc3 : zch (oW t) S1 (zsi S2 1000 26 ((S2.2.1 1000 26) + (nI (zPr (b.2.1 t) - zPr (zComp (b.2.1 t)))))) := (hc2.mono (fun n k h => Or.inl (Or.inr (by omega)))).tr (zch.i (Or.inr ⟨rfl, by omega, by omega⟩))
            have hm3 : mN (zsi S2 1000 26 ((S2.2.1 1000 26) + (nI (zPr (b.2.1 t) - zPr (zComp (b.2.1 t)))))) (b.2.2.2.2.2.2.1, b.2.2.2.2.2.2.2.1, b.2.2.2.2.2.2.2.2.1, b.2.2.2.2.2.2.2.2.2.1, b.2.2.2.2.2.2.2.2.2.2 + nI (zPr (b.2.1 t) - zPr (zComp (b.2.1 t)))) := ⟨rd_i (Or.inr (by decide)) ((hc2.2.2 _ _ (by omega)).trans hN1.1), rd_i (Or.inr (by decide)) ((hc2.2.2 _ _ (by omega)).trans hN1.2.1), rd_i (Or.inr (by decide)) ((hc2.2.2 _ _ (by omega)).trans hN1.2.2.1), rd_i (Or.inr (by decide)) ((hc2.2.2 _ _ (by omega)).trans hN1.2.2.2.1), rd_s.trans (by rw [hc2.2.2 _ _ (by omega), hN1.2.2.2.2])⟩
            have hl3 : mL (zsi S2 1000 26 ((S2.2.1 1000 26) + (nI (zPr (b.2.1 t) - zPr (zComp (b.2.1 t)))))) b.2.2.2.1 t (zComp (b.2.1 t)) := mL_fr hL2 (fun n k h => rd_i (Or.inl (by unfold oL at h; omega)) rfl)
            have hA3 : zMdA (zsi S2 1000 26 ((S2.2.1 1000 26) + (nI (zPr (b.2.1 t) - zPr (zComp (b.2.1 t)))))) (bN (bG b t (zComp (b.2.1 t))) (b.2.2.2.2.2.2.1, b.2.2.2.2.2.2.2.1, b.2.2.2.2.2.2.2.2.1, b.2.2.2.2.2.2.2.2.2.1, b.2.2.2.2.2.2.2.2.2.2 + nI (zPr (b.2.1 t) - zPr (zComp (b.2.1 t))))) := zMdA_L hA1 hc3 hm3 hl3 rfl
            have h273 : (zsi S2 1000 26 ((S2.2.1 1000 26) + (nI (zPr (b.2.1 t) - zPr (zComp (b.2.1 t)))))).2.1 1000 27 = nI 0 := rd_i (Or.inr (by decide)) ((hc2.2.2 _ _ (by omega)).trans h27)
            have hcz : zch oM S (zsi S2 1000 26 ((S2.2.1 1000 26) + (nI (zPr (b.2.1 t) - zPr (zComp (b.2.1 t)))))) := ((hc1.tr (hc2.mono (fun n k h => ⟨by omega, by omega⟩))).tr (zch.i ⟨by omega, by omega⟩))
            have hs : sCompact b (nI t) = ((0, nI (zPr (b.2.1 t) - zPr (zComp (b.2.1 t)))), bN (bG b t (zComp (b.2.1 t))) (b.2.2.2.2.2.2.1, b.2.2.2.2.2.2.2.1, b.2.2.2.2.2.2.2.2.1, b.2.2.2.2.2.2.2.2.2.1, b.2.2.2.2.2.2.2.2.2.2 + nI (zPr (b.2.1 t) - zPr (zComp (b.2.1 t))))) := by unfold sCompact; rw [zT_s ht, if_neg (fun h => c_21 (h.trans nI_0))]
            rw [hs]
            exact ⟨rfl, h273, hA3, hcz⟩
          · refine z_iload_n (j := 5) X dM_compact_83 rfl rfl ?_
            refine z_bipush (v := (nI 60)) X dM_compact_84 (by decide) ?_
            refine z_imul X dM_compact_86 ?_
            refine z_top (pk_mul t 60) ?_
            refine z_iload (j := 0) X dM_compact_87 rfl ?_
            refine z_iadd X dM_compact_89 ?_
            refine z_top (nI_add (t * 60) o) ?_
            refine z_istore (L' := [(6, .int (nI (t * 60 + o))), (5, .int (nI o)), (4, .int (nI (zPr (b.2.1 t) - zPr (zCmp (b.2.1 t) o)))), (3, .int (nI (min (zBa (b.2.1 t)) (zStab (b.2.1 t))))), (2, .int (nI (zStab (b.2.1 t)))), (0, .ref 1000), (1, .int (nI t))]) X dM_compact_90 (by decide) rfl ?_
            have hlo := hL2.2.2 o (by omega)
            rw [zCmp_at (Nat.le_refl _)] at hlo
            rcases he : (b.2.1 t).2.2 o with _ | r <;> rw [he] at hlo
            · refine z_aload_n (j := 5) X dM_compact_92 rfl rfl ?_
              refine z_getr (C := RM) (T := TM) (N := 28) (k := 6) X (w_in inM) rfl rfl rfl (by decide) (w_m lM_29) rfl rfl (hP2.2 6 (by decide)) dM_compact_93 ?_
              refine z_iload (j := 0) X dM_compact_96 rfl ?_
              refine z_iald (t0 := 0) X rfl rfl (by omega) (by decide) dM_compact_98 (hv := hlo) ?_
              refine z_if_ne (tgt := 145) X dM_compact_99 (by decide) (fun c_99 => ?_) (fun c_99 => absurd c_99 (by decide))
              refine z_iinc (j := 1) (v := (nI (o + 1))) (L' := [(5, .int (nI (o + 1))), (6, .int (nI (t * 60 + o))), (4, .int (nI (zPr (b.2.1 t) - zPr (zCmp (b.2.1 t) o)))), (3, .int (nI (min (zBa (b.2.1 t)) (zStab (b.2.1 t))))), (2, .int (nI (zStab (b.2.1 t)))), (0, .ref 1000), (1, .int (nI t))]) X dM_compact_145 rfl (nI_1 o) (by decide) rfl ?_
              refine z_goto (tgt := 77) X dM_compact_148 (by decide) ?_
              refine z_loc [0, 2, 3, 4, 5, 6] rfl ?_
              have hgo : ¬ zGoes (b.2.1 t) (zStab (b.2.1 t)) o = true := zGo_n he
              rw [← zCmp_n hgo]
              exact ih (o + 1) _ (by omega) (by omega) (by omega) (by rw [zCmp_n hgo]; exact hL2) hc2
            · refine z_aload_n (j := 5) X dM_compact_92 rfl rfl ?_
              refine z_getr (C := RM) (T := TM) (N := 28) (k := 6) X (w_in inM) rfl rfl rfl (by decide) (w_m lM_29) rfl rfl (hP2.2 6 (by decide)) dM_compact_93 ?_
              refine z_iload (j := 0) X dM_compact_96 rfl ?_
              refine z_iald (t0 := 0) X rfl rfl (by omega) (by decide) dM_compact_98 (hv := hlo.1) ?_
              refine z_if_ne (tgt := 145) X dM_compact_99 (by decide) (fun c_99 => ?_) (fun c_99 => ?_)
              · refine z_iinc (j := 1) (v := (nI (o + 1))) (L' := [(5, .int (nI (o + 1))), (6, .int (nI (t * 60 + o))), (4, .int (nI (zPr (b.2.1 t) - zPr (zCmp (b.2.1 t) o)))), (3, .int (nI (min (zBa (b.2.1 t)) (zStab (b.2.1 t))))), (2, .int (nI (zStab (b.2.1 t)))), (0, .ref 1000), (1, .int (nI t))]) X dM_compact_145 rfl (nI_1 o) (by decide) rfl ?_
                refine z_goto (tgt := 77) X dM_compact_148 (by decide) ?_
                refine z_loc [0, 2, 3, 4, 5, 6] rfl ?_
                have hgo : ¬ zGoes (b.2.1 t) (zStab (b.2.1 t)) o = true := zGo_k he (fun h => c_99 (h.trans nI_0))
                rw [← zCmp_n hgo]
                exact ih (o + 1) _ (by omega) (by omega) (by omega) (by rw [zCmp_n hgo]; exact hL2) hc2
              · refine z_aload_n (j := 5) X dM_compact_102 rfl rfl ?_
                refine z_getr (C := RM) (T := TM) (N := 28) (k := 10) X (w_in inM) rfl rfl rfl (by decide) (w_m lM_41) rfl rfl (hP2.2 10 (by decide)) dM_compact_103 ?_
                refine z_iload (j := 0) X dM_compact_106 rfl ?_
                refine z_iald (t0 := 0) X rfl rfl (by omega) (by decide) dM_compact_108 (hv := hlo.2.2.2.2.1) ?_
                refine z_iconst (v := (nI 1)) X dM_compact_109 (by decide) ?_
                refine z_icmp_eq (tgt := 134) X dM_compact_110 (by decide) (fun c_110 => ?_) (fun c_110 => ?_)
                · refine z_aload_n (j := 5) X dM_compact_134 rfl rfl ?_
                  refine z_getr (C := RM) (T := TM) (N := 28) (k := 6) X (w_in inM) rfl rfl rfl (by decide) (w_m lM_29) rfl rfl (hP2.2 6 (by decide)) dM_compact_135 ?_
                  refine z_iload (j := 0) X dM_compact_138 rfl ?_
                  refine z_iconst (v := (-1)) X dM_compact_140 (by decide) ?_
                  refine z_iast (t0 := 0) X rfl rfl (by omega) (by decide) dM_compact_141 ?_
                  refine z_iinc (j := 2) (v := (nI (zPr (b.2.1 t) - zPr (zCmp (b.2.1 t) o) + 1))) (L' := [(4, .int (nI (zPr (b.2.1 t) - zPr (zCmp (b.2.1 t) o) + 1))), (6, .int (nI (t * 60 + o))), (5, .int (nI o)), (3, .int (nI (min (zBa (b.2.1 t)) (zStab (b.2.1 t))))), (2, .int (nI (zStab (b.2.1 t)))), (0, .ref 1000), (1, .int (nI t))]) X dM_compact_142 rfl (nI_1 (zPr (b.2.1 t) - zPr (zCmp (b.2.1 t) o))) (by decide) rfl ?_
                  refine z_iinc (j := 2) (v := (nI (o + 1))) (L' := [(5, .int (nI (o + 1))), (4, .int (nI (zPr (b.2.1 t) - zPr (zCmp (b.2.1 t) o) + 1))), (6, .int (nI (t * 60 + o))), (3, .int (nI (min (zBa (b.2.1 t)) (zStab (b.2.1 t))))), (2, .int (nI (zStab (b.2.1 t)))), (0, .ref 1000), (1, .int (nI t))]) X dM_compact_145 rfl (nI_1 o) (by decide) rfl ?_
                  refine z_goto (tgt := 77) X dM_compact_148 (by decide) ?_
                  refine z_loc [0, 1, 3, 4, 5, 6] rfl ?_
                  have hgo : zGoes (b.2.1 t) (zStab (b.2.1 t)) o = true := zGo1 he (c_99.trans nI_0.symm) c_110
                  have hpd := zPr_drop (g := zCmp (b.2.1 t) o) (o := o) (by omega) (by rw [zCmp_at (Nat.le_refl _)]; exact he)
                  rw [← zCmp_y hgo] at hpd
                  have hcl := zCmp_le (g := (b.2.1 t)) (k := o)
                  rw [show zPr (b.2.1 t) - zPr (zCmp (b.2.1 t) o) + 1 = zPr (b.2.1 t) - zPr (zCmp (b.2.1 t) (o + 1)) by omega]
                  exact ih (o + 1) _ (by omega) (by omega) (by omega) (by rw [zCmp_y hgo]; exact mL_drop hL2 (by omega)) (hc2.tr (zch.i ⟨rfl, by omega, by omega⟩))
                · refine z_aload_n (j := 5) X dM_compact_113 rfl rfl ?_
                  refine z_getr (C := RM) (T := TM) (N := 28) (k := 7) X (w_in inM) rfl rfl rfl (by decide) (w_m lM_32) rfl rfl (hP2.2 7 (by decide)) dM_compact_114 ?_
                  refine z_iload (j := 0) X dM_compact_117 rfl ?_
                  refine z_iald (t0 := 0) X rfl rfl (by omega) (by decide) dM_compact_119 (hv := hlo.2.1) ?_
                  refine z_if_lt (tgt := 145) X dM_compact_120 (by decide) (fun c_120 => ?_) (fun c_120 => ?_)
                  · have hk1 : r.2.1 = -1 := (hVg o r he).2.1.resolve_right (fun h => by
                      obtain ⟨k9, h8, h9⟩ := h
                      exact absurd c_120 (by rw [h9]; exact nI_pos (by omega)))
                    refine z_iinc (j := 1) (v := (nI (o + 1))) (L' := [(5, .int (nI (o + 1))), (6, .int (nI (t * 60 + o))), (4, .int (nI (zPr (b.2.1 t) - zPr (zCmp (b.2.1 t) o)))), (3, .int (nI (min (zBa (b.2.1 t)) (zStab (b.2.1 t))))), (2, .int (nI (zStab (b.2.1 t)))), (0, .ref 1000), (1, .int (nI t))]) X dM_compact_145 rfl (nI_1 o) (by decide) rfl ?_
                    refine z_goto (tgt := 77) X dM_compact_148 (by decide) ?_
                    refine z_loc [0, 2, 3, 4, 5, 6] rfl ?_
                    have hgo : ¬ zGoes (b.2.1 t) (zStab (b.2.1 t)) o = true := zGo_m he c_110 (Or.inl hk1)
                    rw [← zCmp_n hgo]
                    exact ih (o + 1) _ (by omega) (by omega) (by omega) (by rw [zCmp_n hgo]; exact hL2) hc2
                  · have hk1 : ¬ r.2.1 = -1 := fun h => c_120 (by rw [h]; decide)
                    refine z_aload_n (j := 5) X dM_compact_123 rfl rfl ?_
                    refine z_iload_n (j := 6) X dM_compact_124 rfl rfl ?_
                    refine z_iload (j := 1) X dM_compact_125 rfl ?_
                    refine z_iload_n (j := 4) X dM_compact_127 rfl rfl ?_
                    refine z_callV (n := 3) (As := [.int (nI t), .int (nI o), .int (nI (zStab (b.2.1 t)))]) (rest := []) X zG0_m (mM_newer l D dA ht12 hP2 hL2 (zCmp_W hWg hVg).1 (zCmp_W hWg hVg).2 (by omega) (by omega) (by rw [zCmp_at (Nat.le_refl _)]; exact he)) (w_V X.2.2.2.2.1 lM_136 jM_newer sM_newer i_LogBrokerModel kM_newer rfl rfl (by decide +kernel) ⟨Nat.le_of_ble_eq_true rfl, Nat.le_of_ble_eq_true rfl⟩) rfl rfl rfl rfl rfl (Nat.le_of_ble_eq_true rfl) dM_compact_128 ⟨Nat.le_of_ble_eq_true rfl, Nat.le_of_ble_eq_true rfl⟩ (fun v S9 hp => ?_) (fun E S1 hx => hx.elim)
                    obtain ⟨hS9, hp⟩ := hp
                    have hS9 := hS9.symm
                    subst hS9
                    rw [zCmp_new (Nat.le_refl _)] at hp
                    rcases hp with ⟨hv, hp⟩ | ⟨hv, hp⟩ <;> subst hv
                    · refine z_if_eq (tgt := 145) X dM_compact_131 (by decide) (fun c_131 => absurd c_131 (by decide)) (fun c_131 => ?_)
                      refine z_aload_n (j := 5) X dM_compact_134 rfl rfl ?_
                      refine z_getr (C := RM) (T := TM) (N := 28) (k := 6) X (w_in inM) rfl rfl rfl (by decide) (w_m lM_29) rfl rfl (hP2.2 6 (by decide)) dM_compact_135 ?_
                      refine z_iload (j := 0) X dM_compact_138 rfl ?_
                      refine z_iconst (v := (-1)) X dM_compact_140 (by decide) ?_
                      refine z_iast (t0 := 0) X rfl rfl (by omega) (by decide) dM_compact_141 ?_
                      refine z_iinc (j := 2) (v := (nI (zPr (b.2.1 t) - zPr (zCmp (b.2.1 t) o) + 1))) (L' := [(4, .int (nI (zPr (b.2.1 t) - zPr (zCmp (b.2.1 t) o) + 1))), (6, .int (nI (t * 60 + o))), (5, .int (nI o)), (3, .int (nI (min (zBa (b.2.1 t)) (zStab (b.2.1 t))))), (2, .int (nI (zStab (b.2.1 t)))), (0, .ref 1000), (1, .int (nI t))]) X dM_compact_142 rfl (nI_1 (zPr (b.2.1 t) - zPr (zCmp (b.2.1 t) o))) (by decide) rfl ?_
                      refine z_iinc (j := 2) (v := (nI (o + 1))) (L' := [(5, .int (nI (o + 1))), (4, .int (nI (zPr (b.2.1 t) - zPr (zCmp (b.2.1 t) o) + 1))), (6, .int (nI (t * 60 + o))), (3, .int (nI (min (zBa (b.2.1 t)) (zStab (b.2.1 t))))), (2, .int (nI (zStab (b.2.1 t)))), (0, .ref 1000), (1, .int (nI t))]) X dM_compact_145 rfl (nI_1 o) (by decide) rfl ?_
                      refine z_goto (tgt := 77) X dM_compact_148 (by decide) ?_
                      refine z_loc [0, 1, 3, 4, 5, 6] rfl ?_
                      have hgo : zGoes (b.2.1 t) (zStab (b.2.1 t)) o = true := zGo_new he (c_99.trans nI_0.symm) hk1 hp
                      have hpd := zPr_drop (g := zCmp (b.2.1 t) o) (o := o) (by omega) (by rw [zCmp_at (Nat.le_refl _)]; exact he)
                      rw [← zCmp_y hgo] at hpd
                      have hcl := zCmp_le (g := (b.2.1 t)) (k := o)
                      rw [show zPr (b.2.1 t) - zPr (zCmp (b.2.1 t) o) + 1 = zPr (b.2.1 t) - zPr (zCmp (b.2.1 t) (o + 1)) by omega]
                      exact ih (o + 1) _ (by omega) (by omega) (by omega) (by rw [zCmp_y hgo]; exact mL_drop hL2 (by omega)) (hc2.tr (zch.i ⟨rfl, by omega, by omega⟩))
                    · refine z_if_eq (tgt := 145) X dM_compact_131 (by decide) (fun c_131 => ?_) (fun c_131 => absurd c_131 (by decide))
                      refine z_iinc (j := 1) (v := (nI (o + 1))) (L' := [(5, .int (nI (o + 1))), (6, .int (nI (t * 60 + o))), (4, .int (nI (zPr (b.2.1 t) - zPr (zCmp (b.2.1 t) o)))), (3, .int (nI (min (zBa (b.2.1 t)) (zStab (b.2.1 t))))), (2, .int (nI (zStab (b.2.1 t)))), (0, .ref 1000), (1, .int (nI t))]) X dM_compact_145 rfl (nI_1 o) (by decide) rfl ?_
                      refine z_goto (tgt := 77) X dM_compact_148 (by decide) ?_
                      refine z_loc [0, 2, 3, 4, 5, 6] rfl ?_
                      have hgo : ¬ zGoes (b.2.1 t) (zStab (b.2.1 t)) o = true := zGo_m he c_110 (Or.inr hp)
                      rw [← zCmp_n hgo]
                      exact ih (o + 1) _ (by omega) (by omega) (by omega) (by rw [zCmp_n hgo]; exact hL2) hc2
        refine z_loc [0, 1, 2, 3, 4, 5] rfl ?_
        have h00 := loop (min (zBa (b.2.1 t)) (zStab (b.2.1 t)) + 1) (b.2.1 t).2.1.1 S1 (by omega) (Nat.le_refl _) (by omega) (by rw [zCmp_0 hWg]; exact hA1.2.2.2.1 t ht12) zch.rf
        rw [zCmp_0 hWg, Nat.sub_self] at h00
        exact h00
    · refine z_iconst (v := (nI 2)) X dM_compact_24 (by decide) ?_
      refine z_goto (tgt := 29) X dM_compact_25 (by decide) ?_
      refine z_puti (C := RM) (T := TM) (N := 28) (k := 27) X (w_in inM) rfl rfl rfl (by decide) (w_m lM_77) rfl tyM tyM_ok nmM rfl rfl (ty := .int) (by decide +kernel) rfl rfl dM_compact_29 ?_
      refine z_aload_n (j := 0) X dM_compact_32 rfl rfl ?_
      refine z_geti (C := RM) (T := TM) (N := 28) (k := 27) X (w_in inM) rfl rfl rfl (by decide) (w_m lM_77) rfl rfl dM_compact_33 (hv := rd_s) ?_
      refine z_if_eq (tgt := 41) X dM_compact_36 (by decide) (fun c_36 => absurd c_36 (by decide)) (fun c_36 => ?_)
      refine z_iconst (v := (nI 0)) X dM_compact_39 (by decide) ?_
      refine z_iret X hlocks hr dM_compact_40 (by omega) (by omega) ?_
      have hs : sCompact b (nI t) = ((2, 0), b) := by unfold sCompact; rw [zT_s ht, if_pos (c_21.trans nI_0.symm)]
      rw [hs]
      exact ⟨congrArg (fun z => some (Value.int z)) nI_0, rd_s, (zMdA_th hA), (zch.rf.tr (zch.i ⟨by omega, by omega⟩))⟩

set_option maxHeartbeats 600000 in
set_option maxRecDepth 100000 in
theorem mM_log (l : Launch) (D : va_G) (dA : Nat → ClassId) {S : zS} {b : zBr} {x y : Int32} (hA : zMdA S b) (hI : zInv b)  : zMet l D vwCl zKK dA (zG0 D dA) yM_log (Cond.code yM_log cM_log 5 (some .int) :: zTs) { frames := 2, cells := 0, slots := 0, locals := 42 } 0 0 [.ref 1000, .int x, .int y] S (fun v S' => v = some (.int (sLog b x y).2) ∧ S'.2.1 1000 27 = nI (sLog b x y).1 ∧ zMdA S' b ∧ zch oM S S') (fun _ _ => False) := by
  refine z_met (tys := ztys dA) (by decide) rfl zG0_K rfl (Nat.le_of_ble_eq_true rfl) (fun p e s m args below meth c A ad X hr hlocks hin hex => ?_)
  refine z_aload_n (j := 0) X dM_log_0 rfl rfl ?_
  refine z_aload_n (j := 0) X dM_log_1 rfl rfl ?_
  refine z_iload_n (j := 1) X dM_log_2 rfl rfl ?_
  refine z_callV (n := 1) (As := [.int x]) (rest := [.ref 1000]) X zG0_m (mM_badLog l D dA hA.1 hA.2.2.1 hI.1.1) (w_V X.2.2.2.2.1 lM_123 jM_badLog sM_badLog i_LogBrokerModel kM_badLog rfl rfl (by decide +kernel) ⟨Nat.le_of_ble_eq_true rfl, Nat.le_of_ble_eq_true rfl⟩) rfl rfl rfl rfl rfl (Nat.le_of_ble_eq_true rfl) dM_log_3 ⟨Nat.le_of_ble_eq_true rfl, Nat.le_of_ble_eq_true rfl⟩ (fun v S9 hp => ?_) (fun E S1 hx => hx.elim)
  obtain ⟨hS9, hp⟩ := hp
  have hS9 := hS9.symm
  subst hS9
  rcases hp with ⟨hv, hp⟩ | ⟨hv, hp⟩ <;> subst hv
  · have hbL := hp
    refine z_if_ne (tgt := 19) X dM_log_6 (by decide) (fun c_6 => ?_) (fun c_6 => absurd c_6 (by decide))
    refine z_iconst (v := (nI 1)) X dM_log_19 (by decide) ?_
    refine z_goto (tgt := 24) X dM_log_20 (by decide) ?_
    refine z_puti (C := RM) (T := TM) (N := 28) (k := 27) X (w_in inM) rfl rfl rfl (by decide) (w_m lM_77) rfl tyM tyM_ok nmM rfl rfl (ty := .int) (by decide +kernel) rfl rfl dM_log_24 ?_
    refine z_aload_n (j := 0) X dM_log_27 rfl rfl ?_
    refine z_geti (C := RM) (T := TM) (N := 28) (k := 27) X (w_in inM) rfl rfl rfl (by decide) (w_m lM_77) rfl rfl dM_log_28 (hv := rd_s) ?_
    refine z_if_eq (tgt := 36) X dM_log_31 (by decide) (fun c_31 => absurd c_31 (by decide)) (fun c_31 => ?_)
    refine z_iconst (v := (nI 0)) X dM_log_34 (by decide) ?_
    refine z_iret X hlocks hr dM_log_35 (by omega) (by omega) ?_
    have hs : sLog b x y = (1, 0) := by
      unfold sLog
      first | rw [zT_n hbL] | (rw [zT_s ht]; exact zA_n (by first | exact Or.inl (by rw [nI_0]; exact c_10) | exact Or.inr (Int32.not_le.mp c_16)))
    rw [hs]
    exact ⟨congrArg (fun z => some (Value.int z)) nI_0, rd_s, (zMdA_th hA), (zch.rf.tr (zch.i ⟨by omega, by omega⟩))⟩
  · obtain ⟨t, ht, hx8⟩ := hp
    subst hx8
    have ht12 := ht.1
    have hWg := hI.1.2.1 t ht
    have hVg := hI.1.2.2.1 t ht
    obtain ⟨w1, w2, w3, w4, w5, w6, w7, w8, w9⟩ := id hWg
    have wb := zBa_le (b.2.1 t)
    refine z_if_ne (tgt := 19) X dM_log_6 (by decide) (fun c_6 => absurd c_6 (by decide)) (fun c_6 => ?_)
    refine z_iload_n (j := 2) X dM_log_9 rfl rfl ?_
    refine z_if_lt (tgt := 19) X dM_log_10 (by decide) (fun c_10 => ?_) (fun c_10 => ?_)
    · refine z_iconst (v := (nI 1)) X dM_log_19 (by decide) ?_
      refine z_goto (tgt := 24) X dM_log_20 (by decide) ?_
      refine z_puti (C := RM) (T := TM) (N := 28) (k := 27) X (w_in inM) rfl rfl rfl (by decide) (w_m lM_77) rfl tyM tyM_ok nmM rfl rfl (ty := .int) (by decide +kernel) rfl rfl dM_log_24 ?_
      refine z_aload_n (j := 0) X dM_log_27 rfl rfl ?_
      refine z_geti (C := RM) (T := TM) (N := 28) (k := 27) X (w_in inM) rfl rfl rfl (by decide) (w_m lM_77) rfl rfl dM_log_28 (hv := rd_s) ?_
      refine z_if_eq (tgt := 36) X dM_log_31 (by decide) (fun c_31 => absurd c_31 (by decide)) (fun c_31 => ?_)
      refine z_iconst (v := (nI 0)) X dM_log_34 (by decide) ?_
      refine z_iret X hlocks hr dM_log_35 (by omega) (by omega) ?_
      have hs : sLog b (nI t) y = (1, 0) := by
        unfold sLog
        first | rw [zT_n hbL] | (rw [zT_s ht]; exact zA_n (by first | exact Or.inl (by rw [nI_0]; exact c_10) | exact Or.inr (Int32.not_le.mp c_16)))
      rw [hs]
      exact ⟨congrArg (fun z => some (Value.int z)) nI_0, rd_s, (zMdA_th hA), (zch.rf.tr (zch.i ⟨by omega, by omega⟩))⟩
    · refine z_iload_n (j := 2) X dM_log_13 rfl rfl ?_
      refine z_bipush (v := (nI 8)) X dM_log_14 (by decide) ?_
      refine z_icmp_le (tgt := 23) X dM_log_16 (by decide) (fun c_16 => ?_) (fun c_16 => ?_)
      · obtain ⟨k, hz9, hk⟩ := zRg (n := 8) (x := y) (by decide) (fun h => c_10 (by rw [← nI_0]; exact h)) (Int32.not_lt.mpr c_16)
        subst hz9
        refine z_iconst (v := (nI 0)) X dM_log_23 (by decide) ?_
        refine z_puti (C := RM) (T := TM) (N := 28) (k := 27) X (w_in inM) rfl rfl rfl (by decide) (w_m lM_77) rfl tyM tyM_ok nmM rfl rfl (ty := .int) (by decide +kernel) rfl rfl dM_log_24 ?_
        generalize hS1 : zsi S 1000 27 (nI 0) = S1
        have hA1 : zMdA S1 b := by rw [← hS1]; exact zMdA_th hA
        have h27 : S1.2.1 1000 27 = nI 0 := by rw [← hS1]; exact rd_s
        have hc1 : zch oM S S1 := by rw [← hS1]; exact zch.i ⟨by decide, by decide⟩
        refine z_aload_n (j := 0) X dM_log_27 rfl rfl ?_
        refine z_geti (C := RM) (T := TM) (N := 28) (k := 27) X (w_in inM) rfl rfl rfl (by decide) (w_m lM_77) rfl rfl dM_log_28 (hv := h27) ?_
        refine z_if_eq (tgt := 36) X dM_log_31 (by decide) (fun c_31 => ?_) (fun c_31 => absurd c_31 (by decide))
        refine z_iload_n (j := 2) X dM_log_36 rfl rfl ?_
        refine z_if_ne (tgt := 47) X dM_log_37 (by decide) (fun c_37 => ?_) (fun c_37 => ?_)
        · have h37 : ¬ k = 0 := fun h => c_37 (by rw [h]; exact nI_0)
          refine z_iload_n (j := 2) X dM_log_47 rfl rfl ?_
          refine z_iconst (v := (nI 1)) X dM_log_48 (by decide) ?_
          refine z_icmp_neN (tgt := 59) X dM_log_49 (by decide) (by omega) (by omega) (fun c_49 => ?_) (fun c_49 => ?_)
          · refine z_iload_n (j := 2) X dM_log_59 rfl rfl ?_
            refine z_iconst (v := (nI 2)) X dM_log_60 (by decide) ?_
            refine z_icmp_neN (tgt := 70) X dM_log_61 (by decide) (by omega) (by omega) (fun c_61 => ?_) (fun c_61 => ?_)
            · refine z_iload_n (j := 2) X dM_log_70 rfl rfl ?_
              refine z_iconst (v := (nI 4)) X dM_log_71 (by decide) ?_
              refine z_icmp_neN (tgt := 81) X dM_log_72 (by decide) (by omega) (by omega) (fun c_72 => ?_) (fun c_72 => ?_)
              · refine z_iload_n (j := 2) X dM_log_81 rfl rfl ?_
                refine z_iconst (v := (nI 5)) X dM_log_82 (by decide) ?_
                refine z_icmp_eqN (tgt := 92) X dM_log_83 (by decide) (by omega) (by omega) (fun c_83 => ?_) (fun c_83 => ?_)
                · subst c_83
                  refine z_aload_n (j := 0) X dM_log_92 rfl rfl ?_
                  refine z_getr (C := RM) (T := TM) (N := 28) (k := 20) X (w_in inM) rfl rfl rfl (by decide) (w_m lM_71) rfl rfl (hA1.1.2 20 (by decide)) dM_log_93 ?_
                  refine z_iload_n (j := 2) X dM_log_96 rfl rfl ?_
                  refine z_iconst (v := (nI 5)) X dM_log_97 (by decide) ?_
                  refine z_isub X dM_log_98 ?_
                  refine z_top (pk_sub (a := 5) (b := 5) (by omega)) ?_
                  refine z_bipush (v := (nI 12)) X dM_log_99 (by decide) ?_
                  refine z_imul X dM_log_101 ?_
                  refine z_top (pk_mul (5 - 5) 12) ?_
                  refine z_iload_n (j := 1) X dM_log_102 rfl rfl ?_
                  refine z_iadd X dM_log_103 ?_
                  refine z_top (nI_add ((5 - 5) * 12) t) ?_
                  refine z_iald (t0 := 0) X rfl rfl (by omega) (by decide) dM_log_104 (hv := ((hA1.2.2.2.2.2.2 0 (by decide)).2.2.1 t ht12)) ?_
                  refine z_iret X hlocks hr dM_log_105 (by omega) (by omega) ?_
                  have hs : sLog b (nI t) (nI 5) = (0, (nI ((b.2.2.2.2.2.1 0).2.2.2.1 t))) := by rw [sLog_v ht (by decide), sLogV_5]
                  rw [hs]
                  exact ⟨rfl, h27, hA1, hc1⟩
                · refine z_iload_n (j := 2) X dM_log_86 rfl rfl ?_
                  refine z_bipush (v := (nI 6)) X dM_log_87 (by decide) ?_
                  refine z_icmp_neN (tgt := 106) X dM_log_89 (by decide) (by omega) (by omega) (fun c_89 => ?_) (fun c_89 => ?_)
                  · refine z_iload_n (j := 2) X dM_log_106 rfl rfl ?_
                    refine z_bipush (v := (nI 6)) X dM_log_107 (by decide) ?_
                    refine z_icmp_leN (tgt := 127) X dM_log_109 (by decide) (by omega) (by omega) (fun c_109 => ?_) (fun c_109 => ?_)
                    · refine z_iconst (v := (nI 0)) X dM_log_127 (by decide) ?_
                      refine z_istore_n (L' := [(3, .int (nI 0)), (0, .ref 1000), (1, .int (nI t)), (2, .int (nI k))]) X dM_log_128 rfl (by decide) rfl ?_
                      refine z_iconst (v := (nI 0)) X dM_log_129 (by decide) ?_
                      refine z_istore (L' := [(4, .int (nI 0)), (3, .int (nI 0)), (0, .ref 1000), (1, .int (nI t)), (2, .int (nI k))]) X dM_log_130 (by decide) rfl ?_
                      have loop : ∀ (f o : Nat), 60 - o < f → o ≤ 60 → AW p l e { frames := 2, cells := 0, slots := 0, locals := 42 } s m args below meth c D vwCl zKK dA A (ad, S) 5 S1 0 0 (vx_MQ below (zQc D vwCl zKK dA A ad S (fun v S' => v = some (.int (sLog b (nI t) (nI k)).2) ∧ S'.2.1 1000 27 = nI (sLog b (nI t) (nI k)).1 ∧ zMdA S' b ∧ zch oM S S')) (zXC D vwCl zKK dA A ad S (fun _ _ => False)) args s 0 0 A) 132 [(4, .int (nI o)), (3, .int (nI (zcnt (fun o => ((b.2.1 t).2.2 o).isSome) o 0))), (0, .ref 1000), (1, .int (nI t)), (2, .int (nI k))] [] := by
                        intro f
                        induction f with
                        | zero => intro o h0; omega
                        | succ f ih =>
                        intro o h0 ho2
                        have hzl := zcnt_le (p := fun o => ((b.2.1 t).2.2 o).isSome) (k := o) (o := 0)
                        refine z_iload (j := 0) X dM_log_132 rfl ?_
                        refine z_bipush (v := (nI 60)) X dM_log_134 (by decide) ?_
                        refine z_icmp_geN (tgt := 163) X dM_log_136 (by decide) (by omega) (by omega) (fun c_136 => ?_) (fun c_136 => ?_)
                        · refine z_iload_n (j := 1) X dM_log_163 rfl rfl ?_
                          refine z_iret X hlocks hr dM_log_164 (by omega) (by omega) ?_
                          have e9 : o = 60 := by omega
                          subst e9
                          have e8 : k = 3 := by omega
                          subst e8
                          have hs : sLog b (nI t) (nI 3) = (0, (nI (zcnt (fun o => ((b.2.1 t).2.2 o).isSome) 60 0))) := by rw [sLog_v ht (by decide), sLogV_3]; rfl
                          rw [hs]
                          exact ⟨rfl, h27, hA1, hc1⟩
                        · have hlo := (hA1.2.2.2.1 t ht12).2.2 o (by omega)
                          rcases he : (b.2.1 t).2.2 o with _ | r <;> rw [he] at hlo
                          · refine z_aload_n (j := 2) X dM_log_139 rfl rfl ?_
                            refine z_getr (C := RM) (T := TM) (N := 28) (k := 6) X (w_in inM) rfl rfl rfl (by decide) (w_m lM_29) rfl rfl (hA1.1.2 6 (by decide)) dM_log_140 ?_
                            refine z_iload_n (j := 3) X dM_log_143 rfl rfl ?_
                            refine z_bipush (v := (nI 60)) X dM_log_144 (by decide) ?_
                            refine z_imul X dM_log_146 ?_
                            refine z_top (pk_mul t 60) ?_
                            refine z_iload (j := 0) X dM_log_147 rfl ?_
                            refine z_iadd X dM_log_149 ?_
                            refine z_top (nI_add (t * 60) o) ?_
                            refine z_iald (t0 := 0) X rfl rfl (by omega) (by decide) dM_log_150 (hv := hlo) ?_
                            refine z_if_lt (tgt := 157) X dM_log_151 (by decide) (fun c_151 => ?_) (fun c_151 => absurd c_151 (by decide))
                            refine z_iinc (j := 0) (v := (nI (o + 1))) (L' := [(4, .int (nI (o + 1))), (3, .int (nI (zcnt (fun o => ((b.2.1 t).2.2 o).isSome) o 0))), (0, .ref 1000), (1, .int (nI t)), (2, .int (nI k))]) X dM_log_157 rfl (nI_1 o) (by decide) rfl ?_
                            refine z_goto (tgt := 132) X dM_log_160 (by decide) ?_
                            refine z_loc [0, 1, 2, 3, 4] rfl ?_
                            rw [show (zcnt (fun o => ((b.2.1 t).2.2 o).isSome) o 0) = zcnt (fun o => ((b.2.1 t).2.2 o).isSome) (o + 1) 0 by rw [zcnt_step, he]; rfl]
                            exact ih (o + 1) (by omega) (by omega)
                          · refine z_aload_n (j := 2) X dM_log_139 rfl rfl ?_
                            refine z_getr (C := RM) (T := TM) (N := 28) (k := 6) X (w_in inM) rfl rfl rfl (by decide) (w_m lM_29) rfl rfl (hA1.1.2 6 (by decide)) dM_log_140 ?_
                            refine z_iload_n (j := 3) X dM_log_143 rfl rfl ?_
                            refine z_bipush (v := (nI 60)) X dM_log_144 (by decide) ?_
                            refine z_imul X dM_log_146 ?_
                            refine z_top (pk_mul t 60) ?_
                            refine z_iload (j := 0) X dM_log_147 rfl ?_
                            refine z_iadd X dM_log_149 ?_
                            refine z_top (nI_add (t * 60) o) ?_
                            refine z_iald (t0 := 0) X rfl rfl (by omega) (by decide) dM_log_150 (hv := hlo.1) ?_
                            refine z_if_lt (tgt := 157) X dM_log_151 (by decide) (fun c_151 => absurd c_151 (zEW_k0 (hVg o r he))) (fun c_151 => ?_)
                            refine z_iinc (j := 1) (v := (nI (zcnt (fun o => ((b.2.1 t).2.2 o).isSome) o 0 + 1))) (L' := [(3, .int (nI (zcnt (fun o => ((b.2.1 t).2.2 o).isSome) o 0 + 1))), (4, .int (nI o)), (0, .ref 1000), (1, .int (nI t)), (2, .int (nI k))]) X dM_log_154 rfl (nI_1 (zcnt (fun o => ((b.2.1 t).2.2 o).isSome) o 0)) (by decide) rfl ?_
                            refine z_iinc (j := 1) (v := (nI (o + 1))) (L' := [(4, .int (nI (o + 1))), (3, .int (nI (zcnt (fun o => ((b.2.1 t).2.2 o).isSome) o 0 + 1))), (0, .ref 1000), (1, .int (nI t)), (2, .int (nI k))]) X dM_log_157 rfl (nI_1 o) (by decide) rfl ?_
                            refine z_goto (tgt := 132) X dM_log_160 (by decide) ?_
                            refine z_loc [0, 1, 2, 3, 4] rfl ?_
                            rw [show (zcnt (fun o => ((b.2.1 t).2.2 o).isSome) o 0) + 1 = zcnt (fun o => ((b.2.1 t).2.2 o).isSome) (o + 1) 0 by rw [zcnt_step, he]; rfl]
                            exact ih (o + 1) (by omega) (by omega)
                      refine z_loc [0, 1, 2, 3, 4] rfl ?_
                      exact loop 61 0 (by omega) (by omega)
                    · rcases (show k = 7 ∨ k = 8 by omega) with e7 | e7 <;> subst e7
                      · refine z_aload_n (j := 0) X dM_log_112 rfl rfl ?_
                        refine z_getr (C := RM) (T := TM) (N := 28) (k := 21) X (w_in inM) rfl rfl rfl (by decide) (w_m lM_74) rfl rfl (hA1.1.2 21 (by decide)) dM_log_113 ?_
                        refine z_iload_n (j := 2) X dM_log_116 rfl rfl ?_
                        refine z_bipush (v := (nI 7)) X dM_log_117 (by decide) ?_
                        refine z_isub X dM_log_119 ?_
                        refine z_top (pk_sub (a := 7) (b := 7) (by omega)) ?_
                        refine z_bipush (v := (nI 12)) X dM_log_120 (by decide) ?_
                        refine z_imul X dM_log_122 ?_
                        refine z_top (pk_mul (7 - 7) 12) ?_
                        refine z_iload_n (j := 1) X dM_log_123 rfl rfl ?_
                        refine z_iadd X dM_log_124 ?_
                        refine z_top (nI_add ((7 - 7) * 12) t) ?_
                        refine z_iald (t0 := 0) X rfl rfl (by omega) (by decide) dM_log_125 (hv := ((hA1.2.2.2.2.2.2 0 (by decide)).2.2.2 t ht12)) ?_
                        refine z_iret X hlocks hr dM_log_126 (by omega) (by omega) ?_
                        have hs : sLog b (nI t) (nI 7) = (0, (nI ((b.2.2.2.2.2.1 0).2.2.2.2 t))) := by rw [sLog_v ht (by decide), sLogV_7]
                        rw [hs]
                        exact ⟨rfl, h27, hA1, hc1⟩
                      · refine z_aload_n (j := 0) X dM_log_112 rfl rfl ?_
                        refine z_getr (C := RM) (T := TM) (N := 28) (k := 21) X (w_in inM) rfl rfl rfl (by decide) (w_m lM_74) rfl rfl (hA1.1.2 21 (by decide)) dM_log_113 ?_
                        refine z_iload_n (j := 2) X dM_log_116 rfl rfl ?_
                        refine z_bipush (v := (nI 7)) X dM_log_117 (by decide) ?_
                        refine z_isub X dM_log_119 ?_
                        refine z_top (pk_sub (a := 8) (b := 7) (by omega)) ?_
                        refine z_bipush (v := (nI 12)) X dM_log_120 (by decide) ?_
                        refine z_imul X dM_log_122 ?_
                        refine z_top (pk_mul (8 - 7) 12) ?_
                        refine z_iload_n (j := 1) X dM_log_123 rfl rfl ?_
                        refine z_iadd X dM_log_124 ?_
                        refine z_top (nI_add ((8 - 7) * 12) t) ?_
                        refine z_iald (t0 := 0) X rfl rfl (by omega) (by decide) dM_log_125 (hv := ((hA1.2.2.2.2.2.2 1 (by decide)).2.2.2 t ht12)) ?_
                        refine z_iret X hlocks hr dM_log_126 (by omega) (by omega) ?_
                        have hs : sLog b (nI t) (nI 8) = (0, (nI ((b.2.2.2.2.2.1 1).2.2.2.2 t))) := by rw [sLog_v ht (by decide), sLogV_8]
                        rw [hs]
                        exact ⟨rfl, h27, hA1, hc1⟩
                  · subst c_89
                    refine z_aload_n (j := 0) X dM_log_92 rfl rfl ?_
                    refine z_getr (C := RM) (T := TM) (N := 28) (k := 20) X (w_in inM) rfl rfl rfl (by decide) (w_m lM_71) rfl rfl (hA1.1.2 20 (by decide)) dM_log_93 ?_
                    refine z_iload_n (j := 2) X dM_log_96 rfl rfl ?_
                    refine z_iconst (v := (nI 5)) X dM_log_97 (by decide) ?_
                    refine z_isub X dM_log_98 ?_
                    refine z_top (pk_sub (a := 6) (b := 5) (by omega)) ?_
                    refine z_bipush (v := (nI 12)) X dM_log_99 (by decide) ?_
                    refine z_imul X dM_log_101 ?_
                    refine z_top (pk_mul (6 - 5) 12) ?_
                    refine z_iload_n (j := 1) X dM_log_102 rfl rfl ?_
                    refine z_iadd X dM_log_103 ?_
                    refine z_top (nI_add ((6 - 5) * 12) t) ?_
                    refine z_iald (t0 := 0) X rfl rfl (by omega) (by decide) dM_log_104 (hv := ((hA1.2.2.2.2.2.2 1 (by decide)).2.2.1 t ht12)) ?_
                    refine z_iret X hlocks hr dM_log_105 (by omega) (by omega) ?_
                    have hs : sLog b (nI t) (nI 6) = (0, (nI ((b.2.2.2.2.2.1 1).2.2.2.1 t))) := by rw [sLog_v ht (by decide), sLogV_6]
                    rw [hs]
                    exact ⟨rfl, h27, hA1, hc1⟩
              · refine z_aload_n (j := 0) X dM_log_75 rfl rfl ?_
                refine z_iload_n (j := 1) X dM_log_76 rfl rfl ?_
                refine z_callV (n := 1) (As := [.int (nI t)]) (rest := []) X zG0_m (mM_closed l D dA ht12 hA1.1 (hA1.2.2.2.1 t ht12) hWg hVg (hA1.2.2.1.2 t ht).1) (w_V X.2.2.2.2.1 lM_85 jM_closed sM_closed i_LogBrokerModel kM_closed rfl rfl (by decide +kernel) ⟨Nat.le_of_ble_eq_true rfl, Nat.le_of_ble_eq_true rfl⟩) rfl rfl rfl rfl rfl (Nat.le_of_ble_eq_true rfl) dM_log_77 ⟨Nat.le_of_ble_eq_true rfl, Nat.le_of_ble_eq_true rfl⟩ (fun v S9 hp => ?_) (fun E S1 hx => hx.elim)
                obtain ⟨hS9, hp⟩ := hp
                have hS9 := hS9.symm
                subst hS9
                subst hp
                refine z_iret X hlocks hr dM_log_80 (by omega) (by omega) ?_
                have e8 : k = 4 := by omega
                subst e8
                have hs : sLog b (nI t) (nI 4) = (0, (nI (zCl (b.2.1 t)))) := by rw [sLog_v ht (by decide), sLogV_4]
                rw [hs]
                exact ⟨rfl, h27, hA1, hc1⟩
            · refine z_aload_n (j := 0) X dM_log_64 rfl rfl ?_
              refine z_iload_n (j := 1) X dM_log_65 rfl rfl ?_
              refine z_callV (n := 1) (As := [.int (nI t)]) (rest := []) X zG0_m (mM_stable l D dA ht12 hA1.1 (hA1.2.2.2.1 t ht12) hWg hVg) (w_V X.2.2.2.2.1 lM_88 jM_stable sM_stable i_LogBrokerModel kM_stable rfl rfl (by decide +kernel) ⟨Nat.le_of_ble_eq_true rfl, Nat.le_of_ble_eq_true rfl⟩) rfl rfl rfl rfl rfl (Nat.le_of_ble_eq_true rfl) dM_log_66 ⟨Nat.le_of_ble_eq_true rfl, Nat.le_of_ble_eq_true rfl⟩ (fun v S9 hp => ?_) (fun E S1 hx => hx.elim)
              obtain ⟨hS9, hp⟩ := hp
              have hS9 := hS9.symm
              subst hS9
              subst hp
              refine z_iret X hlocks hr dM_log_69 (by omega) (by omega) ?_
              have e8 : k = 2 := by omega
              subst e8
              have hs : sLog b (nI t) (nI 2) = (0, (nI (zStab (b.2.1 t)))) := by rw [sLog_v ht (by decide), sLogV_2]
              rw [hs]
              exact ⟨rfl, h27, hA1, hc1⟩
          · refine z_aload_n (j := 0) X dM_log_52 rfl rfl ?_
            refine z_getr (C := RM) (T := TM) (N := 28) (k := 5) X (w_in inM) rfl rfl rfl (by decide) (w_m lM_26) rfl rfl (hA1.1.2 5 (by decide)) dM_log_53 ?_
            refine z_iload_n (j := 1) X dM_log_56 rfl rfl ?_
            refine z_iald (t0 := 0) X rfl rfl (by omega) (by decide) dM_log_57 (hv := (hA1.2.2.2.1 t ht12).2.1) ?_
            refine z_iret X hlocks hr dM_log_58 (by omega) (by omega) ?_
            have e8 : k = 1 := by omega
            subst e8
            have hs : sLog b (nI t) (nI 1) = (0, (nI ((b.2.1 t).2.1.2))) := by rw [sLog_v ht (by decide), sLogV_1]
            rw [hs]
            exact ⟨rfl, h27, hA1, hc1⟩
        · have h37 : k = 0 := Classical.byContradiction fun h => nI_ne0 (by omega) (by omega) c_37
          refine z_aload_n (j := 0) X dM_log_40 rfl rfl ?_
          refine z_getr (C := RM) (T := TM) (N := 28) (k := 4) X (w_in inM) rfl rfl rfl (by decide) (w_m lM_23) rfl rfl (hA1.1.2 4 (by decide)) dM_log_41 ?_
          refine z_iload_n (j := 1) X dM_log_44 rfl rfl ?_
          refine z_iald (t0 := 0) X rfl rfl (by omega) (by decide) dM_log_45 (hv := (hA1.2.2.2.1 t ht12).1) ?_
          refine z_iret X hlocks hr dM_log_46 (by omega) (by omega) ?_
          have e8 : k = 0 := by omega
          subst e8
          have hs : sLog b (nI t) (nI 0) = (0, (nI ((b.2.1 t).2.1.1))) := by rw [sLog_v ht (by decide), sLogV_0]
          rw [hs]
          exact ⟨rfl, h27, hA1, hc1⟩
      · refine z_iconst (v := (nI 1)) X dM_log_19 (by decide) ?_
        refine z_goto (tgt := 24) X dM_log_20 (by decide) ?_
        refine z_puti (C := RM) (T := TM) (N := 28) (k := 27) X (w_in inM) rfl rfl rfl (by decide) (w_m lM_77) rfl tyM tyM_ok nmM rfl rfl (ty := .int) (by decide +kernel) rfl rfl dM_log_24 ?_
        refine z_aload_n (j := 0) X dM_log_27 rfl rfl ?_
        refine z_geti (C := RM) (T := TM) (N := 28) (k := 27) X (w_in inM) rfl rfl rfl (by decide) (w_m lM_77) rfl rfl dM_log_28 (hv := rd_s) ?_
        refine z_if_eq (tgt := 36) X dM_log_31 (by decide) (fun c_31 => absurd c_31 (by decide)) (fun c_31 => ?_)
        refine z_iconst (v := (nI 0)) X dM_log_34 (by decide) ?_
        refine z_iret X hlocks hr dM_log_35 (by omega) (by omega) ?_
        have hs : sLog b (nI t) y = (1, 0) := by
          unfold sLog
          first | rw [zT_n hbL] | (rw [zT_s ht]; exact zA_n (by first | exact Or.inl (by rw [nI_0]; exact c_10) | exact Or.inr (Int32.not_le.mp c_16)))
        rw [hs]
        exact ⟨congrArg (fun z => some (Value.int z)) nI_0, rd_s, (zMdA_th hA), (zch.rf.tr (zch.i ⟨by omega, by omega⟩))⟩

set_option maxHeartbeats 600000 in
set_option maxRecDepth 100000 in
theorem mM_count (l : Launch) (D : va_G) (dA : Nat → ClassId) {S : zS} {b : zBr} {x : Int32} (hA : zMdA S b) (hI : zInv b) : zMet l D vwCl zKK dA (zG0 D dA) yM_count (Cond.code yM_count cM_count 4 (some .int) :: zTs) { frames := 0, cells := 0, slots := 0, locals := 0 } 0 0 [.ref 1000, .int x] S (fun v S' => v = some (.int (sCount b x)) ∧ S'.2.1 1000 27 = nI 0 ∧ zMdA S' b ∧ zch oM S S') (fun _ _ => False) := by
  refine z_met (tys := ztys dA) (by decide) rfl zG0_K rfl (Nat.le_of_ble_eq_true rfl) (fun p e s m args below meth c A ad X hr hlocks hin hex => ?_)
  refine z_aload_n (j := 0) X dM_count_0 rfl rfl ?_
  refine z_iconst (v := (nI 0)) X dM_count_1 (by decide) ?_
  refine z_puti (C := RM) (T := TM) (N := 28) (k := 27) X (w_in inM) rfl rfl rfl (by decide) (w_m lM_77) rfl tyM tyM_ok nmM rfl rfl (ty := .int) (by decide +kernel) rfl rfl dM_count_2 ?_
  generalize hS1 : zsi S 1000 27 (nI 0) = S1
  have hA1 : zMdA S1 b := by rw [← hS1]; exact zMdA_th hA
  have h27 : S1.2.1 1000 27 = nI 0 := by rw [← hS1]; exact rd_s
  have hc1 : zch oM S S1 := by rw [← hS1]; exact zch.i ⟨by decide, by decide⟩
  refine z_iload_n (j := 1) X dM_count_5 rfl rfl ?_
  refine z_if_ne (tgt := 14) X dM_count_6 (by decide) (fun c_6 => ?_) (fun c_6 => ?_)
  · refine z_iload_n (j := 1) X dM_count_14 rfl rfl ?_
    refine z_iconst (v := (nI 1)) X dM_count_15 (by decide) ?_
    refine z_icmp_ne (tgt := 24) X dM_count_16 (by decide) (fun c_16 => ?_) (fun c_16 => ?_)
    · refine z_iload_n (j := 1) X dM_count_24 rfl rfl ?_
      refine z_iconst (v := (nI 2)) X dM_count_25 (by decide) ?_
      refine z_icmp_ne (tgt := 34) X dM_count_26 (by decide) (fun c_26 => ?_) (fun c_26 => ?_)
      · refine z_iload_n (j := 1) X dM_count_34 rfl rfl ?_
        refine z_iconst (v := (nI 3)) X dM_count_35 (by decide) ?_
        refine z_icmp_ne (tgt := 44) X dM_count_36 (by decide) (fun c_36 => ?_) (fun c_36 => ?_)
        · refine z_iload_n (j := 1) X dM_count_44 rfl rfl ?_
          refine z_iconst (v := (nI 4)) X dM_count_45 (by decide) ?_
          refine z_icmp_ne (tgt := 54) X dM_count_46 (by decide) (fun c_46 => ?_) (fun c_46 => ?_)
          · refine z_iload_n (j := 1) X dM_count_54 rfl rfl ?_
            refine z_bipush (v := (nI 6)) X dM_count_55 (by decide) ?_
            refine z_icmp_eq (tgt := 66) X dM_count_57 (by decide) (fun c_57 => ?_) (fun c_57 => ?_)
            · subst c_57
              refine z_aload_n (j := 0) X dM_count_66 rfl rfl ?_
              refine z_getr (C := RM) (T := TM) (N := 28) (k := 19) X (w_in inM) rfl rfl rfl (by decide) (w_m lM_68) rfl rfl (hA1.1.2 19 (by decide)) dM_count_67 ?_
              refine z_iload_n (j := 1) X dM_count_70 rfl rfl ?_
              refine z_bipush (v := (nI 6)) X dM_count_71 (by decide) ?_
              refine z_isub X dM_count_73 ?_
              refine z_top (pk_sub (a := 6) (b := 6) (by omega)) ?_
              refine z_iald (t0 := 0) X rfl rfl (by omega) (by decide) dM_count_74 (hv := (hA1.2.2.2.2.2.2 0 (by decide)).1) ?_
              refine z_iret X hlocks hr dM_count_75 (by omega) (by omega) ?_
              exact ⟨rfl, h27, hA1, hc1⟩
            · refine z_iload_n (j := 1) X dM_count_60 rfl rfl ?_
              refine z_bipush (v := (nI 7)) X dM_count_61 (by decide) ?_
              refine z_icmp_ne (tgt := 76) X dM_count_63 (by decide) (fun c_63 => ?_) (fun c_63 => ?_)
              · refine z_iload_n (j := 1) X dM_count_76 rfl rfl ?_
                refine z_iconst (v := (nI 5)) X dM_count_77 (by decide) ?_
                refine z_icmp_eq (tgt := 83) X dM_count_78 (by decide) (fun c_78 => ?_) (fun c_78 => ?_)
                · subst c_78
                  refine z_iconst (v := (nI 0)) X dM_count_83 (by decide) ?_
                  refine z_istore_n (L' := [(2, .int (nI 0)), (0, .ref 1000), (1, .int (nI 5))]) X dM_count_84 rfl (by decide) rfl ?_
                  refine z_iconst (v := (nI 0)) X dM_count_85 (by decide) ?_
                  refine z_istore_n (L' := [(3, .int (nI 0)), (2, .int (nI 0)), (0, .ref 1000), (1, .int (nI 5))]) X dM_count_86 rfl (by decide) rfl ?_
                  have loop : ∀ (f k : Nat), 6 - k < f → k ≤ 6 → AW p l e { frames := 0, cells := 0, slots := 0, locals := 0 } s m args below meth c D vwCl zKK dA A (ad, S) 4 S1 0 0 (vx_MQ below (zQc D vwCl zKK dA A ad S (fun v S' => v = some (.int (sCount b (nI 5))) ∧ S'.2.1 1000 27 = nI 0 ∧ zMdA S' b ∧ zch oM S S')) (zXC D vwCl zKK dA A ad S (fun _ _ => False)) args s 0 0 A) 87 [(3, .int (nI k)), (2, .int (nI (zcnt (fun i => decide ((b.2.2.1 i).2.1 = nI 1)) k 0))), (0, .ref 1000), (1, .int (nI 5))] [] := by
                    intro f
                    induction f with
                    | zero => intro k h0; omega
                    | succ f ih =>
                    intro k h0 ho2
                    have hzl := zcnt_le (p := fun i => decide ((b.2.2.1 i).2.1 = nI 1)) (k := k) (o := 0)
                    refine z_iload_n (j := 0) X dM_count_87 rfl rfl ?_
                    refine z_bipush (v := (nI 6)) X dM_count_88 (by decide) ?_
                    refine z_icmp_geN (tgt := 111) X dM_count_90 (by decide) (by omega) (by omega) (fun c_90 => ?_) (fun c_90 => ?_)
                    · refine z_iload_n (j := 1) X dM_count_111 rfl rfl ?_
                      refine z_iret X hlocks hr dM_count_112 (by omega) (by omega) ?_
                      have e9 : k = 6 := by omega
                      subst e9
                      exact ⟨rfl, h27, hA1, hc1⟩
                    · refine z_aload_n (j := 2) X dM_count_93 rfl rfl ?_
                      refine z_getr (C := RM) (T := TM) (N := 28) (k := 15) X (w_in inM) rfl rfl rfl (by decide) (w_m lM_56) rfl rfl (hA1.1.2 15 (by decide)) dM_count_94 ?_
                      refine z_iload_n (j := 0) X dM_count_97 rfl rfl ?_
                      refine z_zald (t0 := 1) X rfl rfl (by omega) (by decide) dM_count_98 (hv := (hA1.2.2.2.2.1 k (by omega)).2.1) ?_
                      refine z_if_eq (tgt := 105) X dM_count_99 (by decide) (fun c_99 => ?_) (fun c_99 => ?_)
                      · refine z_iinc (j := 0) (v := (nI (k + 1))) (L' := [(3, .int (nI (k + 1))), (2, .int (nI (zcnt (fun i => decide ((b.2.2.1 i).2.1 = nI 1)) k 0))), (0, .ref 1000), (1, .int (nI 5))]) X dM_count_105 rfl (nI_1 k) (by decide) rfl ?_
                        refine z_goto (tgt := 87) X dM_count_108 (by decide) ?_
                        refine z_loc [0, 1, 2, 3] rfl ?_
                        rw [show (zcnt (fun i => decide ((b.2.2.1 i).2.1 = nI 1)) k 0) = zcnt (fun i => decide ((b.2.2.1 i).2.1 = nI 1)) (k + 1) 0 by rw [zcnt_step, if_neg (fun h => absurd ((of_decide_eq_true h).symm.trans (c_99.trans nI_0.symm)) (by decide))]; rfl]
                        exact ih (k + 1) (by omega) (by omega)
                      · refine z_iinc (j := 1) (v := (nI (zcnt (fun i => decide ((b.2.2.1 i).2.1 = nI 1)) k 0 + 1))) (L' := [(2, .int (nI (zcnt (fun i => decide ((b.2.2.1 i).2.1 = nI 1)) k 0 + 1))), (3, .int (nI k)), (0, .ref 1000), (1, .int (nI 5))]) X dM_count_102 rfl (nI_1 (zcnt (fun i => decide ((b.2.2.1 i).2.1 = nI 1)) k 0)) (by decide) rfl ?_
                        refine z_iinc (j := 1) (v := (nI (k + 1))) (L' := [(3, .int (nI (k + 1))), (2, .int (nI (zcnt (fun i => decide ((b.2.2.1 i).2.1 = nI 1)) k 0 + 1))), (0, .ref 1000), (1, .int (nI 5))]) X dM_count_105 rfl (nI_1 k) (by decide) rfl ?_
                        refine z_goto (tgt := 87) X dM_count_108 (by decide) ?_
                        refine z_loc [0, 1, 2, 3] rfl ?_
                        rw [show (zcnt (fun i => decide ((b.2.2.1 i).2.1 = nI 1)) k 0) + 1 = zcnt (fun i => decide ((b.2.2.1 i).2.1 = nI 1)) (k + 1) 0 by rw [zcnt_step, if_pos (decide_eq_true ((hI.1.2.2.2.1 k (by omega)).2.resolve_left (fun h => c_99 (h.trans nI_0))))]]
                        exact ih (k + 1) (by omega) (by omega)
                  refine z_loc [0, 1, 2, 3] rfl ?_
                  exact loop 7 0 (by omega) (by omega)
                · refine z_iconst (v := (-1)) X dM_count_81 (by decide) ?_
                  refine z_iret X hlocks hr dM_count_82 (by omega) (by omega) ?_
                  exact ⟨by unfold sCount; rw [if_neg (fun h => c_6 (h.trans nI_0)), if_neg c_16, if_neg c_26, if_neg c_36, if_neg c_46, if_neg c_78, if_neg c_57, if_neg c_63], h27, hA1, hc1⟩
              · subst c_63
                refine z_aload_n (j := 0) X dM_count_66 rfl rfl ?_
                refine z_getr (C := RM) (T := TM) (N := 28) (k := 19) X (w_in inM) rfl rfl rfl (by decide) (w_m lM_68) rfl rfl (hA1.1.2 19 (by decide)) dM_count_67 ?_
                refine z_iload_n (j := 1) X dM_count_70 rfl rfl ?_
                refine z_bipush (v := (nI 6)) X dM_count_71 (by decide) ?_
                refine z_isub X dM_count_73 ?_
                refine z_top (pk_sub (a := 7) (b := 6) (by omega)) ?_
                refine z_iald (t0 := 0) X rfl rfl (by omega) (by decide) dM_count_74 (hv := (hA1.2.2.2.2.2.2 1 (by decide)).1) ?_
                refine z_iret X hlocks hr dM_count_75 (by omega) (by omega) ?_
                exact ⟨rfl, h27, hA1, hc1⟩
          · refine z_aload_n (j := 0) X dM_count_49 rfl rfl ?_
            refine z_geti (C := RM) (T := TM) (N := 28) (k := 26) X (w_in inM) rfl rfl rfl (by decide) (w_m lM_140) rfl rfl dM_count_50 (hv := hA1.2.1.2.2.2.2) ?_
            refine z_iret X hlocks hr dM_count_53 (by omega) (by omega) ?_
            exact ⟨by unfold sCount; rw [if_neg (fun h => c_6 (h.trans nI_0)), if_neg c_16, if_neg c_26, if_neg c_36, if_pos c_46], h27, hA1, hc1⟩
        · refine z_aload_n (j := 0) X dM_count_39 rfl rfl ?_
          refine z_geti (C := RM) (T := TM) (N := 28) (k := 25) X (w_in inM) rfl rfl rfl (by decide) (w_m lM_91) rfl rfl dM_count_40 (hv := hA1.2.1.2.2.2.1) ?_
          refine z_iret X hlocks hr dM_count_43 (by omega) (by omega) ?_
          exact ⟨by unfold sCount; rw [if_neg (fun h => c_6 (h.trans nI_0)), if_neg c_16, if_neg c_26, if_pos c_36], h27, hA1, hc1⟩
      · refine z_aload_n (j := 0) X dM_count_29 rfl rfl ?_
        refine z_geti (C := RM) (T := TM) (N := 28) (k := 24) X (w_in inM) rfl rfl rfl (by decide) (w_m lM_109) rfl rfl dM_count_30 (hv := hA1.2.1.2.2.1) ?_
        refine z_iret X hlocks hr dM_count_33 (by omega) (by omega) ?_
        exact ⟨by unfold sCount; rw [if_neg (fun h => c_6 (h.trans nI_0)), if_neg c_16, if_pos c_26], h27, hA1, hc1⟩
    · refine z_aload_n (j := 0) X dM_count_19 rfl rfl ?_
      refine z_geti (C := RM) (T := TM) (N := 28) (k := 23) X (w_in inM) rfl rfl rfl (by decide) (w_m lM_129) rfl rfl dM_count_20 (hv := hA1.2.1.2.1) ?_
      refine z_iret X hlocks hr dM_count_23 (by omega) (by omega) ?_
      exact ⟨by unfold sCount; rw [if_neg (fun h => c_6 (h.trans nI_0)), if_pos c_16], h27, hA1, hc1⟩
  · refine z_aload_n (j := 0) X dM_count_9 rfl rfl ?_
    refine z_geti (C := RM) (T := TM) (N := 28) (k := 22) X (w_in inM) rfl rfl rfl (by decide) (w_m lM_94) rfl rfl dM_count_10 (hv := hA1.2.1.1) ?_
    refine z_iret X hlocks hr dM_count_13 (by omega) (by omega) ?_
    exact ⟨by unfold sCount; rw [if_pos (c_6.trans nI_0.symm)], h27, hA1, hc1⟩

set_option maxHeartbeats 600000 in
set_option maxRecDepth 100000 in
theorem mM_topic (l : Launch) (D : va_G) (dA : Nat → ClassId) {S : zS} {b : zBr} {x n z k c9 : Int32} (hA : zMdA S b) (hI : zInv b) (hc01 : c9 = nI 0 ∨ c9 = nI 1) : zMet l D vwCl zKK dA (zG0 D dA) yM_topic (Cond.code yM_topic cM_topic 7 none :: zTs) { frames := 0, cells := 0, slots := 0, locals := 0 } 0 0 [.ref 1000, .int x, .int n, .int z, .int k, .int c9] S (fun v S' => v = none ∧ S'.2.1 1000 27 = nI (sTopic b x n z k c9).1.1 ∧ zMdA S' (sTopic b x n z k c9).2 ∧ zch oM S S') (fun _ _ => False) := by
  refine z_met (tys := ztys dA) (by decide) rfl zG0_K rfl (Nat.le_of_ble_eq_true rfl) (fun p e s m args below meth c A ad X hr hlocks hin hex => ?_)
  refine z_iload_n (j := 1) X dM_topic_0 rfl rfl ?_
  refine z_if_lt (tgt := 41) X dM_topic_1 (by decide) (fun c_1 => ?_) (fun c_1 => ?_)
  · refine z_iconst (v := (nI 1)) X dM_topic_41 (by decide) ?_
    refine z_goto (tgt := 46) X dM_topic_42 (by decide) ?_
    refine z_istore (L' := [(6, .int (nI 1)), (0, .ref 1000), (1, .int x), (2, .int n), (3, .int z), (4, .int k), (5, .int c9)]) X dM_topic_46 (by decide) rfl ?_
    refine z_aload_n (j := 1) X dM_topic_48 rfl rfl ?_
    refine z_iload (j := 0) X dM_topic_49 rfl ?_
    refine z_if_eq (tgt := 58) X dM_topic_51 (by decide) (fun c_51 => absurd c_51 (by decide)) (fun c_51 => ?_)
    refine z_iconst (v := (nI 1)) X dM_topic_54 (by decide) ?_
    refine z_goto (tgt := 72) X dM_topic_55 (by decide) ?_
    refine z_puti (C := RM) (T := TM) (N := 28) (k := 27) X (w_in inM) rfl rfl rfl (by decide) (w_m lM_77) rfl tyM tyM_ok nmM rfl rfl (ty := .int) (by decide +kernel) rfl rfl dM_topic_72 ?_
    refine z_aload_n (j := 1) X dM_topic_75 rfl rfl ?_
    refine z_geti (C := RM) (T := TM) (N := 28) (k := 27) X (w_in inM) rfl rfl rfl (by decide) (w_m lM_77) rfl rfl dM_topic_76 (hv := rd_s) ?_
    refine z_if_eq (tgt := 83) X dM_topic_79 (by decide) (fun c_79 => absurd c_79 (by decide)) (fun c_79 => ?_)
    refine z_vret X hlocks hr dM_topic_82 (by omega) (by omega) ?_
    have hs : sTopic b x n z k c9 = ((1, 0), b) := by
      unfold sTopic
      first | exact zR_n (by first | exact Or.inl (by rw [nI_0]; exact c_1) | exact Or.inr c_6) | (obtain ⟨t, hx9, -, ht⟩ := zIn (y := x) (st := 0) (en := 2) (by decide) (by decide) (fun h => c_1 (by rw [← nI_0]; exact h)) (Int32.not_lt.mp c_6); rw [hx9, zR_s (Nat.zero_le _) ht (by decide)]; exact zR_n (by first | exact Or.inl c_11 | exact Or.inr c_16)) | (obtain ⟨t, hx9, -, ht⟩ := zIn (y := x) (st := 0) (en := 2) (by decide) (by decide) (fun h => c_1 (by rw [← nI_0]; exact h)) (Int32.not_lt.mp c_6); obtain ⟨n9, hx8, hn1, hn2⟩ := zIn (y := n) (st := 1) (en := 3) (by decide) (by decide) c_11 (Int32.not_lt.mp c_16); rw [hx9, hx8, zR_s (Nat.zero_le _) ht (by decide), zR_s hn1 hn2 (by decide)]; exact zR_n (by first | exact Or.inl c_21 | exact Or.inr c_26)) | (obtain ⟨t, hx9, -, ht⟩ := zIn (y := x) (st := 0) (en := 2) (by decide) (by decide) (fun h => c_1 (by rw [← nI_0]; exact h)) (Int32.not_lt.mp c_6); obtain ⟨n9, hx8, hn1, hn2⟩ := zIn (y := n) (st := 1) (en := 3) (by decide) (by decide) c_11 (Int32.not_lt.mp c_16); obtain ⟨z9, hx7, hz1, hz2⟩ := zIn (y := z) (st := 1) (en := 4) (by decide) (by decide) c_21 (Int32.not_lt.mp c_26); rw [hx9, hx8, hx7, zR_s (Nat.zero_le _) ht (by decide), zR_s hn1 hn2 (by decide), zR_s hz1 hz2 (by decide)]; exact zR_n (by first | exact Or.inl c_32 | exact Or.inr (Int32.not_le.mp c_38)))
    rw [hs]
    exact ⟨rfl, rd_s, (zMdA_th hA), (zch.rf.tr (zch.i ⟨by omega, by omega⟩))⟩
  · refine z_iload_n (j := 1) X dM_topic_4 rfl rfl ?_
    refine z_iconst (v := (nI 2)) X dM_topic_5 (by decide) ?_
    refine z_icmp_gt (tgt := 41) X dM_topic_6 (by decide) (fun c_6 => ?_) (fun c_6 => ?_)
    · refine z_iconst (v := (nI 1)) X dM_topic_41 (by decide) ?_
      refine z_goto (tgt := 46) X dM_topic_42 (by decide) ?_
      refine z_istore (L' := [(6, .int (nI 1)), (0, .ref 1000), (1, .int x), (2, .int n), (3, .int z), (4, .int k), (5, .int c9)]) X dM_topic_46 (by decide) rfl ?_
      refine z_aload_n (j := 1) X dM_topic_48 rfl rfl ?_
      refine z_iload (j := 0) X dM_topic_49 rfl ?_
      refine z_if_eq (tgt := 58) X dM_topic_51 (by decide) (fun c_51 => absurd c_51 (by decide)) (fun c_51 => ?_)
      refine z_iconst (v := (nI 1)) X dM_topic_54 (by decide) ?_
      refine z_goto (tgt := 72) X dM_topic_55 (by decide) ?_
      refine z_puti (C := RM) (T := TM) (N := 28) (k := 27) X (w_in inM) rfl rfl rfl (by decide) (w_m lM_77) rfl tyM tyM_ok nmM rfl rfl (ty := .int) (by decide +kernel) rfl rfl dM_topic_72 ?_
      refine z_aload_n (j := 1) X dM_topic_75 rfl rfl ?_
      refine z_geti (C := RM) (T := TM) (N := 28) (k := 27) X (w_in inM) rfl rfl rfl (by decide) (w_m lM_77) rfl rfl dM_topic_76 (hv := rd_s) ?_
      refine z_if_eq (tgt := 83) X dM_topic_79 (by decide) (fun c_79 => absurd c_79 (by decide)) (fun c_79 => ?_)
      refine z_vret X hlocks hr dM_topic_82 (by omega) (by omega) ?_
      have hs : sTopic b x n z k c9 = ((1, 0), b) := by
        unfold sTopic
        first | exact zR_n (by first | exact Or.inl (by rw [nI_0]; exact c_1) | exact Or.inr c_6) | (obtain ⟨t, hx9, -, ht⟩ := zIn (y := x) (st := 0) (en := 2) (by decide) (by decide) (fun h => c_1 (by rw [← nI_0]; exact h)) (Int32.not_lt.mp c_6); rw [hx9, zR_s (Nat.zero_le _) ht (by decide)]; exact zR_n (by first | exact Or.inl c_11 | exact Or.inr c_16)) | (obtain ⟨t, hx9, -, ht⟩ := zIn (y := x) (st := 0) (en := 2) (by decide) (by decide) (fun h => c_1 (by rw [← nI_0]; exact h)) (Int32.not_lt.mp c_6); obtain ⟨n9, hx8, hn1, hn2⟩ := zIn (y := n) (st := 1) (en := 3) (by decide) (by decide) c_11 (Int32.not_lt.mp c_16); rw [hx9, hx8, zR_s (Nat.zero_le _) ht (by decide), zR_s hn1 hn2 (by decide)]; exact zR_n (by first | exact Or.inl c_21 | exact Or.inr c_26)) | (obtain ⟨t, hx9, -, ht⟩ := zIn (y := x) (st := 0) (en := 2) (by decide) (by decide) (fun h => c_1 (by rw [← nI_0]; exact h)) (Int32.not_lt.mp c_6); obtain ⟨n9, hx8, hn1, hn2⟩ := zIn (y := n) (st := 1) (en := 3) (by decide) (by decide) c_11 (Int32.not_lt.mp c_16); obtain ⟨z9, hx7, hz1, hz2⟩ := zIn (y := z) (st := 1) (en := 4) (by decide) (by decide) c_21 (Int32.not_lt.mp c_26); rw [hx9, hx8, hx7, zR_s (Nat.zero_le _) ht (by decide), zR_s hn1 hn2 (by decide), zR_s hz1 hz2 (by decide)]; exact zR_n (by first | exact Or.inl c_32 | exact Or.inr (Int32.not_le.mp c_38)))
      rw [hs]
      exact ⟨rfl, rd_s, (zMdA_th hA), (zch.rf.tr (zch.i ⟨by omega, by omega⟩))⟩
    · refine z_iload_n (j := 2) X dM_topic_9 rfl rfl ?_
      refine z_iconst (v := (nI 1)) X dM_topic_10 (by decide) ?_
      refine z_icmp_lt (tgt := 41) X dM_topic_11 (by decide) (fun c_11 => ?_) (fun c_11 => ?_)
      · refine z_iconst (v := (nI 1)) X dM_topic_41 (by decide) ?_
        refine z_goto (tgt := 46) X dM_topic_42 (by decide) ?_
        refine z_istore (L' := [(6, .int (nI 1)), (0, .ref 1000), (1, .int x), (2, .int n), (3, .int z), (4, .int k), (5, .int c9)]) X dM_topic_46 (by decide) rfl ?_
        refine z_aload_n (j := 1) X dM_topic_48 rfl rfl ?_
        refine z_iload (j := 0) X dM_topic_49 rfl ?_
        refine z_if_eq (tgt := 58) X dM_topic_51 (by decide) (fun c_51 => absurd c_51 (by decide)) (fun c_51 => ?_)
        refine z_iconst (v := (nI 1)) X dM_topic_54 (by decide) ?_
        refine z_goto (tgt := 72) X dM_topic_55 (by decide) ?_
        refine z_puti (C := RM) (T := TM) (N := 28) (k := 27) X (w_in inM) rfl rfl rfl (by decide) (w_m lM_77) rfl tyM tyM_ok nmM rfl rfl (ty := .int) (by decide +kernel) rfl rfl dM_topic_72 ?_
        refine z_aload_n (j := 1) X dM_topic_75 rfl rfl ?_
        refine z_geti (C := RM) (T := TM) (N := 28) (k := 27) X (w_in inM) rfl rfl rfl (by decide) (w_m lM_77) rfl rfl dM_topic_76 (hv := rd_s) ?_
        refine z_if_eq (tgt := 83) X dM_topic_79 (by decide) (fun c_79 => absurd c_79 (by decide)) (fun c_79 => ?_)
        refine z_vret X hlocks hr dM_topic_82 (by omega) (by omega) ?_
        have hs : sTopic b x n z k c9 = ((1, 0), b) := by
          unfold sTopic
          first | exact zR_n (by first | exact Or.inl (by rw [nI_0]; exact c_1) | exact Or.inr c_6) | (obtain ⟨t, hx9, -, ht⟩ := zIn (y := x) (st := 0) (en := 2) (by decide) (by decide) (fun h => c_1 (by rw [← nI_0]; exact h)) (Int32.not_lt.mp c_6); rw [hx9, zR_s (Nat.zero_le _) ht (by decide)]; exact zR_n (by first | exact Or.inl c_11 | exact Or.inr c_16)) | (obtain ⟨t, hx9, -, ht⟩ := zIn (y := x) (st := 0) (en := 2) (by decide) (by decide) (fun h => c_1 (by rw [← nI_0]; exact h)) (Int32.not_lt.mp c_6); obtain ⟨n9, hx8, hn1, hn2⟩ := zIn (y := n) (st := 1) (en := 3) (by decide) (by decide) c_11 (Int32.not_lt.mp c_16); rw [hx9, hx8, zR_s (Nat.zero_le _) ht (by decide), zR_s hn1 hn2 (by decide)]; exact zR_n (by first | exact Or.inl c_21 | exact Or.inr c_26)) | (obtain ⟨t, hx9, -, ht⟩ := zIn (y := x) (st := 0) (en := 2) (by decide) (by decide) (fun h => c_1 (by rw [← nI_0]; exact h)) (Int32.not_lt.mp c_6); obtain ⟨n9, hx8, hn1, hn2⟩ := zIn (y := n) (st := 1) (en := 3) (by decide) (by decide) c_11 (Int32.not_lt.mp c_16); obtain ⟨z9, hx7, hz1, hz2⟩ := zIn (y := z) (st := 1) (en := 4) (by decide) (by decide) c_21 (Int32.not_lt.mp c_26); rw [hx9, hx8, hx7, zR_s (Nat.zero_le _) ht (by decide), zR_s hn1 hn2 (by decide), zR_s hz1 hz2 (by decide)]; exact zR_n (by first | exact Or.inl c_32 | exact Or.inr (Int32.not_le.mp c_38)))
        rw [hs]
        exact ⟨rfl, rd_s, (zMdA_th hA), (zch.rf.tr (zch.i ⟨by omega, by omega⟩))⟩
      · refine z_iload_n (j := 2) X dM_topic_14 rfl rfl ?_
        refine z_iconst (v := (nI 3)) X dM_topic_15 (by decide) ?_
        refine z_icmp_gt (tgt := 41) X dM_topic_16 (by decide) (fun c_16 => ?_) (fun c_16 => ?_)
        · refine z_iconst (v := (nI 1)) X dM_topic_41 (by decide) ?_
          refine z_goto (tgt := 46) X dM_topic_42 (by decide) ?_
          refine z_istore (L' := [(6, .int (nI 1)), (0, .ref 1000), (1, .int x), (2, .int n), (3, .int z), (4, .int k), (5, .int c9)]) X dM_topic_46 (by decide) rfl ?_
          refine z_aload_n (j := 1) X dM_topic_48 rfl rfl ?_
          refine z_iload (j := 0) X dM_topic_49 rfl ?_
          refine z_if_eq (tgt := 58) X dM_topic_51 (by decide) (fun c_51 => absurd c_51 (by decide)) (fun c_51 => ?_)
          refine z_iconst (v := (nI 1)) X dM_topic_54 (by decide) ?_
          refine z_goto (tgt := 72) X dM_topic_55 (by decide) ?_
          refine z_puti (C := RM) (T := TM) (N := 28) (k := 27) X (w_in inM) rfl rfl rfl (by decide) (w_m lM_77) rfl tyM tyM_ok nmM rfl rfl (ty := .int) (by decide +kernel) rfl rfl dM_topic_72 ?_
          refine z_aload_n (j := 1) X dM_topic_75 rfl rfl ?_
          refine z_geti (C := RM) (T := TM) (N := 28) (k := 27) X (w_in inM) rfl rfl rfl (by decide) (w_m lM_77) rfl rfl dM_topic_76 (hv := rd_s) ?_
          refine z_if_eq (tgt := 83) X dM_topic_79 (by decide) (fun c_79 => absurd c_79 (by decide)) (fun c_79 => ?_)
          refine z_vret X hlocks hr dM_topic_82 (by omega) (by omega) ?_
          have hs : sTopic b x n z k c9 = ((1, 0), b) := by
            unfold sTopic
            first | exact zR_n (by first | exact Or.inl (by rw [nI_0]; exact c_1) | exact Or.inr c_6) | (obtain ⟨t, hx9, -, ht⟩ := zIn (y := x) (st := 0) (en := 2) (by decide) (by decide) (fun h => c_1 (by rw [← nI_0]; exact h)) (Int32.not_lt.mp c_6); rw [hx9, zR_s (Nat.zero_le _) ht (by decide)]; exact zR_n (by first | exact Or.inl c_11 | exact Or.inr c_16)) | (obtain ⟨t, hx9, -, ht⟩ := zIn (y := x) (st := 0) (en := 2) (by decide) (by decide) (fun h => c_1 (by rw [← nI_0]; exact h)) (Int32.not_lt.mp c_6); obtain ⟨n9, hx8, hn1, hn2⟩ := zIn (y := n) (st := 1) (en := 3) (by decide) (by decide) c_11 (Int32.not_lt.mp c_16); rw [hx9, hx8, zR_s (Nat.zero_le _) ht (by decide), zR_s hn1 hn2 (by decide)]; exact zR_n (by first | exact Or.inl c_21 | exact Or.inr c_26)) | (obtain ⟨t, hx9, -, ht⟩ := zIn (y := x) (st := 0) (en := 2) (by decide) (by decide) (fun h => c_1 (by rw [← nI_0]; exact h)) (Int32.not_lt.mp c_6); obtain ⟨n9, hx8, hn1, hn2⟩ := zIn (y := n) (st := 1) (en := 3) (by decide) (by decide) c_11 (Int32.not_lt.mp c_16); obtain ⟨z9, hx7, hz1, hz2⟩ := zIn (y := z) (st := 1) (en := 4) (by decide) (by decide) c_21 (Int32.not_lt.mp c_26); rw [hx9, hx8, hx7, zR_s (Nat.zero_le _) ht (by decide), zR_s hn1 hn2 (by decide), zR_s hz1 hz2 (by decide)]; exact zR_n (by first | exact Or.inl c_32 | exact Or.inr (Int32.not_le.mp c_38)))
          rw [hs]
          exact ⟨rfl, rd_s, (zMdA_th hA), (zch.rf.tr (zch.i ⟨by omega, by omega⟩))⟩
        · refine z_iload_n (j := 3) X dM_topic_19 rfl rfl ?_
          refine z_iconst (v := (nI 1)) X dM_topic_20 (by decide) ?_
          refine z_icmp_lt (tgt := 41) X dM_topic_21 (by decide) (fun c_21 => ?_) (fun c_21 => ?_)
          · refine z_iconst (v := (nI 1)) X dM_topic_41 (by decide) ?_
            refine z_goto (tgt := 46) X dM_topic_42 (by decide) ?_
            refine z_istore (L' := [(6, .int (nI 1)), (0, .ref 1000), (1, .int x), (2, .int n), (3, .int z), (4, .int k), (5, .int c9)]) X dM_topic_46 (by decide) rfl ?_
            refine z_aload_n (j := 1) X dM_topic_48 rfl rfl ?_
            refine z_iload (j := 0) X dM_topic_49 rfl ?_
            refine z_if_eq (tgt := 58) X dM_topic_51 (by decide) (fun c_51 => absurd c_51 (by decide)) (fun c_51 => ?_)
            refine z_iconst (v := (nI 1)) X dM_topic_54 (by decide) ?_
            refine z_goto (tgt := 72) X dM_topic_55 (by decide) ?_
            refine z_puti (C := RM) (T := TM) (N := 28) (k := 27) X (w_in inM) rfl rfl rfl (by decide) (w_m lM_77) rfl tyM tyM_ok nmM rfl rfl (ty := .int) (by decide +kernel) rfl rfl dM_topic_72 ?_
            refine z_aload_n (j := 1) X dM_topic_75 rfl rfl ?_
            refine z_geti (C := RM) (T := TM) (N := 28) (k := 27) X (w_in inM) rfl rfl rfl (by decide) (w_m lM_77) rfl rfl dM_topic_76 (hv := rd_s) ?_
            refine z_if_eq (tgt := 83) X dM_topic_79 (by decide) (fun c_79 => absurd c_79 (by decide)) (fun c_79 => ?_)
            refine z_vret X hlocks hr dM_topic_82 (by omega) (by omega) ?_
            have hs : sTopic b x n z k c9 = ((1, 0), b) := by
              unfold sTopic
              first | exact zR_n (by first | exact Or.inl (by rw [nI_0]; exact c_1) | exact Or.inr c_6) | (obtain ⟨t, hx9, -, ht⟩ := zIn (y := x) (st := 0) (en := 2) (by decide) (by decide) (fun h => c_1 (by rw [← nI_0]; exact h)) (Int32.not_lt.mp c_6); rw [hx9, zR_s (Nat.zero_le _) ht (by decide)]; exact zR_n (by first | exact Or.inl c_11 | exact Or.inr c_16)) | (obtain ⟨t, hx9, -, ht⟩ := zIn (y := x) (st := 0) (en := 2) (by decide) (by decide) (fun h => c_1 (by rw [← nI_0]; exact h)) (Int32.not_lt.mp c_6); obtain ⟨n9, hx8, hn1, hn2⟩ := zIn (y := n) (st := 1) (en := 3) (by decide) (by decide) c_11 (Int32.not_lt.mp c_16); rw [hx9, hx8, zR_s (Nat.zero_le _) ht (by decide), zR_s hn1 hn2 (by decide)]; exact zR_n (by first | exact Or.inl c_21 | exact Or.inr c_26)) | (obtain ⟨t, hx9, -, ht⟩ := zIn (y := x) (st := 0) (en := 2) (by decide) (by decide) (fun h => c_1 (by rw [← nI_0]; exact h)) (Int32.not_lt.mp c_6); obtain ⟨n9, hx8, hn1, hn2⟩ := zIn (y := n) (st := 1) (en := 3) (by decide) (by decide) c_11 (Int32.not_lt.mp c_16); obtain ⟨z9, hx7, hz1, hz2⟩ := zIn (y := z) (st := 1) (en := 4) (by decide) (by decide) c_21 (Int32.not_lt.mp c_26); rw [hx9, hx8, hx7, zR_s (Nat.zero_le _) ht (by decide), zR_s hn1 hn2 (by decide), zR_s hz1 hz2 (by decide)]; exact zR_n (by first | exact Or.inl c_32 | exact Or.inr (Int32.not_le.mp c_38)))
            rw [hs]
            exact ⟨rfl, rd_s, (zMdA_th hA), (zch.rf.tr (zch.i ⟨by omega, by omega⟩))⟩
          · refine z_iload_n (j := 3) X dM_topic_24 rfl rfl ?_
            refine z_iconst (v := (nI 4)) X dM_topic_25 (by decide) ?_
            refine z_icmp_gt (tgt := 41) X dM_topic_26 (by decide) (fun c_26 => ?_) (fun c_26 => ?_)
            · refine z_iconst (v := (nI 1)) X dM_topic_41 (by decide) ?_
              refine z_goto (tgt := 46) X dM_topic_42 (by decide) ?_
              refine z_istore (L' := [(6, .int (nI 1)), (0, .ref 1000), (1, .int x), (2, .int n), (3, .int z), (4, .int k), (5, .int c9)]) X dM_topic_46 (by decide) rfl ?_
              refine z_aload_n (j := 1) X dM_topic_48 rfl rfl ?_
              refine z_iload (j := 0) X dM_topic_49 rfl ?_
              refine z_if_eq (tgt := 58) X dM_topic_51 (by decide) (fun c_51 => absurd c_51 (by decide)) (fun c_51 => ?_)
              refine z_iconst (v := (nI 1)) X dM_topic_54 (by decide) ?_
              refine z_goto (tgt := 72) X dM_topic_55 (by decide) ?_
              refine z_puti (C := RM) (T := TM) (N := 28) (k := 27) X (w_in inM) rfl rfl rfl (by decide) (w_m lM_77) rfl tyM tyM_ok nmM rfl rfl (ty := .int) (by decide +kernel) rfl rfl dM_topic_72 ?_
              refine z_aload_n (j := 1) X dM_topic_75 rfl rfl ?_
              refine z_geti (C := RM) (T := TM) (N := 28) (k := 27) X (w_in inM) rfl rfl rfl (by decide) (w_m lM_77) rfl rfl dM_topic_76 (hv := rd_s) ?_
              refine z_if_eq (tgt := 83) X dM_topic_79 (by decide) (fun c_79 => absurd c_79 (by decide)) (fun c_79 => ?_)
              refine z_vret X hlocks hr dM_topic_82 (by omega) (by omega) ?_
              have hs : sTopic b x n z k c9 = ((1, 0), b) := by
                unfold sTopic
                first | exact zR_n (by first | exact Or.inl (by rw [nI_0]; exact c_1) | exact Or.inr c_6) | (obtain ⟨t, hx9, -, ht⟩ := zIn (y := x) (st := 0) (en := 2) (by decide) (by decide) (fun h => c_1 (by rw [← nI_0]; exact h)) (Int32.not_lt.mp c_6); rw [hx9, zR_s (Nat.zero_le _) ht (by decide)]; exact zR_n (by first | exact Or.inl c_11 | exact Or.inr c_16)) | (obtain ⟨t, hx9, -, ht⟩ := zIn (y := x) (st := 0) (en := 2) (by decide) (by decide) (fun h => c_1 (by rw [← nI_0]; exact h)) (Int32.not_lt.mp c_6); obtain ⟨n9, hx8, hn1, hn2⟩ := zIn (y := n) (st := 1) (en := 3) (by decide) (by decide) c_11 (Int32.not_lt.mp c_16); rw [hx9, hx8, zR_s (Nat.zero_le _) ht (by decide), zR_s hn1 hn2 (by decide)]; exact zR_n (by first | exact Or.inl c_21 | exact Or.inr c_26)) | (obtain ⟨t, hx9, -, ht⟩ := zIn (y := x) (st := 0) (en := 2) (by decide) (by decide) (fun h => c_1 (by rw [← nI_0]; exact h)) (Int32.not_lt.mp c_6); obtain ⟨n9, hx8, hn1, hn2⟩ := zIn (y := n) (st := 1) (en := 3) (by decide) (by decide) c_11 (Int32.not_lt.mp c_16); obtain ⟨z9, hx7, hz1, hz2⟩ := zIn (y := z) (st := 1) (en := 4) (by decide) (by decide) c_21 (Int32.not_lt.mp c_26); rw [hx9, hx8, hx7, zR_s (Nat.zero_le _) ht (by decide), zR_s hn1 hn2 (by decide), zR_s hz1 hz2 (by decide)]; exact zR_n (by first | exact Or.inl c_32 | exact Or.inr (Int32.not_le.mp c_38)))
              rw [hs]
              exact ⟨rfl, rd_s, (zMdA_th hA), (zch.rf.tr (zch.i ⟨by omega, by omega⟩))⟩
            · refine z_iload (j := 4) X dM_topic_29 rfl ?_
              refine z_iconst (v := (nI 1)) X dM_topic_31 (by decide) ?_
              refine z_icmp_lt (tgt := 41) X dM_topic_32 (by decide) (fun c_32 => ?_) (fun c_32 => ?_)
              · refine z_iconst (v := (nI 1)) X dM_topic_41 (by decide) ?_
                refine z_goto (tgt := 46) X dM_topic_42 (by decide) ?_
                refine z_istore (L' := [(6, .int (nI 1)), (0, .ref 1000), (1, .int x), (2, .int n), (3, .int z), (4, .int k), (5, .int c9)]) X dM_topic_46 (by decide) rfl ?_
                refine z_aload_n (j := 1) X dM_topic_48 rfl rfl ?_
                refine z_iload (j := 0) X dM_topic_49 rfl ?_
                refine z_if_eq (tgt := 58) X dM_topic_51 (by decide) (fun c_51 => absurd c_51 (by decide)) (fun c_51 => ?_)
                refine z_iconst (v := (nI 1)) X dM_topic_54 (by decide) ?_
                refine z_goto (tgt := 72) X dM_topic_55 (by decide) ?_
                refine z_puti (C := RM) (T := TM) (N := 28) (k := 27) X (w_in inM) rfl rfl rfl (by decide) (w_m lM_77) rfl tyM tyM_ok nmM rfl rfl (ty := .int) (by decide +kernel) rfl rfl dM_topic_72 ?_
                refine z_aload_n (j := 1) X dM_topic_75 rfl rfl ?_
                refine z_geti (C := RM) (T := TM) (N := 28) (k := 27) X (w_in inM) rfl rfl rfl (by decide) (w_m lM_77) rfl rfl dM_topic_76 (hv := rd_s) ?_
                refine z_if_eq (tgt := 83) X dM_topic_79 (by decide) (fun c_79 => absurd c_79 (by decide)) (fun c_79 => ?_)
                refine z_vret X hlocks hr dM_topic_82 (by omega) (by omega) ?_
                have hs : sTopic b x n z k c9 = ((1, 0), b) := by
                  unfold sTopic
                  first | exact zR_n (by first | exact Or.inl (by rw [nI_0]; exact c_1) | exact Or.inr c_6) | (obtain ⟨t, hx9, -, ht⟩ := zIn (y := x) (st := 0) (en := 2) (by decide) (by decide) (fun h => c_1 (by rw [← nI_0]; exact h)) (Int32.not_lt.mp c_6); rw [hx9, zR_s (Nat.zero_le _) ht (by decide)]; exact zR_n (by first | exact Or.inl c_11 | exact Or.inr c_16)) | (obtain ⟨t, hx9, -, ht⟩ := zIn (y := x) (st := 0) (en := 2) (by decide) (by decide) (fun h => c_1 (by rw [← nI_0]; exact h)) (Int32.not_lt.mp c_6); obtain ⟨n9, hx8, hn1, hn2⟩ := zIn (y := n) (st := 1) (en := 3) (by decide) (by decide) c_11 (Int32.not_lt.mp c_16); rw [hx9, hx8, zR_s (Nat.zero_le _) ht (by decide), zR_s hn1 hn2 (by decide)]; exact zR_n (by first | exact Or.inl c_21 | exact Or.inr c_26)) | (obtain ⟨t, hx9, -, ht⟩ := zIn (y := x) (st := 0) (en := 2) (by decide) (by decide) (fun h => c_1 (by rw [← nI_0]; exact h)) (Int32.not_lt.mp c_6); obtain ⟨n9, hx8, hn1, hn2⟩ := zIn (y := n) (st := 1) (en := 3) (by decide) (by decide) c_11 (Int32.not_lt.mp c_16); obtain ⟨z9, hx7, hz1, hz2⟩ := zIn (y := z) (st := 1) (en := 4) (by decide) (by decide) c_21 (Int32.not_lt.mp c_26); rw [hx9, hx8, hx7, zR_s (Nat.zero_le _) ht (by decide), zR_s hn1 hn2 (by decide), zR_s hz1 hz2 (by decide)]; exact zR_n (by first | exact Or.inl c_32 | exact Or.inr (Int32.not_le.mp c_38)))
                rw [hs]
                exact ⟨rfl, rd_s, (zMdA_th hA), (zch.rf.tr (zch.i ⟨by omega, by omega⟩))⟩
              · refine z_iload (j := 4) X dM_topic_35 rfl ?_
                refine z_iconst (v := (nI 5)) X dM_topic_37 (by decide) ?_
                refine z_icmp_le (tgt := 45) X dM_topic_38 (by decide) (fun c_38 => ?_) (fun c_38 => ?_)
                · obtain ⟨t, hx9, -, ht⟩ := zIn (y := x) (st := 0) (en := 2) (by decide) (by decide) (fun h => c_1 (by rw [← nI_0]; exact h)) (Int32.not_lt.mp c_6)
                  obtain ⟨n9, hx8, hn1, hn2⟩ := zIn (y := n) (st := 1) (en := 3) (by decide) (by decide) c_11 (Int32.not_lt.mp c_16)
                  obtain ⟨z9, hx7, hz1, hz2⟩ := zIn (y := z) (st := 1) (en := 4) (by decide) (by decide) c_21 (Int32.not_lt.mp c_26)
                  obtain ⟨k9, hx6, hk1, hk2⟩ := zIn (y := k) (st := 1) (en := 5) (by decide) (by decide) c_32 c_38
                  subst hx9
                  subst hx8
                  subst hx7
                  subst hx6
                  have hb3 := hI.1.1 t (by omega)
                  refine z_iconst (v := (nI 0)) X dM_topic_45 (by decide) ?_
                  refine z_istore (L' := [(6, .int (nI 0)), (0, .ref 1000), (1, .int (nI t)), (2, .int (nI n9)), (3, .int (nI z9)), (4, .int (nI k9)), (5, .int c9)]) X dM_topic_46 (by decide) rfl ?_
                  refine z_aload_n (j := 1) X dM_topic_48 rfl rfl ?_
                  refine z_iload (j := 0) X dM_topic_49 rfl ?_
                  refine z_if_eq (tgt := 58) X dM_topic_51 (by decide) (fun c_51 => ?_) (fun c_51 => absurd c_51 (by decide))
                  refine z_aload_n (j := 1) X dM_topic_58 rfl rfl ?_
                  refine z_getr (C := RM) (T := TM) (N := 28) (k := 0) X (w_in inM) rfl rfl rfl (by decide) (w_m lM_7) rfl rfl (hA.1.2 0 (by decide)) dM_topic_59 ?_
                  refine z_iload_n (j := 2) X dM_topic_62 rfl rfl ?_
                  refine z_iald (t0 := 0) X rfl rfl (by omega) (by decide) dM_topic_63 (hv := (hA.2.2.1.1 t (by omega))) ?_
                  refine z_if_le (tgt := 71) X dM_topic_64 (by decide) (fun c_64 => ?_) (fun c_64 => ?_)
                  · have hb0 : b.1 t = 0 := Classical.byContradiction fun h => absurd c_64 (by rw [Int32.le_iff_toInt_le, nI_toInt (by omega), Int32.toInt_zero]; omega)
                    refine z_iconst (v := (nI 0)) X dM_topic_71 (by decide) ?_
                    refine z_puti (C := RM) (T := TM) (N := 28) (k := 27) X (w_in inM) rfl rfl rfl (by decide) (w_m lM_77) rfl tyM tyM_ok nmM rfl rfl (ty := .int) (by decide +kernel) rfl rfl dM_topic_72 ?_
                    generalize hS1 : zsi S 1000 27 (nI 0) = S1
                    have hA1 : zMdA S1 b := by rw [← hS1]; exact zMdA_th hA
                    have h27 : S1.2.1 1000 27 = nI 0 := by rw [← hS1]; exact rd_s
                    have hc1 : zch oM S S1 := by rw [← hS1]; exact zch.i ⟨by decide, by decide⟩
                    refine z_aload_n (j := 1) X dM_topic_75 rfl rfl ?_
                    refine z_geti (C := RM) (T := TM) (N := 28) (k := 27) X (w_in inM) rfl rfl rfl (by decide) (w_m lM_77) rfl rfl dM_topic_76 (hv := h27) ?_
                    refine z_if_eq (tgt := 83) X dM_topic_79 (by decide) (fun c_79 => ?_) (fun c_79 => absurd c_79 (by decide))
                    refine z_aload_n (j := 1) X dM_topic_83 rfl rfl ?_
                    refine z_getr (C := RM) (T := TM) (N := 28) (k := 0) X (w_in inM) rfl rfl rfl (by decide) (w_m lM_7) rfl rfl (hA1.1.2 0 (by decide)) dM_topic_84 ?_
                    refine z_iload_n (j := 2) X dM_topic_87 rfl rfl ?_
                    refine z_iload_n (j := 3) X dM_topic_88 rfl rfl ?_
                    refine z_iast (t0 := 0) X rfl rfl (by omega) (by decide) dM_topic_89 ?_
                    refine z_aload_n (j := 1) X dM_topic_90 rfl rfl ?_
                    refine z_getr (C := RM) (T := TM) (N := 28) (k := 1) X (w_in inM) rfl rfl rfl (by decide) (w_m lM_13) rfl rfl (rp_i (hA1.1.2 1 (by decide))) dM_topic_91 ?_
                    refine z_iload_n (j := 2) X dM_topic_94 rfl rfl ?_
                    refine z_iload_n (j := 4) X dM_topic_95 rfl rfl ?_
                    refine z_iast (t0 := 0) X rfl rfl (by omega) (by decide) dM_topic_96 ?_
                    refine z_aload_n (j := 1) X dM_topic_97 rfl rfl ?_
                    refine z_getr (C := RM) (T := TM) (N := 28) (k := 2) X (w_in inM) rfl rfl rfl (by decide) (w_m lM_16) rfl rfl (rp_i (rp_i (hA1.1.2 2 (by decide)))) dM_topic_98 ?_
                    refine z_iload_n (j := 2) X dM_topic_101 rfl rfl ?_
                    refine z_iload (j := 5) X dM_topic_102 rfl ?_
                    refine z_iast (t0 := 0) X rfl rfl (by omega) (by decide) dM_topic_104 ?_
                    refine z_aload_n (j := 1) X dM_topic_105 rfl rfl ?_
                    refine z_getr (C := RM) (T := TM) (N := 28) (k := 3) X (w_in inM) rfl rfl rfl (by decide) (w_m lM_19) rfl rfl (rp_i (rp_i (rp_i (hA1.1.2 3 (by decide))))) dM_topic_106 ?_
                    refine z_iload_n (j := 2) X dM_topic_109 rfl rfl ?_
                    refine z_iload (j := 6) X dM_topic_110 rfl ?_
                    refine z_zast (t0 := 1) X rfl rfl (by omega) (by decide) (hc01.elim (fun h => Or.inl (h.trans nI_0)) (fun h => Or.inr h)) dM_topic_112 ?_
                    refine z_vret X hlocks hr dM_topic_113 (by omega) (by omega) ?_
                    have hs : sTopic b (nI t) (nI n9) (nI z9) (nI k9) c9 = ((0, 0), bT b t n9 z9 k9 c9) := by unfold sTopic; rw [zR_s (Nat.zero_le _) ht (by decide)]; rw [zR_s hn1 hn2 (by decide)]; rw [zR_s hz1 hz2 (by decide)]; rw [zR_s hk1 hk2 (by decide)]; rw [if_neg (fun h => h hb0)]
                    rw [hs]
                    exact ⟨rfl, (rd_i (Or.inl (by omega)) (rd_i (Or.inl (by omega)) (rd_i (Or.inl (by omega)) (rd_i (Or.inl (by omega)) h27)))), zMdA_T hA1 hI.2.1 (by omega) hb0 hn2 ((((zch.rf.tr (zch.i ⟨by decide, by decide, rfl⟩)).tr (zch.i ⟨by decide, by decide, rfl⟩)).tr (zch.i ⟨by decide, by decide, rfl⟩)).tr (zch.i ⟨by decide, by decide, rfl⟩)) ((rd_i (Or.inl (by omega)) (rd_i (Or.inl (by omega)) (rd_i (Or.inl (by omega)) rd_s)))) ((rd_i (Or.inl (by omega)) (rd_i (Or.inl (by omega)) rd_s))) ((rd_i (Or.inl (by omega)) rd_s)) (rd_s), ((((hc1.tr (zch.i ⟨by omega, by omega⟩)).tr (zch.i ⟨by omega, by omega⟩)).tr (zch.i ⟨by omega, by omega⟩)).tr (zch.i ⟨by omega, by omega⟩))⟩
                  · have hb0 : ¬ b.1 t = 0 := fun h => c_64 (by rw [h]; decide)
                    refine z_iconst (v := (nI 2)) X dM_topic_67 (by decide) ?_
                    refine z_goto (tgt := 72) X dM_topic_68 (by decide) ?_
                    refine z_puti (C := RM) (T := TM) (N := 28) (k := 27) X (w_in inM) rfl rfl rfl (by decide) (w_m lM_77) rfl tyM tyM_ok nmM rfl rfl (ty := .int) (by decide +kernel) rfl rfl dM_topic_72 ?_
                    refine z_aload_n (j := 1) X dM_topic_75 rfl rfl ?_
                    refine z_geti (C := RM) (T := TM) (N := 28) (k := 27) X (w_in inM) rfl rfl rfl (by decide) (w_m lM_77) rfl rfl dM_topic_76 (hv := rd_s) ?_
                    refine z_if_eq (tgt := 83) X dM_topic_79 (by decide) (fun c_79 => absurd c_79 (by decide)) (fun c_79 => ?_)
                    refine z_vret X hlocks hr dM_topic_82 (by omega) (by omega) ?_
                    have hs : sTopic b (nI t) (nI n9) (nI z9) (nI k9) c9 = ((2, 0), b) := by unfold sTopic; rw [zR_s (Nat.zero_le _) ht (by decide)]; rw [zR_s hn1 hn2 (by decide)]; rw [zR_s hz1 hz2 (by decide)]; rw [zR_s hk1 hk2 (by decide)]; rw [if_pos hb0]
                    rw [hs]
                    exact ⟨rfl, rd_s, (zMdA_th hA), (zch.rf.tr (zch.i ⟨by omega, by omega⟩))⟩
                · refine z_iconst (v := (nI 1)) X dM_topic_41 (by decide) ?_
                  refine z_goto (tgt := 46) X dM_topic_42 (by decide) ?_
                  refine z_istore (L' := [(6, .int (nI 1)), (0, .ref 1000), (1, .int x), (2, .int n), (3, .int z), (4, .int k), (5, .int c9)]) X dM_topic_46 (by decide) rfl ?_
                  refine z_aload_n (j := 1) X dM_topic_48 rfl rfl ?_
                  refine z_iload (j := 0) X dM_topic_49 rfl ?_
                  refine z_if_eq (tgt := 58) X dM_topic_51 (by decide) (fun c_51 => absurd c_51 (by decide)) (fun c_51 => ?_)
                  refine z_iconst (v := (nI 1)) X dM_topic_54 (by decide) ?_
                  refine z_goto (tgt := 72) X dM_topic_55 (by decide) ?_
                  refine z_puti (C := RM) (T := TM) (N := 28) (k := 27) X (w_in inM) rfl rfl rfl (by decide) (w_m lM_77) rfl tyM tyM_ok nmM rfl rfl (ty := .int) (by decide +kernel) rfl rfl dM_topic_72 ?_
                  refine z_aload_n (j := 1) X dM_topic_75 rfl rfl ?_
                  refine z_geti (C := RM) (T := TM) (N := 28) (k := 27) X (w_in inM) rfl rfl rfl (by decide) (w_m lM_77) rfl rfl dM_topic_76 (hv := rd_s) ?_
                  refine z_if_eq (tgt := 83) X dM_topic_79 (by decide) (fun c_79 => absurd c_79 (by decide)) (fun c_79 => ?_)
                  refine z_vret X hlocks hr dM_topic_82 (by omega) (by omega) ?_
                  have hs : sTopic b x n z k c9 = ((1, 0), b) := by
                    unfold sTopic
                    first | exact zR_n (by first | exact Or.inl (by rw [nI_0]; exact c_1) | exact Or.inr c_6) | (obtain ⟨t, hx9, -, ht⟩ := zIn (y := x) (st := 0) (en := 2) (by decide) (by decide) (fun h => c_1 (by rw [← nI_0]; exact h)) (Int32.not_lt.mp c_6); rw [hx9, zR_s (Nat.zero_le _) ht (by decide)]; exact zR_n (by first | exact Or.inl c_11 | exact Or.inr c_16)) | (obtain ⟨t, hx9, -, ht⟩ := zIn (y := x) (st := 0) (en := 2) (by decide) (by decide) (fun h => c_1 (by rw [← nI_0]; exact h)) (Int32.not_lt.mp c_6); obtain ⟨n9, hx8, hn1, hn2⟩ := zIn (y := n) (st := 1) (en := 3) (by decide) (by decide) c_11 (Int32.not_lt.mp c_16); rw [hx9, hx8, zR_s (Nat.zero_le _) ht (by decide), zR_s hn1 hn2 (by decide)]; exact zR_n (by first | exact Or.inl c_21 | exact Or.inr c_26)) | (obtain ⟨t, hx9, -, ht⟩ := zIn (y := x) (st := 0) (en := 2) (by decide) (by decide) (fun h => c_1 (by rw [← nI_0]; exact h)) (Int32.not_lt.mp c_6); obtain ⟨n9, hx8, hn1, hn2⟩ := zIn (y := n) (st := 1) (en := 3) (by decide) (by decide) c_11 (Int32.not_lt.mp c_16); obtain ⟨z9, hx7, hz1, hz2⟩ := zIn (y := z) (st := 1) (en := 4) (by decide) (by decide) c_21 (Int32.not_lt.mp c_26); rw [hx9, hx8, hx7, zR_s (Nat.zero_le _) ht (by decide), zR_s hn1 hn2 (by decide), zR_s hz1 hz2 (by decide)]; exact zR_n (by first | exact Or.inl c_32 | exact Or.inr (Int32.not_le.mp c_38)))
                  rw [hs]
                  exact ⟨rfl, rd_s, (zMdA_th hA), (zch.rf.tr (zch.i ⟨by omega, by omega⟩))⟩

set_option maxHeartbeats 600000 in
set_option maxRecDepth 100000 in
theorem mM_produce (l : Launch) (D : va_G) (dA : Nat → ClassId) {S : zS} {b : zBr} {x y n k v9 : Int32} (hA : zMdA S b) (hI : zInv b)  : zMet l D vwCl zKK dA (zG0 D dA) yM_produce (Cond.code yM_produce cM_produce 9 (some .int) :: zTs) { frames := 4, cells := 0, slots := 0, locals := 91 } 0 0 [.ref 1000, .int x, .int y, .int n, .int k, .int v9] S (fun v S' => v = some (.int (sProduce b x y n k v9).1.2) ∧ S'.2.1 1000 27 = nI (sProduce b x y n k v9).1.1 ∧ zMdA S' (sProduce b x y n k v9).2 ∧ zch oM S S') (fun _ _ => False) := by
  refine z_met (tys := ztys dA) (by decide) rfl zG0_K rfl (Nat.le_of_ble_eq_true rfl) (fun p e s m args below meth c A ad X hr hlocks hin hex => ?_)
  refine z_aload_n (j := 0) X dM_produce_0 rfl rfl ?_
  refine z_aload_n (j := 0) X dM_produce_1 rfl rfl ?_
  refine z_iload_n (j := 1) X dM_produce_2 rfl rfl ?_
  refine z_callV (n := 1) (As := [.int x]) (rest := [.ref 1000]) X zG0_m (mM_badSession l D dA) (w_V X.2.2.2.2.1 lM_112 jM_badSession sM_badSession i_LogBrokerModel kM_badSession rfl rfl (by decide +kernel) ⟨Nat.le_of_ble_eq_true rfl, Nat.le_of_ble_eq_true rfl⟩) rfl rfl rfl rfl rfl (Nat.le_of_ble_eq_true rfl) dM_produce_3 ⟨Nat.le_of_ble_eq_true rfl, Nat.le_of_ble_eq_true rfl⟩ (fun v S9 hp => ?_) (fun E S1 hx => hx.elim)
  obtain ⟨hS9, hp⟩ := hp
  have hS9 := hS9.symm
  subst hS9
  rcases hp with ⟨hv, hp⟩ | ⟨hv, hp⟩ <;> subst hv
  · have hbS := hp
    refine z_if_ne (tgt := 34) X dM_produce_6 (by decide) (fun c_6 => ?_) (fun c_6 => absurd c_6 (by decide))
    refine z_iconst (v := (nI 1)) X dM_produce_34 (by decide) ?_
    refine z_goto (tgt := 52) X dM_produce_35 (by decide) ?_
    refine z_puti (C := RM) (T := TM) (N := 28) (k := 27) X (w_in inM) rfl rfl rfl (by decide) (w_m lM_77) rfl tyM tyM_ok nmM rfl rfl (ty := .int) (by decide +kernel) rfl rfl dM_produce_52 ?_
    refine z_aload_n (j := 0) X dM_produce_55 rfl rfl ?_
    refine z_geti (C := RM) (T := TM) (N := 28) (k := 27) X (w_in inM) rfl rfl rfl (by decide) (w_m lM_77) rfl rfl dM_produce_56 (hv := rd_s) ?_
    refine z_if_eq (tgt := 64) X dM_produce_59 (by decide) (fun c_59 => absurd c_59 (by decide)) (fun c_59 => ?_)
    refine z_iconst (v := (nI 0)) X dM_produce_62 (by decide) ?_
    refine z_iret X hlocks hr dM_produce_63 (by omega) (by omega) ?_
    have hs : sProduce b x y n k v9 = ((1, 0), b) := by
      unfold sProduce
      first | rw [zA_n hbS] | (rw [zA_s hi (by decide)]; first | rw [zT_n hbL] | (rw [zT_s ht]; exact if_pos (by first | exact Or.inr c_18 | exact Or.inl (Or.inl c_24) | exact Or.inl (Or.inr (Int32.not_le.mp c_31)))))
    rw [hs]
    exact ⟨congrArg (fun z => some (Value.int z)) nI_0, rd_s, (zMdA_th hA), (zch.rf.tr (zch.i ⟨by omega, by omega⟩))⟩
  · obtain ⟨i, hx9, hi⟩ := hp
    subst hx9
    refine z_if_ne (tgt := 34) X dM_produce_6 (by decide) (fun c_6 => absurd c_6 (by decide)) (fun c_6 => ?_)
    refine z_aload_n (j := 0) X dM_produce_9 rfl rfl ?_
    refine z_iload_n (j := 2) X dM_produce_10 rfl rfl ?_
    refine z_callV (n := 1) (As := [.int y]) (rest := [.ref 1000]) X zG0_m (mM_badLog l D dA hA.1 hA.2.2.1 hI.1.1) (w_V X.2.2.2.2.1 lM_123 jM_badLog sM_badLog i_LogBrokerModel kM_badLog rfl rfl (by decide +kernel) ⟨Nat.le_of_ble_eq_true rfl, Nat.le_of_ble_eq_true rfl⟩) rfl rfl rfl rfl rfl (Nat.le_of_ble_eq_true rfl) dM_produce_11 ⟨Nat.le_of_ble_eq_true rfl, Nat.le_of_ble_eq_true rfl⟩ (fun v S9 hp => ?_) (fun E S1 hx => hx.elim)
    obtain ⟨hS9, hp⟩ := hp
    have hS9 := hS9.symm
    subst hS9
    rcases hp with ⟨hv, hp⟩ | ⟨hv, hp⟩ <;> subst hv
    · have hbL := hp
      refine z_if_ne (tgt := 34) X dM_produce_14 (by decide) (fun c_14 => ?_) (fun c_14 => absurd c_14 (by decide))
      refine z_iconst (v := (nI 1)) X dM_produce_34 (by decide) ?_
      refine z_goto (tgt := 52) X dM_produce_35 (by decide) ?_
      refine z_puti (C := RM) (T := TM) (N := 28) (k := 27) X (w_in inM) rfl rfl rfl (by decide) (w_m lM_77) rfl tyM tyM_ok nmM rfl rfl (ty := .int) (by decide +kernel) rfl rfl dM_produce_52 ?_
      refine z_aload_n (j := 0) X dM_produce_55 rfl rfl ?_
      refine z_geti (C := RM) (T := TM) (N := 28) (k := 27) X (w_in inM) rfl rfl rfl (by decide) (w_m lM_77) rfl rfl dM_produce_56 (hv := rd_s) ?_
      refine z_if_eq (tgt := 64) X dM_produce_59 (by decide) (fun c_59 => absurd c_59 (by decide)) (fun c_59 => ?_)
      refine z_iconst (v := (nI 0)) X dM_produce_62 (by decide) ?_
      refine z_iret X hlocks hr dM_produce_63 (by omega) (by omega) ?_
      have hs : sProduce b (nI i) y n k v9 = ((1, 0), b) := by
        unfold sProduce
        first | rw [zA_n hbS] | (rw [zA_s hi (by decide)]; first | rw [zT_n hbL] | (rw [zT_s ht]; exact if_pos (by first | exact Or.inr c_18 | exact Or.inl (Or.inl c_24) | exact Or.inl (Or.inr (Int32.not_le.mp c_31)))))
      rw [hs]
      exact ⟨congrArg (fun z => some (Value.int z)) nI_0, rd_s, (zMdA_th hA), (zch.rf.tr (zch.i ⟨by omega, by omega⟩))⟩
    · obtain ⟨t, ht, hx8⟩ := hp
      subst hx8
      have ht12 := ht.1
      have hWg := hI.1.2.1 t ht
      have hVg := hI.1.2.2.1 t ht
      obtain ⟨w1, w2, w3, w4, w5, w6, w7, w8, w9⟩ := id hWg
      have wb := zBa_le (b.2.1 t)
      refine z_if_ne (tgt := 34) X dM_produce_14 (by decide) (fun c_14 => absurd c_14 (by decide)) (fun c_14 => ?_)
      refine z_iload_n (j := 3) X dM_produce_17 rfl rfl ?_
      refine z_if_lt (tgt := 34) X dM_produce_18 (by decide) (fun c_18 => ?_) (fun c_18 => ?_)
      · refine z_iconst (v := (nI 1)) X dM_produce_34 (by decide) ?_
        refine z_goto (tgt := 52) X dM_produce_35 (by decide) ?_
        refine z_puti (C := RM) (T := TM) (N := 28) (k := 27) X (w_in inM) rfl rfl rfl (by decide) (w_m lM_77) rfl tyM tyM_ok nmM rfl rfl (ty := .int) (by decide +kernel) rfl rfl dM_produce_52 ?_
        refine z_aload_n (j := 0) X dM_produce_55 rfl rfl ?_
        refine z_geti (C := RM) (T := TM) (N := 28) (k := 27) X (w_in inM) rfl rfl rfl (by decide) (w_m lM_77) rfl rfl dM_produce_56 (hv := rd_s) ?_
        refine z_if_eq (tgt := 64) X dM_produce_59 (by decide) (fun c_59 => absurd c_59 (by decide)) (fun c_59 => ?_)
        refine z_iconst (v := (nI 0)) X dM_produce_62 (by decide) ?_
        refine z_iret X hlocks hr dM_produce_63 (by omega) (by omega) ?_
        have hs : sProduce b (nI i) (nI t) n k v9 = ((1, 0), b) := by
          unfold sProduce
          first | rw [zA_n hbS] | (rw [zA_s hi (by decide)]; first | rw [zT_n hbL] | (rw [zT_s ht]; exact if_pos (by first | exact Or.inr c_18 | exact Or.inl (Or.inl c_24) | exact Or.inl (Or.inr (Int32.not_le.mp c_31)))))
        rw [hs]
        exact ⟨congrArg (fun z => some (Value.int z)) nI_0, rd_s, (zMdA_th hA), (zch.rf.tr (zch.i ⟨by omega, by omega⟩))⟩
      · refine z_iload (j := 4) X dM_produce_21 rfl ?_
        refine z_iconst (v := (-1)) X dM_produce_23 (by decide) ?_
        refine z_icmp_lt (tgt := 34) X dM_produce_24 (by decide) (fun c_24 => ?_) (fun c_24 => ?_)
        · refine z_iconst (v := (nI 1)) X dM_produce_34 (by decide) ?_
          refine z_goto (tgt := 52) X dM_produce_35 (by decide) ?_
          refine z_puti (C := RM) (T := TM) (N := 28) (k := 27) X (w_in inM) rfl rfl rfl (by decide) (w_m lM_77) rfl tyM tyM_ok nmM rfl rfl (ty := .int) (by decide +kernel) rfl rfl dM_produce_52 ?_
          refine z_aload_n (j := 0) X dM_produce_55 rfl rfl ?_
          refine z_geti (C := RM) (T := TM) (N := 28) (k := 27) X (w_in inM) rfl rfl rfl (by decide) (w_m lM_77) rfl rfl dM_produce_56 (hv := rd_s) ?_
          refine z_if_eq (tgt := 64) X dM_produce_59 (by decide) (fun c_59 => absurd c_59 (by decide)) (fun c_59 => ?_)
          refine z_iconst (v := (nI 0)) X dM_produce_62 (by decide) ?_
          refine z_iret X hlocks hr dM_produce_63 (by omega) (by omega) ?_
          have hs : sProduce b (nI i) (nI t) n k v9 = ((1, 0), b) := by
            unfold sProduce
            first | rw [zA_n hbS] | (rw [zA_s hi (by decide)]; first | rw [zT_n hbL] | (rw [zT_s ht]; exact if_pos (by first | exact Or.inr c_18 | exact Or.inl (Or.inl c_24) | exact Or.inl (Or.inr (Int32.not_le.mp c_31)))))
          rw [hs]
          exact ⟨congrArg (fun z => some (Value.int z)) nI_0, rd_s, (zMdA_th hA), (zch.rf.tr (zch.i ⟨by omega, by omega⟩))⟩
        · refine z_iload (j := 4) X dM_produce_27 rfl ?_
          refine z_bipush (v := (nI 7)) X dM_produce_29 (by decide) ?_
          refine z_icmp_le (tgt := 38) X dM_produce_31 (by decide) (fun c_31 => ?_) (fun c_31 => ?_)
          · refine z_aload_n (j := 0) X dM_produce_38 rfl rfl ?_
            refine z_getr (C := RM) (T := TM) (N := 28) (k := 12) X (w_in inM) rfl rfl rfl (by decide) (w_m lM_47) rfl rfl (hA.1.2 12 (by decide)) dM_produce_39 ?_
            refine z_iload_n (j := 1) X dM_produce_42 rfl rfl ?_
            refine z_iald (t0 := 0) X rfl rfl (by omega) (by decide) dM_produce_43 (hv := (hA.2.2.2.2.1 i (by omega)).1) ?_
            rcases (hI.1.2.2.2.1 i (by omega)).1 with hb1 | ⟨q, hq4, hq1⟩
            · refine z_if_ge (tgt := 51) X dM_produce_44 (by decide) (fun c_44 => absurd c_44 (by rw [hb1]; decide)) (fun c_44 => ?_)
              refine z_iconst (v := (nI 2)) X dM_produce_47 (by decide) ?_
              refine z_goto (tgt := 52) X dM_produce_48 (by decide) ?_
              refine z_puti (C := RM) (T := TM) (N := 28) (k := 27) X (w_in inM) rfl rfl rfl (by decide) (w_m lM_77) rfl tyM tyM_ok nmM rfl rfl (ty := .int) (by decide +kernel) rfl rfl dM_produce_52 ?_
              refine z_aload_n (j := 0) X dM_produce_55 rfl rfl ?_
              refine z_geti (C := RM) (T := TM) (N := 28) (k := 27) X (w_in inM) rfl rfl rfl (by decide) (w_m lM_77) rfl rfl dM_produce_56 (hv := rd_s) ?_
              refine z_if_eq (tgt := 64) X dM_produce_59 (by decide) (fun c_59 => absurd c_59 (by decide)) (fun c_59 => ?_)
              refine z_iconst (v := (nI 0)) X dM_produce_62 (by decide) ?_
              refine z_iret X hlocks hr dM_produce_63 (by omega) (by omega) ?_
              have hs : sProduce b (nI i) (nI t) n k v9 = ((2, 0), b) := by unfold sProduce; rw [zA_s hi (by decide), zT_s ht, if_neg (fun h => h.elim (fun h => h.elim c_24 (fun h => absurd c_31 (Int32.not_le.mpr h))) c_18), if_pos hb1]
              rw [hs]
              exact ⟨congrArg (fun z => some (Value.int z)) nI_0, rd_s, (zMdA_th hA), (zch.rf.tr (zch.i ⟨by omega, by omega⟩))⟩
            · refine z_if_ge (tgt := 51) X dM_produce_44 (by decide) (fun c_44 => ?_) (fun c_44 => absurd (by rw [hq1]; exact Int32.not_lt.mp (nI_pos (by omega))) c_44)
              have hbn : ¬ (b.2.2.1 i).1 = -1 := fun h => nI_m1 (by omega) (hq1.symm.trans h)
              have hpr : ∃ q, q < 4 ∧ (b.2.2.1 i).1 = nI q := ⟨_, hq4, hq1⟩
              refine z_iconst (v := (nI 0)) X dM_produce_51 (by decide) ?_
              refine z_puti (C := RM) (T := TM) (N := 28) (k := 27) X (w_in inM) rfl rfl rfl (by decide) (w_m lM_77) rfl tyM tyM_ok nmM rfl rfl (ty := .int) (by decide +kernel) rfl rfl dM_produce_52 ?_
              generalize hS1 : zsi S 1000 27 (nI 0) = S1
              have hA1 : zMdA S1 b := by rw [← hS1]; exact zMdA_th hA
              have h27 : S1.2.1 1000 27 = nI 0 := by rw [← hS1]; exact rd_s
              have hc1 : zch oM S S1 := by rw [← hS1]; exact zch.i ⟨by decide, by decide⟩
              refine z_aload_n (j := 0) X dM_produce_55 rfl rfl ?_
              refine z_geti (C := RM) (T := TM) (N := 28) (k := 27) X (w_in inM) rfl rfl rfl (by decide) (w_m lM_77) rfl rfl dM_produce_56 (hv := h27) ?_
              refine z_if_eq (tgt := 64) X dM_produce_59 (by decide) (fun c_59 => ?_) (fun c_59 => absurd c_59 (by decide))
              obtain ⟨N, hN, hx7⟩ := nI_of c_18
              subst hx7
              have hex := (hI.1.2.2.2.2.1 i t (by omega) ht12).1
              have hex2 : ((b.2.2.1 i).2.2.1 t) ≤ 60 := by omega
              refine z_iload_n (j := 1) X dM_produce_64 rfl rfl ?_
              refine z_bipush (v := (nI 12)) X dM_produce_65 (by decide) ?_
              refine z_imul X dM_produce_67 ?_
              refine z_top (pk_mul i 12) ?_
              refine z_iload_n (j := 2) X dM_produce_68 rfl rfl ?_
              refine z_iadd X dM_produce_69 ?_
              refine z_top (nI_add (i * 12) t) ?_
              refine z_istore (L' := [(6, .int (nI (i * 12 + t))), (0, .ref 1000), (1, .int (nI i)), (2, .int (nI t)), (3, .int (nI N)), (4, .int k), (5, .int v9)]) X dM_produce_70 (by decide) rfl ?_
              refine z_aload_n (j := 1) X dM_produce_72 rfl rfl ?_
              refine z_getr (C := RM) (T := TM) (N := 28) (k := 13) X (w_in inM) rfl rfl rfl (by decide) (w_m lM_50) rfl rfl (hA1.1.2 13 (by decide)) dM_produce_73 ?_
              refine z_iload (j := 0) X dM_produce_76 rfl ?_
              refine z_iald (t0 := 0) X rfl rfl (by omega) (by decide) dM_produce_78 (hv := ((hA1.2.2.2.2.1 i (by omega)).2.2.1 t ht12)) ?_
              refine z_iload_n (j := 4) X dM_produce_79 rfl rfl ?_
              refine z_isub X dM_produce_80 ?_
              refine z_istore (L' := [(7, .int ((nI ((b.2.2.1 i).2.2.1 t)) - (nI N))), (6, .int (nI (i * 12 + t))), (0, .ref 1000), (1, .int (nI i)), (2, .int (nI t)), (3, .int (nI N)), (4, .int k), (5, .int v9)]) X dM_produce_81 (by decide) rfl ?_
              refine z_iload (j := 0) X dM_produce_83 rfl ?_
              refine z_if_lt (tgt := 94) X dM_produce_85 (by decide) (fun c_85 => ?_) (fun c_85 => ?_)
              · have h85 := (zBk_lt hex2 hN).mp c_85
                refine z_aload_n (j := 2) X dM_produce_94 rfl rfl ?_
                refine z_iconst (v := (nI 3)) X dM_produce_95 (by decide) ?_
                refine z_puti (C := RM) (T := TM) (N := 28) (k := 27) X (w_in inM) rfl rfl rfl (by decide) (w_m lM_77) rfl tyM tyM_ok nmM rfl rfl (ty := .int) (by decide +kernel) rfl rfl dM_produce_96 ?_
                refine z_goto (tgt := 131) X dM_produce_99 (by decide) ?_
                refine z_aload_n (j := 2) X dM_produce_131 rfl rfl ?_
                refine z_geti (C := RM) (T := TM) (N := 28) (k := 27) X (w_in inM) rfl rfl rfl (by decide) (w_m lM_77) rfl rfl dM_produce_132 (hv := rd_s) ?_
                refine z_if_eq (tgt := 140) X dM_produce_135 (by decide) (fun c_135 => absurd c_135 (by decide)) (fun c_135 => ?_)
                refine z_iconst (v := (nI 0)) X dM_produce_138 (by decide) ?_
                refine z_iret X hlocks hr dM_produce_139 (by omega) (by omega) ?_
                have hs : sProduce b (nI i) (nI t) (nI N) k v9 = ((3, 0), b) := by unfold sProduce; rw [zA_s hi (by decide), zT_s ht, if_neg (fun h => h.elim (fun h => h.elim c_24 (fun h => absurd c_31 (Int32.not_le.mpr h))) c_18), if_neg hbn, nI_clamp hN, if_neg (by omega), if_pos (by omega)]
                rw [hs]
                exact ⟨congrArg (fun z => some (Value.int z)) nI_0, rd_s, (zMdA_th hA1), (hc1.tr (zch.i ⟨by omega, by omega⟩))⟩
              · have h85 : ¬ _ := fun h => c_85 ((zBk_lt hex2 hN).mpr h)
                refine z_iload (j := 0) X dM_produce_88 rfl ?_
                refine z_iconst (v := (nI 3)) X dM_produce_90 (by decide) ?_
                refine z_icmp_le (tgt := 102) X dM_produce_91 (by decide) (fun c_91 => ?_) (fun c_91 => ?_)
                · have h91 := (zBk_3 hex2 hN).mp c_91
                  refine z_aload_n (j := 2) X dM_produce_102 rfl rfl ?_
                  refine z_iload_n (j := 3) X dM_produce_103 rfl rfl ?_
                  refine z_callV (n := 1) (As := [.int (nI i)]) (rest := []) X zG0_m (mM_fenced l D dA hA1.1 (by omega) (hA1.2.2.2.2.1 i (by omega)) hA1.2.2.2.2.2.1 hpr) (w_V X.2.2.2.2.1 lM_126 jM_fenced sM_fenced i_LogBrokerModel kM_fenced rfl rfl (by decide +kernel) ⟨Nat.le_of_ble_eq_true rfl, Nat.le_of_ble_eq_true rfl⟩) rfl rfl rfl rfl rfl (Nat.le_of_ble_eq_true rfl) dM_produce_104 ⟨Nat.le_of_ble_eq_true rfl, Nat.le_of_ble_eq_true rfl⟩ (fun v S9 hp => ?_) (fun E S1 hx => hx.elim)
                  obtain ⟨hS9, hp⟩ := hp
                  have hS9 := hS9.symm
                  subst hS9
                  rcases hp with ⟨hv, hp⟩ | ⟨hv, hp⟩ <;> subst hv
                  · have hcu := hp
                    refine z_if_ne (tgt := 126) X dM_produce_107 (by decide) (fun c_107 => ?_) (fun c_107 => absurd c_107 (by decide))
                    refine z_aload_n (j := 2) X dM_produce_126 rfl rfl ?_
                    refine z_iconst (v := (nI 4)) X dM_produce_127 (by decide) ?_
                    refine z_puti (C := RM) (T := TM) (N := 28) (k := 27) X (w_in inM) rfl rfl rfl (by decide) (w_m lM_77) rfl tyM tyM_ok nmM rfl rfl (ty := .int) (by decide +kernel) rfl rfl dM_produce_128 ?_
                    refine z_aload_n (j := 2) X dM_produce_131 rfl rfl ?_
                    refine z_geti (C := RM) (T := TM) (N := 28) (k := 27) X (w_in inM) rfl rfl rfl (by decide) (w_m lM_77) rfl rfl dM_produce_132 (hv := rd_s) ?_
                    refine z_if_eq (tgt := 140) X dM_produce_135 (by decide) (fun c_135 => absurd c_135 (by decide)) (fun c_135 => ?_)
                    refine z_iconst (v := (nI 0)) X dM_produce_138 (by decide) ?_
                    refine z_iret X hlocks hr dM_produce_139 (by omega) (by omega) ?_
                    have hs : sProduce b (nI i) (nI t) (nI N) k v9 = ((4, 0), b) := by
                      unfold sProduce; rw [zA_s hi (by decide), zT_s ht, if_neg (fun h => h.elim (fun h => h.elim c_24 (fun h => absurd c_31 (Int32.not_le.mpr h))) c_18), if_neg hbn, nI_clamp hN]
                      by_cases h9 : N < ((b.2.2.1 i).2.2.1 t) ∧ ((b.2.2.1 i).2.2.1 t) ≤ N + 3
                      · rw [if_pos h9]
                        exact if_pos (by first | exact hcu | omega)
                      · rw [if_neg h9, if_neg (fun h => h (by omega))]
                        exact if_pos (by first | exact Or.inl hcu | exact Or.inr (by omega))
                    rw [hs]
                    exact ⟨congrArg (fun z => some (Value.int z)) nI_0, rd_s, (zMdA_th hA1), (hc1.tr (zch.i ⟨by omega, by omega⟩))⟩
                  · have hcu := hp
                    refine z_if_ne (tgt := 126) X dM_produce_107 (by decide) (fun c_107 => absurd c_107 (by decide)) (fun c_107 => ?_)
                    refine z_iload (j := 0) X dM_produce_110 rfl ?_
                    refine z_if_ne (tgt := 131) X dM_produce_112 (by decide) (fun c_112 => ?_) (fun c_112 => ?_)
                    · have h112 : ¬ _ := fun h => c_112 ((zBk_0 hex2 hN).mpr h)
                      refine z_aload_n (j := 2) X dM_produce_131 rfl rfl ?_
                      refine z_geti (C := RM) (T := TM) (N := 28) (k := 27) X (w_in inM) rfl rfl rfl (by decide) (w_m lM_77) rfl rfl dM_produce_132 (hv := h27) ?_
                      refine z_if_eq (tgt := 140) X dM_produce_135 (by decide) (fun c_135 => ?_) (fun c_135 => absurd c_135 (by decide))
                      refine z_iload (j := 0) X dM_produce_140 rfl ?_
                      refine z_if_le (tgt := 169) X dM_produce_142 (by decide) (fun c_142 => absurd ((zBk_le hex2 hN).mp c_142) (by omega)) (fun c_142 => ?_)
                      refine z_aload_n (j := 2) X dM_produce_145 rfl rfl ?_
                      refine z_dup X dM_produce_146 rfl ?_
                      refine z_geti (C := RM) (T := TM) (N := 28) (k := 23) X (w_in inM) rfl rfl rfl (by decide) (w_m lM_129) rfl rfl dM_produce_147 (hv := hA1.2.1.2.1) ?_
                      refine z_iconst (v := (nI 1)) X dM_produce_150 (by decide) ?_
                      refine z_iadd X dM_produce_151 ?_
                      refine z_puti (C := RM) (T := TM) (N := 28) (k := 23) X (w_in inM) rfl rfl rfl (by decide) (w_m lM_129) rfl tyM tyM_ok nmM rfl rfl (ty := .int) (by decide +kernel) rfl rfl dM_produce_152 ?_
                      refine z_aload_n (j := 2) X dM_produce_155 rfl rfl ?_
                      refine z_getr (C := RM) (T := TM) (N := 28) (k := 14) X (w_in inM) rfl rfl rfl (by decide) (w_m lM_53) rfl rfl (rp_i (hA1.1.2 14 (by decide))) dM_produce_156 ?_
                      refine z_iload (j := 1) X dM_produce_159 rfl ?_
                      refine z_iconst (v := (nI 3)) X dM_produce_161 (by decide) ?_
                      refine z_imul X dM_produce_162 ?_
                      refine z_top (pk_mul (i * 12 + t) 3) ?_
                      refine z_iload_n (j := 5) X dM_produce_163 rfl rfl ?_
                      refine z_iconst (v := (nI 3)) X dM_produce_164 (by decide) ?_
                      refine z_irem X dM_produce_165 (nI_ne0 (by omega) (by omega)) ?_
                      refine z_top (pk_rem (a := N) (d := 3) (by omega) (by omega) (by omega)) ?_
                      refine z_iadd X dM_produce_166 ?_
                      refine z_top (nI_add ((i * 12 + t) * 3) (N % 3)) ?_
                      refine z_iald (t0 := 0) X rfl rfl (by omega) (by decide) dM_produce_167 (hv := (rd_i (Or.inl (by omega)) (show S1.2.1 1015 ((i * 12 + t) * 3 + N % 3) = (b.2.2.1 i).2.2.2 (t * 3 + N % 3) from by rw [show (i * 12 + t) * 3 + N % 3 = i * 36 + (t * 3 + N % 3) by omega]; exact (hA1.2.2.2.2.1 i (by omega)).2.2.2 _ (by omega)))) ?_
                      refine z_iret X hlocks hr dM_produce_168 (by omega) (by omega) ?_
                      have hs : sProduce b (nI i) (nI t) (nI N) k v9 = ((0, (b.2.2.1 i).2.2.2 (t * 3 + N % 3)), bN b (b.2.2.2.2.2.2.1, b.2.2.2.2.2.2.2.1 + nI 1, b.2.2.2.2.2.2.2.2)) := by unfold sProduce; rw [zA_s hi (by decide), zT_s ht, if_neg (fun h => h.elim (fun h => h.elim c_24 (fun h => absurd c_31 (Int32.not_le.mpr h))) c_18), if_neg hbn, nI_clamp hN, if_pos ⟨by omega, by omega⟩, if_neg (fun h => h hcu)]
                      rw [hs]
                      exact ⟨rfl, (rd_i (Or.inr (by decide)) h27), zMdA_N hA1 (zch.i ⟨rfl, by omega, by omega⟩) ⟨rd_i (Or.inr (by decide)) hA1.2.1.1, rd_s, rd_i (Or.inr (by decide)) hA1.2.1.2.2.1, rd_i (Or.inr (by decide)) hA1.2.1.2.2.2.1, rd_i (Or.inr (by decide)) hA1.2.1.2.2.2.2⟩, (hc1.tr (zch.i ⟨by omega, by omega⟩))⟩
                    · have h112 := (zBk_0 hex2 hN).mp c_112
                      refine z_aload_n (j := 2) X dM_produce_115 rfl rfl ?_
                      refine z_getr (C := RM) (T := TM) (N := 28) (k := 5) X (w_in inM) rfl rfl rfl (by decide) (w_m lM_26) rfl rfl (hA1.1.2 5 (by decide)) dM_produce_116 ?_
                      refine z_iload_n (j := 4) X dM_produce_119 rfl rfl ?_
                      refine z_iald (t0 := 0) X rfl rfl (by omega) (by decide) dM_produce_120 (hv := (hA1.2.2.2.1 t ht12).2.1) ?_
                      refine z_bipush (v := (nI 60)) X dM_produce_121 (by decide) ?_
                      refine z_icmp_neN (tgt := 131) X dM_produce_123 (by decide) (by omega) (by omega) (fun c_123 => ?_) (fun c_123 => ?_)
                      · refine z_aload_n (j := 2) X dM_produce_131 rfl rfl ?_
                        refine z_geti (C := RM) (T := TM) (N := 28) (k := 27) X (w_in inM) rfl rfl rfl (by decide) (w_m lM_77) rfl rfl dM_produce_132 (hv := h27) ?_
                        refine z_if_eq (tgt := 140) X dM_produce_135 (by decide) (fun c_135 => ?_) (fun c_135 => absurd c_135 (by decide))
                        refine z_iload (j := 0) X dM_produce_140 rfl ?_
                        refine z_if_le (tgt := 169) X dM_produce_142 (by decide) (fun c_142 => ?_) (fun c_142 => absurd ((zBk_le hex2 hN).mpr (by omega)) c_142)
                        refine z_aload_n (j := 2) X dM_produce_169 rfl rfl ?_
                        refine z_getr (C := RM) (T := TM) (N := 28) (k := 13) X (w_in inM) rfl rfl rfl (by decide) (w_m lM_50) rfl rfl (hA1.1.2 13 (by decide)) dM_produce_170 ?_
                        refine z_iload (j := 1) X dM_produce_173 rfl ?_
                        refine z_dup2 X dM_produce_175 rfl rfl ?_
                        refine z_iald (t0 := 0) X rfl rfl (by omega) (by decide) dM_produce_176 (hv := ((hA1.2.2.2.2.1 i (by omega)).2.2.1 t ht12)) ?_
                        refine z_iconst (v := (nI 1)) X dM_produce_177 (by decide) ?_
                        refine z_iadd X dM_produce_178 ?_
                        refine z_top (nI_add ((b.2.2.1 i).2.2.1 t) 1) ?_
                        refine z_iast (t0 := 0) X rfl rfl (by omega) (by decide) dM_produce_179 ?_
                        refine z_aload_n (j := 2) X dM_produce_180 rfl rfl ?_
                        refine z_iload_n (j := 4) X dM_produce_181 rfl rfl ?_
                        refine z_iconst (v := (nI 0)) X dM_produce_182 (by decide) ?_
                        refine z_iload (j := 6) X dM_produce_183 rfl ?_
                        refine z_iload (j := 7) X dM_produce_185 rfl ?_
                        refine z_iload_n (j := 3) X dM_produce_187 rfl rfl ?_
                        have hac := (hI.1.2.2.2.1 i (by omega)).2
                        have hc8 : zch (oS i) S1 (zsi S1 1014 (i * 12 + t) (nI ((b.2.2.1 i).2.2.1 t + 1))) := zch.i (Or.inr (Or.inl ⟨rfl, by omega, by omega⟩))
                        have hU8 : mS (zsi S1 1014 (i * 12 + t) (nI ((b.2.2.1 i).2.2.1 t + 1))) i ((b.2.2.1 i).1, (b.2.2.1 i).2.1, (fun j => if j = t then ((b.2.2.1 i).2.2.1 t) + 1 else (b.2.2.1 i).2.2.1 j), (b.2.2.1 i).2.2.2) := by
                          obtain ⟨s1, s2, s3, s4⟩ := hA1.2.2.2.2.1 i (by omega)
                          refine ⟨rd_i (Or.inl (by omega)) s1, rd_i (Or.inl (by omega)) s2, fun j hj => ?_, fun j hj => rd_i (Or.inl (by omega)) (s4 j hj)⟩
                          show _ = nI (if j = t then _ else _)
                          by_cases e9 : j = t
                          · subst e9; rw [if_pos rfl]; exact rd_s
                          · rw [if_neg e9]; exact rd_i (Or.inr (by omega)) (s3 j hj)
                        have hA8 := zMdA_S hA1 hc8 hU8
                        have hcu9 := hcu
                        unfold zCur at hcu9
                        refine z_callV (n := 5) (As := [.int (nI t), .int (nI 0), .int k, .int v9, .int (nI i)]) (rest := []) X zG0_m (mM_write l D dA (w := 0) (cu := b.2.2.2.1) (g := b.2.1 t) ht12 hA8.1 (hA8.2.2.2.1 t ht12) hWg hVg (hA8.2.2.1.2 t ht).1 (hA8.2.2.1.2 t ht).2.1 (by omega) (by decide) (by omega) hU8 (fun _ _ => hcu9) (by
                          have h := zEW_pe (u := b.2.2.1 i) (k := k) (v := v9) hpr (zKey c_24 (Int32.not_lt.mpr c_31))
                          rw [← zWs_pe] at h
                          exact h)) (w_V X.2.2.2.2.1 lM_105 jM_write sM_write i_LogBrokerModel kM_write rfl rfl (by decide +kernel) ⟨Nat.le_of_ble_eq_true rfl, Nat.le_of_ble_eq_true rfl⟩) rfl rfl rfl rfl rfl (Nat.le_of_ble_eq_true rfl) dM_produce_188 ⟨Nat.le_of_ble_eq_true rfl, Nat.le_of_ble_eq_true rfl⟩ (fun v S9 hp => ?_) (fun E S1 hx => hx.elim)
                        obtain ⟨hv, hL9, h229, h259, hcv⟩ := hp
                        subst hv
                        have hpe : (nI 0, k, v9, (b.2.2.1 i).1, zWs 0 ((b.2.2.1 i).1, (b.2.2.1 i).2.1, (fun j => if j = t then (b.2.2.1 i).2.2.1 t + 1 else (b.2.2.1 i).2.2.1 j), (b.2.2.1 i).2.2.2)) = zPe (b.2.2.1 i) k v9 := zWs_pe (u := b.2.2.1 i)
                        rw [hpe] at hL9 h259
                        have hA9 := zMdA_wr (b := bS b i ((b.2.2.1 i).1, (b.2.2.1 i).2.1, (fun j => if j = t then (b.2.2.1 i).2.2.1 t + 1 else (b.2.2.1 i).2.2.1 j), (b.2.2.1 i).2.2.2)) (t := t) (e := zPe (b.2.2.1 i) k v9) hA8 (hcv.mono (fun n k h => oV_W h)) hL9 h229 h259 (hcv.2.2 _ _ (by unfold oV oL; omega)) (hcv.2.2 _ _ (by unfold oV oL; omega)) (hcv.2.2 _ _ (by unfold oV oL; omega))
                        refine z_istore (L' := [(8, .int (nI ((b.2.1 t).2.1.2))), (7, .int ((nI ((b.2.2.1 i).2.2.1 t)) - (nI N))), (6, .int (nI (i * 12 + t))), (0, .ref 1000), (1, .int (nI i)), (2, .int (nI t)), (3, .int (nI N)), (4, .int k), (5, .int v9)]) X dM_produce_191 (by decide) rfl ?_
                        refine z_aload_n (j := 3) X dM_produce_193 rfl rfl ?_
                        refine z_getr (C := RM) (T := TM) (N := 28) (k := 14) X (w_in inM) rfl rfl rfl (by decide) (w_m lM_53) rfl rfl (hA9.1.2 14 (by decide)) dM_produce_194 ?_
                        refine z_iload (j := 2) X dM_produce_197 rfl ?_
                        refine z_iconst (v := (nI 3)) X dM_produce_199 (by decide) ?_
                        refine z_imul X dM_produce_200 ?_
                        refine z_top (pk_mul (i * 12 + t) 3) ?_
                        refine z_iload_n (j := 6) X dM_produce_201 rfl rfl ?_
                        refine z_iconst (v := (nI 3)) X dM_produce_202 (by decide) ?_
                        refine z_irem X dM_produce_203 (nI_ne0 (by omega) (by omega)) ?_
                        refine z_top (pk_rem (a := N) (d := 3) (by omega) (by omega) (by omega)) ?_
                        refine z_iadd X dM_produce_204 ?_
                        refine z_top (nI_add ((i * 12 + t) * 3) (N % 3)) ?_
                        refine z_iload (j := 0) X dM_produce_205 rfl ?_
                        refine z_iast (t0 := 0) X rfl rfl (by omega) (by decide) dM_produce_207 ?_
                        have hA10 : zMdA (zsi S9 1015 ((i * 12 + t) * 3 + N % 3) (nI ((b.2.1 t).2.1.2))) (bS (bW b t (zPe (b.2.2.1 i) k v9)) i ((b.2.2.1 i).1, (b.2.2.1 i).2.1, (fun j => if j = t then ((b.2.2.1 i).2.2.1 t) + 1 else (b.2.2.1 i).2.2.1 j), fun j => if j = t * 3 + ((b.2.2.1 i).2.2.1 t) % 3 then nI (b.2.1 t).2.1.2 else (b.2.2.1 i).2.2.2 j)) := by
                          obtain ⟨s1, s2, s3, s4⟩ := hU8
                          have e1 : ∀ n k, oS i n k → S9.2.1 n k = (zsi S1 1014 (i * 12 + t) (nI (((b.2.2.1 i).2.2.1 t) + 1))).2.1 n k := fun n k h => hcv.2.2 n k (by unfold oS at h; unfold oV oL; omega)
                          have h10 := zMdA_S (i := i) (u := ((b.2.2.1 i).1, (b.2.2.1 i).2.1, (fun j => if j = t then ((b.2.2.1 i).2.2.1 t) + 1 else (b.2.2.1 i).2.2.1 j), fun j => if j = t * 3 + ((b.2.2.1 i).2.2.1 t) % 3 then nI (b.2.1 t).2.1.2 else (b.2.2.1 i).2.2.2 j)) hA9 (zch.i (n := 1015) (k := (i * 12 + t) * 3 + N % 3) (x := nI (b.2.1 t).2.1.2) (Or.inr (Or.inr ⟨rfl, by omega, by omega⟩))) ⟨rd_i (Or.inl (by omega)) ((e1 _ _ (Or.inl ⟨Or.inl rfl, rfl⟩)).trans s1), rd_i (Or.inl (by omega)) ((e1 _ _ (Or.inl ⟨Or.inr rfl, rfl⟩)).trans s2), fun j hj => rd_i (Or.inl (by omega)) ((e1 _ _ (Or.inr (Or.inl ⟨rfl, by omega, by omega⟩))).trans (s3 j hj)), fun j hj => ?_⟩
                          · have e2 : bS (bW (bS b i ((b.2.2.1 i).1, (b.2.2.1 i).2.1, (fun j => if j = t then ((b.2.2.1 i).2.2.1 t) + 1 else (b.2.2.1 i).2.2.1 j), (b.2.2.1 i).2.2.2)) t (zPe (b.2.2.1 i) k v9)) i ((b.2.2.1 i).1, (b.2.2.1 i).2.1, (fun j => if j = t then ((b.2.2.1 i).2.2.1 t) + 1 else (b.2.2.1 i).2.2.1 j), fun j => if j = t * 3 + ((b.2.2.1 i).2.2.1 t) % 3 then nI (b.2.1 t).2.1.2 else (b.2.2.1 i).2.2.2 j) = bS (bW b t (zPe (b.2.2.1 i) k v9)) i ((b.2.2.1 i).1, (b.2.2.1 i).2.1, (fun j => if j = t then ((b.2.2.1 i).2.2.1 t) + 1 else (b.2.2.1 i).2.2.1 j), fun j => if j = t * 3 + ((b.2.2.1 i).2.2.1 t) % 3 then nI (b.2.1 t).2.1.2 else (b.2.2.1 i).2.2.2 j) := bS_W
                            rw [← e2]; exact h10
                          · show _ = if j = t * 3 + ((b.2.2.1 i).2.2.1 t) % 3 then _ else _
                            by_cases e9 : j = t * 3 + ((b.2.2.1 i).2.2.1 t) % 3
                            · rw [if_pos e9, show i * 36 + j = (i * 12 + t) * 3 + N % 3 by rw [show N = ((b.2.2.1 i).2.2.1 t) by omega]; omega]; exact rd_s
                            · rw [if_neg e9]; exact rd_i (Or.inr (by rw [show N = ((b.2.2.1 i).2.2.1 t) by omega]; omega)) ((e1 _ _ (Or.inr (Or.inr ⟨rfl, by omega, by omega⟩))).trans (s4 j hj))
                        refine z_iload (j := 0) X dM_produce_208 rfl ?_
                        refine z_iret X hlocks hr dM_produce_210 (by omega) (by omega) ?_
                        have hcw := hcv.mono (o2 := oQ) (fun n k h => oV_Q h)
                        have hs : sProduce b (nI i) (nI t) (nI N) k v9 = ((0, nI (b.2.1 t).2.1.2), bS (bW b t (zPe (b.2.2.1 i) k v9)) i ((b.2.2.1 i).1, (b.2.2.1 i).2.1, (fun j => if j = t then ((b.2.2.1 i).2.2.1 t) + 1 else (b.2.2.1 i).2.2.1 j), fun j => if j = t * 3 + ((b.2.2.1 i).2.2.1 t) % 3 then nI (b.2.1 t).2.1.2 else (b.2.2.1 i).2.2.2 j)) := by unfold sProduce; rw [zA_s hi (by decide), zT_s ht, if_neg (fun h => h.elim (fun h => h.elim c_24 (fun h => absurd c_31 (Int32.not_le.mpr h))) c_18), if_neg hbn, nI_clamp hN, if_neg (by omega), if_neg (fun h => h (by omega)), if_neg (fun h => h.elim (fun h => h hcu) (fun h => h (by omega)))]
                        rw [hs]
                        exact ⟨rfl, rd_i (Or.inl (by omega)) ((hcv.2.2 _ _ (by unfold oV oL; omega)).trans (rd_i (Or.inl (by omega)) h27)), hA10, (((hc1.tr (hc8.mono (fun n k h => by unfold oS at h; exact ⟨by omega, by omega⟩))).tr (hcv.mono (fun n k h => ⟨(oV_Q h).1, (oV_Q h).2.1⟩))).tr (zch.i ⟨by omega, by omega⟩))⟩
                      · refine z_aload_n (j := 2) X dM_produce_126 rfl rfl ?_
                        refine z_iconst (v := (nI 4)) X dM_produce_127 (by decide) ?_
                        refine z_puti (C := RM) (T := TM) (N := 28) (k := 27) X (w_in inM) rfl rfl rfl (by decide) (w_m lM_77) rfl tyM tyM_ok nmM rfl rfl (ty := .int) (by decide +kernel) rfl rfl dM_produce_128 ?_
                        refine z_aload_n (j := 2) X dM_produce_131 rfl rfl ?_
                        refine z_geti (C := RM) (T := TM) (N := 28) (k := 27) X (w_in inM) rfl rfl rfl (by decide) (w_m lM_77) rfl rfl dM_produce_132 (hv := rd_s) ?_
                        refine z_if_eq (tgt := 140) X dM_produce_135 (by decide) (fun c_135 => absurd c_135 (by decide)) (fun c_135 => ?_)
                        refine z_iconst (v := (nI 0)) X dM_produce_138 (by decide) ?_
                        refine z_iret X hlocks hr dM_produce_139 (by omega) (by omega) ?_
                        have hs : sProduce b (nI i) (nI t) (nI N) k v9 = ((4, 0), b) := by
                          unfold sProduce; rw [zA_s hi (by decide), zT_s ht, if_neg (fun h => h.elim (fun h => h.elim c_24 (fun h => absurd c_31 (Int32.not_le.mpr h))) c_18), if_neg hbn, nI_clamp hN]
                          by_cases h9 : N < ((b.2.2.1 i).2.2.1 t) ∧ ((b.2.2.1 i).2.2.1 t) ≤ N + 3
                          · rw [if_pos h9]
                            exact if_pos (by first | exact hcu | omega)
                          · rw [if_neg h9, if_neg (fun h => h (by omega))]
                            exact if_pos (by first | exact Or.inl hcu | exact Or.inr (by omega))
                        rw [hs]
                        exact ⟨congrArg (fun z => some (Value.int z)) nI_0, rd_s, (zMdA_th hA1), (hc1.tr (zch.i ⟨by omega, by omega⟩))⟩
                · have h91 : ¬ _ := fun h => c_91 ((zBk_3 hex2 hN).mpr h)
                  refine z_aload_n (j := 2) X dM_produce_94 rfl rfl ?_
                  refine z_iconst (v := (nI 3)) X dM_produce_95 (by decide) ?_
                  refine z_puti (C := RM) (T := TM) (N := 28) (k := 27) X (w_in inM) rfl rfl rfl (by decide) (w_m lM_77) rfl tyM tyM_ok nmM rfl rfl (ty := .int) (by decide +kernel) rfl rfl dM_produce_96 ?_
                  refine z_goto (tgt := 131) X dM_produce_99 (by decide) ?_
                  refine z_aload_n (j := 2) X dM_produce_131 rfl rfl ?_
                  refine z_geti (C := RM) (T := TM) (N := 28) (k := 27) X (w_in inM) rfl rfl rfl (by decide) (w_m lM_77) rfl rfl dM_produce_132 (hv := rd_s) ?_
                  refine z_if_eq (tgt := 140) X dM_produce_135 (by decide) (fun c_135 => absurd c_135 (by decide)) (fun c_135 => ?_)
                  refine z_iconst (v := (nI 0)) X dM_produce_138 (by decide) ?_
                  refine z_iret X hlocks hr dM_produce_139 (by omega) (by omega) ?_
                  have hs : sProduce b (nI i) (nI t) (nI N) k v9 = ((3, 0), b) := by unfold sProduce; rw [zA_s hi (by decide), zT_s ht, if_neg (fun h => h.elim (fun h => h.elim c_24 (fun h => absurd c_31 (Int32.not_le.mpr h))) c_18), if_neg hbn, nI_clamp hN, if_neg (by omega), if_pos (by omega)]
                  rw [hs]
                  exact ⟨congrArg (fun z => some (Value.int z)) nI_0, rd_s, (zMdA_th hA1), (hc1.tr (zch.i ⟨by omega, by omega⟩))⟩
          · refine z_iconst (v := (nI 1)) X dM_produce_34 (by decide) ?_
            refine z_goto (tgt := 52) X dM_produce_35 (by decide) ?_
            refine z_puti (C := RM) (T := TM) (N := 28) (k := 27) X (w_in inM) rfl rfl rfl (by decide) (w_m lM_77) rfl tyM tyM_ok nmM rfl rfl (ty := .int) (by decide +kernel) rfl rfl dM_produce_52 ?_
            refine z_aload_n (j := 0) X dM_produce_55 rfl rfl ?_
            refine z_geti (C := RM) (T := TM) (N := 28) (k := 27) X (w_in inM) rfl rfl rfl (by decide) (w_m lM_77) rfl rfl dM_produce_56 (hv := rd_s) ?_
            refine z_if_eq (tgt := 64) X dM_produce_59 (by decide) (fun c_59 => absurd c_59 (by decide)) (fun c_59 => ?_)
            refine z_iconst (v := (nI 0)) X dM_produce_62 (by decide) ?_
            refine z_iret X hlocks hr dM_produce_63 (by omega) (by omega) ?_
            have hs : sProduce b (nI i) (nI t) n k v9 = ((1, 0), b) := by
              unfold sProduce
              first | rw [zA_n hbS] | (rw [zA_s hi (by decide)]; first | rw [zT_n hbL] | (rw [zT_s ht]; exact if_pos (by first | exact Or.inr c_18 | exact Or.inl (Or.inl c_24) | exact Or.inl (Or.inr (Int32.not_le.mp c_31)))))
            rw [hs]
            exact ⟨congrArg (fun z => some (Value.int z)) nI_0, rd_s, (zMdA_th hA), (zch.rf.tr (zch.i ⟨by omega, by omega⟩))⟩
