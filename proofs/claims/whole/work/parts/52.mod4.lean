/-! CONTRACTS of the reference: beginning, ending, fetching, telling, groups (rows by program) -/
set_option maxHeartbeats 600000 in
set_option maxRecDepth 100000 in
theorem mM_begin (l : Launch) (D : va_G) (dA : Nat → ClassId) {S : zS} {b : zBr} {x : Int32} (hA : zMdA S b) (hI : zInv b)  : zMet l D vwCl zKK dA (zG0 D dA) yM_begin (Cond.code yM_begin cM_begin 2 none :: zTs) { frames := 1, cells := 0, slots := 0, locals := 21 } 0 0 [.ref 1000, .int x] S (fun v S' => v = none ∧ S'.2.1 1000 27 = nI (sBegin b x).1.1 ∧ zMdA S' (sBegin b x).2 ∧ zch oM S S') (fun _ _ => False) := by
  refine z_met (tys := ztys dA) (by decide) rfl zG0_K rfl (Nat.le_of_ble_eq_true rfl) (fun p e s m args below meth c A ad X hr hlocks hin hex => ?_)
  refine z_aload_n (j := 0) X dM_begin_0 rfl rfl ?_
  refine z_aload_n (j := 0) X dM_begin_1 rfl rfl ?_
  refine z_iload_n (j := 1) X dM_begin_2 rfl rfl ?_
  refine z_callV (n := 1) (As := [.int x]) (rest := [.ref 1000]) X zG0_m (mM_badSession l D dA) (w_V X.2.2.2.2.1 lM_112 jM_badSession sM_badSession i_LogBrokerModel kM_badSession rfl rfl (by decide +kernel) ⟨Nat.le_of_ble_eq_true rfl, Nat.le_of_ble_eq_true rfl⟩) rfl rfl rfl rfl rfl (Nat.le_of_ble_eq_true rfl) dM_begin_3 ⟨Nat.le_of_ble_eq_true rfl, Nat.le_of_ble_eq_true rfl⟩ (fun v S9 hp => ?_) (fun E S1 hx => hx.elim)
  obtain ⟨hS9, hp⟩ := hp
  have hS9 := hS9.symm
  subst hS9
  rcases hp with ⟨hv, hp⟩ | ⟨hv, hp⟩ <;> subst hv
  · have hbS := hp
    refine z_if_eq (tgt := 13) X dM_begin_6 (by decide) (fun c_6 => absurd c_6 (by decide)) (fun c_6 => ?_)
    refine z_iconst (v := (nI 1)) X dM_begin_9 (by decide) ?_
    refine z_goto (tgt := 52) X dM_begin_10 (by decide) ?_
    refine z_puti (C := RM) (T := TM) (N := 28) (k := 27) X (w_in inM) rfl rfl rfl (by decide) (w_m lM_77) rfl tyM tyM_ok nmM rfl rfl (ty := .int) (by decide +kernel) rfl rfl dM_begin_52 ?_
    refine z_aload_n (j := 0) X dM_begin_55 rfl rfl ?_
    refine z_geti (C := RM) (T := TM) (N := 28) (k := 27) X (w_in inM) rfl rfl rfl (by decide) (w_m lM_77) rfl rfl dM_begin_56 (hv := rd_s) ?_
    refine z_if_ne (tgt := 69) X dM_begin_59 (by decide) (fun c_59 => ?_) (fun c_59 => absurd c_59 (by decide))
    refine z_vret X hlocks hr dM_begin_69 (by omega) (by omega) ?_
    have hs : sBegin b x = ((1, 0), b) := by unfold sBegin; rw [zA_n hbS]
    rw [hs]
    exact ⟨rfl, rd_s, (zMdA_th hA), (zch.rf.tr (zch.i ⟨by omega, by omega⟩))⟩
  · obtain ⟨i, hx9, hi⟩ := hp
    subst hx9
    refine z_if_eq (tgt := 13) X dM_begin_6 (by decide) (fun c_6 => ?_) (fun c_6 => absurd c_6 (by decide))
    refine z_aload_n (j := 0) X dM_begin_13 rfl rfl ?_
    refine z_getr (C := RM) (T := TM) (N := 28) (k := 12) X (w_in inM) rfl rfl rfl (by decide) (w_m lM_47) rfl rfl (hA.1.2 12 (by decide)) dM_begin_14 ?_
    refine z_iload_n (j := 1) X dM_begin_17 rfl rfl ?_
    refine z_iald (t0 := 0) X rfl rfl (by omega) (by decide) dM_begin_18 (hv := (hA.2.2.2.2.1 i (by omega)).1) ?_
    rcases (hI.1.2.2.2.1 i (by omega)).1 with hb1 | ⟨q, hq4, hq1⟩
    · refine z_if_ge (tgt := 26) X dM_begin_19 (by decide) (fun c_19 => absurd c_19 (by rw [hb1]; decide)) (fun c_19 => ?_)
      refine z_iconst (v := (nI 2)) X dM_begin_22 (by decide) ?_
      refine z_goto (tgt := 52) X dM_begin_23 (by decide) ?_
      refine z_puti (C := RM) (T := TM) (N := 28) (k := 27) X (w_in inM) rfl rfl rfl (by decide) (w_m lM_77) rfl tyM tyM_ok nmM rfl rfl (ty := .int) (by decide +kernel) rfl rfl dM_begin_52 ?_
      refine z_aload_n (j := 0) X dM_begin_55 rfl rfl ?_
      refine z_geti (C := RM) (T := TM) (N := 28) (k := 27) X (w_in inM) rfl rfl rfl (by decide) (w_m lM_77) rfl rfl dM_begin_56 (hv := rd_s) ?_
      refine z_if_ne (tgt := 69) X dM_begin_59 (by decide) (fun c_59 => ?_) (fun c_59 => absurd c_59 (by decide))
      refine z_vret X hlocks hr dM_begin_69 (by omega) (by omega) ?_
      have hs : sBegin b (nI i) = ((2, 0), b) := by unfold sBegin; rw [zA_s hi (by decide), if_pos hb1]
      rw [hs]
      exact ⟨rfl, rd_s, (zMdA_th hA), (zch.rf.tr (zch.i ⟨by omega, by omega⟩))⟩
    · refine z_if_ge (tgt := 26) X dM_begin_19 (by decide) (fun c_19 => ?_) (fun c_19 => absurd (by rw [hq1]; exact Int32.not_lt.mp (nI_pos (by omega))) c_19)
      have hbn : ¬ (b.2.2.1 i).1 = -1 := fun h => nI_m1 (by omega) (hq1.symm.trans h)
      have hpr : ∃ q, q < 4 ∧ (b.2.2.1 i).1 = nI q := ⟨_, hq4, hq1⟩
      refine z_aload_n (j := 0) X dM_begin_26 rfl rfl ?_
      refine z_getr (C := RM) (T := TM) (N := 28) (k := 15) X (w_in inM) rfl rfl rfl (by decide) (w_m lM_56) rfl rfl (hA.1.2 15 (by decide)) dM_begin_27 ?_
      refine z_iload_n (j := 1) X dM_begin_30 rfl rfl ?_
      refine z_zald (t0 := 1) X rfl rfl (by omega) (by decide) dM_begin_31 (hv := (hA.2.2.2.2.1 i (by omega)).2.1) ?_
      refine z_if_eq (tgt := 39) X dM_begin_32 (by decide) (fun c_32 => ?_) (fun c_32 => ?_)
      · refine z_aload_n (j := 0) X dM_begin_39 rfl rfl ?_
        refine z_iload_n (j := 1) X dM_begin_40 rfl rfl ?_
        refine z_callV (n := 1) (As := [.int (nI i)]) (rest := [.ref 1000]) X zG0_m (mM_fenced l D dA hA.1 (by omega) (hA.2.2.2.2.1 i (by omega)) hA.2.2.2.2.2.1 hpr) (w_V X.2.2.2.2.1 lM_126 jM_fenced sM_fenced i_LogBrokerModel kM_fenced rfl rfl (by decide +kernel) ⟨Nat.le_of_ble_eq_true rfl, Nat.le_of_ble_eq_true rfl⟩) rfl rfl rfl rfl rfl (Nat.le_of_ble_eq_true rfl) dM_begin_41 ⟨Nat.le_of_ble_eq_true rfl, Nat.le_of_ble_eq_true rfl⟩ (fun v S9 hp => ?_) (fun E S1 hx => hx.elim)
        obtain ⟨hS9, hp⟩ := hp
        have hS9 := hS9.symm
        subst hS9
        rcases hp with ⟨hv, hp⟩ | ⟨hv, hp⟩ <;> subst hv
        · have hcu := hp
          refine z_if_eq (tgt := 51) X dM_begin_44 (by decide) (fun c_44 => absurd c_44 (by decide)) (fun c_44 => ?_)
          refine z_iconst (v := (nI 4)) X dM_begin_47 (by decide) ?_
          refine z_goto (tgt := 52) X dM_begin_48 (by decide) ?_
          refine z_puti (C := RM) (T := TM) (N := 28) (k := 27) X (w_in inM) rfl rfl rfl (by decide) (w_m lM_77) rfl tyM tyM_ok nmM rfl rfl (ty := .int) (by decide +kernel) rfl rfl dM_begin_52 ?_
          refine z_aload_n (j := 0) X dM_begin_55 rfl rfl ?_
          refine z_geti (C := RM) (T := TM) (N := 28) (k := 27) X (w_in inM) rfl rfl rfl (by decide) (w_m lM_77) rfl rfl dM_begin_56 (hv := rd_s) ?_
          refine z_if_ne (tgt := 69) X dM_begin_59 (by decide) (fun c_59 => ?_) (fun c_59 => absurd c_59 (by decide))
          refine z_vret X hlocks hr dM_begin_69 (by omega) (by omega) ?_
          have hs : sBegin b (nI i) = ((4, 0), b) := by unfold sBegin; rw [zA_s hi (by decide), if_neg hbn, if_neg (fun h => h (c_32.trans nI_0.symm)), if_pos (show ¬ b.2.2.2.1 (b.2.2.1 i).1.toNatClampNeg = nI i from hcu)]
          rw [hs]
          exact ⟨rfl, rd_s, (zMdA_th hA), (zch.rf.tr (zch.i ⟨by omega, by omega⟩))⟩
        · have hcu := hp
          refine z_if_eq (tgt := 51) X dM_begin_44 (by decide) (fun c_44 => ?_) (fun c_44 => absurd c_44 (by decide))
          refine z_iconst (v := (nI 0)) X dM_begin_51 (by decide) ?_
          refine z_puti (C := RM) (T := TM) (N := 28) (k := 27) X (w_in inM) rfl rfl rfl (by decide) (w_m lM_77) rfl tyM tyM_ok nmM rfl rfl (ty := .int) (by decide +kernel) rfl rfl dM_begin_52 ?_
          generalize hS1 : zsi S 1000 27 (nI 0) = S1
          have hA1 : zMdA S1 b := by rw [← hS1]; exact zMdA_th hA
          have h27 : S1.2.1 1000 27 = nI 0 := by rw [← hS1]; exact rd_s
          have hc1 : zch oM S S1 := by rw [← hS1]; exact zch.i ⟨by decide, by decide⟩
          refine z_aload_n (j := 0) X dM_begin_55 rfl rfl ?_
          refine z_geti (C := RM) (T := TM) (N := 28) (k := 27) X (w_in inM) rfl rfl rfl (by decide) (w_m lM_77) rfl rfl dM_begin_56 (hv := h27) ?_
          refine z_if_ne (tgt := 69) X dM_begin_59 (by decide) (fun c_59 => absurd c_59 (by decide)) (fun c_59 => ?_)
          refine z_aload_n (j := 0) X dM_begin_62 rfl rfl ?_
          refine z_getr (C := RM) (T := TM) (N := 28) (k := 15) X (w_in inM) rfl rfl rfl (by decide) (w_m lM_56) rfl rfl (hA1.1.2 15 (by decide)) dM_begin_63 ?_
          refine z_iload_n (j := 1) X dM_begin_66 rfl rfl ?_
          refine z_iconst (v := (nI 1)) X dM_begin_67 (by decide) ?_
          refine z_zast (t0 := 1) X rfl rfl (by omega) (by decide) (Or.inr rfl) dM_begin_68 ?_
          refine z_vret X hlocks hr dM_begin_69 (by omega) (by omega) ?_
          have hs : sBegin b (nI i) = ((0, 0), bS b i ((b.2.2.1 i).1, nI 1, (b.2.2.1 i).2.2)) := by unfold sBegin; rw [zA_s hi (by decide), if_neg hbn, if_neg (fun h => h (c_32.trans nI_0.symm)), if_neg (fun h => h hcu)]
          rw [hs]
          exact ⟨rfl, (rd_i (Or.inl (by omega)) h27), zMdA_S hA1 (zch.i (Or.inl ⟨Or.inr rfl, rfl⟩)) ⟨rd_i (Or.inl (by omega)) (hA1.2.2.2.2.1 i (by omega)).1, rd_s, fun t ht => rd_i (Or.inl (by omega)) ((hA1.2.2.2.2.1 i (by omega)).2.2.1 t ht), fun k hk => rd_i (Or.inl (by omega)) ((hA1.2.2.2.2.1 i (by omega)).2.2.2 k hk)⟩, (hc1.tr (zch.i ⟨by omega, by omega⟩))⟩
      · refine z_iconst (v := (nI 3)) X dM_begin_35 (by decide) ?_
        refine z_goto (tgt := 52) X dM_begin_36 (by decide) ?_
        refine z_puti (C := RM) (T := TM) (N := 28) (k := 27) X (w_in inM) rfl rfl rfl (by decide) (w_m lM_77) rfl tyM tyM_ok nmM rfl rfl (ty := .int) (by decide +kernel) rfl rfl dM_begin_52 ?_
        refine z_aload_n (j := 0) X dM_begin_55 rfl rfl ?_
        refine z_geti (C := RM) (T := TM) (N := 28) (k := 27) X (w_in inM) rfl rfl rfl (by decide) (w_m lM_77) rfl rfl dM_begin_56 (hv := rd_s) ?_
        refine z_if_ne (tgt := 69) X dM_begin_59 (by decide) (fun c_59 => ?_) (fun c_59 => absurd c_59 (by decide))
        refine z_vret X hlocks hr dM_begin_69 (by omega) (by omega) ?_
        have hs : sBegin b (nI i) = ((3, 0), b) := by unfold sBegin; rw [zA_s hi (by decide), if_neg hbn, if_pos (fun h => c_32 (h.trans nI_0))]
        rw [hs]
        exact ⟨rfl, rd_s, (zMdA_th hA), (zch.rf.tr (zch.i ⟨by omega, by omega⟩))⟩

set_option maxHeartbeats 600000 in
set_option maxRecDepth 100000 in
theorem mM_end (l : Launch) (D : va_G) (dA : Nat → ClassId) {S : zS} {b : zBr} {x : Int32} {c9 : Bool} (hA : zMdA S b) (hI : zInv b)  : zMet l D vwCl zKK dA (zG0 D dA) yM_end (Cond.code yM_end cM_end 3 (some .int) :: zTs) { frames := 5, cells := 0, slots := 0, locals := 116 } 0 0 [.ref 1000, .int x, .int (zB c9)] S (fun v S' => v = some (.int (sEnd b x c9).1.2) ∧ S'.2.1 1000 27 = nI (sEnd b x c9).1.1 ∧ zMdA S' (sEnd b x c9).2 ∧ zch oM S S') (fun _ _ => False) := by
  refine z_met (tys := ztys dA) (by decide) rfl zG0_K rfl (Nat.le_of_ble_eq_true rfl) (fun p e s m args below meth c A ad X hr hlocks hin hex => ?_)
  refine z_aload_n (j := 0) X dM_end_0 rfl rfl ?_
  refine z_aload_n (j := 0) X dM_end_1 rfl rfl ?_
  refine z_iload_n (j := 1) X dM_end_2 rfl rfl ?_
  refine z_callV (n := 1) (As := [.int x]) (rest := [.ref 1000]) X zG0_m (mM_badSession l D dA) (w_V X.2.2.2.2.1 lM_112 jM_badSession sM_badSession i_LogBrokerModel kM_badSession rfl rfl (by decide +kernel) ⟨Nat.le_of_ble_eq_true rfl, Nat.le_of_ble_eq_true rfl⟩) rfl rfl rfl rfl rfl (Nat.le_of_ble_eq_true rfl) dM_end_3 ⟨Nat.le_of_ble_eq_true rfl, Nat.le_of_ble_eq_true rfl⟩ (fun v S9 hp => ?_) (fun E S1 hx => hx.elim)
  obtain ⟨hS9, hp⟩ := hp
  have hS9 := hS9.symm
  subst hS9
  rcases hp with ⟨hv, hp⟩ | ⟨hv, hp⟩ <;> subst hv
  · have hbS := hp
    refine z_if_eq (tgt := 13) X dM_end_6 (by decide) (fun c_6 => absurd c_6 (by decide)) (fun c_6 => ?_)
    refine z_iconst (v := (nI 1)) X dM_end_9 (by decide) ?_
    refine z_goto (tgt := 60) X dM_end_10 (by decide) ?_
    refine z_puti (C := RM) (T := TM) (N := 28) (k := 27) X (w_in inM) rfl rfl rfl (by decide) (w_m lM_77) rfl tyM tyM_ok nmM rfl rfl (ty := .int) (by decide +kernel) rfl rfl dM_end_60 ?_
    refine z_aload_n (j := 0) X dM_end_63 rfl rfl ?_
    refine z_geti (C := RM) (T := TM) (N := 28) (k := 27) X (w_in inM) rfl rfl rfl (by decide) (w_m lM_77) rfl rfl dM_end_64 (hv := rd_s) ?_
    refine z_if_ne (tgt := 79) X dM_end_67 (by decide) (fun c_67 => ?_) (fun c_67 => absurd c_67 (by decide))
    refine z_iconst (v := (nI 0)) X dM_end_79 (by decide) ?_
    refine z_iret X hlocks hr dM_end_80 (by omega) (by omega) ?_
    have hs : sEnd b x c9 = ((1, 0), b) := by unfold sEnd; rw [zA_n hbS]
    rw [hs]
    exact ⟨congrArg (fun z => some (Value.int z)) nI_0, rd_s, (zMdA_th hA), (zch.rf.tr (zch.i ⟨by omega, by omega⟩))⟩
  · obtain ⟨i, hx9, hi⟩ := hp
    subst hx9
    refine z_if_eq (tgt := 13) X dM_end_6 (by decide) (fun c_6 => ?_) (fun c_6 => absurd c_6 (by decide))
    refine z_aload_n (j := 0) X dM_end_13 rfl rfl ?_
    refine z_getr (C := RM) (T := TM) (N := 28) (k := 12) X (w_in inM) rfl rfl rfl (by decide) (w_m lM_47) rfl rfl (hA.1.2 12 (by decide)) dM_end_14 ?_
    refine z_iload_n (j := 1) X dM_end_17 rfl rfl ?_
    refine z_iald (t0 := 0) X rfl rfl (by omega) (by decide) dM_end_18 (hv := (hA.2.2.2.2.1 i (by omega)).1) ?_
    rcases (hI.1.2.2.2.1 i (by omega)).1 with hb1 | ⟨q, hq4, hq1⟩
    · refine z_if_ge (tgt := 26) X dM_end_19 (by decide) (fun c_19 => absurd c_19 (by rw [hb1]; decide)) (fun c_19 => ?_)
      refine z_iconst (v := (nI 2)) X dM_end_22 (by decide) ?_
      refine z_goto (tgt := 60) X dM_end_23 (by decide) ?_
      refine z_puti (C := RM) (T := TM) (N := 28) (k := 27) X (w_in inM) rfl rfl rfl (by decide) (w_m lM_77) rfl tyM tyM_ok nmM rfl rfl (ty := .int) (by decide +kernel) rfl rfl dM_end_60 ?_
      refine z_aload_n (j := 0) X dM_end_63 rfl rfl ?_
      refine z_geti (C := RM) (T := TM) (N := 28) (k := 27) X (w_in inM) rfl rfl rfl (by decide) (w_m lM_77) rfl rfl dM_end_64 (hv := rd_s) ?_
      refine z_if_ne (tgt := 79) X dM_end_67 (by decide) (fun c_67 => ?_) (fun c_67 => absurd c_67 (by decide))
      refine z_iconst (v := (nI 0)) X dM_end_79 (by decide) ?_
      refine z_iret X hlocks hr dM_end_80 (by omega) (by omega) ?_
      have hs : sEnd b (nI i) c9 = ((2, 0), b) := by unfold sEnd; rw [zA_s hi (by decide), if_pos hb1]
      rw [hs]
      exact ⟨congrArg (fun z => some (Value.int z)) nI_0, rd_s, (zMdA_th hA), (zch.rf.tr (zch.i ⟨by omega, by omega⟩))⟩
    · refine z_if_ge (tgt := 26) X dM_end_19 (by decide) (fun c_19 => ?_) (fun c_19 => absurd (by rw [hq1]; exact Int32.not_lt.mp (nI_pos (by omega))) c_19)
      have hbn : ¬ (b.2.2.1 i).1 = -1 := fun h => nI_m1 (by omega) (hq1.symm.trans h)
      have hpr : ∃ q, q < 4 ∧ (b.2.2.1 i).1 = nI q := ⟨_, hq4, hq1⟩
      refine z_aload_n (j := 0) X dM_end_26 rfl rfl ?_
      refine z_getr (C := RM) (T := TM) (N := 28) (k := 15) X (w_in inM) rfl rfl rfl (by decide) (w_m lM_56) rfl rfl (hA.1.2 15 (by decide)) dM_end_27 ?_
      refine z_iload_n (j := 1) X dM_end_30 rfl rfl ?_
      refine z_zald (t0 := 1) X rfl rfl (by omega) (by decide) dM_end_31 (hv := (hA.2.2.2.2.1 i (by omega)).2.1) ?_
      refine z_if_ne (tgt := 39) X dM_end_32 (by decide) (fun c_32 => ?_) (fun c_32 => ?_)
      · refine z_aload_n (j := 0) X dM_end_39 rfl rfl ?_
        refine z_iload_n (j := 1) X dM_end_40 rfl rfl ?_
        have hact : (b.2.2.1 i).2.1 = nI 1 := (hI.1.2.2.2.1 i (by omega)).2.resolve_left (fun h => c_32 (h.trans nI_0))
        obtain ⟨q2, hq5, hq6, hq7⟩ := hI.2.2.2.1 i (by omega) hact
        have hcu : zCur b i := by unfold zCur; rw [hq6, nI_clamp (by omega)]; exact hq7
        refine z_callV (n := 1) (As := [.int (nI i)]) (rest := [.ref 1000]) X zG0_m (mM_fenced l D dA hA.1 (by omega) (hA.2.2.2.2.1 i (by omega)) hA.2.2.2.2.2.1 hpr) (w_V X.2.2.2.2.1 lM_126 jM_fenced sM_fenced i_LogBrokerModel kM_fenced rfl rfl (by decide +kernel) ⟨Nat.le_of_ble_eq_true rfl, Nat.le_of_ble_eq_true rfl⟩) rfl rfl rfl rfl rfl (Nat.le_of_ble_eq_true rfl) dM_end_41 ⟨Nat.le_of_ble_eq_true rfl, Nat.le_of_ble_eq_true rfl⟩ (fun v S9 hp => ?_) (fun E S1 hx => hx.elim)
        obtain ⟨hS9, hp⟩ := hp
        have hS9 := hS9.symm
        subst hS9
        rcases hp with ⟨hv, hp⟩ | ⟨hv, hp⟩ <;> subst hv
        · exact absurd hcu hp
        · refine z_if_ne (tgt := 55) X dM_end_44 (by decide) (fun c_44 => absurd c_44 (by decide)) (fun c_44 => ?_)
          refine z_aload_n (j := 0) X dM_end_47 rfl rfl ?_
          refine z_iload_n (j := 1) X dM_end_48 rfl rfl ?_
          refine z_callV (n := 1) (As := [.int (nI i)]) (rest := [.ref 1000]) X zG0_m (mM_roomToEnd l D dA (b := b) (q := (b.2.2.1 i).1) hA.1 hA.2.2.2.1 (fun t ht => zBrW_a hI.1 hI.2.1 ht) (fun t ht o e he _ => zHq hI.2.2.1 (fun t ht => (zBrW_a hI.1 hI.2.1 ht).2) (by omega) hpr hcu ht he)) (w_V X.2.2.2.2.1 lM_116 jM_roomToEnd sM_roomToEnd i_LogBrokerModel kM_roomToEnd rfl rfl (by decide +kernel) ⟨Nat.le_of_ble_eq_true rfl, Nat.le_of_ble_eq_true rfl⟩) rfl rfl rfl rfl rfl (Nat.le_of_ble_eq_true rfl) dM_end_49 ⟨Nat.le_of_ble_eq_true rfl, Nat.le_of_ble_eq_true rfl⟩ (fun v S9 hp => ?_) (fun E S1 hx => hx.elim)
          obtain ⟨hS9, hp⟩ := hp
          have hS9 := hS9.symm
          subst hS9
          rcases hp with ⟨hv, hp⟩ | ⟨hv, hp⟩ <;> subst hv
          · have hrm := hp
            refine z_if_ne (tgt := 59) X dM_end_52 (by decide) (fun c_52 => ?_) (fun c_52 => absurd c_52 (by decide))
            refine z_iconst (v := (nI 0)) X dM_end_59 (by decide) ?_
            refine z_puti (C := RM) (T := TM) (N := 28) (k := 27) X (w_in inM) rfl rfl rfl (by decide) (w_m lM_77) rfl tyM tyM_ok nmM rfl rfl (ty := .int) (by decide +kernel) rfl rfl dM_end_60 ?_
            generalize hS1 : zsi S 1000 27 (nI 0) = S1
            have hA1 : zMdA S1 b := by rw [← hS1]; exact zMdA_th hA
            have h27 : S1.2.1 1000 27 = nI 0 := by rw [← hS1]; exact rd_s
            have hc1 : zch oM S S1 := by rw [← hS1]; exact zch.i ⟨by decide, by decide⟩
            refine z_aload_n (j := 0) X dM_end_63 rfl rfl ?_
            refine z_geti (C := RM) (T := TM) (N := 28) (k := 27) X (w_in inM) rfl rfl rfl (by decide) (w_m lM_77) rfl rfl dM_end_64 (hv := h27) ?_
            refine z_if_ne (tgt := 79) X dM_end_67 (by decide) (fun c_67 => absurd c_67 (by decide)) (fun c_67 => ?_)
            refine z_aload_n (j := 0) X dM_end_70 rfl rfl ?_
            refine z_iload_n (j := 1) X dM_end_71 rfl rfl ?_
            refine z_iload_n (j := 2) X dM_end_72 rfl rfl ?_
            refine z_callV (n := 2) (As := [.int (nI i), .int (zB c9)]) (rest := []) X zG0_m (mM_finish l D dA c9 hA1 hI (by omega) hpr hcu hrm) (w_V X.2.2.2.2.1 lM_119 jM_finish sM_finish i_LogBrokerModel kM_finish rfl rfl (by decide +kernel) ⟨Nat.le_of_ble_eq_true rfl, Nat.le_of_ble_eq_true rfl⟩) rfl rfl rfl rfl rfl (Nat.le_of_ble_eq_true rfl) dM_end_73 ⟨Nat.le_of_ble_eq_true rfl, Nat.le_of_ble_eq_true rfl⟩ (fun v S9 hp => ?_) (fun E S1 hx => hx.elim)
            obtain ⟨hv, hA9, hc9⟩ := hp
            subst hv
            refine z_goto (tgt := 80) X dM_end_76 (by decide) ?_
            refine z_iret X hlocks hr dM_end_80 (by omega) (by omega) ?_
            have hs : sEnd b (nI i) c9 = ((0, nI (zcnt (zU b (b.2.2.1 i).1) 12 0)), sDec b i c9) := by unfold sEnd; rw [zA_s hi (by decide), if_neg hbn, if_neg (fun h => c_32 (h.trans nI_0)), if_neg (fun h => h hrm)]
            rw [hs]
            exact ⟨rfl, (hc9.2.2 _ _ (by unfold oQ; omega)).trans h27, hA9, hc1.tr (hc9.mono (fun n k h => ⟨h.1, h.2.1⟩))⟩
          · have hrm := hp
            refine z_if_ne (tgt := 59) X dM_end_52 (by decide) (fun c_52 => absurd c_52 (by decide)) (fun c_52 => ?_)
            refine z_iconst (v := (nI 4)) X dM_end_55 (by decide) ?_
            refine z_goto (tgt := 60) X dM_end_56 (by decide) ?_
            refine z_puti (C := RM) (T := TM) (N := 28) (k := 27) X (w_in inM) rfl rfl rfl (by decide) (w_m lM_77) rfl tyM tyM_ok nmM rfl rfl (ty := .int) (by decide +kernel) rfl rfl dM_end_60 ?_
            refine z_aload_n (j := 0) X dM_end_63 rfl rfl ?_
            refine z_geti (C := RM) (T := TM) (N := 28) (k := 27) X (w_in inM) rfl rfl rfl (by decide) (w_m lM_77) rfl rfl dM_end_64 (hv := rd_s) ?_
            refine z_if_ne (tgt := 79) X dM_end_67 (by decide) (fun c_67 => ?_) (fun c_67 => absurd c_67 (by decide))
            refine z_iconst (v := (nI 0)) X dM_end_79 (by decide) ?_
            refine z_iret X hlocks hr dM_end_80 (by omega) (by omega) ?_
            have hs : sEnd b (nI i) c9 = ((4, 0), b) := by unfold sEnd; rw [zA_s hi (by decide), if_neg hbn, if_neg (fun h => c_32 (h.trans nI_0)), if_pos hrm]
            rw [hs]
            exact ⟨congrArg (fun z => some (Value.int z)) nI_0, rd_s, (zMdA_th hA), (zch.rf.tr (zch.i ⟨by omega, by omega⟩))⟩
      · refine z_iconst (v := (nI 3)) X dM_end_35 (by decide) ?_
        refine z_goto (tgt := 60) X dM_end_36 (by decide) ?_
        refine z_puti (C := RM) (T := TM) (N := 28) (k := 27) X (w_in inM) rfl rfl rfl (by decide) (w_m lM_77) rfl tyM tyM_ok nmM rfl rfl (ty := .int) (by decide +kernel) rfl rfl dM_end_60 ?_
        refine z_aload_n (j := 0) X dM_end_63 rfl rfl ?_
        refine z_geti (C := RM) (T := TM) (N := 28) (k := 27) X (w_in inM) rfl rfl rfl (by decide) (w_m lM_77) rfl rfl dM_end_64 (hv := rd_s) ?_
        refine z_if_ne (tgt := 79) X dM_end_67 (by decide) (fun c_67 => ?_) (fun c_67 => absurd c_67 (by decide))
        refine z_iconst (v := (nI 0)) X dM_end_79 (by decide) ?_
        refine z_iret X hlocks hr dM_end_80 (by omega) (by omega) ?_
        have hs : sEnd b (nI i) c9 = ((3, 0), b) := by unfold sEnd; rw [zA_s hi (by decide), if_neg hbn, if_pos (c_32.trans nI_0.symm)]
        rw [hs]
        exact ⟨congrArg (fun z => some (Value.int z)) nI_0, rd_s, (zMdA_th hA), (zch.rf.tr (zch.i ⟨by omega, by omega⟩))⟩

set_option maxHeartbeats 600000 in
set_option maxRecDepth 100000 in
theorem mM_fetch (l : Launch) (D : va_G) (dA : Nat → ClassId) {S : zS} {b : zBr} {x y : Int32} {c9 : Bool} (hA : zMdA S b) (hI : zInv b)  : zMet l D vwCl zKK dA (zG0 D dA) yM_fetch (Cond.code yM_fetch cM_fetch 4 (some .int) :: zTs) { frames := 2, cells := 0, slots := 0, locals := 48 } 0 0 [.ref 1000, .int x, .int y, .int (zB c9)] S (fun v S' => v = some (.int (sFetch b x y c9).2) ∧ S'.2.1 1000 27 = nI (sFetch b x y c9).1 ∧ zMdA S' b ∧ zch oM S S') (fun _ _ => False) := by
  refine z_met (tys := ztys dA) (by decide) rfl zG0_K rfl (Nat.le_of_ble_eq_true rfl) (fun p e s m args below meth c A ad X hr hlocks hin hex => ?_)
  refine z_aload_n (j := 0) X dM_fetch_0 rfl rfl ?_
  refine z_aload_n (j := 0) X dM_fetch_1 rfl rfl ?_
  refine z_iload_n (j := 1) X dM_fetch_2 rfl rfl ?_
  refine z_callV (n := 1) (As := [.int x]) (rest := [.ref 1000]) X zG0_m (mM_badLog l D dA hA.1 hA.2.2.1 hI.1.1) (w_V X.2.2.2.2.1 lM_123 jM_badLog sM_badLog i_LogBrokerModel kM_badLog rfl rfl (by decide +kernel) ⟨Nat.le_of_ble_eq_true rfl, Nat.le_of_ble_eq_true rfl⟩) rfl rfl rfl rfl rfl (Nat.le_of_ble_eq_true rfl) dM_fetch_3 ⟨Nat.le_of_ble_eq_true rfl, Nat.le_of_ble_eq_true rfl⟩ (fun v S9 hp => ?_) (fun E S1 hx => hx.elim)
  obtain ⟨hS9, hp⟩ := hp
  have hS9 := hS9.symm
  subst hS9
  rcases hp with ⟨hv, hp⟩ | ⟨hv, hp⟩ <;> subst hv
  · have hbL := hp
    refine z_if_eq (tgt := 13) X dM_fetch_6 (by decide) (fun c_6 => absurd c_6 (by decide)) (fun c_6 => ?_)
    refine z_iconst (v := (nI 1)) X dM_fetch_9 (by decide) ?_
    refine z_goto (tgt := 52) X dM_fetch_10 (by decide) ?_
    refine z_puti (C := RM) (T := TM) (N := 28) (k := 27) X (w_in inM) rfl rfl rfl (by decide) (w_m lM_77) rfl tyM tyM_ok nmM rfl rfl (ty := .int) (by decide +kernel) rfl rfl dM_fetch_52 ?_
    refine z_aload_n (j := 0) X dM_fetch_55 rfl rfl ?_
    refine z_geti (C := RM) (T := TM) (N := 28) (k := 27) X (w_in inM) rfl rfl rfl (by decide) (w_m lM_77) rfl rfl dM_fetch_56 (hv := rd_s) ?_
    refine z_if_ne (tgt := 72) X dM_fetch_59 (by decide) (fun c_59 => ?_) (fun c_59 => absurd c_59 (by decide))
    refine z_iconst (v := (nI 0)) X dM_fetch_72 (by decide) ?_
    refine z_iret X hlocks hr dM_fetch_73 (by omega) (by omega) ?_
    have hs : sFetch b x y c9 = (1, 0) := sFetch_1 hbL
    rw [hs]
    exact ⟨congrArg (fun z => some (Value.int z)) nI_0, rd_s, (zMdA_th hA), (zch.rf.tr (zch.i ⟨by omega, by omega⟩))⟩
  · obtain ⟨t, ht, hx8⟩ := hp
    subst hx8
    have ht12 := ht.1
    have hWg := hI.1.2.1 t ht
    have hVg := hI.1.2.2.1 t ht
    obtain ⟨w1, w2, w3, w4, w5, w6, w7, w8, w9⟩ := id hWg
    have wb := zBa_le (b.2.1 t)
    refine z_if_eq (tgt := 13) X dM_fetch_6 (by decide) (fun c_6 => ?_) (fun c_6 => absurd c_6 (by decide))
    refine z_iload_n (j := 2) X dM_fetch_13 rfl rfl ?_
    refine z_aload_n (j := 0) X dM_fetch_14 rfl rfl ?_
    refine z_getr (C := RM) (T := TM) (N := 28) (k := 4) X (w_in inM) rfl rfl rfl (by decide) (w_m lM_23) rfl rfl (hA.1.2 4 (by decide)) dM_fetch_15 ?_
    refine z_iload_n (j := 1) X dM_fetch_18 rfl rfl ?_
    refine z_iald (t0 := 0) X rfl rfl (by omega) (by decide) dM_fetch_19 (hv := (hA.2.2.2.1 t ht12).1) ?_
    refine z_icmp_lt (tgt := 33) X dM_fetch_20 (by decide) (fun c_20 => ?_) (fun c_20 => ?_)
    · refine z_iconst (v := (nI 3)) X dM_fetch_33 (by decide) ?_
      refine z_goto (tgt := 52) X dM_fetch_34 (by decide) ?_
      refine z_puti (C := RM) (T := TM) (N := 28) (k := 27) X (w_in inM) rfl rfl rfl (by decide) (w_m lM_77) rfl tyM tyM_ok nmM rfl rfl (ty := .int) (by decide +kernel) rfl rfl dM_fetch_52 ?_
      refine z_aload_n (j := 0) X dM_fetch_55 rfl rfl ?_
      refine z_geti (C := RM) (T := TM) (N := 28) (k := 27) X (w_in inM) rfl rfl rfl (by decide) (w_m lM_77) rfl rfl dM_fetch_56 (hv := rd_s) ?_
      refine z_if_ne (tgt := 72) X dM_fetch_59 (by decide) (fun c_59 => ?_) (fun c_59 => absurd c_59 (by decide))
      refine z_iconst (v := (nI 0)) X dM_fetch_72 (by decide) ?_
      refine z_iret X hlocks hr dM_fetch_73 (by omega) (by omega) ?_
      have hs : sFetch b (nI t) y c9 = (3, 0) := sFetch_3 ht (by first | exact Or.inl c_20 | exact Or.inr (Int32.not_le.mp c_30))
      rw [hs]
      exact ⟨congrArg (fun z => some (Value.int z)) nI_0, rd_s, (zMdA_th hA), (zch.rf.tr (zch.i ⟨by omega, by omega⟩))⟩
    · refine z_iload_n (j := 2) X dM_fetch_23 rfl rfl ?_
      refine z_aload_n (j := 0) X dM_fetch_24 rfl rfl ?_
      refine z_getr (C := RM) (T := TM) (N := 28) (k := 5) X (w_in inM) rfl rfl rfl (by decide) (w_m lM_26) rfl rfl (hA.1.2 5 (by decide)) dM_fetch_25 ?_
      refine z_iload_n (j := 1) X dM_fetch_28 rfl rfl ?_
      refine z_iald (t0 := 0) X rfl rfl (by omega) (by decide) dM_fetch_29 (hv := (hA.2.2.2.1 t ht12).2.1) ?_
      refine z_icmp_le (tgt := 37) X dM_fetch_30 (by decide) (fun c_30 => ?_) (fun c_30 => ?_)
      · refine z_aload_n (j := 0) X dM_fetch_37 rfl rfl ?_
        refine z_iload_n (j := 1) X dM_fetch_38 rfl rfl ?_
        refine z_iload_n (j := 2) X dM_fetch_39 rfl rfl ?_
        refine z_iload_n (j := 3) X dM_fetch_40 rfl rfl ?_
        obtain ⟨o9, ho9, ho1, ho2⟩ := zIn (y := y) (show (b.2.1 t).2.1.2 < 2 ^ 31 by omega) (show (b.2.1 t).2.1.1 < 2 ^ 31 by omega) c_20 c_30
        subst ho9
        refine z_callV (n := 3) (As := [.int (nI t), .int (nI o9), .int (zB c9)]) (rest := [.ref 1000]) X zG0_m (mM_search l D dA c9 ht12 hA.1 (hA.2.2.2.1 t ht12) hWg hVg (by omega)) (w_V X.2.2.2.2.1 lM_132 jM_search sM_search i_LogBrokerModel kM_search rfl rfl (by decide +kernel) ⟨Nat.le_of_ble_eq_true rfl, Nat.le_of_ble_eq_true rfl⟩) rfl rfl rfl rfl rfl (Nat.le_of_ble_eq_true rfl) dM_fetch_41 ⟨Nat.le_of_ble_eq_true rfl, Nat.le_of_ble_eq_true rfl⟩ (fun v S9 hp => ?_) (fun E S1 hx => hx.elim)
        obtain ⟨hS9, hp⟩ := hp
        have hS9 := hS9.symm
        subst hS9
        subst hp
        rcases hvs : (zVis (b.2.1 t) o9 c9) with _ | z
        · refine z_if_ge (tgt := 51) X dM_fetch_44 (by decide) (fun c_44 => absurd c_44 (by decide)) (fun c_44 => ?_)
          refine z_iconst (v := (nI 2)) X dM_fetch_47 (by decide) ?_
          refine z_goto (tgt := 52) X dM_fetch_48 (by decide) ?_
          refine z_puti (C := RM) (T := TM) (N := 28) (k := 27) X (w_in inM) rfl rfl rfl (by decide) (w_m lM_77) rfl tyM tyM_ok nmM rfl rfl (ty := .int) (by decide +kernel) rfl rfl dM_fetch_52 ?_
          refine z_aload_n (j := 0) X dM_fetch_55 rfl rfl ?_
          refine z_geti (C := RM) (T := TM) (N := 28) (k := 27) X (w_in inM) rfl rfl rfl (by decide) (w_m lM_77) rfl rfl dM_fetch_56 (hv := rd_s) ?_
          refine z_if_ne (tgt := 72) X dM_fetch_59 (by decide) (fun c_59 => ?_) (fun c_59 => absurd c_59 (by decide))
          refine z_iconst (v := (nI 0)) X dM_fetch_72 (by decide) ?_
          refine z_iret X hlocks hr dM_fetch_73 (by omega) (by omega) ?_
          have hs : sFetch b (nI t) (nI o9) c9 = (2, 0) := by rw [sFetch_v ht ho1 ho2 w6, hvs]
          rw [hs]
          exact ⟨congrArg (fun z => some (Value.int z)) nI_0, rd_s, (zMdA_th hA), (zch.rf.tr (zch.i ⟨by omega, by omega⟩))⟩
        · have hz := zVis_le hWg hvs
          refine z_if_ge (tgt := 51) X dM_fetch_44 (by decide) (fun c_44 => ?_) (fun c_44 => absurd (Int32.not_lt.mp (nI_pos (by omega))) c_44)
          refine z_iconst (v := (nI 0)) X dM_fetch_51 (by decide) ?_
          refine z_puti (C := RM) (T := TM) (N := 28) (k := 27) X (w_in inM) rfl rfl rfl (by decide) (w_m lM_77) rfl tyM tyM_ok nmM rfl rfl (ty := .int) (by decide +kernel) rfl rfl dM_fetch_52 ?_
          generalize hS1 : zsi S 1000 27 (nI 0) = S1
          have hA1 : zMdA S1 b := by rw [← hS1]; exact zMdA_th hA
          have h27 : S1.2.1 1000 27 = nI 0 := by rw [← hS1]; exact rd_s
          have hc1 : zch oM S S1 := by rw [← hS1]; exact zch.i ⟨by decide, by decide⟩
          refine z_aload_n (j := 0) X dM_fetch_55 rfl rfl ?_
          refine z_geti (C := RM) (T := TM) (N := 28) (k := 27) X (w_in inM) rfl rfl rfl (by decide) (w_m lM_77) rfl rfl dM_fetch_56 (hv := h27) ?_
          refine z_if_ne (tgt := 72) X dM_fetch_59 (by decide) (fun c_59 => absurd c_59 (by decide)) (fun c_59 => ?_)
          refine z_aload_n (j := 0) X dM_fetch_62 rfl rfl ?_
          refine z_iload_n (j := 1) X dM_fetch_63 rfl rfl ?_
          refine z_iload_n (j := 2) X dM_fetch_64 rfl rfl ?_
          refine z_iload_n (j := 3) X dM_fetch_65 rfl rfl ?_
          refine z_callV (n := 3) (As := [.int (nI t), .int (nI o9), .int (zB c9)]) (rest := []) X zG0_m (mM_search l D dA c9 ht12 hA1.1 (hA1.2.2.2.1 t ht12) hWg hVg (by omega)) (w_V X.2.2.2.2.1 lM_132 jM_search sM_search i_LogBrokerModel kM_search rfl rfl (by decide +kernel) ⟨Nat.le_of_ble_eq_true rfl, Nat.le_of_ble_eq_true rfl⟩) rfl rfl rfl rfl rfl (Nat.le_of_ble_eq_true rfl) dM_fetch_66 ⟨Nat.le_of_ble_eq_true rfl, Nat.le_of_ble_eq_true rfl⟩ (fun v S9 hp => ?_) (fun E S1 hx => hx.elim)
          obtain ⟨hS9, hp⟩ := hp
          have hS9 := hS9.symm
          subst hS9
          subst hp
          refine z_goto (tgt := 73) X dM_fetch_69 (by decide) ?_
          refine z_iret X hlocks hr dM_fetch_73 (by omega) (by omega) ?_
          have hs : sFetch b (nI t) (nI o9) c9 = (0, nI z) := by rw [sFetch_v ht ho1 ho2 w6, hvs]
          rw [hs]
          exact ⟨by first | rfl | rw [hvs]; rfl, h27, hA1, hc1⟩
      · refine z_iconst (v := (nI 3)) X dM_fetch_33 (by decide) ?_
        refine z_goto (tgt := 52) X dM_fetch_34 (by decide) ?_
        refine z_puti (C := RM) (T := TM) (N := 28) (k := 27) X (w_in inM) rfl rfl rfl (by decide) (w_m lM_77) rfl tyM tyM_ok nmM rfl rfl (ty := .int) (by decide +kernel) rfl rfl dM_fetch_52 ?_
        refine z_aload_n (j := 0) X dM_fetch_55 rfl rfl ?_
        refine z_geti (C := RM) (T := TM) (N := 28) (k := 27) X (w_in inM) rfl rfl rfl (by decide) (w_m lM_77) rfl rfl dM_fetch_56 (hv := rd_s) ?_
        refine z_if_ne (tgt := 72) X dM_fetch_59 (by decide) (fun c_59 => ?_) (fun c_59 => absurd c_59 (by decide))
        refine z_iconst (v := (nI 0)) X dM_fetch_72 (by decide) ?_
        refine z_iret X hlocks hr dM_fetch_73 (by omega) (by omega) ?_
        have hs : sFetch b (nI t) y c9 = (3, 0) := sFetch_3 ht (by first | exact Or.inl c_20 | exact Or.inr (Int32.not_le.mp c_30))
        rw [hs]
        exact ⟨congrArg (fun z => some (Value.int z)) nI_0, rd_s, (zMdA_th hA), (zch.rf.tr (zch.i ⟨by omega, by omega⟩))⟩

set_option maxHeartbeats 600000 in
set_option maxRecDepth 100000 in
theorem mM_told (l : Launch) (D : va_G) (dA : Nat → ClassId) {S : zS} {b : zBr} {x y z : Int32} (hA : zMdA S b) (hI : zInv b)  : zMet l D vwCl zKK dA (zG0 D dA) yM_told (Cond.code yM_told cM_told 5 (some .int) :: zTs) { frames := 1, cells := 0, slots := 0, locals := 21 } 0 0 [.ref 1000, .int x, .int y, .int z] S (fun v S' => v = some (.int (sTold b x y z).2) ∧ S'.2.1 1000 27 = nI (sTold b x y z).1 ∧ zMdA S' b ∧ zch oM S S') (fun _ _ => False) := by
  refine z_met (tys := ztys dA) (by decide) rfl zG0_K rfl (Nat.le_of_ble_eq_true rfl) (fun p e s m args below meth c A ad X hr hlocks hin hex => ?_)
  refine z_aload_n (j := 0) X dM_told_0 rfl rfl ?_
  refine z_aload_n (j := 0) X dM_told_1 rfl rfl ?_
  refine z_iload_n (j := 1) X dM_told_2 rfl rfl ?_
  refine z_callV (n := 1) (As := [.int x]) (rest := [.ref 1000]) X zG0_m (mM_badLog l D dA hA.1 hA.2.2.1 hI.1.1) (w_V X.2.2.2.2.1 lM_123 jM_badLog sM_badLog i_LogBrokerModel kM_badLog rfl rfl (by decide +kernel) ⟨Nat.le_of_ble_eq_true rfl, Nat.le_of_ble_eq_true rfl⟩) rfl rfl rfl rfl rfl (Nat.le_of_ble_eq_true rfl) dM_told_3 ⟨Nat.le_of_ble_eq_true rfl, Nat.le_of_ble_eq_true rfl⟩ (fun v S9 hp => ?_) (fun E S1 hx => hx.elim)
  obtain ⟨hS9, hp⟩ := hp
  have hS9 := hS9.symm
  subst hS9
  rcases hp with ⟨hv, hp⟩ | ⟨hv, hp⟩ <;> subst hv
  · have hbL := hp
    refine z_if_ne (tgt := 18) X dM_told_6 (by decide) (fun c_6 => ?_) (fun c_6 => absurd c_6 (by decide))
    refine z_iconst (v := (nI 1)) X dM_told_18 (by decide) ?_
    refine z_goto (tgt := 65) X dM_told_19 (by decide) ?_
    refine z_puti (C := RM) (T := TM) (N := 28) (k := 27) X (w_in inM) rfl rfl rfl (by decide) (w_m lM_77) rfl tyM tyM_ok nmM rfl rfl (ty := .int) (by decide +kernel) rfl rfl dM_told_65 ?_
    refine z_aload_n (j := 0) X dM_told_68 rfl rfl ?_
    refine z_geti (C := RM) (T := TM) (N := 28) (k := 27) X (w_in inM) rfl rfl rfl (by decide) (w_m lM_77) rfl rfl dM_told_69 (hv := rd_s) ?_
    refine z_if_eq (tgt := 77) X dM_told_72 (by decide) (fun c_72 => absurd c_72 (by decide)) (fun c_72 => ?_)
    refine z_iconst (v := (nI 0)) X dM_told_75 (by decide) ?_
    refine z_iret X hlocks hr dM_told_76 (by omega) (by omega) ?_
    have hs : sTold b x y z = (1, 0) := by
      unfold sTold
      first | rw [zT_n hbL] | (rw [zT_s ht]; exact zA_n (by first | exact Or.inl c_10 | exact Or.inr (Int32.not_le.mp c_15)))
    rw [hs]
    exact ⟨congrArg (fun z => some (Value.int z)) nI_0, rd_s, (zMdA_th hA), (zch.rf.tr (zch.i ⟨by omega, by omega⟩))⟩
  · obtain ⟨t, ht, hx8⟩ := hp
    subst hx8
    have ht12 := ht.1
    have hWg := hI.1.2.1 t ht
    have hVg := hI.1.2.2.1 t ht
    obtain ⟨w1, w2, w3, w4, w5, w6, w7, w8, w9⟩ := id hWg
    have wb := zBa_le (b.2.1 t)
    refine z_if_ne (tgt := 18) X dM_told_6 (by decide) (fun c_6 => absurd c_6 (by decide)) (fun c_6 => ?_)
    refine z_iload_n (j := 3) X dM_told_9 rfl rfl ?_
    refine z_if_lt (tgt := 18) X dM_told_10 (by decide) (fun c_10 => ?_) (fun c_10 => ?_)
    · refine z_iconst (v := (nI 1)) X dM_told_18 (by decide) ?_
      refine z_goto (tgt := 65) X dM_told_19 (by decide) ?_
      refine z_puti (C := RM) (T := TM) (N := 28) (k := 27) X (w_in inM) rfl rfl rfl (by decide) (w_m lM_77) rfl tyM tyM_ok nmM rfl rfl (ty := .int) (by decide +kernel) rfl rfl dM_told_65 ?_
      refine z_aload_n (j := 0) X dM_told_68 rfl rfl ?_
      refine z_geti (C := RM) (T := TM) (N := 28) (k := 27) X (w_in inM) rfl rfl rfl (by decide) (w_m lM_77) rfl rfl dM_told_69 (hv := rd_s) ?_
      refine z_if_eq (tgt := 77) X dM_told_72 (by decide) (fun c_72 => absurd c_72 (by decide)) (fun c_72 => ?_)
      refine z_iconst (v := (nI 0)) X dM_told_75 (by decide) ?_
      refine z_iret X hlocks hr dM_told_76 (by omega) (by omega) ?_
      have hs : sTold b (nI t) y z = (1, 0) := by
        unfold sTold
        first | rw [zT_n hbL] | (rw [zT_s ht]; exact zA_n (by first | exact Or.inl c_10 | exact Or.inr (Int32.not_le.mp c_15)))
      rw [hs]
      exact ⟨congrArg (fun z => some (Value.int z)) nI_0, rd_s, (zMdA_th hA), (zch.rf.tr (zch.i ⟨by omega, by omega⟩))⟩
    · refine z_iload_n (j := 3) X dM_told_13 rfl rfl ?_
      refine z_iconst (v := (nI 4)) X dM_told_14 (by decide) ?_
      refine z_icmp_le (tgt := 22) X dM_told_15 (by decide) (fun c_15 => ?_) (fun c_15 => ?_)
      · obtain ⟨k, hz9, hk⟩ := zRg (n := 4) (x := z) (by decide) (fun h => c_10 (by rw [← nI_0]; exact h)) (Int32.not_lt.mpr c_15)
        subst hz9
        refine z_iload_n (j := 2) X dM_told_22 rfl rfl ?_
        refine z_aload_n (j := 0) X dM_told_23 rfl rfl ?_
        refine z_getr (C := RM) (T := TM) (N := 28) (k := 4) X (w_in inM) rfl rfl rfl (by decide) (w_m lM_23) rfl rfl (hA.1.2 4 (by decide)) dM_told_24 ?_
        refine z_iload_n (j := 1) X dM_told_27 rfl rfl ?_
        refine z_iald (t0 := 0) X rfl rfl (by omega) (by decide) dM_told_28 (hv := (hA.2.2.2.1 t ht12).1) ?_
        refine z_icmp_lt (tgt := 42) X dM_told_29 (by decide) (fun c_29 => ?_) (fun c_29 => ?_)
        · refine z_iconst (v := (nI 3)) X dM_told_42 (by decide) ?_
          refine z_goto (tgt := 65) X dM_told_43 (by decide) ?_
          refine z_puti (C := RM) (T := TM) (N := 28) (k := 27) X (w_in inM) rfl rfl rfl (by decide) (w_m lM_77) rfl tyM tyM_ok nmM rfl rfl (ty := .int) (by decide +kernel) rfl rfl dM_told_65 ?_
          refine z_aload_n (j := 0) X dM_told_68 rfl rfl ?_
          refine z_geti (C := RM) (T := TM) (N := 28) (k := 27) X (w_in inM) rfl rfl rfl (by decide) (w_m lM_77) rfl rfl dM_told_69 (hv := rd_s) ?_
          refine z_if_eq (tgt := 77) X dM_told_72 (by decide) (fun c_72 => absurd c_72 (by decide)) (fun c_72 => ?_)
          refine z_iconst (v := (nI 0)) X dM_told_75 (by decide) ?_
          refine z_iret X hlocks hr dM_told_76 (by omega) (by omega) ?_
          have hs : sTold b (nI t) y (nI k) = (3, 0) := by
            unfold sTold; rw [zT_s ht, zA_s hk (by decide)]; exact if_pos (by first | exact Or.inl c_29 | exact Or.inr c_39)
          rw [hs]
          exact ⟨congrArg (fun z => some (Value.int z)) nI_0, rd_s, (zMdA_th hA), (zch.rf.tr (zch.i ⟨by omega, by omega⟩))⟩
        · refine z_iload_n (j := 2) X dM_told_32 rfl rfl ?_
          refine z_aload_n (j := 0) X dM_told_33 rfl rfl ?_
          refine z_getr (C := RM) (T := TM) (N := 28) (k := 5) X (w_in inM) rfl rfl rfl (by decide) (w_m lM_26) rfl rfl (hA.1.2 5 (by decide)) dM_told_34 ?_
          refine z_iload_n (j := 1) X dM_told_37 rfl rfl ?_
          refine z_iald (t0 := 0) X rfl rfl (by omega) (by decide) dM_told_38 (hv := (hA.2.2.2.1 t ht12).2.1) ?_
          refine z_icmp_lt (tgt := 46) X dM_told_39 (by decide) (fun c_39 => ?_) (fun c_39 => ?_)
          · obtain ⟨o9, ho9, ho1, ho2⟩ := zIn (y := y) (show (b.2.1 t).2.1.2 < 2 ^ 31 by omega) (show (b.2.1 t).2.1.1 < 2 ^ 31 by omega) c_29 (Int32.le_of_lt c_39)
            subst ho9
            have ho3 := (nI_ltI (by omega) (by omega)).mp c_39
            have hlo := (hA.2.2.2.1 t ht12).2.2 o9 (by omega)
            rcases he : (b.2.1 t).2.2 o9 with _ | r <;> rw [he] at hlo
            · refine z_aload_n (j := 0) X dM_told_46 rfl rfl ?_
              refine z_getr (C := RM) (T := TM) (N := 28) (k := 6) X (w_in inM) rfl rfl rfl (by decide) (w_m lM_29) rfl rfl (hA.1.2 6 (by decide)) dM_told_47 ?_
              refine z_iload_n (j := 1) X dM_told_50 rfl rfl ?_
              refine z_bipush (v := (nI 60)) X dM_told_51 (by decide) ?_
              refine z_imul X dM_told_53 ?_
              refine z_top (pk_mul t 60) ?_
              refine z_iload_n (j := 2) X dM_told_54 rfl rfl ?_
              refine z_iadd X dM_told_55 ?_
              refine z_top (nI_add (t * 60) o9) ?_
              refine z_iald (t0 := 0) X rfl rfl (by omega) (by decide) dM_told_56 (hv := hlo) ?_
              refine z_if_ge (tgt := 64) X dM_told_57 (by decide) (fun c_57 => absurd c_57 (by decide)) (fun c_57 => ?_)
              refine z_iconst (v := (nI 2)) X dM_told_60 (by decide) ?_
              refine z_goto (tgt := 65) X dM_told_61 (by decide) ?_
              refine z_puti (C := RM) (T := TM) (N := 28) (k := 27) X (w_in inM) rfl rfl rfl (by decide) (w_m lM_77) rfl tyM tyM_ok nmM rfl rfl (ty := .int) (by decide +kernel) rfl rfl dM_told_65 ?_
              refine z_aload_n (j := 0) X dM_told_68 rfl rfl ?_
              refine z_geti (C := RM) (T := TM) (N := 28) (k := 27) X (w_in inM) rfl rfl rfl (by decide) (w_m lM_77) rfl rfl dM_told_69 (hv := rd_s) ?_
              refine z_if_eq (tgt := 77) X dM_told_72 (by decide) (fun c_72 => absurd c_72 (by decide)) (fun c_72 => ?_)
              refine z_iconst (v := (nI 0)) X dM_told_75 (by decide) ?_
              refine z_iret X hlocks hr dM_told_76 (by omega) (by omega) ?_
              have hs : sTold b (nI t) (nI o9) (nI k) = (2, 0) := by unfold sTold; rw [zT_s ht, zA_s hk (by decide)]; show (if _ then _ else _) = _; rw [if_neg (fun h => h.elim (fun h => absurd ((nI_ltI (by omega) (by omega)).mp h) (by omega)) (fun h => h ((nI_ltI (by omega) (by omega)).mpr (by omega)))), nI_clamp (by omega), he]; rfl
              rw [hs]
              exact ⟨congrArg (fun z => some (Value.int z)) nI_0, rd_s, (zMdA_th hA), (zch.rf.tr (zch.i ⟨by omega, by omega⟩))⟩
            · refine z_aload_n (j := 0) X dM_told_46 rfl rfl ?_
              refine z_getr (C := RM) (T := TM) (N := 28) (k := 6) X (w_in inM) rfl rfl rfl (by decide) (w_m lM_29) rfl rfl (hA.1.2 6 (by decide)) dM_told_47 ?_
              refine z_iload_n (j := 1) X dM_told_50 rfl rfl ?_
              refine z_bipush (v := (nI 60)) X dM_told_51 (by decide) ?_
              refine z_imul X dM_told_53 ?_
              refine z_top (pk_mul t 60) ?_
              refine z_iload_n (j := 2) X dM_told_54 rfl rfl ?_
              refine z_iadd X dM_told_55 ?_
              refine z_top (nI_add (t * 60) o9) ?_
              refine z_iald (t0 := 0) X rfl rfl (by omega) (by decide) dM_told_56 (hv := hlo.1) ?_
              refine z_if_ge (tgt := 64) X dM_told_57 (by decide) (fun c_57 => ?_) (fun c_57 => absurd (zEW_kg (hVg o9 r he)) c_57)
              refine z_iconst (v := (nI 0)) X dM_told_64 (by decide) ?_
              refine z_puti (C := RM) (T := TM) (N := 28) (k := 27) X (w_in inM) rfl rfl rfl (by decide) (w_m lM_77) rfl tyM tyM_ok nmM rfl rfl (ty := .int) (by decide +kernel) rfl rfl dM_told_65 ?_
              generalize hS1 : zsi S 1000 27 (nI 0) = S1
              have hA1 : zMdA S1 b := by rw [← hS1]; exact zMdA_th hA
              have h27 : S1.2.1 1000 27 = nI 0 := by rw [← hS1]; exact rd_s
              have hc1 : zch oM S S1 := by rw [← hS1]; exact zch.i ⟨by decide, by decide⟩
              refine z_aload_n (j := 0) X dM_told_68 rfl rfl ?_
              refine z_geti (C := RM) (T := TM) (N := 28) (k := 27) X (w_in inM) rfl rfl rfl (by decide) (w_m lM_77) rfl rfl dM_told_69 (hv := h27) ?_
              refine z_if_eq (tgt := 77) X dM_told_72 (by decide) (fun c_72 => ?_) (fun c_72 => absurd c_72 (by decide))
              have hlo : mE S1 b.2.2.2.1 (t * 60 + o9) (some r) := by have h := (hA1.2.2.2.1 t ht12).2.2 o9 (by omega); rw [he] at h; exact h
              refine z_iload_n (j := 1) X dM_told_77 rfl rfl ?_
              refine z_bipush (v := (nI 60)) X dM_told_78 (by decide) ?_
              refine z_imul X dM_told_80 ?_
              refine z_top (pk_mul t 60) ?_
              refine z_iload_n (j := 2) X dM_told_81 rfl rfl ?_
              refine z_iadd X dM_told_82 ?_
              refine z_top (nI_add (t * 60) o9) ?_
              refine z_istore (L' := [(4, .int (nI (t * 60 + o9))), (0, .ref 1000), (1, .int (nI t)), (2, .int (nI o9)), (3, .int (nI k))]) X dM_told_83 (by decide) rfl ?_
              refine z_iload_n (j := 4) X dM_told_85 rfl rfl ?_
              refine z_if_ne (tgt := 97) X dM_told_86 (by decide) (fun c_86 => ?_) (fun c_86 => ?_)
              · have h86 : ¬ k = 0 := fun h => c_86 (by rw [h]; exact nI_0)
                refine z_iload_n (j := 4) X dM_told_97 rfl rfl ?_
                refine z_iconst (v := (nI 1)) X dM_told_98 (by decide) ?_
                refine z_icmp_neN (tgt := 110) X dM_told_99 (by decide) (by omega) (by omega) (fun c_99 => ?_) (fun c_99 => ?_)
                · refine z_iload_n (j := 4) X dM_told_110 rfl rfl ?_
                  refine z_iconst (v := (nI 2)) X dM_told_111 (by decide) ?_
                  refine z_icmp_neN (tgt := 123) X dM_told_112 (by decide) (by omega) (by omega) (fun c_112 => ?_) (fun c_112 => ?_)
                  · refine z_iload_n (j := 4) X dM_told_123 rfl rfl ?_
                    refine z_iconst (v := (nI 3)) X dM_told_124 (by decide) ?_
                    refine z_icmp_neN (tgt := 138) X dM_told_125 (by decide) (by omega) (by omega) (fun c_125 => ?_) (fun c_125 => ?_)
                    · refine z_aload_n (j := 1) X dM_told_138 rfl rfl ?_
                      refine z_getr (C := RM) (T := TM) (N := 28) (k := 10) X (w_in inM) rfl rfl rfl (by decide) (w_m lM_41) rfl rfl (hA1.1.2 10 (by decide)) dM_told_139 ?_
                      refine z_iload (j := 0) X dM_told_142 rfl ?_
                      refine z_iald (t0 := 0) X rfl rfl (by omega) (by decide) dM_told_144 (hv := hlo.2.2.2.2.1) ?_
                      refine z_iret X hlocks hr dM_told_145 (by omega) (by omega) ?_
                      have hs : sTold b (nI t) (nI o9) (nI k) = (0, r.2.2.2.2) := by unfold sTold; rw [zT_s ht, zA_s hk (by decide)]; show (if _ then _ else _) = _; rw [if_neg (fun h => h.elim (fun h => absurd ((nI_ltI (by omega) (by omega)).mp h) (by omega)) (fun h => h ((nI_ltI (by omega) (by omega)).mpr (by omega)))), nI_clamp (by omega), he]; show (0, sFld r k) = _; rw [show k = 4 by omega]; rfl
                      rw [hs]
                      exact ⟨rfl, h27, hA1, hc1⟩
                    · refine z_aload_n (j := 1) X dM_told_128 rfl rfl ?_
                      refine z_getr (C := RM) (T := TM) (N := 28) (k := 9) X (w_in inM) rfl rfl rfl (by decide) (w_m lM_38) rfl rfl (hA1.1.2 9 (by decide)) dM_told_129 ?_
                      refine z_iload (j := 0) X dM_told_132 rfl ?_
                      refine z_iald (t0 := 0) X rfl rfl (by omega) (by decide) dM_told_134 (hv := hlo.2.2.2.1) ?_
                      refine z_goto (tgt := 145) X dM_told_135 (by decide) ?_
                      refine z_iret X hlocks hr dM_told_145 (by omega) (by omega) ?_
                      have hs : sTold b (nI t) (nI o9) (nI k) = (0, r.2.2.2.1) := by unfold sTold; rw [zT_s ht, zA_s hk (by decide)]; show (if _ then _ else _) = _; rw [if_neg (fun h => h.elim (fun h => absurd ((nI_ltI (by omega) (by omega)).mp h) (by omega)) (fun h => h ((nI_ltI (by omega) (by omega)).mpr (by omega)))), nI_clamp (by omega), he]; show (0, sFld r k) = _; rw [show k = 3 by omega]; rfl
                      rw [hs]
                      exact ⟨rfl, h27, hA1, hc1⟩
                  · refine z_aload_n (j := 1) X dM_told_115 rfl rfl ?_
                    refine z_getr (C := RM) (T := TM) (N := 28) (k := 6) X (w_in inM) rfl rfl rfl (by decide) (w_m lM_29) rfl rfl (hA1.1.2 6 (by decide)) dM_told_116 ?_
                    refine z_iload (j := 0) X dM_told_119 rfl ?_
                    refine z_iald (t0 := 0) X rfl rfl (by omega) (by decide) dM_told_121 (hv := hlo.1) ?_
                    refine z_iret X hlocks hr dM_told_122 (by omega) (by omega) ?_
                    have hs : sTold b (nI t) (nI o9) (nI k) = (0, r.1) := by unfold sTold; rw [zT_s ht, zA_s hk (by decide)]; show (if _ then _ else _) = _; rw [if_neg (fun h => h.elim (fun h => absurd ((nI_ltI (by omega) (by omega)).mp h) (by omega)) (fun h => h ((nI_ltI (by omega) (by omega)).mpr (by omega)))), nI_clamp (by omega), he]; show (0, sFld r k) = _; rw [show k = 2 by omega]; rfl
                    rw [hs]
                    exact ⟨rfl, h27, hA1, hc1⟩
                · refine z_aload_n (j := 1) X dM_told_102 rfl rfl ?_
                  refine z_getr (C := RM) (T := TM) (N := 28) (k := 8) X (w_in inM) rfl rfl rfl (by decide) (w_m lM_35) rfl rfl (hA1.1.2 8 (by decide)) dM_told_103 ?_
                  refine z_iload (j := 0) X dM_told_106 rfl ?_
                  refine z_iald (t0 := 0) X rfl rfl (by omega) (by decide) dM_told_108 (hv := hlo.2.2.1) ?_
                  refine z_iret X hlocks hr dM_told_109 (by omega) (by omega) ?_
                  have hs : sTold b (nI t) (nI o9) (nI k) = (0, r.2.2.1) := by unfold sTold; rw [zT_s ht, zA_s hk (by decide)]; show (if _ then _ else _) = _; rw [if_neg (fun h => h.elim (fun h => absurd ((nI_ltI (by omega) (by omega)).mp h) (by omega)) (fun h => h ((nI_ltI (by omega) (by omega)).mpr (by omega)))), nI_clamp (by omega), he]; show (0, sFld r k) = _; rw [show k = 1 by omega]; rfl
                  rw [hs]
                  exact ⟨rfl, h27, hA1, hc1⟩
              · have h86 : k = 0 := Classical.byContradiction fun h => nI_ne0 (by omega) (by omega) c_86
                refine z_aload_n (j := 1) X dM_told_89 rfl rfl ?_
                refine z_getr (C := RM) (T := TM) (N := 28) (k := 7) X (w_in inM) rfl rfl rfl (by decide) (w_m lM_32) rfl rfl (hA1.1.2 7 (by decide)) dM_told_90 ?_
                refine z_iload (j := 0) X dM_told_93 rfl ?_
                refine z_iald (t0 := 0) X rfl rfl (by omega) (by decide) dM_told_95 (hv := hlo.2.1) ?_
                refine z_iret X hlocks hr dM_told_96 (by omega) (by omega) ?_
                have hs : sTold b (nI t) (nI o9) (nI k) = (0, r.2.1) := by unfold sTold; rw [zT_s ht, zA_s hk (by decide)]; show (if _ then _ else _) = _; rw [if_neg (fun h => h.elim (fun h => absurd ((nI_ltI (by omega) (by omega)).mp h) (by omega)) (fun h => h ((nI_ltI (by omega) (by omega)).mpr (by omega)))), nI_clamp (by omega), he]; show (0, sFld r k) = _; rw [show k = 0 by omega]; rfl
                rw [hs]
                exact ⟨rfl, h27, hA1, hc1⟩
          · refine z_iconst (v := (nI 3)) X dM_told_42 (by decide) ?_
            refine z_goto (tgt := 65) X dM_told_43 (by decide) ?_
            refine z_puti (C := RM) (T := TM) (N := 28) (k := 27) X (w_in inM) rfl rfl rfl (by decide) (w_m lM_77) rfl tyM tyM_ok nmM rfl rfl (ty := .int) (by decide +kernel) rfl rfl dM_told_65 ?_
            refine z_aload_n (j := 0) X dM_told_68 rfl rfl ?_
            refine z_geti (C := RM) (T := TM) (N := 28) (k := 27) X (w_in inM) rfl rfl rfl (by decide) (w_m lM_77) rfl rfl dM_told_69 (hv := rd_s) ?_
            refine z_if_eq (tgt := 77) X dM_told_72 (by decide) (fun c_72 => absurd c_72 (by decide)) (fun c_72 => ?_)
            refine z_iconst (v := (nI 0)) X dM_told_75 (by decide) ?_
            refine z_iret X hlocks hr dM_told_76 (by omega) (by omega) ?_
            have hs : sTold b (nI t) y (nI k) = (3, 0) := by
              unfold sTold; rw [zT_s ht, zA_s hk (by decide)]; exact if_pos (by first | exact Or.inl c_29 | exact Or.inr c_39)
            rw [hs]
            exact ⟨congrArg (fun z => some (Value.int z)) nI_0, rd_s, (zMdA_th hA), (zch.rf.tr (zch.i ⟨by omega, by omega⟩))⟩
      · refine z_iconst (v := (nI 1)) X dM_told_18 (by decide) ?_
        refine z_goto (tgt := 65) X dM_told_19 (by decide) ?_
        refine z_puti (C := RM) (T := TM) (N := 28) (k := 27) X (w_in inM) rfl rfl rfl (by decide) (w_m lM_77) rfl tyM tyM_ok nmM rfl rfl (ty := .int) (by decide +kernel) rfl rfl dM_told_65 ?_
        refine z_aload_n (j := 0) X dM_told_68 rfl rfl ?_
        refine z_geti (C := RM) (T := TM) (N := 28) (k := 27) X (w_in inM) rfl rfl rfl (by decide) (w_m lM_77) rfl rfl dM_told_69 (hv := rd_s) ?_
        refine z_if_eq (tgt := 77) X dM_told_72 (by decide) (fun c_72 => absurd c_72 (by decide)) (fun c_72 => ?_)
        refine z_iconst (v := (nI 0)) X dM_told_75 (by decide) ?_
        refine z_iret X hlocks hr dM_told_76 (by omega) (by omega) ?_
        have hs : sTold b (nI t) y z = (1, 0) := by
          unfold sTold
          first | rw [zT_n hbL] | (rw [zT_s ht]; exact zA_n (by first | exact Or.inl c_10 | exact Or.inr (Int32.not_le.mp c_15)))
        rw [hs]
        exact ⟨congrArg (fun z => some (Value.int z)) nI_0, rd_s, (zMdA_th hA), (zch.rf.tr (zch.i ⟨by omega, by omega⟩))⟩

set_option maxHeartbeats 600000 in
set_option maxRecDepth 100000 in
theorem mM_owner (l : Launch) (D : va_G) (dA : Nat → ClassId) {S : zS} {b : zBr} {x y : Int32} (hA : zMdA S b) (hI : zInv b)  : zMet l D vwCl zKK dA (zG0 D dA) yM_owner (Cond.code yM_owner cM_owner 3 (some .int) :: zTs) { frames := 1, cells := 0, slots := 0, locals := 27 } 0 0 [.ref 1000, .int x, .int y] S (fun v S' => v = some (.int (sOwner b x y).2) ∧ S'.2.1 1000 27 = nI (sOwner b x y).1 ∧ zMdA S' b ∧ zch oM S S') (fun _ _ => False) := by
  refine z_met (tys := ztys dA) (by decide) rfl zG0_K rfl (Nat.le_of_ble_eq_true rfl) (fun p e s m args below meth c A ad X hr hlocks hin hex => ?_)
  refine z_aload_n (j := 0) X dM_owner_0 rfl rfl ?_
  refine z_iload_n (j := 1) X dM_owner_1 rfl rfl ?_
  refine z_if_lt (tgt := 18) X dM_owner_2 (by decide) (fun c_2 => ?_) (fun c_2 => ?_)
  · refine z_iconst (v := (nI 1)) X dM_owner_18 (by decide) ?_
    refine z_goto (tgt := 36) X dM_owner_19 (by decide) ?_
    refine z_puti (C := RM) (T := TM) (N := 28) (k := 27) X (w_in inM) rfl rfl rfl (by decide) (w_m lM_77) rfl tyM tyM_ok nmM rfl rfl (ty := .int) (by decide +kernel) rfl rfl dM_owner_36 ?_
    refine z_aload_n (j := 0) X dM_owner_39 rfl rfl ?_
    refine z_geti (C := RM) (T := TM) (N := 28) (k := 27) X (w_in inM) rfl rfl rfl (by decide) (w_m lM_77) rfl rfl dM_owner_40 (hv := rd_s) ?_
    refine z_if_ne (tgt := 55) X dM_owner_43 (by decide) (fun c_43 => ?_) (fun c_43 => absurd c_43 (by decide))
    refine z_iconst (v := (nI 0)) X dM_owner_55 (by decide) ?_
    refine z_iret X hlocks hr dM_owner_56 (by omega) (by omega) ?_
    have hs : sOwner b x y = (1, 0) := by
      unfold sOwner
      first | exact zA_n (by first | exact Or.inl (by rw [nI_0]; exact c_2) | exact Or.inr c_7) | (rw [zA_s hi (by decide), zT_n hbL])
    rw [hs]
    exact ⟨congrArg (fun z => some (Value.int z)) nI_0, rd_s, (zMdA_th hA), (zch.rf.tr (zch.i ⟨by omega, by omega⟩))⟩
  · refine z_iload_n (j := 1) X dM_owner_5 rfl rfl ?_
    refine z_iconst (v := (nI 1)) X dM_owner_6 (by decide) ?_
    refine z_icmp_gt (tgt := 18) X dM_owner_7 (by decide) (fun c_7 => ?_) (fun c_7 => ?_)
    · refine z_iconst (v := (nI 1)) X dM_owner_18 (by decide) ?_
      refine z_goto (tgt := 36) X dM_owner_19 (by decide) ?_
      refine z_puti (C := RM) (T := TM) (N := 28) (k := 27) X (w_in inM) rfl rfl rfl (by decide) (w_m lM_77) rfl tyM tyM_ok nmM rfl rfl (ty := .int) (by decide +kernel) rfl rfl dM_owner_36 ?_
      refine z_aload_n (j := 0) X dM_owner_39 rfl rfl ?_
      refine z_geti (C := RM) (T := TM) (N := 28) (k := 27) X (w_in inM) rfl rfl rfl (by decide) (w_m lM_77) rfl rfl dM_owner_40 (hv := rd_s) ?_
      refine z_if_ne (tgt := 55) X dM_owner_43 (by decide) (fun c_43 => ?_) (fun c_43 => absurd c_43 (by decide))
      refine z_iconst (v := (nI 0)) X dM_owner_55 (by decide) ?_
      refine z_iret X hlocks hr dM_owner_56 (by omega) (by omega) ?_
      have hs : sOwner b x y = (1, 0) := by
        unfold sOwner
        first | exact zA_n (by first | exact Or.inl (by rw [nI_0]; exact c_2) | exact Or.inr c_7) | (rw [zA_s hi (by decide), zT_n hbL])
      rw [hs]
      exact ⟨congrArg (fun z => some (Value.int z)) nI_0, rd_s, (zMdA_th hA), (zch.rf.tr (zch.i ⟨by omega, by omega⟩))⟩
    · refine z_aload_n (j := 0) X dM_owner_10 rfl rfl ?_
      refine z_iload_n (j := 2) X dM_owner_11 rfl rfl ?_
      obtain ⟨i, hx9, hi⟩ := zRg (n := 1) (x := x) (by decide) (fun h => c_2 (by rw [← nI_0]; exact h)) c_7
      subst hx9
      refine z_callV (n := 1) (As := [.int y]) (rest := [.ref 1000]) X zG0_m (mM_badLog l D dA hA.1 hA.2.2.1 hI.1.1) (w_V X.2.2.2.2.1 lM_123 jM_badLog sM_badLog i_LogBrokerModel kM_badLog rfl rfl (by decide +kernel) ⟨Nat.le_of_ble_eq_true rfl, Nat.le_of_ble_eq_true rfl⟩) rfl rfl rfl rfl rfl (Nat.le_of_ble_eq_true rfl) dM_owner_12 ⟨Nat.le_of_ble_eq_true rfl, Nat.le_of_ble_eq_true rfl⟩ (fun v S9 hp => ?_) (fun E S1 hx => hx.elim)
      obtain ⟨hS9, hp⟩ := hp
      have hS9 := hS9.symm
      subst hS9
      rcases hp with ⟨hv, hp⟩ | ⟨hv, hp⟩ <;> subst hv
      · have hbL := hp
        refine z_if_eq (tgt := 22) X dM_owner_15 (by decide) (fun c_15 => absurd c_15 (by decide)) (fun c_15 => ?_)
        refine z_iconst (v := (nI 1)) X dM_owner_18 (by decide) ?_
        refine z_goto (tgt := 36) X dM_owner_19 (by decide) ?_
        refine z_puti (C := RM) (T := TM) (N := 28) (k := 27) X (w_in inM) rfl rfl rfl (by decide) (w_m lM_77) rfl tyM tyM_ok nmM rfl rfl (ty := .int) (by decide +kernel) rfl rfl dM_owner_36 ?_
        refine z_aload_n (j := 0) X dM_owner_39 rfl rfl ?_
        refine z_geti (C := RM) (T := TM) (N := 28) (k := 27) X (w_in inM) rfl rfl rfl (by decide) (w_m lM_77) rfl rfl dM_owner_40 (hv := rd_s) ?_
        refine z_if_ne (tgt := 55) X dM_owner_43 (by decide) (fun c_43 => ?_) (fun c_43 => absurd c_43 (by decide))
        refine z_iconst (v := (nI 0)) X dM_owner_55 (by decide) ?_
        refine z_iret X hlocks hr dM_owner_56 (by omega) (by omega) ?_
        have hs : sOwner b (nI i) y = (1, 0) := by
          unfold sOwner
          first | exact zA_n (by first | exact Or.inl (by rw [nI_0]; exact c_2) | exact Or.inr c_7) | (rw [zA_s hi (by decide), zT_n hbL])
        rw [hs]
        exact ⟨congrArg (fun z => some (Value.int z)) nI_0, rd_s, (zMdA_th hA), (zch.rf.tr (zch.i ⟨by omega, by omega⟩))⟩
      · obtain ⟨t, ht, hx8⟩ := hp
        subst hx8
        have ht12 := ht.1
        have hWg := hI.1.2.1 t ht
        have hVg := hI.1.2.2.1 t ht
        obtain ⟨w1, w2, w3, w4, w5, w6, w7, w8, w9⟩ := id hWg
        have wb := zBa_le (b.2.1 t)
        refine z_if_eq (tgt := 22) X dM_owner_15 (by decide) (fun c_15 => ?_) (fun c_15 => absurd c_15 (by decide))
        refine z_aload_n (j := 0) X dM_owner_22 rfl rfl ?_
        refine z_iload_n (j := 1) X dM_owner_23 rfl rfl ?_
        refine z_iload_n (j := 2) X dM_owner_24 rfl rfl ?_
        have hown : (b.2.2.2.2.2.1 i).2.2.1 t = zOI (zWho (b.2.2.2.2.2.1 i).2.1 (b.1 (t / 4)) t) := (hI.2.2.2.2.2 i (by omega)).1 t ht12
        refine z_callV (n := 2) (As := [.int (nI i), .int (nI t)]) (rest := [.ref 1000]) X zG0_m (mM_whose l D dA (n := b.1 (t / 4)) hA.1 (by omega) ht12 (hA.2.2.2.2.2.2 i (by omega)) (hI.1.1 (t / 4) (by omega)) (hA.2.2.1.1 (t / 4) (by omega))) (w_V X.2.2.2.2.1 lM_149 jM_whose sM_whose i_LogBrokerModel kM_whose rfl rfl (by decide +kernel) ⟨Nat.le_of_ble_eq_true rfl, Nat.le_of_ble_eq_true rfl⟩) rfl rfl rfl rfl rfl (Nat.le_of_ble_eq_true rfl) dM_owner_25 ⟨Nat.le_of_ble_eq_true rfl, Nat.le_of_ble_eq_true rfl⟩ (fun v S9 hp => ?_) (fun E S1 hx => hx.elim)
        obtain ⟨hS9, hp⟩ := hp
        have hS9 := hS9.symm
        subst hS9
        subst hp
        rcases hvs : (zWho (b.2.2.2.2.2.1 i).2.1 (b.1 (t / 4)) t) with _ | z
        · refine z_if_ge (tgt := 35) X dM_owner_28 (by decide) (fun c_28 => absurd c_28 (by decide)) (fun c_28 => ?_)
          refine z_iconst (v := (nI 2)) X dM_owner_31 (by decide) ?_
          refine z_goto (tgt := 36) X dM_owner_32 (by decide) ?_
          refine z_puti (C := RM) (T := TM) (N := 28) (k := 27) X (w_in inM) rfl rfl rfl (by decide) (w_m lM_77) rfl tyM tyM_ok nmM rfl rfl (ty := .int) (by decide +kernel) rfl rfl dM_owner_36 ?_
          refine z_aload_n (j := 0) X dM_owner_39 rfl rfl ?_
          refine z_geti (C := RM) (T := TM) (N := 28) (k := 27) X (w_in inM) rfl rfl rfl (by decide) (w_m lM_77) rfl rfl dM_owner_40 (hv := rd_s) ?_
          refine z_if_ne (tgt := 55) X dM_owner_43 (by decide) (fun c_43 => ?_) (fun c_43 => absurd c_43 (by decide))
          refine z_iconst (v := (nI 0)) X dM_owner_55 (by decide) ?_
          refine z_iret X hlocks hr dM_owner_56 (by omega) (by omega) ?_
          have hs : sOwner b (nI i) (nI t) = (2, 0) := by unfold sOwner; rw [zA_s hi (by decide), zT_s ht, hown, hvs]; exact if_pos rfl
          rw [hs]
          exact ⟨congrArg (fun z => some (Value.int z)) nI_0, rd_s, (zMdA_th hA), (zch.rf.tr (zch.i ⟨by omega, by omega⟩))⟩
        · have hz : z < 4 := by
            have h := (zfind_spec (show zfind _ 4 0 = some z from hvs)).2.1
            omega
          refine z_if_ge (tgt := 35) X dM_owner_28 (by decide) (fun c_28 => ?_) (fun c_28 => absurd (Int32.not_lt.mp (nI_pos (by omega))) c_28)
          refine z_iconst (v := (nI 0)) X dM_owner_35 (by decide) ?_
          refine z_puti (C := RM) (T := TM) (N := 28) (k := 27) X (w_in inM) rfl rfl rfl (by decide) (w_m lM_77) rfl tyM tyM_ok nmM rfl rfl (ty := .int) (by decide +kernel) rfl rfl dM_owner_36 ?_
          generalize hS1 : zsi S 1000 27 (nI 0) = S1
          have hA1 : zMdA S1 b := by rw [← hS1]; exact zMdA_th hA
          have h27 : S1.2.1 1000 27 = nI 0 := by rw [← hS1]; exact rd_s
          have hc1 : zch oM S S1 := by rw [← hS1]; exact zch.i ⟨by decide, by decide⟩
          refine z_aload_n (j := 0) X dM_owner_39 rfl rfl ?_
          refine z_geti (C := RM) (T := TM) (N := 28) (k := 27) X (w_in inM) rfl rfl rfl (by decide) (w_m lM_77) rfl rfl dM_owner_40 (hv := h27) ?_
          refine z_if_ne (tgt := 55) X dM_owner_43 (by decide) (fun c_43 => absurd c_43 (by decide)) (fun c_43 => ?_)
          refine z_aload_n (j := 0) X dM_owner_46 rfl rfl ?_
          refine z_iload_n (j := 1) X dM_owner_47 rfl rfl ?_
          refine z_iload_n (j := 2) X dM_owner_48 rfl rfl ?_
          refine z_callV (n := 2) (As := [.int (nI i), .int (nI t)]) (rest := []) X zG0_m (mM_whose l D dA (n := b.1 (t / 4)) hA1.1 (by omega) ht12 (hA1.2.2.2.2.2.2 i (by omega)) (hI.1.1 (t / 4) (by omega)) (hA1.2.2.1.1 (t / 4) (by omega))) (w_V X.2.2.2.2.1 lM_149 jM_whose sM_whose i_LogBrokerModel kM_whose rfl rfl (by decide +kernel) ⟨Nat.le_of_ble_eq_true rfl, Nat.le_of_ble_eq_true rfl⟩) rfl rfl rfl rfl rfl (Nat.le_of_ble_eq_true rfl) dM_owner_49 ⟨Nat.le_of_ble_eq_true rfl, Nat.le_of_ble_eq_true rfl⟩ (fun v S9 hp => ?_) (fun E S1 hx => hx.elim)
          obtain ⟨hS9, hp⟩ := hp
          have hS9 := hS9.symm
          subst hS9
          subst hp
          refine z_goto (tgt := 56) X dM_owner_52 (by decide) ?_
          refine z_iret X hlocks hr dM_owner_56 (by omega) (by omega) ?_
          have hs : sOwner b (nI i) (nI t) = (0, nI z) := by unfold sOwner; rw [zA_s hi (by decide), zT_s ht, hown, hvs]; exact if_neg (nI_m1 (by omega))
          rw [hs]
          exact ⟨by first | rfl | rw [hvs]; rfl, h27, hA1, hc1⟩

set_option maxHeartbeats 600000 in
set_option maxRecDepth 100000 in
theorem mM_join (l : Launch) (D : va_G) (dA : Nat → ClassId) {S : zS} {b : zBr} {x mm y : Int32} (hA : zMdA S b) (hI : zInv b)  : zMet l D vwCl zKK dA (zG0 D dA) yM_join (Cond.code yM_join cM_join 4 (some .int) :: zTs) { frames := 1, cells := 0, slots := 0, locals := 22 } 0 0 [.ref 1000, .int x, .int mm, .int y] S (fun v S' => v = some (.int (sJoin b x mm y).1.2) ∧ S'.2.1 1000 27 = nI (sJoin b x mm y).1.1 ∧ zMdA S' (sJoin b x mm y).2 ∧ zch oM S S') (fun _ _ => False) := by
  refine z_met (tys := ztys dA) (by decide) rfl zG0_K rfl (Nat.le_of_ble_eq_true rfl) (fun p e s m args below meth c A ad X hr hlocks hin hex => ?_)
  refine z_aload_n (j := 0) X dM_join_0 rfl rfl ?_
  refine z_aload_n (j := 0) X dM_join_1 rfl rfl ?_
  refine z_iload_n (j := 1) X dM_join_2 rfl rfl ?_
  refine z_iload_n (j := 2) X dM_join_3 rfl rfl ?_
  refine z_callV (n := 2) (As := [.int x, .int mm]) (rest := [.ref 1000]) X zG0_m (mM_badMember l D dA) (w_V X.2.2.2.2.1 lM_143 jM_badMember sM_badMember i_LogBrokerModel kM_badMember rfl rfl (by decide +kernel) ⟨Nat.le_of_ble_eq_true rfl, Nat.le_of_ble_eq_true rfl⟩) rfl rfl rfl rfl rfl (Nat.le_of_ble_eq_true rfl) dM_join_4 ⟨Nat.le_of_ble_eq_true rfl, Nat.le_of_ble_eq_true rfl⟩ (fun v S9 hp => ?_) (fun E S1 hx => hx.elim)
  obtain ⟨hS9, hp⟩ := hp
  have hS9 := hS9.symm
  subst hS9
  rcases hp with ⟨hv, hp⟩ | ⟨hv, hp⟩ <;> subst hv
  · have hbM := hp
    refine z_if_ne (tgt := 19) X dM_join_7 (by decide) (fun c_7 => ?_) (fun c_7 => absurd c_7 (by decide))
    refine z_iconst (v := (nI 1)) X dM_join_19 (by decide) ?_
    refine z_goto (tgt := 37) X dM_join_20 (by decide) ?_
    refine z_puti (C := RM) (T := TM) (N := 28) (k := 27) X (w_in inM) rfl rfl rfl (by decide) (w_m lM_77) rfl tyM tyM_ok nmM rfl rfl (ty := .int) (by decide +kernel) rfl rfl dM_join_37 ?_
    refine z_aload_n (j := 0) X dM_join_40 rfl rfl ?_
    refine z_geti (C := RM) (T := TM) (N := 28) (k := 27) X (w_in inM) rfl rfl rfl (by decide) (w_m lM_77) rfl rfl dM_join_41 (hv := rd_s) ?_
    refine z_if_eq (tgt := 49) X dM_join_44 (by decide) (fun c_44 => absurd c_44 (by decide)) (fun c_44 => ?_)
    refine z_iconst (v := (nI 0)) X dM_join_47 (by decide) ?_
    refine z_iret X hlocks hr dM_join_48 (by omega) (by omega) ?_
    have hs : sJoin b x mm y = ((1, 0), b) := by
      unfold sJoin
      rcases hbM with h | h
      · rw [zA_n h]
      · by_cases h2 : x < nI 0 ∨ nI 1 < x
        · rw [zA_n h2]
        · obtain ⟨i, hx9, hi⟩ := zRg (n := 1) (x := x) (by decide) (fun q => h2 (Or.inl q)) (fun q => h2 (Or.inr q))
          rw [hx9, zA_s hi (by decide), zA_n h]
    rw [hs]
    exact ⟨congrArg (fun z => some (Value.int z)) nI_0, rd_s, (zMdA_th hA), (zch.rf.tr (zch.i ⟨by omega, by omega⟩))⟩
  · obtain ⟨i, k, ⟨hx9, hi⟩, hx8, hk⟩ := hp
    subst hx9
    subst hx8
    refine z_if_ne (tgt := 19) X dM_join_7 (by decide) (fun c_7 => absurd c_7 (by decide)) (fun c_7 => ?_)
    refine z_iload_n (j := 3) X dM_join_10 rfl rfl ?_
    refine z_if_lt (tgt := 19) X dM_join_11 (by decide) (fun c_11 => ?_) (fun c_11 => ?_)
    · refine z_iconst (v := (nI 1)) X dM_join_19 (by decide) ?_
      refine z_goto (tgt := 37) X dM_join_20 (by decide) ?_
      refine z_puti (C := RM) (T := TM) (N := 28) (k := 27) X (w_in inM) rfl rfl rfl (by decide) (w_m lM_77) rfl tyM tyM_ok nmM rfl rfl (ty := .int) (by decide +kernel) rfl rfl dM_join_37 ?_
      refine z_aload_n (j := 0) X dM_join_40 rfl rfl ?_
      refine z_geti (C := RM) (T := TM) (N := 28) (k := 27) X (w_in inM) rfl rfl rfl (by decide) (w_m lM_77) rfl rfl dM_join_41 (hv := rd_s) ?_
      refine z_if_eq (tgt := 49) X dM_join_44 (by decide) (fun c_44 => absurd c_44 (by decide)) (fun c_44 => ?_)
      refine z_iconst (v := (nI 0)) X dM_join_47 (by decide) ?_
      refine z_iret X hlocks hr dM_join_48 (by omega) (by omega) ?_
      have hs : sJoin b (nI i) (nI k) y = ((1, 0), b) := by
        unfold sJoin
        rw [zA_s hi (by decide), zA_s hk (by decide)]
        exact zA_n (by first | exact Or.inl (by rw [nI_0]; exact c_11) | exact Or.inr (Int32.not_le.mp c_16))
      rw [hs]
      exact ⟨congrArg (fun z => some (Value.int z)) nI_0, rd_s, (zMdA_th hA), (zch.rf.tr (zch.i ⟨by omega, by omega⟩))⟩
    · refine z_iload_n (j := 3) X dM_join_14 rfl rfl ?_
      refine z_iconst (v := (nI 2)) X dM_join_15 (by decide) ?_
      refine z_icmp_le (tgt := 23) X dM_join_16 (by decide) (fun c_16 => ?_) (fun c_16 => ?_)
      · obtain ⟨y9, hz9, hy9⟩ := zRg (n := 2) (x := y) (by decide) (fun h => c_11 (by rw [← nI_0]; exact h)) (Int32.not_lt.mpr c_16)
        subst hz9
        have hp3 := hI.1.1 y9 (by omega)
        refine z_aload_n (j := 0) X dM_join_23 rfl rfl ?_
        refine z_getr (C := RM) (T := TM) (N := 28) (k := 0) X (w_in inM) rfl rfl rfl (by decide) (w_m lM_7) rfl rfl (hA.1.2 0 (by decide)) dM_join_24 ?_
        refine z_iload_n (j := 3) X dM_join_27 rfl rfl ?_
        refine z_iald (t0 := 0) X rfl rfl (by omega) (by decide) dM_join_28 (hv := (hA.2.2.1.1 y9 (by omega))) ?_
        refine z_if_ne (tgt := 36) X dM_join_29 (by decide) (fun c_29 => ?_) (fun c_29 => ?_)
        · have hpn : ¬ b.1 y9 = 0 := fun h => c_29 (by rw [h]; exact nI_0)
          refine z_iconst (v := (nI 0)) X dM_join_36 (by decide) ?_
          refine z_puti (C := RM) (T := TM) (N := 28) (k := 27) X (w_in inM) rfl rfl rfl (by decide) (w_m lM_77) rfl tyM tyM_ok nmM rfl rfl (ty := .int) (by decide +kernel) rfl rfl dM_join_37 ?_
          generalize hS1 : zsi S 1000 27 (nI 0) = S1
          have hA1 : zMdA S1 b := by rw [← hS1]; exact zMdA_th hA
          have h27 : S1.2.1 1000 27 = nI 0 := by rw [← hS1]; exact rd_s
          have hc1 : zch oM S S1 := by rw [← hS1]; exact zch.i ⟨by decide, by decide⟩
          refine z_aload_n (j := 0) X dM_join_40 rfl rfl ?_
          refine z_geti (C := RM) (T := TM) (N := 28) (k := 27) X (w_in inM) rfl rfl rfl (by decide) (w_m lM_77) rfl rfl dM_join_41 (hv := h27) ?_
          refine z_if_eq (tgt := 49) X dM_join_44 (by decide) (fun c_44 => ?_) (fun c_44 => absurd c_44 (by decide))
          refine z_aload_n (j := 0) X dM_join_49 rfl rfl ?_
          refine z_getr (C := RM) (T := TM) (N := 28) (k := 18) X (w_in inM) rfl rfl rfl (by decide) (w_m lM_65) rfl rfl (hA1.1.2 18 (by decide)) dM_join_50 ?_
          refine z_iload_n (j := 1) X dM_join_53 rfl rfl ?_
          refine z_iconst (v := (nI 4)) X dM_join_54 (by decide) ?_
          refine z_imul X dM_join_55 ?_
          refine z_top (pk_mul i 4) ?_
          refine z_iload_n (j := 2) X dM_join_56 rfl rfl ?_
          refine z_iadd X dM_join_57 ?_
          refine z_top (nI_add (i * 4) k) ?_
          refine z_iload_n (j := 3) X dM_join_58 rfl rfl ?_
          refine z_iast (t0 := 0) X rfl rfl (by omega) (by decide) dM_join_59 ?_
          refine z_aload_n (j := 0) X dM_join_60 rfl rfl ?_
          refine z_iload_n (j := 1) X dM_join_61 rfl rfl ?_
          have hG8 : mG (zsi S1 1019 (i * 4 + k) (nI y9)) i ((b.2.2.2.2.2.1 i).1, (fun j => if j = k then (nI y9) else (b.2.2.2.2.2.1 i).2.1 j), (sMem b.1 (b.2.2.2.2.2.1 i) k (nI y9)).2.2.1, (b.2.2.2.2.2.1 i).2.2.2) := by
            obtain ⟨g1, g2, g3, g4⟩ := hA1.2.2.2.2.2.2 i (by omega)
            refine ⟨rd_i (Or.inl (by omega)) g1, fun j hj => ?_, fun j hj => rd_i (Or.inl (by omega)) (g3 j hj), fun j hj => rd_i (Or.inl (by omega)) (g4 j hj)⟩
            show _ = if j = k then (nI y9) else _
            by_cases e9 : j = k
            · subst e9; rw [if_pos rfl]; exact rd_s
            · rw [if_neg e9]; exact rd_i (Or.inr (by omega)) (g2 j hj)
          have hc8 : zch (oG i) S1 (zsi S1 1019 (i * 4 + k) (nI y9)) := zch.i (Or.inr (Or.inl ⟨rfl, by omega, by omega⟩))
          refine z_callV (n := 1) (As := [.int (nI i)]) (rest := []) X zG0_m (mM_change l D dA (mP_fr hA1.1 hc8) (by omega) hG8) (w_V X.2.2.2.2.1 lM_146 jM_change sM_change i_LogBrokerModel kM_change rfl rfl (by decide +kernel) ⟨Nat.le_of_ble_eq_true rfl, Nat.le_of_ble_eq_true rfl⟩) rfl rfl rfl rfl rfl (Nat.le_of_ble_eq_true rfl) dM_join_62 ⟨Nat.le_of_ble_eq_true rfl, Nat.le_of_ble_eq_true rfl⟩ (fun v S9 hp => ?_) (fun E S1 hx => hx.elim)
          obtain ⟨hv, hG9, hc9⟩ := hp
          subst hv
          have hA9 : zMdA S9 (bH b i (sMem b.1 (b.2.2.2.2.2.1 i) k (nI y9))) := zMdA_H hA1 (hc8.tr hc9) hG9
          refine z_iret X hlocks hr dM_join_65 (by omega) (by omega) ?_
          have hs : sJoin b (nI i) (nI k) (nI y9) = ((0, (b.2.2.2.2.2.1 i).1 + nI 1), bH b i (sMem b.1 (b.2.2.2.2.2.1 i) k (nI y9))) := by unfold sJoin; rw [zA_s hi (by decide), zA_s hk (by decide), zA_s hy9 (by decide), if_neg hpn]
          rw [hs]
          exact ⟨rfl, ((hc8.tr hc9).2.2 _ _ (by unfold oG; omega)).trans h27, hA9, hc1.tr ((hc8.tr hc9).mono (fun n k h => by unfold oG at h; unfold oM; omega))⟩
        · have hpn : b.1 y9 = 0 := Classical.byContradiction fun h => nI_ne0 (by omega) (by omega) c_29
          refine z_iconst (v := (nI 2)) X dM_join_32 (by decide) ?_
          refine z_goto (tgt := 37) X dM_join_33 (by decide) ?_
          refine z_puti (C := RM) (T := TM) (N := 28) (k := 27) X (w_in inM) rfl rfl rfl (by decide) (w_m lM_77) rfl tyM tyM_ok nmM rfl rfl (ty := .int) (by decide +kernel) rfl rfl dM_join_37 ?_
          refine z_aload_n (j := 0) X dM_join_40 rfl rfl ?_
          refine z_geti (C := RM) (T := TM) (N := 28) (k := 27) X (w_in inM) rfl rfl rfl (by decide) (w_m lM_77) rfl rfl dM_join_41 (hv := rd_s) ?_
          refine z_if_eq (tgt := 49) X dM_join_44 (by decide) (fun c_44 => absurd c_44 (by decide)) (fun c_44 => ?_)
          refine z_iconst (v := (nI 0)) X dM_join_47 (by decide) ?_
          refine z_iret X hlocks hr dM_join_48 (by omega) (by omega) ?_
          have hs : sJoin b (nI i) (nI k) (nI y9) = ((2, 0), b) := by unfold sJoin; rw [zA_s hi (by decide), zA_s hk (by decide), zA_s hy9 (by decide), if_pos hpn]
          rw [hs]
          exact ⟨congrArg (fun z => some (Value.int z)) nI_0, rd_s, (zMdA_th hA), (zch.rf.tr (zch.i ⟨by omega, by omega⟩))⟩
      · refine z_iconst (v := (nI 1)) X dM_join_19 (by decide) ?_
        refine z_goto (tgt := 37) X dM_join_20 (by decide) ?_
        refine z_puti (C := RM) (T := TM) (N := 28) (k := 27) X (w_in inM) rfl rfl rfl (by decide) (w_m lM_77) rfl tyM tyM_ok nmM rfl rfl (ty := .int) (by decide +kernel) rfl rfl dM_join_37 ?_
        refine z_aload_n (j := 0) X dM_join_40 rfl rfl ?_
        refine z_geti (C := RM) (T := TM) (N := 28) (k := 27) X (w_in inM) rfl rfl rfl (by decide) (w_m lM_77) rfl rfl dM_join_41 (hv := rd_s) ?_
        refine z_if_eq (tgt := 49) X dM_join_44 (by decide) (fun c_44 => absurd c_44 (by decide)) (fun c_44 => ?_)
        refine z_iconst (v := (nI 0)) X dM_join_47 (by decide) ?_
        refine z_iret X hlocks hr dM_join_48 (by omega) (by omega) ?_
        have hs : sJoin b (nI i) (nI k) y = ((1, 0), b) := by
          unfold sJoin
          rw [zA_s hi (by decide), zA_s hk (by decide)]
          exact zA_n (by first | exact Or.inl (by rw [nI_0]; exact c_11) | exact Or.inr (Int32.not_le.mp c_16))
        rw [hs]
        exact ⟨congrArg (fun z => some (Value.int z)) nI_0, rd_s, (zMdA_th hA), (zch.rf.tr (zch.i ⟨by omega, by omega⟩))⟩

set_option maxHeartbeats 600000 in
set_option maxRecDepth 100000 in
theorem mM_leave (l : Launch) (D : va_G) (dA : Nat → ClassId) {S : zS} {b : zBr} {x mm : Int32} (hA : zMdA S b) (hI : zInv b)  : zMet l D vwCl zKK dA (zG0 D dA) yM_leave (Cond.code yM_leave cM_leave 3 (some .int) :: zTs) { frames := 1, cells := 0, slots := 0, locals := 22 } 0 0 [.ref 1000, .int x, .int mm] S (fun v S' => v = some (.int (sLeave b x mm).1.2) ∧ S'.2.1 1000 27 = nI (sLeave b x mm).1.1 ∧ zMdA S' (sLeave b x mm).2 ∧ zch oM S S') (fun _ _ => False) := by
  refine z_met (tys := ztys dA) (by decide) rfl zG0_K rfl (Nat.le_of_ble_eq_true rfl) (fun p e s m args below meth c A ad X hr hlocks hin hex => ?_)
  refine z_aload_n (j := 0) X dM_leave_0 rfl rfl ?_
  refine z_aload_n (j := 0) X dM_leave_1 rfl rfl ?_
  refine z_iload_n (j := 1) X dM_leave_2 rfl rfl ?_
  refine z_iload_n (j := 2) X dM_leave_3 rfl rfl ?_
  refine z_callV (n := 2) (As := [.int x, .int mm]) (rest := [.ref 1000]) X zG0_m (mM_badMember l D dA) (w_V X.2.2.2.2.1 lM_143 jM_badMember sM_badMember i_LogBrokerModel kM_badMember rfl rfl (by decide +kernel) ⟨Nat.le_of_ble_eq_true rfl, Nat.le_of_ble_eq_true rfl⟩) rfl rfl rfl rfl rfl (Nat.le_of_ble_eq_true rfl) dM_leave_4 ⟨Nat.le_of_ble_eq_true rfl, Nat.le_of_ble_eq_true rfl⟩ (fun v S9 hp => ?_) (fun E S1 hx => hx.elim)
  obtain ⟨hS9, hp⟩ := hp
  have hS9 := hS9.symm
  subst hS9
  rcases hp with ⟨hv, hp⟩ | ⟨hv, hp⟩ <;> subst hv
  · have hbM := hp
    refine z_if_eq (tgt := 14) X dM_leave_7 (by decide) (fun c_7 => absurd c_7 (by decide)) (fun c_7 => ?_)
    refine z_iconst (v := (nI 1)) X dM_leave_10 (by decide) ?_
    refine z_goto (tgt := 32) X dM_leave_11 (by decide) ?_
    refine z_puti (C := RM) (T := TM) (N := 28) (k := 27) X (w_in inM) rfl rfl rfl (by decide) (w_m lM_77) rfl tyM tyM_ok nmM rfl rfl (ty := .int) (by decide +kernel) rfl rfl dM_leave_32 ?_
    refine z_aload_n (j := 0) X dM_leave_35 rfl rfl ?_
    refine z_geti (C := RM) (T := TM) (N := 28) (k := 27) X (w_in inM) rfl rfl rfl (by decide) (w_m lM_77) rfl rfl dM_leave_36 (hv := rd_s) ?_
    refine z_if_eq (tgt := 44) X dM_leave_39 (by decide) (fun c_39 => absurd c_39 (by decide)) (fun c_39 => ?_)
    refine z_iconst (v := (nI 0)) X dM_leave_42 (by decide) ?_
    refine z_iret X hlocks hr dM_leave_43 (by omega) (by omega) ?_
    have hs : sLeave b x mm = ((1, 0), b) := by
      unfold sLeave
      rcases hbM with h | h
      · rw [zA_n h]
      · by_cases h2 : x < nI 0 ∨ nI 1 < x
        · rw [zA_n h2]
        · obtain ⟨i, hx9, hi⟩ := zRg (n := 1) (x := x) (by decide) (fun q => h2 (Or.inl q)) (fun q => h2 (Or.inr q))
          rw [hx9, zA_s hi (by decide), zA_n h]
    rw [hs]
    exact ⟨congrArg (fun z => some (Value.int z)) nI_0, rd_s, (zMdA_th hA), (zch.rf.tr (zch.i ⟨by omega, by omega⟩))⟩
  · obtain ⟨i, k, ⟨hx9, hi⟩, hx8, hk⟩ := hp
    subst hx9
    subst hx8
    refine z_if_eq (tgt := 14) X dM_leave_7 (by decide) (fun c_7 => ?_) (fun c_7 => absurd c_7 (by decide))
    refine z_aload_n (j := 0) X dM_leave_14 rfl rfl ?_
    refine z_getr (C := RM) (T := TM) (N := 28) (k := 18) X (w_in inM) rfl rfl rfl (by decide) (w_m lM_65) rfl rfl (hA.1.2 18 (by decide)) dM_leave_15 ?_
    refine z_iload_n (j := 1) X dM_leave_18 rfl rfl ?_
    refine z_iconst (v := (nI 4)) X dM_leave_19 (by decide) ?_
    refine z_imul X dM_leave_20 ?_
    refine z_top (pk_mul i 4) ?_
    refine z_iload_n (j := 2) X dM_leave_21 rfl rfl ?_
    refine z_iadd X dM_leave_22 ?_
    refine z_top (nI_add (i * 4) k) ?_
    refine z_iald (t0 := 0) X rfl rfl (by omega) (by decide) dM_leave_23 (hv := ((hA.2.2.2.2.2.2 i (by omega)).2.1 k (by omega))) ?_
    rcases (hI.2.2.2.2.2 i (by omega)).2 k (by omega) with hpn | ⟨j9, hj9, hj8, hj7⟩
    · refine z_if_ge (tgt := 31) X dM_leave_24 (by decide) (fun c_24 => absurd c_24 (by rw [hpn]; decide)) (fun c_24 => ?_)
      refine z_iconst (v := (nI 2)) X dM_leave_27 (by decide) ?_
      refine z_goto (tgt := 32) X dM_leave_28 (by decide) ?_
      refine z_puti (C := RM) (T := TM) (N := 28) (k := 27) X (w_in inM) rfl rfl rfl (by decide) (w_m lM_77) rfl tyM tyM_ok nmM rfl rfl (ty := .int) (by decide +kernel) rfl rfl dM_leave_32 ?_
      refine z_aload_n (j := 0) X dM_leave_35 rfl rfl ?_
      refine z_geti (C := RM) (T := TM) (N := 28) (k := 27) X (w_in inM) rfl rfl rfl (by decide) (w_m lM_77) rfl rfl dM_leave_36 (hv := rd_s) ?_
      refine z_if_eq (tgt := 44) X dM_leave_39 (by decide) (fun c_39 => absurd c_39 (by decide)) (fun c_39 => ?_)
      refine z_iconst (v := (nI 0)) X dM_leave_42 (by decide) ?_
      refine z_iret X hlocks hr dM_leave_43 (by omega) (by omega) ?_
      have hs : sLeave b (nI i) (nI k) = ((2, 0), b) := by unfold sLeave; rw [zA_s hi (by decide), zA_s hk (by decide), if_pos hpn]
      rw [hs]
      exact ⟨congrArg (fun z => some (Value.int z)) nI_0, rd_s, (zMdA_th hA), (zch.rf.tr (zch.i ⟨by omega, by omega⟩))⟩
    · have hpn : ¬ (b.2.2.2.2.2.1 i).2.1 k = -1 := fun h => nI_m1 (by omega) (hj7.symm.trans h)
      refine z_if_ge (tgt := 31) X dM_leave_24 (by decide) (fun c_24 => ?_) (fun c_24 => absurd (by rw [hj7]; exact Int32.not_lt.mp (nI_pos (by omega))) c_24)
      refine z_iconst (v := (nI 0)) X dM_leave_31 (by decide) ?_
      refine z_puti (C := RM) (T := TM) (N := 28) (k := 27) X (w_in inM) rfl rfl rfl (by decide) (w_m lM_77) rfl tyM tyM_ok nmM rfl rfl (ty := .int) (by decide +kernel) rfl rfl dM_leave_32 ?_
      generalize hS1 : zsi S 1000 27 (nI 0) = S1
      have hA1 : zMdA S1 b := by rw [← hS1]; exact zMdA_th hA
      have h27 : S1.2.1 1000 27 = nI 0 := by rw [← hS1]; exact rd_s
      have hc1 : zch oM S S1 := by rw [← hS1]; exact zch.i ⟨by decide, by decide⟩
      refine z_aload_n (j := 0) X dM_leave_35 rfl rfl ?_
      refine z_geti (C := RM) (T := TM) (N := 28) (k := 27) X (w_in inM) rfl rfl rfl (by decide) (w_m lM_77) rfl rfl dM_leave_36 (hv := h27) ?_
      refine z_if_eq (tgt := 44) X dM_leave_39 (by decide) (fun c_39 => ?_) (fun c_39 => absurd c_39 (by decide))
      refine z_aload_n (j := 0) X dM_leave_44 rfl rfl ?_
      refine z_getr (C := RM) (T := TM) (N := 28) (k := 18) X (w_in inM) rfl rfl rfl (by decide) (w_m lM_65) rfl rfl (hA1.1.2 18 (by decide)) dM_leave_45 ?_
      refine z_iload_n (j := 1) X dM_leave_48 rfl rfl ?_
      refine z_iconst (v := (nI 4)) X dM_leave_49 (by decide) ?_
      refine z_imul X dM_leave_50 ?_
      refine z_top (pk_mul i 4) ?_
      refine z_iload_n (j := 2) X dM_leave_51 rfl rfl ?_
      refine z_iadd X dM_leave_52 ?_
      refine z_top (nI_add (i * 4) k) ?_
      refine z_iconst (v := (-1)) X dM_leave_53 (by decide) ?_
      refine z_iast (t0 := 0) X rfl rfl (by omega) (by decide) dM_leave_54 ?_
      refine z_aload_n (j := 0) X dM_leave_55 rfl rfl ?_
      refine z_iload_n (j := 1) X dM_leave_56 rfl rfl ?_
      have hG8 : mG (zsi S1 1019 (i * 4 + k) (-1)) i ((b.2.2.2.2.2.1 i).1, (fun j => if j = k then (-1) else (b.2.2.2.2.2.1 i).2.1 j), (sMem b.1 (b.2.2.2.2.2.1 i) k (-1)).2.2.1, (b.2.2.2.2.2.1 i).2.2.2) := by
        obtain ⟨g1, g2, g3, g4⟩ := hA1.2.2.2.2.2.2 i (by omega)
        refine ⟨rd_i (Or.inl (by omega)) g1, fun j hj => ?_, fun j hj => rd_i (Or.inl (by omega)) (g3 j hj), fun j hj => rd_i (Or.inl (by omega)) (g4 j hj)⟩
        show _ = if j = k then (-1) else _
        by_cases e9 : j = k
        · subst e9; rw [if_pos rfl]; exact rd_s
        · rw [if_neg e9]; exact rd_i (Or.inr (by omega)) (g2 j hj)
      have hc8 : zch (oG i) S1 (zsi S1 1019 (i * 4 + k) (-1)) := zch.i (Or.inr (Or.inl ⟨rfl, by omega, by omega⟩))
      refine z_callV (n := 1) (As := [.int (nI i)]) (rest := []) X zG0_m (mM_change l D dA (mP_fr hA1.1 hc8) (by omega) hG8) (w_V X.2.2.2.2.1 lM_146 jM_change sM_change i_LogBrokerModel kM_change rfl rfl (by decide +kernel) ⟨Nat.le_of_ble_eq_true rfl, Nat.le_of_ble_eq_true rfl⟩) rfl rfl rfl rfl rfl (Nat.le_of_ble_eq_true rfl) dM_leave_57 ⟨Nat.le_of_ble_eq_true rfl, Nat.le_of_ble_eq_true rfl⟩ (fun v S9 hp => ?_) (fun E S1 hx => hx.elim)
      obtain ⟨hv, hG9, hc9⟩ := hp
      subst hv
      have hA9 : zMdA S9 (bH b i (sMem b.1 (b.2.2.2.2.2.1 i) k (-1))) := zMdA_H hA1 (hc8.tr hc9) hG9
      refine z_iret X hlocks hr dM_leave_60 (by omega) (by omega) ?_
      have hs : sLeave b (nI i) (nI k) = ((0, (b.2.2.2.2.2.1 i).1 + nI 1), bH b i (sMem b.1 (b.2.2.2.2.2.1 i) k (-1))) := by unfold sLeave; rw [zA_s hi (by decide), zA_s hk (by decide), if_neg hpn]
      rw [hs]
      exact ⟨rfl, ((hc8.tr hc9).2.2 _ _ (by unfold oG; omega)).trans h27, hA9, hc1.tr ((hc8.tr hc9).mono (fun n k h => by unfold oG at h; unfold oM; omega))⟩
