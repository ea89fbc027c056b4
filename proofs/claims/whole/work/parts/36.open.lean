/-! CONTRACTS of LogBroker: ending, opening (rows by program) -/
theorem mB_decide (l : Launch) (D : va_G) (dA : Nat → ClassId) {S : zS} {b : zBr} {i : Nat} (c : Bool) (hB : zBrA S b) (hW : zBrW b) (hE : zBrE b) (hi : i < 6) (hq : ∃ k, k < 4 ∧ (b.2.2.1 i).1 = nI k) (hrm : ∀ t, zEx b t → zU b (b.2.2.1 i).1 t = true → (b.2.1 t).2.1.2 < 60) : zMet l D vwCl zKK dA (zG0 D dA) yB_decide (Cond.code yB_decide cB_decide 6 (some .int) :: zTs) { frames := 3, cells := 12, slots := 60, locals := 67 } 12 60 [.ref 1, .ref (10 + i), .int (zB c)] S (fun v S' => v = some (.int (nI (zcnt (zU b (b.2.2.1 i).1) 12 0))) ∧ zBrA S' (sDec b i c) ∧ zfr zOwnB S S') (fun _ _ => False) := by
  cases c with
  | true => exact mB_decideT l D dA hB hW hi hq hrm (fun t h1 h2 => hE.u t h1 h2) (fun t h1 h2 o => hE.n t h1 h2 o)
  | false => exact mB_decideF l D dA hB hW hi hq hrm (fun t h1 h2 => hE.u t h1 h2) (fun t h1 h2 o => hE.n t h1 h2 o)
set_option maxHeartbeats 600000 in
set_option maxRecDepth 100000 in
theorem mB_end (l : Launch) (D : va_G) (dA : Nat → ClassId) {S : zS} {b : zBr} {x : Int32} {c0 : Bool} (hl0 : l.stackTraces = false) (hB : zBrA S b) (hW : zBrW b) (hE : zBrE b) : zMet l D vwCl zKK dA (zG0 D dA) yB_end (Cond.code yB_end cB_end 4 (some .int) :: zTs) { frames := 7, cells := 20, slots := 120, locals := 104 } 20 120 [.ref 1, .int x, .int (zB c0)] S (fun v S' => ∃ r b', v = some (.int r) ∧ sEnd b x c0 = ((0, r), b') ∧ zBrA S' b' ∧ zfr zOwnB S S') (fun E S' => S' = S ∧ ((E = "java/lang/IllegalArgumentException" ∧ sEnd b x c0 = ((1, 0), b)) ∨ (E = "java/util/NoSuchElementException" ∧ sEnd b x c0 = ((2, 0), b)) ∨ (E = "java/lang/IllegalStateException" ∧ sEnd b x c0 = ((3, 0), b)) ∨ (E = "java/lang/UnsupportedOperationException" ∧ sEnd b x c0 = ((4, 0), b)))) := by
  refine z_met (tys := ztys dA) (by decide) rfl zG0_K rfl (Nat.le_of_ble_eq_true rfl) (fun p e s m args below meth c A ad X hr hlocks hin hex => ?_)
  obtain ⟨hT, hLg, hSs, hGs, hnx, hnf⟩ := id hB
  obtain ⟨v1, v2, v3, v4, v5, v6, v7⟩ := id hW
  obtain ⟨hn, t0, t1, t2, t3, t4, t5, q6, q7, q8, q9, q10, hpt, hlg, hse, hcu, hop, hgr⟩ := id hT
  refine z_iload_n (j := 1) X dB_end_0 rfl rfl ?_
  refine z_iconst (v := (nI 0)) X dB_end_1 (by decide) ?_
  refine z_iconst (v := (nI 5)) X dB_end_2 (by decide) ?_
  refine z_callS (n := 3) (As := [.int x, .int (nI 0), .int (nI 5)]) (rest := []) X zG0_m (mB_mustBeWithin l D dA hl0) (w_S X.2.2.2.2.1 lB_45 tB_mustBeWithin i_LogBroker kB_mustBeWithin rfl rfl (by decide +kernel) ⟨Nat.le_of_ble_eq_true rfl, Nat.le_of_ble_eq_true rfl⟩) rfl rfl (Nat.le_of_ble_eq_true rfl) dB_end_3 ⟨Nat.le_of_ble_eq_true rfl, Nat.le_of_ble_eq_true rfl⟩ (fun v S9 hp => ?_) (fun E S1 hx => ?_)
  · obtain ⟨hv, hS9, hr1, hr2⟩ := hp
    subst hv
    have hS9 := hS9.symm
    subst hS9
    obtain ⟨i, hx9, hi⟩ := zRg (n := 5) (by omega) hr1 hr2
    subst hx9
    refine z_aload_n (j := 0) X dB_end_6 rfl rfl ?_
    refine z_iload_n (j := 1) X dB_end_7 rfl rfl ?_
    refine z_callV (n := 1) (As := [.int (nI i)]) (rest := []) X zG0_m (mB_openedSession l D dA hl0 hT (by omega) (hSs i (by omega))) (w_V X.2.2.2.2.1 lB_89 jB_openedSession sB_openedSession i_LogBroker kB_openedSession rfl rfl (by decide +kernel) ⟨Nat.le_of_ble_eq_true rfl, Nat.le_of_ble_eq_true rfl⟩) rfl rfl rfl rfl rfl (Nat.le_of_ble_eq_true rfl) dB_end_8 ⟨Nat.le_of_ble_eq_true rfl, Nat.le_of_ble_eq_true rfl⟩ (fun v S9 hp => ?_) (fun E S1 hx => ?_)
    · obtain ⟨hS9, hv, hpr1⟩ := hp
      subst hv
      have hS9 := hS9.symm
      subst hS9
      have hpr2 := (v4 i (by omega)).1.resolve_left hpr1
      refine z_astore_n (L' := [(3, .ref (10 + i)), (0, .ref 1), (1, .int (nI i)), (2, .int (zB c0))]) X dB_end_11 rfl (by decide) rfl ?_
      refine z_aload_n (j := 0) X dB_end_12 rfl rfl ?_
      refine z_geti (C := RS) (T := TS) (N := 4) (k := 1) X (w_in inS) rfl rfl (kd_S (by omega)) (by decide) (w_m lB_59) rfl rfl dB_end_13 (hv := (hSs i (by omega)).2.2.2.2.1) ?_
      refine z_if_ne (tgt := 29) X dB_end_16 (by decide) (fun c_16 => ?_) (fun c_16 => ?_)
      · refine z_aload_n (j := 1) X dB_end_29 rfl rfl ?_
        refine z_aload_n (j := 0) X dB_end_30 rfl rfl ?_
        refine z_geti (C := RS) (T := TS) (N := 4) (k := 0) X (w_in inS) rfl rfl (kd_S (by omega)) (by decide) (w_m lB_63) rfl rfl dB_end_31 (hv := (hSs i (by omega)).2.2.2.1) ?_
        refine z_callV (n := 1) (As := [.int ((b.2.2.1 i).1)]) (rest := []) X zG0_m (mB_mustHaveRoomForMarkers l D dA hl0 hB hW) (w_V X.2.2.2.2.1 lB_138 jB_mustHaveRoomForMarkers sB_mustHaveRoomForMarkers i_LogBroker kB_mustHaveRoomForMarkers rfl rfl (by decide +kernel) ⟨Nat.le_of_ble_eq_true rfl, Nat.le_of_ble_eq_true rfl⟩) rfl rfl rfl rfl rfl (Nat.le_of_ble_eq_true rfl) dB_end_34 ⟨Nat.le_of_ble_eq_true rfl, Nat.le_of_ble_eq_true rfl⟩ (fun v S9 hp => ?_) (fun E S1 hx => ?_)
        · obtain ⟨hS9, hv, hrm⟩ := hp
          subst hv
          have hS9 := hS9.symm
          subst hS9
          refine z_aload_n (j := 1) X dB_end_37 rfl rfl ?_
          refine z_aload_n (j := 0) X dB_end_38 rfl rfl ?_
          refine z_iload_n (j := 3) X dB_end_39 rfl rfl ?_
          refine z_callV (n := 2) (As := [.ref (10 + i), .int (zB c0)]) (rest := []) X zG0_m (mB_decide l D dA c0 hB hW hE (by omega) hpr2 hrm) (w_V X.2.2.2.2.1 lB_141 jB_decide sB_decide i_LogBroker kB_decide rfl rfl (by decide +kernel) ⟨Nat.le_of_ble_eq_true rfl, Nat.le_of_ble_eq_true rfl⟩) rfl rfl rfl rfl rfl (Nat.le_of_ble_eq_true rfl) dB_end_40 ⟨Nat.le_of_ble_eq_true rfl, Nat.le_of_ble_eq_true rfl⟩ (fun v S2 hp => ?_) (fun E S1 hx => hx.elim)
          obtain ⟨hv, hB2, hfr2⟩ := hp
          subst hv
          refine z_iret X hlocks hr dB_end_43 (by omega) (by omega) ?_
          exact ⟨_, _, rfl, by unfold sEnd; rw [zA_s hi (by decide), if_neg hpr1, if_neg (show ¬ (b.2.2.1 i).2.1 = nI 0 from c_16), if_neg (fun h => h (zRoom_y hE hrm))], hB2, hfr2⟩
        · obtain ⟨hX, hS9, hrm⟩ := hx
          subst hX
          have hS9 := hS9.symm
          subst hS9
          exact z_out (fun x hx9 => (hex x hx9).elim) hlocks ⟨rfl, Or.inr (Or.inr (Or.inr (⟨rfl, by unfold sEnd; rw [zA_s hi (by decide), if_neg hpr1, if_neg (show ¬ (b.2.2.1 i).2.1 = nI 0 from c_16), if_pos (zRoom_n hrm)]⟩)))⟩ (by omega) (by omega)
      · exact z_thISE (text := "no transaction is open") X hl0 (by decide +kernel) dB_end_19 dB_end_22 dB_end_23 dB_end_25 dB_end_28 hex (Nat.le_of_ble_eq_true rfl) (Nat.le_of_ble_eq_true rfl) (Nat.le_of_ble_eq_true rfl) (Nat.le_of_ble_eq_true rfl) hlocks (by omega) (by omega) ⟨rfl, Or.inr (Or.inr (Or.inl ⟨rfl, by unfold sEnd; rw [zA_s hi (by decide), if_neg hpr1, if_pos (show (b.2.2.1 i).2.1 = nI 0 from c_16)]⟩))⟩
    · obtain ⟨hE, hS9, hpr1⟩ := hx
      subst hE
      have hS9 := hS9.symm
      subst hS9
      exact z_out (fun x hx9 => (hex x hx9).elim) hlocks ⟨rfl, Or.inr (Or.inl ⟨rfl, by unfold sEnd; rw [zA_s hi (by decide), if_pos hpr1]⟩)⟩ (by omega) (by omega)
  · obtain ⟨hE, hS9, hn9⟩ := hx
    subst hE
    have hS9 := hS9.symm
    subst hS9
    exact z_out (fun x hx9 => (hex x hx9).elim) hlocks ⟨rfl, Or.inl ⟨rfl, by unfold sEnd; rw [zA_n hn9]⟩⟩ (by omega) (by omega)

set_option maxHeartbeats 600000 in
set_option maxRecDepth 100000 in
theorem mB_abortOpenTransactionOf (l : Launch) (D : va_G) (dA : Nat → ClassId) {S : zS} {b : zBr} {p9 : Nat} (hl0 : l.stackTraces = false) (hB : zBrA S b) (hW : zBrW b) (hE : zBrE b) (hC : zBrC b) (hp4 : p9 < 4) : zMet l D vwCl zKK dA (zG0 D dA) yB_abortOpenTransactionOf (Cond.code yB_abortOpenTransactionOf cB_abortOpenTransactionOf 3 none :: zTs) { frames := 7, cells := 16, slots := 90, locals := 104 } 16 90 [.ref 1, .int (nI p9)] S (fun v S' => ∃ b1, v = none ∧ sAb b p9 = some b1 ∧ zBrA S' b1 ∧ zBrW b1 ∧ zfr zOwnB S S') (fun E S' => E = "java/lang/UnsupportedOperationException" ∧ S' = S ∧ sAb b p9 = none) := by
  refine z_met (tys := ztys dA) (by decide) rfl zG0_K rfl (Nat.le_of_ble_eq_true rfl) (fun p e s m args below meth c A ad X hr hlocks hin hex => ?_)
  obtain ⟨hT, hLg, hSs, hGs, hnx, hnf⟩ := id hB
  obtain ⟨v1, v2, v3, v4, v5, v6, v7⟩ := id hW
  obtain ⟨hn, t0, t1, t2, t3, t4, t5, q6, q7, q8, q9, q10, hpt, hlg, hse, hcu, hop, hgr⟩ := id hT
  refine z_aload_n (j := 0) X dB_abortOpenTransactionOf_0 rfl rfl ?_
  refine z_getr (C := RB) (T := TB) (N := 11) (k := 3) X (w_in inB) rfl rfl rfl (by decide) (w_m lB_25) rfl rfl t3 dB_abortOpenTransactionOf_1 ?_
  refine z_iload_n (j := 1) X dB_abortOpenTransactionOf_4 rfl rfl ?_
  refine z_iald (t0 := 0) X rfl rfl hp4 (by decide) dB_abortOpenTransactionOf_5 (hv := (hcu p9 hp4)) ?_
  refine z_istore_n (L' := [(2, .int (b.2.2.2.1 p9)), (0, .ref 1), (1, .int (nI p9))]) X dB_abortOpenTransactionOf_6 rfl (by decide) rfl ?_
  refine z_iload_n (j := 0) X dB_abortOpenTransactionOf_7 rfl rfl ?_
  refine z_iconst (v := (-1)) X dB_abortOpenTransactionOf_8 (by decide) ?_
  refine z_icmp_eq (tgt := 41) X dB_abortOpenTransactionOf_9 (by decide) (fun c_9 => ?_) (fun c_9 => ?_)
  · refine z_vret X hlocks hr dB_abortOpenTransactionOf_41 (by omega) (by omega) ?_
    exact ⟨b, rfl, by unfold sAb; rw [if_neg (fun h => by first | exact h.1 c_9 | (have h9 := h.2; rw [hj, nI_clamp (by omega)] at h9; exact h9 c_21))], hB, hW, zfr.rf⟩
  · obtain ⟨j, hj6, hj⟩ := (v6 p9 hp4).resolve_left c_9
    rw [hj]
    refine z_aload_n (j := 1) X dB_abortOpenTransactionOf_12 rfl rfl ?_
    refine z_getr (C := RB) (T := TB) (N := 11) (k := 2) X (w_in inB) rfl rfl rfl (by decide) (w_m lB_21) rfl rfl t2 dB_abortOpenTransactionOf_13 ?_
    refine z_iload_n (j := 0) X dB_abortOpenTransactionOf_16 rfl rfl ?_
    refine z_aald (t0 := 4) X rfl (by decide) (by decide) (by decide) rfl hj6 (by decide) (hse j hj6) dB_abortOpenTransactionOf_17 ?_
    refine z_geti (C := RS) (T := TS) (N := 4) (k := 1) X (w_in inS) rfl rfl (kd_S hj6) (by decide) (w_m lB_59) rfl rfl dB_abortOpenTransactionOf_18 (hv := (hSs j hj6).2.2.2.2.1) ?_
    refine z_if_eq (tgt := 41) X dB_abortOpenTransactionOf_21 (by decide) (fun c_21 => ?_) (fun c_21 => ?_)
    · refine z_vret X hlocks hr dB_abortOpenTransactionOf_41 (by omega) (by omega) ?_
      exact ⟨b, rfl, by unfold sAb; rw [if_neg (fun h => by first | exact h.1 c_9 | (have h9 := h.2; rw [hj, nI_clamp (by omega)] at h9; exact h9 c_21))], hB, hW, zfr.rf⟩
    · refine z_aload_n (j := 1) X dB_abortOpenTransactionOf_24 rfl rfl ?_
      refine z_iload_n (j := 2) X dB_abortOpenTransactionOf_25 rfl rfl ?_
      refine z_callV (n := 1) (As := [.int (nI p9)]) (rest := []) X zG0_m (mB_mustHaveRoomForMarkers l D dA hl0 hB hW) (w_V X.2.2.2.2.1 lB_138 jB_mustHaveRoomForMarkers sB_mustHaveRoomForMarkers i_LogBroker kB_mustHaveRoomForMarkers rfl rfl (by decide +kernel) ⟨Nat.le_of_ble_eq_true rfl, Nat.le_of_ble_eq_true rfl⟩) rfl rfl rfl rfl rfl (Nat.le_of_ble_eq_true rfl) dB_abortOpenTransactionOf_26 ⟨Nat.le_of_ble_eq_true rfl, Nat.le_of_ble_eq_true rfl⟩ (fun v S9 hp => ?_) (fun E S1 hx => ?_)
      · obtain ⟨hS9, hv, hrm⟩ := hp
        subst hv
        have hS9 := hS9.symm
        subst hS9
        refine z_aload_n (j := 1) X dB_abortOpenTransactionOf_29 rfl rfl ?_
        refine z_aload_n (j := 1) X dB_abortOpenTransactionOf_30 rfl rfl ?_
        refine z_getr (C := RB) (T := TB) (N := 11) (k := 2) X (w_in inB) rfl rfl rfl (by decide) (w_m lB_21) rfl rfl t2 dB_abortOpenTransactionOf_31 ?_
        refine z_iload_n (j := 0) X dB_abortOpenTransactionOf_34 rfl rfl ?_
        refine z_aald (t0 := 4) X rfl (by decide) (by decide) (by decide) rfl hj6 (by decide) (hse j hj6) dB_abortOpenTransactionOf_35 ?_
        refine z_iconst (v := (nI 0)) X dB_abortOpenTransactionOf_36 (by decide) ?_
        have hq : (b.2.2.1 j).1 = nI p9 := hC p9 j hp4 hj6 hj
        have hrm2 : ∀ t, zEx b t → zU b (b.2.2.1 j).1 t = true → (b.2.1 t).2.1.2 < 60 := by rw [hq]; exact hrm
        refine z_callV (n := 2) (As := [.ref (10 + j), .int (nI 0)]) (rest := []) X zG0_m (mB_decide l D dA false hB hW hE hj6 ⟨p9, hp4, hq⟩ hrm2) (w_V X.2.2.2.2.1 lB_141 jB_decide sB_decide i_LogBroker kB_decide rfl rfl (by decide +kernel) ⟨Nat.le_of_ble_eq_true rfl, Nat.le_of_ble_eq_true rfl⟩) rfl rfl rfl rfl rfl (Nat.le_of_ble_eq_true rfl) dB_abortOpenTransactionOf_37 ⟨Nat.le_of_ble_eq_true rfl, Nat.le_of_ble_eq_true rfl⟩ (fun v S2 hp => ?_) (fun E S1 hx => hx.elim)
        obtain ⟨hv, hB2, hfr2⟩ := hp
        subst hv
        have hW2 := zBrW_dec (c := false) hW hE hj6 ⟨p9, hp4, hq⟩ hrm2
        refine z_pop X dB_abortOpenTransactionOf_40 rfl ?_
        refine z_vret X hlocks hr dB_abortOpenTransactionOf_41 (by omega) (by omega) ?_
        exact ⟨_, rfl, by unfold sAb; rw [if_pos ⟨c_9, by rw [hj, nI_clamp (by omega)]; exact c_21⟩, if_pos (zRoom_y hE hrm), hj, nI_clamp (by omega)], hB2, hW2, hfr2⟩
      · obtain ⟨hX, hS9, hrm⟩ := hx
        subst hX
        have hS9 := hS9.symm
        subst hS9
        exact z_out (fun x hx9 => (hex x hx9).elim) hlocks ⟨rfl, rfl, by unfold sAb; rw [if_pos ⟨c_9, by rw [hj, nI_clamp (by omega)]; exact c_21⟩, if_neg (zRoom_n hrm)]⟩ (by omega) (by omega)

set_option maxHeartbeats 600000 in
set_option maxRecDepth 100000 in
theorem mB_open (l : Launch) (D : va_G) (dA : Nat → ClassId) {S : zS} {b : zBr} {x y : Int32} (hl0 : l.stackTraces = false) (hB : zBrA S b) (hW : zBrW b) (hE : zBrE b) (hC : zBrC b) : zMet l D vwCl zKK dA (zG0 D dA) yB_open (Cond.code yB_open cB_open 4 (some .int) :: zTs) { frames := 8, cells := 22, slots := 130, locals := 126 } 22 130 [.ref 1, .int x, .int y] S (fun v S' => ∃ r b', v = some (.int r) ∧ sOpen b x y = ((0, r), b') ∧ zBrA S' b' ∧ zfr zOwnB S S') (fun E S' => S' = S ∧ ((E = "java/lang/IllegalArgumentException" ∧ sOpen b x y = ((1, 0), b)) ∨ (E = "java/lang/IllegalStateException" ∧ sOpen b x y = ((2, 0), b)) ∨ (E = "java/lang/UnsupportedOperationException" ∧ sOpen b x y = ((3, 0), b)))) := by
  refine z_met (tys := ztys dA) (by decide) rfl zG0_K rfl (Nat.le_of_ble_eq_true rfl) (fun p e s m args below meth c A ad X hr hlocks hin hex => ?_)
  obtain ⟨hT, hLg, hSs, hGs, hnx, hnf⟩ := id hB
  obtain ⟨v1, v2, v3, v4, v5, v6, v7⟩ := id hW
  obtain ⟨hn, t0, t1, t2, t3, t4, t5, q6, q7, q8, q9, q10, hpt, hlg, hse, hcu, hop, hgr⟩ := id hT
  refine z_iload_n (j := 1) X dB_open_0 rfl rfl ?_
  refine z_iconst (v := (nI 0)) X dB_open_1 (by decide) ?_
  refine z_iconst (v := (nI 5)) X dB_open_2 (by decide) ?_
  refine z_callS (n := 3) (As := [.int x, .int (nI 0), .int (nI 5)]) (rest := []) X zG0_m (mB_mustBeWithin l D dA hl0) (w_S X.2.2.2.2.1 lB_45 tB_mustBeWithin i_LogBroker kB_mustBeWithin rfl rfl (by decide +kernel) ⟨Nat.le_of_ble_eq_true rfl, Nat.le_of_ble_eq_true rfl⟩) rfl rfl (Nat.le_of_ble_eq_true rfl) dB_open_3 ⟨Nat.le_of_ble_eq_true rfl, Nat.le_of_ble_eq_true rfl⟩ (fun v S9 hp => ?_) (fun E S1 hx => ?_)
  · obtain ⟨hv, hS9, hr1, hr2⟩ := hp
    subst hv
    have hS9 := hS9.symm
    subst hS9
    obtain ⟨i, hx9, hi⟩ := zRg (n := 5) (by omega) hr1 hr2
    subst hx9
    refine z_iload_n (j := 2) X dB_open_6 rfl rfl ?_
    refine z_iconst (v := (nI 0)) X dB_open_7 (by decide) ?_
    refine z_iconst (v := (nI 3)) X dB_open_8 (by decide) ?_
    refine z_callS (n := 3) (As := [.int y, .int (nI 0), .int (nI 3)]) (rest := []) X zG0_m (mB_mustBeWithin l D dA hl0) (w_S X.2.2.2.2.1 lB_45 tB_mustBeWithin i_LogBroker kB_mustBeWithin rfl rfl (by decide +kernel) ⟨Nat.le_of_ble_eq_true rfl, Nat.le_of_ble_eq_true rfl⟩) rfl rfl (Nat.le_of_ble_eq_true rfl) dB_open_9 ⟨Nat.le_of_ble_eq_true rfl, Nat.le_of_ble_eq_true rfl⟩ (fun v S9 hp => ?_) (fun E S1 hx => ?_)
    · obtain ⟨hv, hS9, hr1, hr2⟩ := hp
      subst hv
      have hS9 := hS9.symm
      subst hS9
      obtain ⟨p9, hx9, hp9⟩ := zRg (n := 3) (by omega) hr1 hr2
      subst hx9
      refine z_aload_n (j := 0) X dB_open_12 rfl rfl ?_
      refine z_getr (C := RB) (T := TB) (N := 11) (k := 2) X (w_in inB) rfl rfl rfl (by decide) (w_m lB_21) rfl rfl t2 dB_open_13 ?_
      refine z_iload_n (j := 1) X dB_open_16 rfl rfl ?_
      refine z_aald (t0 := 4) X rfl (by decide) (by decide) (by decide) rfl (by omega) (by decide) (hse i (by omega)) dB_open_17 ?_
      refine z_astore_n (L' := [(3, .ref (10 + i)), (0, .ref 1), (1, .int (nI i)), (2, .int (nI p9))]) X dB_open_18 rfl (by decide) rfl ?_
      refine z_aload_n (j := 0) X dB_open_19 rfl rfl ?_
      refine z_geti (C := RS) (T := TS) (N := 4) (k := 1) X (w_in inS) rfl rfl (kd_S (by omega)) (by decide) (w_m lB_59) rfl rfl dB_open_20 (hv := (hSs i (by omega)).2.2.2.2.1) ?_
      refine z_if_eq (tgt := 44) X dB_open_23 (by decide) (fun c_23 => ?_) (fun c_23 => ?_)
      · refine z_aload_n (j := 1) X dB_open_44 rfl rfl ?_
        refine z_iload_n (j := 3) X dB_open_45 rfl rfl ?_
        have hno : ¬ (¬ (b.2.2.1 i).2.1 = nI 0 ∧ ¬ (b.2.2.1 i).1 = nI p9) := fun h => by first | exact h.1 c_23 | exact h.2 c_31
        refine z_callV (n := 1) (As := [.int (nI p9)]) (rest := []) X zG0_m (mB_abortOpenTransactionOf l D dA hl0 hB hW hE hC (by omega)) (w_V X.2.2.2.2.1 lB_69 jB_abortOpenTransactionOf sB_abortOpenTransactionOf i_LogBroker kB_abortOpenTransactionOf rfl rfl (by decide +kernel) ⟨Nat.le_of_ble_eq_true rfl, Nat.le_of_ble_eq_true rfl⟩) rfl rfl rfl rfl rfl (Nat.le_of_ble_eq_true rfl) dB_open_46 ⟨Nat.le_of_ble_eq_true rfl, Nat.le_of_ble_eq_true rfl⟩ (fun v S1 hp => ?_) (fun E S1 hx => ?_)
        · obtain ⟨b1, hv, hab, hB1, hW1, hfr1⟩ := hp
          subst hv
          obtain ⟨hn, t0, t1, t2, t3, t4, t5, q6, q7, q8, q9, q10, hpt, hlg, hse, hcu, hop, hgr⟩ := id hB1.1
          have hSs := hB1.2.2.1
          have v4 := hW1.2.2.2.1
          have hSs1 := hSs i (by omega)
          refine z_aload_n (j := 1) X dB_open_49 rfl rfl ?_
          refine z_iload_n (j := 2) X dB_open_50 rfl rfl ?_
          refine z_callV (n := 1) (As := [.int (nI i)]) (rest := []) X zG0_m (mB_isCurrent l D dA hB1.1 (by omega) hSs1 (v4 i (by omega)).1) (w_V X.2.2.2.2.1 lB_73 jB_isCurrent sB_isCurrent i_LogBroker kB_isCurrent rfl rfl (by decide +kernel) ⟨Nat.le_of_ble_eq_true rfl, Nat.le_of_ble_eq_true rfl⟩) rfl rfl rfl rfl rfl (Nat.le_of_ble_eq_true rfl) dB_open_51 ⟨Nat.le_of_ble_eq_true rfl, Nat.le_of_ble_eq_true rfl⟩ (fun v S9 hp => ?_) (fun E S1 hx => hx.elim)
          obtain ⟨hS9, hp⟩ := hp
          have hS9 := hS9.symm
          subst hS9
          rcases hp with ⟨hv, hc⟩ | ⟨hv, hc⟩ <;> subst hv
          · obtain ⟨q, hq4, hq1, hq2⟩ := hc
            have hck : ¬ (b1.2.2.1 i).1 = -1 ∧ b1.2.2.2.1 (b1.2.2.1 i).1.toNatClampNeg = nI i := ⟨fun h => absurd (show nI q < 0 by rw [← hq1, h]; decide) (nI_pos (by omega)), by rw [hq1, nI_clamp (by omega)]; exact hq2⟩
            refine z_if_eq (tgt := 67) X dB_open_54 (by decide) (fun c_54 => absurd c_54 (by decide)) (fun c_54 => ?_)
            refine z_aload_n (j := 1) X dB_open_57 rfl rfl ?_
            refine z_getr (C := RB) (T := TB) (N := 11) (k := 3) X (w_in inB) rfl rfl rfl (by decide) (w_m lB_25) rfl rfl t3 dB_open_58 ?_
            refine z_aload_n (j := 0) X dB_open_61 rfl rfl ?_
            refine z_geti (C := RS) (T := TS) (N := 4) (k := 0) X (w_in inS) rfl rfl (kd_S (by omega)) (by decide) (w_m lB_63) rfl rfl dB_open_62 (hv := hSs1.2.2.2.1) ?_
            refine z_iconst (v := (-1)) X dB_open_65 (by decide) ?_
            rw [hq1]
            refine z_iast (t0 := 0) X rfl rfl hq4 (by decide) dB_open_66 ?_
            have hBx := zBrA_C (q := q) (v := -1) hB1 hW1
            have hWx := zBrW_C (q := q) (v := -1) hW1 (Or.inl rfl)
            have hfx := hfr1.tr (zfr.ownB (zfr.i (S := S1) (own := fun n => n = 5) (n := 5) (k := q) (x := -1) rfl) (fun n h => by omega))
            refine z_aload_n (j := 0) X dB_open_67 rfl rfl ?_
            refine z_iload_n (j := 3) X dB_open_68 rfl rfl ?_
            have hSx := hBx.2.2.1 i (by omega)
            refine z_callV (n := 1) (As := [.int (nI p9)]) (rest := []) X zG0_m (mS_startFor l D dA (by omega) hSx) (w_V X.2.2.2.2.1 lB_77 jS_startFor sS_startFor i_LogBroker_Session kS_startFor rfl rfl (by decide +kernel) ⟨Nat.le_of_ble_eq_true rfl, Nat.le_of_ble_eq_true rfl⟩) (kd_S (by omega)) rfl rfl rfl rfl (Nat.le_of_ble_eq_true rfl) dB_open_69 ⟨Nat.le_of_ble_eq_true rfl, Nat.le_of_ble_eq_true rfl⟩ (fun v S5 hp => ?_) (fun E S1 hx => hx.elim)
            obtain ⟨hv, hA5, hf5, hd5⟩ := hp
            subst hv
            have hB5 := zBrA_S hBx hWx (by omega) hA5 hf5
            have hW5 := zBrW_S hWx (i := i) (u := (nI p9, (b1.2.2.1 i).2.1, (fun _ => 0), (b1.2.2.1 i).2.2.2)) ⟨Or.inr ⟨p9, by omega, rfl⟩, (v4 i (by omega)).2⟩ (fun t ht => Nat.zero_le _)
            have hfr5 := hfx.tr (hf5.ownB (fun n h => by unfold zOwnS at h; omega))
            obtain ⟨hn, t0, t1, t2, t3, t4, t5, q6, q7, q8, q9, q10, hpt, hlg, hse, hcu, hop, hgr⟩ := id hB5.1
            refine z_aload_n (j := 1) X dB_open_72 rfl rfl ?_
            refine z_getr (C := RB) (T := TB) (N := 11) (k := 3) X (w_in inB) rfl rfl rfl (by decide) (w_m lB_25) rfl rfl t3 dB_open_73 ?_
            refine z_iload_n (j := 3) X dB_open_76 rfl rfl ?_
            refine z_iload_n (j := 2) X dB_open_77 rfl rfl ?_
            refine z_iast (t0 := 0) X rfl rfl (by omega) (by decide) dB_open_78 ?_
            have hB6 := zBrA_C (q := p9) (v := nI i) hB5 hW5
            have hW6 := zBrW_C (q := p9) (v := nI i) hW5 (Or.inr ⟨i, by omega, rfl⟩)
            refine z_aload_n (j := 1) X dB_open_79 rfl rfl ?_
            refine z_getr (C := RB) (T := TB) (N := 11) (k := 4) X (w_in inB) rfl rfl rfl (by decide) (w_m lB_28) rfl rfl (rp_i t4) dB_open_80 ?_
            refine z_iload_n (j := 3) X dB_open_83 rfl rfl ?_
            refine z_dup2 X dB_open_84 rfl rfl ?_
            refine z_iald (t0 := 0) X rfl rfl (by omega) (by decide) dB_open_85 (hv := (rd_i (Or.inl (by omega)) (hop p9 (by omega)))) ?_
            refine z_iconst (v := (nI 1)) X dB_open_86 (by decide) ?_
            refine z_iadd X dB_open_87 ?_
            refine z_iast (t0 := 0) X rfl rfl (by omega) (by decide) dB_open_88 ?_
            have hBo := zBrA_O (q := p9) (v := b1.2.2.2.2.1 p9 + nI 1) hB6 hW6
            have hfo := (hfr5.tr (zfr.ownB (zfr.i (S := S5) (own := fun n => n = 5) (n := 5) (k := p9) (x := nI i) rfl) (fun n h => by omega))).tr (zfr.ownB (zfr.i (own := fun n => n = 6) (n := 6) (k := p9) (x := b1.2.2.2.2.1 p9 + nI 1) rfl) (fun n h => by omega))
            refine z_aload_n (j := 1) X dB_open_89 rfl rfl ?_
            refine z_getr (C := RB) (T := TB) (N := 11) (k := 4) X (w_in inB) rfl rfl rfl (by decide) (w_m lB_28) rfl rfl (rp_i (rp_i t4)) dB_open_90 ?_
            refine z_iload_n (j := 3) X dB_open_93 rfl rfl ?_
            refine z_iald (t0 := 0) X rfl rfl (by omega) (by decide) dB_open_94 (hv := rd_s) ?_
            refine z_iret X hlocks hr dB_open_95 (by omega) (by omega) ?_
            refine ⟨_, _, rfl, by unfold sOpen; rw [zA_s hi (by decide), zA_s hp9 (by decide), if_neg hno, hab]; show ((0, _), sOp2 b1 i p9) = _; unfold sOp2; rw [if_pos hck, show (b1.2.2.1 i).1.toNatClampNeg = q by rw [hq1, nI_clamp (by omega)]]; rfl, hBo, hfo⟩
          · have hck : ¬ (¬ (b1.2.2.1 i).1 = -1 ∧ b1.2.2.2.1 (b1.2.2.1 i).1.toNatClampNeg = nI i) := fun h => by
              obtain ⟨q, hq4, hq1⟩ := (v4 i (by omega)).1.resolve_left h.1
              have h2 := h.2
              rw [hq1, nI_clamp (by omega)] at h2
              exact hc ⟨q, hq4, hq1, h2⟩
            have hBx := hB1
            have hWx := hW1
            have hfx := hfr1
            refine z_if_eq (tgt := 67) X dB_open_54 (by decide) (fun c_54 => ?_) (fun c_54 => absurd c_54 (by decide))
            refine z_aload_n (j := 0) X dB_open_67 rfl rfl ?_
            refine z_iload_n (j := 3) X dB_open_68 rfl rfl ?_
            have hSx := hBx.2.2.1 i (by omega)
            refine z_callV (n := 1) (As := [.int (nI p9)]) (rest := []) X zG0_m (mS_startFor l D dA (by omega) hSx) (w_V X.2.2.2.2.1 lB_77 jS_startFor sS_startFor i_LogBroker_Session kS_startFor rfl rfl (by decide +kernel) ⟨Nat.le_of_ble_eq_true rfl, Nat.le_of_ble_eq_true rfl⟩) (kd_S (by omega)) rfl rfl rfl rfl (Nat.le_of_ble_eq_true rfl) dB_open_69 ⟨Nat.le_of_ble_eq_true rfl, Nat.le_of_ble_eq_true rfl⟩ (fun v S5 hp => ?_) (fun E S1 hx => hx.elim)
            obtain ⟨hv, hA5, hf5, hd5⟩ := hp
            subst hv
            have hB5 := zBrA_S hBx hWx (by omega) hA5 hf5
            have hW5 := zBrW_S hWx (i := i) (u := (nI p9, (b1.2.2.1 i).2.1, (fun _ => 0), (b1.2.2.1 i).2.2.2)) ⟨Or.inr ⟨p9, by omega, rfl⟩, (v4 i (by omega)).2⟩ (fun t ht => Nat.zero_le _)
            have hfr5 := hfx.tr (hf5.ownB (fun n h => by unfold zOwnS at h; omega))
            obtain ⟨hn, t0, t1, t2, t3, t4, t5, q6, q7, q8, q9, q10, hpt, hlg, hse, hcu, hop, hgr⟩ := id hB5.1
            refine z_aload_n (j := 1) X dB_open_72 rfl rfl ?_
            refine z_getr (C := RB) (T := TB) (N := 11) (k := 3) X (w_in inB) rfl rfl rfl (by decide) (w_m lB_25) rfl rfl t3 dB_open_73 ?_
            refine z_iload_n (j := 3) X dB_open_76 rfl rfl ?_
            refine z_iload_n (j := 2) X dB_open_77 rfl rfl ?_
            refine z_iast (t0 := 0) X rfl rfl (by omega) (by decide) dB_open_78 ?_
            have hB6 := zBrA_C (q := p9) (v := nI i) hB5 hW5
            have hW6 := zBrW_C (q := p9) (v := nI i) hW5 (Or.inr ⟨i, by omega, rfl⟩)
            refine z_aload_n (j := 1) X dB_open_79 rfl rfl ?_
            refine z_getr (C := RB) (T := TB) (N := 11) (k := 4) X (w_in inB) rfl rfl rfl (by decide) (w_m lB_28) rfl rfl (rp_i t4) dB_open_80 ?_
            refine z_iload_n (j := 3) X dB_open_83 rfl rfl ?_
            refine z_dup2 X dB_open_84 rfl rfl ?_
            refine z_iald (t0 := 0) X rfl rfl (by omega) (by decide) dB_open_85 (hv := (rd_i (Or.inl (by omega)) (hop p9 (by omega)))) ?_
            refine z_iconst (v := (nI 1)) X dB_open_86 (by decide) ?_
            refine z_iadd X dB_open_87 ?_
            refine z_iast (t0 := 0) X rfl rfl (by omega) (by decide) dB_open_88 ?_
            have hBo := zBrA_O (q := p9) (v := b1.2.2.2.2.1 p9 + nI 1) hB6 hW6
            have hfo := (hfr5.tr (zfr.ownB (zfr.i (S := S5) (own := fun n => n = 5) (n := 5) (k := p9) (x := nI i) rfl) (fun n h => by omega))).tr (zfr.ownB (zfr.i (own := fun n => n = 6) (n := 6) (k := p9) (x := b1.2.2.2.2.1 p9 + nI 1) rfl) (fun n h => by omega))
            refine z_aload_n (j := 1) X dB_open_89 rfl rfl ?_
            refine z_getr (C := RB) (T := TB) (N := 11) (k := 4) X (w_in inB) rfl rfl rfl (by decide) (w_m lB_28) rfl rfl (rp_i (rp_i t4)) dB_open_90 ?_
            refine z_iload_n (j := 3) X dB_open_93 rfl rfl ?_
            refine z_iald (t0 := 0) X rfl rfl (by omega) (by decide) dB_open_94 (hv := rd_s) ?_
            refine z_iret X hlocks hr dB_open_95 (by omega) (by omega) ?_
            refine ⟨_, _, rfl, by unfold sOpen; rw [zA_s hi (by decide), zA_s hp9 (by decide), if_neg hno, hab]; show ((0, _), sOp2 b1 i p9) = _; unfold sOp2; rw [if_neg hck]; rfl, hBo, hfo⟩
        · obtain ⟨hX, hS9, hab⟩ := hx
          subst hX
          have hS9 := hS9.symm
          subst hS9
          exact z_out (fun x hx9 => (hex x hx9).elim) hlocks ⟨rfl, Or.inr (Or.inr (⟨rfl, by unfold sOpen; rw [zA_s hi (by decide), zA_s hp9 (by decide), if_neg hno, hab]; rfl⟩))⟩ (by omega) (by omega)
      · refine z_aload_n (j := 0) X dB_open_26 rfl rfl ?_
        refine z_geti (C := RS) (T := TS) (N := 4) (k := 0) X (w_in inS) rfl rfl (kd_S (by omega)) (by decide) (w_m lB_63) rfl rfl dB_open_27 (hv := (hSs i (by omega)).2.2.2.1) ?_
        refine z_iload_n (j := 3) X dB_open_30 rfl rfl ?_
        refine z_icmp_eq (tgt := 44) X dB_open_31 (by decide) (fun c_31 => ?_) (fun c_31 => ?_)
        · refine z_aload_n (j := 1) X dB_open_44 rfl rfl ?_
          refine z_iload_n (j := 3) X dB_open_45 rfl rfl ?_
          have hno : ¬ (¬ (b.2.2.1 i).2.1 = nI 0 ∧ ¬ (b.2.2.1 i).1 = nI p9) := fun h => by first | exact h.1 c_23 | exact h.2 c_31
          refine z_callV (n := 1) (As := [.int (nI p9)]) (rest := []) X zG0_m (mB_abortOpenTransactionOf l D dA hl0 hB hW hE hC (by omega)) (w_V X.2.2.2.2.1 lB_69 jB_abortOpenTransactionOf sB_abortOpenTransactionOf i_LogBroker kB_abortOpenTransactionOf rfl rfl (by decide +kernel) ⟨Nat.le_of_ble_eq_true rfl, Nat.le_of_ble_eq_true rfl⟩) rfl rfl rfl rfl rfl (Nat.le_of_ble_eq_true rfl) dB_open_46 ⟨Nat.le_of_ble_eq_true rfl, Nat.le_of_ble_eq_true rfl⟩ (fun v S1 hp => ?_) (fun E S1 hx => ?_)
          · obtain ⟨b1, hv, hab, hB1, hW1, hfr1⟩ := hp
            subst hv
            obtain ⟨hn, t0, t1, t2, t3, t4, t5, q6, q7, q8, q9, q10, hpt, hlg, hse, hcu, hop, hgr⟩ := id hB1.1
            have hSs := hB1.2.2.1
            have v4 := hW1.2.2.2.1
            have hSs1 := hSs i (by omega)
            refine z_aload_n (j := 1) X dB_open_49 rfl rfl ?_
            refine z_iload_n (j := 2) X dB_open_50 rfl rfl ?_
            refine z_callV (n := 1) (As := [.int (nI i)]) (rest := []) X zG0_m (mB_isCurrent l D dA hB1.1 (by omega) hSs1 (v4 i (by omega)).1) (w_V X.2.2.2.2.1 lB_73 jB_isCurrent sB_isCurrent i_LogBroker kB_isCurrent rfl rfl (by decide +kernel) ⟨Nat.le_of_ble_eq_true rfl, Nat.le_of_ble_eq_true rfl⟩) rfl rfl rfl rfl rfl (Nat.le_of_ble_eq_true rfl) dB_open_51 ⟨Nat.le_of_ble_eq_true rfl, Nat.le_of_ble_eq_true rfl⟩ (fun v S9 hp => ?_) (fun E S1 hx => hx.elim)
            obtain ⟨hS9, hp⟩ := hp
            have hS9 := hS9.symm
            subst hS9
            rcases hp with ⟨hv, hc⟩ | ⟨hv, hc⟩ <;> subst hv
            · obtain ⟨q, hq4, hq1, hq2⟩ := hc
              have hck : ¬ (b1.2.2.1 i).1 = -1 ∧ b1.2.2.2.1 (b1.2.2.1 i).1.toNatClampNeg = nI i := ⟨fun h => absurd (show nI q < 0 by rw [← hq1, h]; decide) (nI_pos (by omega)), by rw [hq1, nI_clamp (by omega)]; exact hq2⟩
              refine z_if_eq (tgt := 67) X dB_open_54 (by decide) (fun c_54 => absurd c_54 (by decide)) (fun c_54 => ?_)
              refine z_aload_n (j := 1) X dB_open_57 rfl rfl ?_
              refine z_getr (C := RB) (T := TB) (N := 11) (k := 3) X (w_in inB) rfl rfl rfl (by decide) (w_m lB_25) rfl rfl t3 dB_open_58 ?_
              refine z_aload_n (j := 0) X dB_open_61 rfl rfl ?_
              refine z_geti (C := RS) (T := TS) (N := 4) (k := 0) X (w_in inS) rfl rfl (kd_S (by omega)) (by decide) (w_m lB_63) rfl rfl dB_open_62 (hv := hSs1.2.2.2.1) ?_
              refine z_iconst (v := (-1)) X dB_open_65 (by decide) ?_
              rw [hq1]
              refine z_iast (t0 := 0) X rfl rfl hq4 (by decide) dB_open_66 ?_
              have hBx := zBrA_C (q := q) (v := -1) hB1 hW1
              have hWx := zBrW_C (q := q) (v := -1) hW1 (Or.inl rfl)
              have hfx := hfr1.tr (zfr.ownB (zfr.i (S := S1) (own := fun n => n = 5) (n := 5) (k := q) (x := -1) rfl) (fun n h => by omega))
              refine z_aload_n (j := 0) X dB_open_67 rfl rfl ?_
              refine z_iload_n (j := 3) X dB_open_68 rfl rfl ?_
              have hSx := hBx.2.2.1 i (by omega)
              refine z_callV (n := 1) (As := [.int (nI p9)]) (rest := []) X zG0_m (mS_startFor l D dA (by omega) hSx) (w_V X.2.2.2.2.1 lB_77 jS_startFor sS_startFor i_LogBroker_Session kS_startFor rfl rfl (by decide +kernel) ⟨Nat.le_of_ble_eq_true rfl, Nat.le_of_ble_eq_true rfl⟩) (kd_S (by omega)) rfl rfl rfl rfl (Nat.le_of_ble_eq_true rfl) dB_open_69 ⟨Nat.le_of_ble_eq_true rfl, Nat.le_of_ble_eq_true rfl⟩ (fun v S5 hp => ?_) (fun E S1 hx => hx.elim)
              obtain ⟨hv, hA5, hf5, hd5⟩ := hp
              subst hv
              have hB5 := zBrA_S hBx hWx (by omega) hA5 hf5
              have hW5 := zBrW_S hWx (i := i) (u := (nI p9, (b1.2.2.1 i).2.1, (fun _ => 0), (b1.2.2.1 i).2.2.2)) ⟨Or.inr ⟨p9, by omega, rfl⟩, (v4 i (by omega)).2⟩ (fun t ht => Nat.zero_le _)
              have hfr5 := hfx.tr (hf5.ownB (fun n h => by unfold zOwnS at h; omega))
              obtain ⟨hn, t0, t1, t2, t3, t4, t5, q6, q7, q8, q9, q10, hpt, hlg, hse, hcu, hop, hgr⟩ := id hB5.1
              refine z_aload_n (j := 1) X dB_open_72 rfl rfl ?_
              refine z_getr (C := RB) (T := TB) (N := 11) (k := 3) X (w_in inB) rfl rfl rfl (by decide) (w_m lB_25) rfl rfl t3 dB_open_73 ?_
              refine z_iload_n (j := 3) X dB_open_76 rfl rfl ?_
              refine z_iload_n (j := 2) X dB_open_77 rfl rfl ?_
              refine z_iast (t0 := 0) X rfl rfl (by omega) (by decide) dB_open_78 ?_
              have hB6 := zBrA_C (q := p9) (v := nI i) hB5 hW5
              have hW6 := zBrW_C (q := p9) (v := nI i) hW5 (Or.inr ⟨i, by omega, rfl⟩)
              refine z_aload_n (j := 1) X dB_open_79 rfl rfl ?_
              refine z_getr (C := RB) (T := TB) (N := 11) (k := 4) X (w_in inB) rfl rfl rfl (by decide) (w_m lB_28) rfl rfl (rp_i t4) dB_open_80 ?_
              refine z_iload_n (j := 3) X dB_open_83 rfl rfl ?_
              refine z_dup2 X dB_open_84 rfl rfl ?_
              refine z_iald (t0 := 0) X rfl rfl (by omega) (by decide) dB_open_85 (hv := (rd_i (Or.inl (by omega)) (hop p9 (by omega)))) ?_
              refine z_iconst (v := (nI 1)) X dB_open_86 (by decide) ?_
              refine z_iadd X dB_open_87 ?_
              refine z_iast (t0 := 0) X rfl rfl (by omega) (by decide) dB_open_88 ?_
              have hBo := zBrA_O (q := p9) (v := b1.2.2.2.2.1 p9 + nI 1) hB6 hW6
              have hfo := (hfr5.tr (zfr.ownB (zfr.i (S := S5) (own := fun n => n = 5) (n := 5) (k := p9) (x := nI i) rfl) (fun n h => by omega))).tr (zfr.ownB (zfr.i (own := fun n => n = 6) (n := 6) (k := p9) (x := b1.2.2.2.2.1 p9 + nI 1) rfl) (fun n h => by omega))
              refine z_aload_n (j := 1) X dB_open_89 rfl rfl ?_
              refine z_getr (C := RB) (T := TB) (N := 11) (k := 4) X (w_in inB) rfl rfl rfl (by decide) (w_m lB_28) rfl rfl (rp_i (rp_i t4)) dB_open_90 ?_
              refine z_iload_n (j := 3) X dB_open_93 rfl rfl ?_
              refine z_iald (t0 := 0) X rfl rfl (by omega) (by decide) dB_open_94 (hv := rd_s) ?_
              refine z_iret X hlocks hr dB_open_95 (by omega) (by omega) ?_
              refine ⟨_, _, rfl, by unfold sOpen; rw [zA_s hi (by decide), zA_s hp9 (by decide), if_neg hno, hab]; show ((0, _), sOp2 b1 i p9) = _; unfold sOp2; rw [if_pos hck, show (b1.2.2.1 i).1.toNatClampNeg = q by rw [hq1, nI_clamp (by omega)]]; rfl, hBo, hfo⟩
            · have hck : ¬ (¬ (b1.2.2.1 i).1 = -1 ∧ b1.2.2.2.1 (b1.2.2.1 i).1.toNatClampNeg = nI i) := fun h => by
                obtain ⟨q, hq4, hq1⟩ := (v4 i (by omega)).1.resolve_left h.1
                have h2 := h.2
                rw [hq1, nI_clamp (by omega)] at h2
                exact hc ⟨q, hq4, hq1, h2⟩
              have hBx := hB1
              have hWx := hW1
              have hfx := hfr1
              refine z_if_eq (tgt := 67) X dB_open_54 (by decide) (fun c_54 => ?_) (fun c_54 => absurd c_54 (by decide))
              refine z_aload_n (j := 0) X dB_open_67 rfl rfl ?_
              refine z_iload_n (j := 3) X dB_open_68 rfl rfl ?_
              have hSx := hBx.2.2.1 i (by omega)
              refine z_callV (n := 1) (As := [.int (nI p9)]) (rest := []) X zG0_m (mS_startFor l D dA (by omega) hSx) (w_V X.2.2.2.2.1 lB_77 jS_startFor sS_startFor i_LogBroker_Session kS_startFor rfl rfl (by decide +kernel) ⟨Nat.le_of_ble_eq_true rfl, Nat.le_of_ble_eq_true rfl⟩) (kd_S (by omega)) rfl rfl rfl rfl (Nat.le_of_ble_eq_true rfl) dB_open_69 ⟨Nat.le_of_ble_eq_true rfl, Nat.le_of_ble_eq_true rfl⟩ (fun v S5 hp => ?_) (fun E S1 hx => hx.elim)
              obtain ⟨hv, hA5, hf5, hd5⟩ := hp
              subst hv
              have hB5 := zBrA_S hBx hWx (by omega) hA5 hf5
              have hW5 := zBrW_S hWx (i := i) (u := (nI p9, (b1.2.2.1 i).2.1, (fun _ => 0), (b1.2.2.1 i).2.2.2)) ⟨Or.inr ⟨p9, by omega, rfl⟩, (v4 i (by omega)).2⟩ (fun t ht => Nat.zero_le _)
              have hfr5 := hfx.tr (hf5.ownB (fun n h => by unfold zOwnS at h; omega))
              obtain ⟨hn, t0, t1, t2, t3, t4, t5, q6, q7, q8, q9, q10, hpt, hlg, hse, hcu, hop, hgr⟩ := id hB5.1
              refine z_aload_n (j := 1) X dB_open_72 rfl rfl ?_
              refine z_getr (C := RB) (T := TB) (N := 11) (k := 3) X (w_in inB) rfl rfl rfl (by decide) (w_m lB_25) rfl rfl t3 dB_open_73 ?_
              refine z_iload_n (j := 3) X dB_open_76 rfl rfl ?_
              refine z_iload_n (j := 2) X dB_open_77 rfl rfl ?_
              refine z_iast (t0 := 0) X rfl rfl (by omega) (by decide) dB_open_78 ?_
              have hB6 := zBrA_C (q := p9) (v := nI i) hB5 hW5
              have hW6 := zBrW_C (q := p9) (v := nI i) hW5 (Or.inr ⟨i, by omega, rfl⟩)
              refine z_aload_n (j := 1) X dB_open_79 rfl rfl ?_
              refine z_getr (C := RB) (T := TB) (N := 11) (k := 4) X (w_in inB) rfl rfl rfl (by decide) (w_m lB_28) rfl rfl (rp_i t4) dB_open_80 ?_
              refine z_iload_n (j := 3) X dB_open_83 rfl rfl ?_
              refine z_dup2 X dB_open_84 rfl rfl ?_
              refine z_iald (t0 := 0) X rfl rfl (by omega) (by decide) dB_open_85 (hv := (rd_i (Or.inl (by omega)) (hop p9 (by omega)))) ?_
              refine z_iconst (v := (nI 1)) X dB_open_86 (by decide) ?_
              refine z_iadd X dB_open_87 ?_
              refine z_iast (t0 := 0) X rfl rfl (by omega) (by decide) dB_open_88 ?_
              have hBo := zBrA_O (q := p9) (v := b1.2.2.2.2.1 p9 + nI 1) hB6 hW6
              have hfo := (hfr5.tr (zfr.ownB (zfr.i (S := S5) (own := fun n => n = 5) (n := 5) (k := p9) (x := nI i) rfl) (fun n h => by omega))).tr (zfr.ownB (zfr.i (own := fun n => n = 6) (n := 6) (k := p9) (x := b1.2.2.2.2.1 p9 + nI 1) rfl) (fun n h => by omega))
              refine z_aload_n (j := 1) X dB_open_89 rfl rfl ?_
              refine z_getr (C := RB) (T := TB) (N := 11) (k := 4) X (w_in inB) rfl rfl rfl (by decide) (w_m lB_28) rfl rfl (rp_i (rp_i t4)) dB_open_90 ?_
              refine z_iload_n (j := 3) X dB_open_93 rfl rfl ?_
              refine z_iald (t0 := 0) X rfl rfl (by omega) (by decide) dB_open_94 (hv := rd_s) ?_
              refine z_iret X hlocks hr dB_open_95 (by omega) (by omega) ?_
              refine ⟨_, _, rfl, by unfold sOpen; rw [zA_s hi (by decide), zA_s hp9 (by decide), if_neg hno, hab]; show ((0, _), sOp2 b1 i p9) = _; unfold sOp2; rw [if_neg hck]; rfl, hBo, hfo⟩
          · obtain ⟨hX, hS9, hab⟩ := hx
            subst hX
            have hS9 := hS9.symm
            subst hS9
            exact z_out (fun x hx9 => (hex x hx9).elim) hlocks ⟨rfl, Or.inr (Or.inr (⟨rfl, by unfold sOpen; rw [zA_s hi (by decide), zA_s hp9 (by decide), if_neg hno, hab]; rfl⟩))⟩ (by omega) (by omega)
        · exact z_thISE (text := "it has an open transaction for another producer") X hl0 (by decide +kernel) dB_open_34 dB_open_37 dB_open_38 dB_open_40 dB_open_43 hex (Nat.le_of_ble_eq_true rfl) (Nat.le_of_ble_eq_true rfl) (Nat.le_of_ble_eq_true rfl) (Nat.le_of_ble_eq_true rfl) hlocks (by omega) (by omega) ⟨rfl, Or.inr (Or.inl ⟨rfl, by unfold sOpen; rw [zA_s hi (by decide), zA_s hp9 (by decide), if_pos (show ¬ (b.2.2.1 i).2.1 = nI 0 ∧ ¬ (b.2.2.1 i).1 = nI p9 from ⟨c_23, c_31⟩)]⟩)⟩
    · obtain ⟨hE, hS9, hn9⟩ := hx
      subst hE
      have hS9 := hS9.symm
      subst hS9
      exact z_out (fun x hx9 => (hex x hx9).elim) hlocks ⟨rfl, Or.inl ⟨rfl, by unfold sOpen; rw [zA_s hi (by decide), zA_n hn9]⟩⟩ (by omega) (by omega)
  · obtain ⟨hE, hS9, hn9⟩ := hx
    subst hE
    have hS9 := hS9.symm
    subst hS9
    exact z_out (fun x hx9 => (hex x hx9).elim) hlocks ⟨rfl, Or.inl ⟨rfl, by unfold sOpen; rw [zA_n hn9]⟩⟩ (by omega) (by omega)
