/-! CONTRACTS of LogBroker: small private methods (rows by program) -/
set_option maxHeartbeats 600000 in
set_option maxRecDepth 100000 in
theorem mB_mustBeWithin (l : Launch) (D : va_G) (dA : Nat → ClassId) {S : zS} {x a b : Int32} (hl0 : l.stackTraces = false) : zMet l D vwCl zKK dA (zG0 D dA) yB_mustBeWithin (Cond.code yB_mustBeWithin cB_mustBeWithin 3 none :: zTs) { frames := 6, cells := 1, slots := 6, locals := 82 } 1 6 [.int x, .int a, .int b] S (fun v S' => v = none ∧ S' = S ∧ ¬ x < a ∧ ¬ b < x) (fun E S' => E = "java/lang/IllegalArgumentException" ∧ S' = S ∧ (x < a ∨ b < x)) := by
  refine z_met (tys := ztys dA) (by decide) rfl zG0_K rfl (Nat.le_of_ble_eq_true rfl) (fun p e s m args below meth c A ad X hr hlocks hin hex => ?_)
  refine z_iload_n (j := 0) X dB_mustBeWithin_0 rfl rfl ?_
  refine z_iload_n (j := 1) X dB_mustBeWithin_1 rfl rfl ?_
  refine z_icmp_lt (tgt := 10) X dB_mustBeWithin_2 (by decide) (fun c_2 => ?_) (fun c_2 => ?_)
  · exact z_thIAE (text := "a number is out of range") X hl0 (by decide +kernel) dB_mustBeWithin_10 dB_mustBeWithin_13 dB_mustBeWithin_14 dB_mustBeWithin_16 dB_mustBeWithin_19 hex (Nat.le_of_ble_eq_true rfl) (Nat.le_of_ble_eq_true rfl) (Nat.le_of_ble_eq_true rfl) (Nat.le_of_ble_eq_true rfl) hlocks (by omega) (by omega) ⟨rfl, rfl, by first | exact Or.inl c_2 | exact Or.inr (Int32.not_le.mp c_7)⟩
  · refine z_iload_n (j := 0) X dB_mustBeWithin_5 rfl rfl ?_
    refine z_iload_n (j := 2) X dB_mustBeWithin_6 rfl rfl ?_
    refine z_icmp_le (tgt := 20) X dB_mustBeWithin_7 (by decide) (fun c_7 => ?_) (fun c_7 => ?_)
    · refine z_vret X hlocks hr dB_mustBeWithin_20 (by omega) (by omega) ?_
      exact ⟨rfl, rfl, c_2, Int32.not_lt.mpr c_7⟩
    · exact z_thIAE (text := "a number is out of range") X hl0 (by decide +kernel) dB_mustBeWithin_10 dB_mustBeWithin_13 dB_mustBeWithin_14 dB_mustBeWithin_16 dB_mustBeWithin_19 hex (Nat.le_of_ble_eq_true rfl) (Nat.le_of_ble_eq_true rfl) (Nat.le_of_ble_eq_true rfl) (Nat.le_of_ble_eq_true rfl) hlocks (by omega) (by omega) ⟨rfl, rfl, by first | exact Or.inl c_2 | exact Or.inr (Int32.not_le.mp c_7)⟩

set_option maxHeartbeats 600000 in
set_option maxRecDepth 100000 in
theorem mB_found (l : Launch) (D : va_G) (dA : Nat → ClassId) {S : zS} {x : Int32} (hl0 : l.stackTraces = false) : zMet l D vwCl zKK dA (zG0 D dA) yB_found (Cond.code yB_found cB_found 1 (some .int) :: zTs) { frames := 6, cells := 1, slots := 6, locals := 82 } 1 6 [.int x] S (fun v S' => v = some (.int x) ∧ S' = S ∧ ¬ x = -1) (fun E S' => E = "java/util/NoSuchElementException" ∧ S' = S ∧ x = -1) := by
  refine z_met (tys := ztys dA) (by decide) rfl zG0_K rfl (Nat.le_of_ble_eq_true rfl) (fun p e s m args below meth c A ad X hr hlocks hin hex => ?_)
  refine z_iload_n (j := 0) X dB_found_0 rfl rfl ?_
  refine z_iconst (v := (-1)) X dB_found_1 (by decide) ?_
  refine z_icmp_ne (tgt := 16) X dB_found_2 (by decide) (fun c_2 => ?_) (fun c_2 => ?_)
  · refine z_iload_n (j := 0) X dB_found_16 rfl rfl ?_
    refine z_iret X hlocks hr dB_found_17 (by omega) (by omega) ?_
    exact ⟨rfl, rfl, c_2⟩
  · exact z_thNSEW (text := "there is none") X hl0 (by decide +kernel) dB_found_5 dB_found_8 dB_found_9 dB_found_12 dB_found_15 hex (Nat.le_of_ble_eq_true rfl) (Nat.le_of_ble_eq_true rfl) (Nat.le_of_ble_eq_true rfl) (Nat.le_of_ble_eq_true rfl) hlocks (by omega) (by omega) ⟨rfl, rfl, c_2⟩

set_option maxHeartbeats 600000 in
set_option maxRecDepth 100000 in
theorem mB_logAt (l : Launch) (D : va_G) (dA : Nat → ClassId) {S : zS} {b : zBr} {x : Int32} (hl0 : l.stackTraces = false) (hT : zTop S b) : zMet l D vwCl zKK dA (zG0 D dA) yB_logAt (Cond.code yB_logAt cB_logAt 2 (some (.object "LogBroker$Log")) :: zTs) { frames := 6, cells := 1, slots := 6, locals := 82 } 1 6 [.ref 1, .int x] S (fun v S' => S' = S ∧ ∃ t, zEx b t ∧ x = nI t ∧ v = some (.ref (60 + t))) (fun E S' => E = "java/lang/IllegalArgumentException" ∧ S' = S ∧ ¬ ∃ t, zEx b t ∧ x = nI t) := by
  refine z_met (tys := ztys dA) (by decide) rfl zG0_K rfl (Nat.le_of_ble_eq_true rfl) (fun p e s m args below meth c A ad X hr hlocks hin hex => ?_)
  obtain ⟨hn, t0, t1, t2, t3, t4, t5, q6, q7, q8, q9, q10, hpt, hlg, hse, hcu, hop, hgr⟩ := id hT
  refine z_iload_n (j := 1) X dB_logAt_0 rfl rfl ?_
  refine z_if_lt (tgt := 19) X dB_logAt_1 (by decide) (fun c_1 => ?_) (fun c_1 => ?_)
  · exact z_thIAE (text := "the partition is not there") X hl0 (by decide +kernel) dB_logAt_19 dB_logAt_22 dB_logAt_23 dB_logAt_25 dB_logAt_28 hex (Nat.le_of_ble_eq_true rfl) (Nat.le_of_ble_eq_true rfl) (Nat.le_of_ble_eq_true rfl) (Nat.le_of_ble_eq_true rfl) hlocks (by omega) (by omega) ⟨rfl, rfl, fun h => by
      obtain ⟨t2, h2, h3⟩ := h
      have h4 := h2.1
      subst h3
      first | exact absurd c_1 (nI_pos (by omega)) | exact absurd c_7 (nI_ge (by omega) (by decide))⟩
  · refine z_iload_n (j := 1) X dB_logAt_4 rfl rfl ?_
    refine z_bipush (v := (nI 12)) X dB_logAt_5 (by decide) ?_
    refine z_icmp_ge (tgt := 19) X dB_logAt_7 (by decide) (fun c_7 => ?_) (fun c_7 => ?_)
    · exact z_thIAE (text := "the partition is not there") X hl0 (by decide +kernel) dB_logAt_19 dB_logAt_22 dB_logAt_23 dB_logAt_25 dB_logAt_28 hex (Nat.le_of_ble_eq_true rfl) (Nat.le_of_ble_eq_true rfl) (Nat.le_of_ble_eq_true rfl) (Nat.le_of_ble_eq_true rfl) hlocks (by omega) (by omega) ⟨rfl, rfl, fun h => by
        obtain ⟨t2, h2, h3⟩ := h
        have h4 := h2.1
        subst h3
        first | exact absurd c_1 (nI_pos (by omega)) | exact absurd c_7 (nI_ge (by omega) (by decide))⟩
    · obtain ⟨t, ht, rfl⟩ : ∃ t : Nat, t < 12 ∧ x = nI t := by
        rcases pk_ix x (n := 12) (by decide) with h | h | h
        · exact absurd h c_1
        · exact absurd h c_7
        · exact h
      refine z_aload_n (j := 0) X dB_logAt_10 rfl rfl ?_
      refine z_getr (C := RB) (T := TB) (N := 11) (k := 1) X (w_in inB) rfl rfl rfl (by decide) (w_m lB_15) rfl rfl t1 dB_logAt_11 ?_
      refine z_iload_n (j := 1) X dB_logAt_14 rfl rfl ?_
      by_cases hc : t % 4 < b.1 (t / 4)
      · refine z_aald (t0 := 3) X rfl (by decide) (by decide) (by decide) rfl ht (by decide) (by rw [hlg t ht, if_pos hc]) dB_logAt_15 ?_
        refine z_ifnonnull (tgt := 29) X dB_logAt_16 (by decide) ?_
        refine z_aload_n (j := 0) X dB_logAt_29 rfl rfl ?_
        refine z_getr (C := RB) (T := TB) (N := 11) (k := 1) X (w_in inB) rfl rfl rfl (by decide) (w_m lB_15) rfl rfl t1 dB_logAt_30 ?_
        refine z_iload_n (j := 1) X dB_logAt_33 rfl rfl ?_
        refine z_aald (t0 := 3) X rfl (by decide) (by decide) (by decide) rfl ht (by decide) (by rw [hlg t ht, if_pos hc]) dB_logAt_34 ?_
        refine z_aret X hlocks hr (Or.inl ⟨_, rfl⟩) dB_logAt_35 (by omega) (by omega) ?_
        exact ⟨rfl, t, ⟨ht, hc⟩, rfl, rfl⟩
      · refine z_aaldN (t0 := 3) X rfl (by decide) (by decide) (by decide) rfl ht (by decide) (by rw [hlg t ht, if_neg hc]) dB_logAt_15 ?_
        refine z_ifnonnullN X dB_logAt_16 ?_
        exact z_thIAE (text := "the partition is not there") X hl0 (by decide +kernel) dB_logAt_19 dB_logAt_22 dB_logAt_23 dB_logAt_25 dB_logAt_28 hex (Nat.le_of_ble_eq_true rfl) (Nat.le_of_ble_eq_true rfl) (Nat.le_of_ble_eq_true rfl) (Nat.le_of_ble_eq_true rfl) hlocks (by omega) (by omega) ⟨rfl, rfl, fun h => by
          obtain ⟨t2, h2, h3⟩ := h
          have e2 := (nI_eq (by omega) (by have := h2.1; omega)).mp h3
          subst e2
          exact hc h2.2⟩

set_option maxHeartbeats 600000 in
set_option maxRecDepth 100000 in
theorem mB_openedSession (l : Launch) (D : va_G) (dA : Nat → ClassId) {S : zS} {b : zBr} {i : Nat} (hl0 : l.stackTraces = false) (hT : zTop S b) (hi : i < 6) (hSs : zSsA S i (b.2.2.1 i)) : zMet l D vwCl zKK dA (zG0 D dA) yB_openedSession (Cond.code yB_openedSession cB_openedSession 2 (some (.object "LogBroker$Session")) :: zTs) { frames := 6, cells := 1, slots := 6, locals := 82 } 1 6 [.ref 1, .int (nI i)] S (fun v S' => S' = S ∧ v = some (.ref (10 + i)) ∧ ¬ (b.2.2.1 i).1 = -1) (fun E S' => E = "java/util/NoSuchElementException" ∧ S' = S ∧ (b.2.2.1 i).1 = -1) := by
  refine z_met (tys := ztys dA) (by decide) rfl zG0_K rfl (Nat.le_of_ble_eq_true rfl) (fun p e s m args below meth c A ad X hr hlocks hin hex => ?_)
  obtain ⟨hn, t0, t1, t2, t3, t4, t5, q6, q7, q8, q9, q10, hpt, hlg, hse, hcu, hop, hgr⟩ := id hT
  obtain ⟨hd1, hd2, hd3, f0, f1, f2, f3, hex0, hof0⟩ := id hSs
  refine z_aload_n (j := 0) X dB_openedSession_0 rfl rfl ?_
  refine z_getr (C := RB) (T := TB) (N := 11) (k := 2) X (w_in inB) rfl rfl rfl (by decide) (w_m lB_21) rfl rfl t2 dB_openedSession_1 ?_
  refine z_iload_n (j := 1) X dB_openedSession_4 rfl rfl ?_
  refine z_aald (t0 := 4) X rfl (by decide) (by decide) (by decide) rfl hi (by decide) (hse i hi) dB_openedSession_5 ?_
  refine z_geti (C := RS) (T := TS) (N := 4) (k := 0) X (w_in inS) rfl rfl (kd_S hi) (by decide) (w_m lB_63) rfl rfl dB_openedSession_6 (hv := f0) ?_
  refine z_iconst (v := (-1)) X dB_openedSession_9 (by decide) ?_
  refine z_icmp_ne (tgt := 23) X dB_openedSession_10 (by decide) (fun c_10 => ?_) (fun c_10 => ?_)
  · refine z_aload_n (j := 0) X dB_openedSession_23 rfl rfl ?_
    refine z_getr (C := RB) (T := TB) (N := 11) (k := 2) X (w_in inB) rfl rfl rfl (by decide) (w_m lB_21) rfl rfl t2 dB_openedSession_24 ?_
    refine z_iload_n (j := 1) X dB_openedSession_27 rfl rfl ?_
    refine z_aald (t0 := 4) X rfl (by decide) (by decide) (by decide) rfl hi (by decide) (hse i hi) dB_openedSession_28 ?_
    refine z_aret X hlocks hr (Or.inl ⟨_, rfl⟩) dB_openedSession_29 (by omega) (by omega) ?_
    exact ⟨rfl, rfl, c_10⟩
  · exact z_thNSE (text := "no such session") X hl0 (by decide +kernel) dB_openedSession_13 dB_openedSession_16 dB_openedSession_17 dB_openedSession_19 dB_openedSession_22 hex (Nat.le_of_ble_eq_true rfl) (Nat.le_of_ble_eq_true rfl) (Nat.le_of_ble_eq_true rfl) (Nat.le_of_ble_eq_true rfl) hlocks (by omega) (by omega) ⟨rfl, rfl, c_10⟩

set_option maxHeartbeats 600000 in
set_option maxRecDepth 100000 in
theorem mB_isCurrent (l : Launch) (D : va_G) (dA : Nat → ClassId) {S : zS} {b : zBr} {i : Nat} (hT : zTop S b) (hi : i < 6) (hSs : zSsA S i (b.2.2.1 i)) (hpr : (b.2.2.1 i).1 = -1 ∨ ∃ q, q < 4 ∧ (b.2.2.1 i).1 = nI q) : zMet l D vwCl zKK dA (zG0 D dA) yB_isCurrent (Cond.code yB_isCurrent cB_isCurrent 3 (some .boolean) :: zTs) { frames := 0, cells := 0, slots := 0, locals := 0 } 0 0 [.ref 1, .int (nI i)] S (fun v S' => S' = S ∧ ((v = some (.int (nI 1)) ∧ ∃ q, q < 4 ∧ (b.2.2.1 i).1 = nI q ∧ b.2.2.2.1 q = nI i) ∨ (v = some (.int (nI 0)) ∧ ¬ ∃ q, q < 4 ∧ (b.2.2.1 i).1 = nI q ∧ b.2.2.2.1 q = nI i))) (fun _ _ => False) := by
  refine z_met (tys := ztys dA) (by decide) rfl zG0_K rfl (Nat.le_of_ble_eq_true rfl) (fun p e s m args below meth c A ad X hr hlocks hin hex => ?_)
  obtain ⟨hn, t0, t1, t2, t3, t4, t5, q6, q7, q8, q9, q10, hpt, hlg, hse, hcu, hop, hgr⟩ := id hT
  obtain ⟨hd1, hd2, hd3, f0, f1, f2, f3, hex0, hof0⟩ := id hSs
  refine z_aload_n (j := 0) X dB_isCurrent_0 rfl rfl ?_
  refine z_getr (C := RB) (T := TB) (N := 11) (k := 2) X (w_in inB) rfl rfl rfl (by decide) (w_m lB_21) rfl rfl t2 dB_isCurrent_1 ?_
  refine z_iload_n (j := 1) X dB_isCurrent_4 rfl rfl ?_
  refine z_aald (t0 := 4) X rfl (by decide) (by decide) (by decide) rfl hi (by decide) (hse i hi) dB_isCurrent_5 ?_
  refine z_geti (C := RS) (T := TS) (N := 4) (k := 0) X (w_in inS) rfl rfl (kd_S hi) (by decide) (w_m lB_63) rfl rfl dB_isCurrent_6 (hv := f0) ?_
  refine z_istore_n (L' := [(2, .int ((b.2.2.1 i).1)), (0, .ref 1), (1, .int (nI i))]) X dB_isCurrent_9 rfl (by decide) rfl ?_
  refine z_iload_n (j := 0) X dB_isCurrent_10 rfl rfl ?_
  refine z_iconst (v := (-1)) X dB_isCurrent_11 (by decide) ?_
  refine z_icmp_eq (tgt := 29) X dB_isCurrent_12 (by decide) (fun c_12 => ?_) (fun c_12 => ?_)
  · refine z_iconst (v := (nI 0)) X dB_isCurrent_29 (by decide) ?_
    refine z_zret X hlocks hr dB_isCurrent_30 (by first | rfl | decide) (by omega) (by omega) ?_
    exact ⟨rfl, Or.inr ⟨rfl, fun h => by
      obtain ⟨q2, h1, h2, h3⟩ := h
      first | exact absurd (c_12.symm.trans h2).symm (by intro e9; exact absurd (show nI q2 < 0 by rw [e9]; decide) (nI_pos (by omega))) | (have e2 := (nI_eq (by omega) (by omega)).mp h2; subst e2; exact c_22 h3)⟩⟩
  · refine z_aload_n (j := 1) X dB_isCurrent_15 rfl rfl ?_
    refine z_getr (C := RB) (T := TB) (N := 11) (k := 3) X (w_in inB) rfl rfl rfl (by decide) (w_m lB_25) rfl rfl t3 dB_isCurrent_16 ?_
    refine z_iload_n (j := 0) X dB_isCurrent_19 rfl rfl ?_
    obtain ⟨q, hq, hq2⟩ : ∃ q, q < 4 ∧ (b.2.2.1 i).1 = nI q := hpr.resolve_left c_12
    rw [hq2]
    refine z_iald (t0 := 0) X rfl rfl hq (by decide) dB_isCurrent_20 (hv := hcu q hq) ?_
    refine z_iload_n (j := 2) X dB_isCurrent_21 rfl rfl ?_
    refine z_icmp_ne (tgt := 29) X dB_isCurrent_22 (by decide) (fun c_22 => ?_) (fun c_22 => ?_)
    · refine z_iconst (v := (nI 0)) X dB_isCurrent_29 (by decide) ?_
      refine z_zret X hlocks hr dB_isCurrent_30 (by first | rfl | decide) (by omega) (by omega) ?_
      exact ⟨rfl, Or.inr ⟨rfl, fun h => by
        obtain ⟨q2, h1, h2, h3⟩ := h
        first | exact absurd (c_12.symm.trans h2).symm (by intro e9; exact absurd (show nI q2 < 0 by rw [e9]; decide) (nI_pos (by omega))) | (have e2 := (nI_eq (by omega) (by omega)).mp h2; subst e2; exact c_22 h3)⟩⟩
    · refine z_iconst (v := (nI 1)) X dB_isCurrent_25 (by decide) ?_
      refine z_goto (tgt := 30) X dB_isCurrent_26 (by decide) ?_
      refine z_zret X hlocks hr dB_isCurrent_30 (by first | rfl | decide) (by omega) (by omega) ?_
      exact ⟨rfl, Or.inl ⟨rfl, q, hq, rfl, c_22⟩⟩

set_option maxHeartbeats 600000 in
set_option maxRecDepth 100000 in
theorem mB_mustBeCurrent (l : Launch) (D : va_G) (dA : Nat → ClassId) {S : zS} {b : zBr} {i : Nat} (hl0 : l.stackTraces = false) (hT : zTop S b) (hi : i < 6) (hSs : zSsA S i (b.2.2.1 i)) (hpr : (b.2.2.1 i).1 = -1 ∨ ∃ q, q < 4 ∧ (b.2.2.1 i).1 = nI q) : zMet l D vwCl zKK dA (zG0 D dA) yB_mustBeCurrent (Cond.code yB_mustBeCurrent cB_mustBeCurrent 2 none :: zTs) { frames := 6, cells := 1, slots := 6, locals := 82 } 1 6 [.ref 1, .int (nI i)] S (fun v S' => S' = S ∧ v = none ∧ ∃ q, q < 4 ∧ (b.2.2.1 i).1 = nI q ∧ b.2.2.2.1 q = nI i) (fun E S' => E = "java/lang/UnsupportedOperationException" ∧ S' = S ∧ ¬ ∃ q, q < 4 ∧ (b.2.2.1 i).1 = nI q ∧ b.2.2.2.1 q = nI i) := by
  refine z_met (tys := ztys dA) (by decide) rfl zG0_K rfl (Nat.le_of_ble_eq_true rfl) (fun p e s m args below meth c A ad X hr hlocks hin hex => ?_)
  obtain ⟨hn, t0, t1, t2, t3, t4, t5, q6, q7, q8, q9, q10, hpt, hlg, hse, hcu, hop, hgr⟩ := id hT
  refine z_aload_n (j := 0) X dB_mustBeCurrent_0 rfl rfl ?_
  refine z_iload_n (j := 1) X dB_mustBeCurrent_1 rfl rfl ?_
  refine z_callV (n := 1) (As := [.int (nI i)]) (rest := []) X zG0_m (mB_isCurrent l D dA hT hi hSs hpr) (w_V X.2.2.2.2.1 lB_73 jB_isCurrent sB_isCurrent i_LogBroker kB_isCurrent rfl rfl (by decide +kernel) ⟨Nat.le_of_ble_eq_true rfl, Nat.le_of_ble_eq_true rfl⟩) rfl rfl rfl rfl rfl (Nat.le_of_ble_eq_true rfl) dB_mustBeCurrent_2 ⟨Nat.le_of_ble_eq_true rfl, Nat.le_of_ble_eq_true rfl⟩ (fun v S1 hp => ?_) (fun E S1 hx => hx.elim)
  obtain ⟨hS1, hp⟩ := hp
  have hS1 := hS1.symm
  subst hS1
  rcases hp with ⟨hv, hc⟩ | ⟨hv, hc⟩ <;> subst hv
  · refine z_if_ne (tgt := 19) X dB_mustBeCurrent_5 (by decide) (fun c_5 => ?_) (fun c_5 => absurd c_5 (by decide))
    refine z_vret X hlocks hr dB_mustBeCurrent_19 (by omega) (by omega) ?_
    exact ⟨rfl, rfl, hc⟩
  · refine z_if_ne (tgt := 19) X dB_mustBeCurrent_5 (by decide) (fun c_5 => absurd c_5 (by decide)) (fun c_5 => ?_)
    exact z_thUOEW (text := "the session is fenced") X hl0 (by decide +kernel) dB_mustBeCurrent_8 dB_mustBeCurrent_11 dB_mustBeCurrent_12 dB_mustBeCurrent_15 dB_mustBeCurrent_18 hex (Nat.le_of_ble_eq_true rfl) (Nat.le_of_ble_eq_true rfl) (Nat.le_of_ble_eq_true rfl) (Nat.le_of_ble_eq_true rfl) hlocks (by omega) (by omega) ⟨rfl, rfl, hc⟩

set_option maxHeartbeats 600000 in
set_option maxRecDepth 100000 in
theorem mB_mustOwn (l : Launch) (D : va_G) (dA : Nat → ClassId) {S : zS} {i t k : Nat} {u : zGr} {gn : Int32} (hl0 : l.stackTraces = false) (hg : i < 2) (hGr : zGrA S i u) (ht : t < 12) (hk : k < 4) : zMet l D vwCl zKK dA (zG0 D dA) yB_mustOwn (Cond.code yB_mustOwn cB_mustOwn 4 none :: zTs) { frames := 6, cells := 1, slots := 6, locals := 82 } 1 6 [.ref (40 + i), .int (nI k), .int gn, .int (nI t)] S (fun v S' => S' = S ∧ v = none ∧ gn = u.1 ∧ u.2.2.1 t = nI k) (fun E S' => E = "java/lang/IllegalStateException" ∧ S' = S ∧ ¬ (gn = u.1 ∧ u.2.2.1 t = nI k)) := by
  refine z_met (tys := ztys dA) (by decide) rfl zG0_K rfl (Nat.le_of_ble_eq_true rfl) (fun p e s m args below meth c A ad X hr hlocks hin hex => ?_)
  obtain ⟨hd1, hd2, hd3, hd4, hd5, f0, f1, f2, f3, f4, htp, how, hps, hkp⟩ := id hGr
  refine z_iload_n (j := 2) X dB_mustOwn_0 rfl rfl ?_
  refine z_aload_n (j := 0) X dB_mustOwn_1 rfl rfl ?_
  refine z_geti (C := RH) (T := TH) (N := 5) (k := 0) X (w_in inH) rfl rfl (kd_H hg) (by decide) (w_m lB_248) rfl rfl dB_mustOwn_2 (hv := f0) ?_
  refine z_icmp_ne (tgt := 18) X dB_mustOwn_5 (by decide) (fun c_5 => ?_) (fun c_5 => ?_)
  · exact z_thISEW (text := "another generation, or not the member\'s partition") X hl0 (by decide +kernel) dB_mustOwn_18 dB_mustOwn_21 dB_mustOwn_22 dB_mustOwn_25 dB_mustOwn_28 hex (Nat.le_of_ble_eq_true rfl) (Nat.le_of_ble_eq_true rfl) (Nat.le_of_ble_eq_true rfl) (Nat.le_of_ble_eq_true rfl) hlocks (by omega) (by omega) ⟨rfl, rfl, fun h => by first | exact c_5 h.1 | exact c_15 h.2⟩
  · refine z_aload_n (j := 0) X dB_mustOwn_8 rfl rfl ?_
    refine z_getr (C := RH) (T := TH) (N := 5) (k := 2) X (w_in inH) rfl rfl (kd_H hg) (by decide) (w_m lB_209) rfl rfl f2 dB_mustOwn_9 ?_
    refine z_iload_n (j := 3) X dB_mustOwn_12 rfl rfl ?_
    refine z_iald (t0 := 0) X (kd_HO hg) rfl ht (by decide) dB_mustOwn_13 (hv := (how t ht)) ?_
    refine z_iload_n (j := 1) X dB_mustOwn_14 rfl rfl ?_
    refine z_icmp_eq (tgt := 29) X dB_mustOwn_15 (by decide) (fun c_15 => ?_) (fun c_15 => ?_)
    · refine z_vret X hlocks hr dB_mustOwn_29 (by omega) (by omega) ?_
      exact ⟨rfl, rfl, c_5, c_15⟩
    · exact z_thISEW (text := "another generation, or not the member\'s partition") X hl0 (by decide +kernel) dB_mustOwn_18 dB_mustOwn_21 dB_mustOwn_22 dB_mustOwn_25 dB_mustOwn_28 hex (Nat.le_of_ble_eq_true rfl) (Nat.le_of_ble_eq_true rfl) (Nat.le_of_ble_eq_true rfl) (Nat.le_of_ble_eq_true rfl) hlocks (by omega) (by omega) ⟨rfl, rfl, fun h => by first | exact c_5 h.1 | exact c_15 h.2⟩
