/-! CONTRACTS of LogBroker: markers, writing (rows by program) -/
set_option maxHeartbeats 600000 in
set_option maxRecDepth 100000 in
theorem mB_awaitsMarker (l : Launch) (D : va_G) (dA : Nat → ClassId) {S : zS} {b : zBr} {t : Nat} {q : Int32} (hB : zBrA S b) (hW : zBrW b) (ht : t < 12) : zMet l D vwCl zKK dA (zG0 D dA) yB_awaitsMarker (Cond.code yB_awaitsMarker cB_awaitsMarker 3 (some .boolean) :: zTs) { frames := 2, cells := 0, slots := 0, locals := 43 } 0 0 [.ref 1, .int (nI t), .int q] S (fun v S' => S' = S ∧ ((v = some (.int (nI 1)) ∧ zEx b t ∧ zHasU (b.2.1 t) q = true) ∨ (v = some (.int (nI 0)) ∧ ¬ (zEx b t ∧ zHasU (b.2.1 t) q = true)))) (fun _ _ => False) := by
  refine z_met (tys := ztys dA) (by decide) rfl zG0_K rfl (Nat.le_of_ble_eq_true rfl) (fun p e s m args below meth c A ad X hr hlocks hin hex => ?_)
  obtain ⟨hT, hLg, hSs, hGs, hnx, hnf⟩ := id hB
  obtain ⟨v1, v2, v3, v4, v5, v6, v7⟩ := id hW
  obtain ⟨hn, t0, t1, t2, t3, t4, t5, q6, q7, q8, q9, q10, hpt, hlg, hse, hcu, hop, hgr⟩ := id hT
  refine z_aload_n (j := 0) X dB_awaitsMarker_0 rfl rfl ?_
  refine z_getr (C := RB) (T := TB) (N := 11) (k := 1) X (w_in inB) rfl rfl rfl (by decide) (w_m lB_15) rfl rfl t1 dB_awaitsMarker_1 ?_
  refine z_iload_n (j := 1) X dB_awaitsMarker_4 rfl rfl ?_
  by_cases hc : t % 4 < b.1 (t / 4)
  · refine z_aald (t0 := 3) X rfl (by decide) (by decide) (by decide) rfl ht (by decide) (by rw [hlg t ht, if_pos hc]) dB_awaitsMarker_5 ?_
    refine z_ifnull X dB_awaitsMarker_6 ?_
    refine z_aload_n (j := 0) X dB_awaitsMarker_9 rfl rfl ?_
    refine z_getr (C := RB) (T := TB) (N := 11) (k := 1) X (w_in inB) rfl rfl rfl (by decide) (w_m lB_15) rfl rfl t1 dB_awaitsMarker_10 ?_
    refine z_iload_n (j := 1) X dB_awaitsMarker_13 rfl rfl ?_
    refine z_aald (t0 := 3) X rfl (by decide) (by decide) (by decide) rfl ht (by decide) (by rw [hlg t ht, if_pos hc]) dB_awaitsMarker_14 ?_
    refine z_iload_n (j := 2) X dB_awaitsMarker_15 rfl rfl ?_
    refine z_callV (n := 1) (As := [.int q]) (rest := []) X zG0_m (mG_hasUndecidedOf l D dA ht (hLg t ⟨ht, hc⟩) (v2 t ⟨ht, hc⟩)) (w_V X.2.2.2.2.1 lB_268 jG_hasUndecidedOf sG_hasUndecidedOf i_LogBroker_Log kG_hasUndecidedOf rfl rfl (by decide +kernel) ⟨Nat.le_of_ble_eq_true rfl, Nat.le_of_ble_eq_true rfl⟩) (kd_G ht) rfl rfl rfl rfl (Nat.le_of_ble_eq_true rfl) dB_awaitsMarker_16 ⟨Nat.le_of_ble_eq_true rfl, Nat.le_of_ble_eq_true rfl⟩ (fun v S9 hp => ?_) (fun E S1 hx => hx.elim)
    obtain ⟨hv, hS9⟩ := hp
    subst hv
    have hS9 := hS9.symm
    subst hS9
    by_cases hu : zHasU (b.2.1 t) q = true
    · refine z_top (if_pos hu) ?_
      refine z_if_eq (tgt := 26) X dB_awaitsMarker_19 (by decide) (fun c_19 => absurd c_19 (by decide)) (fun c_19 => ?_)
      refine z_iconst (v := (nI 1)) X dB_awaitsMarker_22 (by decide) ?_
      refine z_goto (tgt := 27) X dB_awaitsMarker_23 (by decide) ?_
      refine z_zret X hlocks hr dB_awaitsMarker_27 (by first | rfl | decide) (by omega) (by omega) ?_
      exact ⟨rfl, Or.inl ⟨rfl, ⟨ht, hc⟩, hu⟩⟩
    · refine z_top (if_neg hu) ?_
      refine z_if_eq (tgt := 26) X dB_awaitsMarker_19 (by decide) (fun c_19 => ?_) (fun c_19 => absurd c_19 (by decide))
      refine z_iconst (v := (nI 0)) X dB_awaitsMarker_26 (by decide) ?_
      refine z_zret X hlocks hr dB_awaitsMarker_27 (by first | rfl | decide) (by omega) (by omega) ?_
      exact ⟨rfl, Or.inr ⟨rfl, fun h => hu h.2⟩⟩
  · refine z_aaldN (t0 := 3) X rfl (by decide) (by decide) (by decide) rfl ht (by decide) (by rw [hlg t ht, if_neg hc]) dB_awaitsMarker_5 ?_
    refine z_ifnullN (tgt := 26) X dB_awaitsMarker_6 (by decide) ?_
    refine z_iconst (v := (nI 0)) X dB_awaitsMarker_26 (by decide) ?_
    refine z_zret X hlocks hr dB_awaitsMarker_27 (by first | rfl | decide) (by omega) (by omega) ?_
    exact ⟨rfl, Or.inr ⟨rfl, fun h => hc h.1.2⟩⟩

set_option maxHeartbeats 600000 in
set_option maxRecDepth 100000 in
theorem mB_mustHaveRoomForMarkers (l : Launch) (D : va_G) (dA : Nat → ClassId) {S : zS} {b : zBr} {q : Int32} (hl0 : l.stackTraces = false) (hB : zBrA S b) (hW : zBrW b) : zMet l D vwCl zKK dA (zG0 D dA) yB_mustHaveRoomForMarkers (Cond.code yB_mustHaveRoomForMarkers cB_mustHaveRoomForMarkers 3 none :: zTs) { frames := 6, cells := 1, slots := 6, locals := 82 } 1 6 [.ref 1, .int q] S (fun v S' => S' = S ∧ v = none ∧ ∀ t, zEx b t → zHasU (b.2.1 t) q = true → (b.2.1 t).2.1.2 < 60) (fun E S' => E = "java/lang/UnsupportedOperationException" ∧ S' = S ∧ ∃ t, zEx b t ∧ zHasU (b.2.1 t) q = true ∧ ¬ (b.2.1 t).2.1.2 < 60) := by
  refine z_met (tys := ztys dA) (by decide) rfl zG0_K rfl (Nat.le_of_ble_eq_true rfl) (fun p e s m args below meth c A ad X hr hlocks hin hex => ?_)
  obtain ⟨hT, hLg, hSs, hGs, hnx, hnf⟩ := id hB
  obtain ⟨v1, v2, v3, v4, v5, v6, v7⟩ := id hW
  obtain ⟨hn, t0, t1, t2, t3, t4, t5, q6, q7, q8, q9, q10, hpt, hlg, hse, hcu, hop, hgr⟩ := id hT
  have loop : ∀ (f t : Nat), 12 - t < f → t ≤ 12 → (∀ t2, t2 < t → zEx b t2 → zHasU (b.2.1 t2) q = true → (b.2.1 t2).2.1.2 < 60) → AW p l e { frames := 6, cells := 1, slots := 6, locals := 82 } s m args below meth c D vwCl zKK dA A (ad, S) 3 S 0 0 (vx_MQ below (zQc D vwCl zKK dA A ad S (fun v S' => S' = S ∧ v = none ∧ ∀ t, zEx b t → zHasU (b.2.1 t) q = true → (b.2.1 t).2.1.2 < 60)) (zXC D vwCl zKK dA A ad S (fun E S' => E = "java/lang/UnsupportedOperationException" ∧ S' = S ∧ ∃ t, zEx b t ∧ zHasU (b.2.1 t) q = true ∧ ¬ (b.2.1 t).2.1.2 < 60)) args s 1 6 A) 2 [(2, .int (nI t)), (0, .ref 1), (1, .int q)] [] := by
    intro f
    induction f with
    | zero => intro t h0; omega
    | succ f ih =>
    intro t h0 hi2 hi3
    refine z_iload_n (j := 0) X dB_mustHaveRoomForMarkers_2 rfl rfl ?_
    refine z_bipush (v := (nI 12)) X dB_mustHaveRoomForMarkers_3 (by decide) ?_
    refine z_icmp_geN (tgt := 46) X dB_mustHaveRoomForMarkers_5 (by decide) (by omega) (by omega) (fun c_5 => ?_) (fun c_5 => ?_)
    · refine z_vret X hlocks hr dB_mustHaveRoomForMarkers_46 (by omega) (by omega) ?_
      exact ⟨rfl, rfl, fun t2 h2 h3 => hi3 t2 (by have := h2.1; omega) h2 h3⟩
    · refine z_aload_n (j := 1) X dB_mustHaveRoomForMarkers_8 rfl rfl ?_
      refine z_iload_n (j := 0) X dB_mustHaveRoomForMarkers_9 rfl rfl ?_
      refine z_iload_n (j := 2) X dB_mustHaveRoomForMarkers_10 rfl rfl ?_
      refine z_callV (n := 2) (As := [.int (nI t), .int q]) (rest := []) X zG0_m (mB_awaitsMarker l D dA (t := t) hB hW (by omega)) (w_V X.2.2.2.2.1 lB_263 jB_awaitsMarker sB_awaitsMarker i_LogBroker kB_awaitsMarker rfl rfl (by decide +kernel) ⟨Nat.le_of_ble_eq_true rfl, Nat.le_of_ble_eq_true rfl⟩) rfl rfl rfl rfl rfl (Nat.le_of_ble_eq_true rfl) dB_mustHaveRoomForMarkers_11 ⟨Nat.le_of_ble_eq_true rfl, Nat.le_of_ble_eq_true rfl⟩ (fun v S9 hp => ?_) (fun E S1 hx => hx.elim)
      obtain ⟨hS9, hp⟩ := hp
      have hS9 := hS9.symm
      subst hS9
      rcases hp with ⟨hv, hc⟩ | ⟨hv, hc⟩ <;> subst hv
      · refine z_if_eq (tgt := 40) X dB_mustHaveRoomForMarkers_14 (by decide) (fun c_14 => absurd c_14 (by decide)) (fun c_14 => ?_)
        refine z_aload_n (j := 1) X dB_mustHaveRoomForMarkers_17 rfl rfl ?_
        refine z_getr (C := RB) (T := TB) (N := 11) (k := 1) X (w_in inB) rfl rfl rfl (by decide) (w_m lB_15) rfl rfl t1 dB_mustHaveRoomForMarkers_18 ?_
        refine z_iload_n (j := 0) X dB_mustHaveRoomForMarkers_21 rfl rfl ?_
        refine z_aald (t0 := 3) X rfl (by decide) (by decide) (by decide) rfl (by omega) (by decide) (by rw [hlg t (by omega), if_pos hc.1.2]) dB_mustHaveRoomForMarkers_22 ?_
        refine z_callV (n := 0) (As := []) (rest := []) X zG0_m (mG_isFull l D dA (by omega) (hLg t hc.1) (v2 t hc.1)) (w_V X.2.2.2.2.1 lB_112 jG_isFull sG_isFull i_LogBroker_Log kG_isFull rfl rfl (by decide +kernel) ⟨Nat.le_of_ble_eq_true rfl, Nat.le_of_ble_eq_true rfl⟩) (kd_G (by omega)) rfl rfl rfl rfl (Nat.le_of_ble_eq_true rfl) dB_mustHaveRoomForMarkers_23 ⟨Nat.le_of_ble_eq_true rfl, Nat.le_of_ble_eq_true rfl⟩ (fun v S9 hp => ?_) (fun E S1 hx => hx.elim)
        obtain ⟨hv, hS9⟩ := hp
        subst hv
        have hS9 := hS9.symm
        subst hS9
        by_cases hu : 60 ≤ (b.2.1 t).2.1.2
        · refine z_top (if_pos hu) ?_
          refine z_if_eq (tgt := 40) X dB_mustHaveRoomForMarkers_26 (by decide) (fun c_26 => absurd c_26 (by decide)) (fun c_26 => ?_)
          exact z_thUOEW (text := "no room for a marker") X hl0 (by decide +kernel) dB_mustHaveRoomForMarkers_29 dB_mustHaveRoomForMarkers_32 dB_mustHaveRoomForMarkers_33 dB_mustHaveRoomForMarkers_36 dB_mustHaveRoomForMarkers_39 hex (Nat.le_of_ble_eq_true rfl) (Nat.le_of_ble_eq_true rfl) (Nat.le_of_ble_eq_true rfl) (Nat.le_of_ble_eq_true rfl) hlocks (by omega) (by omega) ⟨rfl, rfl, t, hc.1, hc.2, by omega⟩
        · refine z_top (if_neg hu) ?_
          refine z_if_eq (tgt := 40) X dB_mustHaveRoomForMarkers_26 (by decide) (fun c_26 => ?_) (fun c_26 => absurd c_26 (by decide))
          refine z_iinc (j := 0) (v := (nI (t + 1))) (L' := [(2, .int (nI (t + 1))), (0, .ref 1), (1, .int q)]) X dB_mustHaveRoomForMarkers_40 rfl (nI_1 t) (by decide) rfl ?_
          refine z_goto (tgt := 2) X dB_mustHaveRoomForMarkers_43 (by decide) ?_
          exact ih (t + 1) (by omega) (by omega) (fun t2 h1 h2 h3 => by
            by_cases e9 : t2 = t
            · subst e9; omega
            · exact hi3 t2 (by omega) h2 h3)
      · refine z_if_eq (tgt := 40) X dB_mustHaveRoomForMarkers_14 (by decide) (fun c_14 => ?_) (fun c_14 => absurd c_14 (by decide))
        refine z_iinc (j := 0) (v := (nI (t + 1))) (L' := [(2, .int (nI (t + 1))), (0, .ref 1), (1, .int q)]) X dB_mustHaveRoomForMarkers_40 rfl (nI_1 t) (by decide) rfl ?_
        refine z_goto (tgt := 2) X dB_mustHaveRoomForMarkers_43 (by decide) ?_
        exact ih (t + 1) (by omega) (by omega) (fun t2 h1 h2 h3 => by
          by_cases e9 : t2 = t
          · subst e9; exact absurd ⟨h2, h3⟩ hc
          · exact hi3 t2 (by omega) h2 h3)
  refine z_iconst (v := (nI 0)) X dB_mustHaveRoomForMarkers_0 (by decide) ?_
  refine z_istore_n (L' := [(2, .int (nI 0)), (0, .ref 1), (1, .int q)]) X dB_mustHaveRoomForMarkers_1 rfl (by decide) rfl ?_
  exact loop 13 0 (by omega) (by omega) (fun t2 h => by omega)

set_option maxHeartbeats 600000 in
set_option maxRecDepth 100000 in
theorem mB_write (l : Launch) (D : va_G) (dA : Nat → ClassId) {S : zS} {b : zBr} {t : Nat} {g : zLg} {x : zE} (hT : zTop S b) (ht : t < 12) (hO : zLogA S t g) (hW : zLogW g) (hen : g.2.1.2 < 60) (hx : zEat S (200 + 60 * t + g.2.1.2) x) : zMet l D vwCl zKK dA (zG0 D dA) yB_write (Cond.code yB_write cB_write 4 (some .int) :: zTs) { frames := 2, cells := 0, slots := 0, locals := 44 } 0 0 [.ref 1, .ref (60 + t), .ref (200 + 60 * t + g.2.1.2)] S (fun v S' => v = some (.int (nI g.2.1.2)) ∧ zTop S' (b.1, b.2.1, b.2.2.1, b.2.2.2.1, b.2.2.2.2.1, b.2.2.2.2.2.1, b.2.2.2.2.2.2.1 + nI 1, b.2.2.2.2.2.2.2.1, b.2.2.2.2.2.2.2.2.1, b.2.2.2.2.2.2.2.2.2.1 + nI (zPr (zApp g x) - zPr (zShort (zStab (zApp g x)) 61 (zApp g x))), b.2.2.2.2.2.2.2.2.2.2) ∧ zLogA S' t (zShort (zStab (zApp g x)) 61 (zApp g x)) ∧ zLogW (zShort (zStab (zApp g x)) 61 (zApp g x)) ∧ zfr (fun n => n = 1 ∨ zOwnG t n) S S' ∧ S'.1 = S.1) (fun _ _ => False) := by
  refine z_met (tys := ztys dA) (by decide) rfl zG0_K rfl (Nat.le_of_ble_eq_true rfl) (fun p e s m args below meth c A ad X hr hlocks hin hex => ?_)
  refine z_aload_n (j := 1) X dB_write_0 rfl rfl ?_
  refine z_aload_n (j := 2) X dB_write_1 rfl rfl ?_
  refine z_callV (n := 1) (As := [.ref (200 + 60 * t + g.2.1.2)]) (rest := []) X zG0_m (mG_append l D dA ht hO hW hen hx) (w_V X.2.2.2.2.1 lB_274 jG_append sG_append i_LogBroker_Log kG_append rfl rfl (by decide +kernel) ⟨Nat.le_of_ble_eq_true rfl, Nat.le_of_ble_eq_true rfl⟩) (kd_G ht) rfl rfl rfl rfl (Nat.le_of_ble_eq_true rfl) dB_write_2 ⟨Nat.le_of_ble_eq_true rfl, Nat.le_of_ble_eq_true rfl⟩ (fun v S1 hp => ?_) (fun E S1 hx => hx.elim)
  obtain ⟨hv, hA1, hf1, hd1⟩ := hp
  subst hv
  have hT1 : zTop S1 b := zTop_fr hT (fun n h1 h2 => hf1.ag (fun h => by unfold zOwnG at h; omega))
  obtain ⟨hn, t0, t1, t2, t3, t4, t5, q6, q7, q8, q9, q10, hpt, hlg, hse, hcu, hop, hgr⟩ := id hT1
  refine z_istore_n (L' := [(3, .int (nI g.2.1.2)), (0, .ref 1), (1, .ref (60 + t)), (2, .ref (200 + 60 * t + g.2.1.2))]) X dB_write_5 rfl (by decide) rfl ?_
  refine z_aload_n (j := 1) X dB_write_6 rfl rfl ?_
  refine z_dup X dB_write_7 rfl ?_
  refine z_geti (C := RB) (T := TB) (N := 11) (k := 6) X (w_in inB) rfl rfl rfl (by decide) (w_m lB_236) rfl rfl dB_write_8 (hv := q6) ?_
  refine z_iconst (v := (nI 1)) X dB_write_11 (by decide) ?_
  refine z_iadd X dB_write_12 ?_
  refine z_puti (C := RB) (T := TB) (N := 11) (k := 6) X (w_in inB) rfl rfl rfl (by decide) (w_m lB_236) rfl tyB tyB_ok nmB rfl rfl (ty := .int) (by decide +kernel) rfl rfl dB_write_13 ?_
  refine z_aload_n (j := 1) X dB_write_16 rfl rfl ?_
  refine z_dup X dB_write_17 rfl ?_
  refine z_geti (C := RB) (T := TB) (N := 11) (k := 9) X (w_in inB) rfl rfl rfl (by decide) (w_m lB_242) rfl rfl dB_write_18 (hv := (rd_i (Or.inr (by decide)) q9)) ?_
  refine z_aload_n (j := 2) X dB_write_21 rfl rfl ?_
  have hT1' := zTop_6 (v := b.2.2.2.2.2.2.1 + nI 1) hT1
  have hA1' : zLogA (zsi S1 1 6 (b.2.2.2.2.2.2.1 + nI 1)) t (zApp g x) := zLogA_fr hA1 (zLogW_app hW hen) (fun n hn9 => zAg_i (fun e => by unfold zOwnG at hn9; omega))
  refine z_callV (n := 0) (As := []) (rest := [.int b.2.2.2.2.2.2.2.2.2.1, .ref 1]) X zG0_m (mG_shorten l D dA ht hA1' (zLogW_app hW hen)) (w_V X.2.2.2.2.1 lB_278 jG_shorten sG_shorten i_LogBroker_Log kG_shorten rfl rfl (by decide +kernel) ⟨Nat.le_of_ble_eq_true rfl, Nat.le_of_ble_eq_true rfl⟩) (kd_G ht) rfl rfl rfl rfl (Nat.le_of_ble_eq_true rfl) dB_write_22 ⟨Nat.le_of_ble_eq_true rfl, Nat.le_of_ble_eq_true rfl⟩ (fun v S2 hp => ?_) (fun E S1 hx => hx.elim)
  obtain ⟨hv, hA2, hW2, hf2, hd2⟩ := hp
  subst hv
  have hT2 := zTop_fr (S' := S2) hT1' (fun n h1 h2 => hf2.ag (fun h => by unfold zOwnG at h; omega))
  refine z_iadd X dB_write_25 ?_
  refine z_puti (C := RB) (T := TB) (N := 11) (k := 9) X (w_in inB) rfl rfl rfl (by decide) (w_m lB_242) rfl tyB tyB_ok nmB rfl rfl (ty := .int) (by decide +kernel) rfl rfl dB_write_26 ?_
  refine z_iload_n (j := 0) X dB_write_29 rfl rfl ?_
  refine z_iret X hlocks hr dB_write_30 (by omega) (by omega) ?_
  exact ⟨rfl, zTop_9 hT2, zLogA_fr hA2 hW2 (fun n hn9 => zAg_i (fun e => by unfold zOwnG at hn9; omega)), hW2, ((hf1.mono (o2 := fun n => n = 1 ∨ zOwnG t n) (fun n h => Or.inr h)).tr (zfr.i (Or.inl rfl))).tr ((hf2.mono (o2 := fun n => n = 1 ∨ zOwnG t n) (fun n h => Or.inr h)).tr (zfr.i (Or.inl rfl))), hd2.trans hd1⟩

set_option maxHeartbeats 600000 in
set_option maxRecDepth 100000 in
theorem mB_openTransactions (l : Launch) (D : va_G) (dA : Nat → ClassId) {S : zS} {b : zBr} (hB : zBrA S b) (hW : zBrW b) : zMet l D vwCl zKK dA (zG0 D dA) yB_openTransactions (Cond.code yB_openTransactions cB_openTransactions 3 (some .int) :: zTs) { frames := 0, cells := 0, slots := 0, locals := 0 } 0 0 [.ref 1] S (fun v S' => S' = S ∧ v = some (.int (nI (zcnt (fun i => decide ((b.2.2.1 i).2.1 = nI 1)) 6 0)))) (fun _ _ => False) := by
  refine z_met (tys := ztys dA) (by decide) rfl zG0_K rfl (Nat.le_of_ble_eq_true rfl) (fun p e s m args below meth c A ad X hr hlocks hin hex => ?_)
  obtain ⟨hT, hLg, hSs, hGs, hnx, hnf⟩ := id hB
  obtain ⟨v1, v2, v3, v4, v5, v6, v7⟩ := id hW
  obtain ⟨hn, t0, t1, t2, t3, t4, t5, q6, q7, q8, q9, q10, hpt, hlg, hse, hcu, hop, hgr⟩ := id hT
  have loop : ∀ (f t n9 : Nat), 6 - t < f → t ≤ 6 → n9 ≤ t → n9 = zcnt (fun i => decide ((b.2.2.1 i).2.1 = nI 1)) t 0 → AW p l e { frames := 0, cells := 0, slots := 0, locals := 0 } s m args below meth c D vwCl zKK dA A (ad, S) 3 S 0 0 (vx_MQ below (zQc D vwCl zKK dA A ad S (fun v S' => S' = S ∧ v = some (.int (nI (zcnt (fun i => decide ((b.2.2.1 i).2.1 = nI 1)) 6 0))))) (zXC D vwCl zKK dA A ad S (fun _ _ => False)) args s 0 0 A) 4 [(2, .int (nI t)), (1, .int (nI n9)), (0, .ref 1)] [] := by
    intro f
    induction f with
    | zero => intro t n9 h0; omega
    | succ f ih =>
    intro t n9 h0 hi2 hi3 hn9
    refine z_iload_n (j := 0) X dB_openTransactions_4 rfl rfl ?_
    refine z_bipush (v := (nI 6)) X dB_openTransactions_5 (by decide) ?_
    refine z_icmp_geN (tgt := 31) X dB_openTransactions_7 (by decide) (by omega) (by omega) (fun c_7 => ?_) (fun c_7 => ?_)
    · refine z_iload_n (j := 1) X dB_openTransactions_31 rfl rfl ?_
      refine z_iret X hlocks hr dB_openTransactions_32 (by omega) (by omega) ?_
      refine ⟨rfl, ?_⟩
      have e6 : t = 6 := by omega
      subst e6
      rw [hn9]
    · refine z_aload_n (j := 2) X dB_openTransactions_10 rfl rfl ?_
      refine z_getr (C := RB) (T := TB) (N := 11) (k := 2) X (w_in inB) rfl rfl rfl (by decide) (w_m lB_21) rfl rfl t2 dB_openTransactions_11 ?_
      refine z_iload_n (j := 0) X dB_openTransactions_14 rfl rfl ?_
      refine z_aald (t0 := 4) X rfl (by decide) (by decide) (by decide) rfl (by omega) (by decide) (hse t (by omega)) dB_openTransactions_15 ?_
      refine z_geti (C := RS) (T := TS) (N := 4) (k := 1) X (w_in inS) rfl rfl (kd_S (by omega)) (by decide) (w_m lB_59) rfl rfl dB_openTransactions_16 (hv := (hSs t (by omega)).2.2.2.2.1) ?_
      refine z_if_eq (tgt := 25) X dB_openTransactions_19 (by decide) (fun c_19 => ?_) (fun c_19 => ?_)
      · have hon : ¬ (b.2.2.1 t).2.1 = nI 1 := by rw [c_19]; decide
        refine z_iinc (j := 0) (v := (nI (t + 1))) (L' := [(2, .int (nI (t + 1))), (1, .int (nI n9)), (0, .ref 1)]) X dB_openTransactions_25 rfl (nI_1 t) (by decide) rfl ?_
        refine z_goto (tgt := 4) X dB_openTransactions_28 (by decide) ?_
        refine z_loc [0, 1, 2] rfl ?_
        exact ih (t + 1) n9 (by omega) (by omega) (by omega) (by
          have h9 := (zcnt_step (p := fun i => decide ((b.2.2.1 i).2.1 = nI 1)) (t := t))
          rw [h9, if_neg (fun h => hon (of_decide_eq_true h))]; omega)
      · have hon : (b.2.2.1 t).2.1 = nI 1 := (v4 t (by omega)).2.resolve_left (fun h => c_19 (h.trans nI_0))
        refine z_iinc (j := 1) (v := (nI (n9 + 1))) (L' := [(1, .int (nI (n9 + 1))), (2, .int (nI t)), (0, .ref 1)]) X dB_openTransactions_22 rfl (nI_1 n9) (by decide) rfl ?_
        refine z_iinc (j := 1) (v := (nI (t + 1))) (L' := [(2, .int (nI (t + 1))), (1, .int (nI (n9 + 1))), (0, .ref 1)]) X dB_openTransactions_25 rfl (nI_1 t) (by decide) rfl ?_
        refine z_goto (tgt := 4) X dB_openTransactions_28 (by decide) ?_
        refine z_loc [0, 1, 2] rfl ?_
        exact ih (t + 1) (n9 + 1) (by omega) (by omega) (by omega) (by
          have h9 := (zcnt_step (p := fun i => decide ((b.2.2.1 i).2.1 = nI 1)) (t := t))
          rw [h9, if_pos (decide_eq_true hon)]; omega)
  refine z_iconst (v := (nI 0)) X dB_openTransactions_0 (by decide) ?_
  refine z_istore_n (L' := [(1, .int (nI 0)), (0, .ref 1)]) X dB_openTransactions_1 rfl (by decide) rfl ?_
  refine z_iconst (v := (nI 0)) X dB_openTransactions_2 (by decide) ?_
  refine z_istore_n (L' := [(2, .int (nI 0)), (1, .int (nI 0)), (0, .ref 1)]) X dB_openTransactions_3 rfl (by decide) rfl ?_
  exact loop 7 0 0 (by omega) (by omega) (by omega) rfl
