/-! CONTRACTS of LogBroker: deciding (rows by program) -/
set_option maxHeartbeats 600000 in
set_option maxRecDepth 100000 in
theorem mB_decideT (l : Launch) (D : va_G) (dA : Nat → ClassId) {S : zS} {b : zBr} {i : Nat} (hB : zBrA S b) (hW : zBrW b) (hi : i < 6) (hq : ∃ k, k < 4 ∧ (b.2.2.1 i).1 = nI k) (hrm : ∀ t, zEx b t → zU b (b.2.2.1 i).1 t = true → (b.2.1 t).2.1.2 < 60) (hdf : ∀ t, t < 12 → ¬ zEx b t → zU b (b.2.2.1 i).1 t = false) (hemp : ∀ t, t < 12 → ¬ zEx b t → ∀ o, (b.2.1 t).2.2 o = none) : zMet l D vwCl zKK dA (zG0 D dA) yB_decide (Cond.code yB_decide cB_decide 6 (some .int) :: zTs) { frames := 3, cells := 12, slots := 60, locals := 67 } 12 60 [.ref 1, .ref (10 + i), .int (nI 1)] S (fun v S' => v = some (.int (nI (zcnt (zU b (b.2.2.1 i).1) 12 0))) ∧ zBrA S' (sDec b i true) ∧ zfr zOwnB S S') (fun _ _ => False) := by
  refine z_met (tys := ztys dA) (by decide) rfl zG0_K rfl (Nat.le_of_ble_eq_true rfl) (fun p e s m args below meth c A ad X hr hlocks hin hex => ?_)
  obtain ⟨hT, hLg, hSs, hGs, hnx, hnf⟩ := id hB
  obtain ⟨v1, v2, v3, v4, v5, v6, v7⟩ := id hW
  have hno : ∀ k, k < 12 → ¬ zEx b k → ∀ o, (bDk b (b.2.2.1 i).1 (zMk (b.2.2.1 i).1 true) 12).2.1 k = b.2.1 k ∧ (b.2.1 k).2.2 o = none := fun k h1 h2 o => ⟨if_neg (fun h => by rw [hdf k h1 h2] at h; cases h.2), hemp k h1 h2 o⟩
  have loop2 : zBrW (bDk b (b.2.2.1 i).1 (zMk (b.2.2.1 i).1 true) 12) → ∀ (f k : Nat) (S1 : zS) (kc ks : Nat), 12 - k < f → k ≤ 12 → kc ≤ 12 → ks ≤ 60 → zBrA S1 (bSk (bM (bDk b (b.2.2.1 i).1 (zMk (b.2.2.1 i).1 true) 12) (b.2.2.2.2.2.2.2.2.1 + nI (zcnt (zU b (b.2.2.1 i).1) 12 0))) (b.2.2.1 i).1 (nI 0) k) → zBrW (bSk (bM (bDk b (b.2.2.1 i).1 (zMk (b.2.2.1 i).1 true) 12) (b.2.2.2.2.2.2.2.2.1 + nI (zcnt (zU b (b.2.2.1 i).1) 12 0))) (b.2.2.1 i).1 (nI 0) k) → zfr zOwnB S S1 → AW p l e { frames := 3, cells := 12, slots := 60, locals := 67 } s m args below meth c D vwCl zKK dA A (ad, S) 6 S1 kc ks (vx_MQ below (zQc D vwCl zKK dA A ad S (fun v S' => v = some (.int (nI (zcnt (zU b (b.2.2.1 i).1) 12 0))) ∧ zBrA S' (sDec b i true) ∧ zfr zOwnB S S')) (zXC D vwCl zKK dA A ad S (fun _ _ => False)) args s 12 60 A) 82 [(5, .int (nI k)), (4, .int b.2.2.2.2.2.2.2.2.1), (3, .int (b.2.2.1 i).1), (0, .ref 1), (1, .ref (10 + i)), (2, .int (nI 1))] [] := by
    intro hW2 f
    induction f with
    | zero => intro k S1 kc ks h0; omega
    | succ f ih =>
    intro k S1 kc ks h0 hk12 hkc hks hB1 hWk hfr
    obtain ⟨hn, t0, t1, t2, t3, t4, t5, q6, q7, q8, q9, q10, hpt, hlg, hse, hcu, hop, hgr⟩ := id hB1.1
    refine z_iload (j := 0) X dB_decide_82 rfl ?_
    refine z_bipush (v := (nI 12)) X dB_decide_84 (by decide) ?_
    refine z_icmp_geN (tgt := 125) X dB_decide_86 (by decide) (by omega) (by omega) (fun c_86 => ?_) (fun c_86 => ?_)
    · have e12 : k = 12 := by omega
      subst e12
      have hB5 := zBrA_S hB1 hWk hi (zSsA_tr (v := nI 0) (hB1.2.2.1 i hi) hi) (zfr.i (Or.inl rfl))
      have hfr5 := hfr.tr (zfr.ownB (zfr.i (S := S1) (own := zOwnS i) (n := 10 + i) (k := 1) (x := nI 0) (Or.inl rfl)) (fun n h => by unfold zOwnS at h; omega))
      refine z_aload_n (j := 4) X dB_decide_125 rfl rfl ?_
      refine z_iconst (v := (nI 0)) X dB_decide_126 (by decide) ?_
      refine z_puti (C := RS) (T := TS) (N := 4) (k := 1) X (w_in inS) rfl rfl (kd_S hi) (by decide) (w_m lB_59) rfl tyS tyS_ok nmS rfl rfl (ty := .boolean) (by decide +kernel) rfl rfl dB_decide_127 ?_
      refine z_aload_n (j := 3) X dB_decide_130 rfl rfl ?_
      refine z_geti (C := RB) (T := TB) (N := 11) (k := 8) X (w_in inB) rfl rfl rfl (by decide) (w_m lB_239) rfl rfl dB_decide_131 (hv := (rd_i (Or.inl (by omega)) q8)) ?_
      refine z_iload (j := 1) X dB_decide_134 rfl ?_
      refine z_isub X dB_decide_136 ?_
      refine z_iret X hlocks hr dB_decide_137 (by omega) (by omega) ?_
      exact ⟨congrArg (fun z => some (Value.int z)) (zI_acc _ _), hB5, hfr5⟩
    · refine z_aload_n (j := 3) X dB_decide_89 rfl rfl ?_
      refine z_getr (C := RB) (T := TB) (N := 11) (k := 1) X (w_in inB) rfl rfl rfl (by decide) (w_m lB_15) rfl rfl t1 dB_decide_90 ?_
      refine z_iload (j := 0) X dB_decide_93 rfl ?_
      by_cases hex1 : zEx b k
      · refine z_aald (t0 := 3) X rfl (by decide) (by decide) (by decide) rfl (by omega) (by decide) (by rw [hlg k (by omega)]; exact if_pos hex1.2) dB_decide_95 ?_
        refine z_ifnull X dB_decide_96 ?_
        refine z_aload_n (j := 3) X dB_decide_99 rfl rfl ?_
        refine z_getr (C := RB) (T := TB) (N := 11) (k := 1) X (w_in inB) rfl rfl rfl (by decide) (w_m lB_15) rfl rfl t1 dB_decide_100 ?_
        refine z_iload (j := 0) X dB_decide_103 rfl ?_
        refine z_aald (t0 := 3) X rfl (by decide) (by decide) (by decide) rfl (by omega) (by decide) (by rw [hlg k (by omega)]; exact if_pos hex1.2) dB_decide_105 ?_
        refine z_iload_n (j := 2) X dB_decide_106 rfl rfl ?_
        refine z_iload_n (j := 5) X dB_decide_107 rfl rfl ?_
        refine z_if_eq (tgt := 115) X dB_decide_108 (by decide) (fun c_108 => absurd c_108 (by decide)) (fun c_108 => ?_)
        refine z_iconst (v := (nI 0)) X dB_decide_111 (by decide) ?_
        refine z_goto (tgt := 116) X dB_decide_112 (by decide) ?_
        refine z_callV (n := 2) (As := [.int ((b.2.2.1 i).1), .int (nI 0)]) (rest := []) X zG0_m (mG_settle l D dA (by omega) (by have h9 := hB1.2.1 k hex1; rw [bSk_at (Nat.le_refl _)] at h9; exact h9) (hW2.2.1 k hex1)) (w_V X.2.2.2.2.1 lB_271 jG_settle sG_settle i_LogBroker_Log kG_settle rfl rfl (by decide +kernel) ⟨Nat.le_of_ble_eq_true rfl, Nat.le_of_ble_eq_true rfl⟩) (kd_G (by omega)) rfl rfl rfl rfl (Nat.le_of_ble_eq_true rfl) dB_decide_116 ⟨by show _ ≤ 12; omega, by show _ ≤ 60; omega⟩ (fun v S2 hp => ?_) (fun E S1 hx => hx.elim)
        obtain ⟨hv, hA2, hf2, hd2⟩ := hp
        subst hv
        refine z_iinc (j := 0) (v := (nI (k + 1))) (L' := [(5, .int (nI (k + 1))), (4, .int b.2.2.2.2.2.2.2.2.1), (3, .int ((b.2.2.1 i).1)), (0, .ref 1), (1, .ref (10 + i)), (2, .int (nI 1))]) X dB_decide_119 rfl (nI_1 k) (by decide) rfl ?_
        refine z_goto (tgt := 82) X dB_decide_122 (by decide) ?_
        have hB4 := zBrA_G hB1 hWk hex1 hA2 hf2 hd2 (by rw [bSk_at (Nat.le_refl _)]; rfl)
        have hB4 : zBrA S2 (bSk (bM (bDk b (b.2.2.1 i).1 (zMk (b.2.2.1 i).1 true) 12) (b.2.2.2.2.2.2.2.2.1 + nI (zcnt (zU b (b.2.2.1 i).1) 12 0))) (b.2.2.1 i).1 (nI 0) (k + 1)) := by rw [bSk_s]; exact hB4
        exact ih (k + 1) _ _ _ (by omega) (by omega) (by omega) (by omega) hB4 (by
          rw [bSk_s]
          exact zBrW_G hWk (zLogW_set (hW2.2.1 k hex1)) (fun o e he => by
            obtain ⟨e0, h1, h2⟩ := zSet_some he
            rw [h2]; exact zEW_set (hW2.2.2.1 k hex1 o e0 h1) (Or.inl rfl)) (by rw [bSk_at (Nat.le_refl _)]; exact Nat.le_refl _)) (hfr.tr (hf2.ownB (fun n h => by unfold zOwnG at h; omega)))
      · refine z_aaldN (t0 := 3) X rfl (by decide) (by decide) (by decide) rfl (by omega) (by decide) (by rw [hlg k (by omega)]; exact if_neg (fun h => hex1 ⟨by omega, h⟩)) dB_decide_95 ?_
        refine z_ifnullN (tgt := 119) X dB_decide_96 (by decide) ?_
        refine z_iinc (j := 0) (v := (nI (k + 1))) (L' := [(5, .int (nI (k + 1))), (4, .int b.2.2.2.2.2.2.2.2.1), (3, .int ((b.2.2.1 i).1)), (0, .ref 1), (1, .ref (10 + i)), (2, .int (nI 1))]) X dB_decide_119 rfl (nI_1 k) (by decide) rfl ?_
        refine z_goto (tgt := 82) X dB_decide_122 (by decide) ?_
        have hz : bSk (bM (bDk b (b.2.2.1 i).1 (zMk (b.2.2.1 i).1 true) 12) (b.2.2.2.2.2.2.2.2.1 + nI (zcnt (zU b (b.2.2.1 i).1) 12 0))) (b.2.2.1 i).1 (nI 0) (k + 1) = bSk (bM (bDk b (b.2.2.1 i).1 (zMk (b.2.2.1 i).1 true) 12) (b.2.2.2.2.2.2.2.2.1 + nI (zcnt (zU b (b.2.2.1 i).1) 12 0))) (b.2.2.1 i).1 (nI 0) k := by
          rw [bSk_s]
          exact zSet_no (by rw [bSk_at (Nat.le_refl _)]) (fun o => hno k (by omega) hex1 o)
        exact ih (k + 1) _ _ _ (by omega) (by omega) (by omega) (by omega) (by rw [hz]; exact hB1) (by rw [hz]; exact hWk) hfr
  have loop2' : ∀ (S1 : zS) (kc ks : Nat), kc ≤ 12 → ks ≤ 60 → zBrA S1 (bM (bDk b (b.2.2.1 i).1 (zMk (b.2.2.1 i).1 true) 12) (b.2.2.2.2.2.2.2.2.1 + nI (zcnt (zU b (b.2.2.1 i).1) 12 0))) → zBrW (bDk b (b.2.2.1 i).1 (zMk (b.2.2.1 i).1 true) 12) → zfr zOwnB S S1 → AW p l e { frames := 3, cells := 12, slots := 60, locals := 67 } s m args below meth c D vwCl zKK dA A (ad, S) 6 S1 kc ks (vx_MQ below (zQc D vwCl zKK dA A ad S (fun v S' => v = some (.int (nI (zcnt (zU b (b.2.2.1 i).1) 12 0))) ∧ zBrA S' (sDec b i true) ∧ zfr zOwnB S S')) (zXC D vwCl zKK dA A ad S (fun _ _ => False)) args s 12 60 A) 79 [(5, .int (nI 12)), (4, .int b.2.2.2.2.2.2.2.2.1), (3, .int (b.2.2.1 i).1), (0, .ref 1), (1, .ref (10 + i)), (2, .int (nI 1))] [] := by
    intro S1 kc ks hkc hks hB1 hW2 hfr
    refine z_iconst (v := (nI 0)) X dB_decide_79 (by decide) ?_
    refine z_istore (L' := [(5, .int (nI 0)), (4, .int b.2.2.2.2.2.2.2.2.1), (3, .int ((b.2.2.1 i).1)), (0, .ref 1), (1, .ref (10 + i)), (2, .int (nI 1))]) X dB_decide_80 (by decide) rfl ?_
    exact loop2 hW2 13 0 S1 kc ks (by omega) (by omega) hkc hks (by rw [bSk_0]; exact hB1) (by rw [bSk_0]; exact zBrW_M hW2) hfr
  have loop : ∀ (f k : Nat) (S1 : zS) (kc ks : Nat), 12 - k < f → k ≤ 12 → kc ≤ k → ks ≤ 5 * k → zBrA S1 (bM (bDk b (b.2.2.1 i).1 (zMk (b.2.2.1 i).1 true) k) (b.2.2.2.2.2.2.2.2.1 + nI (zcnt (zU b (b.2.2.1 i).1) k 0))) → zBrW (bDk b (b.2.2.1 i).1 (zMk (b.2.2.1 i).1 true) k) → zfr zOwnB S S1 → AW p l e { frames := 3, cells := 12, slots := 60, locals := 67 } s m args below meth c D vwCl zKK dA A (ad, S) 6 S1 kc ks (vx_MQ below (zQc D vwCl zKK dA A ad S (fun v S' => v = some (.int (nI (zcnt (zU b (b.2.2.1 i).1) 12 0))) ∧ zBrA S' (sDec b i true) ∧ zfr zOwnB S S')) (zXC D vwCl zKK dA A ad S (fun _ _ => False)) args s 12 60 A) 14 [(5, .int (nI k)), (4, .int b.2.2.2.2.2.2.2.2.1), (3, .int (b.2.2.1 i).1), (0, .ref 1), (1, .ref (10 + i)), (2, .int (nI 1))] [] := by
    intro f
    induction f with
    | zero => intro k S1 kc ks h0; omega
    | succ f ih =>
    intro k S1 kc ks h0 hk12 hkc hks hB1 hW1 hfr
    obtain ⟨hn, t0, t1, t2, t3, t4, t5, q6, q7, q8, q9, q10, hpt, hlg, hse, hcu, hop, hgr⟩ := id hB1.1
    refine z_iload (j := 0) X dB_decide_14 rfl ?_
    refine z_bipush (v := (nI 12)) X dB_decide_16 (by decide) ?_
    refine z_icmp_geN (tgt := 79) X dB_decide_18 (by decide) (by omega) (by omega) (fun c_18 => ?_) (fun c_18 => ?_)
    · have e12 : k = 12 := by omega
      subst e12
      exact loop2' _ _ _ (by omega) (by omega) hB1 hW1 hfr
    · refine z_aload_n (j := 3) X dB_decide_21 rfl rfl ?_
      refine z_iload (j := 0) X dB_decide_22 rfl ?_
      refine z_iload_n (j := 2) X dB_decide_24 rfl rfl ?_
      refine z_callV (n := 2) (As := [.int (nI k), .int ((b.2.2.1 i).1)]) (rest := []) X zG0_m (mB_awaitsMarker l D dA (b := (bM (bDk b (b.2.2.1 i).1 (zMk (b.2.2.1 i).1 true) k) (b.2.2.2.2.2.2.2.2.1 + nI (zcnt (zU b (b.2.2.1 i).1) k 0)))) (t := k) hB1 (zBrW_M hW1) (by omega)) (w_V X.2.2.2.2.1 lB_263 jB_awaitsMarker sB_awaitsMarker i_LogBroker kB_awaitsMarker rfl rfl (by decide +kernel) ⟨Nat.le_of_ble_eq_true rfl, Nat.le_of_ble_eq_true rfl⟩) rfl rfl rfl rfl rfl (Nat.le_of_ble_eq_true rfl) dB_decide_25 ⟨by show _ ≤ 12; omega, by show _ ≤ 60; omega⟩ (fun v S9 hp => ?_) (fun E S1 hx => hx.elim)
      obtain ⟨hS9, hp⟩ := hp
      have hS9 := hS9.symm
      subst hS9
      have e0 : (bM (bDk b (b.2.2.1 i).1 (zMk (b.2.2.1 i).1 true) k) (b.2.2.2.2.2.2.2.2.1 + nI (zcnt (zU b (b.2.2.1 i).1) k 0))).2.1 k = b.2.1 k := bDk_at (Nat.le_refl _)
      rcases hp with ⟨hv, hc⟩ | ⟨hv, hc⟩ <;> subst hv
      · have hex1 : zEx b k := hc.1
        have hU1 : zU b (b.2.2.1 i).1 k = true := by have h9 := hc.2; rw [e0] at h9; exact h9
        have hen := hrm k hex1 hU1
        refine z_if_eq (tgt := 73) X dB_decide_28 (by decide) (fun c_28 => absurd c_28 (by decide)) (fun c_28 => ?_)
        refine z_aload_n (j := 3) X dB_decide_31 rfl rfl ?_
        refine z_aload_n (j := 3) X dB_decide_32 rfl rfl ?_
        refine z_getr (C := RB) (T := TB) (N := 11) (k := 1) X (w_in inB) rfl rfl rfl (by decide) (w_m lB_15) rfl rfl t1 dB_decide_33 ?_
        refine z_iload (j := 0) X dB_decide_36 rfl ?_
        refine z_aald (t0 := 3) X rfl (by decide) (by decide) (by decide) rfl (by omega) (by decide) (by rw [hlg k (by omega)]; exact if_pos hex1.2) dB_decide_38 ?_
        refine z_new (C := RE) (T := TE) (N := 5) (ci := 0) (n := (200 + 60 * k + (b.2.1 k).2.1.2)) X (w_in inE) rfl rfl (kd_E (by omega) (by omega)) (by have h9 := hB1.2.2.2.2.2 k hex1 (b.2.1 k).2.1.2 hen (by rw [e0]; exact Nat.le_refl _); exact h9) (by omega) tyE tyE_ok (by decide +kernel) (w_m lB_121) (w_m n_LogBroker_Entry) (w_m i_LogBroker_Entry) (by show _ ≤ 12; omega) (by show _ ≤ 60; omega) dB_decide_39 ?_
        refine z_dup X dB_decide_42 rfl ?_
        refine z_iload_n (j := 5) X dB_decide_43 rfl rfl ?_
        refine z_if_eq (tgt := 51) X dB_decide_44 (by decide) (fun c_44 => absurd c_44 (by decide)) (fun c_44 => ?_)
        refine z_iconst (v := (nI 1)) X dB_decide_47 (by decide) ?_
        refine z_goto (tgt := 52) X dB_decide_48 (by decide) ?_
        refine z_iconst (v := (-1)) X dB_decide_52 (by decide) ?_
        refine z_iconst (v := (nI 0)) X dB_decide_53 (by decide) ?_
        refine z_iload_n (j := 2) X dB_decide_54 rfl rfl ?_
        refine z_iconst (v := (nI 0)) X dB_decide_55 (by decide) ?_
        refine z_callI (n := 5) (As := [.int (nI 1), .int (-1), .int (nI 0), .int ((b.2.2.1 i).1), .int (nI 0)]) (rest := [.ref (200 + 60 * k + (b.2.1 k).2.1.2), .ref (60 + k), .ref 1]) X zG0_m (fun _ _ h => h) (mE_init l D dA (kd_E (by omega) (by omega))) (w_I X.2.2.2.2.1 lB_123 jE_init i_LogBroker_Entry kE_init rfl rfl rfl (by decide +kernel) ⟨Nat.le_of_ble_eq_true rfl, Nat.le_of_ble_eq_true rfl⟩) rfl rfl (Nat.le_of_ble_eq_true rfl) dB_decide_56 ⟨by show _ ≤ 12; omega, by show _ ≤ 60; omega⟩ (fun v S0 hp => ?_)
        obtain ⟨hv, hS0⟩ := hp
        subst hv
        obtain ⟨hE0, hf0, hd0⟩ := zNewE (S := S1) (n := (200 + 60 * k + (b.2.1 k).2.1.2)) (a0 := (nI 1)) (a1 := -1) (a2 := nI 0) (a3 := (b.2.2.1 i).1) (a4 := nI 0)
        rw [← hS0] at hE0 hf0 hd0
        clear hS0
        have hT0 : zTop S0 (bM (bDk b (b.2.2.1 i).1 (zMk (b.2.2.1 i).1 true) k) (b.2.2.2.2.2.2.2.2.1 + nI (zcnt (zU b (b.2.2.1 i).1) k 0))) := zTop_fr hB1.1 (fun n h1 h2 => hf0.ag (by omega))
        have hO0 : zLogA S0 k (b.2.1 k) := zLogA_nw (by have h9 := hB1.2.1 k hex1; rw [e0] at h9; exact h9) (v2 k hex1) (by omega) hf0
        refine z_callV (n := 2) (As := [.ref (60 + k), .ref (200 + 60 * k + (b.2.1 k).2.1.2)]) (rest := []) X zG0_m (mB_write l D dA (b := (bM (bDk b (b.2.2.1 i).1 (zMk (b.2.2.1 i).1 true) k) (b.2.2.2.2.2.2.2.2.1 + nI (zcnt (zU b (b.2.2.1 i).1) k 0)))) (t := k) (g := b.2.1 k) hT0 (by omega) hO0 (v2 k hex1) hen hE0) (w_V X.2.2.2.2.1 lB_126 jB_write sB_write i_LogBroker kB_write rfl rfl (by decide +kernel) ⟨Nat.le_of_ble_eq_true rfl, Nat.le_of_ble_eq_true rfl⟩) rfl rfl rfl rfl rfl (Nat.le_of_ble_eq_true rfl) dB_decide_59 ⟨by show _ ≤ 12; omega, by show _ ≤ 60; omega⟩ (fun v S3 hp => ?_) (fun E S1 hx => hx.elim)
        obtain ⟨hv, hT3, hA3, hW3, hf3, hd3⟩ := hp
        subst hv
        obtain ⟨hB3, hfx3⟩ := zBrA_wr (e := ((nI 1), -1, nI 0, (b.2.2.1 i).1, nI 0)) (t := k) hB1 (zBrW_M hW1) hex1 (by rw [e0]; exact hf0) (by rw [e0]; exact hd0) (by rw [e0]; exact hen) (by rw [e0]; exact hT3) (by rw [e0]; exact hA3) hf3 hd3
        have hB3 : zBrA S3 (bM (bDk b (b.2.2.1 i).1 (zMk (b.2.2.1 i).1 true) (k + 1)) (b.2.2.2.2.2.2.2.2.1 + nI (zcnt (zU b (b.2.2.1 i).1) k 0))) := by rw [bDk_y hU1]; exact hB3
        have hW2 := zBrW_Dk hW hrm hdf (zEW_mk hq (Or.inl rfl)) (k + 1) (by omega)
        obtain ⟨hn, t0, t1, t2, t3, t4, t5, q6, q7, q8, q9, q10, hpt, hlg, hse, hcu, hop, hgr⟩ := id hB3.1
        refine z_pop X dB_decide_62 rfl ?_
        refine z_aload_n (j := 3) X dB_decide_63 rfl rfl ?_
        refine z_dup X dB_decide_64 rfl ?_
        refine z_geti (C := RB) (T := TB) (N := 11) (k := 8) X (w_in inB) rfl rfl rfl (by decide) (w_m lB_239) rfl rfl dB_decide_65 (hv := q8) ?_
        refine z_iconst (v := (nI 1)) X dB_decide_68 (by decide) ?_
        refine z_iadd X dB_decide_69 ?_
        refine z_top (zIa _ _ _) ?_
        rw [show zcnt (zU b (b.2.2.1 i).1) k 0 + 1 = zcnt (zU b (b.2.2.1 i).1) (k + 1) 0 by rw [zcnt_step, if_pos hU1]]
        refine z_puti (C := RB) (T := TB) (N := 11) (k := 8) X (w_in inB) rfl rfl rfl (by decide) (w_m lB_239) rfl tyB tyB_ok nmB rfl rfl (ty := .int) (by decide +kernel) rfl rfl dB_decide_70 ?_
        refine z_iinc (j := 0) (v := (nI (k + 1))) (L' := [(5, .int (nI (k + 1))), (4, .int b.2.2.2.2.2.2.2.2.1), (3, .int ((b.2.2.1 i).1)), (0, .ref 1), (1, .ref (10 + i)), (2, .int (nI 1))]) X dB_decide_73 rfl (nI_1 k) (by decide) rfl ?_
        refine z_goto (tgt := 14) X dB_decide_76 (by decide) ?_
        obtain ⟨hB4, hf4⟩ := zBrA_M (v := b.2.2.2.2.2.2.2.2.1 + nI (zcnt (zU b (b.2.2.1 i).1) (k + 1) 0)) hB3 (zBrW_M hW2)
        exact ih (k + 1) _ _ _ (by omega) (by omega) (by omega) (by omega) hB4 hW2 ((hfr.tr (hfx3.ownB (fun n h => by unfold zOwnG at h; omega))).tr (hf4.ownB (fun n h => by omega)))
      · have hU1 : ¬ zU b (b.2.2.1 i).1 k = true := fun h => by
          by_cases hex1 : zEx b k
          · exact hc ⟨hex1, by rw [e0]; exact h⟩
          · rw [hdf k (by omega) hex1] at h; cases h
        refine z_if_eq (tgt := 73) X dB_decide_28 (by decide) (fun c_28 => ?_) (fun c_28 => absurd c_28 (by decide))
        refine z_iinc (j := 0) (v := (nI (k + 1))) (L' := [(5, .int (nI (k + 1))), (4, .int b.2.2.2.2.2.2.2.2.1), (3, .int ((b.2.2.1 i).1)), (0, .ref 1), (1, .ref (10 + i)), (2, .int (nI 1))]) X dB_decide_73 rfl (nI_1 k) (by decide) rfl ?_
        refine z_goto (tgt := 14) X dB_decide_76 (by decide) ?_
        refine ih (k + 1) _ _ _ (by omega) (by omega) (by omega) (by omega) ?_ (by rw [bDk_n hU1]; exact hW1) hfr
        rw [bDk_n hU1, zcnt_step, if_neg hU1]; exact hB1
  obtain ⟨hn, t0, t1, t2, t3, t4, t5, q6, q7, q8, q9, q10, hpt, hlg, hse, hcu, hop, hgr⟩ := id hT
  refine z_aload_n (j := 1) X dB_decide_0 rfl rfl ?_
  refine z_geti (C := RS) (T := TS) (N := 4) (k := 0) X (w_in inS) rfl rfl (kd_S hi) (by decide) (w_m lB_63) rfl rfl dB_decide_1 (hv := (hSs i hi).2.2.2.1) ?_
  refine z_istore_n (L' := [(3, .int ((b.2.2.1 i).1)), (0, .ref 1), (1, .ref (10 + i)), (2, .int (nI 1))]) X dB_decide_4 rfl (by decide) rfl ?_
  refine z_aload_n (j := 1) X dB_decide_5 rfl rfl ?_
  refine z_geti (C := RB) (T := TB) (N := 11) (k := 8) X (w_in inB) rfl rfl rfl (by decide) (w_m lB_239) rfl rfl dB_decide_6 (hv := q8) ?_
  refine z_istore (L' := [(4, .int b.2.2.2.2.2.2.2.2.1), (3, .int ((b.2.2.1 i).1)), (0, .ref 1), (1, .ref (10 + i)), (2, .int (nI 1))]) X dB_decide_9 (by decide) rfl ?_
  refine z_iconst (v := (nI 0)) X dB_decide_11 (by decide) ?_
  refine z_istore (L' := [(5, .int (nI 0)), (4, .int b.2.2.2.2.2.2.2.2.1), (3, .int ((b.2.2.1 i).1)), (0, .ref 1), (1, .ref (10 + i)), (2, .int (nI 1))]) X dB_decide_12 (by decide) rfl ?_
  refine z_loc [0, 1, 2, 3, 4, 5] rfl ?_
  exact loop 13 0 S 0 0 (by omega) (by omega) (by omega) (by omega) (by
    rw [bDk_0]
    show zBrA S (bM b (b.2.2.2.2.2.2.2.2.1 + nI 0))
    rw [nI_0, Int32.add_zero]; exact hB) (by rw [bDk_0]; exact hW) zfr.rf

set_option maxHeartbeats 600000 in
set_option maxRecDepth 100000 in
theorem mB_decideF (l : Launch) (D : va_G) (dA : Nat → ClassId) {S : zS} {b : zBr} {i : Nat} (hB : zBrA S b) (hW : zBrW b) (hi : i < 6) (hq : ∃ k, k < 4 ∧ (b.2.2.1 i).1 = nI k) (hrm : ∀ t, zEx b t → zU b (b.2.2.1 i).1 t = true → (b.2.1 t).2.1.2 < 60) (hdf : ∀ t, t < 12 → ¬ zEx b t → zU b (b.2.2.1 i).1 t = false) (hemp : ∀ t, t < 12 → ¬ zEx b t → ∀ o, (b.2.1 t).2.2 o = none) : zMet l D vwCl zKK dA (zG0 D dA) yB_decide (Cond.code yB_decide cB_decide 6 (some .int) :: zTs) { frames := 3, cells := 12, slots := 60, locals := 67 } 12 60 [.ref 1, .ref (10 + i), .int (nI 0)] S (fun v S' => v = some (.int (nI (zcnt (zU b (b.2.2.1 i).1) 12 0))) ∧ zBrA S' (sDec b i false) ∧ zfr zOwnB S S') (fun _ _ => False) := by
  refine z_met (tys := ztys dA) (by decide) rfl zG0_K rfl (Nat.le_of_ble_eq_true rfl) (fun p e s m args below meth c A ad X hr hlocks hin hex => ?_)
  obtain ⟨hT, hLg, hSs, hGs, hnx, hnf⟩ := id hB
  obtain ⟨v1, v2, v3, v4, v5, v6, v7⟩ := id hW
  have hno : ∀ k, k < 12 → ¬ zEx b k → ∀ o, (bDk b (b.2.2.1 i).1 (zMk (b.2.2.1 i).1 false) 12).2.1 k = b.2.1 k ∧ (b.2.1 k).2.2 o = none := fun k h1 h2 o => ⟨if_neg (fun h => by rw [hdf k h1 h2] at h; cases h.2), hemp k h1 h2 o⟩
  have loop2 : zBrW (bDk b (b.2.2.1 i).1 (zMk (b.2.2.1 i).1 false) 12) → ∀ (f k : Nat) (S1 : zS) (kc ks : Nat), 12 - k < f → k ≤ 12 → kc ≤ 12 → ks ≤ 60 → zBrA S1 (bSk (bM (bDk b (b.2.2.1 i).1 (zMk (b.2.2.1 i).1 false) 12) (b.2.2.2.2.2.2.2.2.1 + nI (zcnt (zU b (b.2.2.1 i).1) 12 0))) (b.2.2.1 i).1 (nI 1) k) → zBrW (bSk (bM (bDk b (b.2.2.1 i).1 (zMk (b.2.2.1 i).1 false) 12) (b.2.2.2.2.2.2.2.2.1 + nI (zcnt (zU b (b.2.2.1 i).1) 12 0))) (b.2.2.1 i).1 (nI 1) k) → zfr zOwnB S S1 → AW p l e { frames := 3, cells := 12, slots := 60, locals := 67 } s m args below meth c D vwCl zKK dA A (ad, S) 6 S1 kc ks (vx_MQ below (zQc D vwCl zKK dA A ad S (fun v S' => v = some (.int (nI (zcnt (zU b (b.2.2.1 i).1) 12 0))) ∧ zBrA S' (sDec b i false) ∧ zfr zOwnB S S')) (zXC D vwCl zKK dA A ad S (fun _ _ => False)) args s 12 60 A) 82 [(5, .int (nI k)), (4, .int b.2.2.2.2.2.2.2.2.1), (3, .int (b.2.2.1 i).1), (0, .ref 1), (1, .ref (10 + i)), (2, .int (nI 0))] [] := by
    intro hW2 f
    induction f with
    | zero => intro k S1 kc ks h0; omega
    | succ f ih =>
    intro k S1 kc ks h0 hk12 hkc hks hB1 hWk hfr
    obtain ⟨hn, t0, t1, t2, t3, t4, t5, q6, q7, q8, q9, q10, hpt, hlg, hse, hcu, hop, hgr⟩ := id hB1.1
    refine z_iload (j := 0) X dB_decide_82 rfl ?_
    refine z_bipush (v := (nI 12)) X dB_decide_84 (by decide) ?_
    refine z_icmp_geN (tgt := 125) X dB_decide_86 (by decide) (by omega) (by omega) (fun c_86 => ?_) (fun c_86 => ?_)
    · have e12 : k = 12 := by omega
      subst e12
      have hB5 := zBrA_S hB1 hWk hi (zSsA_tr (v := nI 0) (hB1.2.2.1 i hi) hi) (zfr.i (Or.inl rfl))
      have hfr5 := hfr.tr (zfr.ownB (zfr.i (S := S1) (own := zOwnS i) (n := 10 + i) (k := 1) (x := nI 0) (Or.inl rfl)) (fun n h => by unfold zOwnS at h; omega))
      refine z_aload_n (j := 4) X dB_decide_125 rfl rfl ?_
      refine z_iconst (v := (nI 0)) X dB_decide_126 (by decide) ?_
      refine z_puti (C := RS) (T := TS) (N := 4) (k := 1) X (w_in inS) rfl rfl (kd_S hi) (by decide) (w_m lB_59) rfl tyS tyS_ok nmS rfl rfl (ty := .boolean) (by decide +kernel) rfl rfl dB_decide_127 ?_
      refine z_aload_n (j := 3) X dB_decide_130 rfl rfl ?_
      refine z_geti (C := RB) (T := TB) (N := 11) (k := 8) X (w_in inB) rfl rfl rfl (by decide) (w_m lB_239) rfl rfl dB_decide_131 (hv := (rd_i (Or.inl (by omega)) q8)) ?_
      refine z_iload (j := 1) X dB_decide_134 rfl ?_
      refine z_isub X dB_decide_136 ?_
      refine z_iret X hlocks hr dB_decide_137 (by omega) (by omega) ?_
      exact ⟨congrArg (fun z => some (Value.int z)) (zI_acc _ _), hB5, hfr5⟩
    · refine z_aload_n (j := 3) X dB_decide_89 rfl rfl ?_
      refine z_getr (C := RB) (T := TB) (N := 11) (k := 1) X (w_in inB) rfl rfl rfl (by decide) (w_m lB_15) rfl rfl t1 dB_decide_90 ?_
      refine z_iload (j := 0) X dB_decide_93 rfl ?_
      by_cases hex1 : zEx b k
      · refine z_aald (t0 := 3) X rfl (by decide) (by decide) (by decide) rfl (by omega) (by decide) (by rw [hlg k (by omega)]; exact if_pos hex1.2) dB_decide_95 ?_
        refine z_ifnull X dB_decide_96 ?_
        refine z_aload_n (j := 3) X dB_decide_99 rfl rfl ?_
        refine z_getr (C := RB) (T := TB) (N := 11) (k := 1) X (w_in inB) rfl rfl rfl (by decide) (w_m lB_15) rfl rfl t1 dB_decide_100 ?_
        refine z_iload (j := 0) X dB_decide_103 rfl ?_
        refine z_aald (t0 := 3) X rfl (by decide) (by decide) (by decide) rfl (by omega) (by decide) (by rw [hlg k (by omega)]; exact if_pos hex1.2) dB_decide_105 ?_
        refine z_iload_n (j := 2) X dB_decide_106 rfl rfl ?_
        refine z_iload_n (j := 5) X dB_decide_107 rfl rfl ?_
        refine z_if_eq (tgt := 115) X dB_decide_108 (by decide) (fun c_108 => ?_) (fun c_108 => absurd c_108 (by decide))
        refine z_iconst (v := (nI 1)) X dB_decide_115 (by decide) ?_
        refine z_callV (n := 2) (As := [.int ((b.2.2.1 i).1), .int (nI 1)]) (rest := []) X zG0_m (mG_settle l D dA (by omega) (by have h9 := hB1.2.1 k hex1; rw [bSk_at (Nat.le_refl _)] at h9; exact h9) (hW2.2.1 k hex1)) (w_V X.2.2.2.2.1 lB_271 jG_settle sG_settle i_LogBroker_Log kG_settle rfl rfl (by decide +kernel) ⟨Nat.le_of_ble_eq_true rfl, Nat.le_of_ble_eq_true rfl⟩) (kd_G (by omega)) rfl rfl rfl rfl (Nat.le_of_ble_eq_true rfl) dB_decide_116 ⟨by show _ ≤ 12; omega, by show _ ≤ 60; omega⟩ (fun v S2 hp => ?_) (fun E S1 hx => hx.elim)
        obtain ⟨hv, hA2, hf2, hd2⟩ := hp
        subst hv
        refine z_iinc (j := 0) (v := (nI (k + 1))) (L' := [(5, .int (nI (k + 1))), (4, .int b.2.2.2.2.2.2.2.2.1), (3, .int ((b.2.2.1 i).1)), (0, .ref 1), (1, .ref (10 + i)), (2, .int (nI 0))]) X dB_decide_119 rfl (nI_1 k) (by decide) rfl ?_
        refine z_goto (tgt := 82) X dB_decide_122 (by decide) ?_
        have hB4 := zBrA_G hB1 hWk hex1 hA2 hf2 hd2 (by rw [bSk_at (Nat.le_refl _)]; rfl)
        have hB4 : zBrA S2 (bSk (bM (bDk b (b.2.2.1 i).1 (zMk (b.2.2.1 i).1 false) 12) (b.2.2.2.2.2.2.2.2.1 + nI (zcnt (zU b (b.2.2.1 i).1) 12 0))) (b.2.2.1 i).1 (nI 1) (k + 1)) := by rw [bSk_s]; exact hB4
        exact ih (k + 1) _ _ _ (by omega) (by omega) (by omega) (by omega) hB4 (by
          rw [bSk_s]
          exact zBrW_G hWk (zLogW_set (hW2.2.1 k hex1)) (fun o e he => by
            obtain ⟨e0, h1, h2⟩ := zSet_some he
            rw [h2]; exact zEW_set (hW2.2.2.1 k hex1 o e0 h1) (Or.inr rfl)) (by rw [bSk_at (Nat.le_refl _)]; exact Nat.le_refl _)) (hfr.tr (hf2.ownB (fun n h => by unfold zOwnG at h; omega)))
      · refine z_aaldN (t0 := 3) X rfl (by decide) (by decide) (by decide) rfl (by omega) (by decide) (by rw [hlg k (by omega)]; exact if_neg (fun h => hex1 ⟨by omega, h⟩)) dB_decide_95 ?_
        refine z_ifnullN (tgt := 119) X dB_decide_96 (by decide) ?_
        refine z_iinc (j := 0) (v := (nI (k + 1))) (L' := [(5, .int (nI (k + 1))), (4, .int b.2.2.2.2.2.2.2.2.1), (3, .int ((b.2.2.1 i).1)), (0, .ref 1), (1, .ref (10 + i)), (2, .int (nI 0))]) X dB_decide_119 rfl (nI_1 k) (by decide) rfl ?_
        refine z_goto (tgt := 82) X dB_decide_122 (by decide) ?_
        have hz : bSk (bM (bDk b (b.2.2.1 i).1 (zMk (b.2.2.1 i).1 false) 12) (b.2.2.2.2.2.2.2.2.1 + nI (zcnt (zU b (b.2.2.1 i).1) 12 0))) (b.2.2.1 i).1 (nI 1) (k + 1) = bSk (bM (bDk b (b.2.2.1 i).1 (zMk (b.2.2.1 i).1 false) 12) (b.2.2.2.2.2.2.2.2.1 + nI (zcnt (zU b (b.2.2.1 i).1) 12 0))) (b.2.2.1 i).1 (nI 1) k := by
          rw [bSk_s]
          exact zSet_no (by rw [bSk_at (Nat.le_refl _)]) (fun o => hno k (by omega) hex1 o)
        exact ih (k + 1) _ _ _ (by omega) (by omega) (by omega) (by omega) (by rw [hz]; exact hB1) (by rw [hz]; exact hWk) hfr
  have loop2' : ∀ (S1 : zS) (kc ks : Nat), kc ≤ 12 → ks ≤ 60 → zBrA S1 (bM (bDk b (b.2.2.1 i).1 (zMk (b.2.2.1 i).1 false) 12) (b.2.2.2.2.2.2.2.2.1 + nI (zcnt (zU b (b.2.2.1 i).1) 12 0))) → zBrW (bDk b (b.2.2.1 i).1 (zMk (b.2.2.1 i).1 false) 12) → zfr zOwnB S S1 → AW p l e { frames := 3, cells := 12, slots := 60, locals := 67 } s m args below meth c D vwCl zKK dA A (ad, S) 6 S1 kc ks (vx_MQ below (zQc D vwCl zKK dA A ad S (fun v S' => v = some (.int (nI (zcnt (zU b (b.2.2.1 i).1) 12 0))) ∧ zBrA S' (sDec b i false) ∧ zfr zOwnB S S')) (zXC D vwCl zKK dA A ad S (fun _ _ => False)) args s 12 60 A) 79 [(5, .int (nI 12)), (4, .int b.2.2.2.2.2.2.2.2.1), (3, .int (b.2.2.1 i).1), (0, .ref 1), (1, .ref (10 + i)), (2, .int (nI 0))] [] := by
    intro S1 kc ks hkc hks hB1 hW2 hfr
    refine z_iconst (v := (nI 0)) X dB_decide_79 (by decide) ?_
    refine z_istore (L' := [(5, .int (nI 0)), (4, .int b.2.2.2.2.2.2.2.2.1), (3, .int ((b.2.2.1 i).1)), (0, .ref 1), (1, .ref (10 + i)), (2, .int (nI 0))]) X dB_decide_80 (by decide) rfl ?_
    exact loop2 hW2 13 0 S1 kc ks (by omega) (by omega) hkc hks (by rw [bSk_0]; exact hB1) (by rw [bSk_0]; exact zBrW_M hW2) hfr
  have loop : ∀ (f k : Nat) (S1 : zS) (kc ks : Nat), 12 - k < f → k ≤ 12 → kc ≤ k → ks ≤ 5 * k → zBrA S1 (bM (bDk b (b.2.2.1 i).1 (zMk (b.2.2.1 i).1 false) k) (b.2.2.2.2.2.2.2.2.1 + nI (zcnt (zU b (b.2.2.1 i).1) k 0))) → zBrW (bDk b (b.2.2.1 i).1 (zMk (b.2.2.1 i).1 false) k) → zfr zOwnB S S1 → AW p l e { frames := 3, cells := 12, slots := 60, locals := 67 } s m args below meth c D vwCl zKK dA A (ad, S) 6 S1 kc ks (vx_MQ below (zQc D vwCl zKK dA A ad S (fun v S' => v = some (.int (nI (zcnt (zU b (b.2.2.1 i).1) 12 0))) ∧ zBrA S' (sDec b i false) ∧ zfr zOwnB S S')) (zXC D vwCl zKK dA A ad S (fun _ _ => False)) args s 12 60 A) 14 [(5, .int (nI k)), (4, .int b.2.2.2.2.2.2.2.2.1), (3, .int (b.2.2.1 i).1), (0, .ref 1), (1, .ref (10 + i)), (2, .int (nI 0))] [] := by
    intro f
    induction f with
    | zero => intro k S1 kc ks h0; omega
    | succ f ih =>
    intro k S1 kc ks h0 hk12 hkc hks hB1 hW1 hfr
    obtain ⟨hn, t0, t1, t2, t3, t4, t5, q6, q7, q8, q9, q10, hpt, hlg, hse, hcu, hop, hgr⟩ := id hB1.1
    refine z_iload (j := 0) X dB_decide_14 rfl ?_
    refine z_bipush (v := (nI 12)) X dB_decide_16 (by decide) ?_
    refine z_icmp_geN (tgt := 79) X dB_decide_18 (by decide) (by omega) (by omega) (fun c_18 => ?_) (fun c_18 => ?_)
    · have e12 : k = 12 := by omega
      subst e12
      exact loop2' _ _ _ (by omega) (by omega) hB1 hW1 hfr
    · refine z_aload_n (j := 3) X dB_decide_21 rfl rfl ?_
      refine z_iload (j := 0) X dB_decide_22 rfl ?_
      refine z_iload_n (j := 2) X dB_decide_24 rfl rfl ?_
      refine z_callV (n := 2) (As := [.int (nI k), .int ((b.2.2.1 i).1)]) (rest := []) X zG0_m (mB_awaitsMarker l D dA (b := (bM (bDk b (b.2.2.1 i).1 (zMk (b.2.2.1 i).1 false) k) (b.2.2.2.2.2.2.2.2.1 + nI (zcnt (zU b (b.2.2.1 i).1) k 0)))) (t := k) hB1 (zBrW_M hW1) (by omega)) (w_V X.2.2.2.2.1 lB_263 jB_awaitsMarker sB_awaitsMarker i_LogBroker kB_awaitsMarker rfl rfl (by decide +kernel) ⟨Nat.le_of_ble_eq_true rfl, Nat.le_of_ble_eq_true rfl⟩) rfl rfl rfl rfl rfl (Nat.le_of_ble_eq_true rfl) dB_decide_25 ⟨by show _ ≤ 12; omega, by show _ ≤ 60; omega⟩ (fun v S9 hp => ?_) (fun E S1 hx => hx.elim)
      obtain ⟨hS9, hp⟩ := hp
      have hS9 := hS9.symm
      subst hS9
      have e0 : (bM (bDk b (b.2.2.1 i).1 (zMk (b.2.2.1 i).1 false) k) (b.2.2.2.2.2.2.2.2.1 + nI (zcnt (zU b (b.2.2.1 i).1) k 0))).2.1 k = b.2.1 k := bDk_at (Nat.le_refl _)
      rcases hp with ⟨hv, hc⟩ | ⟨hv, hc⟩ <;> subst hv
      · have hex1 : zEx b k := hc.1
        have hU1 : zU b (b.2.2.1 i).1 k = true := by have h9 := hc.2; rw [e0] at h9; exact h9
        have hen := hrm k hex1 hU1
        refine z_if_eq (tgt := 73) X dB_decide_28 (by decide) (fun c_28 => absurd c_28 (by decide)) (fun c_28 => ?_)
        refine z_aload_n (j := 3) X dB_decide_31 rfl rfl ?_
        refine z_aload_n (j := 3) X dB_decide_32 rfl rfl ?_
        refine z_getr (C := RB) (T := TB) (N := 11) (k := 1) X (w_in inB) rfl rfl rfl (by decide) (w_m lB_15) rfl rfl t1 dB_decide_33 ?_
        refine z_iload (j := 0) X dB_decide_36 rfl ?_
        refine z_aald (t0 := 3) X rfl (by decide) (by decide) (by decide) rfl (by omega) (by decide) (by rw [hlg k (by omega)]; exact if_pos hex1.2) dB_decide_38 ?_
        refine z_new (C := RE) (T := TE) (N := 5) (ci := 0) (n := (200 + 60 * k + (b.2.1 k).2.1.2)) X (w_in inE) rfl rfl (kd_E (by omega) (by omega)) (by have h9 := hB1.2.2.2.2.2 k hex1 (b.2.1 k).2.1.2 hen (by rw [e0]; exact Nat.le_refl _); exact h9) (by omega) tyE tyE_ok (by decide +kernel) (w_m lB_121) (w_m n_LogBroker_Entry) (w_m i_LogBroker_Entry) (by show _ ≤ 12; omega) (by show _ ≤ 60; omega) dB_decide_39 ?_
        refine z_dup X dB_decide_42 rfl ?_
        refine z_iload_n (j := 5) X dB_decide_43 rfl rfl ?_
        refine z_if_eq (tgt := 51) X dB_decide_44 (by decide) (fun c_44 => ?_) (fun c_44 => absurd c_44 (by decide))
        refine z_iconst (v := (nI 2)) X dB_decide_51 (by decide) ?_
        refine z_iconst (v := (-1)) X dB_decide_52 (by decide) ?_
        refine z_iconst (v := (nI 0)) X dB_decide_53 (by decide) ?_
        refine z_iload_n (j := 2) X dB_decide_54 rfl rfl ?_
        refine z_iconst (v := (nI 0)) X dB_decide_55 (by decide) ?_
        refine z_callI (n := 5) (As := [.int (nI 2), .int (-1), .int (nI 0), .int ((b.2.2.1 i).1), .int (nI 0)]) (rest := [.ref (200 + 60 * k + (b.2.1 k).2.1.2), .ref (60 + k), .ref 1]) X zG0_m (fun _ _ h => h) (mE_init l D dA (kd_E (by omega) (by omega))) (w_I X.2.2.2.2.1 lB_123 jE_init i_LogBroker_Entry kE_init rfl rfl rfl (by decide +kernel) ⟨Nat.le_of_ble_eq_true rfl, Nat.le_of_ble_eq_true rfl⟩) rfl rfl (Nat.le_of_ble_eq_true rfl) dB_decide_56 ⟨by show _ ≤ 12; omega, by show _ ≤ 60; omega⟩ (fun v S0 hp => ?_)
        obtain ⟨hv, hS0⟩ := hp
        subst hv
        obtain ⟨hE0, hf0, hd0⟩ := zNewE (S := S1) (n := (200 + 60 * k + (b.2.1 k).2.1.2)) (a0 := (nI 2)) (a1 := -1) (a2 := nI 0) (a3 := (b.2.2.1 i).1) (a4 := nI 0)
        rw [← hS0] at hE0 hf0 hd0
        clear hS0
        have hT0 : zTop S0 (bM (bDk b (b.2.2.1 i).1 (zMk (b.2.2.1 i).1 false) k) (b.2.2.2.2.2.2.2.2.1 + nI (zcnt (zU b (b.2.2.1 i).1) k 0))) := zTop_fr hB1.1 (fun n h1 h2 => hf0.ag (by omega))
        have hO0 : zLogA S0 k (b.2.1 k) := zLogA_nw (by have h9 := hB1.2.1 k hex1; rw [e0] at h9; exact h9) (v2 k hex1) (by omega) hf0
        refine z_callV (n := 2) (As := [.ref (60 + k), .ref (200 + 60 * k + (b.2.1 k).2.1.2)]) (rest := []) X zG0_m (mB_write l D dA (b := (bM (bDk b (b.2.2.1 i).1 (zMk (b.2.2.1 i).1 false) k) (b.2.2.2.2.2.2.2.2.1 + nI (zcnt (zU b (b.2.2.1 i).1) k 0)))) (t := k) (g := b.2.1 k) hT0 (by omega) hO0 (v2 k hex1) hen hE0) (w_V X.2.2.2.2.1 lB_126 jB_write sB_write i_LogBroker kB_write rfl rfl (by decide +kernel) ⟨Nat.le_of_ble_eq_true rfl, Nat.le_of_ble_eq_true rfl⟩) rfl rfl rfl rfl rfl (Nat.le_of_ble_eq_true rfl) dB_decide_59 ⟨by show _ ≤ 12; omega, by show _ ≤ 60; omega⟩ (fun v S3 hp => ?_) (fun E S1 hx => hx.elim)
        obtain ⟨hv, hT3, hA3, hW3, hf3, hd3⟩ := hp
        subst hv
        obtain ⟨hB3, hfx3⟩ := zBrA_wr (e := ((nI 2), -1, nI 0, (b.2.2.1 i).1, nI 0)) (t := k) hB1 (zBrW_M hW1) hex1 (by rw [e0]; exact hf0) (by rw [e0]; exact hd0) (by rw [e0]; exact hen) (by rw [e0]; exact hT3) (by rw [e0]; exact hA3) hf3 hd3
        have hB3 : zBrA S3 (bM (bDk b (b.2.2.1 i).1 (zMk (b.2.2.1 i).1 false) (k + 1)) (b.2.2.2.2.2.2.2.2.1 + nI (zcnt (zU b (b.2.2.1 i).1) k 0))) := by rw [bDk_y hU1]; exact hB3
        have hW2 := zBrW_Dk hW hrm hdf (zEW_mk hq (Or.inr rfl)) (k + 1) (by omega)
        obtain ⟨hn, t0, t1, t2, t3, t4, t5, q6, q7, q8, q9, q10, hpt, hlg, hse, hcu, hop, hgr⟩ := id hB3.1
        refine z_pop X dB_decide_62 rfl ?_
        refine z_aload_n (j := 3) X dB_decide_63 rfl rfl ?_
        refine z_dup X dB_decide_64 rfl ?_
        refine z_geti (C := RB) (T := TB) (N := 11) (k := 8) X (w_in inB) rfl rfl rfl (by decide) (w_m lB_239) rfl rfl dB_decide_65 (hv := q8) ?_
        refine z_iconst (v := (nI 1)) X dB_decide_68 (by decide) ?_
        refine z_iadd X dB_decide_69 ?_
        refine z_top (zIa _ _ _) ?_
        rw [show zcnt (zU b (b.2.2.1 i).1) k 0 + 1 = zcnt (zU b (b.2.2.1 i).1) (k + 1) 0 by rw [zcnt_step, if_pos hU1]]
        refine z_puti (C := RB) (T := TB) (N := 11) (k := 8) X (w_in inB) rfl rfl rfl (by decide) (w_m lB_239) rfl tyB tyB_ok nmB rfl rfl (ty := .int) (by decide +kernel) rfl rfl dB_decide_70 ?_
        refine z_iinc (j := 0) (v := (nI (k + 1))) (L' := [(5, .int (nI (k + 1))), (4, .int b.2.2.2.2.2.2.2.2.1), (3, .int ((b.2.2.1 i).1)), (0, .ref 1), (1, .ref (10 + i)), (2, .int (nI 0))]) X dB_decide_73 rfl (nI_1 k) (by decide) rfl ?_
        refine z_goto (tgt := 14) X dB_decide_76 (by decide) ?_
        obtain ⟨hB4, hf4⟩ := zBrA_M (v := b.2.2.2.2.2.2.2.2.1 + nI (zcnt (zU b (b.2.2.1 i).1) (k + 1) 0)) hB3 (zBrW_M hW2)
        exact ih (k + 1) _ _ _ (by omega) (by omega) (by omega) (by omega) hB4 hW2 ((hfr.tr (hfx3.ownB (fun n h => by unfold zOwnG at h; omega))).tr (hf4.ownB (fun n h => by omega)))
      · have hU1 : ¬ zU b (b.2.2.1 i).1 k = true := fun h => by
          by_cases hex1 : zEx b k
          · exact hc ⟨hex1, by rw [e0]; exact h⟩
          · rw [hdf k (by omega) hex1] at h; cases h
        refine z_if_eq (tgt := 73) X dB_decide_28 (by decide) (fun c_28 => ?_) (fun c_28 => absurd c_28 (by decide))
        refine z_iinc (j := 0) (v := (nI (k + 1))) (L' := [(5, .int (nI (k + 1))), (4, .int b.2.2.2.2.2.2.2.2.1), (3, .int ((b.2.2.1 i).1)), (0, .ref 1), (1, .ref (10 + i)), (2, .int (nI 0))]) X dB_decide_73 rfl (nI_1 k) (by decide) rfl ?_
        refine z_goto (tgt := 14) X dB_decide_76 (by decide) ?_
        refine ih (k + 1) _ _ _ (by omega) (by omega) (by omega) (by omega) ?_ (by rw [bDk_n hU1]; exact hW1) hfr
        rw [bDk_n hU1, zcnt_step, if_neg hU1]; exact hB1
  obtain ⟨hn, t0, t1, t2, t3, t4, t5, q6, q7, q8, q9, q10, hpt, hlg, hse, hcu, hop, hgr⟩ := id hT
  refine z_aload_n (j := 1) X dB_decide_0 rfl rfl ?_
  refine z_geti (C := RS) (T := TS) (N := 4) (k := 0) X (w_in inS) rfl rfl (kd_S hi) (by decide) (w_m lB_63) rfl rfl dB_decide_1 (hv := (hSs i hi).2.2.2.1) ?_
  refine z_istore_n (L' := [(3, .int ((b.2.2.1 i).1)), (0, .ref 1), (1, .ref (10 + i)), (2, .int (nI 0))]) X dB_decide_4 rfl (by decide) rfl ?_
  refine z_aload_n (j := 1) X dB_decide_5 rfl rfl ?_
  refine z_geti (C := RB) (T := TB) (N := 11) (k := 8) X (w_in inB) rfl rfl rfl (by decide) (w_m lB_239) rfl rfl dB_decide_6 (hv := q8) ?_
  refine z_istore (L' := [(4, .int b.2.2.2.2.2.2.2.2.1), (3, .int ((b.2.2.1 i).1)), (0, .ref 1), (1, .ref (10 + i)), (2, .int (nI 0))]) X dB_decide_9 (by decide) rfl ?_
  refine z_iconst (v := (nI 0)) X dB_decide_11 (by decide) ?_
  refine z_istore (L' := [(5, .int (nI 0)), (4, .int b.2.2.2.2.2.2.2.2.1), (3, .int ((b.2.2.1 i).1)), (0, .ref 1), (1, .ref (10 + i)), (2, .int (nI 0))]) X dB_decide_12 (by decide) rfl ?_
  refine z_loc [0, 1, 2, 3, 4, 5] rfl ?_
  exact loop 13 0 S 0 0 (by omega) (by omega) (by omega) (by omega) (by
    rw [bDk_0]
    show zBrA S (bM b (b.2.2.2.2.2.2.2.2.1 + nI 0))
    rw [nI_0, Int32.add_zero]; exact hB) (by rw [bDk_0]; exact hW) zfr.rf
