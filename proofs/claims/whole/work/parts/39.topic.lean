/-! CONTRACTS of LogBroker: a new topic (rows by program) -/
set_option maxHeartbeats 600000 in
set_option maxRecDepth 100000 in
theorem mB_topic (l : Launch) (D : va_G) (dA : Nat → ClassId) {S : zS} {b : zBr} {x n0 z0 k0 : Int32} {c0 : Bool} (hl0 : l.stackTraces = false) (hB : zBrA S b) (hW : zBrW b) : zMet l D vwCl zKK dA (zG0 D dA) yB_topic (Cond.code yB_topic cB_topic 7 none :: zTs) { frames := 7, cells := 14, slots := 260, locals := 104 } 14 260 [.ref 1, .int x, .int n0, .int z0, .int k0, .int (zB c0)] S (fun v S' => ∃ b', v = none ∧ sTopic b x n0 z0 k0 (zB c0) = ((0, 0), b') ∧ zBrA S' b' ∧ zfr zOwnB S S') (fun E S' => S' = S ∧ ((E = "java/lang/IllegalArgumentException" ∧ sTopic b x n0 z0 k0 (zB c0) = ((1, 0), b)) ∨ (E = "java/lang/IllegalStateException" ∧ sTopic b x n0 z0 k0 (zB c0) = ((2, 0), b)))) := by
  refine z_met (tys := ztys dA) (by decide) rfl zG0_K rfl (Nat.le_of_ble_eq_true rfl) (fun p e s m args below meth c A ad X hr hlocks hin hex => ?_)
  obtain ⟨hT, hLg, hSs, hGs, hnx, hnf⟩ := id hB
  obtain ⟨v1, v2, v3, v4, v5, v6, v7⟩ := id hW
  obtain ⟨hn, t0, t1, t2, t3, t4, t5, q6, q7, q8, q9, q10, hpt, hlg, hse, hcu, hop, hgr⟩ := id hT
  refine z_iload_n (j := 1) X dB_topic_0 rfl rfl ?_
  refine z_iconst (v := (nI 0)) X dB_topic_1 (by decide) ?_
  refine z_iconst (v := (nI 2)) X dB_topic_2 (by decide) ?_
  refine z_callS (n := 3) (As := [.int x, .int (nI 0), .int (nI 2)]) (rest := []) X zG0_m (mB_mustBeWithin l D dA hl0) (w_S X.2.2.2.2.1 lB_45 tB_mustBeWithin i_LogBroker kB_mustBeWithin rfl rfl (by decide +kernel) ⟨Nat.le_of_ble_eq_true rfl, Nat.le_of_ble_eq_true rfl⟩) rfl rfl (Nat.le_of_ble_eq_true rfl) dB_topic_3 ⟨Nat.le_of_ble_eq_true rfl, Nat.le_of_ble_eq_true rfl⟩ (fun v S9 hp => ?_) (fun E S1 hx => ?_)
  · obtain ⟨hv, hS9, hr1, hr2⟩ := hp
    subst hv
    have hS9 := hS9.symm
    subst hS9
    obtain ⟨t, hx9, ht1, ht2⟩ := zIn (st := 0) (en := 2) (by decide) (by decide) hr1 (Int32.not_lt.mp hr2)
    subst hx9
    refine z_iload_n (j := 2) X dB_topic_6 rfl rfl ?_
    refine z_iconst (v := (nI 1)) X dB_topic_7 (by decide) ?_
    refine z_iconst (v := (nI 3)) X dB_topic_8 (by decide) ?_
    refine z_callS (n := 3) (As := [.int n0, .int (nI 1), .int (nI 3)]) (rest := []) X zG0_m (mB_mustBeWithin l D dA hl0) (w_S X.2.2.2.2.1 lB_45 tB_mustBeWithin i_LogBroker kB_mustBeWithin rfl rfl (by decide +kernel) ⟨Nat.le_of_ble_eq_true rfl, Nat.le_of_ble_eq_true rfl⟩) rfl rfl (Nat.le_of_ble_eq_true rfl) dB_topic_9 ⟨Nat.le_of_ble_eq_true rfl, Nat.le_of_ble_eq_true rfl⟩ (fun v S9 hp => ?_) (fun E S1 hx => ?_)
    · obtain ⟨hv, hS9, hr1, hr2⟩ := hp
      subst hv
      have hS9 := hS9.symm
      subst hS9
      obtain ⟨n, hx9, hn1, hn2⟩ := zIn (st := 1) (en := 3) (by decide) (by decide) hr1 (Int32.not_lt.mp hr2)
      subst hx9
      refine z_iload_n (j := 3) X dB_topic_12 rfl rfl ?_
      refine z_iconst (v := (nI 1)) X dB_topic_13 (by decide) ?_
      refine z_iconst (v := (nI 4)) X dB_topic_14 (by decide) ?_
      refine z_callS (n := 3) (As := [.int z0, .int (nI 1), .int (nI 4)]) (rest := []) X zG0_m (mB_mustBeWithin l D dA hl0) (w_S X.2.2.2.2.1 lB_45 tB_mustBeWithin i_LogBroker kB_mustBeWithin rfl rfl (by decide +kernel) ⟨Nat.le_of_ble_eq_true rfl, Nat.le_of_ble_eq_true rfl⟩) rfl rfl (Nat.le_of_ble_eq_true rfl) dB_topic_15 ⟨Nat.le_of_ble_eq_true rfl, Nat.le_of_ble_eq_true rfl⟩ (fun v S9 hp => ?_) (fun E S1 hx => ?_)
      · obtain ⟨hv, hS9, hr1, hr2⟩ := hp
        subst hv
        have hS9 := hS9.symm
        subst hS9
        obtain ⟨z, hx9, hz1, hz2⟩ := zIn (st := 1) (en := 4) (by decide) (by decide) hr1 (Int32.not_lt.mp hr2)
        subst hx9
        refine z_iload (j := 4) X dB_topic_18 rfl ?_
        refine z_iconst (v := (nI 1)) X dB_topic_20 (by decide) ?_
        refine z_iconst (v := (nI 5)) X dB_topic_21 (by decide) ?_
        refine z_callS (n := 3) (As := [.int k0, .int (nI 1), .int (nI 5)]) (rest := []) X zG0_m (mB_mustBeWithin l D dA hl0) (w_S X.2.2.2.2.1 lB_45 tB_mustBeWithin i_LogBroker kB_mustBeWithin rfl rfl (by decide +kernel) ⟨Nat.le_of_ble_eq_true rfl, Nat.le_of_ble_eq_true rfl⟩) rfl rfl (Nat.le_of_ble_eq_true rfl) dB_topic_22 ⟨Nat.le_of_ble_eq_true rfl, Nat.le_of_ble_eq_true rfl⟩ (fun v S9 hp => ?_) (fun E S1 hx => ?_)
        · obtain ⟨hv, hS9, hr1, hr2⟩ := hp
          subst hv
          have hS9 := hS9.symm
          subst hS9
          obtain ⟨k, hx9, hk1, hk2⟩ := zIn (st := 1) (en := 5) (by decide) (by decide) hr1 (Int32.not_lt.mp hr2)
          subst hx9
          refine z_aload_n (j := 0) X dB_topic_25 rfl rfl ?_
          refine z_getr (C := RB) (T := TB) (N := 11) (k := 0) X (w_in inB) rfl rfl rfl (by decide) (w_m lB_9) rfl rfl t0 dB_topic_26 ?_
          refine z_iload_n (j := 1) X dB_topic_29 rfl rfl ?_
          refine z_iald (t0 := 0) X rfl rfl (by omega) (by decide) dB_topic_30 (hv := (hpt t (by omega))) ?_
          refine z_if_le (tgt := 44) X dB_topic_31 (by decide) (fun c_31 => ?_) (fun c_31 => ?_)
          · refine z_aload_n (j := 0) X dB_topic_44 rfl rfl ?_
            refine z_getr (C := RB) (T := TB) (N := 11) (k := 0) X (w_in inB) rfl rfl rfl (by decide) (w_m lB_9) rfl rfl t0 dB_topic_45 ?_
            refine z_iload_n (j := 1) X dB_topic_48 rfl rfl ?_
            refine z_iload_n (j := 2) X dB_topic_49 rfl rfl ?_
            have h0 : b.1 t = 0 := by
              have h9 := v1 t (by omega)
              exact Nat.eq_zero_of_not_pos (fun h => nI_nle h (by omega) c_31)
            refine z_iast (t0 := 0) X rfl rfl (by omega) (by decide) dB_topic_50 ?_
            refine z_iconst (v := (nI 0)) X dB_topic_51 (by decide) ?_
            refine z_istore (L' := [(6, .int (nI 0)), (0, .ref 1), (1, .int (nI t)), (2, .int (nI n)), (3, .int (nI z)), (4, .int (nI k)), (5, .int (zB c0))]) X dB_topic_52 (by decide) rfl ?_
            have loop : ∀ (f j : Nat) (S1 : zS) (kc ks : Nat), n - j < f → j ≤ n → kc ≤ 4 + 2 * j → ks ≤ 24 + 69 * j → zBrA (zsi S1 2 t (nI j)) (bT b t j z k (zB c0)) → zfr zOwnB S S1 → S1.2.1 2 t = nI n → AW p l e { frames := 7, cells := 14, slots := 260, locals := 104 } s m args below meth c D vwCl zKK dA A (ad, S) 7 S1 kc ks (vx_MQ below (zQc D vwCl zKK dA A ad S (fun v S' => ∃ b', v = none ∧ sTopic b (nI t) (nI n) (nI z) (nI k) (zB c0) = ((0, 0), b') ∧ zBrA S' b' ∧ zfr zOwnB S S')) (zXC D vwCl zKK dA A ad S (fun E S' => S' = S ∧ ((E = "java/lang/IllegalArgumentException" ∧ sTopic b (nI t) (nI n) (nI z) (nI k) (zB c0) = ((1, 0), b)) ∨ (E = "java/lang/IllegalStateException" ∧ sTopic b (nI t) (nI n) (nI z) (nI k) (zB c0) = ((2, 0), b))))) args s 14 260 A) 54 [(6, .int (nI j)), (0, .ref 1), (1, .int (nI t)), (2, .int (nI n)), (3, .int (nI z)), (4, .int (nI k)), (5, .int (zB c0))] [] := by
              intro f
              induction f with
              | zero => intro j S1 kc ks h0; omega
              | succ f ih =>
              intro j S1 kc ks h0' hj hkc hks hB1 hfr hp2
              obtain ⟨hn, t0, t1, t2, t3, t4, t5, q6, q7, q8, q9, q10, hpt, hlg, hse, hcu, hop, hgr⟩ := id hB1.1
              refine z_iload (j := 0) X dB_topic_54 rfl ?_
              refine z_iload_n (j := 3) X dB_topic_56 rfl rfl ?_
              refine z_icmp_geN (tgt := 89) X dB_topic_57 (by decide) (by omega) (by omega) (fun c_57 => ?_) (fun c_57 => ?_)
              · refine z_vret X hlocks hr dB_topic_89 (by omega) (by omega) ?_
                have e9 : j = n := by omega
                subst e9
                rw [zsi_same hp2] at hB1
                exact ⟨_, rfl, by unfold sTopic; rw [zR_s ht1 ht2 (by decide), zR_s hn1 hn2 (by decide), zR_s hz1 hz2 (by decide), zR_s hk1 hk2 (by decide), if_neg (fun h => h h0)], hB1, hfr⟩
              · refine z_zero (fun hz0 => ?_)
                obtain ⟨hx1, hx2, hx3⟩ := hB1.2.2.2.2.1 (t * 4 + j) (by omega) (fun h => by
                  have h2 := (zEx_T.mp h).2
                  rw [if_pos (by omega)] at h2; omega)
                have hx1 : S1.1 (60 + (t * 4 + j)) = false := hx1
                have hx2 : S1.1 (80 + (t * 4 + j)) = false := hx2
                refine z_aload_n (j := 1) X dB_topic_60 rfl rfl ?_
                refine z_getr (C := RB) (T := TB) (N := 11) (k := 1) X (w_in inB) rfl rfl rfl (by decide) (w_m lB_15) rfl rfl t1 dB_topic_61 ?_
                refine z_iload_n (j := 2) X dB_topic_64 rfl rfl ?_
                refine z_iconst (v := (nI 4)) X dB_topic_65 (by decide) ?_
                refine z_imul X dB_topic_66 ?_
                refine z_top (pk_mul t 4) ?_
                refine z_iload (j := 0) X dB_topic_67 rfl ?_
                refine z_iadd X dB_topic_69 ?_
                refine z_top (nI_add (t * 4) j) ?_
                refine z_new (C := RG) (T := TG) (N := 9) (ci := 1) (n := 60 + (t * 4 + j)) X (w_in inG) rfl rfl (kd_G (by omega)) hx1 (by omega) tyG tyG_ok (by decide +kernel) (w_m lB_13) (w_m n_LogBroker_Log) (w_m i_LogBroker_Log) (by show _ ≤ 14; omega) (by show _ ≤ 260; omega) dB_topic_70 ?_
                refine z_dup X dB_topic_73 rfl ?_
                refine z_iload_n (j := 4) X dB_topic_74 rfl rfl ?_
                refine z_iload (j := 5) X dB_topic_75 rfl ?_
                refine z_iload (j := 6) X dB_topic_77 rfl ?_
                refine z_callI (n := 3) (As := [.int (nI z), .int (nI k), .int (zB c0)]) (rest := [.ref (60 + (t * 4 + j)), .int (nI (t * 4 + j)), .ref 3]) X zG0_m (fun _ _ h => h) (mG_init l D dA (tp := (t * 4 + j)) (z := z) (k := k) (by omega) ((zadd_n (by omega)).trans hx2) (by cases c0 <;> first | exact Or.inl rfl | exact Or.inr rfl)) (w_I X.2.2.2.2.1 lB_56 jG_init i_LogBroker_Log kG_init rfl rfl rfl (by decide +kernel) ⟨Nat.le_of_ble_eq_true rfl, Nat.le_of_ble_eq_true rfl⟩) rfl rfl (Nat.le_of_ble_eq_true rfl) dB_topic_79 ⟨by show _ ≤ 14; omega, by show _ ≤ 260; omega⟩ (fun v S2 hp => ?_)
                obtain ⟨hv, hS2⟩ := hp
                subst hv
                subst hS2
                refine z_aast (t0 := 3) X rfl (by decide) (by decide) (by decide) rfl (by omega) (by decide) (kd_G (by omega)) rfl rfl dB_topic_82 ?_
                refine z_iinc (j := 0) (v := (nI (j + 1))) (L' := [(6, .int (nI (j + 1))), (0, .ref 1), (1, .int (nI t)), (2, .int (nI n)), (3, .int (nI z)), (4, .int (nI k)), (5, .int (zB c0))]) X dB_topic_83 rfl (nI_1 j) (by decide) rfl ?_
                refine z_goto (tgt := 54) X dB_topic_86 (by decide) ?_
                obtain ⟨hB2, hf2⟩ := zBrA_tp hB1 (fun v hv => zLogW_T hW hz1 hz2 hk1 hk2 v hv h0) (by omega) (by omega) hz0 rfl
                exact ih (j + 1) _ _ _ (by omega) (by omega) (by omega) (by omega) hB2 (hfr.tr hf2) (rd_ip (rd_i (Or.inl (by omega)) (rd_i (Or.inl (by omega)) (rd_i (Or.inl (by omega)) (rd_ip hp2)))))
            refine z_loc [0, 1, 2, 3, 4, 5, 6] rfl ?_
            exact loop (n + 1) 0 _ _ _ (by omega) (by omega) (by omega) (by omega) (by
              rw [bT_0 h0, zsi_zsi, zsi_same (by rw [hpt t (by omega), h0])]; exact hB) (zfr.ownB (zfr.i (own := fun n => n = 2) rfl) (fun n h => by omega)) rd_s
          · exact z_thISE (text := "the topic is there") X hl0 (by decide +kernel) dB_topic_34 dB_topic_37 dB_topic_38 dB_topic_40 dB_topic_43 hex (Nat.le_of_ble_eq_true rfl) (Nat.le_of_ble_eq_true rfl) (Nat.le_of_ble_eq_true rfl) (Nat.le_of_ble_eq_true rfl) hlocks (by omega) (by omega) ⟨rfl, Or.inr (⟨rfl, by unfold sTopic; rw [zR_s ht1 ht2 (by decide), zR_s hn1 hn2 (by decide), zR_s hz1 hz2 (by decide), zR_s hk1 hk2 (by decide), if_pos (show ¬ b.1 t = 0 from fun h => c_31 (by rw [h]; decide))]⟩)⟩
        · obtain ⟨hX, hS9, hn9⟩ := hx
          subst hX
          have hS9 := hS9.symm
          subst hS9
          exact z_out (fun x hx9 => (hex x hx9).elim) hlocks ⟨rfl, Or.inl ⟨rfl, by unfold sTopic; rw [zR_s ht1 ht2 (by decide), zR_s hn1 hn2 (by decide), zR_s hz1 hz2 (by decide), zR_n hn9]⟩⟩ (by omega) (by omega)
      · obtain ⟨hX, hS9, hn9⟩ := hx
        subst hX
        have hS9 := hS9.symm
        subst hS9
        exact z_out (fun x hx9 => (hex x hx9).elim) hlocks ⟨rfl, Or.inl ⟨rfl, by unfold sTopic; rw [zR_s ht1 ht2 (by decide), zR_s hn1 hn2 (by decide), zR_n hn9]⟩⟩ (by omega) (by omega)
    · obtain ⟨hX, hS9, hn9⟩ := hx
      subst hX
      have hS9 := hS9.symm
      subst hS9
      exact z_out (fun x hx9 => (hex x hx9).elim) hlocks ⟨rfl, Or.inl ⟨rfl, by unfold sTopic; rw [zR_s ht1 ht2 (by decide), zR_n hn9]⟩⟩ (by omega) (by omega)
  · obtain ⟨hX, hS9, hn9⟩ := hx
    subst hX
    have hS9 := hS9.symm
    subst hS9
    exact z_out (fun x hx9 => (hex x hx9).elim) hlocks ⟨rfl, Or.inl ⟨rfl, by unfold sTopic; rw [zR_n hn9]⟩⟩ (by omega) (by omega)
