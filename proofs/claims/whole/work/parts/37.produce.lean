/-! CONTRACTS of LogBroker: producing (rows by program) -/
set_option maxHeartbeats 600000 in
set_option maxRecDepth 100000 in
theorem mB_produce (l : Launch) (D : va_G) (dA : Nat → ClassId) {S : zS} {b : zBr} {x y n0 k v0 : Int32} (hl0 : l.stackTraces = false) (hB : zBrA S b) (hW : zBrW b) : zMet l D vwCl zKK dA (zG0 D dA) yB_produce (Cond.code yB_produce cB_produce 11 (some .int) :: zTs) { frames := 7, cells := 12, slots := 70, locals := 104 } 12 70 [.ref 1, .int x, .int y, .int n0, .int k, .int v0] S (fun v S' => ∃ r b', v = some (.int r) ∧ sProduce b x y n0 k v0 = ((0, r), b') ∧ zBrA S' b' ∧ zfr zOwnB S S') (fun E S' => S' = S ∧ ((E = "java/lang/IllegalArgumentException" ∧ sProduce b x y n0 k v0 = ((1, 0), b)) ∨ (E = "java/util/NoSuchElementException" ∧ sProduce b x y n0 k v0 = ((2, 0), b)) ∨ (E = "java/lang/IllegalStateException" ∧ sProduce b x y n0 k v0 = ((3, 0), b)) ∨ (E = "java/lang/UnsupportedOperationException" ∧ sProduce b x y n0 k v0 = ((4, 0), b)))) := by
  refine z_met (tys := ztys dA) (by decide) rfl zG0_K rfl (Nat.le_of_ble_eq_true rfl) (fun p e s m args below meth c A ad X hr hlocks hin hex => ?_)
  obtain ⟨hT, hLg, hSs, hGs, hnx, hnf⟩ := id hB
  obtain ⟨v1, v2, v3, v4, v5, v6, v7⟩ := id hW
  obtain ⟨hn, t0, t1, t2, t3, t4, t5, q6, q7, q8, q9, q10, hpt, hlg, hse, hcu, hop, hgr⟩ := id hT
  refine z_iload_n (j := 1) X dB_produce_0 rfl rfl ?_
  refine z_iconst (v := (nI 0)) X dB_produce_1 (by decide) ?_
  refine z_iconst (v := (nI 5)) X dB_produce_2 (by decide) ?_
  refine z_callS (n := 3) (As := [.int x, .int (nI 0), .int (nI 5)]) (rest := []) X zG0_m (mB_mustBeWithin l D dA hl0) (w_S X.2.2.2.2.1 lB_45 tB_mustBeWithin i_LogBroker kB_mustBeWithin rfl rfl (by decide +kernel) ⟨Nat.le_of_ble_eq_true rfl, Nat.le_of_ble_eq_true rfl⟩) rfl rfl (Nat.le_of_ble_eq_true rfl) dB_produce_3 ⟨Nat.le_of_ble_eq_true rfl, Nat.le_of_ble_eq_true rfl⟩ (fun v S9 hp => ?_) (fun E S1 hx => ?_)
  · obtain ⟨hv, hS9, hr1, hr2⟩ := hp
    subst hv
    have hS9 := hS9.symm
    subst hS9
    obtain ⟨i, hx9, hi⟩ := zRg (n := 5) (by omega) hr1 hr2
    subst hx9
    refine z_aload_n (j := 0) X dB_produce_6 rfl rfl ?_
    refine z_iload_n (j := 2) X dB_produce_7 rfl rfl ?_
    refine z_callV (n := 1) (As := [.int y]) (rest := []) X zG0_m (mB_logAt l D dA (x := y) hl0 hT) (w_V X.2.2.2.2.1 lB_80 jB_logAt sB_logAt i_LogBroker kB_logAt rfl rfl (by decide +kernel) ⟨Nat.le_of_ble_eq_true rfl, Nat.le_of_ble_eq_true rfl⟩) rfl rfl rfl rfl rfl (Nat.le_of_ble_eq_true rfl) dB_produce_8 ⟨Nat.le_of_ble_eq_true rfl, Nat.le_of_ble_eq_true rfl⟩ (fun v S9 hp => ?_) (fun E S1 hx => ?_)
    · obtain ⟨hS9, t, ht, hx9, hv⟩ := hp
      subst hv
      have hS9 := hS9.symm
      subst hS9
      subst hx9
      obtain ⟨g, hg0⟩ : ∃ g, g = b.2.1 t := ⟨_, rfl⟩
      have hO : zLogA S t g := by rw [hg0]; exact hLg t ht
      have hWg : zLogW g := by rw [hg0]; exact v2 t ht
      have hV : ∀ o e, g.2.2 o = some e → zEW e := by rw [hg0]; exact v3 t ht
      obtain ⟨gd1, gd2, f0, f1, f2, f3, f4, f5, f6, f7, f8, hent, hee⟩ := id hO
      obtain ⟨w1, w2, w3, w4, w5, w6, w7, w8, w9⟩ := id hWg
      have wb := zBa_le g
      have wp : zPr g ≤ 60 := zcnt_le
      have ht12 := ht.1
      refine z_astore (L' := [(6, .ref (60 + t)), (0, .ref 1), (1, .int (nI i)), (2, .int (nI t)), (3, .int n0), (4, .int k), (5, .int v0)]) X dB_produce_11 (by decide) rfl ?_
      refine z_iload (j := 5) X dB_produce_13 rfl ?_
      refine z_iconst (v := (-1)) X dB_produce_15 (by decide) ?_
      refine z_bipush (v := (nI 7)) X dB_produce_16 (by decide) ?_
      refine z_callS (n := 3) (As := [.int k, .int (-1), .int (nI 7)]) (rest := []) X zG0_m (mB_mustBeWithin l D dA hl0) (w_S X.2.2.2.2.1 lB_45 tB_mustBeWithin i_LogBroker kB_mustBeWithin rfl rfl (by decide +kernel) ⟨Nat.le_of_ble_eq_true rfl, Nat.le_of_ble_eq_true rfl⟩) rfl rfl (Nat.le_of_ble_eq_true rfl) dB_produce_18 ⟨Nat.le_of_ble_eq_true rfl, Nat.le_of_ble_eq_true rfl⟩ (fun v S9 hp => ?_) (fun E S1 hx => ?_)
      · obtain ⟨hv, hS9, hr1, hr2⟩ := hp
        subst hv
        have hS9 := hS9.symm
        subst hS9
        have hkey := zKey hr1 hr2
        refine z_iload_n (j := 4) X dB_produce_21 rfl rfl ?_
        refine z_if_ge (tgt := 35) X dB_produce_22 (by decide) (fun c_22 => ?_) (fun c_22 => ?_)
        · obtain ⟨n9, hn2, hn3⟩ := nI_of (Int32.not_lt.mpr c_22)
          subst hn3
          have hkn : ¬ ((k < -1 ∨ nI 7 < k) ∨ nI n9 < 0) := fun h => h.elim (fun h => h.elim hr1 hr2) (nI_pos hn2)
          refine z_aload_n (j := 1) X dB_produce_35 rfl rfl ?_
          refine z_iload_n (j := 2) X dB_produce_36 rfl rfl ?_
          refine z_callV (n := 1) (As := [.int (nI i)]) (rest := []) X zG0_m (mB_openedSession l D dA hl0 hT (by omega) (hSs i (by omega))) (w_V X.2.2.2.2.1 lB_89 jB_openedSession sB_openedSession i_LogBroker kB_openedSession rfl rfl (by decide +kernel) ⟨Nat.le_of_ble_eq_true rfl, Nat.le_of_ble_eq_true rfl⟩) rfl rfl rfl rfl rfl (Nat.le_of_ble_eq_true rfl) dB_produce_37 ⟨Nat.le_of_ble_eq_true rfl, Nat.le_of_ble_eq_true rfl⟩ (fun v S9 hp => ?_) (fun E S1 hx => ?_)
          · obtain ⟨hS9, hv, hpr1⟩ := hp
            subst hv
            have hS9 := hS9.symm
            subst hS9
            have hpr2 := (v4 i (by omega)).1.resolve_left hpr1
            refine z_astore (L' := [(7, .ref (10 + i)), (6, .ref (60 + t)), (0, .ref 1), (1, .int (nI i)), (2, .int (nI t)), (3, .int (nI n9)), (4, .int k), (5, .int v0)]) X dB_produce_40 (by decide) rfl ?_
            refine z_aload (j := 0) X dB_produce_42 rfl ?_
            refine z_iload_n (j := 4) X dB_produce_44 rfl rfl ?_
            refine z_iload_n (j := 5) X dB_produce_45 rfl rfl ?_
            refine z_callV (n := 2) (As := [.int (nI t), .int (nI n9)]) (rest := []) X zG0_m (mS_remembers l D dA (by omega) (hSs i (by omega)) ht12 hn2 (Nat.lt_of_le_of_lt (Nat.le_trans (v5 i t (by omega) ht12).1 (v5 i t (by omega) ht12).2) (by decide))) (w_V X.2.2.2.2.1 lB_93 jS_remembers sS_remembers i_LogBroker_Session kS_remembers rfl rfl (by decide +kernel) ⟨Nat.le_of_ble_eq_true rfl, Nat.le_of_ble_eq_true rfl⟩) (kd_S (by omega)) rfl rfl rfl rfl (Nat.le_of_ble_eq_true rfl) dB_produce_46 ⟨Nat.le_of_ble_eq_true rfl, Nat.le_of_ble_eq_true rfl⟩ (fun v S9 hp => ?_) (fun E S1 hx => hx.elim)
            obtain ⟨hv, hS9⟩ := hp
            subst hv
            have hS9 := hS9.symm
            subst hS9
            by_cases hrem : n9 < (b.2.2.1 i).2.2.1 t ∧ (b.2.2.1 i).2.2.1 t ≤ n9 + 3
            · refine z_top (if_pos hrem) ?_
              refine z_istore (L' := [(8, .int (nI 1)), (7, .ref (10 + i)), (6, .ref (60 + t)), (0, .ref 1), (1, .int (nI i)), (2, .int (nI t)), (3, .int (nI n9)), (4, .int k), (5, .int v0)]) X dB_produce_49 (by decide) rfl ?_
              refine z_iload (j := 0) X dB_produce_51 rfl ?_
              refine z_if_ne (tgt := 76) X dB_produce_53 (by decide) (fun c_53 => ?_) (fun c_53 => absurd c_53 (by decide))
              refine z_aload_n (j := 3) X dB_produce_76 rfl rfl ?_
              refine z_iload_n (j := 4) X dB_produce_77 rfl rfl ?_
              refine z_callV (n := 1) (As := [.int (nI i)]) (rest := []) X zG0_m (mB_mustBeCurrent l D dA hl0 hT (by omega) (hSs i (by omega)) (v4 i (by omega)).1) (w_V X.2.2.2.2.1 lB_102 jB_mustBeCurrent sB_mustBeCurrent i_LogBroker kB_mustBeCurrent rfl rfl (by decide +kernel) ⟨Nat.le_of_ble_eq_true rfl, Nat.le_of_ble_eq_true rfl⟩) rfl rfl rfl rfl rfl (Nat.le_of_ble_eq_true rfl) dB_produce_78 ⟨Nat.le_of_ble_eq_true rfl, Nat.le_of_ble_eq_true rfl⟩ (fun v S9 hp => ?_) (fun E S1 hx => ?_)
              · obtain ⟨hS9, hv, hcur⟩ := hp
                subst hv
                have hS9 := hS9.symm
                subst hS9
                have hcur := (zCur_iff hpr2).mpr hcur
                refine z_iload (j := 0) X dB_produce_81 rfl ?_
                refine z_if_eq (tgt := 104) X dB_produce_83 (by decide) (fun c_83 => absurd c_83 (by decide)) (fun c_83 => ?_)
                refine z_aload_n (j := 3) X dB_produce_86 rfl rfl ?_
                refine z_dup X dB_produce_87 rfl ?_
                refine z_geti (C := RB) (T := TB) (N := 11) (k := 7) X (w_in inB) rfl rfl rfl (by decide) (w_m lB_105) rfl rfl dB_produce_88 (hv := q7) ?_
                refine z_iconst (v := (nI 1)) X dB_produce_91 (by decide) ?_
                refine z_iadd X dB_produce_92 ?_
                refine z_puti (C := RB) (T := TB) (N := 11) (k := 7) X (w_in inB) rfl rfl rfl (by decide) (w_m lB_105) rfl tyB tyB_ok nmB rfl rfl (ty := .int) (by decide +kernel) rfl rfl dB_produce_93 ?_
                refine z_aload (j := 1) X dB_produce_96 rfl ?_
                refine z_iload_n (j := 5) X dB_produce_98 rfl rfl ?_
                refine z_iload_n (j := 6) X dB_produce_99 rfl rfl ?_
                refine z_callV (n := 2) (As := [.int (nI t), .int (nI n9)]) (rest := []) X zG0_m (mS_offsetRemembered l D dA (by omega) (zSsA_fr (hSs i (by omega)) (fun n h => zAg_i (fun e => by unfold zOwnS at h; omega))) ht12 hn2 (Nat.lt_of_le_of_lt (Nat.le_trans (v5 i t (by omega) ht12).1 (v5 i t (by omega) ht12).2) (by decide))) (w_V X.2.2.2.2.1 lB_108 jS_offsetRemembered sS_offsetRemembered i_LogBroker_Session kS_offsetRemembered rfl rfl (by decide +kernel) ⟨Nat.le_of_ble_eq_true rfl, Nat.le_of_ble_eq_true rfl⟩) (kd_S (by omega)) rfl rfl rfl rfl (Nat.le_of_ble_eq_true rfl) dB_produce_100 ⟨Nat.le_of_ble_eq_true rfl, Nat.le_of_ble_eq_true rfl⟩ (fun v S9 hp => ?_) (fun E S1 hx => hx.elim)
                obtain ⟨hv, hS9⟩ := hp
                subst hv
                have hS9 := hS9.symm
                subst hS9
                refine z_iret X hlocks hr dB_produce_103 (by omega) (by omega) ?_
                have hfx : zfr (fun n => 1 ≤ n ∧ n < 8) S (zsi S 1 7 (b.2.2.2.2.2.2.2.1 + nI 1)) := zfr.i (by decide)
                exact ⟨_, _, rfl, by unfold sProduce; rw [zA_s hi (by decide), zT_s ht, if_neg (show ¬ ((k < -1 ∨ nI 7 < k) ∨ nI n9 < 0) from hkn), if_neg hpr1, nI_clamp hn2, if_pos hrem, if_neg (fun h => h hcur)]; rfl, zBrA_t hB hW hfx (zTop_7 hT) rfl rfl rfl rfl, hfx.ownB (fun n h => by omega)⟩
              · obtain ⟨hE, hS9, hcur⟩ := hx
                subst hE
                have hS9 := hS9.symm
                subst hS9
                have hcur := fun h => hcur ((zCur_iff hpr2).mp h)
                exact z_out (fun x hx9 => (hex x hx9).elim) hlocks ⟨rfl, Or.inr (Or.inr (Or.inr (⟨rfl, by unfold sProduce; rw [zA_s hi (by decide), zT_s ht, if_neg (show ¬ ((k < -1 ∨ nI 7 < k) ∨ nI n9 < 0) from hkn), if_neg hpr1, nI_clamp hn2, if_pos hrem, if_pos (show ¬ b.2.2.2.1 (b.2.2.1 i).1.toNatClampNeg = nI i from hcur)]⟩)))⟩ (by omega) (by omega)
            · refine z_top (if_neg hrem) ?_
              refine z_istore (L' := [(8, .int (nI 0)), (7, .ref (10 + i)), (6, .ref (60 + t)), (0, .ref 1), (1, .int (nI i)), (2, .int (nI t)), (3, .int (nI n9)), (4, .int k), (5, .int v0)]) X dB_produce_49 (by decide) rfl ?_
              refine z_iload (j := 0) X dB_produce_51 rfl ?_
              refine z_if_ne (tgt := 76) X dB_produce_53 (by decide) (fun c_53 => absurd c_53 (by decide)) (fun c_53 => ?_)
              refine z_aload (j := 1) X dB_produce_56 rfl ?_
              refine z_iload_n (j := 5) X dB_produce_58 rfl rfl ?_
              refine z_iload_n (j := 6) X dB_produce_59 rfl rfl ?_
              refine z_callV (n := 2) (As := [.int (nI t), .int (nI n9)]) (rest := []) X zG0_m (mS_expects l D dA (by omega) (hSs i (by omega)) ht12 hn2 (Nat.lt_of_le_of_lt (Nat.le_trans (v5 i t (by omega) ht12).1 (v5 i t (by omega) ht12).2) (by decide))) (w_V X.2.2.2.2.1 lB_97 jS_expects sS_expects i_LogBroker_Session kS_expects rfl rfl (by decide +kernel) ⟨Nat.le_of_ble_eq_true rfl, Nat.le_of_ble_eq_true rfl⟩) (kd_S (by omega)) rfl rfl rfl rfl (Nat.le_of_ble_eq_true rfl) dB_produce_60 ⟨Nat.le_of_ble_eq_true rfl, Nat.le_of_ble_eq_true rfl⟩ (fun v S9 hp => ?_) (fun E S1 hx => hx.elim)
              obtain ⟨hv, hS9⟩ := hp
              subst hv
              have hS9 := hS9.symm
              subst hS9
              by_cases hexp : n9 = (b.2.2.1 i).2.2.1 t
              · refine z_top (if_pos hexp) ?_
                refine z_if_ne (tgt := 76) X dB_produce_63 (by decide) (fun c_63 => ?_) (fun c_63 => absurd c_63 (by decide))
                refine z_aload_n (j := 3) X dB_produce_76 rfl rfl ?_
                refine z_iload_n (j := 4) X dB_produce_77 rfl rfl ?_
                refine z_callV (n := 1) (As := [.int (nI i)]) (rest := []) X zG0_m (mB_mustBeCurrent l D dA hl0 hT (by omega) (hSs i (by omega)) (v4 i (by omega)).1) (w_V X.2.2.2.2.1 lB_102 jB_mustBeCurrent sB_mustBeCurrent i_LogBroker kB_mustBeCurrent rfl rfl (by decide +kernel) ⟨Nat.le_of_ble_eq_true rfl, Nat.le_of_ble_eq_true rfl⟩) rfl rfl rfl rfl rfl (Nat.le_of_ble_eq_true rfl) dB_produce_78 ⟨Nat.le_of_ble_eq_true rfl, Nat.le_of_ble_eq_true rfl⟩ (fun v S9 hp => ?_) (fun E S1 hx => ?_)
                · obtain ⟨hS9, hv, hcur⟩ := hp
                  subst hv
                  have hS9 := hS9.symm
                  subst hS9
                  have hcur := (zCur_iff hpr2).mpr hcur
                  refine z_iload (j := 0) X dB_produce_81 rfl ?_
                  refine z_if_eq (tgt := 104) X dB_produce_83 (by decide) (fun c_83 => ?_) (fun c_83 => absurd c_83 (by decide))
                  refine z_aload (j := 2) X dB_produce_104 rfl ?_
                  refine z_callV (n := 0) (As := []) (rest := []) X zG0_m (mG_isFull l D dA ht12 hO hWg) (w_V X.2.2.2.2.1 lB_112 jG_isFull sG_isFull i_LogBroker_Log kG_isFull rfl rfl (by decide +kernel) ⟨Nat.le_of_ble_eq_true rfl, Nat.le_of_ble_eq_true rfl⟩) (kd_G ht12) rfl rfl rfl rfl (Nat.le_of_ble_eq_true rfl) dB_produce_106 ⟨Nat.le_of_ble_eq_true rfl, Nat.le_of_ble_eq_true rfl⟩ (fun v S9 hp => ?_) (fun E S1 hx => hx.elim)
                  obtain ⟨hv, hS9⟩ := hp
                  subst hv
                  have hS9 := hS9.symm
                  subst hS9
                  by_cases hfu : 60 ≤ g.2.1.2
                  · refine z_top (if_pos hfu) ?_
                    have hen : ¬ (b.2.1 t).2.1.2 < 60 := by rw [← hg0]; omega
                    refine z_if_eq (tgt := 122) X dB_produce_109 (by decide) (fun c_109 => absurd c_109 (by decide)) (fun c_109 => ?_)
                    exact z_thUOE (text := "no room in the log") X hl0 (by decide +kernel) dB_produce_112 dB_produce_115 dB_produce_116 dB_produce_118 dB_produce_121 hex (Nat.le_of_ble_eq_true rfl) (Nat.le_of_ble_eq_true rfl) (Nat.le_of_ble_eq_true rfl) (Nat.le_of_ble_eq_true rfl) hlocks (by omega) (by omega) ⟨rfl, Or.inr (Or.inr (Or.inr (⟨rfl, by unfold sProduce; rw [zA_s hi (by decide), zT_s ht, if_neg (show ¬ ((k < -1 ∨ nI 7 < k) ∨ nI n9 < 0) from hkn), if_neg hpr1, nI_clamp hn2, if_neg hrem, if_neg (fun h => h hexp), if_pos (Or.inr hen)]⟩)))⟩
                  · refine z_top (if_neg hfu) ?_
                    have hen : (b.2.1 t).2.1.2 < 60 := by rw [← hg0]; omega
                    subst hg0
                    refine z_if_eq (tgt := 122) X dB_produce_109 (by decide) (fun c_109 => ?_) (fun c_109 => absurd c_109 (by decide))
                    refine z_aload (j := 1) X dB_produce_122 rfl ?_
                    refine z_geti (C := RS) (T := TS) (N := 4) (k := 1) X (w_in inS) rfl rfl (kd_S (by omega)) (by decide) (w_m lB_59) rfl rfl dB_produce_124 (hv := (hSs i (by omega)).2.2.2.2.1) ?_
                    refine z_if_eq (tgt := 134) X dB_produce_127 (by decide) (fun c_127 => ?_) (fun c_127 => ?_)
                    · refine z_iconst (v := (nI 0)) X dB_produce_134 (by decide) ?_
                      refine z_istore (L' := [(9, .int (nI 0)), (8, .int (nI 0)), (7, .ref (10 + i)), (6, .ref (60 + t)), (0, .ref 1), (1, .int (nI i)), (2, .int (nI t)), (3, .int (nI n9)), (4, .int k), (5, .int v0)]) X dB_produce_135 (by decide) rfl ?_
                      refine z_aload_n (j := 4) X dB_produce_137 rfl rfl ?_
                      refine z_aload (j := 3) X dB_produce_138 rfl ?_
                      refine z_new (C := RE) (T := TE) (N := 5) (ci := 0) (n := (200 + 60 * t + (b.2.1 t).2.1.2)) X (w_in inE) rfl rfl (kd_E ht12 (by omega)) (hnf t ht (b.2.1 t).2.1.2 hen (Nat.le_refl _)) (by omega) tyE tyE_ok (by decide +kernel) (w_m lB_121) (w_m n_LogBroker_Entry) (w_m i_LogBroker_Entry) (Nat.le_of_ble_eq_true rfl) (Nat.le_of_ble_eq_true rfl) dB_produce_140 ?_
                      refine z_dup X dB_produce_143 rfl ?_
                      refine z_iconst (v := (nI 0)) X dB_produce_144 (by decide) ?_
                      refine z_iload (j := 8) X dB_produce_145 rfl ?_
                      refine z_iload (j := 9) X dB_produce_147 rfl ?_
                      refine z_aload (j := 2) X dB_produce_149 rfl ?_
                      refine z_geti (C := RS) (T := TS) (N := 4) (k := 0) X (w_in inS) rfl rfl (kd_S (by omega)) (by decide) (w_m lB_63) rfl rfl dB_produce_151 (hv := (hSs i (by omega)).2.2.2.1) ?_
                      refine z_iload (j := 0) X dB_produce_154 rfl ?_
                      refine z_callI (n := 5) (As := [.int (nI 0), .int k, .int v0, .int ((b.2.2.1 i).1), .int (nI 0)]) (rest := [.ref (200 + 60 * t + (b.2.1 t).2.1.2), .ref (60 + t), .ref 1]) X zG0_m (fun _ _ h => h) (mE_init l D dA (kd_E ht12 (by omega))) (w_I X.2.2.2.2.1 lB_123 jE_init i_LogBroker_Entry kE_init rfl rfl rfl (by decide +kernel) ⟨Nat.le_of_ble_eq_true rfl, Nat.le_of_ble_eq_true rfl⟩) rfl rfl (Nat.le_of_ble_eq_true rfl) dB_produce_156 ⟨Nat.le_of_ble_eq_true rfl, Nat.le_of_ble_eq_true rfl⟩ (fun v S0 hp => ?_)
                      obtain ⟨hv, hS0⟩ := hp
                      subst hv
                      obtain ⟨hE0, hf0, hd0⟩ := zNewE (S := S) (n := (200 + 60 * t + (b.2.1 t).2.1.2)) (a0 := nI 0) (a1 := k) (a2 := v0) (a3 := (b.2.2.1 i).1) (a4 := nI 0)
                      rw [← hS0] at hE0 hf0 hd0
                      clear hS0
                      have hpe : (nI 0, k, v0, (b.2.2.1 i).1, nI 0) = zPe (b.2.2.1 i) k v0 := by unfold zPe; rw [if_pos (show (b.2.2.1 i).2.1 = nI 0 from c_127)]
                      rw [hpe] at hE0
                      have hT0 : zTop S0 b := zTop_fr hT (fun n h1 h2 => hf0.ag (by omega))
                      have hO0 : zLogA S0 t (b.2.1 t) := zLogA_nw (hLg t ht) (v2 t ht) ht12 hf0
                      refine z_callV (n := 2) (As := [.ref (60 + t), .ref (200 + 60 * t + (b.2.1 t).2.1.2)]) (rest := []) X zG0_m (mB_write l D dA (b := b) (t := t) (g := b.2.1 t) hT0 ht12 hO0 (v2 t ht) hen hE0) (w_V X.2.2.2.2.1 lB_126 jB_write sB_write i_LogBroker kB_write rfl rfl (by decide +kernel) ⟨Nat.le_of_ble_eq_true rfl, Nat.le_of_ble_eq_true rfl⟩) rfl rfl rfl rfl rfl (Nat.le_of_ble_eq_true rfl) dB_produce_159 ⟨Nat.le_of_ble_eq_true rfl, Nat.le_of_ble_eq_true rfl⟩ (fun v S3 hp => ?_) (fun E S1 hx => hx.elim)
                      obtain ⟨hv, hT3, hA3, hW3, hf3, hd3⟩ := hp
                      subst hv
                      obtain ⟨hB3, hfx3⟩ := zBrA_wr (e := zPe (b.2.2.1 i) k v0) (t := t) hB hW ht hf0 hd0 hen hT3 hA3 hf3 hd3
                      have hW3 := zBrW_wr hW ht hen (zEW_pe (v := v0) hpr2 hkey)
                      refine z_istore (L' := [(10, .int (nI (b.2.1 t).2.1.2)), (9, .int (nI 0)), (8, .int (nI 0)), (7, .ref (10 + i)), (6, .ref (60 + t)), (0, .ref 1), (1, .int (nI i)), (2, .int (nI t)), (3, .int (nI n9)), (4, .int k), (5, .int v0)]) X dB_produce_162 (by decide) rfl ?_
                      refine z_aload (j := 3) X dB_produce_164 rfl ?_
                      refine z_iload_n (j := 7) X dB_produce_166 rfl rfl ?_
                      refine z_iload (j := 0) X dB_produce_167 rfl ?_
                      refine z_callV (n := 2) (As := [.int (nI t), .int (nI (b.2.1 t).2.1.2)]) (rest := []) X zG0_m (mS_remember l D dA (by omega) (hB3.2.2.1 i (by omega)) ht12 (Nat.lt_of_le_of_lt (Nat.le_trans (v5 i t (by omega) ht12).1 (v5 i t (by omega) ht12).2) (by decide))) (w_V X.2.2.2.2.1 lB_130 jS_remember sS_remember i_LogBroker_Session kS_remember rfl rfl (by decide +kernel) ⟨Nat.le_of_ble_eq_true rfl, Nat.le_of_ble_eq_true rfl⟩) (kd_S (by omega)) rfl rfl rfl rfl (Nat.le_of_ble_eq_true rfl) dB_produce_169 ⟨Nat.le_of_ble_eq_true rfl, Nat.le_of_ble_eq_true rfl⟩ (fun v S4 hp => ?_) (fun E S1 hx => hx.elim)
                      obtain ⟨hv, hA4, hf4, hd4⟩ := hp
                      subst hv
                      have hB4 := zBrA_S hB3 hW3 (by omega) hA4 hf4
                      have hfr4 := (hfx3.ownB (fun n h => by unfold zOwnG at h; omega)).tr (hf4.ownB (fun n h => by unfold zOwnS at h; omega))
                      refine z_iload (j := 0) X dB_produce_172 rfl ?_
                      refine z_iret X hlocks hr dB_produce_174 (by omega) (by omega) ?_
                      refine ⟨_, _, rfl, by unfold sProduce; rw [zA_s hi (by decide), zT_s ht, if_neg (show ¬ ((k < -1 ∨ nI 7 < k) ∨ nI n9 < 0) from hkn), if_neg hpr1, nI_clamp hn2, if_neg hrem, if_neg (fun h => h hexp), if_neg (fun h => h.elim (fun h => h hcur) (fun h => h hen))]; rfl, hB4, hfr4⟩
                    · refine z_iconst (v := (nI 2)) X dB_produce_130 (by decide) ?_
                      refine z_goto (tgt := 135) X dB_produce_131 (by decide) ?_
                      refine z_istore (L' := [(9, .int (nI 2)), (8, .int (nI 0)), (7, .ref (10 + i)), (6, .ref (60 + t)), (0, .ref 1), (1, .int (nI i)), (2, .int (nI t)), (3, .int (nI n9)), (4, .int k), (5, .int v0)]) X dB_produce_135 (by decide) rfl ?_
                      refine z_aload_n (j := 4) X dB_produce_137 rfl rfl ?_
                      refine z_aload (j := 3) X dB_produce_138 rfl ?_
                      refine z_new (C := RE) (T := TE) (N := 5) (ci := 0) (n := (200 + 60 * t + (b.2.1 t).2.1.2)) X (w_in inE) rfl rfl (kd_E ht12 (by omega)) (hnf t ht (b.2.1 t).2.1.2 hen (Nat.le_refl _)) (by omega) tyE tyE_ok (by decide +kernel) (w_m lB_121) (w_m n_LogBroker_Entry) (w_m i_LogBroker_Entry) (Nat.le_of_ble_eq_true rfl) (Nat.le_of_ble_eq_true rfl) dB_produce_140 ?_
                      refine z_dup X dB_produce_143 rfl ?_
                      refine z_iconst (v := (nI 0)) X dB_produce_144 (by decide) ?_
                      refine z_iload (j := 8) X dB_produce_145 rfl ?_
                      refine z_iload (j := 9) X dB_produce_147 rfl ?_
                      refine z_aload (j := 2) X dB_produce_149 rfl ?_
                      refine z_geti (C := RS) (T := TS) (N := 4) (k := 0) X (w_in inS) rfl rfl (kd_S (by omega)) (by decide) (w_m lB_63) rfl rfl dB_produce_151 (hv := (hSs i (by omega)).2.2.2.1) ?_
                      refine z_iload (j := 0) X dB_produce_154 rfl ?_
                      refine z_callI (n := 5) (As := [.int (nI 0), .int k, .int v0, .int ((b.2.2.1 i).1), .int (nI 2)]) (rest := [.ref (200 + 60 * t + (b.2.1 t).2.1.2), .ref (60 + t), .ref 1]) X zG0_m (fun _ _ h => h) (mE_init l D dA (kd_E ht12 (by omega))) (w_I X.2.2.2.2.1 lB_123 jE_init i_LogBroker_Entry kE_init rfl rfl rfl (by decide +kernel) ⟨Nat.le_of_ble_eq_true rfl, Nat.le_of_ble_eq_true rfl⟩) rfl rfl (Nat.le_of_ble_eq_true rfl) dB_produce_156 ⟨Nat.le_of_ble_eq_true rfl, Nat.le_of_ble_eq_true rfl⟩ (fun v S0 hp => ?_)
                      obtain ⟨hv, hS0⟩ := hp
                      subst hv
                      obtain ⟨hE0, hf0, hd0⟩ := zNewE (S := S) (n := (200 + 60 * t + (b.2.1 t).2.1.2)) (a0 := nI 0) (a1 := k) (a2 := v0) (a3 := (b.2.2.1 i).1) (a4 := nI 2)
                      rw [← hS0] at hE0 hf0 hd0
                      clear hS0
                      have hpe : (nI 0, k, v0, (b.2.2.1 i).1, nI 2) = zPe (b.2.2.1 i) k v0 := by unfold zPe; rw [if_neg (show ¬ (b.2.2.1 i).2.1 = nI 0 from c_127)]
                      rw [hpe] at hE0
                      have hT0 : zTop S0 b := zTop_fr hT (fun n h1 h2 => hf0.ag (by omega))
                      have hO0 : zLogA S0 t (b.2.1 t) := zLogA_nw (hLg t ht) (v2 t ht) ht12 hf0
                      refine z_callV (n := 2) (As := [.ref (60 + t), .ref (200 + 60 * t + (b.2.1 t).2.1.2)]) (rest := []) X zG0_m (mB_write l D dA (b := b) (t := t) (g := b.2.1 t) hT0 ht12 hO0 (v2 t ht) hen hE0) (w_V X.2.2.2.2.1 lB_126 jB_write sB_write i_LogBroker kB_write rfl rfl (by decide +kernel) ⟨Nat.le_of_ble_eq_true rfl, Nat.le_of_ble_eq_true rfl⟩) rfl rfl rfl rfl rfl (Nat.le_of_ble_eq_true rfl) dB_produce_159 ⟨Nat.le_of_ble_eq_true rfl, Nat.le_of_ble_eq_true rfl⟩ (fun v S3 hp => ?_) (fun E S1 hx => hx.elim)
                      obtain ⟨hv, hT3, hA3, hW3, hf3, hd3⟩ := hp
                      subst hv
                      obtain ⟨hB3, hfx3⟩ := zBrA_wr (e := zPe (b.2.2.1 i) k v0) (t := t) hB hW ht hf0 hd0 hen hT3 hA3 hf3 hd3
                      have hW3 := zBrW_wr hW ht hen (zEW_pe (v := v0) hpr2 hkey)
                      refine z_istore (L' := [(10, .int (nI (b.2.1 t).2.1.2)), (9, .int (nI 2)), (8, .int (nI 0)), (7, .ref (10 + i)), (6, .ref (60 + t)), (0, .ref 1), (1, .int (nI i)), (2, .int (nI t)), (3, .int (nI n9)), (4, .int k), (5, .int v0)]) X dB_produce_162 (by decide) rfl ?_
                      refine z_aload (j := 3) X dB_produce_164 rfl ?_
                      refine z_iload_n (j := 7) X dB_produce_166 rfl rfl ?_
                      refine z_iload (j := 0) X dB_produce_167 rfl ?_
                      refine z_callV (n := 2) (As := [.int (nI t), .int (nI (b.2.1 t).2.1.2)]) (rest := []) X zG0_m (mS_remember l D dA (by omega) (hB3.2.2.1 i (by omega)) ht12 (Nat.lt_of_le_of_lt (Nat.le_trans (v5 i t (by omega) ht12).1 (v5 i t (by omega) ht12).2) (by decide))) (w_V X.2.2.2.2.1 lB_130 jS_remember sS_remember i_LogBroker_Session kS_remember rfl rfl (by decide +kernel) ⟨Nat.le_of_ble_eq_true rfl, Nat.le_of_ble_eq_true rfl⟩) (kd_S (by omega)) rfl rfl rfl rfl (Nat.le_of_ble_eq_true rfl) dB_produce_169 ⟨Nat.le_of_ble_eq_true rfl, Nat.le_of_ble_eq_true rfl⟩ (fun v S4 hp => ?_) (fun E S1 hx => hx.elim)
                      obtain ⟨hv, hA4, hf4, hd4⟩ := hp
                      subst hv
                      have hB4 := zBrA_S hB3 hW3 (by omega) hA4 hf4
                      have hfr4 := (hfx3.ownB (fun n h => by unfold zOwnG at h; omega)).tr (hf4.ownB (fun n h => by unfold zOwnS at h; omega))
                      refine z_iload (j := 0) X dB_produce_172 rfl ?_
                      refine z_iret X hlocks hr dB_produce_174 (by omega) (by omega) ?_
                      refine ⟨_, _, rfl, by unfold sProduce; rw [zA_s hi (by decide), zT_s ht, if_neg (show ¬ ((k < -1 ∨ nI 7 < k) ∨ nI n9 < 0) from hkn), if_neg hpr1, nI_clamp hn2, if_neg hrem, if_neg (fun h => h hexp), if_neg (fun h => h.elim (fun h => h hcur) (fun h => h hen))]; rfl, hB4, hfr4⟩
                · obtain ⟨hE, hS9, hcur⟩ := hx
                  subst hE
                  have hS9 := hS9.symm
                  subst hS9
                  have hcur := fun h => hcur ((zCur_iff hpr2).mp h)
                  exact z_out (fun x hx9 => (hex x hx9).elim) hlocks ⟨rfl, Or.inr (Or.inr (Or.inr (⟨rfl, by unfold sProduce; rw [zA_s hi (by decide), zT_s ht, if_neg (show ¬ ((k < -1 ∨ nI 7 < k) ∨ nI n9 < 0) from hkn), if_neg hpr1, nI_clamp hn2, if_neg hrem, if_neg (fun h => h hexp), if_pos (Or.inl (show ¬ b.2.2.2.1 (b.2.2.1 i).1.toNatClampNeg = nI i from hcur))]⟩)))⟩ (by omega) (by omega)
              · refine z_top (if_neg hexp) ?_
                refine z_if_ne (tgt := 76) X dB_produce_63 (by decide) (fun c_63 => absurd c_63 (by decide)) (fun c_63 => ?_)
                exact z_thISE (text := "the number is neither expected nor remembered") X hl0 (by decide +kernel) dB_produce_66 dB_produce_69 dB_produce_70 dB_produce_72 dB_produce_75 hex (Nat.le_of_ble_eq_true rfl) (Nat.le_of_ble_eq_true rfl) (Nat.le_of_ble_eq_true rfl) (Nat.le_of_ble_eq_true rfl) hlocks (by omega) (by omega) ⟨rfl, Or.inr (Or.inr (Or.inl ⟨rfl, by unfold sProduce; rw [zA_s hi (by decide), zT_s ht, if_neg (show ¬ ((k < -1 ∨ nI 7 < k) ∨ nI n9 < 0) from hkn), if_neg hpr1, nI_clamp hn2, if_neg hrem, if_pos hexp]⟩))⟩
          · obtain ⟨hE, hS9, hpr1⟩ := hx
            subst hE
            have hS9 := hS9.symm
            subst hS9
            exact z_out (fun x hx9 => (hex x hx9).elim) hlocks ⟨rfl, Or.inr (Or.inl ⟨rfl, by unfold sProduce; rw [zA_s hi (by decide), zT_s ht, if_neg (show ¬ ((k < -1 ∨ nI 7 < k) ∨ nI n9 < 0) from hkn), if_pos hpr1]⟩)⟩ (by omega) (by omega)
        · exact z_thIAE (text := "the number is below 0") X hl0 (by decide +kernel) dB_produce_25 dB_produce_28 dB_produce_29 dB_produce_31 dB_produce_34 hex (Nat.le_of_ble_eq_true rfl) (Nat.le_of_ble_eq_true rfl) (Nat.le_of_ble_eq_true rfl) (Nat.le_of_ble_eq_true rfl) hlocks (by omega) (by omega) ⟨rfl, Or.inl ⟨rfl, by unfold sProduce; rw [zA_s hi (by decide), zT_s ht, if_pos (Or.inr (Int32.not_le.mp c_22))]⟩⟩
      · obtain ⟨hX, hS9, hn9⟩ := hx
        subst hX
        have hS9 := hS9.symm
        subst hS9
        exact z_out (fun x hx9 => (hex x hx9).elim) hlocks ⟨rfl, Or.inl ⟨rfl, by unfold sProduce; rw [zA_s hi (by decide), zT_s ht, if_pos (Or.inl hn9)]⟩⟩ (by omega) (by omega)
    · obtain ⟨hE, hS9, hn9⟩ := hx
      subst hE
      have hS9 := hS9.symm
      subst hS9
      exact z_out (fun x hx9 => (hex x hx9).elim) hlocks ⟨rfl, Or.inl ⟨rfl, by unfold sProduce; rw [zA_s hi (by decide), zT_n hn9]⟩⟩ (by omega) (by omega)
  · obtain ⟨hE, hS9, hn9⟩ := hx
    subst hE
    have hS9 := hS9.symm
    subst hS9
    exact z_out (fun x hx9 => (hex x hx9).elim) hlocks ⟨rfl, Or.inl ⟨rfl, by unfold sProduce; rw [zA_n hn9]⟩⟩ (by omega) (by omega)
