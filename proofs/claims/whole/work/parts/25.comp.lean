/-! CONTRACTS of LogBroker$Log: compacting (rows by program) -/
set_option maxHeartbeats 600000 in
set_option maxRecDepth 100000 in
theorem mG_bitOfCommittedKey (l : Launch) (D : va_G) (dA : Nat → ClassId) {S : zS} {tp o : Nat} {r : zE} (htp : tp < 12) (ho : o < 60) (hr0 : zEat S (200 + 60 * tp + o) r) : zMet l D vwCl zKK dA (zG0 D dA) yG_bitOfCommittedKey (Cond.code yG_bitOfCommittedKey cG_bitOfCommittedKey 1 (some .int) :: zTs) { frames := 0, cells := 0, slots := 0, locals := 0 } 0 0 [.ref (200 + 60 * tp + o)] S (fun v S' => v = some (.int (zBit r)) ∧ S' = S) (fun _ _ => False) := by
  refine z_met (tys := ztys dA) (by decide) rfl zG0_K rfl (Nat.le_of_ble_eq_true rfl) (fun p e s m args below meth c A ad X hr hlocks hin hex => ?_)
  refine z_aload_n (j := 0) X dG_bitOfCommittedKey_0 rfl rfl ?_
  refine z_geti (C := RE) (T := TE) (N := 5) (k := 4) X (w_in inE) rfl rfl (kd_E htp ho) (by decide) (w_m lG_51) rfl rfl dG_bitOfCommittedKey_1 (hv := hr0.2.2.2.2.2) ?_
  refine z_if_ne (tgt := 24) X dG_bitOfCommittedKey_4 (by decide) (fun c_4 => ?_) (fun c_4 => ?_)
  · refine z_iconst (v := (nI 0)) X dG_bitOfCommittedKey_24 (by decide) ?_
    refine z_iret X hlocks hr dG_bitOfCommittedKey_25 (by omega) (by omega) ?_
    first | exact ⟨by unfold zBit; rw [if_neg (fun h => c_4 (h.1.trans nI_0))], rfl⟩ | exact ⟨by unfold zBit; rw [if_neg (fun h => h.2 c_12)], rfl⟩
  · refine z_aload_n (j := 0) X dG_bitOfCommittedKey_7 rfl rfl ?_
    refine z_geti (C := RE) (T := TE) (N := 5) (k := 1) X (w_in inE) rfl rfl (kd_E htp ho) (by decide) (w_m lG_74) rfl rfl dG_bitOfCommittedKey_8 (hv := hr0.2.2.1) ?_
    refine z_iconst (v := (-1)) X dG_bitOfCommittedKey_11 (by decide) ?_
    refine z_icmp_eq (tgt := 24) X dG_bitOfCommittedKey_12 (by decide) (fun c_12 => ?_) (fun c_12 => ?_)
    · refine z_iconst (v := (nI 0)) X dG_bitOfCommittedKey_24 (by decide) ?_
      refine z_iret X hlocks hr dG_bitOfCommittedKey_25 (by omega) (by omega) ?_
      first | exact ⟨by unfold zBit; rw [if_neg (fun h => c_4 (h.1.trans nI_0))], rfl⟩ | exact ⟨by unfold zBit; rw [if_neg (fun h => h.2 c_12)], rfl⟩
    · refine z_iconst (v := (nI 1)) X dG_bitOfCommittedKey_15 (by decide) ?_
      refine z_aload_n (j := 0) X dG_bitOfCommittedKey_16 rfl rfl ?_
      refine z_geti (C := RE) (T := TE) (N := 5) (k := 1) X (w_in inE) rfl rfl (kd_E htp ho) (by decide) (w_m lG_74) rfl rfl dG_bitOfCommittedKey_17 (hv := hr0.2.2.1) ?_
      refine z_ishl X dG_bitOfCommittedKey_20 ?_
      refine z_goto (tgt := 25) X dG_bitOfCommittedKey_21 (by decide) ?_
      refine z_iret X hlocks hr dG_bitOfCommittedKey_25 (by omega) (by omega) ?_
      exact ⟨by unfold zBit; rw [if_pos ⟨c_4.trans nI_0.symm, c_12⟩], rfl⟩

set_option maxHeartbeats 600000 in
set_option maxRecDepth 100000 in
theorem mG_dropOutdated (l : Launch) (D : va_G) (dA : Nat → ClassId) {S : zS} {tp : Nat} {g : zLg} (htp : tp < 12) (hO : zLogA S tp g) (hW : zLogW g) (hV : ∀ o e, g.2.2 o = some e → zEW e) : zMet l D vwCl zKK dA (zG0 D dA) yG_dropOutdated (Cond.code yG_dropOutdated cG_dropOutdated 9 (some .int) :: zTs) { frames := 1, cells := 0, slots := 0, locals := 21 } 0 0 [.ref (60 + tp)] S (fun v S' => v = some (.int (nI (zPr g - zPr (zComp g)))) ∧ zLogA S' tp (zComp g) ∧ zfr (zOwnG tp) S S' ∧ S'.1 = S.1) (fun _ _ => False) := by
  refine z_met (tys := ztys dA) (by decide) rfl zG0_K rfl (Nat.le_of_ble_eq_true rfl) (fun p e s m args below meth c A ad X hr hlocks hin hex => ?_)
  obtain ⟨hd1, hd2, f0, f1, f2, f3, f4, f5, f6, f7, f8, hent, hee⟩ := id hO
  obtain ⟨w1, w2, w3, w4, w5, w6, w7, w8, w9⟩ := id hW
  have wb := zBa_le g
  have wp : zPr g ≤ 60 := zcnt_le
  have wst := zStab_le g (by omega)
  have hmin : min (zBa g) (zStab g) ≤ zBa g ∧ min (zBa g) (zStab g) ≤ zStab g := ⟨Nat.min_le_left _ _, Nat.min_le_right _ _⟩
  have hmin2 : ∀ j, j < zBa g → j < zStab g → j < min (zBa g) (zStab g) := fun j a b => Nat.lt_min.mpr ⟨a, b⟩
  have loop : ∀ (f o : Nat) (S1 : zS) (k1 : Nat → Option zE) (M : Nat), o < f → o ≤ zStab g → (M < 256 ∧ ∀ k, k < 8 → (M.testBit k = true ↔ ∃ j, o ≤ j ∧ j < zStab g ∧ zCK (nI k) (g.2.2 j) = true)) → (∀ j, k1 j = if o ≤ j ∧ j < zStab g ∧ j < zBa g ∧ zGoes g (zStab g) j = true then none else g.2.2 j) → zLogA S1 tp (g.1, g.2.1, k1) → zLogW (g.1, g.2.1, k1) → zfr (zOwnG tp) S S1 → S1.1 = S.1 → AW p l e { frames := 1, cells := 0, slots := 0, locals := 21 } s m args below meth c D vwCl zKK dA A (ad, S) 9 S1 0 0 (vx_MQ below (zQc D vwCl zKK dA A ad S (fun v S' => v = some (.int (nI (zPr g - zPr (zComp g)))) ∧ zLogA S' tp (zComp g) ∧ zfr (zOwnG tp) S S' ∧ S'.1 = S.1)) (zXC D vwCl zKK dA A ad S (fun _ _ => False)) args s 0 0 A) 27 [(5, .int (zPd o)), (4, .int (nI M)), (3, .int (nI (min (zBa g) (zStab g)))), (2, .int (nI (zStab g))), (1, .int (nI (zPr g))), (0, .ref (60 + tp))] [] := by
    intro f
    induction f with
    | zero => intro o S1 k1 M h0; omega
    | succ f ih =>
    intro o S1 k1 M h0 hi1 hM hk h1 hW1 hfr hdm
    obtain ⟨hd1, hd2, f0, f1, f2, f3, f4, f5, f6, f7, f8, hent, hee⟩ := id h1
    have f4 : S1.2.1 (60 + tp) 4 = nI g.2.1.1 := f4
    have hent : ∀ o, S1.2.2.1 (80 + tp) o = (k1 o).map (fun _ => 200 + 60 * tp + o) := hent
    have hee : ∀ o e, k1 o = some e → zEat S1 (200 + 60 * tp + o) e := hee
    by_cases hso : o ≤ g.2.1.1
    · have hkc : k1 = (zComp g).2.2 := by
        funext j
        rw [hk j]
        show _ = if j < zStab g ∧ j < zBa g ∧ zGoes g (zStab g) j = true then none else g.2.2 j
        by_cases e8 : j < zStab g ∧ j < zBa g ∧ zGoes g (zStab g) j = true
        · by_cases e7 : o ≤ j
          · rw [if_pos ⟨e7, e8⟩, if_pos e8]
          · rw [if_neg (fun h => e7 h.1), if_pos e8, w9 j (by omega)]
        · rw [if_neg (fun h => e8 h.2), if_neg e8]
      have h1' : zLogA S1 tp (zComp g) := by
        have h9 := h1
        rw [hkc] at h9
        exact h9
      have f8' : S1.2.1 (60 + tp) 8 = nI (zPr (zComp g)) := h1'.2.2.2.2.2.2.2.2.2.2.1
      have hpm : zPr (zComp g) ≤ zPr g := zPr_mono (fun j hj => by
        show (if j < zStab g ∧ j < zBa g ∧ zGoes g (zStab g) j = true then none else g.2.2 j) = none
        by_cases e8 : j < zStab g ∧ j < zBa g ∧ zGoes g (zStab g) j = true
        · rw [if_pos e8]
        · rw [if_neg e8]; exact hj)
      refine z_iload (j := 0) X dG_dropOutdated_27 rfl ?_
      refine z_aload_n (j := 5) X dG_dropOutdated_29 rfl rfl ?_
      refine z_geti (C := RG) (T := TG) (N := 9) (k := 4) X (w_in inG) rfl rfl (kd_G htp) (by decide) (w_m lG_44) rfl rfl dG_dropOutdated_30 (hv := f4) ?_
      refine z_icmp_lt (tgt := 115) X dG_dropOutdated_33 (by decide) (fun c_33 => ?_) (fun c_33 => absurd (zPd_lt hso (by omega)) c_33)
      refine z_iload_n (j := 4) X dG_dropOutdated_115 rfl rfl ?_
      refine z_aload_n (j := 5) X dG_dropOutdated_116 rfl rfl ?_
      refine z_geti (C := RG) (T := TG) (N := 9) (k := 8) X (w_in inG) rfl rfl (kd_G htp) (by decide) (w_m lG_31) rfl rfl dG_dropOutdated_117 (hv := f8') ?_
      refine z_isub X dG_dropOutdated_120 ?_
      refine z_top (pk_sub (a := zPr g) (b := zPr (zComp g)) (by omega)) ?_
      refine z_iret X hlocks hr dG_dropOutdated_121 (by omega) (by omega) ?_
      exact ⟨rfl, h1', hfr, hdm⟩
    · obtain ⟨q, rfl⟩ : ∃ q, o = q + 1 := ⟨o - 1, by omega⟩
      rw [zPd_s]
      refine z_iload (j := 0) X dG_dropOutdated_27 rfl ?_
      refine z_aload_n (j := 5) X dG_dropOutdated_29 rfl rfl ?_
      refine z_geti (C := RG) (T := TG) (N := 9) (k := 4) X (w_in inG) rfl rfl (kd_G htp) (by decide) (w_m lG_44) rfl rfl dG_dropOutdated_30 (hv := f4) ?_
      refine z_icmp_ltN (tgt := 115) X dG_dropOutdated_33 (by decide) (by omega) (by omega) (fun c_33 => absurd c_33 (by omega)) (fun c_33 => ?_)
      refine z_aload_n (j := 5) X dG_dropOutdated_36 rfl rfl ?_
      refine z_iload (j := 0) X dG_dropOutdated_37 rfl ?_
      refine z_callV (n := 1) (As := [.int (nI q)]) (rest := []) X zG0_m (mG_hasData l D dA (g := (g.1, g.2.1, k1)) (o := q) htp h1 hW1 (by omega)) (w_V X.2.2.2.2.1 lG_61 jG_hasData sG_hasData i_LogBroker_Log kG_hasData rfl rfl (by decide +kernel) ⟨Nat.le_of_ble_eq_true rfl, Nat.le_of_ble_eq_true rfl⟩) (kd_G htp) rfl rfl rfl rfl (Nat.le_of_ble_eq_true rfl) dG_dropOutdated_39 ⟨Nat.le_of_ble_eq_true rfl, Nat.le_of_ble_eq_true rfl⟩ (fun v S2 hp => ?_) (fun E S1 hx => hx.elim)
      obtain ⟨hv, hS2⟩ := hp
      subst hv
      have hS2 := hS2.symm
      subst hS2
      have hkq : k1 q = g.2.2 q := by rw [hk q, if_neg (by omega)]
      rcases he : g.2.2 q with _ | r
      · refine z_top (if_neg (show ¬ zData (k1 q) = true by rw [hkq, he]; decide)) ?_
        refine z_if_eq (tgt := 109) X dG_dropOutdated_42 (by decide) (fun c_42 => ?_) (fun c_42 => absurd c_42 (by decide))
        refine z_iinc (j := 0) (v := (zPd q)) (L' := [(5, .int (zPd q)), (4, .int (nI M)), (3, .int (nI (min (zBa g) (zStab g)))), (2, .int (nI (zStab g))), (1, .int (nI (zPr g))), (0, .ref (60 + tp))]) X dG_dropOutdated_109 rfl (zPd_inc q) (by decide) rfl ?_
        refine z_goto (tgt := 27) X dG_dropOutdated_112 (by decide) ?_
        refine z_loc [0, 1, 2, 3, 4, 5] rfl ?_
        exact ih q S1 k1 M (by omega) (by omega) (zSeenN hM he (fun k => rfl)) (fun j => by
          by_cases e9 : j = q
          · subst e9
            rw [if_neg (fun h => by have h9 := h.2.2.2; unfold zGoes at h9; rw [he] at h9; cases h9)]; exact hkq
          · rw [hk j]
            by_cases e8 : q + 1 ≤ j ∧ j < zStab g ∧ j < zBa g ∧ zGoes g (zStab g) j = true
            · rw [if_pos e8, if_pos ⟨by omega, e8.2⟩]
            · rw [if_neg e8, if_neg (fun h => e8 ⟨by omega, h.2⟩)]) h1 hW1 hfr hdm
      · have he1 : k1 q = some r := hkq.trans he
        obtain ⟨y1, y2, y3, y4, y5⟩ := hV q r he
        by_cases hk0 : r.1 = nI 0
        · refine z_top (if_pos (show zData (k1 q) = true by rw [he1]; exact decide_eq_true hk0)) ?_
          refine z_if_eq (tgt := 109) X dG_dropOutdated_42 (by decide) (fun c_42 => absurd c_42 (by decide)) (fun c_42 => ?_)
          refine z_aload_n (j := 5) X dG_dropOutdated_45 rfl rfl ?_
          refine z_getr (C := RG) (T := TG) (N := 9) (k := 3) X (w_in inG) rfl rfl (kd_G htp) (by decide) (w_m lG_11) rfl rfl f3 dG_dropOutdated_46 ?_
          refine z_iload (j := 0) X dG_dropOutdated_49 rfl ?_
          refine z_aald (t0 := 6) X (kd_GA htp) (by decide) (by decide) (by decide) rfl (by omega) (by decide) (by rw [hent, he1]; rfl) dG_dropOutdated_51 ?_
          refine z_astore (L' := [(6, .ref (200 + 60 * tp + q)), (5, .int (nI q)), (4, .int (nI M)), (3, .int (nI (min (zBa g) (zStab g)))), (2, .int (nI (zStab g))), (1, .int (nI (zPr g))), (0, .ref (60 + tp))]) X dG_dropOutdated_52 (by decide) rfl ?_
          refine z_aload (j := 0) X dG_dropOutdated_54 rfl ?_
          refine z_callS (n := 1) (As := [.ref (200 + 60 * tp + q)]) (rest := []) X zG0_m (mG_bitOfCommittedKey l D dA (o := q) htp (by omega) (hee q r he1)) (w_S X.2.2.2.2.1 lG_70 tG_bitOfCommittedKey i_LogBroker_Log kG_bitOfCommittedKey rfl rfl (by decide +kernel) ⟨Nat.le_of_ble_eq_true rfl, Nat.le_of_ble_eq_true rfl⟩) rfl rfl (Nat.le_of_ble_eq_true rfl) dG_dropOutdated_56 ⟨Nat.le_of_ble_eq_true rfl, Nat.le_of_ble_eq_true rfl⟩ (fun v S2 hp => ?_) (fun E S1 hx => hx.elim)
          obtain ⟨hv, hS2⟩ := hp
          subst hv
          have hS2 := hS2.symm
          subst hS2
          refine z_istore (L' := [(7, .int (zBit r)), (6, .ref (200 + 60 * tp + q)), (5, .int (nI q)), (4, .int (nI M)), (3, .int (nI (min (zBa g) (zStab g)))), (2, .int (nI (zStab g))), (1, .int (nI (zPr g))), (0, .ref (60 + tp))]) X dG_dropOutdated_59 (by decide) rfl ?_
          refine z_aload (j := 1) X dG_dropOutdated_61 rfl ?_
          refine z_geti (C := RE) (T := TE) (N := 5) (k := 4) X (w_in inE) rfl rfl (kd_E htp (by omega)) (by decide) (w_m lG_51) rfl rfl dG_dropOutdated_63 (hv := (hee q r he1).2.2.2.2.2) ?_
          refine z_iconst (v := (nI 1)) X dG_dropOutdated_66 (by decide) ?_
          refine z_icmp_eq (tgt := 78) X dG_dropOutdated_67 (by decide) (fun c_67 => ?_) (fun c_67 => ?_)
          · refine z_iconst (v := (nI 1)) X dG_dropOutdated_78 (by decide) ?_
            refine z_goto (tgt := 83) X dG_dropOutdated_79 (by decide) ?_
            refine z_istore (L' := [(8, .int (nI 1)), (7, .int (zBit r)), (6, .ref (200 + 60 * tp + q)), (5, .int (nI q)), (4, .int (nI M)), (3, .int (nI (min (zBa g) (zStab g)))), (2, .int (nI (zStab g))), (1, .int (nI (zPr g))), (0, .ref (60 + tp))]) X dG_dropOutdated_83 (by decide) rfl ?_
            refine z_iload (j := 0) X dG_dropOutdated_85 rfl ?_
            refine z_if_eq (tgt := 102) X dG_dropOutdated_87 (by decide) (fun c_87 => absurd c_87 (by decide)) (fun c_87 => ?_)
            refine z_iload (j := 3) X dG_dropOutdated_90 rfl ?_
            refine z_iload_n (j := 5) X dG_dropOutdated_92 rfl rfl ?_
            refine z_icmp_geN (tgt := 102) X dG_dropOutdated_93 (by decide) (by omega) (by omega) (fun c_93 => ?_) (fun c_93 => ?_)
            · obtain ⟨M2, hM2⟩ : ∃ M2, (nI M ||| zBit r) = nI M2 ∧ M2 < 256 ∧ ∀ k, k < 8 → (M2.testBit k = true ↔ (M.testBit k = true ∨ zCK (nI k) (some r) = true)) := zSeen hM.1 hk0 y2
              refine z_iload (j := 4) X dG_dropOutdated_102 rfl ?_
              refine z_iload (j := 1) X dG_dropOutdated_104 rfl ?_
              refine z_ior X dG_dropOutdated_106 ?_
              refine z_top hM2.1 ?_
              refine z_istore (L' := [(4, .int (nI M2)), (8, .int (nI 1)), (7, .int (zBit r)), (6, .ref (200 + 60 * tp + q)), (5, .int (nI q)), (3, .int (nI (min (zBa g) (zStab g)))), (2, .int (nI (zStab g))), (1, .int (nI (zPr g))), (0, .ref (60 + tp))]) X dG_dropOutdated_107 (by decide) rfl ?_
              refine z_iinc (j := 4) (v := (zPd q)) (L' := [(5, .int (zPd q)), (4, .int (nI M2)), (8, .int (nI 1)), (7, .int (zBit r)), (6, .ref (200 + 60 * tp + q)), (3, .int (nI (min (zBa g) (zStab g)))), (2, .int (nI (zStab g))), (1, .int (nI (zPr g))), (0, .ref (60 + tp))]) X dG_dropOutdated_109 rfl (zPd_inc q) (by decide) rfl ?_
              refine z_goto (tgt := 27) X dG_dropOutdated_112 (by decide) ?_
              refine z_loc [0, 1, 5, 6, 7, 8] rfl ?_
              exact ih q S1 k1 M2 (by omega) (by omega) (zSeenI hM hM2.2 he (by omega)) (fun j => by
                by_cases e9 : j = q
                · subst e9
                  rw [if_neg (fun h => by omega)]; exact hkq
                · rw [hk j]
                  by_cases e8 : q + 1 ≤ j ∧ j < zStab g ∧ j < zBa g ∧ zGoes g (zStab g) j = true
                  · rw [if_pos e8, if_pos ⟨by omega, e8.2⟩]
                  · rw [if_neg e8, if_neg (fun h => e8 ⟨by omega, h.2⟩)]) h1 hW1 hfr hdm
            · refine z_aload_n (j := 8) X dG_dropOutdated_96 rfl rfl ?_
              refine z_iload (j := 3) X dG_dropOutdated_97 rfl ?_
              refine z_callV (n := 1) (As := [.int (nI q)]) (rest := []) X zG0_m (mG_drop l D dA (g := (g.1, g.2.1, k1)) (o := q) htp h1 hW1 (by omega)) (w_V X.2.2.2.2.1 lG_47 jG_drop sG_drop i_LogBroker_Log kG_drop rfl rfl (by decide +kernel) ⟨Nat.le_of_ble_eq_true rfl, Nat.le_of_ble_eq_true rfl⟩) (kd_G htp) rfl rfl rfl rfl (Nat.le_of_ble_eq_true rfl) dG_dropOutdated_99 ⟨Nat.le_of_ble_eq_true rfl, Nat.le_of_ble_eq_true rfl⟩ (fun v S3 hp => ?_) (fun E S1 hx => hx.elim)
              obtain ⟨hv, h3, hf3, hd3⟩ := hp
              subst hv
              obtain ⟨M2, hM2⟩ : ∃ M2, (nI M ||| zBit r) = nI M2 ∧ M2 < 256 ∧ ∀ k, k < 8 → (M2.testBit k = true ↔ (M.testBit k = true ∨ zCK (nI k) (some r) = true)) := zSeen hM.1 hk0 y2
              refine z_iload (j := 4) X dG_dropOutdated_102 rfl ?_
              refine z_iload (j := 1) X dG_dropOutdated_104 rfl ?_
              refine z_ior X dG_dropOutdated_106 ?_
              refine z_top hM2.1 ?_
              refine z_istore (L' := [(4, .int (nI M2)), (8, .int (nI 1)), (7, .int (zBit r)), (6, .ref (200 + 60 * tp + q)), (5, .int (nI q)), (3, .int (nI (min (zBa g) (zStab g)))), (2, .int (nI (zStab g))), (1, .int (nI (zPr g))), (0, .ref (60 + tp))]) X dG_dropOutdated_107 (by decide) rfl ?_
              refine z_iinc (j := 4) (v := (zPd q)) (L' := [(5, .int (zPd q)), (4, .int (nI M2)), (8, .int (nI 1)), (7, .int (zBit r)), (6, .ref (200 + 60 * tp + q)), (3, .int (nI (min (zBa g) (zStab g)))), (2, .int (nI (zStab g))), (1, .int (nI (zPr g))), (0, .ref (60 + tp))]) X dG_dropOutdated_109 rfl (zPd_inc q) (by decide) rfl ?_
              refine z_goto (tgt := 27) X dG_dropOutdated_112 (by decide) ?_
              refine z_loc [0, 1, 5, 6, 7, 8] rfl ?_
              exact ih q S3 (fun j => if j = q then none else k1 j) M2 (by omega) (by omega) (zSeenI hM hM2.2 he (by omega)) (fun j => by
                by_cases e9 : j = q
                · subst e9
                  rw [if_pos rfl, if_pos ⟨by omega, by omega, by omega, zGo1 he hk0 c_67⟩]
                · rw [if_neg e9]; rw [hk j]
                  by_cases e8 : q + 1 ≤ j ∧ j < zStab g ∧ j < zBa g ∧ zGoes g (zStab g) j = true
                  · rw [if_pos e8, if_pos ⟨by omega, e8.2⟩]
                  · rw [if_neg e8, if_neg (fun h => e8 ⟨by omega, h.2⟩)]) h3 (zLogW_drop hW1) (hfr.tr hf3) (hd3.trans hdm)
          · have hs0 : r.2.2.2.2 = nI 0 := zSt0 y4 c_67 (zStab_und (by omega) (by omega) he)
            refine z_iload (j := 3) X dG_dropOutdated_70 rfl ?_
            refine z_iload (j := 0) X dG_dropOutdated_72 rfl ?_
            refine z_iand X dG_dropOutdated_74 ?_
            refine z_if_eq (tgt := 82) X dG_dropOutdated_75 (by decide) (fun c_75 => ?_) (fun c_75 => ?_)
            · refine z_iconst (v := (nI 0)) X dG_dropOutdated_82 (by decide) ?_
              refine z_istore (L' := [(8, .int (nI 0)), (7, .int (zBit r)), (6, .ref (200 + 60 * tp + q)), (5, .int (nI q)), (4, .int (nI M)), (3, .int (nI (min (zBa g) (zStab g)))), (2, .int (nI (zStab g))), (1, .int (nI (zPr g))), (0, .ref (60 + tp))]) X dG_dropOutdated_83 (by decide) rfl ?_
              refine z_iload (j := 0) X dG_dropOutdated_85 rfl ?_
              refine z_if_eq (tgt := 102) X dG_dropOutdated_87 (by decide) (fun c_87 => ?_) (fun c_87 => absurd c_87 (by decide))
              obtain ⟨M2, hM2⟩ : ∃ M2, (nI M ||| zBit r) = nI M2 ∧ M2 < 256 ∧ ∀ k, k < 8 → (M2.testBit k = true ↔ (M.testBit k = true ∨ zCK (nI k) (some r) = true)) := zSeen hM.1 hk0 y2
              refine z_iload (j := 4) X dG_dropOutdated_102 rfl ?_
              refine z_iload (j := 1) X dG_dropOutdated_104 rfl ?_
              refine z_ior X dG_dropOutdated_106 ?_
              refine z_top hM2.1 ?_
              refine z_istore (L' := [(4, .int (nI M2)), (8, .int (nI 0)), (7, .int (zBit r)), (6, .ref (200 + 60 * tp + q)), (5, .int (nI q)), (3, .int (nI (min (zBa g) (zStab g)))), (2, .int (nI (zStab g))), (1, .int (nI (zPr g))), (0, .ref (60 + tp))]) X dG_dropOutdated_107 (by decide) rfl ?_
              refine z_iinc (j := 4) (v := (zPd q)) (L' := [(5, .int (zPd q)), (4, .int (nI M2)), (8, .int (nI 0)), (7, .int (zBit r)), (6, .ref (200 + 60 * tp + q)), (3, .int (nI (min (zBa g) (zStab g)))), (2, .int (nI (zStab g))), (1, .int (nI (zPr g))), (0, .ref (60 + tp))]) X dG_dropOutdated_109 rfl (zPd_inc q) (by decide) rfl ?_
              refine z_goto (tgt := 27) X dG_dropOutdated_112 (by decide) ?_
              refine z_loc [0, 1, 5, 6, 7, 8] rfl ?_
              exact ih q S1 k1 M2 (by omega) (by omega) (zSeenI hM hM2.2 he (by omega)) (fun j => by
                by_cases e9 : j = q
                · subst e9
                  rw [if_neg (fun h => zGo0 he hk0 c_67 hM.1 hM.2 y2 hs0 (c_75.trans nI_0.symm) h.2.2.2)]; exact hkq
                · rw [hk j]
                  by_cases e8 : q + 1 ≤ j ∧ j < zStab g ∧ j < zBa g ∧ zGoes g (zStab g) j = true
                  · rw [if_pos e8, if_pos ⟨by omega, e8.2⟩]
                  · rw [if_neg e8, if_neg (fun h => e8 ⟨by omega, h.2⟩)]) h1 hW1 hfr hdm
            · refine z_iconst (v := (nI 1)) X dG_dropOutdated_78 (by decide) ?_
              refine z_goto (tgt := 83) X dG_dropOutdated_79 (by decide) ?_
              refine z_istore (L' := [(8, .int (nI 1)), (7, .int (zBit r)), (6, .ref (200 + 60 * tp + q)), (5, .int (nI q)), (4, .int (nI M)), (3, .int (nI (min (zBa g) (zStab g)))), (2, .int (nI (zStab g))), (1, .int (nI (zPr g))), (0, .ref (60 + tp))]) X dG_dropOutdated_83 (by decide) rfl ?_
              refine z_iload (j := 0) X dG_dropOutdated_85 rfl ?_
              refine z_if_eq (tgt := 102) X dG_dropOutdated_87 (by decide) (fun c_87 => absurd c_87 (by decide)) (fun c_87 => ?_)
              refine z_iload (j := 3) X dG_dropOutdated_90 rfl ?_
              refine z_iload_n (j := 5) X dG_dropOutdated_92 rfl rfl ?_
              refine z_icmp_geN (tgt := 102) X dG_dropOutdated_93 (by decide) (by omega) (by omega) (fun c_93 => ?_) (fun c_93 => ?_)
              · obtain ⟨M2, hM2⟩ : ∃ M2, (nI M ||| zBit r) = nI M2 ∧ M2 < 256 ∧ ∀ k, k < 8 → (M2.testBit k = true ↔ (M.testBit k = true ∨ zCK (nI k) (some r) = true)) := zSeen hM.1 hk0 y2
                refine z_iload (j := 4) X dG_dropOutdated_102 rfl ?_
                refine z_iload (j := 1) X dG_dropOutdated_104 rfl ?_
                refine z_ior X dG_dropOutdated_106 ?_
                refine z_top hM2.1 ?_
                refine z_istore (L' := [(4, .int (nI M2)), (8, .int (nI 1)), (7, .int (zBit r)), (6, .ref (200 + 60 * tp + q)), (5, .int (nI q)), (3, .int (nI (min (zBa g) (zStab g)))), (2, .int (nI (zStab g))), (1, .int (nI (zPr g))), (0, .ref (60 + tp))]) X dG_dropOutdated_107 (by decide) rfl ?_
                refine z_iinc (j := 4) (v := (zPd q)) (L' := [(5, .int (zPd q)), (4, .int (nI M2)), (8, .int (nI 1)), (7, .int (zBit r)), (6, .ref (200 + 60 * tp + q)), (3, .int (nI (min (zBa g) (zStab g)))), (2, .int (nI (zStab g))), (1, .int (nI (zPr g))), (0, .ref (60 + tp))]) X dG_dropOutdated_109 rfl (zPd_inc q) (by decide) rfl ?_
                refine z_goto (tgt := 27) X dG_dropOutdated_112 (by decide) ?_
                refine z_loc [0, 1, 5, 6, 7, 8] rfl ?_
                exact ih q S1 k1 M2 (by omega) (by omega) (zSeenI hM hM2.2 he (by omega)) (fun j => by
                  by_cases e9 : j = q
                  · subst e9
                    rw [if_neg (fun h => by omega)]; exact hkq
                  · rw [hk j]
                    by_cases e8 : q + 1 ≤ j ∧ j < zStab g ∧ j < zBa g ∧ zGoes g (zStab g) j = true
                    · rw [if_pos e8, if_pos ⟨by omega, e8.2⟩]
                    · rw [if_neg e8, if_neg (fun h => e8 ⟨by omega, h.2⟩)]) h1 hW1 hfr hdm
              · refine z_aload_n (j := 8) X dG_dropOutdated_96 rfl rfl ?_
                refine z_iload (j := 3) X dG_dropOutdated_97 rfl ?_
                refine z_callV (n := 1) (As := [.int (nI q)]) (rest := []) X zG0_m (mG_drop l D dA (g := (g.1, g.2.1, k1)) (o := q) htp h1 hW1 (by omega)) (w_V X.2.2.2.2.1 lG_47 jG_drop sG_drop i_LogBroker_Log kG_drop rfl rfl (by decide +kernel) ⟨Nat.le_of_ble_eq_true rfl, Nat.le_of_ble_eq_true rfl⟩) (kd_G htp) rfl rfl rfl rfl (Nat.le_of_ble_eq_true rfl) dG_dropOutdated_99 ⟨Nat.le_of_ble_eq_true rfl, Nat.le_of_ble_eq_true rfl⟩ (fun v S3 hp => ?_) (fun E S1 hx => hx.elim)
                obtain ⟨hv, h3, hf3, hd3⟩ := hp
                subst hv
                obtain ⟨M2, hM2⟩ : ∃ M2, (nI M ||| zBit r) = nI M2 ∧ M2 < 256 ∧ ∀ k, k < 8 → (M2.testBit k = true ↔ (M.testBit k = true ∨ zCK (nI k) (some r) = true)) := zSeen hM.1 hk0 y2
                refine z_iload (j := 4) X dG_dropOutdated_102 rfl ?_
                refine z_iload (j := 1) X dG_dropOutdated_104 rfl ?_
                refine z_ior X dG_dropOutdated_106 ?_
                refine z_top hM2.1 ?_
                refine z_istore (L' := [(4, .int (nI M2)), (8, .int (nI 1)), (7, .int (zBit r)), (6, .ref (200 + 60 * tp + q)), (5, .int (nI q)), (3, .int (nI (min (zBa g) (zStab g)))), (2, .int (nI (zStab g))), (1, .int (nI (zPr g))), (0, .ref (60 + tp))]) X dG_dropOutdated_107 (by decide) rfl ?_
                refine z_iinc (j := 4) (v := (zPd q)) (L' := [(5, .int (zPd q)), (4, .int (nI M2)), (8, .int (nI 1)), (7, .int (zBit r)), (6, .ref (200 + 60 * tp + q)), (3, .int (nI (min (zBa g) (zStab g)))), (2, .int (nI (zStab g))), (1, .int (nI (zPr g))), (0, .ref (60 + tp))]) X dG_dropOutdated_109 rfl (zPd_inc q) (by decide) rfl ?_
                refine z_goto (tgt := 27) X dG_dropOutdated_112 (by decide) ?_
                refine z_loc [0, 1, 5, 6, 7, 8] rfl ?_
                exact ih q S3 (fun j => if j = q then none else k1 j) M2 (by omega) (by omega) (zSeenI hM hM2.2 he (by omega)) (fun j => by
                  by_cases e9 : j = q
                  · subst e9
                    rw [if_pos rfl, if_pos ⟨by omega, by omega, by omega, zGo2 he hk0 hM.1 hM.2 y2 (fun h => c_75 (h.trans nI_0))⟩]
                  · rw [if_neg e9]; rw [hk j]
                    by_cases e8 : q + 1 ≤ j ∧ j < zStab g ∧ j < zBa g ∧ zGoes g (zStab g) j = true
                    · rw [if_pos e8, if_pos ⟨by omega, e8.2⟩]
                    · rw [if_neg e8, if_neg (fun h => e8 ⟨by omega, h.2⟩)]) h3 (zLogW_drop hW1) (hfr.tr hf3) (hd3.trans hdm)
        · refine z_top (if_neg (show ¬ zData (k1 q) = true by rw [he1]; exact fun h => hk0 (of_decide_eq_true h))) ?_
          refine z_if_eq (tgt := 109) X dG_dropOutdated_42 (by decide) (fun c_42 => ?_) (fun c_42 => absurd c_42 (by decide))
          refine z_iinc (j := 0) (v := (zPd q)) (L' := [(5, .int (zPd q)), (4, .int (nI M)), (3, .int (nI (min (zBa g) (zStab g)))), (2, .int (nI (zStab g))), (1, .int (nI (zPr g))), (0, .ref (60 + tp))]) X dG_dropOutdated_109 rfl (zPd_inc q) (by decide) rfl ?_
          refine z_goto (tgt := 27) X dG_dropOutdated_112 (by decide) ?_
          refine z_loc [0, 1, 2, 3, 4, 5] rfl ?_
          exact ih q S1 k1 M (by omega) (by omega) (zSeenN hM he (fun k => by show (decide _ && _) = false; rw [decide_eq_false hk0]; rfl)) (fun j => by
            by_cases e9 : j = q
            · subst e9
              rw [if_neg (fun h => by have h9 := h.2.2.2; unfold zGoes at h9; rw [he] at h9; have h8 := (Bool.and_eq_true _ _ ▸ h9).1; exact hk0 (of_decide_eq_true h8))]; exact hkq
            · rw [hk j]
              by_cases e8 : q + 1 ≤ j ∧ j < zStab g ∧ j < zBa g ∧ zGoes g (zStab g) j = true
              · rw [if_pos e8, if_pos ⟨by omega, e8.2⟩]
              · rw [if_neg e8, if_neg (fun h => e8 ⟨by omega, h.2⟩)]) h1 hW1 hfr hdm
  refine z_aload_n (j := 0) X dG_dropOutdated_0 rfl rfl ?_
  refine z_geti (C := RG) (T := TG) (N := 9) (k := 8) X (w_in inG) rfl rfl (kd_G htp) (by decide) (w_m lG_31) rfl rfl dG_dropOutdated_1 (hv := f8) ?_
  refine z_istore_n (L' := [(1, .int (nI (zPr g))), (0, .ref (60 + tp))]) X dG_dropOutdated_4 rfl (by decide) rfl ?_
  refine z_aload_n (j := 1) X dG_dropOutdated_5 rfl rfl ?_
  refine z_callV (n := 0) (As := []) (rest := []) X zG0_m (mG_stableOffset l D dA htp hO hW) (w_V X.2.2.2.2.1 lG_40 jG_stableOffset sG_stableOffset i_LogBroker_Log kG_stableOffset rfl rfl (by decide +kernel) ⟨Nat.le_of_ble_eq_true rfl, Nat.le_of_ble_eq_true rfl⟩) (kd_G htp) rfl rfl rfl rfl (Nat.le_of_ble_eq_true rfl) dG_dropOutdated_6 ⟨Nat.le_of_ble_eq_true rfl, Nat.le_of_ble_eq_true rfl⟩ (fun v S1 hp => ?_) (fun E S1 hx => hx.elim)
  obtain ⟨hv, hS1⟩ := hp
  subst hv
  have hS1 := hS1.symm
  subst hS1
  refine z_istore_n (L' := [(2, .int (nI (zStab g))), (1, .int (nI (zPr g))), (0, .ref (60 + tp))]) X dG_dropOutdated_9 rfl (by decide) rfl ?_
  refine z_aload_n (j := 2) X dG_dropOutdated_10 rfl rfl ?_
  refine z_geti (C := RG) (T := TG) (N := 9) (k := 6) X (w_in inG) rfl rfl (kd_G htp) (by decide) (w_m lG_34) rfl rfl dG_dropOutdated_11 (hv := f6) ?_
  refine z_iload_n (j := 0) X dG_dropOutdated_14 rfl rfl ?_
  refine z_mmin X (w_m lG_64) dG_dropOutdated_15 (Nat.le_of_ble_eq_true rfl) (Nat.le_of_ble_eq_true rfl) (Nat.le_of_ble_eq_true rfl) (Nat.le_of_ble_eq_true rfl) ?_
  refine z_top (zMinN (by omega) (by omega)) ?_
  refine z_istore_n (L' := [(3, .int (nI (min (zBa g) (zStab g)))), (2, .int (nI (zStab g))), (1, .int (nI (zPr g))), (0, .ref (60 + tp))]) X dG_dropOutdated_18 rfl (by decide) rfl ?_
  refine z_iconst (v := (nI 0)) X dG_dropOutdated_19 (by decide) ?_
  refine z_istore (L' := [(4, .int (nI 0)), (3, .int (nI (min (zBa g) (zStab g)))), (2, .int (nI (zStab g))), (1, .int (nI (zPr g))), (0, .ref (60 + tp))]) X dG_dropOutdated_20 (by decide) rfl ?_
  refine z_iload_n (j := 2) X dG_dropOutdated_22 rfl rfl ?_
  refine z_iconst (v := (nI 1)) X dG_dropOutdated_23 (by decide) ?_
  refine z_isub X dG_dropOutdated_24 ?_
  refine z_istore (L' := [(5, .int (zPd (zStab g))), (4, .int (nI 0)), (3, .int (nI (min (zBa g) (zStab g)))), (2, .int (nI (zStab g))), (1, .int (nI (zPr g))), (0, .ref (60 + tp))]) X dG_dropOutdated_25 (by decide) rfl ?_
  refine z_loc [0, 1, 2, 3, 4, 5] rfl ?_
  exact loop (zStab g + 1) (zStab g) S g.2.2 0 (by omega) (Nat.le_refl _) ⟨by decide, fun k hk9 => ⟨(fun h => by rw [Nat.zero_testBit] at h; cases h), (fun h => by obtain ⟨j, a1, a2, -⟩ := h; omega)⟩⟩ (fun j => by rw [if_neg (fun h => by omega)]) hO hW zfr.rf rfl
