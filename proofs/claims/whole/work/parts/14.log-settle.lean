/-! CONTRACTS of LogBroker$Log: searching and settling (rows by program) -/
set_option maxHeartbeats 600000 in
set_option maxRecDepth 100000 in
theorem mG_hasUndecidedOf (l : Launch) (D : va_G) (dA : Nat → ClassId) {S : zS} {tp : Nat} {g : zLg} {q : Int32} (htp : tp < 12) (hO : zLogA S tp g) (hW : zLogW g) : zMet l D vwCl zKK dA (zG0 D dA) yG_hasUndecidedOf (Cond.code yG_hasUndecidedOf cG_hasUndecidedOf 3 (some .boolean) :: zTs) { frames := 1, cells := 0, slots := 0, locals := 21 } 0 0 [.ref (60 + tp), .int q] S (fun v S' => v = some (.int (if zHasU g q = true then nI 1 else nI 0)) ∧ S' = S) (fun _ _ => False) := by
  refine z_met (tys := ztys dA) (by decide) rfl zG0_K rfl (Nat.le_of_ble_eq_true rfl) (fun p e s m args below meth c A ad X hr hlocks hin hex => ?_)
  obtain ⟨hd1, hd2, f0, f1, f2, f3, f4, f5, f6, f7, f8, hent, hee⟩ := id hO
  obtain ⟨w1, w2, w3, w4, w5, w6, w7, w8, w9⟩ := id hW
  have wb := zBa_le g
  have wp : zPr g ≤ 60 := zcnt_le
  have loop : ∀ (f o : Nat), g.2.1.2 - o < f → g.2.1.1 ≤ o → o ≤ g.2.1.2 → (∀ j, g.2.1.1 ≤ j → j < o → zUndP q (g.2.2 j) = false) → AW p l e { frames := 1, cells := 0, slots := 0, locals := 21 } s m args below meth c D vwCl zKK dA A (ad, S) 3 S 0 0 (vx_MQ below (zQc D vwCl zKK dA A ad S (fun v S' => v = some (.int (if zHasU g q = true then nI 1 else nI 0)) ∧ S' = S)) (zXC D vwCl zKK dA A ad S (fun _ _ => False)) args s 0 0 A) 5 [(2, .int (nI o)), (0, .ref (60 + tp)), (1, .int q)] [] := by
    intro f
    induction f with
    | zero => intro o h0; omega
    | succ f ih =>
    intro o h0 hi1 hi2 hi3
    refine z_iload_n (j := 0) X dG_hasUndecidedOf_5 rfl rfl ?_
    refine z_aload_n (j := 1) X dG_hasUndecidedOf_6 rfl rfl ?_
    refine z_geti (C := RG) (T := TG) (N := 9) (k := 5) X (w_in inG) rfl rfl (kd_G htp) (by decide) (w_m lG_28) rfl rfl dG_hasUndecidedOf_7 (hv := f5) ?_
    refine z_icmp_geN (tgt := 43) X dG_hasUndecidedOf_10 (by decide) (by omega) (by omega) (fun c_10 => ?_) (fun c_10 => ?_)
    · refine z_iconst (v := (nI 0)) X dG_hasUndecidedOf_43 (by decide) ?_
      refine z_zret X hlocks hr dG_hasUndecidedOf_44 (by first | rfl | decide) (by omega) (by omega) ?_
      refine ⟨?_, rfl⟩
      rw [if_neg]
      unfold zHasU
      rw [zfind_none (fun j h1 h2 => hi3 j h1 (by omega))]
      decide
    · refine z_aload_n (j := 1) X dG_hasUndecidedOf_13 rfl rfl ?_
      refine z_getr (C := RG) (T := TG) (N := 9) (k := 3) X (w_in inG) rfl rfl (kd_G htp) (by decide) (w_m lG_11) rfl rfl f3 dG_hasUndecidedOf_14 ?_
      refine z_iload_n (j := 0) X dG_hasUndecidedOf_17 rfl rfl ?_
      rcases he : g.2.2 o with _ | r
      · refine z_aaldN (t0 := 6) X (kd_GA htp) (by decide) (by decide) (by decide) rfl (by omega) (by decide) (by rw [hent, he]; rfl) dG_hasUndecidedOf_18 ?_
        refine z_ifnullN (tgt := 37) X dG_hasUndecidedOf_19 (by decide) ?_
        refine z_iinc (j := 0) (v := (nI (o + 1))) (L' := [(2, .int (nI (o + 1))), (0, .ref (60 + tp)), (1, .int q)]) X dG_hasUndecidedOf_37 rfl (nI_1 o) (by decide) rfl ?_
        refine z_goto (tgt := 5) X dG_hasUndecidedOf_40 (by decide) ?_
        exact ih (o + 1) (by omega) (by omega) (by omega) (fun j h1 h2 => by
          by_cases e9 : j = o
          · subst e9; rw [he]; rfl
          · exact hi3 j h1 (by omega))
      · refine z_aald (t0 := 6) X (kd_GA htp) (by decide) (by decide) (by decide) rfl (by omega) (by decide) (by rw [hent, he]; rfl) dG_hasUndecidedOf_18 ?_
        refine z_ifnull X dG_hasUndecidedOf_19 ?_
        refine z_aload_n (j := 1) X dG_hasUndecidedOf_22 rfl rfl ?_
        refine z_getr (C := RG) (T := TG) (N := 9) (k := 3) X (w_in inG) rfl rfl (kd_G htp) (by decide) (w_m lG_11) rfl rfl f3 dG_hasUndecidedOf_23 ?_
        refine z_iload_n (j := 0) X dG_hasUndecidedOf_26 rfl rfl ?_
        refine z_aald (t0 := 6) X (kd_GA htp) (by decide) (by decide) (by decide) rfl (by omega) (by decide) (by rw [hent, he]; rfl) dG_hasUndecidedOf_27 ?_
        refine z_iload_n (j := 2) X dG_hasUndecidedOf_28 rfl rfl ?_
        refine z_callV (n := 1) (As := [.int q]) (rest := []) X zG0_m (mE_isUndecidedOf l D dA (o := o) htp (by omega) (hee o r he)) (w_V X.2.2.2.2.1 lG_54 jE_isUndecidedOf sE_isUndecidedOf i_LogBroker_Entry kE_isUndecidedOf rfl rfl (by decide +kernel) ⟨Nat.le_of_ble_eq_true rfl, Nat.le_of_ble_eq_true rfl⟩) (kd_E htp (by omega)) rfl rfl rfl rfl (Nat.le_of_ble_eq_true rfl) dG_hasUndecidedOf_29 ⟨Nat.le_of_ble_eq_true rfl, Nat.le_of_ble_eq_true rfl⟩ (fun v S1 hp => ?_) (fun E S1 hx => hx.elim)
        obtain ⟨hv, hS1⟩ := hp
        subst hv
        have hS1 := hS1.symm
        subst hS1
        by_cases hq : r.2.2.2.2 = nI 2 ∧ r.2.2.2.1 = q
        · rw [if_pos hq]
          refine z_if_eq (tgt := 37) X dG_hasUndecidedOf_32 (by decide) (fun c_32 => absurd c_32 (by decide)) (fun c_32 => ?_)
          refine z_iconst (v := (nI 1)) X dG_hasUndecidedOf_35 (by decide) ?_
          refine z_zret X hlocks hr dG_hasUndecidedOf_36 (by first | rfl | decide) (by omega) (by omega) ?_
          refine ⟨?_, rfl⟩
          rw [if_pos]
          unfold zHasU
          rw [zfind_some (x := o) hi1 (by omega) hi3 (by rw [he]; show (decide _ && decide _) = true; rw [decide_eq_true hq.1, decide_eq_true hq.2]; rfl)]
          rfl
        · rw [if_neg hq]
          refine z_if_eq (tgt := 37) X dG_hasUndecidedOf_32 (by decide) (fun c_32 => ?_) (fun c_32 => absurd c_32 (by decide))
          refine z_iinc (j := 0) (v := (nI (o + 1))) (L' := [(2, .int (nI (o + 1))), (0, .ref (60 + tp)), (1, .int q)]) X dG_hasUndecidedOf_37 rfl (nI_1 o) (by decide) rfl ?_
          refine z_goto (tgt := 5) X dG_hasUndecidedOf_40 (by decide) ?_
          exact ih (o + 1) (by omega) (by omega) (by omega) (fun j h1 h2 => by
            by_cases e9 : j = o
            · subst e9; rw [he]; show (decide _ && decide _) = false; exact Bool.eq_false_iff.mpr (fun h => hq (by rw [Bool.and_eq_true] at h; exact ⟨of_decide_eq_true h.1, of_decide_eq_true h.2⟩))
            · exact hi3 j h1 (by omega))
  refine z_aload_n (j := 0) X dG_hasUndecidedOf_0 rfl rfl ?_
  refine z_geti (C := RG) (T := TG) (N := 9) (k := 4) X (w_in inG) rfl rfl (kd_G htp) (by decide) (w_m lG_44) rfl rfl dG_hasUndecidedOf_1 (hv := f4) ?_
  refine z_istore_n (L' := [(2, .int (nI g.2.1.1)), (0, .ref (60 + tp)), (1, .int q)]) X dG_hasUndecidedOf_4 rfl (by decide) rfl ?_
  exact loop (g.2.1.2 - g.2.1.1 + 1) g.2.1.1 (by omega) (Nat.le_refl _) (by omega) (fun j h1 h2 => by omega)

set_option maxHeartbeats 600000 in
set_option maxRecDepth 100000 in
theorem mG_settle (l : Launch) (D : va_G) (dA : Nat → ClassId) {S : zS} {tp : Nat} {g : zLg} {q x : Int32} (htp : tp < 12) (hO : zLogA S tp g) (hW : zLogW g) : zMet l D vwCl zKK dA (zG0 D dA) yG_settle (Cond.code yG_settle cG_settle 4 none :: zTs) { frames := 1, cells := 0, slots := 0, locals := 21 } 0 0 [.ref (60 + tp), .int q, .int x] S (fun v S' => v = none ∧ zLogA S' tp (zSet g q x) ∧ zfr (zOwnG tp) S S' ∧ S'.1 = S.1) (fun _ _ => False) := by
  refine z_met (tys := ztys dA) (by decide) rfl zG0_K rfl (Nat.le_of_ble_eq_true rfl) (fun p e s m args below meth c A ad X hr hlocks hin hex => ?_)
  obtain ⟨hd1, hd2, f0, f1, f2, f3, f4, f5, f6, f7, f8, hent, hee⟩ := id hO
  obtain ⟨w1, w2, w3, w4, w5, w6, w7, w8, w9⟩ := id hW
  have wb := zBa_le g
  have wp : zPr g ≤ 60 := zcnt_le
  have loop : ∀ (f o : Nat) (S1 : zS) (k1 : Nat → Option zE), g.2.1.2 - o < f → g.2.1.1 ≤ o → o ≤ g.2.1.2 → (∀ j, k1 j = if j < o then (g.2.2 j).map (zSt1 q x) else g.2.2 j) → zLogA S1 tp (g.1, g.2.1, k1) → zfr (zOwnG tp) S S1 → S1.1 = S.1 → AW p l e { frames := 1, cells := 0, slots := 0, locals := 21 } s m args below meth c D vwCl zKK dA A (ad, S) 4 S1 0 0 (vx_MQ below (zQc D vwCl zKK dA A ad S (fun v S' => v = none ∧ zLogA S' tp (zSet g q x) ∧ zfr (zOwnG tp) S S' ∧ S'.1 = S.1)) (zXC D vwCl zKK dA A ad S (fun _ _ => False)) args s 0 0 A) 5 [(3, .int (nI o)), (0, .ref (60 + tp)), (1, .int q), (2, .int x)] [] := by
    intro f
    induction f with
    | zero => intro o S1 k1 h0; omega
    | succ f ih =>
    intro o S1 k1 h0 hi1 hi2 hk h1 hfr hdm
    obtain ⟨hd1, hd2, f0, f1, f2, f3, f4, f5, f6, f7, f8, hent, hee⟩ := id h1
    have f4 : S1.2.1 (60 + tp) 4 = nI g.2.1.1 := f4
    have f5 : S1.2.1 (60 + tp) 5 = nI g.2.1.2 := f5
    have hent : ∀ o, S1.2.2.1 (80 + tp) o = (k1 o).map (fun _ => 200 + 60 * tp + o) := hent
    have hee : ∀ o e, k1 o = some e → zEat S1 (200 + 60 * tp + o) e := hee
    have heo : k1 o = g.2.2 o := by rw [hk o, if_neg (by omega)]
    refine z_iload_n (j := 0) X dG_settle_5 rfl rfl ?_
    refine z_aload_n (j := 1) X dG_settle_6 rfl rfl ?_
    refine z_geti (C := RG) (T := TG) (N := 9) (k := 5) X (w_in inG) rfl rfl (kd_G htp) (by decide) (w_m lG_28) rfl rfl dG_settle_7 (hv := f5) ?_
    refine z_icmp_geN (tgt := 51) X dG_settle_10 (by decide) (by omega) (by omega) (fun c_10 => ?_) (fun c_10 => ?_)
    · refine z_vret X hlocks hr dG_settle_51 (by omega) (by omega) ?_
      refine ⟨rfl, ?_, hfr, hdm⟩
      have e9 : k1 = fun j => (g.2.2 j).map (zSt1 q x) := by
        funext j
        rw [hk j]
        by_cases h9 : j < o
        · rw [if_pos h9]
        · rw [if_neg h9, w8 j (by omega)]; rfl
      rw [e9] at h1
      exact h1
    · refine z_aload_n (j := 1) X dG_settle_13 rfl rfl ?_
      refine z_getr (C := RG) (T := TG) (N := 9) (k := 3) X (w_in inG) rfl rfl (kd_G htp) (by decide) (w_m lG_11) rfl rfl f3 dG_settle_14 ?_
      refine z_iload_n (j := 0) X dG_settle_17 rfl rfl ?_
      rcases he : k1 o with _ | r
      · refine z_aaldN (t0 := 6) X (kd_GA htp) (by decide) (by decide) (by decide) rfl (by omega) (by decide) (by rw [hent, he]; rfl) dG_settle_18 ?_
        refine z_ifnullN (tgt := 45) X dG_settle_19 (by decide) ?_
        refine z_iinc (j := 0) (v := (nI (o + 1))) (L' := [(3, .int (nI (o + 1))), (0, .ref (60 + tp)), (1, .int q), (2, .int x)]) X dG_settle_45 rfl (nI_1 o) (by decide) rfl ?_
        refine z_goto (tgt := 5) X dG_settle_48 (by decide) ?_
        exact ih (o + 1) S1 k1 (by omega) (by omega) (by omega) (fun j => by
          by_cases e9 : j = o
          · subst e9; rw [if_pos (by omega), ← heo, he]; rfl
          · rw [hk j]; by_cases e8 : j < o
            · rw [if_pos e8, if_pos (by omega)]
            · rw [if_neg e8, if_neg (by omega)]) h1 hfr hdm
      · refine z_aald (t0 := 6) X (kd_GA htp) (by decide) (by decide) (by decide) rfl (by omega) (by decide) (by rw [hent, he]; rfl) dG_settle_18 ?_
        refine z_ifnull X dG_settle_19 ?_
        refine z_aload_n (j := 1) X dG_settle_22 rfl rfl ?_
        refine z_getr (C := RG) (T := TG) (N := 9) (k := 3) X (w_in inG) rfl rfl (kd_G htp) (by decide) (w_m lG_11) rfl rfl f3 dG_settle_23 ?_
        refine z_iload_n (j := 0) X dG_settle_26 rfl rfl ?_
        refine z_aald (t0 := 6) X (kd_GA htp) (by decide) (by decide) (by decide) rfl (by omega) (by decide) (by rw [hent, he]; rfl) dG_settle_27 ?_
        refine z_iload_n (j := 2) X dG_settle_28 rfl rfl ?_
        refine z_callV (n := 1) (As := [.int q]) (rest := []) X zG0_m (mE_isUndecidedOf l D dA (o := o) htp (by omega) (hee o r he)) (w_V X.2.2.2.2.1 lG_54 jE_isUndecidedOf sE_isUndecidedOf i_LogBroker_Entry kE_isUndecidedOf rfl rfl (by decide +kernel) ⟨Nat.le_of_ble_eq_true rfl, Nat.le_of_ble_eq_true rfl⟩) (kd_E htp (by omega)) rfl rfl rfl rfl (Nat.le_of_ble_eq_true rfl) dG_settle_29 ⟨Nat.le_of_ble_eq_true rfl, Nat.le_of_ble_eq_true rfl⟩ (fun v S2 hp => ?_) (fun E S1 hx => hx.elim)
        obtain ⟨hv, hS2⟩ := hp
        subst hv
        have hS2 := hS2.symm
        subst hS2
        by_cases hq : r.2.2.2.2 = nI 2 ∧ r.2.2.2.1 = q
        · rw [if_pos hq]
          refine z_if_eq (tgt := 45) X dG_settle_32 (by decide) (fun c_32 => absurd c_32 (by decide)) (fun c_32 => ?_)
          refine z_aload_n (j := 1) X dG_settle_35 rfl rfl ?_
          refine z_getr (C := RG) (T := TG) (N := 9) (k := 3) X (w_in inG) rfl rfl (kd_G htp) (by decide) (w_m lG_11) rfl rfl f3 dG_settle_36 ?_
          refine z_iload_n (j := 0) X dG_settle_39 rfl rfl ?_
          refine z_aald (t0 := 6) X (kd_GA htp) (by decide) (by decide) (by decide) rfl (by omega) (by decide) (by rw [hent, he]; rfl) dG_settle_40 ?_
          refine z_iload_n (j := 3) X dG_settle_41 rfl rfl ?_
          refine z_puti (C := RE) (T := TE) (N := 5) (k := 4) X (w_in inE) rfl rfl (kd_E htp (by omega)) (by decide) (w_m lG_51) rfl tyE tyE_ok nmE rfl rfl (ty := .int) (by decide +kernel) rfl rfl dG_settle_42 ?_
          refine z_iinc (j := 0) (v := (nI (o + 1))) (L' := [(3, .int (nI (o + 1))), (0, .ref (60 + tp)), (1, .int q), (2, .int x)]) X dG_settle_45 rfl (nI_1 o) (by decide) rfl ?_
          refine z_goto (tgt := 5) X dG_settle_48 (by decide) ?_
          have h2 : zLogA (zsi S1 (200 + 60 * tp + o) 4 x) tp (g.1, g.2.1, fun j => if j = o then some (r.1, r.2.1, r.2.2.1, r.2.2.2.1, x) else k1 j) := zLogA_st (g := (g.1, g.2.1, k1)) h1 htp (by omega) he
          have h3 : zfr (zOwnG tp) S (zsi S1 (200 + 60 * tp + o) 4 x) := hfr.tr (zfr.i (Or.inr (Or.inr ⟨by omega, by omega⟩)))
          exact ih (o + 1) (zsi S1 (200 + 60 * tp + o) 4 x) (fun j => if j = o then some (r.1, r.2.1, r.2.2.1, r.2.2.2.1, x) else k1 j) (by omega) (by omega) (by omega) (fun j => by
            by_cases e9 : j = o
            · subst e9; rw [if_pos rfl, if_pos (show j < j + 1 by omega), ← heo, he]; show _ = some (zSt1 q x r); unfold zSt1; rw [if_pos hq]
            · rw [if_neg e9, hk j]; by_cases e8 : j < o
              · rw [if_pos e8, if_pos (by omega)]
              · rw [if_neg e8, if_neg (by omega)]) h2 h3 hdm
        · rw [if_neg hq]
          refine z_if_eq (tgt := 45) X dG_settle_32 (by decide) (fun c_32 => ?_) (fun c_32 => absurd c_32 (by decide))
          refine z_iinc (j := 0) (v := (nI (o + 1))) (L' := [(3, .int (nI (o + 1))), (0, .ref (60 + tp)), (1, .int q), (2, .int x)]) X dG_settle_45 rfl (nI_1 o) (by decide) rfl ?_
          refine z_goto (tgt := 5) X dG_settle_48 (by decide) ?_
          exact ih (o + 1) S1 k1 (by omega) (by omega) (by omega) (fun j => by
            by_cases e9 : j = o
            · subst e9; rw [if_pos (by omega), ← heo, he]; show _ = some (zSt1 q x r); unfold zSt1; rw [if_neg hq]
            · rw [hk j]; by_cases e8 : j < o
              · rw [if_pos e8, if_pos (by omega)]
              · rw [if_neg e8, if_neg (by omega)]) h1 hfr hdm
  refine z_aload_n (j := 0) X dG_settle_0 rfl rfl ?_
  refine z_geti (C := RG) (T := TG) (N := 9) (k := 4) X (w_in inG) rfl rfl (kd_G htp) (by decide) (w_m lG_44) rfl rfl dG_settle_1 (hv := f4) ?_
  refine z_istore_n (L' := [(3, .int (nI g.2.1.1)), (0, .ref (60 + tp)), (1, .int q), (2, .int x)]) X dG_settle_4 rfl (by decide) rfl ?_
  exact loop (g.2.1.2 - g.2.1.1 + 1) g.2.1.1 S g.2.2 (by omega) (Nat.le_refl _) (by omega) (fun j => by
    by_cases h9 : j < g.2.1.1
    · rw [if_pos h9, w9 j h9]; rfl
    · rw [if_neg h9]) hO zfr.rf rfl
