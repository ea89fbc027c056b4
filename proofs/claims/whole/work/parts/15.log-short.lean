/-! CONTRACTS of LogBroker$Log: what is seen, shortening (rows by program) -/
set_option maxHeartbeats 600000 in
set_option maxRecDepth 100000 in
theorem mG_firstVisibleT (l : Launch) (D : va_G) (dA : Nat → ClassId) {S : zS} {tp : Nat} {g : zLg} {o0 : Nat} (htp : tp < 12) (hO : zLogA S tp g) (hW : zLogW g) (ho0 : o0 ≤ 60) : zMet l D vwCl zKK dA (zG0 D dA) yG_firstVisible (Cond.code yG_firstVisible cG_firstVisible 5 (some .int) :: zTs) { frames := 1, cells := 0, slots := 0, locals := 21 } 0 0 [.ref (60 + tp), .int (nI o0), .int (nI 1)] S (fun v S' => v = some (.int (zOI (zVis g o0 true))) ∧ S' = S) (fun _ _ => False) := by
  refine z_met (tys := ztys dA) (by decide) rfl zG0_K rfl (Nat.le_of_ble_eq_true rfl) (fun p e s m args below meth c A ad X hr hlocks hin hex => ?_)
  obtain ⟨hd1, hd2, f0, f1, f2, f3, f4, f5, f6, f7, f8, hent, hee⟩ := id hO
  obtain ⟨w1, w2, w3, w4, w5, w6, w7, w8, w9⟩ := id hW
  have wb := zBa_le g
  have wp : zPr g ≤ 60 := zcnt_le
  have wst := zStab_le g (by omega)
  have loop : ∀ (f o : Nat), zStab g - o < f → o0 ≤ o → o ≤ 60 → (∀ j, o0 ≤ j → j < o → zSee true (g.2.2 j) = false) → AW p l e { frames := 1, cells := 0, slots := 0, locals := 21 } s m args below meth c D vwCl zKK dA A (ad, S) 5 S (0 + 0) (0 + 0) (vx_MQ below (zQc D vwCl zKK dA A ad S (fun v S' => v = some (.int (zOI (zVis g o0 true))) ∧ S' = S)) (zXC D vwCl zKK dA A ad S (fun _ _ => False)) args s 0 0 A) 19 [(4, .int (nI o)), (3, .int (nI (zStab g))), (0, .ref (60 + tp)), (1, .int (nI o0)), (2, .int (nI 1))] [] := by
    intro f
    induction f with
    | zero => intro o h0; omega
    | succ f ih =>
    intro o h0 hi1 hi2 hi3
    refine z_iload (j := 0) X dG_firstVisible_19 rfl ?_
    refine z_iload_n (j := 1) X dG_firstVisible_21 rfl rfl ?_
    refine z_icmp_geN (tgt := 60) X dG_firstVisible_22 (by decide) (by omega) (by omega) (fun c_22 => ?_) (fun c_22 => ?_)
    · refine z_iconst (v := (-1)) X dG_firstVisible_60 (by decide) ?_
      refine z_iret X hlocks hr dG_firstVisible_61 (by omega) (by omega) ?_
      refine ⟨?_, rfl⟩
      show some (Value.int _) = some (Value.int (zOI (zfind (fun j => zSee true (g.2.2 j)) (zStab g - o0) o0)))
      rw [zfind_none (fun j h1 h2 => hi3 j h1 (by omega))]
      rfl
    · refine z_aload_n (j := 2) X dG_firstVisible_25 rfl rfl ?_
      refine z_iload (j := 0) X dG_firstVisible_26 rfl ?_
      refine z_callV (n := 1) (As := [.int (nI o)]) (rest := []) X zG0_m (mG_hasData l D dA (o := o) htp hO hW (by omega)) (w_V X.2.2.2.2.1 lG_61 jG_hasData sG_hasData i_LogBroker_Log kG_hasData rfl rfl (by decide +kernel) ⟨Nat.le_of_ble_eq_true rfl, Nat.le_of_ble_eq_true rfl⟩) (kd_G htp) rfl rfl rfl rfl (Nat.le_of_ble_eq_true rfl) dG_firstVisible_28 ⟨Nat.le_of_ble_eq_true rfl, Nat.le_of_ble_eq_true rfl⟩ (fun v S1 hp => ?_) (fun E S1 hx => hx.elim)
      obtain ⟨hv, hS1⟩ := hp
      subst hv
      have hS1 := hS1.symm
      subst hS1
      rcases he : g.2.2 o with _ | r
      · rw [if_neg (by decide)]
        refine z_if_eq (tgt := 54) X dG_firstVisible_31 (by decide) (fun c_31 => ?_) (fun c_31 => absurd c_31 (by decide))
        refine z_iinc (j := 0) (v := (nI (o + 1))) (L' := [(4, .int (nI (o + 1))), (3, .int (nI (zStab g))), (0, .ref (60 + tp)), (1, .int (nI o0)), (2, .int (nI 1))]) X dG_firstVisible_54 rfl (nI_1 o) (by decide) rfl ?_
        refine z_goto (tgt := 19) X dG_firstVisible_57 (by decide) ?_
        exact ih (o + 1) (by omega) (by omega) (by omega) (fun j h1 h2 => by
          by_cases e9 : j = o
          · subst e9; rw [he]; rfl
          · exact hi3 j h1 (by omega))
      · by_cases hk0 : r.1 = nI 0
        · rw [if_pos (show zData (some r) = true from decide_eq_true hk0)]
          refine z_if_eq (tgt := 54) X dG_firstVisible_31 (by decide) (fun c_31 => absurd c_31 (by decide)) (fun c_31 => ?_)
          refine z_iload_n (j := 4) X dG_firstVisible_34 rfl rfl ?_
          refine z_if_eq (tgt := 51) X dG_firstVisible_35 (by decide) (fun c_35 => absurd c_35 (by decide)) (fun c_35 => ?_)
          refine z_aload_n (j := 2) X dG_firstVisible_38 rfl rfl ?_
          refine z_getr (C := RG) (T := TG) (N := 9) (k := 3) X (w_in inG) rfl rfl (kd_G htp) (by decide) (w_m lG_11) rfl rfl f3 dG_firstVisible_39 ?_
          refine z_iload (j := 0) X dG_firstVisible_42 rfl ?_
          refine z_aald (t0 := 6) X (kd_GA htp) (by decide) (by decide) (by decide) rfl (by omega) (by decide) (by rw [hent, he]; rfl) dG_firstVisible_44 ?_
          refine z_geti (C := RE) (T := TE) (N := 5) (k := 4) X (w_in inE) rfl rfl (kd_E htp (by omega)) (by decide) (w_m lG_51) rfl rfl dG_firstVisible_45 (hv := (hee o r he).2.2.2.2.2) ?_
          refine z_if_ne (tgt := 54) X dG_firstVisible_48 (by decide) (fun c_48 => ?_) (fun c_48 => ?_)
          · refine z_iinc (j := 0) (v := (nI (o + 1))) (L' := [(4, .int (nI (o + 1))), (3, .int (nI (zStab g))), (0, .ref (60 + tp)), (1, .int (nI o0)), (2, .int (nI 1))]) X dG_firstVisible_54 rfl (nI_1 o) (by decide) rfl ?_
            refine z_goto (tgt := 19) X dG_firstVisible_57 (by decide) ?_
            exact ih (o + 1) (by omega) (by omega) (by omega) (fun j h1 h2 => by
              by_cases e9 : j = o
              · subst e9; rw [he]; show (decide _ && (_ || decide _)) = false; rw [decide_eq_false (p := r.2.2.2.2 = nI 0) (fun h => c_48 (h.trans nI_0))]; simp
              · exact hi3 j h1 (by omega))
          · refine z_iload (j := 0) X dG_firstVisible_51 rfl ?_
            refine z_iret X hlocks hr dG_firstVisible_53 (by omega) (by omega) ?_
            refine ⟨?_, rfl⟩
            show some (Value.int _) = some (Value.int (zOI (zfind (fun j => zSee true (g.2.2 j)) (zStab g - o0) o0)))
            rw [zfind_some (x := o) hi1 (by omega) hi3 (by rw [he]; show (decide _ && (_ || decide _)) = true; rw [decide_eq_true hk0, decide_eq_true (c_48.trans nI_0.symm)]; rfl)]
            rfl
        · rw [if_neg (show ¬ zData (some r) = true from fun h => hk0 (of_decide_eq_true h))]
          refine z_if_eq (tgt := 54) X dG_firstVisible_31 (by decide) (fun c_31 => ?_) (fun c_31 => absurd c_31 (by decide))
          refine z_iinc (j := 0) (v := (nI (o + 1))) (L' := [(4, .int (nI (o + 1))), (3, .int (nI (zStab g))), (0, .ref (60 + tp)), (1, .int (nI o0)), (2, .int (nI 1))]) X dG_firstVisible_54 rfl (nI_1 o) (by decide) rfl ?_
          refine z_goto (tgt := 19) X dG_firstVisible_57 (by decide) ?_
          exact ih (o + 1) (by omega) (by omega) (by omega) (fun j h1 h2 => by
            by_cases e9 : j = o
            · subst e9; rw [he]; show (decide _ && _) = false; rw [decide_eq_false hk0]; rfl
            · exact hi3 j h1 (by omega))
  refine z_iload_n (j := 2) X dG_firstVisible_0 rfl rfl ?_
  refine z_if_eq (tgt := 11) X dG_firstVisible_1 (by decide) (fun c_1 => absurd c_1 (by decide)) (fun c_1 => ?_)
  refine z_aload_n (j := 0) X dG_firstVisible_4 rfl rfl ?_
  refine z_callV (n := 0) (As := []) (rest := []) X zG0_m (mG_stableOffset l D dA htp hO hW) (w_V X.2.2.2.2.1 lG_40 jG_stableOffset sG_stableOffset i_LogBroker_Log kG_stableOffset rfl rfl (by decide +kernel) ⟨Nat.le_of_ble_eq_true rfl, Nat.le_of_ble_eq_true rfl⟩) (kd_G htp) rfl rfl rfl rfl (Nat.le_of_ble_eq_true rfl) dG_firstVisible_5 ⟨Nat.le_of_ble_eq_true rfl, Nat.le_of_ble_eq_true rfl⟩ (fun v S1 hp => ?_) (fun E S1 hx => hx.elim)
  obtain ⟨hv, hS1⟩ := hp
  subst hv
  have hS1 := hS1.symm
  subst hS1
  refine z_goto (tgt := 15) X dG_firstVisible_8 (by decide) ?_
  refine z_istore_n (L' := [(3, .int (nI (zStab g))), (0, .ref (60 + tp)), (1, .int (nI o0)), (2, .int (nI 1))]) X dG_firstVisible_15 rfl (by decide) rfl ?_
  refine z_iload_n (j := 2) X dG_firstVisible_16 rfl rfl ?_
  refine z_istore (L' := [(4, .int (nI o0)), (3, .int (nI (zStab g))), (0, .ref (60 + tp)), (1, .int (nI o0)), (2, .int (nI 1))]) X dG_firstVisible_17 (by decide) rfl ?_
  exact loop (zStab g - o0 + 1) o0 (by omega) (Nat.le_refl _) ho0 (fun j h1 h2 => by omega)

set_option maxHeartbeats 600000 in
set_option maxRecDepth 100000 in
theorem mG_firstVisibleF (l : Launch) (D : va_G) (dA : Nat → ClassId) {S : zS} {tp : Nat} {g : zLg} {o0 : Nat} (htp : tp < 12) (hO : zLogA S tp g) (hW : zLogW g) (ho0 : o0 ≤ 60) : zMet l D vwCl zKK dA (zG0 D dA) yG_firstVisible (Cond.code yG_firstVisible cG_firstVisible 5 (some .int) :: zTs) { frames := 1, cells := 0, slots := 0, locals := 21 } 0 0 [.ref (60 + tp), .int (nI o0), .int (nI 0)] S (fun v S' => v = some (.int (zOI (zVis g o0 false))) ∧ S' = S) (fun _ _ => False) := by
  refine z_met (tys := ztys dA) (by decide) rfl zG0_K rfl (Nat.le_of_ble_eq_true rfl) (fun p e s m args below meth c A ad X hr hlocks hin hex => ?_)
  obtain ⟨hd1, hd2, f0, f1, f2, f3, f4, f5, f6, f7, f8, hent, hee⟩ := id hO
  obtain ⟨w1, w2, w3, w4, w5, w6, w7, w8, w9⟩ := id hW
  have wb := zBa_le g
  have wp : zPr g ≤ 60 := zcnt_le
  have wst := zStab_le g (by omega)
  have loop : ∀ (f o : Nat), g.2.1.2 - o < f → o0 ≤ o → o ≤ 60 → (∀ j, o0 ≤ j → j < o → zSee false (g.2.2 j) = false) → AW p l e { frames := 1, cells := 0, slots := 0, locals := 21 } s m args below meth c D vwCl zKK dA A (ad, S) 5 S (0) (0) (vx_MQ below (zQc D vwCl zKK dA A ad S (fun v S' => v = some (.int (zOI (zVis g o0 false))) ∧ S' = S)) (zXC D vwCl zKK dA A ad S (fun _ _ => False)) args s 0 0 A) 19 [(4, .int (nI o)), (3, .int (nI (g.2.1.2))), (0, .ref (60 + tp)), (1, .int (nI o0)), (2, .int (nI 0))] [] := by
    intro f
    induction f with
    | zero => intro o h0; omega
    | succ f ih =>
    intro o h0 hi1 hi2 hi3
    refine z_iload (j := 0) X dG_firstVisible_19 rfl ?_
    refine z_iload_n (j := 1) X dG_firstVisible_21 rfl rfl ?_
    refine z_icmp_geN (tgt := 60) X dG_firstVisible_22 (by decide) (by omega) (by omega) (fun c_22 => ?_) (fun c_22 => ?_)
    · refine z_iconst (v := (-1)) X dG_firstVisible_60 (by decide) ?_
      refine z_iret X hlocks hr dG_firstVisible_61 (by omega) (by omega) ?_
      refine ⟨?_, rfl⟩
      show some (Value.int _) = some (Value.int (zOI (zfind (fun j => zSee false (g.2.2 j)) (g.2.1.2 - o0) o0)))
      rw [zfind_none (fun j h1 h2 => hi3 j h1 (by omega))]
      rfl
    · refine z_aload_n (j := 2) X dG_firstVisible_25 rfl rfl ?_
      refine z_iload (j := 0) X dG_firstVisible_26 rfl ?_
      refine z_callV (n := 1) (As := [.int (nI o)]) (rest := []) X zG0_m (mG_hasData l D dA (o := o) htp hO hW (by omega)) (w_V X.2.2.2.2.1 lG_61 jG_hasData sG_hasData i_LogBroker_Log kG_hasData rfl rfl (by decide +kernel) ⟨Nat.le_of_ble_eq_true rfl, Nat.le_of_ble_eq_true rfl⟩) (kd_G htp) rfl rfl rfl rfl (Nat.le_of_ble_eq_true rfl) dG_firstVisible_28 ⟨Nat.le_of_ble_eq_true rfl, Nat.le_of_ble_eq_true rfl⟩ (fun v S1 hp => ?_) (fun E S1 hx => hx.elim)
      obtain ⟨hv, hS1⟩ := hp
      subst hv
      have hS1 := hS1.symm
      subst hS1
      rcases he : g.2.2 o with _ | r
      · rw [if_neg (by decide)]
        refine z_if_eq (tgt := 54) X dG_firstVisible_31 (by decide) (fun c_31 => ?_) (fun c_31 => absurd c_31 (by decide))
        refine z_iinc (j := 0) (v := (nI (o + 1))) (L' := [(4, .int (nI (o + 1))), (3, .int (nI (g.2.1.2))), (0, .ref (60 + tp)), (1, .int (nI o0)), (2, .int (nI 0))]) X dG_firstVisible_54 rfl (nI_1 o) (by decide) rfl ?_
        refine z_goto (tgt := 19) X dG_firstVisible_57 (by decide) ?_
        exact ih (o + 1) (by omega) (by omega) (by omega) (fun j h1 h2 => by
          by_cases e9 : j = o
          · subst e9; rw [he]; rfl
          · exact hi3 j h1 (by omega))
      · by_cases hk0 : r.1 = nI 0
        · rw [if_pos (show zData (some r) = true from decide_eq_true hk0)]
          refine z_if_eq (tgt := 54) X dG_firstVisible_31 (by decide) (fun c_31 => absurd c_31 (by decide)) (fun c_31 => ?_)
          refine z_iload_n (j := 4) X dG_firstVisible_34 rfl rfl ?_
          refine z_if_eq (tgt := 51) X dG_firstVisible_35 (by decide) (fun c_35 => ?_) (fun c_35 => absurd c_35 (by decide))
          refine z_iload (j := 0) X dG_firstVisible_51 rfl ?_
          refine z_iret X hlocks hr dG_firstVisible_53 (by omega) (by omega) ?_
          refine ⟨?_, rfl⟩
          show some (Value.int _) = some (Value.int (zOI (zfind (fun j => zSee false (g.2.2 j)) (g.2.1.2 - o0) o0)))
          rw [zfind_some (x := o) hi1 (by omega) hi3 (by rw [he]; show (decide _ && (_ || decide _)) = true; rw [decide_eq_true hk0]; rfl)]
          rfl
        · rw [if_neg (show ¬ zData (some r) = true from fun h => hk0 (of_decide_eq_true h))]
          refine z_if_eq (tgt := 54) X dG_firstVisible_31 (by decide) (fun c_31 => ?_) (fun c_31 => absurd c_31 (by decide))
          refine z_iinc (j := 0) (v := (nI (o + 1))) (L' := [(4, .int (nI (o + 1))), (3, .int (nI (g.2.1.2))), (0, .ref (60 + tp)), (1, .int (nI o0)), (2, .int (nI 0))]) X dG_firstVisible_54 rfl (nI_1 o) (by decide) rfl ?_
          refine z_goto (tgt := 19) X dG_firstVisible_57 (by decide) ?_
          exact ih (o + 1) (by omega) (by omega) (by omega) (fun j h1 h2 => by
            by_cases e9 : j = o
            · subst e9; rw [he]; show (decide _ && _) = false; rw [decide_eq_false hk0]; rfl
            · exact hi3 j h1 (by omega))
  refine z_iload_n (j := 2) X dG_firstVisible_0 rfl rfl ?_
  refine z_if_eq (tgt := 11) X dG_firstVisible_1 (by decide) (fun c_1 => ?_) (fun c_1 => absurd c_1 (by decide))
  refine z_aload_n (j := 0) X dG_firstVisible_11 rfl rfl ?_
  refine z_geti (C := RG) (T := TG) (N := 9) (k := 5) X (w_in inG) rfl rfl (kd_G htp) (by decide) (w_m lG_28) rfl rfl dG_firstVisible_12 (hv := f5) ?_
  refine z_istore_n (L' := [(3, .int (nI g.2.1.2)), (0, .ref (60 + tp)), (1, .int (nI o0)), (2, .int (nI 0))]) X dG_firstVisible_15 rfl (by decide) rfl ?_
  refine z_iload_n (j := 2) X dG_firstVisible_16 rfl rfl ?_
  refine z_istore (L' := [(4, .int (nI o0)), (3, .int (nI g.2.1.2)), (0, .ref (60 + tp)), (1, .int (nI o0)), (2, .int (nI 0))]) X dG_firstVisible_17 (by decide) rfl ?_
  exact loop (g.2.1.2 - o0 + 1) o0 (by omega) (Nat.le_refl _) ho0 (fun j h1 h2 => by omega)

set_option maxHeartbeats 600000 in
set_option maxRecDepth 100000 in
theorem mG_shorten (l : Launch) (D : va_G) (dA : Nat → ClassId) {S : zS} {tp : Nat} {g : zLg} (htp : tp < 12) (hO : zLogA S tp g) (hW : zLogW g) : zMet l D vwCl zKK dA (zG0 D dA) yG_shorten (Cond.code yG_shorten cG_shorten 4 (some .int) :: zTs) { frames := 1, cells := 0, slots := 0, locals := 21 } 0 0 [.ref (60 + tp)] S (fun v S' => v = some (.int (nI (zPr g - zPr (zShort (zStab g) 61 g)))) ∧ zLogA S' tp (zShort (zStab g) 61 g) ∧ zLogW (zShort (zStab g) 61 g) ∧ zfr (zOwnG tp) S S' ∧ S'.1 = S.1) (fun _ _ => False) := by
  refine z_met (tys := ztys dA) (by decide) rfl zG0_K rfl (Nat.le_of_ble_eq_true rfl) (fun p e s m args below meth c A ad X hr hlocks hin hex => ?_)
  obtain ⟨hd1, hd2, f0, f1, f2, f3, f4, f5, f6, f7, f8, hent, hee⟩ := id hO
  obtain ⟨w1, w2, w3, w4, w5, w6, w7, w8, w9⟩ := id hW
  have wb := zBa_le g
  have wp : zPr g ≤ 60 := zcnt_le
  have wst := zStab_le g (by omega)
  have wc : zCl g ≤ zBa g - g.2.1.1 := Nat.div_le_self _ _
  have loop : ∀ (f : Nat) (S1 : zS) (g1 : zLg) (ku kv : Nat), zCl g1 < f → zLogA S1 tp g1 → zLogW g1 → zfr (zOwnG tp) S S1 → S1.1 = S.1 → zShort (zStab g) f g1 = zShort (zStab g) 61 g → zPr g1 ≤ zPr g → AW p l e { frames := 1, cells := 0, slots := 0, locals := 21 } s m args below meth c D vwCl zKK dA A (ad, S) 4 S1 0 0 (vx_MQ below (zQc D vwCl zKK dA A ad S (fun v S' => v = some (.int (nI (zPr g - zPr (zShort (zStab g) 61 g)))) ∧ zLogA S' tp (zShort (zStab g) 61 g) ∧ zLogW (zShort (zStab g) 61 g) ∧ zfr (zOwnG tp) S S' ∧ S'.1 = S.1)) (zXC D vwCl zKK dA A ad S (fun _ _ => False)) args s 0 0 A) 10 [(2, .int (nI (zStab g))), (1, .int (nI (zPr g))), (0, .ref (60 + tp))] [] := by
    intro f
    induction f with
    | zero => intro S1 g1 ku kv h0; omega
    | succ f ih =>
    intro S1 g1 ku kv h0 h1 hW1 hfr hdm hF hple
    obtain ⟨hd1, hd2, f0, f1, f2, f3, f4, f5, f6, f7, f8, hent, hee⟩ := id h1
    obtain ⟨v1, v2, v3, v4, v5, v6, v7, v8, v9⟩ := id hW1
    have vb := zBa_le g1
    have vp : zPr g1 ≤ 60 := zcnt_le
    have vc : zCl g1 ≤ zBa g1 - g1.2.1.1 := Nat.div_le_self _ _
    refine z_aload_n (j := 2) X dG_shorten_10 rfl rfl ?_
    refine z_geti (C := RG) (T := TG) (N := 9) (k := 7) X (w_in inG) rfl rfl (kd_G htp) (by decide) (w_m lG_37) rfl rfl dG_shorten_11 (hv := f7) ?_
    refine z_aload_n (j := 2) X dG_shorten_14 rfl rfl ?_
    refine z_geti (C := RG) (T := TG) (N := 9) (k := 1) X (w_in inG) rfl rfl (kd_G htp) (by decide) (w_m lG_21) rfl rfl dG_shorten_15 (hv := f1) ?_
    refine z_icmp_leN (tgt := 89) X dG_shorten_18 (by decide) (by omega) (by omega) (fun c_18 => ?_) (fun c_18 => ?_)
    · refine z_iload_n (j := 1) X dG_shorten_89 rfl rfl ?_
      refine z_aload_n (j := 2) X dG_shorten_90 rfl rfl ?_
      refine z_geti (C := RG) (T := TG) (N := 9) (k := 8) X (w_in inG) rfl rfl (kd_G htp) (by decide) (w_m lG_31) rfl rfl dG_shorten_91 (hv := f8) ?_
      refine z_isub X dG_shorten_94 ?_
      refine z_top (pk_sub (a := zPr g) (b := zPr g1) (by omega)) ?_
      refine z_iret X hlocks hr dG_shorten_95 (by omega) (by omega) ?_
      have hz : zShort (zStab g) (f + 1) g1 = g1 := if_neg (by omega)
      rw [← hF, hz]
      exact ⟨rfl, h1, hW1, hfr, hdm⟩
    · refine z_aload_n (j := 2) X dG_shorten_21 rfl rfl ?_
      refine z_geti (C := RG) (T := TG) (N := 9) (k := 4) X (w_in inG) rfl rfl (kd_G htp) (by decide) (w_m lG_44) rfl rfl dG_shorten_22 (hv := f4) ?_
      refine z_aload_n (j := 2) X dG_shorten_25 rfl rfl ?_
      refine z_geti (C := RG) (T := TG) (N := 9) (k := 0) X (w_in inG) rfl rfl (kd_G htp) (by decide) (w_m lG_17) rfl rfl dG_shorten_26 (hv := f0) ?_
      refine z_iadd X dG_shorten_29 ?_
      refine z_top (nI_add g1.2.1.1 g1.1.1) ?_
      refine z_iload_n (j := 0) X dG_shorten_30 rfl rfl ?_
      refine z_icmp_gtN (tgt := 89) X dG_shorten_31 (by decide) (by omega) (by omega) (fun c_31 => ?_) (fun c_31 => ?_)
      · refine z_iload_n (j := 1) X dG_shorten_89 rfl rfl ?_
        refine z_aload_n (j := 2) X dG_shorten_90 rfl rfl ?_
        refine z_geti (C := RG) (T := TG) (N := 9) (k := 8) X (w_in inG) rfl rfl (kd_G htp) (by decide) (w_m lG_31) rfl rfl dG_shorten_91 (hv := f8) ?_
        refine z_isub X dG_shorten_94 ?_
        refine z_top (pk_sub (a := zPr g) (b := zPr g1) (by omega)) ?_
        refine z_iret X hlocks hr dG_shorten_95 (by omega) (by omega) ?_
        have hz : zShort (zStab g) (f + 1) g1 = g1 := if_neg (by omega)
        rw [← hF, hz]
        exact ⟨rfl, h1, hW1, hfr, hdm⟩
      · refine z_aload_n (j := 2) X dG_shorten_34 rfl rfl ?_
        refine z_geti (C := RG) (T := TG) (N := 9) (k := 4) X (w_in inG) rfl rfl (kd_G htp) (by decide) (w_m lG_44) rfl rfl dG_shorten_35 (hv := f4) ?_
        refine z_istore_n (L' := [(3, .int (nI g1.2.1.1)), (2, .int (nI (zStab g))), (1, .int (nI (zPr g))), (0, .ref (60 + tp))]) X dG_shorten_38 rfl (by decide) rfl ?_
        have hcl := zCl_sh1 hW1 (by omega)
        have inner : ∀ (f2 o : Nat) (S2 : zS) (k2 : Nat → Option zE) (ku kv : Nat), g1.2.1.1 + g1.1.1 - o < f2 → g1.2.1.1 ≤ o → o ≤ g1.2.1.1 + g1.1.1 → (∀ j, k2 j = if g1.2.1.1 ≤ j ∧ j < o then none else g1.2.2 j) → zLogA S2 tp (g1.1, g1.2.1, k2) → zLogW (g1.1, g1.2.1, k2) → zfr (zOwnG tp) S S2 → S2.1 = S.1 → AW p l e { frames := 1, cells := 0, slots := 0, locals := 21 } s m args below meth c D vwCl zKK dA A (ad, S) 4 S2 0 0 (vx_MQ below (zQc D vwCl zKK dA A ad S (fun v S' => v = some (.int (nI (zPr g - zPr (zShort (zStab g) 61 g)))) ∧ zLogA S' tp (zShort (zStab g) 61 g) ∧ zLogW (zShort (zStab g) 61 g) ∧ zfr (zOwnG tp) S S' ∧ S'.1 = S.1)) (zXC D vwCl zKK dA A ad S (fun _ _ => False)) args s 0 0 A) 39 [(3, .int (nI o)), (2, .int (nI (zStab g))), (1, .int (nI (zPr g))), (0, .ref (60 + tp))] [] := by
          intro f2
          induction f2 with
          | zero => intro o S2 k2 ku kv h0; omega
          | succ f2 ih2 =>
          intro o S2 k2 ku kv h0 hi1 hi2 hk h2 hW2 hfr2 hdm2
          obtain ⟨hd1, hd2, f0, f1, f2, f3, f4, f5, f6, f7, f8, hent, hee⟩ := id h2
          have f0 : S2.2.1 (60 + tp) 0 = nI g1.1.1 := f0
          have f4 : S2.2.1 (60 + tp) 4 = nI g1.2.1.1 := f4
          have f7 : S2.2.1 (60 + tp) 7 = nI (zCl g1) := f7
          refine z_iload_n (j := 0) X dG_shorten_39 rfl rfl ?_
          refine z_aload_n (j := 3) X dG_shorten_40 rfl rfl ?_
          refine z_geti (C := RG) (T := TG) (N := 9) (k := 4) X (w_in inG) rfl rfl (kd_G htp) (by decide) (w_m lG_44) rfl rfl dG_shorten_41 (hv := f4) ?_
          refine z_aload_n (j := 3) X dG_shorten_44 rfl rfl ?_
          refine z_geti (C := RG) (T := TG) (N := 9) (k := 0) X (w_in inG) rfl rfl (kd_G htp) (by decide) (w_m lG_17) rfl rfl dG_shorten_45 (hv := f0) ?_
          refine z_iadd X dG_shorten_48 ?_
          refine z_top (nI_add g1.2.1.1 g1.1.1) ?_
          refine z_icmp_geN (tgt := 63) X dG_shorten_49 (by decide) (by omega) (by omega) (fun c_49 => ?_) (fun c_49 => ?_)
          · refine z_aload_n (j := 3) X dG_shorten_63 rfl rfl ?_
            refine z_dup X dG_shorten_64 rfl ?_
            refine z_geti (C := RG) (T := TG) (N := 9) (k := 4) X (w_in inG) rfl rfl (kd_G htp) (by decide) (w_m lG_44) rfl rfl dG_shorten_65 (hv := f4) ?_
            refine z_aload_n (j := 3) X dG_shorten_68 rfl rfl ?_
            refine z_geti (C := RG) (T := TG) (N := 9) (k := 0) X (w_in inG) rfl rfl (kd_G htp) (by decide) (w_m lG_17) rfl rfl dG_shorten_69 (hv := f0) ?_
            refine z_iadd X dG_shorten_72 ?_
            refine z_top (nI_add g1.2.1.1 g1.1.1) ?_
            refine z_puti (C := RG) (T := TG) (N := 9) (k := 4) X (w_in inG) rfl rfl (kd_G htp) (by decide) (w_m lG_44) rfl tyG tyG_ok nmG rfl rfl (ty := .int) (by decide +kernel) rfl rfl dG_shorten_73 ?_
            refine z_aload_n (j := 3) X dG_shorten_76 rfl rfl ?_
            refine z_dup X dG_shorten_77 rfl ?_
            refine z_geti (C := RG) (T := TG) (N := 9) (k := 7) X (w_in inG) rfl rfl (kd_G htp) (by decide) (w_m lG_37) rfl rfl dG_shorten_78 (hv := (rd_i (Or.inr (by decide)) f7)) ?_
            refine z_iconst (v := (nI 1)) X dG_shorten_81 (by decide) ?_
            refine z_isub X dG_shorten_82 ?_
            refine z_top (pk_sub (a := zCl g1) (b := 1) (by omega)) ?_
            refine z_puti (C := RG) (T := TG) (N := 9) (k := 7) X (w_in inG) rfl rfl (kd_G htp) (by decide) (w_m lG_37) rfl tyG tyG_ok nmG rfl rfl (ty := .int) (by decide +kernel) rfl rfl dG_shorten_83 ?_
            refine z_goto (tgt := 10) X dG_shorten_86 (by decide) ?_
            have hk2 : k2 = (zSh1 g1).2.2 := by
              funext j
              rw [hk j]
              show _ = if j < g1.2.1.1 + g1.1.1 then none else g1.2.2 j
              by_cases e8 : j < g1.2.1.1 + g1.1.1
              · rw [if_pos e8]
                by_cases e7 : g1.2.1.1 ≤ j
                · rw [if_pos (by omega)]
                · rw [if_neg (by omega), v9 j (by omega)]
              · rw [if_neg e8, if_neg (by omega)]
            rw [hk2] at h2
            have hz : zShort (zStab g) (f + 1) g1 = zShort (zStab g) f (zSh1 g1) := if_pos ⟨by omega, by omega⟩
            refine z_loc [1, 2, 3] rfl ?_
            exact ih _ (zSh1 g1) 0 0 (by rw [hcl.1]; omega) (zLogA_sh1 h2 hcl.1) (zLogW_sh1 hW1 (by omega)) ((hfr2.tr (zfr.i (Or.inl rfl))).tr (zfr.i (Or.inl rfl))) hdm2 (hz.symm.trans hF) (Nat.le_trans (zPr_mono (fun o ho => by
              show (if o < g1.2.1.1 + g1.1.1 then none else g1.2.2 o) = none
              by_cases e8 : o < g1.2.1.1 + g1.1.1
              · rw [if_pos e8]
              · rw [if_neg e8]; exact ho)) hple)
          · refine z_aload_n (j := 3) X dG_shorten_52 rfl rfl ?_
            refine z_iload_n (j := 0) X dG_shorten_53 rfl rfl ?_
            refine z_callV (n := 1) (As := [.int (nI o)]) (rest := []) X zG0_m (mG_drop l D dA (g := (g1.1, g1.2.1, k2)) (o := o) htp h2 hW2 (by omega)) (w_V X.2.2.2.2.1 lG_47 jG_drop sG_drop i_LogBroker_Log kG_drop rfl rfl (by decide +kernel) ⟨Nat.le_of_ble_eq_true rfl, Nat.le_of_ble_eq_true rfl⟩) (kd_G htp) rfl rfl rfl rfl (Nat.le_of_ble_eq_true rfl) dG_shorten_54 ⟨Nat.le_of_ble_eq_true rfl, Nat.le_of_ble_eq_true rfl⟩ (fun v S3 hp => ?_) (fun E S1 hx => hx.elim)
            obtain ⟨hv, h3, hf3, hd3⟩ := hp
            subst hv
            refine z_iinc (j := 0) (v := (nI (o + 1))) (L' := [(3, .int (nI (o + 1))), (2, .int (nI (zStab g))), (1, .int (nI (zPr g))), (0, .ref (60 + tp))]) X dG_shorten_57 rfl (nI_1 o) (by decide) rfl ?_
            refine z_goto (tgt := 39) X dG_shorten_60 (by decide) ?_
            exact ih2 (o + 1) S3 (fun j => if j = o then none else k2 j) 0 0 (by omega) (by omega) (by omega) (fun j => by
              by_cases e9 : j = o
              · rw [if_pos e9, if_pos (by omega)]
              · rw [if_neg e9, hk j]
                by_cases e8 : g1.2.1.1 ≤ j ∧ j < o
                · rw [if_pos e8, if_pos (by omega)]
                · rw [if_neg e8, if_neg (by omega)]) h3 (zLogW_drop hW2) (hfr2.tr hf3) (hd3.trans hdm2)
        exact inner (g1.1.1 + 1) g1.2.1.1 S1 g1.2.2 0 0 (by omega) (Nat.le_refl _) (by omega) (fun j => by rw [if_neg (by omega)]) h1 hW1 hfr hdm
  refine z_aload_n (j := 0) X dG_shorten_0 rfl rfl ?_
  refine z_geti (C := RG) (T := TG) (N := 9) (k := 8) X (w_in inG) rfl rfl (kd_G htp) (by decide) (w_m lG_31) rfl rfl dG_shorten_1 (hv := f8) ?_
  refine z_istore_n (L' := [(1, .int (nI (zPr g))), (0, .ref (60 + tp))]) X dG_shorten_4 rfl (by decide) rfl ?_
  refine z_aload_n (j := 1) X dG_shorten_5 rfl rfl ?_
  refine z_callV (n := 0) (As := []) (rest := []) X zG0_m (mG_stableOffset l D dA htp hO hW) (w_V X.2.2.2.2.1 lG_40 jG_stableOffset sG_stableOffset i_LogBroker_Log kG_stableOffset rfl rfl (by decide +kernel) ⟨Nat.le_of_ble_eq_true rfl, Nat.le_of_ble_eq_true rfl⟩) (kd_G htp) rfl rfl rfl rfl (Nat.le_of_ble_eq_true rfl) dG_shorten_6 ⟨Nat.le_of_ble_eq_true rfl, Nat.le_of_ble_eq_true rfl⟩ (fun v S1 hp => ?_) (fun E S1 hx => hx.elim)
  obtain ⟨hv, hS1⟩ := hp
  subst hv
  have hS1 := hS1.symm
  subst hS1
  refine z_istore_n (L' := [(2, .int (nI (zStab g))), (1, .int (nI (zPr g))), (0, .ref (60 + tp))]) X dG_shorten_9 rfl (by decide) rfl ?_
  exact loop 61 S g 0 0 (by omega) hO hW zfr.rf rfl rfl (Nat.le_refl _)
