/-! CONTRACTS of LogBroker$Log (rows by program) -/
set_option maxHeartbeats 600000 in
set_option maxRecDepth 100000 in
/-- Log.isFull -/
theorem mG_isFull (l : Launch) (D : va_G) (dA : Nat → ClassId) {S : zS} {tp : Nat} {g : zLg} (htp : tp < 12) (hO : zLogA S tp g) (hW : zLogW g) : zMet l D vwCl zKK dA (zG0 D dA) yG_isFull (Cond.code yG_isFull cG_isFull 1 (some .boolean) :: zTs) { frames := 0, cells := 0, slots := 0, locals := 0 } 0 0 [.ref (60 + tp)] S (fun v S' => v = some (.int (if 60 ≤ g.2.1.2 then nI 1 else nI 0)) ∧ S' = S) (fun _ _ => False) := by
  refine z_met (tys := ztys dA) (by decide) rfl zG0_K rfl (Nat.le_of_ble_eq_true rfl) (fun p e s m args below meth c A ad X hr hlocks hin hex => ?_)
  obtain ⟨hd1, hd2, f0, f1, f2, f3, f4, f5, f6, f7, f8, hent, hee⟩ := id hO
  obtain ⟨w1, w2, w3, w4, w5, w6, w7, w8, w9⟩ := id hW
  have wb := zBa_le g
  have wp : zPr g ≤ 60 := zcnt_le
  refine z_aload_n (j := 0) X dG_isFull_0 rfl rfl ?_
  refine z_geti (C := RG) (T := TG) (N := 9) (k := 5) X (w_in inG) rfl rfl (kd_G htp) (by decide) (w_m lG_28) rfl rfl dG_isFull_1 (hv := f5) ?_
  refine z_bipush (v := (nI 60)) X dG_isFull_4 (by decide) ?_
  refine z_icmp_ltN (tgt := 13) X dG_isFull_6 (by decide) (by omega) (by omega) (fun c_6 => ?_) (fun c_6 => ?_)
  · refine z_iconst (v := (nI 0)) X dG_isFull_13 (by decide) ?_
    refine z_zret X hlocks hr dG_isFull_14 (by first | rfl | decide) (by omega) (by omega) ?_
    exact ⟨by rw [if_neg (by omega)], rfl⟩
  · refine z_iconst (v := (nI 1)) X dG_isFull_9 (by decide) ?_
    refine z_goto (tgt := 14) X dG_isFull_10 (by decide) ?_
    refine z_zret X hlocks hr dG_isFull_14 (by first | rfl | decide) (by omega) (by omega) ?_
    exact ⟨by rw [if_pos (by omega)], rfl⟩

set_option maxHeartbeats 600000 in
set_option maxRecDepth 100000 in
/-- Log.stableOffset -/
theorem mG_stableOffset (l : Launch) (D : va_G) (dA : Nat → ClassId) {S : zS} {tp : Nat} {g : zLg} (htp : tp < 12) (hO : zLogA S tp g) (hW : zLogW g) : zMet l D vwCl zKK dA (zG0 D dA) yG_stableOffset (Cond.code yG_stableOffset cG_stableOffset 2 (some .int) :: zTs) { frames := 0, cells := 0, slots := 0, locals := 0 } 0 0 [.ref (60 + tp)] S (fun v S' => v = some (.int (nI (zStab g))) ∧ S' = S) (fun _ _ => False) := by
  refine z_met (tys := ztys dA) (by decide) rfl zG0_K rfl (Nat.le_of_ble_eq_true rfl) (fun p e s m args below meth c A ad X hr hlocks hin hex => ?_)
  obtain ⟨hd1, hd2, f0, f1, f2, f3, f4, f5, f6, f7, f8, hent, hee⟩ := id hO
  obtain ⟨w1, w2, w3, w4, w5, w6, w7, w8, w9⟩ := id hW
  have wb := zBa_le g
  have wp : zPr g ≤ 60 := zcnt_le
  have loop : ∀ (f o : Nat), g.2.1.2 - o < f → g.2.1.1 ≤ o → o ≤ g.2.1.2 → (∀ j, g.2.1.1 ≤ j → j < o → zUnd (g.2.2 j) = false) → AW p l e { frames := 0, cells := 0, slots := 0, locals := 0 } s m args below meth c D vwCl zKK dA A (ad, S) 2 S 0 0 (vx_MQ below (zQc D vwCl zKK dA A ad S (fun v S' => v = some (.int (nI (zStab g))) ∧ S' = S)) (zXC D vwCl zKK dA A ad S (fun _ _ => False)) args s 0 0 A) 5 [(1, .int (nI o)), (0, .ref (60 + tp))] [] := by
    intro f
    induction f with
    | zero => intro o h0; omega
    | succ f ih =>
    intro o h0 hi1 hi2 hi3
    refine z_iload_n (j := 0) X dG_stableOffset_5 rfl rfl ?_
    refine z_aload_n (j := 1) X dG_stableOffset_6 rfl rfl ?_
    refine z_geti (C := RG) (T := TG) (N := 9) (k := 5) X (w_in inG) rfl rfl (kd_G htp) (by decide) (w_m lG_28) rfl rfl dG_stableOffset_7 (hv := f5) ?_
    refine z_icmp_geN (tgt := 43) X dG_stableOffset_10 (by decide) (by omega) (by omega) (fun c_10 => ?_) (fun c_10 => ?_)
    · refine z_aload_n (j := 1) X dG_stableOffset_43 rfl rfl ?_
      refine z_geti (C := RG) (T := TG) (N := 9) (k := 5) X (w_in inG) rfl rfl (kd_G htp) (by decide) (w_m lG_28) rfl rfl dG_stableOffset_44 (hv := f5) ?_
      refine z_iret X hlocks hr dG_stableOffset_47 (by omega) (by omega) ?_
      refine ⟨?_, rfl⟩
      unfold zStab
      rw [zfind_none (fun j h1 h2 => hi3 j h1 (by omega))]
      rfl
    · refine z_aload_n (j := 1) X dG_stableOffset_13 rfl rfl ?_
      refine z_getr (C := RG) (T := TG) (N := 9) (k := 3) X (w_in inG) rfl rfl (kd_G htp) (by decide) (w_m lG_11) rfl rfl f3 dG_stableOffset_14 ?_
      refine z_iload_n (j := 0) X dG_stableOffset_17 rfl rfl ?_
      rcases he : g.2.2 o with _ | r
      · refine z_aaldN (t0 := 6) X (kd_GA htp) (by decide) (by decide) (by decide) rfl (by omega) (by decide) (by rw [hent, he]; rfl) dG_stableOffset_18 ?_
        refine z_ifnullN (tgt := 37) X dG_stableOffset_19 (by decide) ?_
        refine z_iinc (j := 0) (v := (nI (o + 1))) (L' := [(1, .int (nI (o + 1))), (0, .ref (60 + tp))]) X dG_stableOffset_37 rfl (nI_1 o) (by decide) rfl ?_
        refine z_goto (tgt := 5) X dG_stableOffset_40 (by decide) ?_
        exact ih (o + 1) (by omega) (by omega) (by omega) (fun j h1 h2 => by
          by_cases e9 : j = o
          · subst e9; rw [he]; rfl
          · exact hi3 j h1 (by omega))
      · refine z_aald (t0 := 6) X (kd_GA htp) (by decide) (by decide) (by decide) rfl (by omega) (by decide) (by rw [hent, he]; rfl) dG_stableOffset_18 ?_
        refine z_ifnull X dG_stableOffset_19 ?_
        refine z_aload_n (j := 1) X dG_stableOffset_22 rfl rfl ?_
        refine z_getr (C := RG) (T := TG) (N := 9) (k := 3) X (w_in inG) rfl rfl (kd_G htp) (by decide) (w_m lG_11) rfl rfl f3 dG_stableOffset_23 ?_
        refine z_iload_n (j := 0) X dG_stableOffset_26 rfl rfl ?_
        refine z_aald (t0 := 6) X (kd_GA htp) (by decide) (by decide) (by decide) rfl (by omega) (by decide) (by rw [hent, he]; rfl) dG_stableOffset_27 ?_
        refine z_geti (C := RE) (T := TE) (N := 5) (k := 4) X (w_in inE) rfl rfl (kd_E htp (by omega)) (by decide) (w_m lG_51) rfl rfl dG_stableOffset_28 (hv := (hee o r he).2.2.2.2.2) ?_
        refine z_iconst (v := (nI 2)) X dG_stableOffset_31 (by decide) ?_
        refine z_icmp_ne (tgt := 37) X dG_stableOffset_32 (by decide) (fun c_32 => ?_) (fun c_32 => ?_)
        · refine z_iinc (j := 0) (v := (nI (o + 1))) (L' := [(1, .int (nI (o + 1))), (0, .ref (60 + tp))]) X dG_stableOffset_37 rfl (nI_1 o) (by decide) rfl ?_
          refine z_goto (tgt := 5) X dG_stableOffset_40 (by decide) ?_
          exact ih (o + 1) (by omega) (by omega) (by omega) (fun j h1 h2 => by
            by_cases e9 : j = o
            · subst e9; rw [he]; exact decide_eq_false c_32
            · exact hi3 j h1 (by omega))
        · refine z_iload_n (j := 0) X dG_stableOffset_35 rfl rfl ?_
          refine z_iret X hlocks hr dG_stableOffset_36 (by omega) (by omega) ?_
          refine ⟨?_, rfl⟩
          unfold zStab
          rw [zfind_some (x := o) hi1 (by omega) hi3 (by rw [he]; exact decide_eq_true c_32)]
          rfl
  refine z_aload_n (j := 0) X dG_stableOffset_0 rfl rfl ?_
  refine z_geti (C := RG) (T := TG) (N := 9) (k := 4) X (w_in inG) rfl rfl (kd_G htp) (by decide) (w_m lG_44) rfl rfl dG_stableOffset_1 (hv := f4) ?_
  refine z_istore_n (L' := [(1, .int (nI g.2.1.1)), (0, .ref (60 + tp))]) X dG_stableOffset_4 rfl (by decide) rfl ?_
  exact loop (g.2.1.2 - g.2.1.1 + 1) g.2.1.1 (by omega) (Nat.le_refl _) (by omega) (fun j h1 h2 => by omega)
