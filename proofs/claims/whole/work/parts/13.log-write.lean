/-! CONTRACTS of LogBroker$Log: writing (rows by program) -/
set_option maxHeartbeats 600000 in
set_option maxRecDepth 100000 in
theorem mE_isUndecidedOf (l : Launch) (D : va_G) (dA : Nat → ClassId) {S : zS} {tp o : Nat} {r : zE} {q : Int32} (htp : tp < 12) (ho : o < 60) (hr0 : zEat S (200 + 60 * tp + o) r) : zMet l D vwCl zKK dA (zG0 D dA) yE_isUndecidedOf (Cond.code yE_isUndecidedOf cE_isUndecidedOf 2 (some .boolean) :: zTs) { frames := 0, cells := 0, slots := 0, locals := 0 } 0 0 [.ref (200 + 60 * tp + o), .int q] S (fun v S' => v = some (.int (if r.2.2.2.2 = nI 2 ∧ r.2.2.2.1 = q then nI 1 else nI 0)) ∧ S' = S) (fun _ _ => False) := by
  refine z_met (tys := ztys dA) (by decide) rfl zG0_K rfl (Nat.le_of_ble_eq_true rfl) (fun p e s m args below meth c A ad X hr hlocks hin hex => ?_)
  refine z_aload_n (j := 0) X dE_isUndecidedOf_0 rfl rfl ?_
  refine z_geti (C := RE) (T := TE) (N := 5) (k := 4) X (w_in inE) rfl rfl (kd_E htp ho) (by decide) (w_m lE_24) rfl rfl dE_isUndecidedOf_1 (hv := hr0.2.2.2.2.2) ?_
  refine z_iconst (v := (nI 2)) X dE_isUndecidedOf_4 (by decide) ?_
  refine z_icmp_ne (tgt := 20) X dE_isUndecidedOf_5 (by decide) (fun c_5 => ?_) (fun c_5 => ?_)
  · refine z_iconst (v := (nI 0)) X dE_isUndecidedOf_20 (by decide) ?_
    refine z_zret X hlocks hr dE_isUndecidedOf_21 (by first | rfl | decide) (by omega) (by omega) ?_
    first | exact ⟨by rw [if_neg (fun h => c_5 h.1)], rfl⟩ | exact ⟨by rw [if_neg (fun h => c_13 h.2)], rfl⟩
  · refine z_aload_n (j := 0) X dE_isUndecidedOf_8 rfl rfl ?_
    refine z_geti (C := RE) (T := TE) (N := 5) (k := 3) X (w_in inE) rfl rfl (kd_E htp ho) (by decide) (w_m lE_21) rfl rfl dE_isUndecidedOf_9 (hv := hr0.2.2.2.2.1) ?_
    refine z_iload_n (j := 1) X dE_isUndecidedOf_12 rfl rfl ?_
    refine z_icmp_ne (tgt := 20) X dE_isUndecidedOf_13 (by decide) (fun c_13 => ?_) (fun c_13 => ?_)
    · refine z_iconst (v := (nI 0)) X dE_isUndecidedOf_20 (by decide) ?_
      refine z_zret X hlocks hr dE_isUndecidedOf_21 (by first | rfl | decide) (by omega) (by omega) ?_
      first | exact ⟨by rw [if_neg (fun h => c_5 h.1)], rfl⟩ | exact ⟨by rw [if_neg (fun h => c_13 h.2)], rfl⟩
    · refine z_iconst (v := (nI 1)) X dE_isUndecidedOf_16 (by decide) ?_
      refine z_goto (tgt := 21) X dE_isUndecidedOf_17 (by decide) ?_
      refine z_zret X hlocks hr dE_isUndecidedOf_21 (by first | rfl | decide) (by omega) (by omega) ?_
      exact ⟨by rw [if_pos ⟨c_5, c_13⟩], rfl⟩

set_option maxHeartbeats 600000 in
set_option maxRecDepth 100000 in
theorem mG_hasData (l : Launch) (D : va_G) (dA : Nat → ClassId) {S : zS} {tp : Nat} {g : zLg} {o : Nat} (htp : tp < 12) (hO : zLogA S tp g) (hW : zLogW g) (ho : o < 60) : zMet l D vwCl zKK dA (zG0 D dA) yG_hasData (Cond.code yG_hasData cG_hasData 2 (some .boolean) :: zTs) { frames := 0, cells := 0, slots := 0, locals := 0 } 0 0 [.ref (60 + tp), .int (nI o)] S (fun v S' => v = some (.int (if zData (g.2.2 o) = true then nI 1 else nI 0)) ∧ S' = S) (fun _ _ => False) := by
  refine z_met (tys := ztys dA) (by decide) rfl zG0_K rfl (Nat.le_of_ble_eq_true rfl) (fun p e s m args below meth c A ad X hr hlocks hin hex => ?_)
  obtain ⟨hd1, hd2, f0, f1, f2, f3, f4, f5, f6, f7, f8, hent, hee⟩ := id hO
  obtain ⟨w1, w2, w3, w4, w5, w6, w7, w8, w9⟩ := id hW
  have wb := zBa_le g
  have wp : zPr g ≤ 60 := zcnt_le
  refine z_aload_n (j := 0) X dG_hasData_0 rfl rfl ?_
  refine z_getr (C := RG) (T := TG) (N := 9) (k := 3) X (w_in inG) rfl rfl (kd_G htp) (by decide) (w_m lG_11) rfl rfl f3 dG_hasData_1 ?_
  refine z_iload_n (j := 1) X dG_hasData_4 rfl rfl ?_
  rcases he : g.2.2 o with _ | r
  · refine z_aaldN (t0 := 6) X (kd_GA htp) (by decide) (by decide) (by decide) rfl (by omega) (by decide) (by rw [hent, he]; rfl) dG_hasData_5 ?_
    refine z_ifnullN (tgt := 25) X dG_hasData_6 (by decide) ?_
    refine z_iconst (v := (nI 0)) X dG_hasData_25 (by decide) ?_
    refine z_zret X hlocks hr dG_hasData_26 (by first | rfl | decide) (by omega) (by omega) ?_
    exact ⟨by rw [if_neg (by decide)], rfl⟩
  · refine z_aald (t0 := 6) X (kd_GA htp) (by decide) (by decide) (by decide) rfl (by omega) (by decide) (by rw [hent, he]; rfl) dG_hasData_5 ?_
    refine z_ifnull X dG_hasData_6 ?_
    refine z_aload_n (j := 0) X dG_hasData_9 rfl rfl ?_
    refine z_getr (C := RG) (T := TG) (N := 9) (k := 3) X (w_in inG) rfl rfl (kd_G htp) (by decide) (w_m lG_11) rfl rfl f3 dG_hasData_10 ?_
    refine z_iload_n (j := 1) X dG_hasData_13 rfl rfl ?_
    refine z_aald (t0 := 6) X (kd_GA htp) (by decide) (by decide) (by decide) rfl (by omega) (by decide) (by rw [hent, he]; rfl) dG_hasData_14 ?_
    refine z_geti (C := RE) (T := TE) (N := 5) (k := 0) X (w_in inE) rfl rfl (kd_E htp (by omega)) (by decide) (w_m lG_58) rfl rfl dG_hasData_15 (hv := (hee o r he).2.1) ?_
    refine z_if_ne (tgt := 25) X dG_hasData_18 (by decide) (fun c_18 => ?_) (fun c_18 => ?_)
    · refine z_iconst (v := (nI 0)) X dG_hasData_25 (by decide) ?_
      refine z_zret X hlocks hr dG_hasData_26 (by first | rfl | decide) (by omega) (by omega) ?_
      exact ⟨by rw [if_neg (fun h => c_18 ((of_decide_eq_true h).trans nI_0))], rfl⟩
    · refine z_iconst (v := (nI 1)) X dG_hasData_21 (by decide) ?_
      refine z_goto (tgt := 26) X dG_hasData_22 (by decide) ?_
      refine z_zret X hlocks hr dG_hasData_26 (by first | rfl | decide) (by omega) (by omega) ?_
      exact ⟨by rw [if_pos (show zData (some r) = true from decide_eq_true (c_18.trans nI_0.symm))], rfl⟩

set_option maxHeartbeats 600000 in
set_option maxRecDepth 100000 in
theorem mG_append (l : Launch) (D : va_G) (dA : Nat → ClassId) {S : zS} {tp : Nat} {g : zLg} {x : zE} (htp : tp < 12) (hO : zLogA S tp g) (hW : zLogW g) (hen : g.2.1.2 < 60) (hx : zEat S (200 + 60 * tp + g.2.1.2) x) : zMet l D vwCl zKK dA (zG0 D dA) yG_append (Cond.code yG_append cG_append 3 (some .int) :: zTs) { frames := 0, cells := 0, slots := 0, locals := 0 } 0 0 [.ref (60 + tp), .ref (200 + 60 * tp + g.2.1.2)] S (fun v S' => v = some (.int (nI g.2.1.2)) ∧ zLogA S' tp (zApp g x) ∧ zfr (zOwnG tp) S S' ∧ S'.1 = S.1) (fun _ _ => False) := by
  refine z_met (tys := ztys dA) (by decide) rfl zG0_K rfl (Nat.le_of_ble_eq_true rfl) (fun p e s m args below meth c A ad X hr hlocks hin hex => ?_)
  obtain ⟨hd1, hd2, f0, f1, f2, f3, f4, f5, f6, f7, f8, hent, hee⟩ := id hO
  obtain ⟨w1, w2, w3, w4, w5, w6, w7, w8, w9⟩ := id hW
  have wb := zBa_le g
  have wp : zPr g ≤ 60 := zcnt_le
  refine z_aload_n (j := 0) X dG_append_0 rfl rfl ?_
  refine z_geti (C := RG) (T := TG) (N := 9) (k := 5) X (w_in inG) rfl rfl (kd_G htp) (by decide) (w_m lG_28) rfl rfl dG_append_1 (hv := f5) ?_
  refine z_istore_n (L' := [(2, .int (nI g.2.1.2)), (0, .ref (60 + tp)), (1, .ref (200 + 60 * tp + g.2.1.2))]) X dG_append_4 rfl (by decide) rfl ?_
  refine z_aload_n (j := 1) X dG_append_5 rfl rfl ?_
  refine z_getr (C := RG) (T := TG) (N := 9) (k := 3) X (w_in inG) rfl rfl (kd_G htp) (by decide) (w_m lG_11) rfl rfl f3 dG_append_6 ?_
  refine z_iload_n (j := 0) X dG_append_9 rfl rfl ?_
  refine z_aload_n (j := 2) X dG_append_10 rfl rfl ?_
  refine z_aast (t0 := 6) X (kd_GA htp) (by decide) (by decide) (by decide) rfl hen (by decide) (kd_E htp hen) rfl rfl dG_append_11 ?_
  refine z_aload_n (j := 1) X dG_append_12 rfl rfl ?_
  refine z_dup X dG_append_13 rfl ?_
  refine z_geti (C := RG) (T := TG) (N := 9) (k := 8) X (w_in inG) rfl rfl (kd_G htp) (by decide) (w_m lG_31) rfl rfl dG_append_14 (hv := (rd_ip f8)) ?_
  refine z_iconst (v := (nI 1)) X dG_append_17 (by decide) ?_
  refine z_iadd X dG_append_18 ?_
  refine z_top (nI_add (zPr g) 1) ?_
  refine z_puti (C := RG) (T := TG) (N := 9) (k := 8) X (w_in inG) rfl rfl (kd_G htp) (by decide) (w_m lG_31) rfl tyG tyG_ok nmG rfl rfl (ty := .int) (by decide +kernel) rfl rfl dG_append_19 ?_
  refine z_aload_n (j := 1) X dG_append_22 rfl rfl ?_
  refine z_dup X dG_append_23 rfl ?_
  refine z_geti (C := RG) (T := TG) (N := 9) (k := 5) X (w_in inG) rfl rfl (kd_G htp) (by decide) (w_m lG_28) rfl rfl dG_append_24 (hv := (rd_i (Or.inr (by decide)) (rd_ip f5))) ?_
  refine z_iconst (v := (nI 1)) X dG_append_27 (by decide) ?_
  refine z_iadd X dG_append_28 ?_
  refine z_top (nI_add g.2.1.2 1) ?_
  refine z_puti (C := RG) (T := TG) (N := 9) (k := 5) X (w_in inG) rfl rfl (kd_G htp) (by decide) (w_m lG_28) rfl tyG tyG_ok nmG rfl rfl (ty := .int) (by decide +kernel) rfl rfl dG_append_29 ?_
  refine z_aload_n (j := 1) X dG_append_32 rfl rfl ?_
  refine z_geti (C := RG) (T := TG) (N := 9) (k := 5) X (w_in inG) rfl rfl (kd_G htp) (by decide) (w_m lG_28) rfl rfl dG_append_33 (hv := rd_s) ?_
  refine z_aload_n (j := 1) X dG_append_36 rfl rfl ?_
  refine z_geti (C := RG) (T := TG) (N := 9) (k := 6) X (w_in inG) rfl rfl (kd_G htp) (by decide) (w_m lG_34) rfl rfl dG_append_37 (hv := (rd_i (Or.inr (by decide)) (rd_i (Or.inr (by decide)) (rd_ip f6)))) ?_
  refine z_aload_n (j := 1) X dG_append_40 rfl rfl ?_
  refine z_geti (C := RG) (T := TG) (N := 9) (k := 0) X (w_in inG) rfl rfl (kd_G htp) (by decide) (w_m lG_17) rfl rfl dG_append_41 (hv := (rd_i (Or.inr (by decide)) (rd_i (Or.inr (by decide)) (rd_ip f0)))) ?_
  refine z_iadd X dG_append_44 ?_
  refine z_top (nI_add (zBa g) g.1.1) ?_
  refine z_icmp_neN (tgt := 66) X dG_append_45 (by decide) (by omega) (by omega) (fun c_45 => ?_) (fun c_45 => ?_)
  · refine z_iload_n (j := 0) X dG_append_66 rfl rfl ?_
    refine z_iret X hlocks hr dG_append_67 (by omega) (by omega) ?_
    refine ⟨rfl, ⟨hd1, hd2, (rd_i (Or.inr (by decide)) (rd_i (Or.inr (by decide)) (rd_ip f0))), (rd_i (Or.inr (by decide)) (rd_i (Or.inr (by decide)) (rd_ip f1))), (rd_i (Or.inr (by decide)) (rd_i (Or.inr (by decide)) (rd_ip f2))), (rp_i (rp_i (rp_p (Or.inl (by omega)) f3))), (rd_i (Or.inr (by decide)) (rd_i (Or.inr (by decide)) (rd_ip f4))), rd_s, (by rw [(zBa_app0 w1 w2 c_45).1]; exact (rd_i (Or.inr (by decide)) (rd_i (Or.inr (by decide)) (rd_ip f6)))), (by rw [(zBa_app0 w1 w2 c_45).2]; exact (rd_i (Or.inr (by decide)) (rd_i (Or.inr (by decide)) (rd_ip f7)))), (by rw [zPr_app hen (w8 _ (Nat.le_refl _))]; exact (rd_i (Or.inr (by decide)) rd_s)), fun o => ?_, fun o y hy => ?_⟩, (((zfr.rf.tr (zfr.p (Or.inr (Or.inl rfl)))).tr (zfr.i (Or.inl rfl))).tr (zfr.i (Or.inl rfl))), rfl⟩
    · show _ = (if o = g.2.1.2 then some x else g.2.2 o).map _
      by_cases e9 : o = g.2.1.2
      · subst e9
        rw [if_pos rfl]
        exact (rp_i (rp_i rp_s))
      · rw [if_neg e9]
        refine Eq.trans ?_ (hent o)
        exact (z2_n (f := S.2.2.1) (Or.inr e9))
    · have hy' : (if o = g.2.1.2 then some x else g.2.2 o) = some y := hy
      by_cases e9 : o = g.2.1.2
      · subst e9
        rw [if_pos rfl] at hy'
        cases hy'
        exact ⟨hx.1, (rd_i (Or.inl (by omega)) (rd_i (Or.inl (by omega)) (rd_ip hx.2.1))), (rd_i (Or.inl (by omega)) (rd_i (Or.inl (by omega)) (rd_ip hx.2.2.1))), (rd_i (Or.inl (by omega)) (rd_i (Or.inl (by omega)) (rd_ip hx.2.2.2.1))), (rd_i (Or.inl (by omega)) (rd_i (Or.inl (by omega)) (rd_ip hx.2.2.2.2.1))), (rd_i (Or.inl (by omega)) (rd_i (Or.inl (by omega)) (rd_ip hx.2.2.2.2.2)))⟩
      · rw [if_neg e9] at hy'
        have h9 := hee o y hy'
        exact ⟨h9.1, (rd_i (Or.inl (by omega)) (rd_i (Or.inl (by omega)) (rd_ip h9.2.1))), (rd_i (Or.inl (by omega)) (rd_i (Or.inl (by omega)) (rd_ip h9.2.2.1))), (rd_i (Or.inl (by omega)) (rd_i (Or.inl (by omega)) (rd_ip h9.2.2.2.1))), (rd_i (Or.inl (by omega)) (rd_i (Or.inl (by omega)) (rd_ip h9.2.2.2.2.1))), (rd_i (Or.inl (by omega)) (rd_i (Or.inl (by omega)) (rd_ip h9.2.2.2.2.2)))⟩
  · refine z_aload_n (j := 1) X dG_append_48 rfl rfl ?_
    refine z_aload_n (j := 1) X dG_append_49 rfl rfl ?_
    refine z_geti (C := RG) (T := TG) (N := 9) (k := 5) X (w_in inG) rfl rfl (kd_G htp) (by decide) (w_m lG_28) rfl rfl dG_append_50 (hv := rd_s) ?_
    refine z_puti (C := RG) (T := TG) (N := 9) (k := 6) X (w_in inG) rfl rfl (kd_G htp) (by decide) (w_m lG_34) rfl tyG tyG_ok nmG rfl rfl (ty := .int) (by decide +kernel) rfl rfl dG_append_53 ?_
    refine z_aload_n (j := 1) X dG_append_56 rfl rfl ?_
    refine z_dup X dG_append_57 rfl ?_
    refine z_geti (C := RG) (T := TG) (N := 9) (k := 7) X (w_in inG) rfl rfl (kd_G htp) (by decide) (w_m lG_37) rfl rfl dG_append_58 (hv := (rd_i (Or.inr (by decide)) (rd_i (Or.inr (by decide)) (rd_i (Or.inr (by decide)) (rd_ip f7))))) ?_
    refine z_iconst (v := (nI 1)) X dG_append_61 (by decide) ?_
    refine z_iadd X dG_append_62 ?_
    refine z_top (nI_add (zCl g) 1) ?_
    refine z_puti (C := RG) (T := TG) (N := 9) (k := 7) X (w_in inG) rfl rfl (kd_G htp) (by decide) (w_m lG_37) rfl tyG tyG_ok nmG rfl rfl (ty := .int) (by decide +kernel) rfl rfl dG_append_63 ?_
    refine z_iload_n (j := 0) X dG_append_66 rfl rfl ?_
    refine z_iret X hlocks hr dG_append_67 (by omega) (by omega) ?_
    refine ⟨rfl, ⟨hd1, hd2, (rd_i (Or.inr (by decide)) (rd_i (Or.inr (by decide)) (rd_i (Or.inr (by decide)) (rd_i (Or.inr (by decide)) (rd_ip f0))))), (rd_i (Or.inr (by decide)) (rd_i (Or.inr (by decide)) (rd_i (Or.inr (by decide)) (rd_i (Or.inr (by decide)) (rd_ip f1))))), (rd_i (Or.inr (by decide)) (rd_i (Or.inr (by decide)) (rd_i (Or.inr (by decide)) (rd_i (Or.inr (by decide)) (rd_ip f2))))), (rp_i (rp_i (rp_i (rp_i (rp_p (Or.inl (by omega)) f3))))), (rd_i (Or.inr (by decide)) (rd_i (Or.inr (by decide)) (rd_i (Or.inr (by decide)) (rd_i (Or.inr (by decide)) (rd_ip f4))))), (rd_i (Or.inr (by decide)) (rd_i (Or.inr (by decide)) rd_s)), (by rw [(zBa_app1 w1 w2 c_45).1]; exact (rd_i (Or.inr (by decide)) rd_s)), (by rw [(zBa_app1 w1 w2 c_45).2 w5]; exact rd_s), (by rw [zPr_app hen (w8 _ (Nat.le_refl _))]; exact (rd_i (Or.inr (by decide)) (rd_i (Or.inr (by decide)) (rd_i (Or.inr (by decide)) rd_s)))), fun o => ?_, fun o y hy => ?_⟩, (((((zfr.rf.tr (zfr.p (Or.inr (Or.inl rfl)))).tr (zfr.i (Or.inl rfl))).tr (zfr.i (Or.inl rfl))).tr (zfr.i (Or.inl rfl))).tr (zfr.i (Or.inl rfl))), rfl⟩
    · show _ = (if o = g.2.1.2 then some x else g.2.2 o).map _
      by_cases e9 : o = g.2.1.2
      · subst e9
        rw [if_pos rfl]
        exact (rp_i (rp_i (rp_i (rp_i rp_s))))
      · rw [if_neg e9]
        refine Eq.trans ?_ (hent o)
        exact (z2_n (f := S.2.2.1) (Or.inr e9))
    · have hy' : (if o = g.2.1.2 then some x else g.2.2 o) = some y := hy
      by_cases e9 : o = g.2.1.2
      · subst e9
        rw [if_pos rfl] at hy'
        cases hy'
        exact ⟨hx.1, (rd_i (Or.inl (by omega)) (rd_i (Or.inl (by omega)) (rd_i (Or.inl (by omega)) (rd_i (Or.inl (by omega)) (rd_ip hx.2.1))))), (rd_i (Or.inl (by omega)) (rd_i (Or.inl (by omega)) (rd_i (Or.inl (by omega)) (rd_i (Or.inl (by omega)) (rd_ip hx.2.2.1))))), (rd_i (Or.inl (by omega)) (rd_i (Or.inl (by omega)) (rd_i (Or.inl (by omega)) (rd_i (Or.inl (by omega)) (rd_ip hx.2.2.2.1))))), (rd_i (Or.inl (by omega)) (rd_i (Or.inl (by omega)) (rd_i (Or.inl (by omega)) (rd_i (Or.inl (by omega)) (rd_ip hx.2.2.2.2.1))))), (rd_i (Or.inl (by omega)) (rd_i (Or.inl (by omega)) (rd_i (Or.inl (by omega)) (rd_i (Or.inl (by omega)) (rd_ip hx.2.2.2.2.2)))))⟩
      · rw [if_neg e9] at hy'
        have h9 := hee o y hy'
        exact ⟨h9.1, (rd_i (Or.inl (by omega)) (rd_i (Or.inl (by omega)) (rd_i (Or.inl (by omega)) (rd_i (Or.inl (by omega)) (rd_ip h9.2.1))))), (rd_i (Or.inl (by omega)) (rd_i (Or.inl (by omega)) (rd_i (Or.inl (by omega)) (rd_i (Or.inl (by omega)) (rd_ip h9.2.2.1))))), (rd_i (Or.inl (by omega)) (rd_i (Or.inl (by omega)) (rd_i (Or.inl (by omega)) (rd_i (Or.inl (by omega)) (rd_ip h9.2.2.2.1))))), (rd_i (Or.inl (by omega)) (rd_i (Or.inl (by omega)) (rd_i (Or.inl (by omega)) (rd_i (Or.inl (by omega)) (rd_ip h9.2.2.2.2.1))))), (rd_i (Or.inl (by omega)) (rd_i (Or.inl (by omega)) (rd_i (Or.inl (by omega)) (rd_i (Or.inl (by omega)) (rd_ip h9.2.2.2.2.2)))))⟩

set_option maxHeartbeats 600000 in
set_option maxRecDepth 100000 in
theorem mG_drop (l : Launch) (D : va_G) (dA : Nat → ClassId) {S : zS} {tp : Nat} {g : zLg} {o : Nat} (htp : tp < 12) (hO : zLogA S tp g) (hW : zLogW g) (ho : o < 60) : zMet l D vwCl zKK dA (zG0 D dA) yG_drop (Cond.code yG_drop cG_drop 2 none :: zTs) { frames := 0, cells := 0, slots := 0, locals := 0 } 0 0 [.ref (60 + tp), .int (nI o)] S (fun v S' => v = none ∧ zLogA S' tp (zDrop g o) ∧ zfr (zOwnG tp) S S' ∧ S'.1 = S.1) (fun _ _ => False) := by
  refine z_met (tys := ztys dA) (by decide) rfl zG0_K rfl (Nat.le_of_ble_eq_true rfl) (fun p e s m args below meth c A ad X hr hlocks hin hex => ?_)
  obtain ⟨hd1, hd2, f0, f1, f2, f3, f4, f5, f6, f7, f8, hent, hee⟩ := id hO
  obtain ⟨w1, w2, w3, w4, w5, w6, w7, w8, w9⟩ := id hW
  have wb := zBa_le g
  have wp : zPr g ≤ 60 := zcnt_le
  refine z_aload_n (j := 0) X dG_drop_0 rfl rfl ?_
  refine z_getr (C := RG) (T := TG) (N := 9) (k := 3) X (w_in inG) rfl rfl (kd_G htp) (by decide) (w_m lG_11) rfl rfl f3 dG_drop_1 ?_
  refine z_iload_n (j := 1) X dG_drop_4 rfl rfl ?_
  rcases he : g.2.2 o with _ | r
  · refine z_aaldN (t0 := 6) X (kd_GA htp) (by decide) (by decide) (by decide) rfl (by omega) (by decide) (by rw [hent, he]; rfl) dG_drop_5 ?_
    refine z_ifnullN (tgt := 26) X dG_drop_6 (by decide) ?_
    refine z_vret X hlocks hr dG_drop_26 (by omega) (by omega) ?_
    exact ⟨rfl, by rw [zDrop_none he]; exact hO, zfr.rf, rfl⟩
  · have hpr := zPr_drop ho he
    refine z_aald (t0 := 6) X (kd_GA htp) (by decide) (by decide) (by decide) rfl (by omega) (by decide) (by rw [hent, he]; rfl) dG_drop_5 ?_
    refine z_ifnull X dG_drop_6 ?_
    refine z_aload_n (j := 0) X dG_drop_9 rfl rfl ?_
    refine z_getr (C := RG) (T := TG) (N := 9) (k := 3) X (w_in inG) rfl rfl (kd_G htp) (by decide) (w_m lG_11) rfl rfl f3 dG_drop_10 ?_
    refine z_iload_n (j := 1) X dG_drop_13 rfl rfl ?_
    refine z_null X dG_drop_14 ?_
    refine z_aastN (t0 := 6) X (kd_GA htp) (by decide) (by decide) (by decide) rfl ho (by decide)  dG_drop_15 ?_
    refine z_aload_n (j := 0) X dG_drop_16 rfl rfl ?_
    refine z_dup X dG_drop_17 rfl ?_
    refine z_geti (C := RG) (T := TG) (N := 9) (k := 8) X (w_in inG) rfl rfl (kd_G htp) (by decide) (w_m lG_31) rfl rfl dG_drop_18 (hv := (rd_ip f8)) ?_
    refine z_iconst (v := (nI 1)) X dG_drop_21 (by decide) ?_
    refine z_isub X dG_drop_22 ?_
    refine z_top (pk_sub (a := zPr g) (b := 1) (by omega)) ?_
    refine z_puti (C := RG) (T := TG) (N := 9) (k := 8) X (w_in inG) rfl rfl (kd_G htp) (by decide) (w_m lG_31) rfl tyG tyG_ok nmG rfl rfl (ty := .int) (by decide +kernel) rfl rfl dG_drop_23 ?_
    refine z_vret X hlocks hr dG_drop_26 (by omega) (by omega) ?_
    refine ⟨rfl, ⟨hd1, hd2, (rd_i (Or.inr (by decide)) (rd_ip f0)), (rd_i (Or.inr (by decide)) (rd_ip f1)), (rd_i (Or.inr (by decide)) (rd_ip f2)), (rp_i (rp_p (Or.inl (by omega)) f3)), (rd_i (Or.inr (by decide)) (rd_ip f4)), (rd_i (Or.inr (by decide)) (rd_ip f5)), (rd_i (Or.inr (by decide)) (rd_ip f6)), (rd_i (Or.inr (by decide)) (rd_ip f7)), (by rw [show zPr (zDrop g o) = zPr g - 1 by omega]; exact rd_s), fun j => ?_, fun j y hy => ?_⟩, ((zfr.rf.tr (zfr.p (Or.inr (Or.inl rfl)))).tr (zfr.i (Or.inl rfl))), rfl⟩
    · show _ = (if j = o then none else g.2.2 j).map _
      by_cases e9 : j = o
      · subst e9
        rw [if_pos rfl]
        exact (rp_i rp_s)
      · rw [if_neg e9]
        refine Eq.trans ?_ (hent j)
        exact (z2_n (f := S.2.2.1) (Or.inr e9))
    · have hy' : (if j = o then none else g.2.2 j) = some y := hy
      by_cases e9 : j = o
      · rw [if_pos e9] at hy'; cases hy'
      · rw [if_neg e9] at hy'
        have h9 := hee j y hy'
        exact ⟨h9.1, (rd_i (Or.inl (by omega)) (rd_ip h9.2.1)), (rd_i (Or.inl (by omega)) (rd_ip h9.2.2.1)), (rd_i (Or.inl (by omega)) (rd_ip h9.2.2.2.1)), (rd_i (Or.inl (by omega)) (rd_ip h9.2.2.2.2.1)), (rd_i (Or.inl (by omega)) (rd_ip h9.2.2.2.2.2))⟩
