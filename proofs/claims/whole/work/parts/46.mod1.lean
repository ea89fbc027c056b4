/-! CONTRACTS of the reference: small methods (rows by program) -/
set_option maxHeartbeats 600000 in
set_option maxRecDepth 100000 in
theorem mM_badLog (l : Launch) (D : va_G) (dA : Nat → ClassId) {S : zS} {b : zBr} {x : Int32} (hP : mP S) (hT : mT S b) (v1 : ∀ t, t < 3 → b.1 t ≤ 3) : zMet l D vwCl zKK dA (zG0 D dA) yM_badLog (Cond.code yM_badLog cM_badLog 2 (some .boolean) :: zTs) { frames := 0, cells := 0, slots := 0, locals := 0 } 0 0 [.ref 1000, .int x] S (fun v S' => S' = S ∧ ((v = some (.int (nI 1)) ∧ ¬ ∃ t, zEx b t ∧ x = nI t) ∨ (v = some (.int (nI 0)) ∧ ∃ t, zEx b t ∧ x = nI t))) (fun _ _ => False) := by
  refine z_met (tys := ztys dA) (by decide) rfl zG0_K rfl (Nat.le_of_ble_eq_true rfl) (fun p e s m args below meth c A ad X hr hlocks hin hex => ?_)
  refine z_iload_n (j := 1) X dM_badLog_0 rfl rfl ?_
  refine z_if_lt (tgt := 24) X dM_badLog_1 (by decide) (fun c_1 => ?_) (fun c_1 => ?_)
  · refine z_iconst (v := (nI 1)) X dM_badLog_24 (by decide) ?_
    refine z_goto (tgt := 29) X dM_badLog_25 (by decide) ?_
    refine z_zret X hlocks hr dM_badLog_29 (by first | rfl | decide) (by omega) (by omega) ?_
    exact ⟨rfl, Or.inl ⟨rfl, fun h => by
      obtain ⟨t2, h2, h3⟩ := h
      have h4 := h2.1
      subst h3
      first | exact absurd c_1 (nI_pos (by omega)) | exact absurd ((nI_ltI (by decide) (by omega)).mp c_7) (by omega)⟩⟩
  · refine z_iload_n (j := 1) X dM_badLog_4 rfl rfl ?_
    refine z_bipush (v := (nI 11)) X dM_badLog_5 (by decide) ?_
    refine z_icmp_gt (tgt := 24) X dM_badLog_7 (by decide) (fun c_7 => ?_) (fun c_7 => ?_)
    · refine z_iconst (v := (nI 1)) X dM_badLog_24 (by decide) ?_
      refine z_goto (tgt := 29) X dM_badLog_25 (by decide) ?_
      refine z_zret X hlocks hr dM_badLog_29 (by first | rfl | decide) (by omega) (by omega) ?_
      exact ⟨rfl, Or.inl ⟨rfl, fun h => by
        obtain ⟨t2, h2, h3⟩ := h
        have h4 := h2.1
        subst h3
        first | exact absurd c_1 (nI_pos (by omega)) | exact absurd ((nI_ltI (by decide) (by omega)).mp c_7) (by omega)⟩⟩
    · obtain ⟨t, ht, rfl⟩ : ∃ t : Nat, t < 12 ∧ x = nI t := by
        rcases pk_ix x (n := 12) (by decide) with h | h | h
        · exact absurd h c_1
        · exact absurd (Int32.lt_of_lt_of_le (by decide) h) c_7
        · exact h
      have hv1 := v1 (t / 4) (by omega)
      refine z_iload_n (j := 1) X dM_badLog_10 rfl rfl ?_
      refine z_iconst (v := (nI 4)) X dM_badLog_11 (by decide) ?_
      refine z_irem X dM_badLog_12 (nI_ne0 (by omega) (by omega)) ?_
      refine z_top (pk_rem (a := t) (d := 4) (by omega) (by omega) (by omega)) ?_
      refine z_aload_n (j := 0) X dM_badLog_13 rfl rfl ?_
      refine z_getr (C := RM) (T := TM) (N := 28) (k := 0) X (w_in inM) rfl rfl rfl (by decide) (w_m lM_7) rfl rfl (hP.2 0 (by decide)) dM_badLog_14 ?_
      refine z_iload_n (j := 1) X dM_badLog_17 rfl rfl ?_
      refine z_iconst (v := (nI 4)) X dM_badLog_18 (by decide) ?_
      refine z_idiv X dM_badLog_19 (nI_ne0 (by omega) (by omega)) ?_
      refine z_top (pk_div (a := t) (d := 4) (by omega) (by omega) (by omega)) ?_
      refine z_iald (t0 := 0) X rfl rfl (by omega) (by decide) dM_badLog_20 (hv := (hT.1 (t / 4) (by omega))) ?_
      refine z_icmp_ltN (tgt := 28) X dM_badLog_21 (by decide) (by omega) (by omega) (fun c_21 => ?_) (fun c_21 => ?_)
      · refine z_iconst (v := (nI 0)) X dM_badLog_28 (by decide) ?_
        refine z_zret X hlocks hr dM_badLog_29 (by first | rfl | decide) (by omega) (by omega) ?_
        exact ⟨rfl, Or.inr ⟨rfl, t, ⟨ht, by omega⟩, rfl⟩⟩
      · refine z_iconst (v := (nI 1)) X dM_badLog_24 (by decide) ?_
        refine z_goto (tgt := 29) X dM_badLog_25 (by decide) ?_
        refine z_zret X hlocks hr dM_badLog_29 (by first | rfl | decide) (by omega) (by omega) ?_
        exact ⟨rfl, Or.inl ⟨rfl, fun h => by
          obtain ⟨t2, h2, h3⟩ := h
          have h4 := h2.1
          have e2 := (nI_eq (by omega) (by omega)).mp h3
          subst e2
          exact c_21 h2.2⟩⟩

set_option maxHeartbeats 600000 in
set_option maxRecDepth 100000 in
theorem mM_badSession (l : Launch) (D : va_G) (dA : Nat → ClassId) {S : zS} {x : Int32}  : zMet l D vwCl zKK dA (zG0 D dA) yM_badSession (Cond.code yM_badSession cM_badSession 2 (some .boolean) :: zTs) { frames := 0, cells := 0, slots := 0, locals := 0 } 0 0 [.ref 1000, .int x] S (fun v S' => S' = S ∧ ((v = some (.int (nI 1)) ∧ (x < nI 0 ∨ nI 5 < x)) ∨ (v = some (.int (nI 0)) ∧ ∃ i, x = nI i ∧ i ≤ 5))) (fun _ _ => False) := by
  refine z_met (tys := ztys dA) (by decide) rfl zG0_K rfl (Nat.le_of_ble_eq_true rfl) (fun p e s m args below meth c A ad X hr hlocks hin hex => ?_)
  refine z_iload_n (j := 1) X dM_badSession_0 rfl rfl ?_
  refine z_if_lt (tgt := 9) X dM_badSession_1 (by decide) (fun c_1 => ?_) (fun c_1 => ?_)
  · refine z_iconst (v := (nI 1)) X dM_badSession_9 (by decide) ?_
    refine z_goto (tgt := 14) X dM_badSession_10 (by decide) ?_
    refine z_zret X hlocks hr dM_badSession_14 (by first | rfl | decide) (by omega) (by omega) ?_
    exact ⟨rfl, Or.inl ⟨rfl, by first | exact Or.inl c_1 | exact Or.inr (Int32.not_le.mp c_6)⟩⟩
  · refine z_iload_n (j := 1) X dM_badSession_4 rfl rfl ?_
    refine z_iconst (v := (nI 5)) X dM_badSession_5 (by decide) ?_
    refine z_icmp_le (tgt := 13) X dM_badSession_6 (by decide) (fun c_6 => ?_) (fun c_6 => ?_)
    · refine z_iconst (v := (nI 0)) X dM_badSession_13 (by decide) ?_
      refine z_zret X hlocks hr dM_badSession_14 (by first | rfl | decide) (by omega) (by omega) ?_
      exact ⟨rfl, Or.inr ⟨rfl, zRg (by decide) c_1 (Int32.not_lt.mpr c_6)⟩⟩
    · refine z_iconst (v := (nI 1)) X dM_badSession_9 (by decide) ?_
      refine z_goto (tgt := 14) X dM_badSession_10 (by decide) ?_
      refine z_zret X hlocks hr dM_badSession_14 (by first | rfl | decide) (by omega) (by omega) ?_
      exact ⟨rfl, Or.inl ⟨rfl, by first | exact Or.inl c_1 | exact Or.inr (Int32.not_le.mp c_6)⟩⟩

set_option maxHeartbeats 600000 in
set_option maxRecDepth 100000 in
theorem mM_badMember (l : Launch) (D : va_G) (dA : Nat → ClassId) {S : zS} {x y : Int32}  : zMet l D vwCl zKK dA (zG0 D dA) yM_badMember (Cond.code yM_badMember cM_badMember 3 (some .boolean) :: zTs) { frames := 0, cells := 0, slots := 0, locals := 0 } 0 0 [.ref 1000, .int x, .int y] S (fun v S' => S' = S ∧ ((v = some (.int (nI 1)) ∧ ((x < nI 0 ∨ nI 1 < x) ∨ (y < nI 0 ∨ nI 3 < y))) ∨ (v = some (.int (nI 0)) ∧ ∃ i k, (x = nI i ∧ i ≤ 1) ∧ (y = nI k ∧ k ≤ 3)))) (fun _ _ => False) := by
  refine z_met (tys := ztys dA) (by decide) rfl zG0_K rfl (Nat.le_of_ble_eq_true rfl) (fun p e s m args below meth c A ad X hr hlocks hin hex => ?_)
  refine z_iload_n (j := 1) X dM_badMember_0 rfl rfl ?_
  refine z_if_lt (tgt := 18) X dM_badMember_1 (by decide) (fun c_1 => ?_) (fun c_1 => ?_)
  · refine z_iconst (v := (nI 1)) X dM_badMember_18 (by decide) ?_
    refine z_goto (tgt := 23) X dM_badMember_19 (by decide) ?_
    refine z_zret X hlocks hr dM_badMember_23 (by first | rfl | decide) (by omega) (by omega) ?_
    exact ⟨rfl, Or.inl ⟨rfl, by first | exact Or.inl (Or.inl c_1) | exact Or.inl (Or.inr c_6) | exact Or.inr (Or.inl c_10) | exact Or.inr (Or.inr (Int32.not_le.mp c_15))⟩⟩
  · refine z_iload_n (j := 1) X dM_badMember_4 rfl rfl ?_
    refine z_iconst (v := (nI 1)) X dM_badMember_5 (by decide) ?_
    refine z_icmp_gt (tgt := 18) X dM_badMember_6 (by decide) (fun c_6 => ?_) (fun c_6 => ?_)
    · refine z_iconst (v := (nI 1)) X dM_badMember_18 (by decide) ?_
      refine z_goto (tgt := 23) X dM_badMember_19 (by decide) ?_
      refine z_zret X hlocks hr dM_badMember_23 (by first | rfl | decide) (by omega) (by omega) ?_
      exact ⟨rfl, Or.inl ⟨rfl, by first | exact Or.inl (Or.inl c_1) | exact Or.inl (Or.inr c_6) | exact Or.inr (Or.inl c_10) | exact Or.inr (Or.inr (Int32.not_le.mp c_15))⟩⟩
    · refine z_iload_n (j := 2) X dM_badMember_9 rfl rfl ?_
      refine z_if_lt (tgt := 18) X dM_badMember_10 (by decide) (fun c_10 => ?_) (fun c_10 => ?_)
      · refine z_iconst (v := (nI 1)) X dM_badMember_18 (by decide) ?_
        refine z_goto (tgt := 23) X dM_badMember_19 (by decide) ?_
        refine z_zret X hlocks hr dM_badMember_23 (by first | rfl | decide) (by omega) (by omega) ?_
        exact ⟨rfl, Or.inl ⟨rfl, by first | exact Or.inl (Or.inl c_1) | exact Or.inl (Or.inr c_6) | exact Or.inr (Or.inl c_10) | exact Or.inr (Or.inr (Int32.not_le.mp c_15))⟩⟩
      · refine z_iload_n (j := 2) X dM_badMember_13 rfl rfl ?_
        refine z_iconst (v := (nI 3)) X dM_badMember_14 (by decide) ?_
        refine z_icmp_le (tgt := 22) X dM_badMember_15 (by decide) (fun c_15 => ?_) (fun c_15 => ?_)
        · refine z_iconst (v := (nI 0)) X dM_badMember_22 (by decide) ?_
          refine z_zret X hlocks hr dM_badMember_23 (by first | rfl | decide) (by omega) (by omega) ?_
          obtain ⟨i, hi⟩ := zRg (n := 1) (by decide) c_1 c_6
          obtain ⟨k, hk⟩ := zRg (n := 3) (by decide) c_10 (Int32.not_lt.mpr c_15)
          exact ⟨rfl, Or.inr ⟨rfl, i, k, hi, hk⟩⟩
        · refine z_iconst (v := (nI 1)) X dM_badMember_18 (by decide) ?_
          refine z_goto (tgt := 23) X dM_badMember_19 (by decide) ?_
          refine z_zret X hlocks hr dM_badMember_23 (by first | rfl | decide) (by omega) (by omega) ?_
          exact ⟨rfl, Or.inl ⟨rfl, by first | exact Or.inl (Or.inl c_1) | exact Or.inl (Or.inr c_6) | exact Or.inr (Or.inl c_10) | exact Or.inr (Or.inr (Int32.not_le.mp c_15))⟩⟩

set_option maxHeartbeats 600000 in
set_option maxRecDepth 100000 in
theorem mM_thrown (l : Launch) (D : va_G) (dA : Nat → ClassId) {S : zS}  : zMet l D vwCl zKK dA (zG0 D dA) yM_thrown (Cond.code yM_thrown cM_thrown 1 (some .int) :: zTs) { frames := 0, cells := 0, slots := 0, locals := 0 } 0 0 [.ref 1000] S (fun v S' => S' = S ∧ v = some (.int (S.2.1 1000 27))) (fun _ _ => False) := by
  refine z_met (tys := ztys dA) (by decide) rfl zG0_K rfl (Nat.le_of_ble_eq_true rfl) (fun p e s m args below meth c A ad X hr hlocks hin hex => ?_)
  refine z_aload_n (j := 0) X dM_thrown_0 rfl rfl ?_
  refine z_geti (C := RM) (T := TM) (N := 28) (k := 27) X (w_in inM) rfl rfl rfl (by decide) (w_m lM_77) rfl rfl dM_thrown_1 (hv := rfl) ?_
  refine z_iret X hlocks hr dM_thrown_4 (by omega) (by omega) ?_
  exact ⟨rfl, rfl⟩

set_option maxHeartbeats 600000 in
set_option maxRecDepth 100000 in
theorem mM_stable (l : Launch) (D : va_G) (dA : Nat → ClassId) {S : zS} {cu : Nat → Int32} {t : Nat} {g : zLg} (ht : t < 12) (hP : mP S) (hL : mL S cu t g) (hW : zLogW g) (hV : ∀ o e, g.2.2 o = some e → zEW e) : zMet l D vwCl zKK dA (zG0 D dA) yM_stable (Cond.code yM_stable cM_stable 3 (some .int) :: zTs) { frames := 0, cells := 0, slots := 0, locals := 0 } 0 0 [.ref 1000, .int (nI t)] S (fun v S' => S' = S ∧ v = some (.int (nI (zStab g)))) (fun _ _ => False) := by
  refine z_met (tys := ztys dA) (by decide) rfl zG0_K rfl (Nat.le_of_ble_eq_true rfl) (fun p e s m args below meth c A ad X hr hlocks hin hex => ?_)
  obtain ⟨hl1, hl2, hle⟩ := id hL
  obtain ⟨w1, w2, w3, w4, w5, w6, w7, w8, w9⟩ := id hW
  have wb := zBa_le g
  have loop : ∀ (f o : Nat), g.2.1.2 - o < f → o ≤ g.2.1.2 → (∀ j, j < o → zUnd (g.2.2 j) = false) → AW p l e { frames := 0, cells := 0, slots := 0, locals := 0 } s m args below meth c D vwCl zKK dA A (ad, S) 3 S 0 0 (vx_MQ below (zQc D vwCl zKK dA A ad S (fun v S' => S' = S ∧ v = some (.int (nI (zStab g))))) (zXC D vwCl zKK dA A ad S (fun _ _ => False)) args s 0 0 A) 2 [(2, .int (nI o)), (0, .ref 1000), (1, .int (nI t))] [] := by
    intro f
    induction f with
    | zero => intro o h0; omega
    | succ f ih =>
    intro o h0 hi2 hi3
    refine z_iload_n (j := 0) X dM_stable_2 rfl rfl ?_
    refine z_aload_n (j := 1) X dM_stable_3 rfl rfl ?_
    refine z_getr (C := RM) (T := TM) (N := 28) (k := 5) X (w_in inM) rfl rfl rfl (by decide) (w_m lM_26) rfl rfl (hP.2 5 (by decide)) dM_stable_4 ?_
    refine z_iload_n (j := 2) X dM_stable_7 rfl rfl ?_
    refine z_iald (t0 := 0) X rfl rfl (by omega) (by decide) dM_stable_8 (hv := hl2) ?_
    refine z_icmp_geN (tgt := 49) X dM_stable_9 (by decide) (by omega) (by omega) (fun c_9 => ?_) (fun c_9 => ?_)
    · refine z_aload_n (j := 1) X dM_stable_49 rfl rfl ?_
      refine z_getr (C := RM) (T := TM) (N := 28) (k := 5) X (w_in inM) rfl rfl rfl (by decide) (w_m lM_26) rfl rfl (hP.2 5 (by decide)) dM_stable_50 ?_
      refine z_iload_n (j := 2) X dM_stable_53 rfl rfl ?_
      refine z_iald (t0 := 0) X rfl rfl (by omega) (by decide) dM_stable_54 (hv := hl2) ?_
      refine z_iret X hlocks hr dM_stable_55 (by omega) (by omega) ?_
      refine ⟨rfl, ?_⟩
      rw [zStab_0 hW, zfind_none (fun j _ h2 => hi3 j (by omega))]
      rfl
    · have hlo := hle o (by omega)
      rcases he : g.2.2 o with _ | r <;> rw [he] at hlo
      · refine z_aload_n (j := 1) X dM_stable_12 rfl rfl ?_
        refine z_getr (C := RM) (T := TM) (N := 28) (k := 6) X (w_in inM) rfl rfl rfl (by decide) (w_m lM_29) rfl rfl (hP.2 6 (by decide)) dM_stable_13 ?_
        refine z_iload_n (j := 2) X dM_stable_16 rfl rfl ?_
        refine z_bipush (v := (nI 60)) X dM_stable_17 (by decide) ?_
        refine z_imul X dM_stable_19 ?_
        refine z_top (pk_mul t 60) ?_
        refine z_iload_n (j := 0) X dM_stable_20 rfl rfl ?_
        refine z_iadd X dM_stable_21 ?_
        refine z_top (nI_add (t * 60) o) ?_
        refine z_iald (t0 := 0) X rfl rfl (by omega) (by decide) dM_stable_22 (hv := hlo) ?_
        refine z_if_ne (tgt := 43) X dM_stable_23 (by decide) (fun c_23 => ?_) (fun c_23 => absurd c_23 (by decide))
        refine z_iinc (j := 0) (v := (nI (o + 1))) (L' := [(2, .int (nI (o + 1))), (0, .ref 1000), (1, .int (nI t))]) X dM_stable_43 rfl (nI_1 o) (by decide) rfl ?_
        refine z_goto (tgt := 2) X dM_stable_46 (by decide) ?_
        exact ih (o + 1) (by omega) (by omega) (fun j h2 => by
          by_cases e9 : j = o
          · subst e9; rw [he]; rfl
          · exact hi3 j (by omega))
      · obtain ⟨y1, y2, y3, y4, y5⟩ := hV o r he
        refine z_aload_n (j := 1) X dM_stable_12 rfl rfl ?_
        refine z_getr (C := RM) (T := TM) (N := 28) (k := 6) X (w_in inM) rfl rfl rfl (by decide) (w_m lM_29) rfl rfl (hP.2 6 (by decide)) dM_stable_13 ?_
        refine z_iload_n (j := 2) X dM_stable_16 rfl rfl ?_
        refine z_bipush (v := (nI 60)) X dM_stable_17 (by decide) ?_
        refine z_imul X dM_stable_19 ?_
        refine z_top (pk_mul t 60) ?_
        refine z_iload_n (j := 0) X dM_stable_20 rfl rfl ?_
        refine z_iadd X dM_stable_21 ?_
        refine z_top (nI_add (t * 60) o) ?_
        refine z_iald (t0 := 0) X rfl rfl (by omega) (by decide) dM_stable_22 (hv := hlo.1) ?_
        refine z_if_ne (tgt := 43) X dM_stable_23 (by decide) (fun c_23 => ?_) (fun c_23 => ?_)
        · refine z_iinc (j := 0) (v := (nI (o + 1))) (L' := [(2, .int (nI (o + 1))), (0, .ref 1000), (1, .int (nI t))]) X dM_stable_43 rfl (nI_1 o) (by decide) rfl ?_
          refine z_goto (tgt := 2) X dM_stable_46 (by decide) ?_
          exact ih (o + 1) (by omega) (by omega) (fun j h2 => by
            by_cases e9 : j = o
            · subst e9; rw [he]; exact decide_eq_false (fun h => by first | exact c_38 h | exact c_23 ((y5 h).trans nI_0))
            · exact hi3 j (by omega))
        · refine z_aload_n (j := 1) X dM_stable_26 rfl rfl ?_
          refine z_getr (C := RM) (T := TM) (N := 28) (k := 10) X (w_in inM) rfl rfl rfl (by decide) (w_m lM_41) rfl rfl (hP.2 10 (by decide)) dM_stable_27 ?_
          refine z_iload_n (j := 2) X dM_stable_30 rfl rfl ?_
          refine z_bipush (v := (nI 60)) X dM_stable_31 (by decide) ?_
          refine z_imul X dM_stable_33 ?_
          refine z_top (pk_mul t 60) ?_
          refine z_iload_n (j := 0) X dM_stable_34 rfl rfl ?_
          refine z_iadd X dM_stable_35 ?_
          refine z_top (nI_add (t * 60) o) ?_
          refine z_iald (t0 := 0) X rfl rfl (by omega) (by decide) dM_stable_36 (hv := hlo.2.2.2.2.1) ?_
          refine z_iconst (v := (nI 2)) X dM_stable_37 (by decide) ?_
          refine z_icmp_ne (tgt := 43) X dM_stable_38 (by decide) (fun c_38 => ?_) (fun c_38 => ?_)
          · refine z_iinc (j := 0) (v := (nI (o + 1))) (L' := [(2, .int (nI (o + 1))), (0, .ref 1000), (1, .int (nI t))]) X dM_stable_43 rfl (nI_1 o) (by decide) rfl ?_
            refine z_goto (tgt := 2) X dM_stable_46 (by decide) ?_
            exact ih (o + 1) (by omega) (by omega) (fun j h2 => by
              by_cases e9 : j = o
              · subst e9; rw [he]; exact decide_eq_false (fun h => by first | exact c_38 h | exact c_23 ((y5 h).trans nI_0))
              · exact hi3 j (by omega))
          · refine z_iload_n (j := 0) X dM_stable_41 rfl rfl ?_
            refine z_iret X hlocks hr dM_stable_42 (by omega) (by omega) ?_
            refine ⟨rfl, ?_⟩
            rw [zStab_0 hW, zfind_some (x := o) (Nat.zero_le _) (by omega) (fun j _ h2 => hi3 j h2) (by rw [he]; exact decide_eq_true c_38)]
            rfl
  refine z_iconst (v := (nI 0)) X dM_stable_0 (by decide) ?_
  refine z_istore_n (L' := [(2, .int (nI 0)), (0, .ref 1000), (1, .int (nI t))]) X dM_stable_1 rfl (by decide) rfl ?_
  exact loop (g.2.1.2 + 1) 0 (by omega) (by omega) (fun j h => by omega)

set_option maxHeartbeats 600000 in
set_option maxRecDepth 100000 in
theorem mM_openBase (l : Launch) (D : va_G) (dA : Nat → ClassId) {S : zS} {cu : Nat → Int32} {t : Nat} {g : zLg} (ht : t < 12) (hP : mP S) (hL : mL S cu t g) (hW : zLogW g) (hV : ∀ o e, g.2.2 o = some e → zEW e) (hsg : S.2.1 1002 (t / 4) = nI g.1.1) : zMet l D vwCl zKK dA (zG0 D dA) yM_openBase (Cond.code yM_openBase cM_openBase 2 (some .int) :: zTs) { frames := 0, cells := 0, slots := 0, locals := 0 } 0 0 [.ref 1000, .int (nI t)] S (fun v S' => S' = S ∧ v = some (.int (nI (zBa g)))) (fun _ _ => False) := by
  refine z_met (tys := ztys dA) (by decide) rfl zG0_K rfl (Nat.le_of_ble_eq_true rfl) (fun p e s m args below meth c A ad X hr hlocks hin hex => ?_)
  obtain ⟨hl1, hl2, hle⟩ := id hL
  obtain ⟨w1, w2, w3, w4, w5, w6, w7, w8, w9⟩ := id hW
  have wb := zBa_le g
  refine z_aload_n (j := 0) X dM_openBase_0 rfl rfl ?_
  refine z_getr (C := RM) (T := TM) (N := 28) (k := 5) X (w_in inM) rfl rfl rfl (by decide) (w_m lM_26) rfl rfl (hP.2 5 (by decide)) dM_openBase_1 ?_
  refine z_iload_n (j := 1) X dM_openBase_4 rfl rfl ?_
  refine z_iald (t0 := 0) X rfl rfl (by omega) (by decide) dM_openBase_5 (hv := hl2) ?_
  refine z_aload_n (j := 0) X dM_openBase_6 rfl rfl ?_
  refine z_getr (C := RM) (T := TM) (N := 28) (k := 1) X (w_in inM) rfl rfl rfl (by decide) (w_m lM_13) rfl rfl (hP.2 1 (by decide)) dM_openBase_7 ?_
  refine z_iload_n (j := 1) X dM_openBase_10 rfl rfl ?_
  refine z_iconst (v := (nI 4)) X dM_openBase_11 (by decide) ?_
  refine z_idiv X dM_openBase_12 (nI_ne0 (by omega) (by omega)) ?_
  refine z_top (pk_div (a := t) (d := 4) (by omega) (by omega) (by omega)) ?_
  refine z_iald (t0 := 0) X rfl rfl (by omega) (by decide) dM_openBase_13 (hv := hsg) ?_
  refine z_idiv X dM_openBase_14 (nI_ne0 (by omega) (by omega)) ?_
  refine z_top (pk_div (a := g.2.1.2) (d := g.1.1) (by omega) (by omega) (by omega)) ?_
  refine z_aload_n (j := 0) X dM_openBase_15 rfl rfl ?_
  refine z_getr (C := RM) (T := TM) (N := 28) (k := 1) X (w_in inM) rfl rfl rfl (by decide) (w_m lM_13) rfl rfl (hP.2 1 (by decide)) dM_openBase_16 ?_
  refine z_iload_n (j := 1) X dM_openBase_19 rfl rfl ?_
  refine z_iconst (v := (nI 4)) X dM_openBase_20 (by decide) ?_
  refine z_idiv X dM_openBase_21 (nI_ne0 (by omega) (by omega)) ?_
  refine z_top (pk_div (a := t) (d := 4) (by omega) (by omega) (by omega)) ?_
  refine z_iald (t0 := 0) X rfl rfl (by omega) (by decide) dM_openBase_22 (hv := hsg) ?_
  refine z_imul X dM_openBase_23 ?_
  refine z_top (pk_mul (g.2.1.2 / g.1.1) g.1.1) ?_
  refine z_iret X hlocks hr dM_openBase_24 (by omega) (by omega) ?_
  exact ⟨rfl, rfl⟩

set_option maxHeartbeats 600000 in
set_option maxRecDepth 100000 in
theorem mM_closed (l : Launch) (D : va_G) (dA : Nat → ClassId) {S : zS} {cu : Nat → Int32} {t : Nat} {g : zLg} (ht : t < 12) (hP : mP S) (hL : mL S cu t g) (hW : zLogW g) (hV : ∀ o e, g.2.2 o = some e → zEW e) (hsg : S.2.1 1002 (t / 4) = nI g.1.1) : zMet l D vwCl zKK dA (zG0 D dA) yM_closed (Cond.code yM_closed cM_closed 2 (some .int) :: zTs) { frames := 1, cells := 0, slots := 0, locals := 21 } 0 0 [.ref 1000, .int (nI t)] S (fun v S' => S' = S ∧ v = some (.int (nI (zCl g)))) (fun _ _ => False) := by
  refine z_met (tys := ztys dA) (by decide) rfl zG0_K rfl (Nat.le_of_ble_eq_true rfl) (fun p e s m args below meth c A ad X hr hlocks hin hex => ?_)
  obtain ⟨hl1, hl2, hle⟩ := id hL
  obtain ⟨w1, w2, w3, w4, w5, w6, w7, w8, w9⟩ := id hW
  have wb := zBa_le g
  refine z_aload_n (j := 0) X dM_closed_0 rfl rfl ?_
  refine z_iload_n (j := 1) X dM_closed_1 rfl rfl ?_
  refine z_callV (n := 1) (As := [.int (nI t)]) (rest := []) X zG0_m (mM_openBase l D dA ht hP hL hW hV hsg) (w_V X.2.2.2.2.1 lM_81 jM_openBase sM_openBase i_LogBrokerModel kM_openBase rfl rfl (by decide +kernel) ⟨Nat.le_of_ble_eq_true rfl, Nat.le_of_ble_eq_true rfl⟩) rfl rfl rfl rfl rfl (Nat.le_of_ble_eq_true rfl) dM_closed_2 ⟨Nat.le_of_ble_eq_true rfl, Nat.le_of_ble_eq_true rfl⟩ (fun v S9 hp => ?_) (fun E S1 hx => hx.elim)
  obtain ⟨hS9, hp⟩ := hp
  have hS9 := hS9.symm
  subst hS9
  subst hp
  refine z_aload_n (j := 0) X dM_closed_5 rfl rfl ?_
  refine z_getr (C := RM) (T := TM) (N := 28) (k := 4) X (w_in inM) rfl rfl rfl (by decide) (w_m lM_23) rfl rfl (hP.2 4 (by decide)) dM_closed_6 ?_
  refine z_iload_n (j := 1) X dM_closed_9 rfl rfl ?_
  refine z_iald (t0 := 0) X rfl rfl (by omega) (by decide) dM_closed_10 (hv := hl1) ?_
  refine z_isub X dM_closed_11 ?_
  refine z_top (pk_sub (a := zBa g) (b := g.2.1.1) (by omega)) ?_
  refine z_aload_n (j := 0) X dM_closed_12 rfl rfl ?_
  refine z_getr (C := RM) (T := TM) (N := 28) (k := 1) X (w_in inM) rfl rfl rfl (by decide) (w_m lM_13) rfl rfl (hP.2 1 (by decide)) dM_closed_13 ?_
  refine z_iload_n (j := 1) X dM_closed_16 rfl rfl ?_
  refine z_iconst (v := (nI 4)) X dM_closed_17 (by decide) ?_
  refine z_idiv X dM_closed_18 (nI_ne0 (by omega) (by omega)) ?_
  refine z_top (pk_div (a := t) (d := 4) (by omega) (by omega) (by omega)) ?_
  refine z_iald (t0 := 0) X rfl rfl (by omega) (by decide) dM_closed_19 (hv := hsg) ?_
  refine z_idiv X dM_closed_20 (nI_ne0 (by omega) (by omega)) ?_
  refine z_top (pk_div (a := zBa g - g.2.1.1) (d := g.1.1) (by omega) (by omega) (by omega)) ?_
  refine z_iret X hlocks hr dM_closed_21 (by omega) (by omega) ?_
  exact ⟨rfl, rfl⟩

set_option maxHeartbeats 600000 in
set_option maxRecDepth 100000 in
theorem mM_searchT (l : Launch) (D : va_G) (dA : Nat → ClassId) {S : zS} {cu : Nat → Int32} {t : Nat} {g : zLg} {o0 : Nat} (ht : t < 12) (hP : mP S) (hL : mL S cu t g) (hW : zLogW g) (hV : ∀ o e, g.2.2 o = some e → zEW e) (ho0 : o0 ≤ 60) : zMet l D vwCl zKK dA (zG0 D dA) yM_search (Cond.code yM_search cM_search 7 (some .int) :: zTs) { frames := 1, cells := 0, slots := 0, locals := 22 } 0 0 [.ref 1000, .int (nI t), .int (nI o0), .int (nI 1)] S (fun v S' => S' = S ∧ v = some (.int (zOI (zVis g o0 true)))) (fun _ _ => False) := by
  refine z_met (tys := ztys dA) (by decide) rfl zG0_K rfl (Nat.le_of_ble_eq_true rfl) (fun p e s m args below meth c A ad X hr hlocks hin hex => ?_)
  obtain ⟨hl1, hl2, hle⟩ := id hL
  obtain ⟨w1, w2, w3, w4, w5, w6, w7, w8, w9⟩ := id hW
  have wb := zBa_le g
  have wst := zStab_le g (by omega)
  have loop : ∀ (f o : Nat), zStab g - o < f → o0 ≤ o → o ≤ 60 → (∀ j, o0 ≤ j → j < o → zSee true (g.2.2 j) = false) → AW p l e { frames := 1, cells := 0, slots := 0, locals := 22 } s m args below meth c D vwCl zKK dA A (ad, S) 7 S (0 + 0) (0 + 0) (vx_MQ below (zQc D vwCl zKK dA A ad S (fun v S' => S' = S ∧ v = some (.int (zOI (zVis g o0 true))))) (zXC D vwCl zKK dA A ad S (fun _ _ => False)) args s 0 0 A) 23 [(5, .int (nI o)), (4, .int (nI (zStab g))), (0, .ref 1000), (1, .int (nI t)), (2, .int (nI o0)), (3, .int (nI 1))] [] := by
    intro f
    induction f with
    | zero => intro o h0; omega
    | succ f ih =>
    intro o h0 hi1 hi2 hi3
    refine z_iload (j := 0) X dM_search_23 rfl ?_
    refine z_iload (j := 1) X dM_search_25 rfl ?_
    refine z_icmp_geN (tgt := 72) X dM_search_27 (by decide) (by omega) (by omega) (fun c_27 => ?_) (fun c_27 => ?_)
    · refine z_iconst (v := (-1)) X dM_search_72 (by decide) ?_
      refine z_iret X hlocks hr dM_search_73 (by omega) (by omega) ?_
      refine ⟨rfl, ?_⟩
      show some (Value.int _) = some (Value.int (zOI (zfind (fun j => zSee true (g.2.2 j)) (zStab g - o0) o0)))
      rw [zfind_none (fun j h1 h2 => hi3 j h1 (by omega))]
      rfl
    · refine z_iload_n (j := 3) X dM_search_30 rfl rfl ?_
      refine z_bipush (v := (nI 60)) X dM_search_31 (by decide) ?_
      refine z_imul X dM_search_33 ?_
      refine z_top (pk_mul t 60) ?_
      refine z_iload (j := 0) X dM_search_34 rfl ?_
      refine z_iadd X dM_search_36 ?_
      refine z_top (nI_add (t * 60) o) ?_
      refine z_istore (L' := [(6, .int (nI (t * 60 + o))), (5, .int (nI o)), (4, .int (nI (zStab g))), (0, .ref 1000), (1, .int (nI t)), (2, .int (nI o0)), (3, .int (nI 1))]) X dM_search_37 (by decide) rfl ?_
      have hlo := hle o (by omega)
      rcases he : g.2.2 o with _ | r <;> rw [he] at hlo
      · refine z_aload_n (j := 3) X dM_search_39 rfl rfl ?_
        refine z_getr (C := RM) (T := TM) (N := 28) (k := 6) X (w_in inM) rfl rfl rfl (by decide) (w_m lM_29) rfl rfl (hP.2 6 (by decide)) dM_search_40 ?_
        refine z_iload (j := 0) X dM_search_43 rfl ?_
        refine z_iald (t0 := 0) X rfl rfl (by omega) (by decide) dM_search_45 (hv := hlo) ?_
        refine z_if_ne (tgt := 66) X dM_search_46 (by decide) (fun c_46 => ?_) (fun c_46 => absurd c_46 (by decide))
        refine z_iinc (j := 1) (v := (nI (o + 1))) (L' := [(5, .int (nI (o + 1))), (6, .int (nI (t * 60 + o))), (4, .int (nI (zStab g))), (0, .ref 1000), (1, .int (nI t)), (2, .int (nI o0)), (3, .int (nI 1))]) X dM_search_66 rfl (nI_1 o) (by decide) rfl ?_
        refine z_goto (tgt := 23) X dM_search_69 (by decide) ?_
        refine z_loc [0, 2, 3, 4, 5, 6] rfl ?_
        exact ih (o + 1) (by omega) (by omega) (by omega) (fun j h1 h2 => by
          by_cases e9 : j = o
          · subst e9; rw [he]; rfl
          · exact hi3 j h1 (by omega))
      · obtain ⟨y1, y2, y3, y4, y5⟩ := hV o r he
        refine z_aload_n (j := 3) X dM_search_39 rfl rfl ?_
        refine z_getr (C := RM) (T := TM) (N := 28) (k := 6) X (w_in inM) rfl rfl rfl (by decide) (w_m lM_29) rfl rfl (hP.2 6 (by decide)) dM_search_40 ?_
        refine z_iload (j := 0) X dM_search_43 rfl ?_
        refine z_iald (t0 := 0) X rfl rfl (by omega) (by decide) dM_search_45 (hv := hlo.1) ?_
        refine z_if_ne (tgt := 66) X dM_search_46 (by decide) (fun c_46 => ?_) (fun c_46 => ?_)
        · refine z_iinc (j := 1) (v := (nI (o + 1))) (L' := [(5, .int (nI (o + 1))), (6, .int (nI (t * 60 + o))), (4, .int (nI (zStab g))), (0, .ref 1000), (1, .int (nI t)), (2, .int (nI o0)), (3, .int (nI 1))]) X dM_search_66 rfl (nI_1 o) (by decide) rfl ?_
          refine z_goto (tgt := 23) X dM_search_69 (by decide) ?_
          refine z_loc [0, 2, 3, 4, 5, 6] rfl ?_
          exact ih (o + 1) (by omega) (by omega) (by omega) (fun j h1 h2 => by
            by_cases e9 : j = o
            · subst e9; rw [he]; show (decide _ && (_ || decide _)) = false; first | (rw [decide_eq_false (p := r.1 = nI 0) (fun h => c_46 (h.trans nI_0))]; rfl) | (rw [decide_eq_false (p := r.2.2.2.2 = nI 0) (fun h => c_60 (h.trans nI_0))]; simp)
            · exact hi3 j h1 (by omega))
        · refine z_iload_n (j := 6) X dM_search_49 rfl rfl ?_
          refine z_if_eq (tgt := 63) X dM_search_50 (by decide) (fun c_50 => absurd c_50 (by decide)) (fun c_50 => ?_)
          refine z_aload_n (j := 3) X dM_search_53 rfl rfl ?_
          refine z_getr (C := RM) (T := TM) (N := 28) (k := 10) X (w_in inM) rfl rfl rfl (by decide) (w_m lM_41) rfl rfl (hP.2 10 (by decide)) dM_search_54 ?_
          refine z_iload (j := 0) X dM_search_57 rfl ?_
          refine z_iald (t0 := 0) X rfl rfl (by omega) (by decide) dM_search_59 (hv := hlo.2.2.2.2.1) ?_
          refine z_if_ne (tgt := 66) X dM_search_60 (by decide) (fun c_60 => ?_) (fun c_60 => ?_)
          · refine z_iinc (j := 1) (v := (nI (o + 1))) (L' := [(5, .int (nI (o + 1))), (6, .int (nI (t * 60 + o))), (4, .int (nI (zStab g))), (0, .ref 1000), (1, .int (nI t)), (2, .int (nI o0)), (3, .int (nI 1))]) X dM_search_66 rfl (nI_1 o) (by decide) rfl ?_
            refine z_goto (tgt := 23) X dM_search_69 (by decide) ?_
            refine z_loc [0, 2, 3, 4, 5, 6] rfl ?_
            exact ih (o + 1) (by omega) (by omega) (by omega) (fun j h1 h2 => by
              by_cases e9 : j = o
              · subst e9; rw [he]; show (decide _ && (_ || decide _)) = false; first | (rw [decide_eq_false (p := r.1 = nI 0) (fun h => c_46 (h.trans nI_0))]; rfl) | (rw [decide_eq_false (p := r.2.2.2.2 = nI 0) (fun h => c_60 (h.trans nI_0))]; simp)
              · exact hi3 j h1 (by omega))
          · refine z_iload (j := 1) X dM_search_63 rfl ?_
            refine z_iret X hlocks hr dM_search_65 (by omega) (by omega) ?_
            refine ⟨rfl, ?_⟩
            show some (Value.int _) = some (Value.int (zOI (zfind (fun j => zSee true (g.2.2 j)) (zStab g - o0) o0)))
            rw [zfind_some (x := o) hi1 (by omega) hi3 (by rw [he]; show (decide _ && (_ || decide _)) = true; rw [decide_eq_true (c_46.trans nI_0.symm), decide_eq_true (c_60.trans nI_0.symm)]; rfl)]
            rfl
  refine z_iload_n (j := 3) X dM_search_0 rfl rfl ?_
  refine z_if_eq (tgt := 12) X dM_search_1 (by decide) (fun c_1 => absurd c_1 (by decide)) (fun c_1 => ?_)
  refine z_aload_n (j := 0) X dM_search_4 rfl rfl ?_
  refine z_iload_n (j := 1) X dM_search_5 rfl rfl ?_
  refine z_callV (n := 1) (As := [.int (nI t)]) (rest := []) X zG0_m (mM_stable l D dA ht hP hL hW hV) (w_V X.2.2.2.2.1 lM_88 jM_stable sM_stable i_LogBrokerModel kM_stable rfl rfl (by decide +kernel) ⟨Nat.le_of_ble_eq_true rfl, Nat.le_of_ble_eq_true rfl⟩) rfl rfl rfl rfl rfl (Nat.le_of_ble_eq_true rfl) dM_search_6 ⟨Nat.le_of_ble_eq_true rfl, Nat.le_of_ble_eq_true rfl⟩ (fun v S9 hp => ?_) (fun E S1 hx => hx.elim)
  obtain ⟨hS9, hp⟩ := hp
  have hS9 := hS9.symm
  subst hS9
  subst hp
  refine z_goto (tgt := 18) X dM_search_9 (by decide) ?_
  refine z_istore (L' := [(4, .int (nI (zStab g))), (0, .ref 1000), (1, .int (nI t)), (2, .int (nI o0)), (3, .int (nI 1))]) X dM_search_18 (by decide) rfl ?_
  refine z_iload_n (j := 3) X dM_search_20 rfl rfl ?_
  refine z_istore (L' := [(5, .int (nI o0)), (4, .int (nI (zStab g))), (0, .ref 1000), (1, .int (nI t)), (2, .int (nI o0)), (3, .int (nI 1))]) X dM_search_21 (by decide) rfl ?_
  exact loop (zStab g - o0 + 1) o0 (by omega) (Nat.le_refl _) ho0 (fun j h1 h2 => by omega)

set_option maxHeartbeats 600000 in
set_option maxRecDepth 100000 in
theorem mM_searchF (l : Launch) (D : va_G) (dA : Nat → ClassId) {S : zS} {cu : Nat → Int32} {t : Nat} {g : zLg} {o0 : Nat} (ht : t < 12) (hP : mP S) (hL : mL S cu t g) (hW : zLogW g) (hV : ∀ o e, g.2.2 o = some e → zEW e) (ho0 : o0 ≤ 60) : zMet l D vwCl zKK dA (zG0 D dA) yM_search (Cond.code yM_search cM_search 7 (some .int) :: zTs) { frames := 1, cells := 0, slots := 0, locals := 22 } 0 0 [.ref 1000, .int (nI t), .int (nI o0), .int (nI 0)] S (fun v S' => S' = S ∧ v = some (.int (zOI (zVis g o0 false)))) (fun _ _ => False) := by
  refine z_met (tys := ztys dA) (by decide) rfl zG0_K rfl (Nat.le_of_ble_eq_true rfl) (fun p e s m args below meth c A ad X hr hlocks hin hex => ?_)
  obtain ⟨hl1, hl2, hle⟩ := id hL
  obtain ⟨w1, w2, w3, w4, w5, w6, w7, w8, w9⟩ := id hW
  have wb := zBa_le g
  have wst := zStab_le g (by omega)
  have loop : ∀ (f o : Nat), g.2.1.2 - o < f → o0 ≤ o → o ≤ 60 → (∀ j, o0 ≤ j → j < o → zSee false (g.2.2 j) = false) → AW p l e { frames := 1, cells := 0, slots := 0, locals := 22 } s m args below meth c D vwCl zKK dA A (ad, S) 7 S (0) (0) (vx_MQ below (zQc D vwCl zKK dA A ad S (fun v S' => S' = S ∧ v = some (.int (zOI (zVis g o0 false))))) (zXC D vwCl zKK dA A ad S (fun _ _ => False)) args s 0 0 A) 23 [(5, .int (nI o)), (4, .int (nI (g.2.1.2))), (0, .ref 1000), (1, .int (nI t)), (2, .int (nI o0)), (3, .int (nI 0))] [] := by
    intro f
    induction f with
    | zero => intro o h0; omega
    | succ f ih =>
    intro o h0 hi1 hi2 hi3
    refine z_iload (j := 0) X dM_search_23 rfl ?_
    refine z_iload (j := 1) X dM_search_25 rfl ?_
    refine z_icmp_geN (tgt := 72) X dM_search_27 (by decide) (by omega) (by omega) (fun c_27 => ?_) (fun c_27 => ?_)
    · refine z_iconst (v := (-1)) X dM_search_72 (by decide) ?_
      refine z_iret X hlocks hr dM_search_73 (by omega) (by omega) ?_
      refine ⟨rfl, ?_⟩
      show some (Value.int _) = some (Value.int (zOI (zfind (fun j => zSee false (g.2.2 j)) (g.2.1.2 - o0) o0)))
      rw [zfind_none (fun j h1 h2 => hi3 j h1 (by omega))]
      rfl
    · refine z_iload_n (j := 3) X dM_search_30 rfl rfl ?_
      refine z_bipush (v := (nI 60)) X dM_search_31 (by decide) ?_
      refine z_imul X dM_search_33 ?_
      refine z_top (pk_mul t 60) ?_
      refine z_iload (j := 0) X dM_search_34 rfl ?_
      refine z_iadd X dM_search_36 ?_
      refine z_top (nI_add (t * 60) o) ?_
      refine z_istore (L' := [(6, .int (nI (t * 60 + o))), (5, .int (nI o)), (4, .int (nI (g.2.1.2))), (0, .ref 1000), (1, .int (nI t)), (2, .int (nI o0)), (3, .int (nI 0))]) X dM_search_37 (by decide) rfl ?_
      have hlo := hle o (by omega)
      rcases he : g.2.2 o with _ | r <;> rw [he] at hlo
      · refine z_aload_n (j := 3) X dM_search_39 rfl rfl ?_
        refine z_getr (C := RM) (T := TM) (N := 28) (k := 6) X (w_in inM) rfl rfl rfl (by decide) (w_m lM_29) rfl rfl (hP.2 6 (by decide)) dM_search_40 ?_
        refine z_iload (j := 0) X dM_search_43 rfl ?_
        refine z_iald (t0 := 0) X rfl rfl (by omega) (by decide) dM_search_45 (hv := hlo) ?_
        refine z_if_ne (tgt := 66) X dM_search_46 (by decide) (fun c_46 => ?_) (fun c_46 => absurd c_46 (by decide))
        refine z_iinc (j := 1) (v := (nI (o + 1))) (L' := [(5, .int (nI (o + 1))), (6, .int (nI (t * 60 + o))), (4, .int (nI (g.2.1.2))), (0, .ref 1000), (1, .int (nI t)), (2, .int (nI o0)), (3, .int (nI 0))]) X dM_search_66 rfl (nI_1 o) (by decide) rfl ?_
        refine z_goto (tgt := 23) X dM_search_69 (by decide) ?_
        refine z_loc [0, 2, 3, 4, 5, 6] rfl ?_
        exact ih (o + 1) (by omega) (by omega) (by omega) (fun j h1 h2 => by
          by_cases e9 : j = o
          · subst e9; rw [he]; rfl
          · exact hi3 j h1 (by omega))
      · obtain ⟨y1, y2, y3, y4, y5⟩ := hV o r he
        refine z_aload_n (j := 3) X dM_search_39 rfl rfl ?_
        refine z_getr (C := RM) (T := TM) (N := 28) (k := 6) X (w_in inM) rfl rfl rfl (by decide) (w_m lM_29) rfl rfl (hP.2 6 (by decide)) dM_search_40 ?_
        refine z_iload (j := 0) X dM_search_43 rfl ?_
        refine z_iald (t0 := 0) X rfl rfl (by omega) (by decide) dM_search_45 (hv := hlo.1) ?_
        refine z_if_ne (tgt := 66) X dM_search_46 (by decide) (fun c_46 => ?_) (fun c_46 => ?_)
        · refine z_iinc (j := 1) (v := (nI (o + 1))) (L' := [(5, .int (nI (o + 1))), (6, .int (nI (t * 60 + o))), (4, .int (nI (g.2.1.2))), (0, .ref 1000), (1, .int (nI t)), (2, .int (nI o0)), (3, .int (nI 0))]) X dM_search_66 rfl (nI_1 o) (by decide) rfl ?_
          refine z_goto (tgt := 23) X dM_search_69 (by decide) ?_
          refine z_loc [0, 2, 3, 4, 5, 6] rfl ?_
          exact ih (o + 1) (by omega) (by omega) (by omega) (fun j h1 h2 => by
            by_cases e9 : j = o
            · subst e9; rw [he]; show (decide _ && (_ || decide _)) = false; first | (rw [decide_eq_false (p := r.1 = nI 0) (fun h => c_46 (h.trans nI_0))]; rfl)
            · exact hi3 j h1 (by omega))
        · refine z_iload_n (j := 6) X dM_search_49 rfl rfl ?_
          refine z_if_eq (tgt := 63) X dM_search_50 (by decide) (fun c_50 => ?_) (fun c_50 => absurd c_50 (by decide))
          refine z_iload (j := 1) X dM_search_63 rfl ?_
          refine z_iret X hlocks hr dM_search_65 (by omega) (by omega) ?_
          refine ⟨rfl, ?_⟩
          show some (Value.int _) = some (Value.int (zOI (zfind (fun j => zSee false (g.2.2 j)) (g.2.1.2 - o0) o0)))
          rw [zfind_some (x := o) hi1 (by omega) hi3 (by rw [he]; show (decide _ && (_ || decide _)) = true; rw [decide_eq_true (c_46.trans nI_0.symm)]; rfl)]
          rfl
  refine z_iload_n (j := 3) X dM_search_0 rfl rfl ?_
  refine z_if_eq (tgt := 12) X dM_search_1 (by decide) (fun c_1 => ?_) (fun c_1 => absurd c_1 (by decide))
  refine z_aload_n (j := 0) X dM_search_12 rfl rfl ?_
  refine z_getr (C := RM) (T := TM) (N := 28) (k := 5) X (w_in inM) rfl rfl rfl (by decide) (w_m lM_26) rfl rfl (hP.2 5 (by decide)) dM_search_13 ?_
  refine z_iload_n (j := 1) X dM_search_16 rfl rfl ?_
  refine z_iald (t0 := 0) X rfl rfl (by omega) (by decide) dM_search_17 (hv := hl2) ?_
  refine z_istore (L' := [(4, .int (nI g.2.1.2)), (0, .ref 1000), (1, .int (nI t)), (2, .int (nI o0)), (3, .int (nI 0))]) X dM_search_18 (by decide) rfl ?_
  refine z_iload_n (j := 3) X dM_search_20 rfl rfl ?_
  refine z_istore (L' := [(5, .int (nI o0)), (4, .int (nI g.2.1.2)), (0, .ref 1000), (1, .int (nI t)), (2, .int (nI o0)), (3, .int (nI 0))]) X dM_search_21 (by decide) rfl ?_
  exact loop (g.2.1.2 - o0 + 1) o0 (by omega) (Nat.le_refl _) ho0 (fun j h1 h2 => by omega)

theorem mM_search (l : Launch) (D : va_G) (dA : Nat → ClassId) {S : zS} {cu : Nat → Int32} {t : Nat} {g : zLg} {o0 : Nat} (c : Bool) (ht : t < 12) (hP : mP S) (hL : mL S cu t g) (hW : zLogW g) (hV : ∀ o e, g.2.2 o = some e → zEW e) (ho0 : o0 ≤ 60) : zMet l D vwCl zKK dA (zG0 D dA) yM_search (Cond.code yM_search cM_search 7 (some .int) :: zTs) { frames := 1, cells := 0, slots := 0, locals := 22 } 0 0 [.ref 1000, .int (nI t), .int (nI o0), .int (zB c)] S (fun v S' => S' = S ∧ v = some (.int (zOI (zVis g o0 c)))) (fun _ _ => False) := by
  cases c with
  | true => exact mM_searchT l D dA ht hP hL hW hV ho0
  | false => exact mM_searchF l D dA ht hP hL hW hV ho0
set_option maxHeartbeats 600000 in
set_option maxRecDepth 100000 in
theorem mM_takesPart (l : Launch) (D : va_G) (dA : Nat → ClassId) {S : zS} {cu : Nat → Int32} {t : Nat} {g : zLg} {i : Nat} {q : Int32} (ht : t < 12) (hP : mP S) (hL : mL S cu t g) (hW : zLogW g) (hV : ∀ o e, g.2.2 o = some e → zEW e) (hq : ∀ o e, g.2.2 o = some e → e.2.2.2.2 = nI 2 → (cu e.2.2.2.1.toNatClampNeg = nI i ↔ e.2.2.2.1 = q)) : zMet l D vwCl zKK dA (zG0 D dA) yM_takesPart (Cond.code yM_takesPart cM_takesPart 5 (some .boolean) :: zTs) { frames := 0, cells := 0, slots := 0, locals := 0 } 0 0 [.ref 1000, .int (nI i), .int (nI t)] S (fun v S' => S' = S ∧ ((v = some (.int (nI 1)) ∧ zHasU g q = true) ∨ (v = some (.int (nI 0)) ∧ ¬ zHasU g q = true))) (fun _ _ => False) := by
  refine z_met (tys := ztys dA) (by decide) rfl zG0_K rfl (Nat.le_of_ble_eq_true rfl) (fun p e s m args below meth c A ad X hr hlocks hin hex => ?_)
  obtain ⟨hl1, hl2, hle⟩ := id hL
  obtain ⟨w1, w2, w3, w4, w5, w6, w7, w8, w9⟩ := id hW
  have wb := zBa_le g
  have loop : ∀ (f o : Nat), g.2.1.2 - o < f → o ≤ g.2.1.2 → (∀ j, j < o → zUndP q (g.2.2 j) = false) → AW p l e { frames := 0, cells := 0, slots := 0, locals := 0 } s m args below meth c D vwCl zKK dA A (ad, S) 5 S 0 0 (vx_MQ below (zQc D vwCl zKK dA A ad S (fun v S' => S' = S ∧ ((v = some (.int (nI 1)) ∧ zHasU g q = true) ∨ (v = some (.int (nI 0)) ∧ ¬ zHasU g q = true)))) (zXC D vwCl zKK dA A ad S (fun _ _ => False)) args s 0 0 A) 2 [(3, .int (nI o)), (0, .ref 1000), (1, .int (nI i)), (2, .int (nI t))] [] := by
    intro f
    induction f with
    | zero => intro o h0; omega
    | succ f ih =>
    intro o h0 hi2 hi3
    refine z_iload_n (j := 0) X dM_takesPart_2 rfl rfl ?_
    refine z_aload_n (j := 1) X dM_takesPart_3 rfl rfl ?_
    refine z_getr (C := RM) (T := TM) (N := 28) (k := 5) X (w_in inM) rfl rfl rfl (by decide) (w_m lM_26) rfl rfl (hP.2 5 (by decide)) dM_takesPart_4 ?_
    refine z_iload_n (j := 3) X dM_takesPart_7 rfl rfl ?_
    refine z_iald (t0 := 0) X rfl rfl (by omega) (by decide) dM_takesPart_8 (hv := hl2) ?_
    refine z_icmp_geN (tgt := 60) X dM_takesPart_9 (by decide) (by omega) (by omega) (fun c_9 => ?_) (fun c_9 => ?_)
    · refine z_iconst (v := (nI 0)) X dM_takesPart_60 (by decide) ?_
      refine z_zret X hlocks hr dM_takesPart_61 (by first | rfl | decide) (by omega) (by omega) ?_
      refine ⟨rfl, Or.inr ⟨rfl, ?_⟩⟩
      rw [zHasU_0 hW, zfind_none (fun j _ h2 => hi3 j (by omega))]
      decide
    · refine z_iload_n (j := 3) X dM_takesPart_12 rfl rfl ?_
      refine z_bipush (v := (nI 60)) X dM_takesPart_13 (by decide) ?_
      refine z_imul X dM_takesPart_15 ?_
      refine z_top (pk_mul t 60) ?_
      refine z_iload_n (j := 0) X dM_takesPart_16 rfl rfl ?_
      refine z_iadd X dM_takesPart_17 ?_
      refine z_top (nI_add (t * 60) o) ?_
      refine z_istore (L' := [(4, .int (nI (t * 60 + o))), (3, .int (nI o)), (0, .ref 1000), (1, .int (nI i)), (2, .int (nI t))]) X dM_takesPart_18 (by decide) rfl ?_
      have hlo := hle o (by omega)
      rcases he : g.2.2 o with _ | r <;> rw [he] at hlo
      · refine z_aload_n (j := 2) X dM_takesPart_20 rfl rfl ?_
        refine z_getr (C := RM) (T := TM) (N := 28) (k := 6) X (w_in inM) rfl rfl rfl (by decide) (w_m lM_29) rfl rfl (hP.2 6 (by decide)) dM_takesPart_21 ?_
        refine z_iload (j := 0) X dM_takesPart_24 rfl ?_
        refine z_iald (t0 := 0) X rfl rfl (by omega) (by decide) dM_takesPart_26 (hv := hlo) ?_
        refine z_if_ne (tgt := 54) X dM_takesPart_27 (by decide) (fun c_27 => ?_) (fun c_27 => absurd c_27 (by decide))
        refine z_iinc (j := 1) (v := (nI (o + 1))) (L' := [(3, .int (nI (o + 1))), (4, .int (nI (t * 60 + o))), (0, .ref 1000), (1, .int (nI i)), (2, .int (nI t))]) X dM_takesPart_54 rfl (nI_1 o) (by decide) rfl ?_
        refine z_goto (tgt := 2) X dM_takesPart_57 (by decide) ?_
        refine z_loc [0, 2, 3, 4] rfl ?_
        exact ih (o + 1) (by omega) (by omega) (fun j h2 => by
          by_cases e9 : j = o
          · subst e9; rw [he]; rfl
          · exact hi3 j (by omega))
      · obtain ⟨y1, y2, y3, y4, y5⟩ := hV o r he
        refine z_aload_n (j := 2) X dM_takesPart_20 rfl rfl ?_
        refine z_getr (C := RM) (T := TM) (N := 28) (k := 6) X (w_in inM) rfl rfl rfl (by decide) (w_m lM_29) rfl rfl (hP.2 6 (by decide)) dM_takesPart_21 ?_
        refine z_iload (j := 0) X dM_takesPart_24 rfl ?_
        refine z_iald (t0 := 0) X rfl rfl (by omega) (by decide) dM_takesPart_26 (hv := hlo.1) ?_
        refine z_if_ne (tgt := 54) X dM_takesPart_27 (by decide) (fun c_27 => ?_) (fun c_27 => ?_)
        · refine z_iinc (j := 1) (v := (nI (o + 1))) (L' := [(3, .int (nI (o + 1))), (4, .int (nI (t * 60 + o))), (0, .ref 1000), (1, .int (nI i)), (2, .int (nI t))]) X dM_takesPart_54 rfl (nI_1 o) (by decide) rfl ?_
          refine z_goto (tgt := 2) X dM_takesPart_57 (by decide) ?_
          refine z_loc [0, 2, 3, 4] rfl ?_
          exact ih (o + 1) (by omega) (by omega) (fun j h2 => by
            by_cases e9 : j = o
            · subst e9; rw [he]; show (decide _ && decide _) = false; first | (rw [decide_eq_false (p := r.2.2.2.2 = nI 2) (fun h => c_27 ((y5 h).trans nI_0))]; rfl) | (rw [decide_eq_false (p := r.2.2.2.2 = nI 2) c_38]; rfl) | (rw [decide_eq_false (p := r.2.2.2.1 = q) (fun h => c_49 ((hlo.2.2.2.2.2 c_38).trans ((hq _ r he c_38).mpr h)))]; simp)
            · exact hi3 j (by omega))
        · refine z_aload_n (j := 2) X dM_takesPart_30 rfl rfl ?_
          refine z_getr (C := RM) (T := TM) (N := 28) (k := 10) X (w_in inM) rfl rfl rfl (by decide) (w_m lM_41) rfl rfl (hP.2 10 (by decide)) dM_takesPart_31 ?_
          refine z_iload (j := 0) X dM_takesPart_34 rfl ?_
          refine z_iald (t0 := 0) X rfl rfl (by omega) (by decide) dM_takesPart_36 (hv := hlo.2.2.2.2.1) ?_
          refine z_iconst (v := (nI 2)) X dM_takesPart_37 (by decide) ?_
          refine z_icmp_ne (tgt := 54) X dM_takesPart_38 (by decide) (fun c_38 => ?_) (fun c_38 => ?_)
          · refine z_iinc (j := 1) (v := (nI (o + 1))) (L' := [(3, .int (nI (o + 1))), (4, .int (nI (t * 60 + o))), (0, .ref 1000), (1, .int (nI i)), (2, .int (nI t))]) X dM_takesPart_54 rfl (nI_1 o) (by decide) rfl ?_
            refine z_goto (tgt := 2) X dM_takesPart_57 (by decide) ?_
            refine z_loc [0, 2, 3, 4] rfl ?_
            exact ih (o + 1) (by omega) (by omega) (fun j h2 => by
              by_cases e9 : j = o
              · subst e9; rw [he]; show (decide _ && decide _) = false; first | (rw [decide_eq_false (p := r.2.2.2.2 = nI 2) (fun h => c_27 ((y5 h).trans nI_0))]; rfl) | (rw [decide_eq_false (p := r.2.2.2.2 = nI 2) c_38]; rfl) | (rw [decide_eq_false (p := r.2.2.2.1 = q) (fun h => c_49 ((hlo.2.2.2.2.2 c_38).trans ((hq _ r he c_38).mpr h)))]; simp)
              · exact hi3 j (by omega))
          · refine z_aload_n (j := 2) X dM_takesPart_41 rfl rfl ?_
            refine z_getr (C := RM) (T := TM) (N := 28) (k := 11) X (w_in inM) rfl rfl rfl (by decide) (w_m lM_44) rfl rfl (hP.2 11 (by decide)) dM_takesPart_42 ?_
            refine z_iload (j := 0) X dM_takesPart_45 rfl ?_
            refine z_iald (t0 := 0) X rfl rfl (by omega) (by decide) dM_takesPart_47 (hv := rfl) ?_
            refine z_iload_n (j := 3) X dM_takesPart_48 rfl rfl ?_
            refine z_icmp_ne (tgt := 54) X dM_takesPart_49 (by decide) (fun c_49 => ?_) (fun c_49 => ?_)
            · refine z_iinc (j := 1) (v := (nI (o + 1))) (L' := [(3, .int (nI (o + 1))), (4, .int (nI (t * 60 + o))), (0, .ref 1000), (1, .int (nI i)), (2, .int (nI t))]) X dM_takesPart_54 rfl (nI_1 o) (by decide) rfl ?_
              refine z_goto (tgt := 2) X dM_takesPart_57 (by decide) ?_
              refine z_loc [0, 2, 3, 4] rfl ?_
              exact ih (o + 1) (by omega) (by omega) (fun j h2 => by
                by_cases e9 : j = o
                · subst e9; rw [he]; show (decide _ && decide _) = false; first | (rw [decide_eq_false (p := r.2.2.2.2 = nI 2) (fun h => c_27 ((y5 h).trans nI_0))]; rfl) | (rw [decide_eq_false (p := r.2.2.2.2 = nI 2) c_38]; rfl) | (rw [decide_eq_false (p := r.2.2.2.1 = q) (fun h => c_49 ((hlo.2.2.2.2.2 c_38).trans ((hq _ r he c_38).mpr h)))]; simp)
                · exact hi3 j (by omega))
            · refine z_iconst (v := (nI 1)) X dM_takesPart_52 (by decide) ?_
              refine z_zret X hlocks hr dM_takesPart_53 (by first | rfl | decide) (by omega) (by omega) ?_
              refine ⟨rfl, Or.inl ⟨rfl, ?_⟩⟩
              rw [zHasU_0 hW, zfind_some (x := o) (Nat.zero_le _) (by omega) (fun j _ h2 => hi3 j h2) (by
                rw [he]
                show (decide _ && decide _) = true
                rw [decide_eq_true c_38, decide_eq_true ((hq o r he c_38).mp ((hlo.2.2.2.2.2 c_38).symm.trans c_49))]; rfl)]
              rfl
  refine z_iconst (v := (nI 0)) X dM_takesPart_0 (by decide) ?_
  refine z_istore_n (L' := [(3, .int (nI 0)), (0, .ref 1000), (1, .int (nI i)), (2, .int (nI t))]) X dM_takesPart_1 rfl (by decide) rfl ?_
  exact loop (g.2.1.2 + 1) 0 (by omega) (by omega) (fun j h => by omega)

set_option maxHeartbeats 600000 in
set_option maxRecDepth 100000 in
theorem mM_fenced (l : Launch) (D : va_G) (dA : Nat → ClassId) {S : zS} {b : zBr} {i : Nat} (hP : mP S) (hi : i < 6) (hS : mS S i (b.2.2.1 i)) (hC : mC S b) (hpr : ∃ q, q < 4 ∧ (b.2.2.1 i).1 = nI q) : zMet l D vwCl zKK dA (zG0 D dA) yM_fenced (Cond.code yM_fenced cM_fenced 2 (some .boolean) :: zTs) { frames := 0, cells := 0, slots := 0, locals := 0 } 0 0 [.ref 1000, .int (nI i)] S (fun v S' => S' = S ∧ ((v = some (.int (nI 1)) ∧ ¬ zCur b i) ∨ (v = some (.int (nI 0)) ∧ zCur b i))) (fun _ _ => False) := by
  refine z_met (tys := ztys dA) (by decide) rfl zG0_K rfl (Nat.le_of_ble_eq_true rfl) (fun p e s m args below meth c A ad X hr hlocks hin hex => ?_)
  obtain ⟨q, hq4, hq1⟩ := hpr
  refine z_aload_n (j := 0) X dM_fenced_0 rfl rfl ?_
  refine z_getr (C := RM) (T := TM) (N := 28) (k := 16) X (w_in inM) rfl rfl rfl (by decide) (w_m lM_59) rfl rfl (hP.2 16 (by decide)) dM_fenced_1 ?_
  refine z_aload_n (j := 0) X dM_fenced_4 rfl rfl ?_
  refine z_getr (C := RM) (T := TM) (N := 28) (k := 12) X (w_in inM) rfl rfl rfl (by decide) (w_m lM_47) rfl rfl (hP.2 12 (by decide)) dM_fenced_5 ?_
  refine z_iload_n (j := 1) X dM_fenced_8 rfl rfl ?_
  refine z_iald (t0 := 0) X rfl rfl (by omega) (by decide) dM_fenced_9 (hv := (hS.1.trans hq1)) ?_
  refine z_iald (t0 := 0) X rfl rfl (by omega) (by decide) dM_fenced_10 (hv := (hC q hq4).1) ?_
  refine z_iload_n (j := 1) X dM_fenced_11 rfl rfl ?_
  refine z_icmp_eq (tgt := 19) X dM_fenced_12 (by decide) (fun c_12 => ?_) (fun c_12 => ?_)
  · refine z_iconst (v := (nI 0)) X dM_fenced_19 (by decide) ?_
    refine z_zret X hlocks hr dM_fenced_20 (by first | rfl | decide) (by omega) (by omega) ?_
    exact ⟨rfl, Or.inr ⟨rfl, by unfold zCur; rw [hq1, nI_clamp (by omega)]; exact c_12⟩⟩
  · refine z_iconst (v := (nI 1)) X dM_fenced_15 (by decide) ?_
    refine z_goto (tgt := 20) X dM_fenced_16 (by decide) ?_
    refine z_zret X hlocks hr dM_fenced_20 (by first | rfl | decide) (by omega) (by omega) ?_
    exact ⟨rfl, Or.inl ⟨rfl, fun h => c_12 (by unfold zCur at h; rw [hq1, nI_clamp (by omega)] at h; exact h)⟩⟩
