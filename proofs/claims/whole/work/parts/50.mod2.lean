/-! CONTRACTS of the reference: shortening, writing, room, newer records, owners, changes (rows by program) -/
set_option maxHeartbeats 600000 in
set_option maxRecDepth 100000 in
theorem mM_shorten (l : Launch) (D : va_G) (dA : Nat → ClassId) {S : zS} {cu : Nat → Int32} {t : Nat} {g : zLg} (ht : t < 12) (hP : mP S) (hL : mL S cu t g) (hW : zLogW g) (hV : ∀ o e, g.2.2 o = some e → zEW e) (hsg : S.2.1 1002 (t / 4) = nI g.1.1) (hmo : S.2.1 1003 (t / 4) = nI g.1.2.1) : zMet l D vwCl zKK dA (zG0 D dA) yM_shorten (Cond.code yM_shorten cM_shorten 4 none :: zTs) { frames := 2, cells := 0, slots := 0, locals := 42 } 0 0 [.ref 1000, .int (nI t)] S (fun v S' => v = none ∧ mL S' cu t (zShort (zStab g) 61 g) ∧ S'.2.1 1000 25 = S.2.1 1000 25 + nI (zPr g - zPr (zShort (zStab g) 61 g)) ∧ zch (oH t) S S') (fun _ _ => False) := by
  refine z_met (tys := ztys dA) (by decide) rfl zG0_K rfl (Nat.le_of_ble_eq_true rfl) (fun p e s m args below meth c A ad X hr hlocks hin hex => ?_)
  obtain ⟨hl1, hl2, hle⟩ := id hL
  obtain ⟨w1, w2, w3, w4, w5, w6, w7, w8, w9⟩ := id hW
  have wb := zBa_le g
  have loop : ∀ (f : Nat) (g1 : zLg) (S1 : zS), zCl g1 < f → zShort (zStab g) f g1 = zShort (zStab g) 61 g → zStab g1 = zStab g → zLogW g1 → (∀ o e, g1.2.2 o = some e → zEW e) → mL S1 cu t g1 → g1.1 = g.1 → zPr g1 ≤ zPr g → S1.2.1 1000 25 = S.2.1 1000 25 + nI (zPr g - zPr g1) → zch (oH t) S S1 → AW p l e { frames := 2, cells := 0, slots := 0, locals := 42 } s m args below meth c D vwCl zKK dA A (ad, S) 4 S1 0 0 (vx_MQ below (zQc D vwCl zKK dA A ad S (fun v S' => v = none ∧ mL S' cu t (zShort (zStab g) 61 g) ∧ S'.2.1 1000 25 = S.2.1 1000 25 + nI (zPr g - zPr (zShort (zStab g) 61 g)) ∧ zch (oH t) S S')) (zXC D vwCl zKK dA A ad S (fun _ _ => False)) args s 0 0 A) 9 [(2, .int (nI g.1.1)), (0, .ref 1000), (1, .int (nI t))] [] := by
    intro f
    induction f with
    | zero => intro g1 S1 h0; omega
    | succ f ih =>
    intro g1 S1 h0 hfu hsb hW1 hV1 hL1 hg1 hle h25 hc
    have hP1 : mP S1 := mP_fr hP hc
    have hsg1 : S1.2.1 1002 (t / 4) = nI g1.1.1 := by rw [hg1]; exact (hc.2.2 _ _ (by unfold oH; omega)).trans hsg
    have hmo1 : S1.2.1 1003 (t / 4) = nI g1.1.2.1 := by rw [hg1]; exact (hc.2.2 _ _ (by unfold oH; omega)).trans hmo
    have hcl := zCl_60 hW1
    obtain ⟨x1, x2, x3, x4, x5, x6, x7, x8, x9⟩ := id hW1
    have xb := zBa_le g1
    have xs := zStab_le g1 (by omega)
    have h11 : g1.1.1 = g.1.1 := by rw [hg1]
    refine z_aload_n (j := 1) X dM_shorten_9 rfl rfl ?_
    refine z_iload_n (j := 2) X dM_shorten_10 rfl rfl ?_
    refine z_callV (n := 1) (As := [.int (nI t)]) (rest := []) X zG0_m (mM_closed l D dA ht hP1 hL1 hW1 hV1 hsg1) (w_V X.2.2.2.2.1 lM_85 jM_closed sM_closed i_LogBrokerModel kM_closed rfl rfl (by decide +kernel) ⟨Nat.le_of_ble_eq_true rfl, Nat.le_of_ble_eq_true rfl⟩) rfl rfl rfl rfl rfl (Nat.le_of_ble_eq_true rfl) dM_shorten_11 ⟨Nat.le_of_ble_eq_true rfl, Nat.le_of_ble_eq_true rfl⟩ (fun v S9 hp => ?_) (fun E S1 hx => hx.elim)
    obtain ⟨hS9, hp⟩ := hp
    have hS9 := hS9.symm
    subst hS9
    subst hp
    refine z_aload_n (j := 1) X dM_shorten_14 rfl rfl ?_
    refine z_getr (C := RM) (T := TM) (N := 28) (k := 2) X (w_in inM) rfl rfl rfl (by decide) (w_m lM_16) rfl rfl (hP1.2 2 (by decide)) dM_shorten_15 ?_
    refine z_iload_n (j := 2) X dM_shorten_18 rfl rfl ?_
    refine z_iconst (v := (nI 4)) X dM_shorten_19 (by decide) ?_
    refine z_idiv X dM_shorten_20 (nI_ne0 (by omega) (by omega)) ?_
    refine z_top (pk_div (a := t) (d := 4) (by omega) (by omega) (by omega)) ?_
    refine z_iald (t0 := 0) X rfl rfl (by omega) (by decide) dM_shorten_21 (hv := hmo1) ?_
    refine z_icmp_leN (tgt := 115) X dM_shorten_22 (by decide) (by omega) (by omega) (fun c_22 => ?_) (fun c_22 => ?_)
    · refine z_vret X hlocks hr dM_shorten_115 (by omega) (by omega) ?_
      rw [zShort_n (fun h => by first | exact absurd h.1 (by omega) | exact absurd h.2 (by omega))] at hfu
      rw [← hfu]
      exact ⟨rfl, hL1, h25, hc⟩
    · refine z_aload_n (j := 1) X dM_shorten_25 rfl rfl ?_
      refine z_getr (C := RM) (T := TM) (N := 28) (k := 4) X (w_in inM) rfl rfl rfl (by decide) (w_m lM_23) rfl rfl (hP1.2 4 (by decide)) dM_shorten_26 ?_
      refine z_iload_n (j := 2) X dM_shorten_29 rfl rfl ?_
      refine z_iald (t0 := 0) X rfl rfl (by omega) (by decide) dM_shorten_30 (hv := hL1.1) ?_
      refine z_iload_n (j := 0) X dM_shorten_31 rfl rfl ?_
      refine z_iadd X dM_shorten_32 ?_
      refine z_top (nI_add g1.2.1.1 g.1.1) ?_
      refine z_aload_n (j := 1) X dM_shorten_33 rfl rfl ?_
      refine z_iload_n (j := 2) X dM_shorten_34 rfl rfl ?_
      refine z_callV (n := 1) (As := [.int (nI t)]) (rest := [.int (nI (g1.2.1.1 + g.1.1))]) X zG0_m (mM_stable l D dA ht hP1 hL1 hW1 hV1) (w_V X.2.2.2.2.1 lM_88 jM_stable sM_stable i_LogBrokerModel kM_stable rfl rfl (by decide +kernel) ⟨Nat.le_of_ble_eq_true rfl, Nat.le_of_ble_eq_true rfl⟩) rfl rfl rfl rfl rfl (Nat.le_of_ble_eq_true rfl) dM_shorten_35 ⟨Nat.le_of_ble_eq_true rfl, Nat.le_of_ble_eq_true rfl⟩ (fun v S9 hp => ?_) (fun E S1 hx => hx.elim)
      obtain ⟨hS9, hp⟩ := hp
      have hS9 := hS9.symm
      subst hS9
      subst hp
      refine z_icmp_gtN (tgt := 115) X dM_shorten_38 (by decide) (by omega) (by omega) (fun c_38 => ?_) (fun c_38 => ?_)
      · refine z_vret X hlocks hr dM_shorten_115 (by omega) (by omega) ?_
        rw [zShort_n (fun h => by first | exact absurd h.1 (by omega) | exact absurd h.2 (by omega))] at hfu
        rw [← hfu]
        exact ⟨rfl, hL1, h25, hc⟩
      · refine z_aload_n (j := 1) X dM_shorten_41 rfl rfl ?_
        refine z_getr (C := RM) (T := TM) (N := 28) (k := 4) X (w_in inM) rfl rfl rfl (by decide) (w_m lM_23) rfl rfl (hP1.2 4 (by decide)) dM_shorten_42 ?_
        refine z_iload_n (j := 2) X dM_shorten_45 rfl rfl ?_
        refine z_iald (t0 := 0) X rfl rfl (by omega) (by decide) dM_shorten_46 (hv := hL1.1) ?_
        refine z_istore_n (L' := [(3, .int (nI g1.2.1.1)), (2, .int (nI g.1.1)), (0, .ref 1000), (1, .int (nI t))]) X dM_shorten_47 rfl (by decide) rfl ?_
        have h11 : g1.1.1 = g.1.1 := by rw [hg1]
        have hcc := Nat.lt_of_not_le c_22
        have hcs := Nat.le_of_not_lt c_38
        have hsl := zStab_le g1 (by omega)
        have inner : ∀ (f2 o : Nat) (S2 : zS), g1.2.1.1 + g.1.1 - o < f2 → o ≤ g1.2.1.1 + g.1.1 → mL S2 cu t (zDr g1 o) → S2.2.1 1000 25 = S.2.1 1000 25 + nI (zPr g - zPr (zDr g1 o)) → zch (oH t) S S2 → AW p l e { frames := 2, cells := 0, slots := 0, locals := 42 } s m args below meth c D vwCl zKK dA A (ad, S) 4 S2 0 0 (vx_MQ below (zQc D vwCl zKK dA A ad S (fun v S' => v = none ∧ mL S' cu t (zShort (zStab g) 61 g) ∧ S'.2.1 1000 25 = S.2.1 1000 25 + nI (zPr g - zPr (zShort (zStab g) 61 g)) ∧ zch (oH t) S S')) (zXC D vwCl zKK dA A ad S (fun _ _ => False)) args s 0 0 A) 48 [(3, .int (nI o)), (2, .int (nI g.1.1)), (0, .ref 1000), (1, .int (nI t))] [] := by
          intro f2
          induction f2 with
          | zero => intro o S2 h0; omega
          | succ f2 ih2 =>
          intro o S2 h0 hi1 hL2 h252 hc2
          have hP2 : mP S2 := mP_fr hP hc2
          refine z_iload_n (j := 0) X dM_shorten_48 rfl rfl ?_
          refine z_aload_n (j := 2) X dM_shorten_49 rfl rfl ?_
          refine z_getr (C := RM) (T := TM) (N := 28) (k := 4) X (w_in inM) rfl rfl rfl (by decide) (w_m lM_23) rfl rfl (hP2.2 4 (by decide)) dM_shorten_50 ?_
          refine z_iload_n (j := 3) X dM_shorten_53 rfl rfl ?_
          refine z_iald (t0 := 0) X rfl rfl (by omega) (by decide) dM_shorten_54 (hv := hL2.1) ?_
          refine z_iload_n (j := 1) X dM_shorten_55 rfl rfl ?_
          refine z_iadd X dM_shorten_56 ?_
          refine z_top (nI_add g1.2.1.1 g.1.1) ?_
          refine z_icmp_geN (tgt := 102) X dM_shorten_57 (by decide) (by omega) (by omega) (fun c_57 => ?_) (fun c_57 => ?_)
          · refine z_aload_n (j := 2) X dM_shorten_102 rfl rfl ?_
            refine z_getr (C := RM) (T := TM) (N := 28) (k := 4) X (w_in inM) rfl rfl rfl (by decide) (w_m lM_23) rfl rfl (hP2.2 4 (by decide)) dM_shorten_103 ?_
            refine z_iload_n (j := 3) X dM_shorten_106 rfl rfl ?_
            refine z_dup2 X dM_shorten_107 rfl rfl ?_
            refine z_iald (t0 := 0) X rfl rfl (by omega) (by decide) dM_shorten_108 (hv := hL2.1) ?_
            refine z_iload_n (j := 1) X dM_shorten_109 rfl rfl ?_
            refine z_iadd X dM_shorten_110 ?_
            refine z_top (nI_add g1.2.1.1 g.1.1) ?_
            refine z_iast (t0 := 0) X rfl rfl (by omega) (by decide) dM_shorten_111 ?_
            refine z_goto (tgt := 9) X dM_shorten_112 (by decide) ?_
            refine z_loc [1, 2, 3] rfl ?_
            have e9 : o = g1.2.1.1 + g1.1.1 := by omega
            rw [e9] at hL2 h252
            obtain ⟨n1, n2, n3⟩ := sh_e hL2 h252 hc2
            rw [h11] at n1 n2 n3
            have hs1 := zLogW_sh1 hW1 (show 0 < zCl g1 by omega)
            exact ih (zSh1 g1) _ (Nat.lt_of_lt_of_le (zSh1_cl hW1 (by omega)) (by omega)) ((zShort_y ⟨by omega, by omega⟩).symm.trans hfu) ((zStab_sh1 hW1 hs1 (by omega)).trans hsb) hs1 (zSh1_V hV1) n1 hg1 (Nat.le_trans (Nat.le_trans (Nat.le_of_eq zPr_sh1) zDr_le) hle) n2 n3
          · have hlo := hL2.2.2 o (by omega)
            rw [zDr_at (Nat.le_refl _)] at hlo
            rcases he : g1.2.2 o with _ | r <;> rw [he] at hlo
            · refine z_aload_n (j := 2) X dM_shorten_60 rfl rfl ?_
              refine z_getr (C := RM) (T := TM) (N := 28) (k := 6) X (w_in inM) rfl rfl rfl (by decide) (w_m lM_29) rfl rfl (hP2.2 6 (by decide)) dM_shorten_61 ?_
              refine z_iload_n (j := 3) X dM_shorten_64 rfl rfl ?_
              refine z_bipush (v := (nI 60)) X dM_shorten_65 (by decide) ?_
              refine z_imul X dM_shorten_67 ?_
              refine z_top (pk_mul t 60) ?_
              refine z_iload_n (j := 0) X dM_shorten_68 rfl rfl ?_
              refine z_iadd X dM_shorten_69 ?_
              refine z_top (nI_add (t * 60) o) ?_
              refine z_iald (t0 := 0) X rfl rfl (by omega) (by decide) dM_shorten_70 (hv := hlo) ?_
              refine z_if_lt (tgt := 84) X dM_shorten_71 (by decide) (fun c_71 => ?_) (fun c_71 => absurd c_71 (by decide))
              refine z_aload_n (j := 2) X dM_shorten_84 rfl rfl ?_
              refine z_getr (C := RM) (T := TM) (N := 28) (k := 6) X (w_in inM) rfl rfl rfl (by decide) (w_m lM_29) rfl rfl (hP2.2 6 (by decide)) dM_shorten_85 ?_
              refine z_iload_n (j := 3) X dM_shorten_88 rfl rfl ?_
              refine z_bipush (v := (nI 60)) X dM_shorten_89 (by decide) ?_
              refine z_imul X dM_shorten_91 ?_
              refine z_top (pk_mul t 60) ?_
              refine z_iload_n (j := 0) X dM_shorten_92 rfl rfl ?_
              refine z_iadd X dM_shorten_93 ?_
              refine z_top (nI_add (t * 60) o) ?_
              refine z_iconst (v := (-1)) X dM_shorten_94 (by decide) ?_
              refine z_iast (t0 := 0) X rfl rfl (by omega) (by decide) dM_shorten_95 ?_
              refine z_iinc (j := 0) (v := (nI (o + 1))) (L' := [(3, .int (nI (o + 1))), (2, .int (nI g.1.1)), (0, .ref 1000), (1, .int (nI t))]) X dM_shorten_96 rfl (nI_1 o) (by decide) rfl ?_
              refine z_goto (tgt := 48) X dM_shorten_99 (by decide) ?_
              obtain ⟨n1, n2, n3⟩ := sh_n hL2 h252 hc2 (by omega) he
              exact ih2 (o + 1) _ (by omega) (by omega) n1 n2 n3
            · refine z_aload_n (j := 2) X dM_shorten_60 rfl rfl ?_
              refine z_getr (C := RM) (T := TM) (N := 28) (k := 6) X (w_in inM) rfl rfl rfl (by decide) (w_m lM_29) rfl rfl (hP2.2 6 (by decide)) dM_shorten_61 ?_
              refine z_iload_n (j := 3) X dM_shorten_64 rfl rfl ?_
              refine z_bipush (v := (nI 60)) X dM_shorten_65 (by decide) ?_
              refine z_imul X dM_shorten_67 ?_
              refine z_top (pk_mul t 60) ?_
              refine z_iload_n (j := 0) X dM_shorten_68 rfl rfl ?_
              refine z_iadd X dM_shorten_69 ?_
              refine z_top (nI_add (t * 60) o) ?_
              refine z_iald (t0 := 0) X rfl rfl (by omega) (by decide) dM_shorten_70 (hv := hlo.1) ?_
              refine z_if_lt (tgt := 84) X dM_shorten_71 (by decide) (fun c_71 => absurd c_71 (zEW_k0 (hV1 o r he))) (fun c_71 => ?_)
              refine z_aload_n (j := 2) X dM_shorten_74 rfl rfl ?_
              refine z_dup X dM_shorten_75 rfl ?_
              refine z_geti (C := RM) (T := TM) (N := 28) (k := 25) X (w_in inM) rfl rfl rfl (by decide) (w_m lM_91) rfl rfl dM_shorten_76 (hv := rfl) ?_
              refine z_iconst (v := (nI 1)) X dM_shorten_79 (by decide) ?_
              refine z_iadd X dM_shorten_80 ?_
              refine z_puti (C := RM) (T := TM) (N := 28) (k := 25) X (w_in inM) rfl rfl rfl (by decide) (w_m lM_91) rfl tyM tyM_ok nmM rfl rfl (ty := .int) (by decide +kernel) rfl rfl dM_shorten_81 ?_
              refine z_aload_n (j := 2) X dM_shorten_84 rfl rfl ?_
              refine z_getr (C := RM) (T := TM) (N := 28) (k := 6) X (w_in inM) rfl rfl rfl (by decide) (w_m lM_29) rfl rfl (rp_i (hP2.2 6 (by decide))) dM_shorten_85 ?_
              refine z_iload_n (j := 3) X dM_shorten_88 rfl rfl ?_
              refine z_bipush (v := (nI 60)) X dM_shorten_89 (by decide) ?_
              refine z_imul X dM_shorten_91 ?_
              refine z_top (pk_mul t 60) ?_
              refine z_iload_n (j := 0) X dM_shorten_92 rfl rfl ?_
              refine z_iadd X dM_shorten_93 ?_
              refine z_top (nI_add (t * 60) o) ?_
              refine z_iconst (v := (-1)) X dM_shorten_94 (by decide) ?_
              refine z_iast (t0 := 0) X rfl rfl (by omega) (by decide) dM_shorten_95 ?_
              refine z_iinc (j := 0) (v := (nI (o + 1))) (L' := [(3, .int (nI (o + 1))), (2, .int (nI g.1.1)), (0, .ref 1000), (1, .int (nI t))]) X dM_shorten_96 rfl (nI_1 o) (by decide) rfl ?_
              refine z_goto (tgt := 48) X dM_shorten_99 (by decide) ?_
              obtain ⟨n1, n2, n3⟩ := sh_y hL2 h252 hc2 (by omega) he hle
              exact ih2 (o + 1) _ (by omega) (by omega) n1 n2 n3
        exact inner (g.1.1 + 1) g1.2.1.1 S1 (by omega) (by omega) (by rw [zDr_0 hW1]; exact hL1) (by rw [zDr_0 hW1]; exact h25) hc
  refine z_aload_n (j := 0) X dM_shorten_0 rfl rfl ?_
  refine z_getr (C := RM) (T := TM) (N := 28) (k := 1) X (w_in inM) rfl rfl rfl (by decide) (w_m lM_13) rfl rfl (hP.2 1 (by decide)) dM_shorten_1 ?_
  refine z_iload_n (j := 1) X dM_shorten_4 rfl rfl ?_
  refine z_iconst (v := (nI 4)) X dM_shorten_5 (by decide) ?_
  refine z_idiv X dM_shorten_6 (nI_ne0 (by omega) (by omega)) ?_
  refine z_top (pk_div (a := t) (d := 4) (by omega) (by omega) (by omega)) ?_
  refine z_iald (t0 := 0) X rfl rfl (by omega) (by decide) dM_shorten_7 (hv := hsg) ?_
  refine z_istore_n (L' := [(2, .int (nI g.1.1)), (0, .ref 1000), (1, .int (nI t))]) X dM_shorten_8 rfl (by decide) rfl ?_
  have hcl := zCl_60 hW
  exact loop 61 g S (by omega) rfl rfl hW hV hL rfl (Nat.le_refl _) (by rw [Nat.sub_self, nI_0, Int32.add_zero]) zch.rf

set_option maxHeartbeats 600000 in
set_option maxRecDepth 100000 in
theorem mM_write (l : Launch) (D : va_G) (dA : Nat → ClassId) {S : zS} {cu : Nat → Int32} {t w i : Nat} {g : zLg} {u : zSn} {kk vv : Int32} (ht : t < 12) (hP : mP S) (hL : mL S cu t g) (hW : zLogW g) (hV : ∀ o e, g.2.2 o = some e → zEW e) (hsg : S.2.1 1002 (t / 4) = nI g.1.1) (hmo : S.2.1 1003 (t / 4) = nI g.1.2.1) (hen : g.2.1.2 < 60) (hw : w < 3) (hi : i < 6) (hu : mS S i u) (hcu : w = 0 → ¬ u.2.1 = nI 0 → cu u.1.toNatClampNeg = nI i) (hee : zEW (nI w, kk, vv, u.1, zWs w u)) : zMet l D vwCl zKK dA (zG0 D dA) yM_write (Cond.code yM_write cM_write 7 (some .int) :: zTs) { frames := 3, cells := 0, slots := 0, locals := 65 } 0 0 [.ref 1000, .int (nI t), .int (nI w), .int kk, .int vv, .int (nI i)] S (fun v S' => v = some (.int (nI g.2.1.2)) ∧ mL S' cu t (zWr g (nI w, kk, vv, u.1, zWs w u)) ∧ S'.2.1 1000 22 = S.2.1 1000 22 + nI 1 ∧ S'.2.1 1000 25 = S.2.1 1000 25 + nI (zWd g (nI w, kk, vv, u.1, zWs w u)) ∧ zch (oV t) S S') (fun _ _ => False) := by
  refine z_met (tys := ztys dA) (by decide) rfl zG0_K rfl (Nat.le_of_ble_eq_true rfl) (fun p e s m args below meth c A ad X hr hlocks hin hex => ?_)
  obtain ⟨hl1, hl2, hle⟩ := id hL
  obtain ⟨w1, w2, w3, w4, w5, w6, w7, w8, w9⟩ := id hW
  have wb := zBa_le g
  refine z_iload_n (j := 1) X dM_write_0 rfl rfl ?_
  refine z_bipush (v := (nI 60)) X dM_write_1 (by decide) ?_
  refine z_imul X dM_write_3 ?_
  refine z_top (pk_mul t 60) ?_
  refine z_aload_n (j := 0) X dM_write_4 rfl rfl ?_
  refine z_getr (C := RM) (T := TM) (N := 28) (k := 5) X (w_in inM) rfl rfl rfl (by decide) (w_m lM_26) rfl rfl (hP.2 5 (by decide)) dM_write_5 ?_
  refine z_iload_n (j := 1) X dM_write_8 rfl rfl ?_
  refine z_iald (t0 := 0) X rfl rfl (by omega) (by decide) dM_write_9 (hv := hl2) ?_
  refine z_iadd X dM_write_10 ?_
  refine z_top (nI_add (t * 60) g.2.1.2) ?_
  refine z_istore (L' := [(6, .int (nI (t * 60 + g.2.1.2))), (0, .ref 1000), (1, .int (nI t)), (2, .int (nI w)), (3, .int kk), (4, .int vv), (5, .int (nI i))]) X dM_write_11 (by decide) rfl ?_
  refine z_aload_n (j := 1) X dM_write_13 rfl rfl ?_
  refine z_getr (C := RM) (T := TM) (N := 28) (k := 6) X (w_in inM) rfl rfl rfl (by decide) (w_m lM_29) rfl rfl (hP.2 6 (by decide)) dM_write_14 ?_
  refine z_iload (j := 0) X dM_write_17 rfl ?_
  refine z_iload_n (j := 3) X dM_write_19 rfl rfl ?_
  refine z_iast (t0 := 0) X rfl rfl (by omega) (by decide) dM_write_20 ?_
  refine z_aload_n (j := 1) X dM_write_21 rfl rfl ?_
  refine z_getr (C := RM) (T := TM) (N := 28) (k := 7) X (w_in inM) rfl rfl rfl (by decide) (w_m lM_32) rfl rfl (rp_i (hP.2 7 (by decide))) dM_write_22 ?_
  refine z_iload (j := 0) X dM_write_25 rfl ?_
  refine z_iload_n (j := 4) X dM_write_27 rfl rfl ?_
  refine z_iast (t0 := 0) X rfl rfl (by omega) (by decide) dM_write_28 ?_
  refine z_aload_n (j := 1) X dM_write_29 rfl rfl ?_
  refine z_getr (C := RM) (T := TM) (N := 28) (k := 8) X (w_in inM) rfl rfl rfl (by decide) (w_m lM_35) rfl rfl (rp_i (rp_i (hP.2 8 (by decide)))) dM_write_30 ?_
  refine z_iload (j := 0) X dM_write_33 rfl ?_
  refine z_iload (j := 5) X dM_write_35 rfl ?_
  refine z_iast (t0 := 0) X rfl rfl (by omega) (by decide) dM_write_37 ?_
  refine z_aload_n (j := 1) X dM_write_38 rfl rfl ?_
  refine z_getr (C := RM) (T := TM) (N := 28) (k := 9) X (w_in inM) rfl rfl rfl (by decide) (w_m lM_38) rfl rfl (rp_i (rp_i (rp_i (hP.2 9 (by decide))))) dM_write_39 ?_
  refine z_iload (j := 0) X dM_write_42 rfl ?_
  refine z_aload_n (j := 1) X dM_write_44 rfl rfl ?_
  refine z_getr (C := RM) (T := TM) (N := 28) (k := 12) X (w_in inM) rfl rfl rfl (by decide) (w_m lM_47) rfl rfl (rp_i (rp_i (rp_i (hP.2 12 (by decide))))) dM_write_45 ?_
  refine z_iload (j := 6) X dM_write_48 rfl ?_
  refine z_iald (t0 := 0) X rfl rfl (by omega) (by decide) dM_write_50 (hv := (rd_i (Or.inl (by omega)) (rd_i (Or.inl (by omega)) (rd_i (Or.inl (by omega)) hu.1)))) ?_
  refine z_iast (t0 := 0) X rfl rfl (by omega) (by decide) dM_write_51 ?_
  refine z_aload_n (j := 1) X dM_write_52 rfl rfl ?_
  refine z_getr (C := RM) (T := TM) (N := 28) (k := 11) X (w_in inM) rfl rfl rfl (by decide) (w_m lM_44) rfl rfl (rp_i (rp_i (rp_i (rp_i (hP.2 11 (by decide)))))) dM_write_53 ?_
  refine z_iload (j := 0) X dM_write_56 rfl ?_
  refine z_iload (j := 6) X dM_write_58 rfl ?_
  refine z_iast (t0 := 0) X rfl rfl (by omega) (by decide) dM_write_60 ?_
  refine z_aload_n (j := 1) X dM_write_61 rfl rfl ?_
  refine z_getr (C := RM) (T := TM) (N := 28) (k := 10) X (w_in inM) rfl rfl rfl (by decide) (w_m lM_41) rfl rfl (rp_i (rp_i (rp_i (rp_i (rp_i (hP.2 10 (by decide))))))) dM_write_62 ?_
  refine z_iload (j := 0) X dM_write_65 rfl ?_
  refine z_iload_n (j := 3) X dM_write_67 rfl rfl ?_
  refine z_if_ne (tgt := 85) X dM_write_68 (by decide) (fun c_68 => ?_) (fun c_68 => ?_)
  · have hw0 : ¬ w = 0 := fun h => c_68 (by rw [h]; exact nI_0)
    refine z_iconst (v := (nI 0)) X dM_write_85 (by decide) ?_
    refine z_iast (t0 := 0) X rfl rfl (by omega) (by decide) dM_write_86 ?_
    refine z_aload_n (j := 1) X dM_write_87 rfl rfl ?_
    refine z_getr (C := RM) (T := TM) (N := 28) (k := 5) X (w_in inM) rfl rfl rfl (by decide) (w_m lM_26) rfl rfl (rp_i (rp_i (rp_i (rp_i (rp_i (rp_i (hP.2 5 (by decide)))))))) dM_write_88 ?_
    refine z_iload_n (j := 2) X dM_write_91 rfl rfl ?_
    refine z_dup2 X dM_write_92 rfl rfl ?_
    refine z_iald (t0 := 0) X rfl rfl (by omega) (by decide) dM_write_93 (hv := (rd_i (Or.inl (by omega)) (rd_i (Or.inl (by omega)) (rd_i (Or.inl (by omega)) (rd_i (Or.inl (by omega)) (rd_i (Or.inl (by omega)) (rd_i (Or.inl (by omega)) hl2))))))) ?_
    refine z_iconst (v := (nI 1)) X dM_write_94 (by decide) ?_
    refine z_iadd X dM_write_95 ?_
    refine z_top (nI_add g.2.1.2 1) ?_
    refine z_iast (t0 := 0) X rfl rfl (by omega) (by decide) dM_write_96 ?_
    refine z_aload_n (j := 1) X dM_write_97 rfl rfl ?_
    refine z_dup X dM_write_98 rfl ?_
    refine z_geti (C := RM) (T := TM) (N := 28) (k := 22) X (w_in inM) rfl rfl rfl (by decide) (w_m lM_94) rfl rfl dM_write_99 (hv := (rd_i (Or.inl (by omega)) (rd_i (Or.inl (by omega)) (rd_i (Or.inl (by omega)) (rd_i (Or.inl (by omega)) (rd_i (Or.inl (by omega)) (rd_i (Or.inl (by omega)) (rd_i (Or.inl (by omega)) rfl)))))))) ?_
    refine z_iconst (v := (nI 1)) X dM_write_102 (by decide) ?_
    refine z_iadd X dM_write_103 ?_
    refine z_puti (C := RM) (T := TM) (N := 28) (k := 22) X (w_in inM) rfl rfl rfl (by decide) (w_m lM_94) rfl tyM tyM_ok nmM rfl rfl (ty := .int) (by decide +kernel) rfl rfl dM_write_104 ?_
    refine z_aload_n (j := 1) X dM_write_107 rfl rfl ?_
    refine z_iload_n (j := 2) X dM_write_108 rfl rfl ?_
    have hst : zWs w u = (nI 0) := zWs_n (Or.inl (by omega))
    have hc8 : zch (fun n k => (1007 ≤ n ∧ n ≤ 1012 ∧ k = t * 60 + g.2.1.2) ∨ (n = 1006 ∧ k = t) ∨ n = 1000 ∧ k = 22) S (zsi (zsi (zsi (zsi (zsi (zsi (zsi (zsi S 1007 (t * 60 + g.2.1.2) (nI w)) 1008 (t * 60 + g.2.1.2) kk) 1009 (t * 60 + g.2.1.2) vv) 1010 (t * 60 + g.2.1.2) u.1) 1012 (t * 60 + g.2.1.2) (nI i)) 1011 (t * 60 + g.2.1.2) (nI 0)) 1006 t (nI (g.2.1.2 + 1))) 1000 22 ((S.2.1 1000 22) + (nI 1))) := ((((((((zch.rf.tr (zch.i (by omega))).tr (zch.i (by omega))).tr (zch.i (by omega))).tr (zch.i (by omega))).tr (zch.i (by omega))).tr (zch.i (by omega))).tr (zch.i (by omega))).tr (zch.i (by omega)))
    have hc8a := hc8.mono (o2 := fun n k => (1007 ≤ n ∧ n ≤ 1012 ∧ k = t * 60 + g.2.1.2) ∨ (n = 1006 ∧ k = t) ∨ n = 1000) (fun n k h => by omega)
    have hL8 : mL (zsi (zsi (zsi (zsi (zsi (zsi (zsi (zsi S 1007 (t * 60 + g.2.1.2) (nI w)) 1008 (t * 60 + g.2.1.2) kk) 1009 (t * 60 + g.2.1.2) vv) 1010 (t * 60 + g.2.1.2) u.1) 1012 (t * 60 + g.2.1.2) (nI i)) 1011 (t * 60 + g.2.1.2) (nI 0)) 1006 t (nI (g.2.1.2 + 1))) 1000 22 ((S.2.1 1000 22) + (nI 1))) cu t (zApp g (nI w, kk, vv, u.1, zWs w u)) := mL_app hL hc8a ((rd_i (Or.inl (by omega)) rd_s)) (by
      rw [hst]
      exact ⟨(rd_i (Or.inl (by omega)) (rd_i (Or.inl (by omega)) (rd_i (Or.inl (by omega)) (rd_i (Or.inl (by omega)) (rd_i (Or.inl (by omega)) (rd_i (Or.inl (by omega)) (rd_i (Or.inl (by omega)) rd_s))))))), (rd_i (Or.inl (by omega)) (rd_i (Or.inl (by omega)) (rd_i (Or.inl (by omega)) (rd_i (Or.inl (by omega)) (rd_i (Or.inl (by omega)) (rd_i (Or.inl (by omega)) rd_s)))))), (rd_i (Or.inl (by omega)) (rd_i (Or.inl (by omega)) (rd_i (Or.inl (by omega)) (rd_i (Or.inl (by omega)) (rd_i (Or.inl (by omega)) rd_s))))), (rd_i (Or.inl (by omega)) (rd_i (Or.inl (by omega)) (rd_i (Or.inl (by omega)) (rd_i (Or.inl (by omega)) rd_s)))), (rd_i (Or.inl (by omega)) (rd_i (Or.inl (by omega)) rd_s)), (fun h => absurd (show nI 0 = nI 2 from h) (by decide))⟩)
    have hP8 : mP (zsi (zsi (zsi (zsi (zsi (zsi (zsi (zsi S 1007 (t * 60 + g.2.1.2) (nI w)) 1008 (t * 60 + g.2.1.2) kk) 1009 (t * 60 + g.2.1.2) vv) 1010 (t * 60 + g.2.1.2) u.1) 1012 (t * 60 + g.2.1.2) (nI i)) 1011 (t * 60 + g.2.1.2) (nI 0)) 1006 t (nI (g.2.1.2 + 1))) 1000 22 ((S.2.1 1000 22) + (nI 1))) := mP_fr hP hc8
    refine z_callV (n := 1) (As := [.int (nI t)]) (rest := []) X zG0_m (mM_shorten l D dA ht hP8 hL8 (zLogW_app hW hen) (zApp_V hV hee) ((hc8.2.2 _ _ (by omega)).trans hsg) ((hc8.2.2 _ _ (by omega)).trans hmo)) (w_V X.2.2.2.2.1 lM_97 jM_shorten sM_shorten i_LogBrokerModel kM_shorten rfl rfl (by decide +kernel) ⟨Nat.le_of_ble_eq_true rfl, Nat.le_of_ble_eq_true rfl⟩) rfl rfl rfl rfl rfl (Nat.le_of_ble_eq_true rfl) dM_write_109 ⟨Nat.le_of_ble_eq_true rfl, Nat.le_of_ble_eq_true rfl⟩ (fun v S9 hp => ?_) (fun E S1 hx => hx.elim)
    obtain ⟨hv, hL9, h259, hc9⟩ := hp
    subst hv
    have hL9e : S9.2.1 1006 t = nI (g.2.1.2 + 1) := hL9.2.1.trans (by rw [show (zShort (zStab (zApp g (nI w, kk, vv, u.1, zWs w u))) 61 (zApp g (nI w, kk, vv, u.1, zWs w u))).2.1.2 = g.2.1.2 + 1 from zShort_1.2.1])
    have h229 : S9.2.1 1000 22 = S.2.1 1000 22 + nI 1 := (hc9.2.2 _ _ (by unfold oH; omega)).trans (rd_s)
    replace h259 : S9.2.1 1000 25 = S.2.1 1000 25 + nI (zWd g (nI w, kk, vv, u.1, zWs w u)) := h259.trans (by rw [hc8.2.2 _ _ (by omega)]; rfl)
    have hP9 : mP S9 := mP_fr hP8 hc9
    have hcv : zch (oV t) S S9 := (hc8.mono (fun n k h => by unfold oV oL; omega)).tr (hc9.mono (fun n k h => oH_V h))
    refine z_aload_n (j := 1) X dM_write_112 rfl rfl ?_
    refine z_getr (C := RM) (T := TM) (N := 28) (k := 5) X (w_in inM) rfl rfl rfl (by decide) (w_m lM_26) rfl rfl (hP9.2 5 (by decide)) dM_write_113 ?_
    refine z_iload_n (j := 2) X dM_write_116 rfl rfl ?_
    refine z_iald (t0 := 0) X rfl rfl (by omega) (by decide) dM_write_117 (hv := hL9e) ?_
    refine z_iconst (v := (nI 1)) X dM_write_118 (by decide) ?_
    refine z_isub X dM_write_119 ?_
    refine z_top (pk_sub (a := g.2.1.2 + 1) (b := 1) (by omega)) ?_
    refine z_iret X hlocks hr dM_write_120 (by omega) (by omega) ?_
    exact ⟨rfl, hL9, h229, h259, hcv⟩
  · have hw0 : w = 0 := Classical.byContradiction fun h => nI_ne0 (by omega) (by omega) c_68
    refine z_aload_n (j := 1) X dM_write_71 rfl rfl ?_
    refine z_getr (C := RM) (T := TM) (N := 28) (k := 15) X (w_in inM) rfl rfl rfl (by decide) (w_m lM_56) rfl rfl (rp_i (rp_i (rp_i (rp_i (rp_i (hP.2 15 (by decide))))))) dM_write_72 ?_
    refine z_iload (j := 6) X dM_write_75 rfl ?_
    refine z_zald (t0 := 1) X rfl rfl (by omega) (by decide) dM_write_77 (hv := (rd_i (Or.inl (by omega)) (rd_i (Or.inl (by omega)) (rd_i (Or.inl (by omega)) (rd_i (Or.inl (by omega)) (rd_i (Or.inl (by omega)) hu.2.1)))))) ?_
    refine z_if_eq (tgt := 85) X dM_write_78 (by decide) (fun c_78 => ?_) (fun c_78 => ?_)
    · refine z_iconst (v := (nI 0)) X dM_write_85 (by decide) ?_
      refine z_iast (t0 := 0) X rfl rfl (by omega) (by decide) dM_write_86 ?_
      refine z_aload_n (j := 1) X dM_write_87 rfl rfl ?_
      refine z_getr (C := RM) (T := TM) (N := 28) (k := 5) X (w_in inM) rfl rfl rfl (by decide) (w_m lM_26) rfl rfl (rp_i (rp_i (rp_i (rp_i (rp_i (rp_i (hP.2 5 (by decide)))))))) dM_write_88 ?_
      refine z_iload_n (j := 2) X dM_write_91 rfl rfl ?_
      refine z_dup2 X dM_write_92 rfl rfl ?_
      refine z_iald (t0 := 0) X rfl rfl (by omega) (by decide) dM_write_93 (hv := (rd_i (Or.inl (by omega)) (rd_i (Or.inl (by omega)) (rd_i (Or.inl (by omega)) (rd_i (Or.inl (by omega)) (rd_i (Or.inl (by omega)) (rd_i (Or.inl (by omega)) hl2))))))) ?_
      refine z_iconst (v := (nI 1)) X dM_write_94 (by decide) ?_
      refine z_iadd X dM_write_95 ?_
      refine z_top (nI_add g.2.1.2 1) ?_
      refine z_iast (t0 := 0) X rfl rfl (by omega) (by decide) dM_write_96 ?_
      refine z_aload_n (j := 1) X dM_write_97 rfl rfl ?_
      refine z_dup X dM_write_98 rfl ?_
      refine z_geti (C := RM) (T := TM) (N := 28) (k := 22) X (w_in inM) rfl rfl rfl (by decide) (w_m lM_94) rfl rfl dM_write_99 (hv := (rd_i (Or.inl (by omega)) (rd_i (Or.inl (by omega)) (rd_i (Or.inl (by omega)) (rd_i (Or.inl (by omega)) (rd_i (Or.inl (by omega)) (rd_i (Or.inl (by omega)) (rd_i (Or.inl (by omega)) rfl)))))))) ?_
      refine z_iconst (v := (nI 1)) X dM_write_102 (by decide) ?_
      refine z_iadd X dM_write_103 ?_
      refine z_puti (C := RM) (T := TM) (N := 28) (k := 22) X (w_in inM) rfl rfl rfl (by decide) (w_m lM_94) rfl tyM tyM_ok nmM rfl rfl (ty := .int) (by decide +kernel) rfl rfl dM_write_104 ?_
      refine z_aload_n (j := 1) X dM_write_107 rfl rfl ?_
      refine z_iload_n (j := 2) X dM_write_108 rfl rfl ?_
      have hst : zWs w u = (nI 0) := zWs_n (Or.inr (c_78.trans nI_0.symm))
      have hc8 : zch (fun n k => (1007 ≤ n ∧ n ≤ 1012 ∧ k = t * 60 + g.2.1.2) ∨ (n = 1006 ∧ k = t) ∨ n = 1000 ∧ k = 22) S (zsi (zsi (zsi (zsi (zsi (zsi (zsi (zsi S 1007 (t * 60 + g.2.1.2) (nI w)) 1008 (t * 60 + g.2.1.2) kk) 1009 (t * 60 + g.2.1.2) vv) 1010 (t * 60 + g.2.1.2) u.1) 1012 (t * 60 + g.2.1.2) (nI i)) 1011 (t * 60 + g.2.1.2) (nI 0)) 1006 t (nI (g.2.1.2 + 1))) 1000 22 ((S.2.1 1000 22) + (nI 1))) := ((((((((zch.rf.tr (zch.i (by omega))).tr (zch.i (by omega))).tr (zch.i (by omega))).tr (zch.i (by omega))).tr (zch.i (by omega))).tr (zch.i (by omega))).tr (zch.i (by omega))).tr (zch.i (by omega)))
      have hc8a := hc8.mono (o2 := fun n k => (1007 ≤ n ∧ n ≤ 1012 ∧ k = t * 60 + g.2.1.2) ∨ (n = 1006 ∧ k = t) ∨ n = 1000) (fun n k h => by omega)
      have hL8 : mL (zsi (zsi (zsi (zsi (zsi (zsi (zsi (zsi S 1007 (t * 60 + g.2.1.2) (nI w)) 1008 (t * 60 + g.2.1.2) kk) 1009 (t * 60 + g.2.1.2) vv) 1010 (t * 60 + g.2.1.2) u.1) 1012 (t * 60 + g.2.1.2) (nI i)) 1011 (t * 60 + g.2.1.2) (nI 0)) 1006 t (nI (g.2.1.2 + 1))) 1000 22 ((S.2.1 1000 22) + (nI 1))) cu t (zApp g (nI w, kk, vv, u.1, zWs w u)) := mL_app hL hc8a ((rd_i (Or.inl (by omega)) rd_s)) (by
        rw [hst]
        exact ⟨(rd_i (Or.inl (by omega)) (rd_i (Or.inl (by omega)) (rd_i (Or.inl (by omega)) (rd_i (Or.inl (by omega)) (rd_i (Or.inl (by omega)) (rd_i (Or.inl (by omega)) (rd_i (Or.inl (by omega)) rd_s))))))), (rd_i (Or.inl (by omega)) (rd_i (Or.inl (by omega)) (rd_i (Or.inl (by omega)) (rd_i (Or.inl (by omega)) (rd_i (Or.inl (by omega)) (rd_i (Or.inl (by omega)) rd_s)))))), (rd_i (Or.inl (by omega)) (rd_i (Or.inl (by omega)) (rd_i (Or.inl (by omega)) (rd_i (Or.inl (by omega)) (rd_i (Or.inl (by omega)) rd_s))))), (rd_i (Or.inl (by omega)) (rd_i (Or.inl (by omega)) (rd_i (Or.inl (by omega)) (rd_i (Or.inl (by omega)) rd_s)))), (rd_i (Or.inl (by omega)) (rd_i (Or.inl (by omega)) rd_s)), (fun h => absurd (show nI 0 = nI 2 from h) (by decide))⟩)
      have hP8 : mP (zsi (zsi (zsi (zsi (zsi (zsi (zsi (zsi S 1007 (t * 60 + g.2.1.2) (nI w)) 1008 (t * 60 + g.2.1.2) kk) 1009 (t * 60 + g.2.1.2) vv) 1010 (t * 60 + g.2.1.2) u.1) 1012 (t * 60 + g.2.1.2) (nI i)) 1011 (t * 60 + g.2.1.2) (nI 0)) 1006 t (nI (g.2.1.2 + 1))) 1000 22 ((S.2.1 1000 22) + (nI 1))) := mP_fr hP hc8
      refine z_callV (n := 1) (As := [.int (nI t)]) (rest := []) X zG0_m (mM_shorten l D dA ht hP8 hL8 (zLogW_app hW hen) (zApp_V hV hee) ((hc8.2.2 _ _ (by omega)).trans hsg) ((hc8.2.2 _ _ (by omega)).trans hmo)) (w_V X.2.2.2.2.1 lM_97 jM_shorten sM_shorten i_LogBrokerModel kM_shorten rfl rfl (by decide +kernel) ⟨Nat.le_of_ble_eq_true rfl, Nat.le_of_ble_eq_true rfl⟩) rfl rfl rfl rfl rfl (Nat.le_of_ble_eq_true rfl) dM_write_109 ⟨Nat.le_of_ble_eq_true rfl, Nat.le_of_ble_eq_true rfl⟩ (fun v S9 hp => ?_) (fun E S1 hx => hx.elim)
      obtain ⟨hv, hL9, h259, hc9⟩ := hp
      subst hv
      have hL9e : S9.2.1 1006 t = nI (g.2.1.2 + 1) := hL9.2.1.trans (by rw [show (zShort (zStab (zApp g (nI w, kk, vv, u.1, zWs w u))) 61 (zApp g (nI w, kk, vv, u.1, zWs w u))).2.1.2 = g.2.1.2 + 1 from zShort_1.2.1])
      have h229 : S9.2.1 1000 22 = S.2.1 1000 22 + nI 1 := (hc9.2.2 _ _ (by unfold oH; omega)).trans (rd_s)
      replace h259 : S9.2.1 1000 25 = S.2.1 1000 25 + nI (zWd g (nI w, kk, vv, u.1, zWs w u)) := h259.trans (by rw [hc8.2.2 _ _ (by omega)]; rfl)
      have hP9 : mP S9 := mP_fr hP8 hc9
      have hcv : zch (oV t) S S9 := (hc8.mono (fun n k h => by unfold oV oL; omega)).tr (hc9.mono (fun n k h => oH_V h))
      refine z_aload_n (j := 1) X dM_write_112 rfl rfl ?_
      refine z_getr (C := RM) (T := TM) (N := 28) (k := 5) X (w_in inM) rfl rfl rfl (by decide) (w_m lM_26) rfl rfl (hP9.2 5 (by decide)) dM_write_113 ?_
      refine z_iload_n (j := 2) X dM_write_116 rfl rfl ?_
      refine z_iald (t0 := 0) X rfl rfl (by omega) (by decide) dM_write_117 (hv := hL9e) ?_
      refine z_iconst (v := (nI 1)) X dM_write_118 (by decide) ?_
      refine z_isub X dM_write_119 ?_
      refine z_top (pk_sub (a := g.2.1.2 + 1) (b := 1) (by omega)) ?_
      refine z_iret X hlocks hr dM_write_120 (by omega) (by omega) ?_
      exact ⟨rfl, hL9, h229, h259, hcv⟩
    · refine z_iconst (v := (nI 2)) X dM_write_81 (by decide) ?_
      refine z_goto (tgt := 86) X dM_write_82 (by decide) ?_
      refine z_iast (t0 := 0) X rfl rfl (by omega) (by decide) dM_write_86 ?_
      refine z_aload_n (j := 1) X dM_write_87 rfl rfl ?_
      refine z_getr (C := RM) (T := TM) (N := 28) (k := 5) X (w_in inM) rfl rfl rfl (by decide) (w_m lM_26) rfl rfl (rp_i (rp_i (rp_i (rp_i (rp_i (rp_i (hP.2 5 (by decide)))))))) dM_write_88 ?_
      refine z_iload_n (j := 2) X dM_write_91 rfl rfl ?_
      refine z_dup2 X dM_write_92 rfl rfl ?_
      refine z_iald (t0 := 0) X rfl rfl (by omega) (by decide) dM_write_93 (hv := (rd_i (Or.inl (by omega)) (rd_i (Or.inl (by omega)) (rd_i (Or.inl (by omega)) (rd_i (Or.inl (by omega)) (rd_i (Or.inl (by omega)) (rd_i (Or.inl (by omega)) hl2))))))) ?_
      refine z_iconst (v := (nI 1)) X dM_write_94 (by decide) ?_
      refine z_iadd X dM_write_95 ?_
      refine z_top (nI_add g.2.1.2 1) ?_
      refine z_iast (t0 := 0) X rfl rfl (by omega) (by decide) dM_write_96 ?_
      refine z_aload_n (j := 1) X dM_write_97 rfl rfl ?_
      refine z_dup X dM_write_98 rfl ?_
      refine z_geti (C := RM) (T := TM) (N := 28) (k := 22) X (w_in inM) rfl rfl rfl (by decide) (w_m lM_94) rfl rfl dM_write_99 (hv := (rd_i (Or.inl (by omega)) (rd_i (Or.inl (by omega)) (rd_i (Or.inl (by omega)) (rd_i (Or.inl (by omega)) (rd_i (Or.inl (by omega)) (rd_i (Or.inl (by omega)) (rd_i (Or.inl (by omega)) rfl)))))))) ?_
      refine z_iconst (v := (nI 1)) X dM_write_102 (by decide) ?_
      refine z_iadd X dM_write_103 ?_
      refine z_puti (C := RM) (T := TM) (N := 28) (k := 22) X (w_in inM) rfl rfl rfl (by decide) (w_m lM_94) rfl tyM tyM_ok nmM rfl rfl (ty := .int) (by decide +kernel) rfl rfl dM_write_104 ?_
      refine z_aload_n (j := 1) X dM_write_107 rfl rfl ?_
      refine z_iload_n (j := 2) X dM_write_108 rfl rfl ?_
      have hst : zWs w u = (nI 2) := zWs_y (by omega) (fun h => c_78 (h.trans nI_0))
      have hc8 : zch (fun n k => (1007 ≤ n ∧ n ≤ 1012 ∧ k = t * 60 + g.2.1.2) ∨ (n = 1006 ∧ k = t) ∨ n = 1000 ∧ k = 22) S (zsi (zsi (zsi (zsi (zsi (zsi (zsi (zsi S 1007 (t * 60 + g.2.1.2) (nI w)) 1008 (t * 60 + g.2.1.2) kk) 1009 (t * 60 + g.2.1.2) vv) 1010 (t * 60 + g.2.1.2) u.1) 1012 (t * 60 + g.2.1.2) (nI i)) 1011 (t * 60 + g.2.1.2) (nI 2)) 1006 t (nI (g.2.1.2 + 1))) 1000 22 ((S.2.1 1000 22) + (nI 1))) := ((((((((zch.rf.tr (zch.i (by omega))).tr (zch.i (by omega))).tr (zch.i (by omega))).tr (zch.i (by omega))).tr (zch.i (by omega))).tr (zch.i (by omega))).tr (zch.i (by omega))).tr (zch.i (by omega)))
      have hc8a := hc8.mono (o2 := fun n k => (1007 ≤ n ∧ n ≤ 1012 ∧ k = t * 60 + g.2.1.2) ∨ (n = 1006 ∧ k = t) ∨ n = 1000) (fun n k h => by omega)
      have hL8 : mL (zsi (zsi (zsi (zsi (zsi (zsi (zsi (zsi S 1007 (t * 60 + g.2.1.2) (nI w)) 1008 (t * 60 + g.2.1.2) kk) 1009 (t * 60 + g.2.1.2) vv) 1010 (t * 60 + g.2.1.2) u.1) 1012 (t * 60 + g.2.1.2) (nI i)) 1011 (t * 60 + g.2.1.2) (nI 2)) 1006 t (nI (g.2.1.2 + 1))) 1000 22 ((S.2.1 1000 22) + (nI 1))) cu t (zApp g (nI w, kk, vv, u.1, zWs w u)) := mL_app hL hc8a ((rd_i (Or.inl (by omega)) rd_s)) (by
        rw [hst]
        exact ⟨(rd_i (Or.inl (by omega)) (rd_i (Or.inl (by omega)) (rd_i (Or.inl (by omega)) (rd_i (Or.inl (by omega)) (rd_i (Or.inl (by omega)) (rd_i (Or.inl (by omega)) (rd_i (Or.inl (by omega)) rd_s))))))), (rd_i (Or.inl (by omega)) (rd_i (Or.inl (by omega)) (rd_i (Or.inl (by omega)) (rd_i (Or.inl (by omega)) (rd_i (Or.inl (by omega)) (rd_i (Or.inl (by omega)) rd_s)))))), (rd_i (Or.inl (by omega)) (rd_i (Or.inl (by omega)) (rd_i (Or.inl (by omega)) (rd_i (Or.inl (by omega)) (rd_i (Or.inl (by omega)) rd_s))))), (rd_i (Or.inl (by omega)) (rd_i (Or.inl (by omega)) (rd_i (Or.inl (by omega)) (rd_i (Or.inl (by omega)) rd_s)))), (rd_i (Or.inl (by omega)) (rd_i (Or.inl (by omega)) rd_s)), (fun _ => ((rd_i (Or.inl (by omega)) (rd_i (Or.inl (by omega)) (rd_i (Or.inl (by omega)) rd_s)))).trans (hcu (by omega) (fun h => c_78 (h.trans nI_0))).symm)⟩)
      have hP8 : mP (zsi (zsi (zsi (zsi (zsi (zsi (zsi (zsi S 1007 (t * 60 + g.2.1.2) (nI w)) 1008 (t * 60 + g.2.1.2) kk) 1009 (t * 60 + g.2.1.2) vv) 1010 (t * 60 + g.2.1.2) u.1) 1012 (t * 60 + g.2.1.2) (nI i)) 1011 (t * 60 + g.2.1.2) (nI 2)) 1006 t (nI (g.2.1.2 + 1))) 1000 22 ((S.2.1 1000 22) + (nI 1))) := mP_fr hP hc8
      refine z_callV (n := 1) (As := [.int (nI t)]) (rest := []) X zG0_m (mM_shorten l D dA ht hP8 hL8 (zLogW_app hW hen) (zApp_V hV hee) ((hc8.2.2 _ _ (by omega)).trans hsg) ((hc8.2.2 _ _ (by omega)).trans hmo)) (w_V X.2.2.2.2.1 lM_97 jM_shorten sM_shorten i_LogBrokerModel kM_shorten rfl rfl (by decide +kernel) ⟨Nat.le_of_ble_eq_true rfl, Nat.le_of_ble_eq_true rfl⟩) rfl rfl rfl rfl rfl (Nat.le_of_ble_eq_true rfl) dM_write_109 ⟨Nat.le_of_ble_eq_true rfl, Nat.le_of_ble_eq_true rfl⟩ (fun v S9 hp => ?_) (fun E S1 hx => hx.elim)
      obtain ⟨hv, hL9, h259, hc9⟩ := hp
      subst hv
      have hL9e : S9.2.1 1006 t = nI (g.2.1.2 + 1) := hL9.2.1.trans (by rw [show (zShort (zStab (zApp g (nI w, kk, vv, u.1, zWs w u))) 61 (zApp g (nI w, kk, vv, u.1, zWs w u))).2.1.2 = g.2.1.2 + 1 from zShort_1.2.1])
      have h229 : S9.2.1 1000 22 = S.2.1 1000 22 + nI 1 := (hc9.2.2 _ _ (by unfold oH; omega)).trans (rd_s)
      replace h259 : S9.2.1 1000 25 = S.2.1 1000 25 + nI (zWd g (nI w, kk, vv, u.1, zWs w u)) := h259.trans (by rw [hc8.2.2 _ _ (by omega)]; rfl)
      have hP9 : mP S9 := mP_fr hP8 hc9
      have hcv : zch (oV t) S S9 := (hc8.mono (fun n k h => by unfold oV oL; omega)).tr (hc9.mono (fun n k h => oH_V h))
      refine z_aload_n (j := 1) X dM_write_112 rfl rfl ?_
      refine z_getr (C := RM) (T := TM) (N := 28) (k := 5) X (w_in inM) rfl rfl rfl (by decide) (w_m lM_26) rfl rfl (hP9.2 5 (by decide)) dM_write_113 ?_
      refine z_iload_n (j := 2) X dM_write_116 rfl rfl ?_
      refine z_iald (t0 := 0) X rfl rfl (by omega) (by decide) dM_write_117 (hv := hL9e) ?_
      refine z_iconst (v := (nI 1)) X dM_write_118 (by decide) ?_
      refine z_isub X dM_write_119 ?_
      refine z_top (pk_sub (a := g.2.1.2 + 1) (b := 1) (by omega)) ?_
      refine z_iret X hlocks hr dM_write_120 (by omega) (by omega) ?_
      exact ⟨rfl, hL9, h229, h259, hcv⟩

set_option maxHeartbeats 600000 in
set_option maxRecDepth 100000 in
theorem mM_roomToEnd (l : Launch) (D : va_G) (dA : Nat → ClassId) {S : zS} {cu : Nat → Int32} {b : zBr} {i : Nat} {q : Int32} (hP : mP S) (hLs : ∀ t, t < 12 → mL S cu t (b.2.1 t)) (hWs : ∀ t, t < 12 → zLogW (b.2.1 t) ∧ ∀ o e, (b.2.1 t).2.2 o = some e → zEW e) (hqs : ∀ t, t < 12 → ∀ o e, (b.2.1 t).2.2 o = some e → e.2.2.2.2 = nI 2 → (cu e.2.2.2.1.toNatClampNeg = nI i ↔ e.2.2.2.1 = q)) : zMet l D vwCl zKK dA (zG0 D dA) yM_roomToEnd (Cond.code yM_roomToEnd cM_roomToEnd 3 (some .boolean) :: zTs) { frames := 1, cells := 0, slots := 0, locals := 24 } 0 0 [.ref 1000, .int (nI i)] S (fun v S' => S' = S ∧ ((v = some (.int (nI 1)) ∧ zRoom b q = true) ∨ (v = some (.int (nI 0)) ∧ ¬ zRoom b q = true))) (fun _ _ => False) := by
  refine z_met (tys := ztys dA) (by decide) rfl zG0_K rfl (Nat.le_of_ble_eq_true rfl) (fun p e s m args below meth c A ad X hr hlocks hin hex => ?_)
  have loop : ∀ (f t : Nat), 12 - t < f → t ≤ 12 → (∀ j, j < t → zU b q j = true → (b.2.1 j).2.1.2 < 60) → AW p l e { frames := 1, cells := 0, slots := 0, locals := 24 } s m args below meth c D vwCl zKK dA A (ad, S) 3 S 0 0 (vx_MQ below (zQc D vwCl zKK dA A ad S (fun v S' => S' = S ∧ ((v = some (.int (nI 1)) ∧ zRoom b q = true) ∨ (v = some (.int (nI 0)) ∧ ¬ zRoom b q = true)))) (zXC D vwCl zKK dA A ad S (fun _ _ => False)) args s 0 0 A) 2 [(2, .int (nI t)), (0, .ref 1000), (1, .int (nI i))] [] := by
    intro f
    induction f with
    | zero => intro t h0; omega
    | succ f ih =>
    intro t h0 hi2 hi3
    refine z_iload_n (j := 0) X dM_roomToEnd_2 rfl rfl ?_
    refine z_bipush (v := (nI 12)) X dM_roomToEnd_3 (by decide) ?_
    refine z_icmp_geN (tgt := 36) X dM_roomToEnd_5 (by decide) (by omega) (by omega) (fun c_5 => ?_) (fun c_5 => ?_)
    · refine z_iconst (v := (nI 1)) X dM_roomToEnd_36 (by decide) ?_
      refine z_zret X hlocks hr dM_roomToEnd_37 (by first | rfl | decide) (by omega) (by omega) ?_
      exact ⟨rfl, Or.inl ⟨rfl, zRoom_iff.mpr (fun j hj hu => hi3 j (by omega) hu)⟩⟩
    · have ht : t < 12 := by omega
      have we := (hWs t ht).1.2.2.2.2.2.1
      refine z_aload_n (j := 1) X dM_roomToEnd_8 rfl rfl ?_
      refine z_getr (C := RM) (T := TM) (N := 28) (k := 5) X (w_in inM) rfl rfl rfl (by decide) (w_m lM_26) rfl rfl (hP.2 5 (by decide)) dM_roomToEnd_9 ?_
      refine z_iload_n (j := 0) X dM_roomToEnd_12 rfl rfl ?_
      refine z_iald (t0 := 0) X rfl rfl (by omega) (by decide) dM_roomToEnd_13 (hv := (hLs t ht).2.1) ?_
      refine z_bipush (v := (nI 60)) X dM_roomToEnd_14 (by decide) ?_
      refine z_icmp_neN (tgt := 30) X dM_roomToEnd_16 (by decide) (by omega) (by omega) (fun c_16 => ?_) (fun c_16 => ?_)
      · refine z_iinc (j := 0) (v := (nI (t + 1))) (L' := [(2, .int (nI (t + 1))), (0, .ref 1000), (1, .int (nI i))]) X dM_roomToEnd_30 rfl (nI_1 t) (by decide) rfl ?_
        refine z_goto (tgt := 2) X dM_roomToEnd_33 (by decide) ?_
        exact ih (t + 1) (by omega) (by omega) (fun j hj hu => by
          by_cases e9 : j = t
          · subst e9; first | omega | exact absurd hu hp
          · exact hi3 j (by omega) hu)
      · refine z_aload_n (j := 1) X dM_roomToEnd_19 rfl rfl ?_
        refine z_iload_n (j := 2) X dM_roomToEnd_20 rfl rfl ?_
        refine z_iload_n (j := 0) X dM_roomToEnd_21 rfl rfl ?_
        refine z_callV (n := 2) (As := [.int (nI i), .int (nI t)]) (rest := []) X zG0_m (mM_takesPart l D dA ht hP (hLs t ht) (hWs t ht).1 (hWs t ht).2 (hqs t ht)) (w_V X.2.2.2.2.1 lM_101 jM_takesPart sM_takesPart i_LogBrokerModel kM_takesPart rfl rfl (by decide +kernel) ⟨Nat.le_of_ble_eq_true rfl, Nat.le_of_ble_eq_true rfl⟩) rfl rfl rfl rfl rfl (Nat.le_of_ble_eq_true rfl) dM_roomToEnd_22 ⟨Nat.le_of_ble_eq_true rfl, Nat.le_of_ble_eq_true rfl⟩ (fun v S9 hp => ?_) (fun E S1 hx => hx.elim)
        obtain ⟨hS9, hp⟩ := hp
        have hS9 := hS9.symm
        subst hS9
        rcases hp with ⟨hv, hp⟩ | ⟨hv, hp⟩ <;> subst hv
        · refine z_if_eq (tgt := 30) X dM_roomToEnd_25 (by decide) (fun c_25 => absurd c_25 (by decide)) (fun c_25 => ?_)
          refine z_iconst (v := (nI 0)) X dM_roomToEnd_28 (by decide) ?_
          refine z_zret X hlocks hr dM_roomToEnd_29 (by first | rfl | decide) (by omega) (by omega) ?_
          exact ⟨rfl, Or.inr ⟨rfl, zRoom_f ht hp (by omega)⟩⟩
        · refine z_if_eq (tgt := 30) X dM_roomToEnd_25 (by decide) (fun c_25 => ?_) (fun c_25 => absurd c_25 (by decide))
          refine z_iinc (j := 0) (v := (nI (t + 1))) (L' := [(2, .int (nI (t + 1))), (0, .ref 1000), (1, .int (nI i))]) X dM_roomToEnd_30 rfl (nI_1 t) (by decide) rfl ?_
          refine z_goto (tgt := 2) X dM_roomToEnd_33 (by decide) ?_
          exact ih (t + 1) (by omega) (by omega) (fun j hj hu => by
            by_cases e9 : j = t
            · subst e9; first | omega | exact absurd hu hp
            · exact hi3 j (by omega) hu)
  refine z_iconst (v := (nI 0)) X dM_roomToEnd_0 (by decide) ?_
  refine z_istore_n (L' := [(2, .int (nI 0)), (0, .ref 1000), (1, .int (nI i))]) X dM_roomToEnd_1 rfl (by decide) rfl ?_
  exact loop 13 0 (by omega) (by omega) (fun j h => by omega)

set_option maxHeartbeats 600000 in
set_option maxRecDepth 100000 in
theorem mM_newer (l : Launch) (D : va_G) (dA : Nat → ClassId) {S : zS} {cu : Nat → Int32} {t o0 stb : Nat} {g : zLg} {r0 : zE} (ht : t < 12) (hP : mP S) (hL : mL S cu t g) (hW : zLogW g) (hV : ∀ o e, g.2.2 o = some e → zEW e) (ho0 : o0 < 60) (hst : stb ≤ 60) (he0 : g.2.2 o0 = some r0) : zMet l D vwCl zKK dA (zG0 D dA) yM_newer (Cond.code yM_newer cM_newer 6 (some .boolean) :: zTs) { frames := 0, cells := 0, slots := 0, locals := 0 } 0 0 [.ref 1000, .int (nI t), .int (nI o0), .int (nI stb)] S (fun v S' => S' = S ∧ ((v = some (.int (nI 1)) ∧ zNew g stb o0 r0.2.1 = true) ∨ (v = some (.int (nI 0)) ∧ ¬ zNew g stb o0 r0.2.1 = true))) (fun _ _ => False) := by
  refine z_met (tys := ztys dA) (by decide) rfl zG0_K rfl (Nat.le_of_ble_eq_true rfl) (fun p e s m args below meth c A ad X hr hlocks hin hex => ?_)
  obtain ⟨hl1, hl2, hle⟩ := id hL
  obtain ⟨w1, w2, w3, w4, w5, w6, w7, w8, w9⟩ := id hW
  have wb := zBa_le g
  have hl0 := hle o0 ho0
  rw [he0] at hl0
  have loop : ∀ (f o : Nat), stb - o < f → o0 < o → o ≤ 60 → (∀ j, o0 < j → j < o → zCK r0.2.1 (g.2.2 j) = false) → AW p l e { frames := 0, cells := 0, slots := 0, locals := 0 } s m args below meth c D vwCl zKK dA A (ad, S) 6 S 0 0 (vx_MQ below (zQc D vwCl zKK dA A ad S (fun v S' => S' = S ∧ ((v = some (.int (nI 1)) ∧ zNew g stb o0 r0.2.1 = true) ∨ (v = some (.int (nI 0)) ∧ ¬ zNew g stb o0 r0.2.1 = true)))) (zXC D vwCl zKK dA A ad S (fun _ _ => False)) args s 0 0 A) 5 [(4, .int (nI o)), (0, .ref 1000), (1, .int (nI t)), (2, .int (nI o0)), (3, .int (nI stb))] [] := by
    intro f
    induction f with
    | zero => intro o h0; omega
    | succ f ih =>
    intro o h0 hi2 hi4 hi3
    refine z_iload (j := 0) X dM_newer_5 rfl ?_
    refine z_iload_n (j := 4) X dM_newer_7 rfl rfl ?_
    refine z_icmp_geN (tgt := 69) X dM_newer_8 (by decide) (by omega) (by omega) (fun c_8 => ?_) (fun c_8 => ?_)
    · refine z_iconst (v := (nI 0)) X dM_newer_69 (by decide) ?_
      refine z_zret X hlocks hr dM_newer_70 (by first | rfl | decide) (by omega) (by omega) ?_
      exact ⟨rfl, Or.inr ⟨rfl, fun h => by
        obtain ⟨j, h1, h2, h3⟩ := zNew_iff.mp h
        rw [hi3 j h1 (by omega)] at h3; cases h3⟩⟩
    · refine z_iload_n (j := 2) X dM_newer_11 rfl rfl ?_
      refine z_bipush (v := (nI 60)) X dM_newer_12 (by decide) ?_
      refine z_imul X dM_newer_14 ?_
      refine z_top (pk_mul t 60) ?_
      refine z_iload (j := 0) X dM_newer_15 rfl ?_
      refine z_iadd X dM_newer_17 ?_
      refine z_top (nI_add (t * 60) o) ?_
      refine z_istore (L' := [(5, .int (nI (t * 60 + o))), (4, .int (nI o)), (0, .ref 1000), (1, .int (nI t)), (2, .int (nI o0)), (3, .int (nI stb))]) X dM_newer_18 (by decide) rfl ?_
      have hlo := hle o (by omega)
      rcases he : g.2.2 o with _ | r <;> rw [he] at hlo
      · refine z_aload_n (j := 2) X dM_newer_20 rfl rfl ?_
        refine z_getr (C := RM) (T := TM) (N := 28) (k := 6) X (w_in inM) rfl rfl rfl (by decide) (w_m lM_29) rfl rfl (hP.2 6 (by decide)) dM_newer_21 ?_
        refine z_iload (j := 0) X dM_newer_24 rfl ?_
        refine z_iald (t0 := 0) X rfl rfl (by omega) (by decide) dM_newer_26 (hv := hlo) ?_
        refine z_if_ne (tgt := 63) X dM_newer_27 (by decide) (fun c_27 => ?_) (fun c_27 => absurd c_27 (by decide))
        refine z_iinc (j := 1) (v := (nI (o + 1))) (L' := [(4, .int (nI (o + 1))), (5, .int (nI (t * 60 + o))), (0, .ref 1000), (1, .int (nI t)), (2, .int (nI o0)), (3, .int (nI stb))]) X dM_newer_63 rfl (nI_1 o) (by decide) rfl ?_
        refine z_goto (tgt := 5) X dM_newer_66 (by decide) ?_
        refine z_loc [0, 2, 3, 4, 5] rfl ?_
        exact ih (o + 1) (by omega) (by omega) (by omega) (fun j h1 h2 => by
          by_cases e9 : j = o
          · subst e9; rw [he]; rfl
          · exact hi3 j h1 (by omega))
      · obtain ⟨y1, y2, y3, y4, y5⟩ := hV o r he
        refine z_aload_n (j := 2) X dM_newer_20 rfl rfl ?_
        refine z_getr (C := RM) (T := TM) (N := 28) (k := 6) X (w_in inM) rfl rfl rfl (by decide) (w_m lM_29) rfl rfl (hP.2 6 (by decide)) dM_newer_21 ?_
        refine z_iload (j := 0) X dM_newer_24 rfl ?_
        refine z_iald (t0 := 0) X rfl rfl (by omega) (by decide) dM_newer_26 (hv := hlo.1) ?_
        refine z_if_ne (tgt := 63) X dM_newer_27 (by decide) (fun c_27 => ?_) (fun c_27 => ?_)
        · refine z_iinc (j := 1) (v := (nI (o + 1))) (L' := [(4, .int (nI (o + 1))), (5, .int (nI (t * 60 + o))), (0, .ref 1000), (1, .int (nI t)), (2, .int (nI o0)), (3, .int (nI stb))]) X dM_newer_63 rfl (nI_1 o) (by decide) rfl ?_
          refine z_goto (tgt := 5) X dM_newer_66 (by decide) ?_
          refine z_loc [0, 2, 3, 4, 5] rfl ?_
          exact ih (o + 1) (by omega) (by omega) (by omega) (fun j h1 h2 => by
            by_cases e9 : j = o
            · subst e9; rw [he]; exact Bool.eq_false_iff.mpr (fun h => by
                obtain ⟨a1, a2, a3⟩ := zCK_iff.mp h
                first | exact c_27 (a1.trans nI_0) | exact c_37 (a2.trans nI_0) | exact c_58 a3)
            · exact hi3 j h1 (by omega))
        · refine z_aload_n (j := 2) X dM_newer_30 rfl rfl ?_
          refine z_getr (C := RM) (T := TM) (N := 28) (k := 10) X (w_in inM) rfl rfl rfl (by decide) (w_m lM_41) rfl rfl (hP.2 10 (by decide)) dM_newer_31 ?_
          refine z_iload (j := 0) X dM_newer_34 rfl ?_
          refine z_iald (t0 := 0) X rfl rfl (by omega) (by decide) dM_newer_36 (hv := hlo.2.2.2.2.1) ?_
          refine z_if_ne (tgt := 63) X dM_newer_37 (by decide) (fun c_37 => ?_) (fun c_37 => ?_)
          · refine z_iinc (j := 1) (v := (nI (o + 1))) (L' := [(4, .int (nI (o + 1))), (5, .int (nI (t * 60 + o))), (0, .ref 1000), (1, .int (nI t)), (2, .int (nI o0)), (3, .int (nI stb))]) X dM_newer_63 rfl (nI_1 o) (by decide) rfl ?_
            refine z_goto (tgt := 5) X dM_newer_66 (by decide) ?_
            refine z_loc [0, 2, 3, 4, 5] rfl ?_
            exact ih (o + 1) (by omega) (by omega) (by omega) (fun j h1 h2 => by
              by_cases e9 : j = o
              · subst e9; rw [he]; exact Bool.eq_false_iff.mpr (fun h => by
                  obtain ⟨a1, a2, a3⟩ := zCK_iff.mp h
                  first | exact c_27 (a1.trans nI_0) | exact c_37 (a2.trans nI_0) | exact c_58 a3)
              · exact hi3 j h1 (by omega))
          · refine z_aload_n (j := 2) X dM_newer_40 rfl rfl ?_
            refine z_getr (C := RM) (T := TM) (N := 28) (k := 7) X (w_in inM) rfl rfl rfl (by decide) (w_m lM_32) rfl rfl (hP.2 7 (by decide)) dM_newer_41 ?_
            refine z_iload (j := 0) X dM_newer_44 rfl ?_
            refine z_iald (t0 := 0) X rfl rfl (by omega) (by decide) dM_newer_46 (hv := hlo.2.1) ?_
            refine z_aload_n (j := 2) X dM_newer_47 rfl rfl ?_
            refine z_getr (C := RM) (T := TM) (N := 28) (k := 7) X (w_in inM) rfl rfl rfl (by decide) (w_m lM_32) rfl rfl (hP.2 7 (by decide)) dM_newer_48 ?_
            refine z_iload_n (j := 3) X dM_newer_51 rfl rfl ?_
            refine z_bipush (v := (nI 60)) X dM_newer_52 (by decide) ?_
            refine z_imul X dM_newer_54 ?_
            refine z_top (pk_mul t 60) ?_
            refine z_iload_n (j := 4) X dM_newer_55 rfl rfl ?_
            refine z_iadd X dM_newer_56 ?_
            refine z_top (nI_add (t * 60) o0) ?_
            refine z_iald (t0 := 0) X rfl rfl (by omega) (by decide) dM_newer_57 (hv := hl0.2.1) ?_
            refine z_icmp_ne (tgt := 63) X dM_newer_58 (by decide) (fun c_58 => ?_) (fun c_58 => ?_)
            · refine z_iinc (j := 1) (v := (nI (o + 1))) (L' := [(4, .int (nI (o + 1))), (5, .int (nI (t * 60 + o))), (0, .ref 1000), (1, .int (nI t)), (2, .int (nI o0)), (3, .int (nI stb))]) X dM_newer_63 rfl (nI_1 o) (by decide) rfl ?_
              refine z_goto (tgt := 5) X dM_newer_66 (by decide) ?_
              refine z_loc [0, 2, 3, 4, 5] rfl ?_
              exact ih (o + 1) (by omega) (by omega) (by omega) (fun j h1 h2 => by
                by_cases e9 : j = o
                · subst e9; rw [he]; exact Bool.eq_false_iff.mpr (fun h => by
                    obtain ⟨a1, a2, a3⟩ := zCK_iff.mp h
                    first | exact c_27 (a1.trans nI_0) | exact c_37 (a2.trans nI_0) | exact c_58 a3)
                · exact hi3 j h1 (by omega))
            · refine z_iconst (v := (nI 1)) X dM_newer_61 (by decide) ?_
              refine z_zret X hlocks hr dM_newer_62 (by first | rfl | decide) (by omega) (by omega) ?_
              exact ⟨rfl, Or.inl ⟨rfl, zNew_iff.mpr ⟨o, by omega, by omega, by rw [he]; exact zCK_iff.mpr ⟨c_27.trans nI_0.symm, c_37.trans nI_0.symm, c_58⟩⟩⟩⟩
  refine z_iload_n (j := 2) X dM_newer_0 rfl rfl ?_
  refine z_iconst (v := (nI 1)) X dM_newer_1 (by decide) ?_
  refine z_iadd X dM_newer_2 ?_
  refine z_top (nI_add o0 1) ?_
  refine z_istore (L' := [(4, .int (nI (o0 + 1))), (0, .ref 1000), (1, .int (nI t)), (2, .int (nI o0)), (3, .int (nI stb))]) X dM_newer_3 (by decide) rfl ?_
  exact loop (stb + 1) (o0 + 1) (by omega) (by omega) (by omega) (fun j h1 h2 => by omega)
