/-! CONTRACTS of LogBroker$Group: changing members; joining, leaving; the constructors (rows by program) -/
set_option maxHeartbeats 600000 in
set_option maxRecDepth 100000 in
theorem mH_changeMember (l : Launch) (D : va_G) (dA : Nat → ClassId) {S : zS} {i : Nat} {u : zGr} {k : Nat} {tv : Int32} {pt : Nat → Nat} (hi : i < 2) (hO : zGrA S i u) (hk : k < 4) (hpt : ∀ t, t < 3 → S.2.1 2 t = nI (pt t) ∧ pt t ≤ 3) : zMet l D vwCl zKK dA (zG0 D dA) yH_changeMember (Cond.code yH_changeMember cH_changeMember 5 (some .int) :: zTs) { frames := 2, cells := 0, slots := 0, locals := 50 } 0 0 [.ref (40 + i), .int (nI k), .int tv, .ref 2] S (fun v S' => v = some (.int (u.1 + nI 1)) ∧ zGrA S' i (sMem pt u k tv) ∧ zfr (zOwnH i) S S' ∧ S'.1 = S.1) (fun _ _ => False) := by
  refine z_met (tys := ztys dA) (by decide) rfl zG0_K rfl (Nat.le_of_ble_eq_true rfl) (fun p e s m args below meth c A ad X hr hlocks hin hex => ?_)
  have loop : ∀ (f t : Nat) (S1 : zS), 3 - t < f → t ≤ 3 → zGrA S1 i (u.1 + nI 1, (fun j => if j = k then tv else u.2.1 j), (fun j => if j / 4 < t then zOI (zWho (fun j => if j = k then tv else u.2.1 j) (pt (j / 4)) j) else -1), u.2.2.2) → zfr (zOwnH i) S S1 → S1.1 = S.1 → AW p l e { frames := 2, cells := 0, slots := 0, locals := 50 } s m args below meth c D vwCl zKK dA A (ad, S) 5 S1 0 0 (vx_MQ below (zQc D vwCl zKK dA A ad S (fun v S' => v = some (.int (u.1 + nI 1)) ∧ zGrA S' i (sMem pt u k tv) ∧ zfr (zOwnH i) S S' ∧ S'.1 = S.1)) (zXC D vwCl zKK dA A ad S (fun _ _ => False)) args s 0 0 A) 28 [(4, .int (nI t)), (0, .ref (40 + i)), (1, .int (nI k)), (2, .int tv), (3, .ref 2)] [] := by
    intro f
    induction f with
    | zero => intro t S1 h0; omega
    | succ f ih =>
    intro t S1 h0 ht3 hG1 hfr1 hd1
    refine z_iload (j := 0) X dH_changeMember_28 rfl ?_
    refine z_iconst (v := (nI 3)) X dH_changeMember_30 (by decide) ?_
    refine z_icmp_geN (tgt := 50) X dH_changeMember_31 (by decide) (by omega) (by omega) (fun c_31 => ?_) (fun c_31 => ?_)
    · refine z_aload_n (j := 1) X dH_changeMember_50 rfl rfl ?_
      refine z_getr (C := RH) (T := TH) (N := 5) (k := 4) X (w_in inH) rfl rfl (kd_H hi) (by decide) (w_m lH_21) rfl rfl hG1.2.2.2.2.2.2.2.2.2.1 dH_changeMember_51 ?_
      refine z_iconst (v := (nI 0)) X dH_changeMember_54 (by decide) ?_
      refine z_aload_n (j := 1) X dH_changeMember_55 rfl rfl ?_
      refine z_getr (C := RH) (T := TH) (N := 5) (k := 3) X (w_in inH) rfl rfl (kd_H hi) (by decide) (w_m lH_18) rfl rfl hG1.2.2.2.2.2.2.2.2.1 dH_changeMember_56 ?_
      refine z_iconst (v := (nI 0)) X dH_changeMember_59 (by decide) ?_
      refine z_bipush (v := (nI 12)) X dH_changeMember_60 (by decide) ?_
      refine z_copyi (len := 12) (a := 48 + i) (b := 46 + i) (t0 := 0) X (w_m lH_38) (w_m nt_cp) (w_m st_cp) (w_m i_java_lang_System) (kd_HK hi) (kd_HP hi) rfl (by decide) dH_changeMember_62 (Nat.le_of_ble_eq_true rfl) (Nat.le_of_ble_eq_true rfl) ?_
      refine z_aload_n (j := 1) X dH_changeMember_65 rfl rfl ?_
      refine z_geti (C := RH) (T := TH) (N := 5) (k := 0) X (w_in inH) rfl rfl (kd_H hi) (by decide) (w_m lH_30) rfl rfl dH_changeMember_66 (hv := ((zcp_out (by omega)).trans hG1.2.2.2.2.2.1)) ?_
      refine z_iret X hlocks hr dH_changeMember_69 (by omega) (by omega) ?_
      have e3 : t = 3 := by omega
      subst e3
      obtain ⟨k1, k2, k3, k4, k5, k6, k7, k8, k9, k10, k11, k12, k13, k14⟩ := id hG1
      refine ⟨rfl, ⟨k1, k2, k3, k4, k5, (zcp_out (by omega)).trans k6, k7, k8, k9, k10, fun j hj => (zcp_out (by omega)).trans (k11 j hj), fun j hj => (zcp_out (by omega)).trans ?_, fun j hj => (zcp_in hj).trans (k14 j hj), fun j hj => (zcp_out (by omega)).trans (k14 j hj)⟩, hfr1.tr (zfr.cp (Or.inr (Or.inr (Or.inr (Or.inl rfl))))), hd1⟩
      rw [k12 j hj]
      show (if j / 4 < 3 then _ else _) = _
      rw [if_pos (by omega)]
      rfl
    · refine z_aload_n (j := 1) X dH_changeMember_34 rfl rfl ?_
      refine z_iload (j := 0) X dH_changeMember_35 rfl ?_
      refine z_aload_n (j := 4) X dH_changeMember_37 rfl rfl ?_
      refine z_iload (j := 0) X dH_changeMember_38 rfl ?_
      refine z_iald (t0 := 0) X rfl rfl (by omega) (by decide) dH_changeMember_40 (hv := ((hfr1.ag (by unfold zOwnH; omega)).i (hpt t (by omega)).1)) ?_
      refine z_callV (n := 2) (As := [.int (nI t), .int (nI (pt t))]) (rest := []) X zG0_m (mH_shareOut l D dA hi hG1 (by omega) (hpt t (by omega)).2 (fun j hj h => if_neg (by omega))) (w_V X.2.2.2.2.1 lH_34 jH_shareOut sH_shareOut i_LogBroker_Group kH_shareOut rfl rfl (by decide +kernel) ⟨Nat.le_of_ble_eq_true rfl, Nat.le_of_ble_eq_true rfl⟩) (kd_H hi) rfl rfl rfl rfl (Nat.le_of_ble_eq_true rfl) dH_changeMember_41 ⟨Nat.le_of_ble_eq_true rfl, Nat.le_of_ble_eq_true rfl⟩ (fun v S2 hp => ?_) (fun E S1 hx => hx.elim)
      obtain ⟨hv, hG2, hf2, hd2⟩ := hp
      subst hv
      refine z_iinc (j := 0) (v := (nI (t + 1))) (L' := [(4, .int (nI (t + 1))), (0, .ref (40 + i)), (1, .int (nI k)), (2, .int tv), (3, .ref 2)]) X dH_changeMember_44 rfl (nI_1 t) (by decide) rfl ?_
      refine z_goto (tgt := 28) X dH_changeMember_47 (by decide) ?_
      exact ih (t + 1) S2 (by omega) (by omega) (zGrA_eq hG2 rfl rfl (fun j hj => by
        show (if j / 4 < t + 1 then zOI (zWho (fun j => if j = k then tv else u.2.1 j) (pt (j / 4)) j) else -1) = if j / 4 = t then zOI (zWho (fun j => if j = k then tv else u.2.1 j) (pt t) j) else (if j / 4 < t then zOI (zWho (fun j => if j = k then tv else u.2.1 j) (pt (j / 4)) j) else -1)
        by_cases e9 : j / 4 = t
        · rw [if_pos e9, if_pos (by omega), e9]
        · rw [if_neg e9]
          by_cases e8 : j / 4 < t
          · rw [if_pos e8, if_pos (by omega)]
          · rw [if_neg e8, if_neg (by omega)]) rfl) (hfr1.tr hf2) (hd2.trans hd1)
  refine z_aload_n (j := 0) X dH_changeMember_0 rfl rfl ?_
  refine z_getr (C := RH) (T := TH) (N := 5) (k := 1) X (w_in inH) rfl rfl (kd_H hi) (by decide) (w_m lH_9) rfl rfl hO.2.2.2.2.2.2.1 dH_changeMember_1 ?_
  refine z_iload_n (j := 1) X dH_changeMember_4 rfl rfl ?_
  refine z_iload_n (j := 2) X dH_changeMember_5 rfl rfl ?_
  refine z_iast (t0 := 0) X (kd_HT hi) rfl (by omega) (by decide) dH_changeMember_6 ?_
  refine z_aload_n (j := 0) X dH_changeMember_7 rfl rfl ?_
  refine z_dup X dH_changeMember_8 rfl ?_
  refine z_geti (C := RH) (T := TH) (N := 5) (k := 0) X (w_in inH) rfl rfl (kd_H hi) (by decide) (w_m lH_30) rfl rfl dH_changeMember_9 (hv := (rd_i (Or.inl (by omega)) hO.2.2.2.2.2.1)) ?_
  refine z_iconst (v := (nI 1)) X dH_changeMember_12 (by decide) ?_
  refine z_iadd X dH_changeMember_13 ?_
  refine z_puti (C := RH) (T := TH) (N := 5) (k := 0) X (w_in inH) rfl rfl (kd_H hi) (by decide) (w_m lH_30) rfl tyH tyH_ok nmH rfl rfl (ty := .int) (by decide +kernel) rfl rfl dH_changeMember_14 ?_
  refine z_aload_n (j := 0) X dH_changeMember_17 rfl rfl ?_
  refine z_getr (C := RH) (T := TH) (N := 5) (k := 2) X (w_in inH) rfl rfl (kd_H hi) (by decide) (w_m lH_15) rfl rfl (rp_i (rp_i hO.2.2.2.2.2.2.2.1)) dH_changeMember_18 ?_
  refine z_iconst (v := (-1)) X dH_changeMember_21 (by decide) ?_
  refine z_callS (n := 2) (As := [.ref (44 + i), .int (-1)]) (rest := []) X zG0_m (mA_fill l D dA (kd_HO hi) (by decide)) (w_S X.2.2.2.2.1 lH_24 tA_fill i_java_util_Arrays kA_fill rfl rfl (by decide +kernel) ⟨Nat.le_of_ble_eq_true rfl, Nat.le_of_ble_eq_true rfl⟩) rfl rfl (Nat.le_of_ble_eq_true rfl) dH_changeMember_22 ⟨Nat.le_of_ble_eq_true rfl, Nat.le_of_ble_eq_true rfl⟩ (fun v S1 hp => ?_) (fun E S1 hx => hx.elim)
  obtain ⟨hv, hS1⟩ := hp
  subst hv
  subst hS1
  refine z_iconst (v := (nI 0)) X dH_changeMember_25 (by decide) ?_
  refine z_istore (L' := [(4, .int (nI 0)), (0, .ref (40 + i)), (1, .int (nI k)), (2, .int tv), (3, .ref 2)]) X dH_changeMember_26 (by decide) rfl ?_
  refine loop 4 0 _ (by omega) (by omega) ?_ (((zfr.i (Or.inr (Or.inl rfl))).tr (zfr.i (Or.inl rfl))).tr (zfr.fil (Or.inr (Or.inr (Or.inl rfl))))) rfl
  obtain ⟨k1, k2, k3, k4, k5, k6, k7, k8, k9, k10, k11, k12, k13, k14⟩ := id hO
  refine ⟨k1, k2, k3, k4, k5, (zfil_out (Or.inl (by omega))).trans rd_s, k7, k8, k9, k10, fun j hj => (zfil_out (Or.inl (by omega))).trans (rd_i (Or.inl (by omega)) ?_), fun j hj => (zfil_in hj).trans (by show (-1 : Int32) = if j / 4 < 0 then zOI (zWho (fun j => if j = k then tv else u.2.1 j) (pt (j / 4)) j) else -1; rw [if_neg (by omega)]), fun j hj => (zfil_out (Or.inl (by omega))).trans (rd_i (Or.inl (by omega)) (rd_i (Or.inl (by omega)) (k13 j hj))), fun j hj => (zfil_out (Or.inl (by omega))).trans (rd_i (Or.inl (by omega)) (rd_i (Or.inl (by omega)) (k14 j hj)))⟩
  show _ = if j = k then tv else u.2.1 j
  by_cases e9 : j = k
  · subst e9; rw [if_pos rfl]; exact rd_s
  · rw [if_neg e9]; exact rd_i (Or.inr e9) (k11 j hj)

set_option maxHeartbeats 600000 in
set_option maxRecDepth 100000 in
theorem mB_join (l : Launch) (D : va_G) (dA : Nat → ClassId) {S : zS} {b : zBr} {x mm y : Int32} (hl0 : l.stackTraces = false) (hB : zBrA S b) (hW : zBrW b) : zMet l D vwCl zKK dA (zG0 D dA) yB_join (Cond.code yB_join cB_join 4 (some .int) :: zTs) { frames := 7, cells := 10, slots := 60, locals := 104 } 10 60 [.ref 1, .int x, .int mm, .int y] S (fun v S' => ∃ r b', v = some (.int r) ∧ sJoin b x mm y = ((0, r), b') ∧ zBrA S' b' ∧ zfr zOwnB S S') (fun E S' => S' = S ∧ ((E = "java/lang/IllegalArgumentException" ∧ sJoin b x mm y = ((1, 0), b)) ∨ (E = "java/util/NoSuchElementException" ∧ sJoin b x mm y = ((2, 0), b)))) := by
  refine z_met (tys := ztys dA) (by decide) rfl zG0_K rfl (Nat.le_of_ble_eq_true rfl) (fun p e s m args below meth c A ad X hr hlocks hin hex => ?_)
  obtain ⟨hT, hLg, hSs, hGs, hnx, hnf⟩ := id hB
  obtain ⟨v1, v2, v3, v4, v5, v6, v7⟩ := id hW
  obtain ⟨hn, t0, t1, t2, t3, t4, t5, q6, q7, q8, q9, q10, hpt, hlg, hse, hcu, hop, hgr⟩ := id hT
  refine z_iload_n (j := 1) X dB_join_0 rfl rfl ?_
  refine z_iconst (v := (nI 0)) X dB_join_1 (by decide) ?_
  refine z_iconst (v := (nI 1)) X dB_join_2 (by decide) ?_
  refine z_callS (n := 3) (As := [.int x, .int (nI 0), .int (nI 1)]) (rest := []) X zG0_m (mB_mustBeWithin l D dA hl0) (w_S X.2.2.2.2.1 lB_45 tB_mustBeWithin i_LogBroker kB_mustBeWithin rfl rfl (by decide +kernel) ⟨Nat.le_of_ble_eq_true rfl, Nat.le_of_ble_eq_true rfl⟩) rfl rfl (Nat.le_of_ble_eq_true rfl) dB_join_3 ⟨Nat.le_of_ble_eq_true rfl, Nat.le_of_ble_eq_true rfl⟩ (fun v S9 hp => ?_) (fun E S1 hx => ?_)
  · obtain ⟨hv, hS9, hr1, hr2⟩ := hp
    subst hv
    have hS9 := hS9.symm
    subst hS9
    obtain ⟨i, hx9, hi⟩ := zRg (n := 1) (by omega) hr1 hr2
    subst hx9
    refine z_iload_n (j := 2) X dB_join_6 rfl rfl ?_
    refine z_iconst (v := (nI 0)) X dB_join_7 (by decide) ?_
    refine z_iconst (v := (nI 3)) X dB_join_8 (by decide) ?_
    refine z_callS (n := 3) (As := [.int mm, .int (nI 0), .int (nI 3)]) (rest := []) X zG0_m (mB_mustBeWithin l D dA hl0) (w_S X.2.2.2.2.1 lB_45 tB_mustBeWithin i_LogBroker kB_mustBeWithin rfl rfl (by decide +kernel) ⟨Nat.le_of_ble_eq_true rfl, Nat.le_of_ble_eq_true rfl⟩) rfl rfl (Nat.le_of_ble_eq_true rfl) dB_join_9 ⟨Nat.le_of_ble_eq_true rfl, Nat.le_of_ble_eq_true rfl⟩ (fun v S9 hp => ?_) (fun E S1 hx => ?_)
    · obtain ⟨hv, hS9, hr1, hr2⟩ := hp
      subst hv
      have hS9 := hS9.symm
      subst hS9
      obtain ⟨k, hx9, hk⟩ := zRg (n := 3) (by omega) hr1 hr2
      subst hx9
      refine z_iload_n (j := 3) X dB_join_12 rfl rfl ?_
      refine z_iconst (v := (nI 0)) X dB_join_13 (by decide) ?_
      refine z_iconst (v := (nI 2)) X dB_join_14 (by decide) ?_
      refine z_callS (n := 3) (As := [.int y, .int (nI 0), .int (nI 2)]) (rest := []) X zG0_m (mB_mustBeWithin l D dA hl0) (w_S X.2.2.2.2.1 lB_45 tB_mustBeWithin i_LogBroker kB_mustBeWithin rfl rfl (by decide +kernel) ⟨Nat.le_of_ble_eq_true rfl, Nat.le_of_ble_eq_true rfl⟩) rfl rfl (Nat.le_of_ble_eq_true rfl) dB_join_15 ⟨Nat.le_of_ble_eq_true rfl, Nat.le_of_ble_eq_true rfl⟩ (fun v S9 hp => ?_) (fun E S1 hx => ?_)
      · obtain ⟨hv, hS9, hr1, hr2⟩ := hp
        subst hv
        have hS9 := hS9.symm
        subst hS9
        obtain ⟨t, hx9, ht⟩ := zRg (n := 2) (by omega) hr1 hr2
        subst hx9
        refine z_aload_n (j := 0) X dB_join_18 rfl rfl ?_
        refine z_getr (C := RB) (T := TB) (N := 11) (k := 0) X (w_in inB) rfl rfl rfl (by decide) (w_m lB_9) rfl rfl t0 dB_join_19 ?_
        refine z_iload_n (j := 3) X dB_join_22 rfl rfl ?_
        refine z_iald (t0 := 0) X rfl rfl (by omega) (by decide) dB_join_23 (hv := (hpt t (by omega))) ?_
        refine z_if_ne (tgt := 37) X dB_join_24 (by decide) (fun c_24 => ?_) (fun c_24 => ?_)
        · refine z_aload_n (j := 0) X dB_join_37 rfl rfl ?_
          refine z_getr (C := RB) (T := TB) (N := 11) (k := 5) X (w_in inB) rfl rfl rfl (by decide) (w_m lB_33) rfl rfl t5 dB_join_38 ?_
          refine z_iload_n (j := 1) X dB_join_41 rfl rfl ?_
          refine z_aald (t0 := 5) X rfl (by decide) (by decide) (by decide) rfl (by omega) (by decide) (hgr i (by omega)) dB_join_42 ?_
          refine z_iload_n (j := 2) X dB_join_43 rfl rfl ?_
          refine z_iload_n (j := 3) X dB_join_44 rfl rfl ?_
          refine z_aload_n (j := 0) X dB_join_45 rfl rfl ?_
          refine z_getr (C := RB) (T := TB) (N := 11) (k := 0) X (w_in inB) rfl rfl rfl (by decide) (w_m lB_9) rfl rfl t0 dB_join_46 ?_
          refine z_callV (n := 3) (As := [.int (nI k), .int (nI t), .ref 2]) (rest := []) X zG0_m (mH_changeMember l D dA (pt := b.1) (by omega) (hGs i (by omega)) (by omega) (fun t ht => ⟨hpt t ht, v1 t ht⟩)) (w_V X.2.2.2.2.1 lB_200 jH_changeMember sH_changeMember i_LogBroker_Group kH_changeMember rfl rfl (by decide +kernel) ⟨Nat.le_of_ble_eq_true rfl, Nat.le_of_ble_eq_true rfl⟩) (kd_H (by omega)) rfl rfl rfl rfl (Nat.le_of_ble_eq_true rfl) dB_join_49 ⟨Nat.le_of_ble_eq_true rfl, Nat.le_of_ble_eq_true rfl⟩ (fun v S1 hp => ?_) (fun E S1 hx => hx.elim)
          obtain ⟨hv, hG1, hf1, hd1⟩ := hp
          subst hv
          refine z_iret X hlocks hr dB_join_52 (by omega) (by omega) ?_
          exact ⟨_, _, rfl, by unfold sJoin; rw [zA_s hi (by decide), zA_s hk (by decide), zA_s ht (by decide), if_neg (show ¬ b.1 t = 0 from fun h => c_24 (by rw [h]; decide))], zBrA_H hB hW (by omega) hG1 hf1, hf1.ownB (fun n h => by unfold zOwnH at h; omega)⟩
        · exact z_thNSE (text := "the topic is none") X hl0 (by decide +kernel) dB_join_27 dB_join_30 dB_join_31 dB_join_33 dB_join_36 hex (Nat.le_of_ble_eq_true rfl) (Nat.le_of_ble_eq_true rfl) (Nat.le_of_ble_eq_true rfl) (Nat.le_of_ble_eq_true rfl) hlocks (by omega) (by omega) ⟨rfl, Or.inr (⟨rfl, by unfold sJoin; rw [zA_s hi (by decide), zA_s hk (by decide), zA_s ht (by decide), if_pos (show b.1 t = 0 from Classical.byContradiction fun q => nI_ne0 (by omega) (by have := v1 t (by omega); omega) c_24)]⟩)⟩
      · obtain ⟨hE, hS9, hn9⟩ := hx
        subst hE
        have hS9 := hS9.symm
        subst hS9
        exact z_out (fun x hx9 => (hex x hx9).elim) hlocks ⟨rfl, Or.inl ⟨rfl, by unfold sJoin; rw [zA_s hi (by decide), zA_s hk (by decide), zA_n hn9]⟩⟩ (by omega) (by omega)
    · obtain ⟨hE, hS9, hn9⟩ := hx
      subst hE
      have hS9 := hS9.symm
      subst hS9
      exact z_out (fun x hx9 => (hex x hx9).elim) hlocks ⟨rfl, Or.inl ⟨rfl, by unfold sJoin; rw [zA_s hi (by decide), zA_n hn9]⟩⟩ (by omega) (by omega)
  · obtain ⟨hE, hS9, hn9⟩ := hx
    subst hE
    have hS9 := hS9.symm
    subst hS9
    exact z_out (fun x hx9 => (hex x hx9).elim) hlocks ⟨rfl, Or.inl ⟨rfl, by unfold sJoin; rw [zA_n hn9]⟩⟩ (by omega) (by omega)

set_option maxHeartbeats 600000 in
set_option maxRecDepth 100000 in
theorem mB_leave (l : Launch) (D : va_G) (dA : Nat → ClassId) {S : zS} {b : zBr} {x mm : Int32} (hl0 : l.stackTraces = false) (hB : zBrA S b) (hW : zBrW b) : zMet l D vwCl zKK dA (zG0 D dA) yB_leave (Cond.code yB_leave cB_leave 3 (some .int) :: zTs) { frames := 7, cells := 10, slots := 60, locals := 104 } 10 60 [.ref 1, .int x, .int mm] S (fun v S' => ∃ r b', v = some (.int r) ∧ sLeave b x mm = ((0, r), b') ∧ zBrA S' b' ∧ zfr zOwnB S S') (fun E S' => S' = S ∧ ((E = "java/lang/IllegalArgumentException" ∧ sLeave b x mm = ((1, 0), b)) ∨ (E = "java/util/NoSuchElementException" ∧ sLeave b x mm = ((2, 0), b)))) := by
  refine z_met (tys := ztys dA) (by decide) rfl zG0_K rfl (Nat.le_of_ble_eq_true rfl) (fun p e s m args below meth c A ad X hr hlocks hin hex => ?_)
  obtain ⟨hT, hLg, hSs, hGs, hnx, hnf⟩ := id hB
  obtain ⟨v1, v2, v3, v4, v5, v6, v7⟩ := id hW
  obtain ⟨hn, t0, t1, t2, t3, t4, t5, q6, q7, q8, q9, q10, hpt, hlg, hse, hcu, hop, hgr⟩ := id hT
  refine z_iload_n (j := 1) X dB_leave_0 rfl rfl ?_
  refine z_iconst (v := (nI 0)) X dB_leave_1 (by decide) ?_
  refine z_iconst (v := (nI 1)) X dB_leave_2 (by decide) ?_
  refine z_callS (n := 3) (As := [.int x, .int (nI 0), .int (nI 1)]) (rest := []) X zG0_m (mB_mustBeWithin l D dA hl0) (w_S X.2.2.2.2.1 lB_45 tB_mustBeWithin i_LogBroker kB_mustBeWithin rfl rfl (by decide +kernel) ⟨Nat.le_of_ble_eq_true rfl, Nat.le_of_ble_eq_true rfl⟩) rfl rfl (Nat.le_of_ble_eq_true rfl) dB_leave_3 ⟨Nat.le_of_ble_eq_true rfl, Nat.le_of_ble_eq_true rfl⟩ (fun v S9 hp => ?_) (fun E S1 hx => ?_)
  · obtain ⟨hv, hS9, hr1, hr2⟩ := hp
    subst hv
    have hS9 := hS9.symm
    subst hS9
    obtain ⟨i, hx9, hi⟩ := zRg (n := 1) (by omega) hr1 hr2
    subst hx9
    refine z_iload_n (j := 2) X dB_leave_6 rfl rfl ?_
    refine z_iconst (v := (nI 0)) X dB_leave_7 (by decide) ?_
    refine z_iconst (v := (nI 3)) X dB_leave_8 (by decide) ?_
    refine z_callS (n := 3) (As := [.int mm, .int (nI 0), .int (nI 3)]) (rest := []) X zG0_m (mB_mustBeWithin l D dA hl0) (w_S X.2.2.2.2.1 lB_45 tB_mustBeWithin i_LogBroker kB_mustBeWithin rfl rfl (by decide +kernel) ⟨Nat.le_of_ble_eq_true rfl, Nat.le_of_ble_eq_true rfl⟩) rfl rfl (Nat.le_of_ble_eq_true rfl) dB_leave_9 ⟨Nat.le_of_ble_eq_true rfl, Nat.le_of_ble_eq_true rfl⟩ (fun v S9 hp => ?_) (fun E S1 hx => ?_)
    · obtain ⟨hv, hS9, hr1, hr2⟩ := hp
      subst hv
      have hS9 := hS9.symm
      subst hS9
      obtain ⟨k, hx9, hk⟩ := zRg (n := 3) (by omega) hr1 hr2
      subst hx9
      refine z_aload_n (j := 0) X dB_leave_12 rfl rfl ?_
      refine z_getr (C := RB) (T := TB) (N := 11) (k := 5) X (w_in inB) rfl rfl rfl (by decide) (w_m lB_33) rfl rfl t5 dB_leave_13 ?_
      refine z_iload_n (j := 1) X dB_leave_16 rfl rfl ?_
      refine z_aald (t0 := 5) X rfl (by decide) (by decide) (by decide) rfl (by omega) (by decide) (hgr i (by omega)) dB_leave_17 ?_
      refine z_getr (C := RH) (T := TH) (N := 5) (k := 1) X (w_in inH) rfl rfl (kd_H (by omega)) (by decide) (w_m lB_204) rfl rfl (hGs i (by omega)).2.2.2.2.2.2.1 dB_leave_18 ?_
      refine z_iload_n (j := 2) X dB_leave_21 rfl rfl ?_
      refine z_iald (t0 := 0) X (kd_HT (by omega)) rfl (by omega) (by decide) dB_leave_22 (hv := ((hGs i (by omega)).2.2.2.2.2.2.2.2.2.2.1 k (by omega))) ?_
      refine z_iconst (v := (-1)) X dB_leave_23 (by decide) ?_
      refine z_icmp_ne (tgt := 37) X dB_leave_24 (by decide) (fun c_24 => ?_) (fun c_24 => ?_)
      · refine z_aload_n (j := 0) X dB_leave_37 rfl rfl ?_
        refine z_getr (C := RB) (T := TB) (N := 11) (k := 5) X (w_in inB) rfl rfl rfl (by decide) (w_m lB_33) rfl rfl t5 dB_leave_38 ?_
        refine z_iload_n (j := 1) X dB_leave_41 rfl rfl ?_
        refine z_aald (t0 := 5) X rfl (by decide) (by decide) (by decide) rfl (by omega) (by decide) (hgr i (by omega)) dB_leave_42 ?_
        refine z_iload_n (j := 2) X dB_leave_43 rfl rfl ?_
        refine z_iconst (v := (-1)) X dB_leave_44 (by decide) ?_
        refine z_aload_n (j := 0) X dB_leave_45 rfl rfl ?_
        refine z_getr (C := RB) (T := TB) (N := 11) (k := 0) X (w_in inB) rfl rfl rfl (by decide) (w_m lB_9) rfl rfl t0 dB_leave_46 ?_
        refine z_callV (n := 3) (As := [.int (nI k), .int (-1), .ref 2]) (rest := []) X zG0_m (mH_changeMember l D dA (pt := b.1) (by omega) (hGs i (by omega)) (by omega) (fun t ht => ⟨hpt t ht, v1 t ht⟩)) (w_V X.2.2.2.2.1 lB_200 jH_changeMember sH_changeMember i_LogBroker_Group kH_changeMember rfl rfl (by decide +kernel) ⟨Nat.le_of_ble_eq_true rfl, Nat.le_of_ble_eq_true rfl⟩) (kd_H (by omega)) rfl rfl rfl rfl (Nat.le_of_ble_eq_true rfl) dB_leave_49 ⟨Nat.le_of_ble_eq_true rfl, Nat.le_of_ble_eq_true rfl⟩ (fun v S1 hp => ?_) (fun E S1 hx => hx.elim)
        obtain ⟨hv, hG1, hf1, hd1⟩ := hp
        subst hv
        refine z_iret X hlocks hr dB_leave_52 (by omega) (by omega) ?_
        exact ⟨_, _, rfl, by unfold sLeave; rw [zA_s hi (by decide), zA_s hk (by decide), if_neg c_24], zBrA_H hB hW (by omega) hG1 hf1, hf1.ownB (fun n h => by unfold zOwnH at h; omega)⟩
      · exact z_thNSE (text := "the member is not in the group") X hl0 (by decide +kernel) dB_leave_27 dB_leave_30 dB_leave_31 dB_leave_33 dB_leave_36 hex (Nat.le_of_ble_eq_true rfl) (Nat.le_of_ble_eq_true rfl) (Nat.le_of_ble_eq_true rfl) (Nat.le_of_ble_eq_true rfl) hlocks (by omega) (by omega) ⟨rfl, Or.inr (⟨rfl, by unfold sLeave; rw [zA_s hi (by decide), zA_s hk (by decide), if_pos c_24]⟩)⟩
    · obtain ⟨hE, hS9, hn9⟩ := hx
      subst hE
      have hS9 := hS9.symm
      subst hS9
      exact z_out (fun x hx9 => (hex x hx9).elim) hlocks ⟨rfl, Or.inl ⟨rfl, by unfold sLeave; rw [zA_s hi (by decide), zA_n hn9]⟩⟩ (by omega) (by omega)
  · obtain ⟨hE, hS9, hn9⟩ := hx
    subst hE
    have hS9 := hS9.symm
    subst hS9
    exact z_out (fun x hx9 => (hex x hx9).elim) hlocks ⟨rfl, Or.inl ⟨rfl, by unfold sLeave; rw [zA_n hn9]⟩⟩ (by omega) (by omega)

set_option maxHeartbeats 600000 in
set_option maxRecDepth 100000 in
theorem mH_init (l : Launch) (D : va_G) (dA : Nat → ClassId) {S : zS} {i : Nat} (hi : i < 2) (h1 : S.1 (42 + i) = false) (h2 : S.1 (44 + i) = false) (h3 : S.1 (46 + i) = false) (h4 : S.1 (48 + i) = false) : zMet l D vwCl zKK dA (zG0 D dA) yH_init (Cond.code yH_init cH_init 1 none :: zTs) { frames := 1, cells := 4, slots := 40, locals := 23 } 4 40 [.ref (40 + i)] S (fun r S' => r = none ∧ S' = zfil (zfil (zsp (zadd (zsp (zadd (zsp (zadd (zsp (zadd S (42 + i)) (40 + i) 1 (some (42 + i))) (44 + i)) (40 + i) 2 (some (44 + i))) (46 + i)) (40 + i) 3 (some (46 + i))) (48 + i)) (40 + i) 4 (some (48 + i))) (42 + i) 4 (-1)) (44 + i) 12 (-1)) (fun _ _ => False) := by
  refine z_met (tys := ztys dA) (by decide) rfl zG0_K rfl (Nat.le_of_ble_eq_true rfl) (fun p e s m args below meth c A ad X hr hlocks hin hex => ?_)
  refine z_aload_n (j := 0) X dH_init_0 rfl rfl ?_
  refine z_objInit X (w_m lH_3) (w_m j_obj) (w_m k_obj) dH_init_1 (by decide) (Nat.le_of_ble_eq_true rfl) ?_
  refine z_aload_n (j := 0) X dH_init_4 rfl rfl ?_
  refine z_iconst (v := (nI 4)) X dH_init_5 (by decide) ?_
  refine z_newi (n := (42 + i)) (t0 := 0) X (kd_HT hi) rfl h1 (by omega) (nI_pos (by decide)) (nI_clamp (by decide)) (by decide) (w_m ac_int) (Nat.le_of_ble_eq_true rfl) (Nat.le_of_ble_eq_true rfl) dH_init_6 ?_
  refine z_putrF (cn := "") (C := RH) (T := TH) (N := 5) (k := 1) X (w_in inH) rfl rfl (kd_H hi) (by decide) (w_m lH_9) rfl tyH tyH_ok nmH rfl hin rfl rfl (Or.inr ⟨.int, by decide +kernel⟩) (by omega) dH_init_8 ?_
  refine z_aload_n (j := 0) X dH_init_11 rfl rfl ?_
  refine z_bipush (v := (nI 12)) X dH_init_12 (by decide) ?_
  refine z_newi (n := (44 + i)) (t0 := 0) X (kd_HO hi) rfl ((zadd_n (by omega)).trans h2) (by omega) (nI_pos (by decide)) (nI_clamp (by decide)) (by decide) (w_m ac_int) (Nat.le_of_ble_eq_true rfl) (Nat.le_of_ble_eq_true rfl) dH_init_14 ?_
  refine z_putrF (cn := "") (C := RH) (T := TH) (N := 5) (k := 2) X (w_in inH) rfl rfl (kd_H hi) (by decide) (w_m lH_15) rfl tyH tyH_ok nmH rfl hin rfl rfl (Or.inr ⟨.int, by decide +kernel⟩) (by omega) dH_init_16 ?_
  refine z_aload_n (j := 0) X dH_init_19 rfl rfl ?_
  refine z_bipush (v := (nI 12)) X dH_init_20 (by decide) ?_
  refine z_newi (n := (46 + i)) (t0 := 0) X (kd_HP hi) rfl ((zadd_n (by omega)).trans ((zadd_n (by omega)).trans h3)) (by omega) (nI_pos (by decide)) (nI_clamp (by decide)) (by decide) (w_m ac_int) (Nat.le_of_ble_eq_true rfl) (Nat.le_of_ble_eq_true rfl) dH_init_22 ?_
  refine z_putrF (cn := "") (C := RH) (T := TH) (N := 5) (k := 3) X (w_in inH) rfl rfl (kd_H hi) (by decide) (w_m lH_18) rfl tyH tyH_ok nmH rfl hin rfl rfl (Or.inr ⟨.int, by decide +kernel⟩) (by omega) dH_init_24 ?_
  refine z_aload_n (j := 0) X dH_init_27 rfl rfl ?_
  refine z_bipush (v := (nI 12)) X dH_init_28 (by decide) ?_
  refine z_newi (n := (48 + i)) (t0 := 0) X (kd_HK hi) rfl ((zadd_n (by omega)).trans ((zadd_n (by omega)).trans ((zadd_n (by omega)).trans h4))) (by omega) (nI_pos (by decide)) (nI_clamp (by decide)) (by decide) (w_m ac_int) (Nat.le_of_ble_eq_true rfl) (Nat.le_of_ble_eq_true rfl) dH_init_30 ?_
  refine z_putrF (cn := "") (C := RH) (T := TH) (N := 5) (k := 4) X (w_in inH) rfl rfl (kd_H hi) (by decide) (w_m lH_21) rfl tyH tyH_ok nmH rfl hin rfl rfl (Or.inr ⟨.int, by decide +kernel⟩) (by omega) dH_init_32 ?_
  refine z_aload_n (j := 0) X dH_init_35 rfl rfl ?_
  refine z_getr (C := RH) (T := TH) (N := 5) (k := 1) X (w_in inH) rfl rfl (kd_H hi) (by decide) (w_m lH_9) rfl rfl (rp_p (Or.inr (by decide)) (rp_p (Or.inr (by decide)) (rp_p (Or.inr (by decide)) rp_s))) dH_init_36 ?_
  refine z_iconst (v := (-1)) X dH_init_39 (by decide) ?_
  refine z_callS (n := 2) (As := [.ref (42 + i), .int (-1)]) (rest := []) X zG0_m (mA_fill l D dA (kd_HT hi) (by decide)) (w_S X.2.2.2.2.1 lH_24 tA_fill i_java_util_Arrays kA_fill rfl rfl (by decide +kernel) ⟨Nat.le_of_ble_eq_true rfl, Nat.le_of_ble_eq_true rfl⟩) rfl rfl (Nat.le_of_ble_eq_true rfl) dH_init_40 ⟨Nat.le_of_ble_eq_true rfl, Nat.le_of_ble_eq_true rfl⟩ (fun v S1 hp => ?_) (fun E S1 hx => hx.elim)
  obtain ⟨hv, hS1⟩ := hp
  subst hv
  subst hS1
  refine z_aload_n (j := 0) X dH_init_43 rfl rfl ?_
  refine z_getr (C := RH) (T := TH) (N := 5) (k := 2) X (w_in inH) rfl rfl (kd_H hi) (by decide) (w_m lH_15) rfl rfl (rp_p (Or.inr (by decide)) (rp_p (Or.inr (by decide)) rp_s)) dH_init_44 ?_
  refine z_iconst (v := (-1)) X dH_init_47 (by decide) ?_
  refine z_callS (n := 2) (As := [.ref (44 + i), .int (-1)]) (rest := []) X zG0_m (mA_fill l D dA (kd_HO hi) (by decide)) (w_S X.2.2.2.2.1 lH_24 tA_fill i_java_util_Arrays kA_fill rfl rfl (by decide +kernel) ⟨Nat.le_of_ble_eq_true rfl, Nat.le_of_ble_eq_true rfl⟩) rfl rfl (Nat.le_of_ble_eq_true rfl) dH_init_48 ⟨Nat.le_of_ble_eq_true rfl, Nat.le_of_ble_eq_true rfl⟩ (fun v S1 hp => ?_) (fun E S1 hx => hx.elim)
  obtain ⟨hv, hS1⟩ := hp
  subst hv
  subst hS1
  refine z_vret X hlocks hr dH_init_51 (by omega) (by omega) ?_
  exact ⟨rfl, rfl⟩

set_option maxHeartbeats 600000 in
set_option maxRecDepth 100000 in
theorem mB_init (l : Launch) (D : va_G) (dA : Nat → ClassId) {S : zS} (hex1 : S.1 1 = true) (hfree : ∀ n, 2 ≤ n → n < 1000 → S.1 n = false) (hz1 : ∀ k, 6 ≤ k → S.2.1 1 k = 0) : zMet l D vwCl zKK dA (zG1 D dA) yB_init (Cond.code yB_init cB_init 2 none :: zTs) { frames := 2, cells := 200, slots := 2000, locals := 43 } 200 2000 [.ref 1] S (fun v S' => v = none ∧ zBrA S' zBr0 ∧ zfr zOwnB S S') (fun _ _ => False) := by
  refine z_met (tys := ztys dA) (by decide) rfl zG1_K rfl (Nat.le_of_ble_eq_true rfl) (fun p e s m args below meth c A ad X hr hlocks hin hex => ?_)
  have loop2 : ∀ (f k : Nat) (S1 : zS) (kc ks : Nat), 2 - k < f → k ≤ 2 → kc ≤ 60 + 10 * k → ks ≤ 800 + 100 * k → zIni S1 6 k → zfr zOwnB S S1 → AW p l e { frames := 2, cells := 200, slots := 2000, locals := 43 } s m args below meth c D vwCl zKK dA A (ad, S) 2 S1 kc ks (vx_MQ below (zQc D vwCl zKK dA A ad S (fun v S' => v = none ∧ zBrA S' zBr0 ∧ zfr zOwnB S S')) (zXC D vwCl zKK dA A ad S (fun _ _ => False)) args s 200 2000 A) 80 [(1, .int (nI k)), (0, .ref 1)] [] := by
    intro f
    induction f with
    | zero => intro k S1 kc ks h0; omega
    | succ f ih =>
    intro k S1 kc ks h0 hk2 hkc hks hI hfr
    refine z_iload_n (j := 0) X dB_init_80 rfl rfl ?_
    refine z_iconst (v := (nI 2)) X dB_init_81 (by decide) ?_
    refine z_icmp_geN (tgt := 104) X dB_init_82 (by decide) (by omega) (by omega) (fun c_82 => ?_) (fun c_82 => ?_)
    · have e2 : k = 2 := by omega
      subst e2
      refine z_aload_n (j := 1) X dB_init_104 rfl rfl ?_
      refine z_getr (C := RB) (T := TB) (N := 11) (k := 3) X (w_in inB) rfl rfl rfl (by decide) (w_m lB_25) rfl rfl hI.2.2.2.2.1 dB_init_105 ?_
      refine z_iconst (v := (-1)) X dB_init_108 (by decide) ?_
      refine z_callS (n := 2) (As := [.ref 5, .int (-1)]) (rest := []) X zG1_m (zMet_g zG1_0 (mA_fill l D dA (n := 5) (len := 4) rfl (by decide))) (w_S X.2.2.2.2.1 lB_39 tA_fill i_java_util_Arrays kA_fill rfl rfl (by decide +kernel) ⟨Nat.le_of_ble_eq_true rfl, Nat.le_of_ble_eq_true rfl⟩) rfl rfl (Nat.le_of_ble_eq_true rfl) dB_init_109 ⟨by show _ ≤ 200; omega, by show _ ≤ 2000; omega⟩ (fun v S2 hp => ?_) (fun E S1 hx => hx.elim)
      obtain ⟨hv, hS2⟩ := hp
      subst hv
      subst hS2
      refine z_vret X hlocks hr dB_init_112 (by omega) (by omega) ?_
      exact ⟨rfl, (zIni_end hI).1, hfr.tr (zIni_end hI).2⟩
    · refine z_zero (fun hz0 => ?_)
      have hn9 := hI.2.2.2.2.2.2.2.2.2.2.2.2.2.2.1 k (Nat.le_refl _) (by omega)
      have hn0 := hn9 _ (Or.inl rfl)
      have hn1 := hn9 _ (Or.inr (Or.inl rfl))
      have hn2 := hn9 _ (Or.inr (Or.inr (Or.inl rfl)))
      have hn3 := hn9 _ (Or.inr (Or.inr (Or.inr (Or.inl rfl))))
      have hn4 := hn9 _ (Or.inr (Or.inr (Or.inr (Or.inr rfl))))
      refine z_aload_n (j := 1) X dB_init_85 rfl rfl ?_
      refine z_getr (C := RB) (T := TB) (N := 11) (k := 5) X (w_in inB) rfl rfl rfl (by decide) (w_m lB_33) rfl rfl hI.2.2.2.2.2.2.1 dB_init_86 ?_
      refine z_iload_n (j := 0) X dB_init_89 rfl rfl ?_
      refine z_new (C := RH) (T := TH) (N := 5) (ci := 3) (n := (40 + k)) X (w_in inH) rfl rfl (kd_H (by omega)) hn0 (by omega) tyH tyH_ok (by decide +kernel) (w_m lB_31) (w_m n_LogBroker_Group) (w_m i_LogBroker_Group) (by show _ ≤ 200; omega) (by show _ ≤ 2000; omega) dB_init_90 ?_
      refine z_dup X dB_init_93 rfl ?_
      refine z_callI (n := 0) (As := []) (rest := [.ref (40 + k), .int (nI k), .ref 7]) X zG1_m (fun _ _ h => h) (zMet_g zG1_0 (mH_init l D dA (i := k) (by omega) ((zadd_n (by omega)).trans hn1) ((zadd_n (by omega)).trans hn2) ((zadd_n (by omega)).trans hn3) ((zadd_n (by omega)).trans hn4))) (w_I X.2.2.2.2.1 lB_38 jH_init i_LogBroker_Group kH_init rfl rfl rfl (by decide +kernel) ⟨Nat.le_of_ble_eq_true rfl, Nat.le_of_ble_eq_true rfl⟩) rfl rfl (Nat.le_of_ble_eq_true rfl) dB_init_94 ⟨by show _ ≤ 200; omega, by show _ ≤ 2000; omega⟩ (fun v S2 hp => ?_)
      obtain ⟨hv, hS2⟩ := hp
      subst hv
      refine z_aast (t0 := 5) X rfl (by decide) (by decide) (by decide) rfl (by omega) (by decide) (kd_H (by omega)) rfl rfl dB_init_97 ?_
      refine z_iinc (j := 0) (v := (nI (k + 1))) (L' := [(1, .int (nI (k + 1))), (0, .ref 1)]) X dB_init_98 rfl (nI_1 k) (by decide) rfl ?_
      refine z_goto (tgt := 80) X dB_init_101 (by decide) ?_
      obtain ⟨hI2, hf2⟩ := zIni_g hI (by omega) (by omega) hz0 (congrArg (fun z => zsp z 7 k (some (40 + k))) hS2)
      exact ih (k + 1) _ _ _ (by omega) (by omega) (by omega) (by omega) hI2 (hfr.tr hf2)
  have loop1 : ∀ (f k : Nat) (S1 : zS) (kc ks : Nat), 6 - k < f → k ≤ 6 → kc ≤ 10 + 4 * k → ks ≤ 50 + 60 * k → zIni S1 k 0 → zfr zOwnB S S1 → AW p l e { frames := 2, cells := 200, slots := 2000, locals := 43 } s m args below meth c D vwCl zKK dA A (ad, S) 2 S1 kc ks (vx_MQ below (zQc D vwCl zKK dA A ad S (fun v S' => v = none ∧ zBrA S' zBr0 ∧ zfr zOwnB S S')) (zXC D vwCl zKK dA A ad S (fun _ _ => False)) args s 200 2000 A) 53 [(1, .int (nI k)), (0, .ref 1)] [] := by
    intro f
    induction f with
    | zero => intro k S1 kc ks h0; omega
    | succ f ih =>
    intro k S1 kc ks h0 hk6 hkc hks hI hfr
    refine z_iload_n (j := 0) X dB_init_53 rfl rfl ?_
    refine z_bipush (v := (nI 6)) X dB_init_54 (by decide) ?_
    refine z_icmp_geN (tgt := 78) X dB_init_56 (by decide) (by omega) (by omega) (fun c_56 => ?_) (fun c_56 => ?_)
    · refine z_iconst (v := (nI 0)) X dB_init_78 (by decide) ?_
      refine z_istore_n (L' := [(1, .int (nI 0)), (0, .ref 1)]) X dB_init_79 rfl (by decide) rfl ?_
      have e6 : k = 6 := by omega
      subst e6
      exact loop2 3 0 S1 kc ks (by omega) (by omega) (by omega) (by omega) hI hfr
    · refine z_zero (fun hz0 => ?_)
      obtain ⟨hn0, hn1, hn2⟩ := hI.2.2.2.2.2.2.2.2.2.2.2.2.2.1 k (Nat.le_refl _) (by omega)
      refine z_aload_n (j := 1) X dB_init_59 rfl rfl ?_
      refine z_getr (C := RB) (T := TB) (N := 11) (k := 2) X (w_in inB) rfl rfl rfl (by decide) (w_m lB_21) rfl rfl hI.2.2.2.1 dB_init_60 ?_
      refine z_iload_n (j := 0) X dB_init_63 rfl rfl ?_
      refine z_new (C := RS) (T := TS) (N := 4) (ci := 2) (n := (10 + k)) X (w_in inS) rfl rfl (kd_S (by omega)) hn0 (by omega) tyS tyS_ok (by decide +kernel) (w_m lB_19) (w_m n_LogBroker_Session) (w_m i_LogBroker_Session) (by show _ ≤ 200; omega) (by show _ ≤ 2000; omega) dB_init_64 ?_
      refine z_dup X dB_init_67 rfl ?_
      refine z_callIN (n := 0) (As := []) (rest := [.ref (10 + k), .int (nI k), .ref 4]) (host := "LogBroker") X zG1_m (fun _ _ h => h) (zMet_g zG1_0 (mS_init l D dA (i := k) (by omega) ((zadd_n (by omega)).trans hn1) ((zadd_n (by omega)).trans hn2))) (w_IN X.2.2.2.2.1 X.2.2.2.2.2.2.2.2.2 jS_init i_LogBroker_Session kS_init rfl rfl rfl (by decide +kernel) ⟨Nat.le_of_ble_eq_true rfl, Nat.le_of_ble_eq_true rfl⟩) rfl rfl (Nat.le_of_ble_eq_true rfl) dB_init_68 ⟨by show _ ≤ 200; omega, by show _ ≤ 2000; omega⟩ (fun v S2 hp => ?_)
      obtain ⟨hv, hS2⟩ := hp
      subst hv
      refine z_aast (t0 := 4) X rfl (by decide) (by decide) (by decide) rfl (by omega) (by decide) (kd_S (by omega)) rfl rfl dB_init_71 ?_
      refine z_iinc (j := 0) (v := (nI (k + 1))) (L' := [(1, .int (nI (k + 1))), (0, .ref 1)]) X dB_init_72 rfl (nI_1 k) (by decide) rfl ?_
      refine z_goto (tgt := 53) X dB_init_75 (by decide) ?_
      obtain ⟨hI2, hf2⟩ := zIni_s hI (by omega) hz0 (congrArg (fun z => zsp z 4 k (some (10 + k))) hS2)
      exact ih (k + 1) _ _ _ (by omega) (by omega) (by omega) (by omega) hI2 (hfr.tr hf2)
  refine z_aload_n (j := 0) X dB_init_0 rfl rfl ?_
  refine z_zero (fun hzz => ?_)
  refine z_objInit X (w_m lB_3) (w_m j_obj) (w_m k_obj) dB_init_1 (by decide) (Nat.le_of_ble_eq_true rfl) ?_
  refine z_aload_n (j := 0) X dB_init_4 rfl rfl ?_
  refine z_iconst (v := (nI 3)) X dB_init_5 (by decide) ?_
  refine z_newi (n := 2) (t0 := 0) X rfl rfl (hfree 2 (by decide) (by decide)) (by decide) (nI_pos (by decide)) (nI_clamp (by decide)) (by decide) (w_m ac_int) (Nat.le_of_ble_eq_true rfl) (Nat.le_of_ble_eq_true rfl) dB_init_6 ?_
  refine z_putrF (cn := "") (C := RB) (T := TB) (N := 11) (k := 0) X (w_in inB) rfl rfl rfl (by decide) (w_m lB_9) rfl tyB tyB_ok nmB rfl hin rfl rfl (Or.inr ⟨.int, by decide +kernel⟩) (by omega) dB_init_8 ?_
  refine z_aload_n (j := 0) X dB_init_11 rfl rfl ?_
  refine z_bipush (v := (nI 12)) X dB_init_12 (by decide) ?_
  refine z_anew (n := 3) (t0 := 3) X rfl (by decide) (by decide) rfl (by show (zadd S 2).1 3 = false; rw [zadd_n (by decide)]; exact (hfree 3 (by decide) (by decide))) (by decide) (nI_pos (by decide)) (nI_clamp (by decide)) (by decide) (w_m lB_13) (zG0_over X.2.2.2.2.2.2.2.2.1 (by decide +kernel)) (Nat.le_of_ble_eq_true rfl) (Nat.le_of_ble_eq_true rfl) dB_init_14 ?_
  refine z_putrF (cn := "") (C := RB) (T := TB) (N := 11) (k := 1) X (w_in inB) rfl rfl rfl (by decide) (w_m lB_15) rfl tyB tyB_ok nmB rfl hin rfl rfl (Or.inr ⟨.object "LogBroker$Log", by decide +kernel⟩) (by omega) dB_init_17 ?_
  refine z_aload_n (j := 0) X dB_init_20 rfl rfl ?_
  refine z_bipush (v := (nI 6)) X dB_init_21 (by decide) ?_
  refine z_anew (n := 4) (t0 := 4) X rfl (by decide) (by decide) rfl (by show (zadd (zadd S 2) 3).1 4 = false; rw [zadd_n (by decide), zadd_n (by decide)]; exact (hfree 4 (by decide) (by decide))) (by decide) (nI_pos (by decide)) (nI_clamp (by decide)) (by decide) (w_m lB_19) (zG0_over X.2.2.2.2.2.2.2.2.1 (by decide +kernel)) (Nat.le_of_ble_eq_true rfl) (Nat.le_of_ble_eq_true rfl) dB_init_23 ?_
  refine z_putrF (cn := "") (C := RB) (T := TB) (N := 11) (k := 2) X (w_in inB) rfl rfl rfl (by decide) (w_m lB_21) rfl tyB tyB_ok nmB rfl hin rfl rfl (Or.inr ⟨.object "LogBroker$Session", by decide +kernel⟩) (by omega) dB_init_26 ?_
  refine z_aload_n (j := 0) X dB_init_29 rfl rfl ?_
  refine z_iconst (v := (nI 4)) X dB_init_30 (by decide) ?_
  refine z_newi (n := 5) (t0 := 0) X rfl rfl (by show (zadd (zadd (zadd S 2) 3) 4).1 5 = false; rw [zadd_n (by decide), zadd_n (by decide), zadd_n (by decide)]; exact (hfree 5 (by decide) (by decide))) (by decide) (nI_pos (by decide)) (nI_clamp (by decide)) (by decide) (w_m ac_int) (Nat.le_of_ble_eq_true rfl) (Nat.le_of_ble_eq_true rfl) dB_init_31 ?_
  refine z_putrF (cn := "") (C := RB) (T := TB) (N := 11) (k := 3) X (w_in inB) rfl rfl rfl (by decide) (w_m lB_25) rfl tyB tyB_ok nmB rfl hin rfl rfl (Or.inr ⟨.int, by decide +kernel⟩) (by omega) dB_init_33 ?_
  refine z_aload_n (j := 0) X dB_init_36 rfl rfl ?_
  refine z_iconst (v := (nI 4)) X dB_init_37 (by decide) ?_
  refine z_newi (n := 6) (t0 := 0) X rfl rfl (by show (zadd (zadd (zadd (zadd S 2) 3) 4) 5).1 6 = false; rw [zadd_n (by decide), zadd_n (by decide), zadd_n (by decide), zadd_n (by decide)]; exact (hfree 6 (by decide) (by decide))) (by decide) (nI_pos (by decide)) (nI_clamp (by decide)) (by decide) (w_m ac_int) (Nat.le_of_ble_eq_true rfl) (Nat.le_of_ble_eq_true rfl) dB_init_38 ?_
  refine z_putrF (cn := "") (C := RB) (T := TB) (N := 11) (k := 4) X (w_in inB) rfl rfl rfl (by decide) (w_m lB_28) rfl tyB tyB_ok nmB rfl hin rfl rfl (Or.inr ⟨.int, by decide +kernel⟩) (by omega) dB_init_40 ?_
  refine z_aload_n (j := 0) X dB_init_43 rfl rfl ?_
  refine z_iconst (v := (nI 2)) X dB_init_44 (by decide) ?_
  refine z_anew (n := 7) (t0 := 5) X rfl (by decide) (by decide) rfl (by show (zadd (zadd (zadd (zadd (zadd S 2) 3) 4) 5) 6).1 7 = false; rw [zadd_n (by decide), zadd_n (by decide), zadd_n (by decide), zadd_n (by decide), zadd_n (by decide)]; exact (hfree 7 (by decide) (by decide))) (by decide) (nI_pos (by decide)) (nI_clamp (by decide)) (by decide) (w_m lB_31) (zG0_over X.2.2.2.2.2.2.2.2.1 (by decide +kernel)) (Nat.le_of_ble_eq_true rfl) (Nat.le_of_ble_eq_true rfl) dB_init_45 ?_
  refine z_putrF (cn := "") (C := RB) (T := TB) (N := 11) (k := 5) X (w_in inB) rfl rfl rfl (by decide) (w_m lB_33) rfl tyB tyB_ok nmB rfl hin rfl rfl (Or.inr ⟨.object "LogBroker$Group", by decide +kernel⟩) (by omega) dB_init_48 ?_
  refine z_iconst (v := (nI 0)) X dB_init_51 (by decide) ?_
  refine z_istore_n (L' := [(1, .int (nI 0)), (0, .ref 1)]) X dB_init_52 rfl (by decide) rfl ?_
  have hz8 : ∀ n, 8 ≤ n → n < 1000 → ((zsp (zadd (zsp (zadd (zsp (zadd (zsp (zadd (zsp (zadd (zsp (zadd S 2) 1 0 (some 2)) 3) 1 1 (some 3)) 4) 1 2 (some 4)) 5) 1 3 (some 5)) 6) 1 4 (some 6)) 7) 1 5 (some 7))).1 n = false := fun n h1 h2 => by
    show (zadd (zadd (zadd (zadd (zadd (zadd S 2) 3) 4) 5) 6) 7).1 n = false
    rw [zadd_n (by omega), zadd_n (by omega), zadd_n (by omega), zadd_n (by omega), zadd_n (by omega), zadd_n (by omega)]; exact hfree n (by omega) h2
  refine loop1 7 0 _ _ _ (by omega) (by omega) (by omega) (by omega) ?_ ?_
  · refine ⟨fun n h1 h2 => ?_, (rp_p (Or.inr (by decide)) (rp_p (Or.inr (by decide)) (rp_p (Or.inr (by decide)) (rp_p (Or.inr (by decide)) (rp_p (Or.inr (by decide)) (rp_s)))))), (rp_p (Or.inr (by decide)) (rp_p (Or.inr (by decide)) (rp_p (Or.inr (by decide)) (rp_p (Or.inr (by decide)) (rp_s))))), (rp_p (Or.inr (by decide)) (rp_p (Or.inr (by decide)) (rp_p (Or.inr (by decide)) (rp_s)))), (rp_p (Or.inr (by decide)) (rp_p (Or.inr (by decide)) (rp_s))), (rp_p (Or.inr (by decide)) (rp_s)), (rp_s), fun k hk => hz1 k hk, fun t => (hzz 2 (hfree 2 (by decide) (by decide)) t).1, fun t => ?_, fun i hi => by omega, fun q => (hzz 6 (hfree 6 (by decide) (by decide)) q).1, fun i hi => by omega, fun i h1 h2 => ?_, fun i h1 h2 n h3 => ?_, fun n h1 h2 => ?_⟩
    · show (zadd (zadd (zadd (zadd (zadd (zadd S 2) 3) 4) 5) 6) 7).1 n = true
      rcases (show n = 1 ∨ n = 2 ∨ n = 3 ∨ n = 4 ∨ n = 5 ∨ n = 6 ∨ n = 7 by omega) with e | e | e | e | e | e | e <;> subst e
      · exact zadd_t (zadd_t (zadd_t (zadd_t (zadd_t (zadd_t hex1)))))
      · exact zadd_t (zadd_t (zadd_t (zadd_t (zadd_t zadd_s))))
      · exact zadd_t (zadd_t (zadd_t (zadd_t zadd_s)))
      · exact zadd_t (zadd_t (zadd_t zadd_s))
      · exact zadd_t (zadd_t zadd_s)
      · exact zadd_t zadd_s
      · exact zadd_s
    · exact rp_p (Or.inl (by decide)) (rp_p (Or.inl (by decide)) (rp_p (Or.inl (by decide)) (rp_p (Or.inl (by decide)) (rp_p (Or.inl (by decide)) (rp_p (Or.inl (by decide)) (hzz 3 (hfree 3 (by decide) (by decide)) t).2.1)))))
    · exact ⟨hz8 _ (by omega) (by omega), hz8 _ (by omega) (by omega), hz8 _ (by omega) (by omega)⟩
    · exact hz8 _ (by unfold zOwnH at h3; omega) (by unfold zOwnH at h3; omega)
    · exact hz8 _ (by omega) (by omega)
  · have p : ∀ n, n < 8 → zOwnB n := fun n h => by unfold zOwnB; omega
    exact (((((((((((zfr.add (p 2 (by decide))).tr (zfr.p (p 1 (by decide)))).tr (zfr.add (p 3 (by decide)))).tr (zfr.p (p 1 (by decide)))).tr (zfr.add (p 4 (by decide)))).tr (zfr.p (p 1 (by decide)))).tr (zfr.add (p 5 (by decide)))).tr (zfr.p (p 1 (by decide)))).tr (zfr.add (p 6 (by decide)))).tr (zfr.p (p 1 (by decide)))).tr (zfr.add (p 7 (by decide)))).tr (zfr.p (p 1 (by decide)))
