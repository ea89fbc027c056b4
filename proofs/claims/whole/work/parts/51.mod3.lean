/-! CONTRACTS of the reference: owners, changes, deciding (rows by program) -/
set_option maxHeartbeats 600000 in
set_option maxRecDepth 100000 in
theorem mM_whose (l : Launch) (D : va_G) (dA : Nat → ClassId) {S : zS} {i t n : Nat} {u : zGr} (hP : mP S) (hi : i < 2) (ht : t < 12) (hG : mG S i u) (hn : n ≤ 3) (hpt : S.2.1 1001 (t / 4) = nI n) : zMet l D vwCl zKK dA (zG0 D dA) yM_whose (Cond.code yM_whose cM_whose 8 (some .int) :: zTs) { frames := 0, cells := 0, slots := 0, locals := 0 } 0 0 [.ref 1000, .int (nI i), .int (nI t)] S (fun v S' => S' = S ∧ v = some (.int (zOI (zWho u.2.1 n t)))) (fun _ _ => False) := by
  refine z_met (tys := ztys dA) (by decide) rfl zG0_K rfl (Nat.le_of_ble_eq_true rfl) (fun p e s m args below meth c A ad X hr hlocks hin hex => ?_)
  have loop2 : ∀ (f k : Nat), 4 - k < f → k ≤ 4 → zfind (zWhoP u.2.1 n (t / 4) t) k 0 = none → AW p l e { frames := 0, cells := 0, slots := 0, locals := 0 } s m args below meth c D vwCl zKK dA A (ad, S) 8 S 0 0 (vx_MQ below (zQc D vwCl zKK dA A ad S (fun v S' => S' = S ∧ v = some (.int (zOI (zWho u.2.1 n t))))) (zXC D vwCl zKK dA A ad S (fun _ _ => False)) args s 0 0 A) 49 [(7, .int (nI k)), (6, .int (nI (zRk u.2.1 (t / 4) k))), (5, .int (nI (zNxt n (zRk u.2.1 (t / 4) 4) (zRk u.2.1 (t / 4) k)))), (4, .int (nI (zRk u.2.1 (t / 4) 4))), (3, .int (nI (t / 4))), (0, .ref 1000), (1, .int (nI i)), (2, .int (nI t))] [] := by
    intro f
    induction f with
    | zero => intro k h0; omega
    | succ f ih =>
    intro k h0 hi2 hi3
    have hk9 := zRk_le (k := u.2.1) (t := t / 4) (m := k)
    refine z_iload (j := 0) X dM_whose_49 rfl ?_
    refine z_iconst (v := (nI 4)) X dM_whose_51 (by decide) ?_
    refine z_icmp_geN (tgt := 124) X dM_whose_52 (by decide) (by omega) (by omega) (fun c_52 => ?_) (fun c_52 => ?_)
    · refine z_iconst (v := (-1)) X dM_whose_124 (by decide) ?_
      refine z_iret X hlocks hr dM_whose_125 (by omega) (by omega) ?_
      refine ⟨rfl, ?_⟩
      have e4 : k = 4 := by omega
      subst e4
      unfold zWho
      rw [hi3]
      rfl
    · refine z_aload_n (j := 5) X dM_whose_55 rfl rfl ?_
      refine z_getr (C := RM) (T := TM) (N := 28) (k := 18) X (w_in inM) rfl rfl rfl (by decide) (w_m lM_65) rfl rfl (hP.2 18 (by decide)) dM_whose_56 ?_
      refine z_iload_n (j := 6) X dM_whose_59 rfl rfl ?_
      refine z_iconst (v := (nI 4)) X dM_whose_60 (by decide) ?_
      refine z_imul X dM_whose_61 ?_
      refine z_top (pk_mul i 4) ?_
      refine z_iload (j := 0) X dM_whose_62 rfl ?_
      refine z_iadd X dM_whose_64 ?_
      refine z_top (nI_add (i * 4) k) ?_
      refine z_iald (t0 := 0) X rfl rfl (by omega) (by decide) dM_whose_65 (hv := (hG.2.1 k (by omega))) ?_
      refine z_iload_n (j := 4) X dM_whose_66 rfl rfl ?_
      refine z_icmp_ne (tgt := 118) X dM_whose_67 (by decide) (fun c_67 => ?_) (fun c_67 => ?_)
      · refine z_iinc (j := 0) (v := (nI (k + 1))) (L' := [(7, .int (nI (k + 1))), (6, .int (nI (zRk u.2.1 (t / 4) k))), (5, .int (nI (zNxt n (zRk u.2.1 (t / 4) 4) (zRk u.2.1 (t / 4) k)))), (4, .int (nI (zRk u.2.1 (t / 4) 4))), (3, .int (nI (t / 4))), (0, .ref 1000), (1, .int (nI i)), (2, .int (nI t))]) X dM_whose_118 rfl (nI_1 k) (by decide) rfl ?_
        refine z_goto (tgt := 49) X dM_whose_121 (by decide) ?_
        refine z_loc [0, 1, 2, 3, 4, 5, 6, 7] rfl ?_
        have hrn := zRk_n (k := u.2.1) (t := t / 4) (m := k) c_67
        rw [← hrn]
        exact ih (k + 1) (by omega) (by omega) (zfind_nn hi3 (by
          unfold zWhoP
          rw [decide_eq_false c_67, Bool.false_and]))
      · have hr4 := zRk_lt c_67 (show k < 4 by omega)
        have hr5 := zRk_le (k := u.2.1) (t := t / 4) (m := 4)
        have hxl := zNxt_le (n := n) (c := zRk u.2.1 (t / 4) 4) (r := zRk u.2.1 (t / 4) k + 1) hr4 hn hr5
        have hxs := zNxt_s (n := n) (c := zRk u.2.1 (t / 4) 4) (r := zRk u.2.1 (t / 4) k)
        have hdl : n / zRk u.2.1 (t / 4) 4 ≤ n := Nat.div_le_self _ _
        have hml : n % zRk u.2.1 (t / 4) 4 ≤ n := Nat.mod_le _ _
        refine z_iload (j := 2) X dM_whose_70 rfl ?_
        refine z_aload_n (j := 5) X dM_whose_72 rfl rfl ?_
        refine z_getr (C := RM) (T := TM) (N := 28) (k := 0) X (w_in inM) rfl rfl rfl (by decide) (w_m lM_7) rfl rfl (hP.2 0 (by decide)) dM_whose_73 ?_
        refine z_iload_n (j := 4) X dM_whose_76 rfl rfl ?_
        refine z_iald (t0 := 0) X rfl rfl (by omega) (by decide) dM_whose_77 (hv := hpt) ?_
        refine z_iload (j := 3) X dM_whose_78 rfl ?_
        refine z_idiv X dM_whose_80 (nI_ne0 (by omega) (by omega)) ?_
        refine z_top (pk_div (a := n) (d := zRk u.2.1 (t / 4) 4) (by omega) (by omega) (by omega)) ?_
        refine z_iload (j := 1) X dM_whose_81 rfl ?_
        refine z_aload_n (j := 5) X dM_whose_83 rfl rfl ?_
        refine z_getr (C := RM) (T := TM) (N := 28) (k := 0) X (w_in inM) rfl rfl rfl (by decide) (w_m lM_7) rfl rfl (hP.2 0 (by decide)) dM_whose_84 ?_
        refine z_iload_n (j := 4) X dM_whose_87 rfl rfl ?_
        refine z_iald (t0 := 0) X rfl rfl (by omega) (by decide) dM_whose_88 (hv := hpt) ?_
        refine z_iload (j := 3) X dM_whose_89 rfl ?_
        refine z_irem X dM_whose_91 (nI_ne0 (by omega) (by omega)) ?_
        refine z_top (pk_rem (a := n) (d := zRk u.2.1 (t / 4) 4) (by omega) (by omega) (by omega)) ?_
        refine z_icmp_geN (tgt := 99) X dM_whose_92 (by decide) (by omega) (by omega) (fun c_92 => ?_) (fun c_92 => ?_)
        · have hif : (if zRk u.2.1 (t / 4) k < n % zRk u.2.1 (t / 4) 4 then 1 else 0) = 0 := if_neg (by omega)
          rw [hif] at hxs
          refine z_iconst (v := (nI 0)) X dM_whose_99 (by decide) ?_
          refine z_iadd X dM_whose_100 ?_
          refine z_top (nI_add (n / (zRk u.2.1 (t / 4) 4)) 0) ?_
          refine z_iadd X dM_whose_101 ?_
          refine z_top (nI_add (zNxt n (zRk u.2.1 (t / 4) 4) (zRk u.2.1 (t / 4) k)) (n / (zRk u.2.1 (t / 4) 4) + 0)) ?_
          refine z_top (y := nI (zNxt n (zRk u.2.1 (t / 4) 4) (zRk u.2.1 (t / 4) k + 1))) (congrArg nI (by omega)) ?_
          refine z_istore (L' := [(5, .int (nI (zNxt n (zRk u.2.1 (t / 4) 4) (zRk u.2.1 (t / 4) k + 1)))), (7, .int (nI k)), (6, .int (nI (zRk u.2.1 (t / 4) k))), (4, .int (nI (zRk u.2.1 (t / 4) 4))), (3, .int (nI (t / 4))), (0, .ref 1000), (1, .int (nI i)), (2, .int (nI t))]) X dM_whose_102 (by decide) rfl ?_
          refine z_iinc (j := 2) (v := (nI (zRk u.2.1 (t / 4) k + 1))) (L' := [(6, .int (nI (zRk u.2.1 (t / 4) k + 1))), (5, .int (nI (zNxt n (zRk u.2.1 (t / 4) 4) (zRk u.2.1 (t / 4) k + 1)))), (7, .int (nI k)), (4, .int (nI (zRk u.2.1 (t / 4) 4))), (3, .int (nI (t / 4))), (0, .ref 1000), (1, .int (nI i)), (2, .int (nI t))]) X dM_whose_104 rfl (nI_1 (zRk u.2.1 (t / 4) k)) (by decide) rfl ?_
          refine z_iload_n (j := 7) X dM_whose_107 rfl rfl ?_
          refine z_iconst (v := (nI 4)) X dM_whose_108 (by decide) ?_
          refine z_irem X dM_whose_109 (nI_ne0 (by omega) (by omega)) ?_
          refine z_top (pk_rem (a := t) (d := 4) (by omega) (by omega) (by omega)) ?_
          refine z_iload (j := 1) X dM_whose_110 rfl ?_
          refine z_icmp_geN (tgt := 118) X dM_whose_112 (by decide) (by omega) (by omega) (fun c_112 => ?_) (fun c_112 => ?_)
          · refine z_iinc (j := 2) (v := (nI (k + 1))) (L' := [(7, .int (nI (k + 1))), (6, .int (nI (zRk u.2.1 (t / 4) k + 1))), (5, .int (nI (zNxt n (zRk u.2.1 (t / 4) 4) (zRk u.2.1 (t / 4) k + 1)))), (4, .int (nI (zRk u.2.1 (t / 4) 4))), (3, .int (nI (t / 4))), (0, .ref 1000), (1, .int (nI i)), (2, .int (nI t))]) X dM_whose_118 rfl (nI_1 k) (by decide) rfl ?_
            refine z_goto (tgt := 49) X dM_whose_121 (by decide) ?_
            refine z_loc [0, 1, 2, 3, 4, 5, 6, 7] rfl ?_
            rw [← zRk_y c_67]
            exact ih (k + 1) (by omega) (by omega) (zfind_nn hi3 (by
              unfold zWhoP
              rw [decide_eq_true c_67, Bool.true_and, zRk_y c_67]
              exact decide_eq_false (by omega)))
          · refine z_iload (j := 2) X dM_whose_115 rfl ?_
            refine z_iret X hlocks hr dM_whose_117 (by omega) (by omega) ?_
            refine ⟨rfl, ?_⟩
            unfold zWho
            rw [zfind_some (x := k) (Nat.zero_le _) (by omega) (fun j _ hj => zfind_nspec hi3 j (Nat.zero_le _) (by omega)) (by
              unfold zWhoP
              rw [decide_eq_true c_67, Bool.true_and, zRk_y c_67, zNxt_s]
              exact decide_eq_true (by show t % 4 < _; rw [hif]; omega))]
            rfl
        · have hif : (if zRk u.2.1 (t / 4) k < n % zRk u.2.1 (t / 4) 4 then 1 else 0) = 1 := if_pos (by omega)
          rw [hif] at hxs
          refine z_iconst (v := (nI 1)) X dM_whose_95 (by decide) ?_
          refine z_goto (tgt := 100) X dM_whose_96 (by decide) ?_
          refine z_iadd X dM_whose_100 ?_
          refine z_top (nI_add (n / (zRk u.2.1 (t / 4) 4)) 1) ?_
          refine z_iadd X dM_whose_101 ?_
          refine z_top (nI_add (zNxt n (zRk u.2.1 (t / 4) 4) (zRk u.2.1 (t / 4) k)) (n / (zRk u.2.1 (t / 4) 4) + 1)) ?_
          refine z_top (y := nI (zNxt n (zRk u.2.1 (t / 4) 4) (zRk u.2.1 (t / 4) k + 1))) (congrArg nI (by omega)) ?_
          refine z_istore (L' := [(5, .int (nI (zNxt n (zRk u.2.1 (t / 4) 4) (zRk u.2.1 (t / 4) k + 1)))), (7, .int (nI k)), (6, .int (nI (zRk u.2.1 (t / 4) k))), (4, .int (nI (zRk u.2.1 (t / 4) 4))), (3, .int (nI (t / 4))), (0, .ref 1000), (1, .int (nI i)), (2, .int (nI t))]) X dM_whose_102 (by decide) rfl ?_
          refine z_iinc (j := 2) (v := (nI (zRk u.2.1 (t / 4) k + 1))) (L' := [(6, .int (nI (zRk u.2.1 (t / 4) k + 1))), (5, .int (nI (zNxt n (zRk u.2.1 (t / 4) 4) (zRk u.2.1 (t / 4) k + 1)))), (7, .int (nI k)), (4, .int (nI (zRk u.2.1 (t / 4) 4))), (3, .int (nI (t / 4))), (0, .ref 1000), (1, .int (nI i)), (2, .int (nI t))]) X dM_whose_104 rfl (nI_1 (zRk u.2.1 (t / 4) k)) (by decide) rfl ?_
          refine z_iload_n (j := 7) X dM_whose_107 rfl rfl ?_
          refine z_iconst (v := (nI 4)) X dM_whose_108 (by decide) ?_
          refine z_irem X dM_whose_109 (nI_ne0 (by omega) (by omega)) ?_
          refine z_top (pk_rem (a := t) (d := 4) (by omega) (by omega) (by omega)) ?_
          refine z_iload (j := 1) X dM_whose_110 rfl ?_
          refine z_icmp_geN (tgt := 118) X dM_whose_112 (by decide) (by omega) (by omega) (fun c_112 => ?_) (fun c_112 => ?_)
          · refine z_iinc (j := 2) (v := (nI (k + 1))) (L' := [(7, .int (nI (k + 1))), (6, .int (nI (zRk u.2.1 (t / 4) k + 1))), (5, .int (nI (zNxt n (zRk u.2.1 (t / 4) 4) (zRk u.2.1 (t / 4) k + 1)))), (4, .int (nI (zRk u.2.1 (t / 4) 4))), (3, .int (nI (t / 4))), (0, .ref 1000), (1, .int (nI i)), (2, .int (nI t))]) X dM_whose_118 rfl (nI_1 k) (by decide) rfl ?_
            refine z_goto (tgt := 49) X dM_whose_121 (by decide) ?_
            refine z_loc [0, 1, 2, 3, 4, 5, 6, 7] rfl ?_
            rw [← zRk_y c_67]
            exact ih (k + 1) (by omega) (by omega) (zfind_nn hi3 (by
              unfold zWhoP
              rw [decide_eq_true c_67, Bool.true_and, zRk_y c_67]
              exact decide_eq_false (by omega)))
          · refine z_iload (j := 2) X dM_whose_115 rfl ?_
            refine z_iret X hlocks hr dM_whose_117 (by omega) (by omega) ?_
            refine ⟨rfl, ?_⟩
            unfold zWho
            rw [zfind_some (x := k) (Nat.zero_le _) (by omega) (fun j _ hj => zfind_nspec hi3 j (Nat.zero_le _) (by omega)) (by
              unfold zWhoP
              rw [decide_eq_true c_67, Bool.true_and, zRk_y c_67, zNxt_s]
              exact decide_eq_true (by show t % 4 < _; rw [hif]; omega))]
            rfl
  have loop1 : ∀ (f k : Nat), 4 - k < f → k ≤ 4 → AW p l e { frames := 0, cells := 0, slots := 0, locals := 0 } s m args below meth c D vwCl zKK dA A (ad, S) 8 S 0 0 (vx_MQ below (zQc D vwCl zKK dA A ad S (fun v S' => S' = S ∧ v = some (.int (zOI (zWho u.2.1 n t))))) (zXC D vwCl zKK dA A ad S (fun _ _ => False)) args s 0 0 A) 10 [(5, .int (nI k)), (4, .int (nI (zRk u.2.1 (t / 4) k))), (3, .int (nI (t / 4))), (0, .ref 1000), (1, .int (nI i)), (2, .int (nI t))] [] := by
    intro f
    induction f with
    | zero => intro k h0; omega
    | succ f ih =>
    intro k h0 hi2
    have hk9 := zRk_le (k := u.2.1) (t := t / 4) (m := k)
    refine z_iload (j := 0) X dM_whose_10 rfl ?_
    refine z_iconst (v := (nI 4)) X dM_whose_12 (by decide) ?_
    refine z_icmp_geN (tgt := 40) X dM_whose_13 (by decide) (by omega) (by omega) (fun c_13 => ?_) (fun c_13 => ?_)
    · refine z_iconst (v := (nI 0)) X dM_whose_40 (by decide) ?_
      refine z_istore (L' := [(5, .int (nI 0)), (4, .int (nI (zRk u.2.1 (t / 4) k))), (3, .int (nI (t / 4))), (0, .ref 1000), (1, .int (nI i)), (2, .int (nI t))]) X dM_whose_41 (by decide) rfl ?_
      refine z_iconst (v := (nI 0)) X dM_whose_43 (by decide) ?_
      refine z_istore (L' := [(6, .int (nI 0)), (5, .int (nI 0)), (4, .int (nI (zRk u.2.1 (t / 4) k))), (3, .int (nI (t / 4))), (0, .ref 1000), (1, .int (nI i)), (2, .int (nI t))]) X dM_whose_44 (by decide) rfl ?_
      refine z_iconst (v := (nI 0)) X dM_whose_46 (by decide) ?_
      refine z_istore (L' := [(7, .int (nI 0)), (6, .int (nI 0)), (5, .int (nI 0)), (4, .int (nI (zRk u.2.1 (t / 4) k))), (3, .int (nI (t / 4))), (0, .ref 1000), (1, .int (nI i)), (2, .int (nI t))]) X dM_whose_47 (by decide) rfl ?_
      refine z_loc [0, 1, 2, 3, 4, 5, 6, 7] rfl ?_
      have e4 : k = 4 := by omega
      subst e4
      have h9 := loop2 5 0 (by omega) (by omega) rfl
      rw [show zRk u.2.1 (t / 4) 0 = 0 from rfl, zNxt_0] at h9
      exact h9
    · refine z_aload_n (j := 3) X dM_whose_16 rfl rfl ?_
      refine z_getr (C := RM) (T := TM) (N := 28) (k := 18) X (w_in inM) rfl rfl rfl (by decide) (w_m lM_65) rfl rfl (hP.2 18 (by decide)) dM_whose_17 ?_
      refine z_iload_n (j := 4) X dM_whose_20 rfl rfl ?_
      refine z_iconst (v := (nI 4)) X dM_whose_21 (by decide) ?_
      refine z_imul X dM_whose_22 ?_
      refine z_top (pk_mul i 4) ?_
      refine z_iload (j := 0) X dM_whose_23 rfl ?_
      refine z_iadd X dM_whose_25 ?_
      refine z_top (nI_add (i * 4) k) ?_
      refine z_iald (t0 := 0) X rfl rfl (by omega) (by decide) dM_whose_26 (hv := (hG.2.1 k (by omega))) ?_
      refine z_iload_n (j := 2) X dM_whose_27 rfl rfl ?_
      refine z_icmp_ne (tgt := 34) X dM_whose_28 (by decide) (fun c_28 => ?_) (fun c_28 => ?_)
      · refine z_iinc (j := 0) (v := (nI (k + 1))) (L' := [(5, .int (nI (k + 1))), (4, .int (nI (zRk u.2.1 (t / 4) k))), (3, .int (nI (t / 4))), (0, .ref 1000), (1, .int (nI i)), (2, .int (nI t))]) X dM_whose_34 rfl (nI_1 k) (by decide) rfl ?_
        refine z_goto (tgt := 10) X dM_whose_37 (by decide) ?_
        refine z_loc [0, 1, 2, 3, 4, 5] rfl ?_
        have hrn := zRk_n (k := u.2.1) (t := t / 4) (m := k) c_28
        rw [← hrn]
        exact ih (k + 1) (by omega) (by omega)
      · refine z_iinc (j := 1) (v := (nI (zRk u.2.1 (t / 4) k + 1))) (L' := [(4, .int (nI (zRk u.2.1 (t / 4) k + 1))), (5, .int (nI k)), (3, .int (nI (t / 4))), (0, .ref 1000), (1, .int (nI i)), (2, .int (nI t))]) X dM_whose_31 rfl (nI_1 (zRk u.2.1 (t / 4) k)) (by decide) rfl ?_
        refine z_iinc (j := 1) (v := (nI (k + 1))) (L' := [(5, .int (nI (k + 1))), (4, .int (nI (zRk u.2.1 (t / 4) k + 1))), (3, .int (nI (t / 4))), (0, .ref 1000), (1, .int (nI i)), (2, .int (nI t))]) X dM_whose_34 rfl (nI_1 k) (by decide) rfl ?_
        refine z_goto (tgt := 10) X dM_whose_37 (by decide) ?_
        refine z_loc [0, 1, 2, 3, 4, 5] rfl ?_
        rw [← zRk_y c_28]
        exact ih (k + 1) (by omega) (by omega)
  refine z_iload_n (j := 2) X dM_whose_0 rfl rfl ?_
  refine z_iconst (v := (nI 4)) X dM_whose_1 (by decide) ?_
  refine z_idiv X dM_whose_2 (nI_ne0 (by omega) (by omega)) ?_
  refine z_top (pk_div (a := t) (d := 4) (by omega) (by omega) (by omega)) ?_
  refine z_istore_n (L' := [(3, .int (nI (t / 4))), (0, .ref 1000), (1, .int (nI i)), (2, .int (nI t))]) X dM_whose_3 rfl (by decide) rfl ?_
  refine z_iconst (v := (nI 0)) X dM_whose_4 (by decide) ?_
  refine z_istore (L' := [(4, .int (nI 0)), (3, .int (nI (t / 4))), (0, .ref 1000), (1, .int (nI i)), (2, .int (nI t))]) X dM_whose_5 (by decide) rfl ?_
  refine z_iconst (v := (nI 0)) X dM_whose_7 (by decide) ?_
  refine z_istore (L' := [(5, .int (nI 0)), (4, .int (nI 0)), (3, .int (nI (t / 4))), (0, .ref 1000), (1, .int (nI i)), (2, .int (nI t))]) X dM_whose_8 (by decide) rfl ?_
  exact loop1 5 0 (by omega) (by omega)

set_option maxHeartbeats 600000 in
set_option maxRecDepth 100000 in
theorem mM_change (l : Launch) (D : va_G) (dA : Nat → ClassId) {S : zS} {i : Nat} {u : zGr} (hP : mP S) (hi : i < 2) (hG : mG S i u) : zMet l D vwCl zKK dA (zG0 D dA) yM_change (Cond.code yM_change cM_change 3 (some .int) :: zTs) { frames := 0, cells := 0, slots := 0, locals := 0 } 0 0 [.ref 1000, .int (nI i)] S (fun v S' => v = some (.int (u.1 + nI 1)) ∧ mG S' i (u.1 + nI 1, u.2.1, u.2.2.1, u.2.2.2.2, u.2.2.2.2) ∧ zch (oG i) S S') (fun _ _ => False) := by
  refine z_met (tys := ztys dA) (by decide) rfl zG0_K rfl (Nat.le_of_ble_eq_true rfl) (fun p e s m args below meth c A ad X hr hlocks hin hex => ?_)
  have loop : ∀ (f t : Nat) (S1 : zS), 12 - t < f → t ≤ 12 → (S1.2.1 1020 i = u.1 + nI 1 ∧ (∀ k, k < 4 → S1.2.1 1019 (i * 4 + k) = u.2.1 k) ∧ (∀ j, j < 12 → S1.2.1 1021 (i * 12 + j) = nI (if j < t then u.2.2.2.2 j else u.2.2.2.1 j)) ∧ ∀ t, t < 12 → S1.2.1 1022 (i * 12 + t) = nI (u.2.2.2.2 t)) → zch (oG i) S S1 → AW p l e { frames := 0, cells := 0, slots := 0, locals := 0 } s m args below meth c D vwCl zKK dA A (ad, S) 3 S1 0 0 (vx_MQ below (zQc D vwCl zKK dA A ad S (fun v S' => v = some (.int (u.1 + nI 1)) ∧ mG S' i (u.1 + nI 1, u.2.1, u.2.2.1, u.2.2.2.2, u.2.2.2.2) ∧ zch (oG i) S S')) (zXC D vwCl zKK dA A ad S (fun _ _ => False)) args s 0 0 A) 12 [(2, .int (nI t)), (0, .ref 1000), (1, .int (nI i))] [] := by
    intro f
    induction f with
    | zero => intro t S1 h0; omega
    | succ f ih =>
    intro t S1 h0 hi2 h1 hc
    have hP1 : mP S1 := mP_fr hP hc
    refine z_iload_n (j := 0) X dM_change_12 rfl rfl ?_
    refine z_bipush (v := (nI 12)) X dM_change_13 (by decide) ?_
    refine z_icmp_geN (tgt := 46) X dM_change_15 (by decide) (by omega) (by omega) (fun c_15 => ?_) (fun c_15 => ?_)
    · refine z_aload_n (j := 1) X dM_change_46 rfl rfl ?_
      refine z_getr (C := RM) (T := TM) (N := 28) (k := 19) X (w_in inM) rfl rfl rfl (by decide) (w_m lM_68) rfl rfl (hP1.2 19 (by decide)) dM_change_47 ?_
      refine z_iload_n (j := 2) X dM_change_50 rfl rfl ?_
      refine z_iald (t0 := 0) X rfl rfl (by omega) (by decide) dM_change_51 (hv := h1.1) ?_
      refine z_iret X hlocks hr dM_change_52 (by omega) (by omega) ?_
      have e4 : t = 12 := by omega
      subst e4
      exact ⟨rfl, ⟨h1.1, h1.2.1, fun j hj => (h1.2.2.1 j hj).trans (by rw [if_pos hj]), h1.2.2.2⟩, hc⟩
    · refine z_aload_n (j := 1) X dM_change_18 rfl rfl ?_
      refine z_getr (C := RM) (T := TM) (N := 28) (k := 20) X (w_in inM) rfl rfl rfl (by decide) (w_m lM_71) rfl rfl (hP1.2 20 (by decide)) dM_change_19 ?_
      refine z_iload_n (j := 2) X dM_change_22 rfl rfl ?_
      refine z_bipush (v := (nI 12)) X dM_change_23 (by decide) ?_
      refine z_imul X dM_change_25 ?_
      refine z_top (pk_mul i 12) ?_
      refine z_iload_n (j := 0) X dM_change_26 rfl rfl ?_
      refine z_iadd X dM_change_27 ?_
      refine z_top (nI_add (i * 12) t) ?_
      refine z_aload_n (j := 1) X dM_change_28 rfl rfl ?_
      refine z_getr (C := RM) (T := TM) (N := 28) (k := 21) X (w_in inM) rfl rfl rfl (by decide) (w_m lM_74) rfl rfl (hP1.2 21 (by decide)) dM_change_29 ?_
      refine z_iload_n (j := 2) X dM_change_32 rfl rfl ?_
      refine z_bipush (v := (nI 12)) X dM_change_33 (by decide) ?_
      refine z_imul X dM_change_35 ?_
      refine z_top (pk_mul i 12) ?_
      refine z_iload_n (j := 0) X dM_change_36 rfl rfl ?_
      refine z_iadd X dM_change_37 ?_
      refine z_top (nI_add (i * 12) t) ?_
      refine z_iald (t0 := 0) X rfl rfl (by omega) (by decide) dM_change_38 (hv := (h1.2.2.2 t (by omega))) ?_
      refine z_iast (t0 := 0) X rfl rfl (by omega) (by decide) dM_change_39 ?_
      refine z_iinc (j := 0) (v := (nI (t + 1))) (L' := [(2, .int (nI (t + 1))), (0, .ref 1000), (1, .int (nI i))]) X dM_change_40 rfl (nI_1 t) (by decide) rfl ?_
      refine z_goto (tgt := 12) X dM_change_43 (by decide) ?_
      exact ih (t + 1) _ (by omega) (by omega) ⟨rd_i (Or.inl (by omega)) h1.1, fun k hk => rd_i (Or.inl (by omega)) (h1.2.1 k hk), fun j hj => by
        by_cases e9 : j = t
        · subst e9; rw [if_pos (by omega)]; exact rd_s
        · refine rd_i (Or.inr (by omega)) ((h1.2.2.1 j hj).trans ?_)
          by_cases e8 : j < t
          · rw [if_pos e8, if_pos (by omega)]
          · rw [if_neg e8, if_neg (by omega)], fun k hk => rd_i (Or.inl (by omega)) (h1.2.2.2 k hk)⟩ (hc.tr (zch.i (Or.inr (Or.inr ⟨Or.inl rfl, by omega, by omega⟩))))
  refine z_aload_n (j := 0) X dM_change_0 rfl rfl ?_
  refine z_getr (C := RM) (T := TM) (N := 28) (k := 19) X (w_in inM) rfl rfl rfl (by decide) (w_m lM_68) rfl rfl (hP.2 19 (by decide)) dM_change_1 ?_
  refine z_iload_n (j := 1) X dM_change_4 rfl rfl ?_
  refine z_dup2 X dM_change_5 rfl rfl ?_
  refine z_iald (t0 := 0) X rfl rfl (by omega) (by decide) dM_change_6 (hv := hG.1) ?_
  refine z_iconst (v := (nI 1)) X dM_change_7 (by decide) ?_
  refine z_iadd X dM_change_8 ?_
  refine z_iast (t0 := 0) X rfl rfl (by omega) (by decide) dM_change_9 ?_
  refine z_iconst (v := (nI 0)) X dM_change_10 (by decide) ?_
  refine z_istore_n (L' := [(2, .int (nI 0)), (0, .ref 1000), (1, .int (nI i))]) X dM_change_11 rfl (by decide) rfl ?_
  exact loop 13 0 _ (by omega) (by omega) ⟨rd_s, fun k hk => rd_i (Or.inl (by omega)) (hG.2.1 k hk), fun j hj => by rw [if_neg (by omega)]; exact rd_i (Or.inl (by omega)) (hG.2.2.1 j hj), fun k hk => rd_i (Or.inl (by omega)) (hG.2.2.2 k hk)⟩ (zch.i (Or.inl ⟨rfl, rfl⟩))

set_option maxHeartbeats 600000 in
set_option maxRecDepth 100000 in
theorem mM_finishT (l : Launch) (D : va_G) (dA : Nat → ClassId) {S : zS} {b : zBr} {i : Nat} (hA : zMdA S b) (hI : zInv b) (hi : i < 6) (hq : ∃ k, k < 4 ∧ (b.2.2.1 i).1 = nI k) (hcur : zCur b i) (hroom : zRoom b (b.2.2.1 i).1 = true) : zMet l D vwCl zKK dA (zG0 D dA) yM_finish (Cond.code yM_finish cM_finish 6 (some .int) :: zTs) { frames := 4, cells := 0, slots := 0, locals := 91 } 0 0 [.ref 1000, .int (nI i), .int (nI 1)] S (fun v S' => v = some (.int (nI (zcnt (zU b (b.2.2.1 i).1) 12 0))) ∧ zMdA S' (sDec b i true) ∧ zch oQ S S') (fun _ _ => False) := by
  refine z_met (tys := ztys dA) (by decide) rfl zG0_K rfl (Nat.le_of_ble_eq_true rfl) (fun p e s m args below meth c A ad X hr hlocks hin hex => ?_)
  obtain ⟨hW, hE, hC, hi1, hi2, hGr⟩ := id hI
  have hWa : ∀ t, t < 12 → zLogW (b.2.1 t) ∧ ∀ o e, (b.2.1 t).2.2 o = some e → zEW e := fun t ht => zBrW_a hW hE ht
  have hmk : zEW (zMk (b.2.2.1 i).1 true) := zEW_mk hq (by first | exact Or.inl rfl | exact Or.inr rfl)
  have hro : ∀ t, zEx b t → zU b (b.2.2.1 i).1 t = true → (b.2.1 t).2.1.2 < 60 := fun t ht hu => zRoom_iff.mp hroom t ht.1 hu
  have hWD : ∀ k, k ≤ 12 → zBrW (bDk b (b.2.2.1 i).1 (zMk (b.2.2.1 i).1 true) k) := fun k hk => zBrW_Dk hW hro (fun t h1 h2 => hE.u t h1 h2) hmk k hk
  have hqb : ∀ t, t < 12 → ∀ o e, (b.2.1 t).2.2 o = some e → e.2.2.2.2 = nI 2 → (b.2.2.2.1 e.2.2.2.1.toNatClampNeg = nI i ↔ e.2.2.2.1 = (b.2.2.1 i).1) := fun t ht o e he _ => zHq hC (fun t ht => (hWa t ht).2) hi hq hcur ht he
  have hED : ∀ t, t < 12 → ¬ zEx b t → (bDk b (b.2.2.1 i).1 (zMk (b.2.2.1 i).1 true) 12).2.1 t = b.2.1 t := fun t ht hx => if_neg (fun h => by rw [hE.u t ht hx] at h; cases h.2)
  have hVB : ∀ t, t < 12 → ∀ o e, ((bDk b (b.2.2.1 i).1 (zMk (b.2.2.1 i).1 true) 12).2.1 t).2.2 o = some e → zEW e := fun t ht o e he => (bDk_ent he).elim (fun h => by rw [h]; exact hmk) (fun h => (hWa t ht).2 o e h)
  have hqB : ∀ t, t < 12 → ∀ o e, ((bDk b (b.2.2.1 i).1 (zMk (b.2.2.1 i).1 true) 12).2.1 t).2.2 o = some e → e.2.2.2.2 = nI 2 → (b.2.2.2.1 e.2.2.2.1.toNatClampNeg = nI i ↔ e.2.2.2.1 = (b.2.2.1 i).1) := fun t ht o e he hs => (bDk_ent he).elim (fun h => by rw [h] at hs; exact absurd (show nI 0 = nI 2 from hs) (by decide)) (fun h => hqb t ht o e h hs)
  have hno : ∀ t, t < 12 → ∀ o, 60 ≤ o → ((bDk b (b.2.2.1 i).1 (zMk (b.2.2.1 i).1 true) 12).2.1 t).2.2 o = none := fun t ht o ho => by
    by_cases hx : zEx b t
    · have h1 := (hWD 12 (Nat.le_refl _)).2.1 t hx
      exact h1.2.2.2.2.2.2.2.1 o (Nat.le_trans h1.2.2.2.2.2.1 ho)
    · rw [hED t ht hx]; exact hE.n t ht hx o
  have loop2 : ∀ (f j : Nat) (S2 : zS), 720 - j < f → j ≤ 720 → zMdA S2 (bF (bDk b (b.2.2.1 i).1 (zMk (b.2.2.1 i).1 true) 12) (b.2.2.1 i).1 (nI 0) j) → zch oQ S S2 → AW p l e { frames := 4, cells := 0, slots := 0, locals := 91 } s m args below meth c D vwCl zKK dA A (ad, S) 6 S2 0 0 (vx_MQ below (zQc D vwCl zKK dA A ad S (fun v S' => v = some (.int (nI (zcnt (zU b (b.2.2.1 i).1) 12 0))) ∧ zMdA S' (sDec b i true) ∧ zch oQ S S')) (zXC D vwCl zKK dA A ad S (fun _ _ => False)) args s 0 0 A) 54 [(4, .int (nI j)), (3, .int (nI (zcnt (zU b (b.2.2.1 i).1) 12 0))), (0, .ref 1000), (1, .int (nI i)), (2, .int (nI 1))] [] := by
    intro f
    induction f with
    | zero => intro j S2 h0; omega
    | succ f ih =>
    intro j S2 h0 hi9 hA2 hc2
    refine z_iload (j := 0) X dM_finish_54 rfl ?_
    refine z_sipush (v := (nI 720)) X dM_finish_56 (by decide) ?_
    refine z_icmp_geN (tgt := 116) X dM_finish_59 (by decide) (by omega) (by omega) (fun c_59 => ?_) (fun c_59 => ?_)
    · refine z_aload_n (j := 2) X dM_finish_116 rfl rfl ?_
      refine z_dup X dM_finish_117 rfl ?_
      refine z_geti (C := RM) (T := TM) (N := 28) (k := 24) X (w_in inM) rfl rfl rfl (by decide) (w_m lM_109) rfl rfl dM_finish_118 (hv := rfl) ?_
      refine z_iload_n (j := 1) X dM_finish_121 rfl rfl ?_
      refine z_iadd X dM_finish_122 ?_
      refine z_puti (C := RM) (T := TM) (N := 28) (k := 24) X (w_in inM) rfl rfl rfl (by decide) (w_m lM_109) rfl tyM tyM_ok nmM rfl rfl (ty := .int) (by decide +kernel) rfl rfl dM_finish_123 ?_
      refine z_aload_n (j := 2) X dM_finish_126 rfl rfl ?_
      refine z_getr (C := RM) (T := TM) (N := 28) (k := 15) X (w_in inM) rfl rfl rfl (by decide) (w_m lM_56) rfl rfl (rp_i (hA2.1.2 15 (by decide))) dM_finish_127 ?_
      refine z_iload_n (j := 3) X dM_finish_130 rfl rfl ?_
      refine z_iconst (v := (nI 0)) X dM_finish_131 (by decide) ?_
      refine z_zast (t0 := 1) X rfl rfl (by omega) (by decide) (Or.inl rfl) dM_finish_132 ?_
      refine z_iload_n (j := 1) X dM_finish_133 rfl rfl ?_
      refine z_iret X hlocks hr dM_finish_134 (by omega) (by omega) ?_
      have e4 : j = 720 := by omega
      subst e4
      rw [bF_end hno] at hA2
      have hN2 := hA2.2.1
      have hcm : zch oN S2 (zsi S2 1000 24 (S2.2.1 1000 24 + nI (zcnt (zU b (b.2.2.1 i).1) 12 0))) := zch.i ⟨rfl, by omega, by omega⟩
      have hA3 : zMdA (zsi S2 1000 24 (S2.2.1 1000 24 + nI (zcnt (zU b (b.2.2.1 i).1) 12 0))) (bSk (bM (bDk b (b.2.2.1 i).1 (zMk (b.2.2.1 i).1 true) 12) (b.2.2.2.2.2.2.2.2.1 + nI (zcnt (zU b (b.2.2.1 i).1) 12 0))) (b.2.2.1 i).1 (nI 0) 12) := by
        have h := zMdA_N (c := ((bDk b (b.2.2.1 i).1 (zMk (b.2.2.1 i).1 true) 12).2.2.2.2.2.2.1, (bDk b (b.2.2.1 i).1 (zMk (b.2.2.1 i).1 true) 12).2.2.2.2.2.2.2.1, b.2.2.2.2.2.2.2.2.1 + nI (zcnt (zU b (b.2.2.1 i).1) 12 0), (bDk b (b.2.2.1 i).1 (zMk (b.2.2.1 i).1 true) 12).2.2.2.2.2.2.2.2.2.1, (bDk b (b.2.2.1 i).1 (zMk (b.2.2.1 i).1 true) 12).2.2.2.2.2.2.2.2.2.2)) hA2 hcm ⟨rd_i (Or.inr (by decide)) hN2.1, rd_i (Or.inr (by decide)) hN2.2.1, rd_s.trans (by rw [hN2.2.2.1]; rfl), rd_i (Or.inr (by decide)) hN2.2.2.2.1, rd_i (Or.inr (by decide)) hN2.2.2.2.2⟩
        exact h
      obtain ⟨s1, s2, s3, s4⟩ := hA3.2.2.2.2.1 i hi
      refine ⟨rfl, ?_, (hc2.tr (hcm.mono (fun n k h => by unfold oN at h; unfold oQ; omega))).tr (zch.i (by unfold oQ; omega))⟩
      exact zMdA_S hA3 (zch.i (Or.inl ⟨Or.inr rfl, rfl⟩)) ⟨rd_i (Or.inl (by omega)) s1, rd_s, fun t ht => rd_i (Or.inl (by omega)) (s3 t ht), fun k hk => rd_i (Or.inl (by omega)) (s4 k hk)⟩
    · obtain ⟨t, o, ht, ho, rfl⟩ : ∃ t o, t < 12 ∧ o < 60 ∧ j = t * 60 + o := ⟨j / 60, j % 60, by omega, by omega, by omega⟩
      have hlo := (hA2.2.2.2.1 t ht).2.2 o ho
      rw [bF_at (Nat.le_refl _)] at hlo
      rcases he : ((bDk b (b.2.2.1 i).1 (zMk (b.2.2.1 i).1 true) 12).2.1 t).2.2 o with _ | r <;> rw [he] at hlo
      · refine z_aload_n (j := 2) X dM_finish_62 rfl rfl ?_
        refine z_getr (C := RM) (T := TM) (N := 28) (k := 6) X (w_in inM) rfl rfl rfl (by decide) (w_m lM_29) rfl rfl (hA2.1.2 6 (by decide)) dM_finish_63 ?_
        refine z_iload (j := 0) X dM_finish_66 rfl ?_
        refine z_iald (t0 := 0) X rfl rfl (by omega) (by decide) dM_finish_68 (hv := hlo) ?_
        refine z_if_ne (tgt := 110) X dM_finish_69 (by decide) (fun c_69 => ?_) (fun c_69 => absurd c_69 (by decide))
        refine z_iinc (j := 0) (v := (nI (t * 60 + o + 1))) (L' := [(4, .int (nI (t * 60 + o + 1))), (3, .int (nI (zcnt (zU b (b.2.2.1 i).1) 12 0))), (0, .ref 1000), (1, .int (nI i)), (2, .int (nI 1))]) X dM_finish_110 rfl (nI_1 (t * 60 + o)) (by decide) rfl ?_
        refine z_goto (tgt := 54) X dM_finish_113 (by decide) ?_
        exact ih (t * 60 + o + 1) _ (by omega) (by omega) (bF_n ho hA2 (zSet_same (fun r h => by rw [he] at h; cases h))) hc2
      · refine z_aload_n (j := 2) X dM_finish_62 rfl rfl ?_
        refine z_getr (C := RM) (T := TM) (N := 28) (k := 6) X (w_in inM) rfl rfl rfl (by decide) (w_m lM_29) rfl rfl (hA2.1.2 6 (by decide)) dM_finish_63 ?_
        refine z_iload (j := 0) X dM_finish_66 rfl ?_
        refine z_iald (t0 := 0) X rfl rfl (by omega) (by decide) dM_finish_68 (hv := hlo.1) ?_
        refine z_if_ne (tgt := 110) X dM_finish_69 (by decide) (fun c_69 => ?_) (fun c_69 => ?_)
        · refine z_iinc (j := 0) (v := (nI (t * 60 + o + 1))) (L' := [(4, .int (nI (t * 60 + o + 1))), (3, .int (nI (zcnt (zU b (b.2.2.1 i).1) 12 0))), (0, .ref 1000), (1, .int (nI i)), (2, .int (nI 1))]) X dM_finish_110 rfl (nI_1 (t * 60 + o)) (by decide) rfl ?_
          refine z_goto (tgt := 54) X dM_finish_113 (by decide) ?_
          exact ih (t * 60 + o + 1) _ (by omega) (by omega) (bF_n ho hA2 (zSet_same (fun r9 h q9 => by
            rw [he] at h
            cases h
            first | exact c_69 (((hVB t ht o r he).2.2.2.2 q9.1).trans nI_0) | exact c_80 q9.1 | exact c_91 ((hqB t ht o r he q9.1).mpr q9.2)))) hc2
        · refine z_aload_n (j := 2) X dM_finish_72 rfl rfl ?_
          refine z_getr (C := RM) (T := TM) (N := 28) (k := 10) X (w_in inM) rfl rfl rfl (by decide) (w_m lM_41) rfl rfl (hA2.1.2 10 (by decide)) dM_finish_73 ?_
          refine z_iload (j := 0) X dM_finish_76 rfl ?_
          refine z_iald (t0 := 0) X rfl rfl (by omega) (by decide) dM_finish_78 (hv := hlo.2.2.2.2.1) ?_
          refine z_iconst (v := (nI 2)) X dM_finish_79 (by decide) ?_
          refine z_icmp_ne (tgt := 110) X dM_finish_80 (by decide) (fun c_80 => ?_) (fun c_80 => ?_)
          · refine z_iinc (j := 0) (v := (nI (t * 60 + o + 1))) (L' := [(4, .int (nI (t * 60 + o + 1))), (3, .int (nI (zcnt (zU b (b.2.2.1 i).1) 12 0))), (0, .ref 1000), (1, .int (nI i)), (2, .int (nI 1))]) X dM_finish_110 rfl (nI_1 (t * 60 + o)) (by decide) rfl ?_
            refine z_goto (tgt := 54) X dM_finish_113 (by decide) ?_
            exact ih (t * 60 + o + 1) _ (by omega) (by omega) (bF_n ho hA2 (zSet_same (fun r9 h q9 => by
              rw [he] at h
              cases h
              first | exact c_69 (((hVB t ht o r he).2.2.2.2 q9.1).trans nI_0) | exact c_80 q9.1 | exact c_91 ((hqB t ht o r he q9.1).mpr q9.2)))) hc2
          · refine z_aload_n (j := 2) X dM_finish_83 rfl rfl ?_
            refine z_getr (C := RM) (T := TM) (N := 28) (k := 11) X (w_in inM) rfl rfl rfl (by decide) (w_m lM_44) rfl rfl (hA2.1.2 11 (by decide)) dM_finish_84 ?_
            refine z_iload (j := 0) X dM_finish_87 rfl ?_
            refine z_iald (t0 := 0) X rfl rfl (by omega) (by decide) dM_finish_89 (hv := (hlo.2.2.2.2.2 c_80)) ?_
            refine z_iload_n (j := 3) X dM_finish_90 rfl rfl ?_
            refine z_icmp_ne (tgt := 110) X dM_finish_91 (by decide) (fun c_91 => ?_) (fun c_91 => ?_)
            · refine z_iinc (j := 0) (v := (nI (t * 60 + o + 1))) (L' := [(4, .int (nI (t * 60 + o + 1))), (3, .int (nI (zcnt (zU b (b.2.2.1 i).1) 12 0))), (0, .ref 1000), (1, .int (nI i)), (2, .int (nI 1))]) X dM_finish_110 rfl (nI_1 (t * 60 + o)) (by decide) rfl ?_
              refine z_goto (tgt := 54) X dM_finish_113 (by decide) ?_
              exact ih (t * 60 + o + 1) _ (by omega) (by omega) (bF_n ho hA2 (zSet_same (fun r9 h q9 => by
                rw [he] at h
                cases h
                first | exact c_69 (((hVB t ht o r he).2.2.2.2 q9.1).trans nI_0) | exact c_80 q9.1 | exact c_91 ((hqB t ht o r he q9.1).mpr q9.2)))) hc2
            · refine z_aload_n (j := 2) X dM_finish_94 rfl rfl ?_
              refine z_getr (C := RM) (T := TM) (N := 28) (k := 10) X (w_in inM) rfl rfl rfl (by decide) (w_m lM_41) rfl rfl (hA2.1.2 10 (by decide)) dM_finish_95 ?_
              refine z_iload (j := 0) X dM_finish_98 rfl ?_
              refine z_iload_n (j := 4) X dM_finish_100 rfl rfl ?_
              refine z_if_eq (tgt := 108) X dM_finish_101 (by decide) (fun c_101 => absurd c_101 (by decide)) (fun c_101 => ?_)
              refine z_iconst (v := (nI 0)) X dM_finish_104 (by decide) ?_
              refine z_goto (tgt := 109) X dM_finish_105 (by decide) ?_
              refine z_iast (t0 := 0) X rfl rfl (by omega) (by decide) dM_finish_109 ?_
              refine z_iinc (j := 0) (v := (nI (t * 60 + o + 1))) (L' := [(4, .int (nI (t * 60 + o + 1))), (3, .int (nI (zcnt (zU b (b.2.2.1 i).1) 12 0))), (0, .ref 1000), (1, .int (nI i)), (2, .int (nI 1))]) X dM_finish_110 rfl (nI_1 (t * 60 + o)) (by decide) rfl ?_
              refine z_goto (tgt := 54) X dM_finish_113 (by decide) ?_
              exact ih (t * 60 + o + 1) _ (by omega) (by omega) (bF_y ht ho hA2 he ⟨c_80, (hqB t ht o r he c_80).mp c_91⟩ (by decide)) (hc2.tr (zch.i (by unfold oQ; omega)))
  have loop1 : ∀ (f k : Nat) (S1 : zS), 12 - k < f → k ≤ 12 → zMdA S1 (bDk b (b.2.2.1 i).1 (zMk (b.2.2.1 i).1 true) k) → zch oQ S S1 → AW p l e { frames := 4, cells := 0, slots := 0, locals := 91 } s m args below meth c D vwCl zKK dA A (ad, S) 6 S1 0 0 (vx_MQ below (zQc D vwCl zKK dA A ad S (fun v S' => v = some (.int (nI (zcnt (zU b (b.2.2.1 i).1) 12 0))) ∧ zMdA S' (sDec b i true) ∧ zch oQ S S')) (zXC D vwCl zKK dA A ad S (fun _ _ => False)) args s 0 0 A) 5 [(4, .int (nI k)), (3, .int (nI (zcnt (zU b (b.2.2.1 i).1) k 0))), (0, .ref 1000), (1, .int (nI i)), (2, .int (nI 1))] [] := by
    intro f
    induction f with
    | zero => intro k S1 h0; omega
    | succ f ih =>
    intro k S1 h0 hi9 hA1 hc1
    have hzl := zcnt_le (p := zU b (b.2.2.1 i).1) (k := k) (o := 0)
    refine z_iload (j := 0) X dM_finish_5 rfl ?_
    refine z_bipush (v := (nI 12)) X dM_finish_7 (by decide) ?_
    refine z_icmp_geN (tgt := 51) X dM_finish_9 (by decide) (by omega) (by omega) (fun c_9 => ?_) (fun c_9 => ?_)
    · refine z_iconst (v := (nI 0)) X dM_finish_51 (by decide) ?_
      refine z_istore (L' := [(4, .int (nI 0)), (3, .int (nI (zcnt (zU b (b.2.2.1 i).1) k 0))), (0, .ref 1000), (1, .int (nI i)), (2, .int (nI 1))]) X dM_finish_52 (by decide) rfl ?_
      have e4 : k = 12 := by omega
      subst e4
      refine z_loc [0, 1, 2, 3, 4] rfl ?_
      exact loop2 721 0 S1 (by omega) (by omega) (by rw [bF_0]; exact hA1) hc1
    · refine z_aload_n (j := 2) X dM_finish_12 rfl rfl ?_
      refine z_iload_n (j := 3) X dM_finish_13 rfl rfl ?_
      refine z_iload (j := 0) X dM_finish_14 rfl ?_
      have hk : k < 12 := by omega
      have hLk : mL S1 b.2.2.2.1 k (b.2.1 k) := by
        have h := hA1.2.2.2.1 k hk
        rw [bDk_at (Nat.le_refl _)] at h
        exact h
      refine z_callV (n := 2) (As := [.int (nI i), .int (nI k)]) (rest := []) X zG0_m (mM_takesPart l D dA hk hA1.1 hLk (hWa k hk).1 (hWa k hk).2 (hqb k hk)) (w_V X.2.2.2.2.1 lM_101 jM_takesPart sM_takesPart i_LogBrokerModel kM_takesPart rfl rfl (by decide +kernel) ⟨Nat.le_of_ble_eq_true rfl, Nat.le_of_ble_eq_true rfl⟩) rfl rfl rfl rfl rfl (Nat.le_of_ble_eq_true rfl) dM_finish_16 ⟨Nat.le_of_ble_eq_true rfl, Nat.le_of_ble_eq_true rfl⟩ (fun v S9 hp => ?_) (fun E S1 hx => hx.elim)
      obtain ⟨hS9, hp⟩ := hp
      have hS9 := hS9.symm
      subst hS9
      rcases hp with ⟨hv, hp⟩ | ⟨hv, hp⟩ <;> subst hv
      · refine z_if_eq (tgt := 45) X dM_finish_19 (by decide) (fun c_19 => absurd c_19 (by decide)) (fun c_19 => ?_)
        refine z_aload_n (j := 2) X dM_finish_22 rfl rfl ?_
        refine z_iload (j := 0) X dM_finish_23 rfl ?_
        refine z_iload_n (j := 4) X dM_finish_25 rfl rfl ?_
        refine z_if_eq (tgt := 33) X dM_finish_26 (by decide) (fun c_26 => absurd c_26 (by decide)) (fun c_26 => ?_)
        refine z_iconst (v := (nI 1)) X dM_finish_29 (by decide) ?_
        refine z_goto (tgt := 34) X dM_finish_30 (by decide) ?_
        refine z_iconst (v := (-1)) X dM_finish_34 (by decide) ?_
        refine z_iconst (v := (nI 0)) X dM_finish_35 (by decide) ?_
        refine z_iload_n (j := 3) X dM_finish_36 rfl rfl ?_
        have hu : zU b (b.2.2.1 i).1 k = true := hp
        have hx : zEx b k := Classical.byContradiction fun q9 => by rw [hE.u k hk q9] at hu; cases hu
        have hTk := hA1.2.2.1.2 k hx
        rw [bDk_at (Nat.le_refl _)] at hTk
        have hmq : (nI 1, (-1 : Int32), nI 0, (b.2.2.1 i).1, zWs 1 (b.2.2.1 i)) = (zMk (b.2.2.1 i).1 true) := zWs_mk (u := b.2.2.1 i) (c := true)
        refine z_callV (n := 5) (As := [.int (nI k), .int (nI 1), .int (-1), .int (nI 0), .int (nI i)]) (rest := []) X zG0_m (mM_write l D dA (w := 1) (u := b.2.2.1 i) hk hA1.1 hLk (hWa k hk).1 (hWa k hk).2 hTk.1 hTk.2.1 (hro k hx hu) (by decide) hi (hA1.2.2.2.2.1 i hi) (fun h => absurd h (by decide)) (by rw [hmq]; exact hmk)) (w_V X.2.2.2.2.1 lM_105 jM_write sM_write i_LogBrokerModel kM_write rfl rfl (by decide +kernel) ⟨Nat.le_of_ble_eq_true rfl, Nat.le_of_ble_eq_true rfl⟩) rfl rfl rfl rfl rfl (Nat.le_of_ble_eq_true rfl) dM_finish_37 ⟨Nat.le_of_ble_eq_true rfl, Nat.le_of_ble_eq_true rfl⟩ (fun v S9 hp => ?_) (fun E S1 hx => hx.elim)
        obtain ⟨hv, hL9, h229, h259, hcv⟩ := hp
        subst hv
        rw [hmq] at hL9 h259
        have hA9 : zMdA S9 (bDk b (b.2.2.1 i).1 (zMk (b.2.2.1 i).1 true) (k + 1)) := by
          rw [bDk_y hu]
          exact zMdA_wr hA1 (hcv.mono (fun n k h => oV_W h)) (by rw [bDk_at (Nat.le_refl _)]; exact hL9) h229 (by rw [bDk_at (Nat.le_refl _)]; exact h259) (hcv.2.2 _ _ (by unfold oV oL; omega)) (hcv.2.2 _ _ (by unfold oV oL; omega)) (hcv.2.2 _ _ (by unfold oV oL; omega))
        refine z_istore (L' := [(5, .int (nI ((b.2.1 k).2.1.2))), (4, .int (nI k)), (3, .int (nI (zcnt (zU b (b.2.2.1 i).1) k 0))), (0, .ref 1000), (1, .int (nI i)), (2, .int (nI 1))]) X dM_finish_40 (by decide) rfl ?_
        refine z_iinc (j := 2) (v := (nI (zcnt (zU b (b.2.2.1 i).1) k 0 + 1))) (L' := [(3, .int (nI (zcnt (zU b (b.2.2.1 i).1) k 0 + 1))), (5, .int (nI ((b.2.1 k).2.1.2))), (4, .int (nI k)), (0, .ref 1000), (1, .int (nI i)), (2, .int (nI 1))]) X dM_finish_42 rfl (nI_1 (zcnt (zU b (b.2.2.1 i).1) k 0)) (by decide) rfl ?_
        refine z_iinc (j := 2) (v := (nI (k + 1))) (L' := [(4, .int (nI (k + 1))), (3, .int (nI (zcnt (zU b (b.2.2.1 i).1) k 0 + 1))), (5, .int (nI ((b.2.1 k).2.1.2))), (0, .ref 1000), (1, .int (nI i)), (2, .int (nI 1))]) X dM_finish_45 rfl (nI_1 k) (by decide) rfl ?_
        refine z_goto (tgt := 5) X dM_finish_48 (by decide) ?_
        refine z_loc [0, 1, 3, 4, 5] rfl ?_
        rw [show zcnt (zU b (b.2.2.1 i).1) k 0 + 1 = zcnt (zU b (b.2.2.1 i).1) (k + 1) 0 by rw [zcnt_step, if_pos hu]]
        exact ih (k + 1) _ (by omega) (by omega) hA9 (hc1.tr (hcv.mono (fun n k h => oV_Q h)))
      · refine z_if_eq (tgt := 45) X dM_finish_19 (by decide) (fun c_19 => ?_) (fun c_19 => absurd c_19 (by decide))
        refine z_iinc (j := 0) (v := (nI (k + 1))) (L' := [(4, .int (nI (k + 1))), (3, .int (nI (zcnt (zU b (b.2.2.1 i).1) k 0))), (0, .ref 1000), (1, .int (nI i)), (2, .int (nI 1))]) X dM_finish_45 rfl (nI_1 k) (by decide) rfl ?_
        refine z_goto (tgt := 5) X dM_finish_48 (by decide) ?_
        refine z_loc [0, 1, 2, 3, 4] rfl ?_
        rw [show zcnt (zU b (b.2.2.1 i).1) k 0 = zcnt (zU b (b.2.2.1 i).1) (k + 1) 0 by rw [zcnt_step, if_neg (show ¬ zU b (b.2.2.1 i).1 k = true from hp)]; rfl]
        exact ih (k + 1) _ (by omega) (by omega) (by rw [bDk_n (show ¬ zU b (b.2.2.1 i).1 k = true from hp)]; exact hA1) hc1
  refine z_iconst (v := (nI 0)) X dM_finish_0 (by decide) ?_
  refine z_istore_n (L' := [(3, .int (nI 0)), (0, .ref 1000), (1, .int (nI i)), (2, .int (nI 1))]) X dM_finish_1 rfl (by decide) rfl ?_
  refine z_iconst (v := (nI 0)) X dM_finish_2 (by decide) ?_
  refine z_istore (L' := [(4, .int (nI 0)), (3, .int (nI 0)), (0, .ref 1000), (1, .int (nI i)), (2, .int (nI 1))]) X dM_finish_3 (by decide) rfl ?_
  exact loop1 13 0 S (by omega) (by omega) (by rw [bDk_0]; exact hA) zch.rf

set_option maxHeartbeats 600000 in
set_option maxRecDepth 100000 in
theorem mM_finishF (l : Launch) (D : va_G) (dA : Nat → ClassId) {S : zS} {b : zBr} {i : Nat} (hA : zMdA S b) (hI : zInv b) (hi : i < 6) (hq : ∃ k, k < 4 ∧ (b.2.2.1 i).1 = nI k) (hcur : zCur b i) (hroom : zRoom b (b.2.2.1 i).1 = true) : zMet l D vwCl zKK dA (zG0 D dA) yM_finish (Cond.code yM_finish cM_finish 6 (some .int) :: zTs) { frames := 4, cells := 0, slots := 0, locals := 91 } 0 0 [.ref 1000, .int (nI i), .int (nI 0)] S (fun v S' => v = some (.int (nI (zcnt (zU b (b.2.2.1 i).1) 12 0))) ∧ zMdA S' (sDec b i false) ∧ zch oQ S S') (fun _ _ => False) := by
  refine z_met (tys := ztys dA) (by decide) rfl zG0_K rfl (Nat.le_of_ble_eq_true rfl) (fun p e s m args below meth c A ad X hr hlocks hin hex => ?_)
  obtain ⟨hW, hE, hC, hi1, hi2, hGr⟩ := id hI
  have hWa : ∀ t, t < 12 → zLogW (b.2.1 t) ∧ ∀ o e, (b.2.1 t).2.2 o = some e → zEW e := fun t ht => zBrW_a hW hE ht
  have hmk : zEW (zMk (b.2.2.1 i).1 false) := zEW_mk hq (by first | exact Or.inl rfl | exact Or.inr rfl)
  have hro : ∀ t, zEx b t → zU b (b.2.2.1 i).1 t = true → (b.2.1 t).2.1.2 < 60 := fun t ht hu => zRoom_iff.mp hroom t ht.1 hu
  have hWD : ∀ k, k ≤ 12 → zBrW (bDk b (b.2.2.1 i).1 (zMk (b.2.2.1 i).1 false) k) := fun k hk => zBrW_Dk hW hro (fun t h1 h2 => hE.u t h1 h2) hmk k hk
  have hqb : ∀ t, t < 12 → ∀ o e, (b.2.1 t).2.2 o = some e → e.2.2.2.2 = nI 2 → (b.2.2.2.1 e.2.2.2.1.toNatClampNeg = nI i ↔ e.2.2.2.1 = (b.2.2.1 i).1) := fun t ht o e he _ => zHq hC (fun t ht => (hWa t ht).2) hi hq hcur ht he
  have hED : ∀ t, t < 12 → ¬ zEx b t → (bDk b (b.2.2.1 i).1 (zMk (b.2.2.1 i).1 false) 12).2.1 t = b.2.1 t := fun t ht hx => if_neg (fun h => by rw [hE.u t ht hx] at h; cases h.2)
  have hVB : ∀ t, t < 12 → ∀ o e, ((bDk b (b.2.2.1 i).1 (zMk (b.2.2.1 i).1 false) 12).2.1 t).2.2 o = some e → zEW e := fun t ht o e he => (bDk_ent he).elim (fun h => by rw [h]; exact hmk) (fun h => (hWa t ht).2 o e h)
  have hqB : ∀ t, t < 12 → ∀ o e, ((bDk b (b.2.2.1 i).1 (zMk (b.2.2.1 i).1 false) 12).2.1 t).2.2 o = some e → e.2.2.2.2 = nI 2 → (b.2.2.2.1 e.2.2.2.1.toNatClampNeg = nI i ↔ e.2.2.2.1 = (b.2.2.1 i).1) := fun t ht o e he hs => (bDk_ent he).elim (fun h => by rw [h] at hs; exact absurd (show nI 0 = nI 2 from hs) (by decide)) (fun h => hqb t ht o e h hs)
  have hno : ∀ t, t < 12 → ∀ o, 60 ≤ o → ((bDk b (b.2.2.1 i).1 (zMk (b.2.2.1 i).1 false) 12).2.1 t).2.2 o = none := fun t ht o ho => by
    by_cases hx : zEx b t
    · have h1 := (hWD 12 (Nat.le_refl _)).2.1 t hx
      exact h1.2.2.2.2.2.2.2.1 o (Nat.le_trans h1.2.2.2.2.2.1 ho)
    · rw [hED t ht hx]; exact hE.n t ht hx o
  have loop2 : ∀ (f j : Nat) (S2 : zS), 720 - j < f → j ≤ 720 → zMdA S2 (bF (bDk b (b.2.2.1 i).1 (zMk (b.2.2.1 i).1 false) 12) (b.2.2.1 i).1 (nI 1) j) → zch oQ S S2 → AW p l e { frames := 4, cells := 0, slots := 0, locals := 91 } s m args below meth c D vwCl zKK dA A (ad, S) 6 S2 0 0 (vx_MQ below (zQc D vwCl zKK dA A ad S (fun v S' => v = some (.int (nI (zcnt (zU b (b.2.2.1 i).1) 12 0))) ∧ zMdA S' (sDec b i false) ∧ zch oQ S S')) (zXC D vwCl zKK dA A ad S (fun _ _ => False)) args s 0 0 A) 54 [(4, .int (nI j)), (3, .int (nI (zcnt (zU b (b.2.2.1 i).1) 12 0))), (0, .ref 1000), (1, .int (nI i)), (2, .int (nI 0))] [] := by
    intro f
    induction f with
    | zero => intro j S2 h0; omega
    | succ f ih =>
    intro j S2 h0 hi9 hA2 hc2
    refine z_iload (j := 0) X dM_finish_54 rfl ?_
    refine z_sipush (v := (nI 720)) X dM_finish_56 (by decide) ?_
    refine z_icmp_geN (tgt := 116) X dM_finish_59 (by decide) (by omega) (by omega) (fun c_59 => ?_) (fun c_59 => ?_)
    · refine z_aload_n (j := 2) X dM_finish_116 rfl rfl ?_
      refine z_dup X dM_finish_117 rfl ?_
      refine z_geti (C := RM) (T := TM) (N := 28) (k := 24) X (w_in inM) rfl rfl rfl (by decide) (w_m lM_109) rfl rfl dM_finish_118 (hv := rfl) ?_
      refine z_iload_n (j := 1) X dM_finish_121 rfl rfl ?_
      refine z_iadd X dM_finish_122 ?_
      refine z_puti (C := RM) (T := TM) (N := 28) (k := 24) X (w_in inM) rfl rfl rfl (by decide) (w_m lM_109) rfl tyM tyM_ok nmM rfl rfl (ty := .int) (by decide +kernel) rfl rfl dM_finish_123 ?_
      refine z_aload_n (j := 2) X dM_finish_126 rfl rfl ?_
      refine z_getr (C := RM) (T := TM) (N := 28) (k := 15) X (w_in inM) rfl rfl rfl (by decide) (w_m lM_56) rfl rfl (rp_i (hA2.1.2 15 (by decide))) dM_finish_127 ?_
      refine z_iload_n (j := 3) X dM_finish_130 rfl rfl ?_
      refine z_iconst (v := (nI 0)) X dM_finish_131 (by decide) ?_
      refine z_zast (t0 := 1) X rfl rfl (by omega) (by decide) (Or.inl rfl) dM_finish_132 ?_
      refine z_iload_n (j := 1) X dM_finish_133 rfl rfl ?_
      refine z_iret X hlocks hr dM_finish_134 (by omega) (by omega) ?_
      have e4 : j = 720 := by omega
      subst e4
      rw [bF_end hno] at hA2
      have hN2 := hA2.2.1
      have hcm : zch oN S2 (zsi S2 1000 24 (S2.2.1 1000 24 + nI (zcnt (zU b (b.2.2.1 i).1) 12 0))) := zch.i ⟨rfl, by omega, by omega⟩
      have hA3 : zMdA (zsi S2 1000 24 (S2.2.1 1000 24 + nI (zcnt (zU b (b.2.2.1 i).1) 12 0))) (bSk (bM (bDk b (b.2.2.1 i).1 (zMk (b.2.2.1 i).1 false) 12) (b.2.2.2.2.2.2.2.2.1 + nI (zcnt (zU b (b.2.2.1 i).1) 12 0))) (b.2.2.1 i).1 (nI 1) 12) := by
        have h := zMdA_N (c := ((bDk b (b.2.2.1 i).1 (zMk (b.2.2.1 i).1 false) 12).2.2.2.2.2.2.1, (bDk b (b.2.2.1 i).1 (zMk (b.2.2.1 i).1 false) 12).2.2.2.2.2.2.2.1, b.2.2.2.2.2.2.2.2.1 + nI (zcnt (zU b (b.2.2.1 i).1) 12 0), (bDk b (b.2.2.1 i).1 (zMk (b.2.2.1 i).1 false) 12).2.2.2.2.2.2.2.2.2.1, (bDk b (b.2.2.1 i).1 (zMk (b.2.2.1 i).1 false) 12).2.2.2.2.2.2.2.2.2.2)) hA2 hcm ⟨rd_i (Or.inr (by decide)) hN2.1, rd_i (Or.inr (by decide)) hN2.2.1, rd_s.trans (by rw [hN2.2.2.1]; rfl), rd_i (Or.inr (by decide)) hN2.2.2.2.1, rd_i (Or.inr (by decide)) hN2.2.2.2.2⟩
        exact h
      obtain ⟨s1, s2, s3, s4⟩ := hA3.2.2.2.2.1 i hi
      refine ⟨rfl, ?_, (hc2.tr (hcm.mono (fun n k h => by unfold oN at h; unfold oQ; omega))).tr (zch.i (by unfold oQ; omega))⟩
      exact zMdA_S hA3 (zch.i (Or.inl ⟨Or.inr rfl, rfl⟩)) ⟨rd_i (Or.inl (by omega)) s1, rd_s, fun t ht => rd_i (Or.inl (by omega)) (s3 t ht), fun k hk => rd_i (Or.inl (by omega)) (s4 k hk)⟩
    · obtain ⟨t, o, ht, ho, rfl⟩ : ∃ t o, t < 12 ∧ o < 60 ∧ j = t * 60 + o := ⟨j / 60, j % 60, by omega, by omega, by omega⟩
      have hlo := (hA2.2.2.2.1 t ht).2.2 o ho
      rw [bF_at (Nat.le_refl _)] at hlo
      rcases he : ((bDk b (b.2.2.1 i).1 (zMk (b.2.2.1 i).1 false) 12).2.1 t).2.2 o with _ | r <;> rw [he] at hlo
      · refine z_aload_n (j := 2) X dM_finish_62 rfl rfl ?_
        refine z_getr (C := RM) (T := TM) (N := 28) (k := 6) X (w_in inM) rfl rfl rfl (by decide) (w_m lM_29) rfl rfl (hA2.1.2 6 (by decide)) dM_finish_63 ?_
        refine z_iload (j := 0) X dM_finish_66 rfl ?_
        refine z_iald (t0 := 0) X rfl rfl (by omega) (by decide) dM_finish_68 (hv := hlo) ?_
        refine z_if_ne (tgt := 110) X dM_finish_69 (by decide) (fun c_69 => ?_) (fun c_69 => absurd c_69 (by decide))
        refine z_iinc (j := 0) (v := (nI (t * 60 + o + 1))) (L' := [(4, .int (nI (t * 60 + o + 1))), (3, .int (nI (zcnt (zU b (b.2.2.1 i).1) 12 0))), (0, .ref 1000), (1, .int (nI i)), (2, .int (nI 0))]) X dM_finish_110 rfl (nI_1 (t * 60 + o)) (by decide) rfl ?_
        refine z_goto (tgt := 54) X dM_finish_113 (by decide) ?_
        exact ih (t * 60 + o + 1) _ (by omega) (by omega) (bF_n ho hA2 (zSet_same (fun r h => by rw [he] at h; cases h))) hc2
      · refine z_aload_n (j := 2) X dM_finish_62 rfl rfl ?_
        refine z_getr (C := RM) (T := TM) (N := 28) (k := 6) X (w_in inM) rfl rfl rfl (by decide) (w_m lM_29) rfl rfl (hA2.1.2 6 (by decide)) dM_finish_63 ?_
        refine z_iload (j := 0) X dM_finish_66 rfl ?_
        refine z_iald (t0 := 0) X rfl rfl (by omega) (by decide) dM_finish_68 (hv := hlo.1) ?_
        refine z_if_ne (tgt := 110) X dM_finish_69 (by decide) (fun c_69 => ?_) (fun c_69 => ?_)
        · refine z_iinc (j := 0) (v := (nI (t * 60 + o + 1))) (L' := [(4, .int (nI (t * 60 + o + 1))), (3, .int (nI (zcnt (zU b (b.2.2.1 i).1) 12 0))), (0, .ref 1000), (1, .int (nI i)), (2, .int (nI 0))]) X dM_finish_110 rfl (nI_1 (t * 60 + o)) (by decide) rfl ?_
          refine z_goto (tgt := 54) X dM_finish_113 (by decide) ?_
          exact ih (t * 60 + o + 1) _ (by omega) (by omega) (bF_n ho hA2 (zSet_same (fun r9 h q9 => by
            rw [he] at h
            cases h
            first | exact c_69 (((hVB t ht o r he).2.2.2.2 q9.1).trans nI_0) | exact c_80 q9.1 | exact c_91 ((hqB t ht o r he q9.1).mpr q9.2)))) hc2
        · refine z_aload_n (j := 2) X dM_finish_72 rfl rfl ?_
          refine z_getr (C := RM) (T := TM) (N := 28) (k := 10) X (w_in inM) rfl rfl rfl (by decide) (w_m lM_41) rfl rfl (hA2.1.2 10 (by decide)) dM_finish_73 ?_
          refine z_iload (j := 0) X dM_finish_76 rfl ?_
          refine z_iald (t0 := 0) X rfl rfl (by omega) (by decide) dM_finish_78 (hv := hlo.2.2.2.2.1) ?_
          refine z_iconst (v := (nI 2)) X dM_finish_79 (by decide) ?_
          refine z_icmp_ne (tgt := 110) X dM_finish_80 (by decide) (fun c_80 => ?_) (fun c_80 => ?_)
          · refine z_iinc (j := 0) (v := (nI (t * 60 + o + 1))) (L' := [(4, .int (nI (t * 60 + o + 1))), (3, .int (nI (zcnt (zU b (b.2.2.1 i).1) 12 0))), (0, .ref 1000), (1, .int (nI i)), (2, .int (nI 0))]) X dM_finish_110 rfl (nI_1 (t * 60 + o)) (by decide) rfl ?_
            refine z_goto (tgt := 54) X dM_finish_113 (by decide) ?_
            exact ih (t * 60 + o + 1) _ (by omega) (by omega) (bF_n ho hA2 (zSet_same (fun r9 h q9 => by
              rw [he] at h
              cases h
              first | exact c_69 (((hVB t ht o r he).2.2.2.2 q9.1).trans nI_0) | exact c_80 q9.1 | exact c_91 ((hqB t ht o r he q9.1).mpr q9.2)))) hc2
          · refine z_aload_n (j := 2) X dM_finish_83 rfl rfl ?_
            refine z_getr (C := RM) (T := TM) (N := 28) (k := 11) X (w_in inM) rfl rfl rfl (by decide) (w_m lM_44) rfl rfl (hA2.1.2 11 (by decide)) dM_finish_84 ?_
            refine z_iload (j := 0) X dM_finish_87 rfl ?_
            refine z_iald (t0 := 0) X rfl rfl (by omega) (by decide) dM_finish_89 (hv := (hlo.2.2.2.2.2 c_80)) ?_
            refine z_iload_n (j := 3) X dM_finish_90 rfl rfl ?_
            refine z_icmp_ne (tgt := 110) X dM_finish_91 (by decide) (fun c_91 => ?_) (fun c_91 => ?_)
            · refine z_iinc (j := 0) (v := (nI (t * 60 + o + 1))) (L' := [(4, .int (nI (t * 60 + o + 1))), (3, .int (nI (zcnt (zU b (b.2.2.1 i).1) 12 0))), (0, .ref 1000), (1, .int (nI i)), (2, .int (nI 0))]) X dM_finish_110 rfl (nI_1 (t * 60 + o)) (by decide) rfl ?_
              refine z_goto (tgt := 54) X dM_finish_113 (by decide) ?_
              exact ih (t * 60 + o + 1) _ (by omega) (by omega) (bF_n ho hA2 (zSet_same (fun r9 h q9 => by
                rw [he] at h
                cases h
                first | exact c_69 (((hVB t ht o r he).2.2.2.2 q9.1).trans nI_0) | exact c_80 q9.1 | exact c_91 ((hqB t ht o r he q9.1).mpr q9.2)))) hc2
            · refine z_aload_n (j := 2) X dM_finish_94 rfl rfl ?_
              refine z_getr (C := RM) (T := TM) (N := 28) (k := 10) X (w_in inM) rfl rfl rfl (by decide) (w_m lM_41) rfl rfl (hA2.1.2 10 (by decide)) dM_finish_95 ?_
              refine z_iload (j := 0) X dM_finish_98 rfl ?_
              refine z_iload_n (j := 4) X dM_finish_100 rfl rfl ?_
              refine z_if_eq (tgt := 108) X dM_finish_101 (by decide) (fun c_101 => ?_) (fun c_101 => absurd c_101 (by decide))
              refine z_iconst (v := (nI 1)) X dM_finish_108 (by decide) ?_
              refine z_iast (t0 := 0) X rfl rfl (by omega) (by decide) dM_finish_109 ?_
              refine z_iinc (j := 0) (v := (nI (t * 60 + o + 1))) (L' := [(4, .int (nI (t * 60 + o + 1))), (3, .int (nI (zcnt (zU b (b.2.2.1 i).1) 12 0))), (0, .ref 1000), (1, .int (nI i)), (2, .int (nI 0))]) X dM_finish_110 rfl (nI_1 (t * 60 + o)) (by decide) rfl ?_
              refine z_goto (tgt := 54) X dM_finish_113 (by decide) ?_
              exact ih (t * 60 + o + 1) _ (by omega) (by omega) (bF_y ht ho hA2 he ⟨c_80, (hqB t ht o r he c_80).mp c_91⟩ (by decide)) (hc2.tr (zch.i (by unfold oQ; omega)))
  have loop1 : ∀ (f k : Nat) (S1 : zS), 12 - k < f → k ≤ 12 → zMdA S1 (bDk b (b.2.2.1 i).1 (zMk (b.2.2.1 i).1 false) k) → zch oQ S S1 → AW p l e { frames := 4, cells := 0, slots := 0, locals := 91 } s m args below meth c D vwCl zKK dA A (ad, S) 6 S1 0 0 (vx_MQ below (zQc D vwCl zKK dA A ad S (fun v S' => v = some (.int (nI (zcnt (zU b (b.2.2.1 i).1) 12 0))) ∧ zMdA S' (sDec b i false) ∧ zch oQ S S')) (zXC D vwCl zKK dA A ad S (fun _ _ => False)) args s 0 0 A) 5 [(4, .int (nI k)), (3, .int (nI (zcnt (zU b (b.2.2.1 i).1) k 0))), (0, .ref 1000), (1, .int (nI i)), (2, .int (nI 0))] [] := by
    intro f
    induction f with
    | zero => intro k S1 h0; omega
    | succ f ih =>
    intro k S1 h0 hi9 hA1 hc1
    have hzl := zcnt_le (p := zU b (b.2.2.1 i).1) (k := k) (o := 0)
    refine z_iload (j := 0) X dM_finish_5 rfl ?_
    refine z_bipush (v := (nI 12)) X dM_finish_7 (by decide) ?_
    refine z_icmp_geN (tgt := 51) X dM_finish_9 (by decide) (by omega) (by omega) (fun c_9 => ?_) (fun c_9 => ?_)
    · refine z_iconst (v := (nI 0)) X dM_finish_51 (by decide) ?_
      refine z_istore (L' := [(4, .int (nI 0)), (3, .int (nI (zcnt (zU b (b.2.2.1 i).1) k 0))), (0, .ref 1000), (1, .int (nI i)), (2, .int (nI 0))]) X dM_finish_52 (by decide) rfl ?_
      have e4 : k = 12 := by omega
      subst e4
      refine z_loc [0, 1, 2, 3, 4] rfl ?_
      exact loop2 721 0 S1 (by omega) (by omega) (by rw [bF_0]; exact hA1) hc1
    · refine z_aload_n (j := 2) X dM_finish_12 rfl rfl ?_
      refine z_iload_n (j := 3) X dM_finish_13 rfl rfl ?_
      refine z_iload (j := 0) X dM_finish_14 rfl ?_
      have hk : k < 12 := by omega
      have hLk : mL S1 b.2.2.2.1 k (b.2.1 k) := by
        have h := hA1.2.2.2.1 k hk
        rw [bDk_at (Nat.le_refl _)] at h
        exact h
      refine z_callV (n := 2) (As := [.int (nI i), .int (nI k)]) (rest := []) X zG0_m (mM_takesPart l D dA hk hA1.1 hLk (hWa k hk).1 (hWa k hk).2 (hqb k hk)) (w_V X.2.2.2.2.1 lM_101 jM_takesPart sM_takesPart i_LogBrokerModel kM_takesPart rfl rfl (by decide +kernel) ⟨Nat.le_of_ble_eq_true rfl, Nat.le_of_ble_eq_true rfl⟩) rfl rfl rfl rfl rfl (Nat.le_of_ble_eq_true rfl) dM_finish_16 ⟨Nat.le_of_ble_eq_true rfl, Nat.le_of_ble_eq_true rfl⟩ (fun v S9 hp => ?_) (fun E S1 hx => hx.elim)
      obtain ⟨hS9, hp⟩ := hp
      have hS9 := hS9.symm
      subst hS9
      rcases hp with ⟨hv, hp⟩ | ⟨hv, hp⟩ <;> subst hv
      · refine z_if_eq (tgt := 45) X dM_finish_19 (by decide) (fun c_19 => absurd c_19 (by decide)) (fun c_19 => ?_)
        refine z_aload_n (j := 2) X dM_finish_22 rfl rfl ?_
        refine z_iload (j := 0) X dM_finish_23 rfl ?_
        refine z_iload_n (j := 4) X dM_finish_25 rfl rfl ?_
        refine z_if_eq (tgt := 33) X dM_finish_26 (by decide) (fun c_26 => ?_) (fun c_26 => absurd c_26 (by decide))
        refine z_iconst (v := (nI 2)) X dM_finish_33 (by decide) ?_
        refine z_iconst (v := (-1)) X dM_finish_34 (by decide) ?_
        refine z_iconst (v := (nI 0)) X dM_finish_35 (by decide) ?_
        refine z_iload_n (j := 3) X dM_finish_36 rfl rfl ?_
        have hu : zU b (b.2.2.1 i).1 k = true := hp
        have hx : zEx b k := Classical.byContradiction fun q9 => by rw [hE.u k hk q9] at hu; cases hu
        have hTk := hA1.2.2.1.2 k hx
        rw [bDk_at (Nat.le_refl _)] at hTk
        have hmq : (nI 2, (-1 : Int32), nI 0, (b.2.2.1 i).1, zWs 2 (b.2.2.1 i)) = (zMk (b.2.2.1 i).1 false) := zWs_mk (u := b.2.2.1 i) (c := false)
        refine z_callV (n := 5) (As := [.int (nI k), .int (nI 2), .int (-1), .int (nI 0), .int (nI i)]) (rest := []) X zG0_m (mM_write l D dA (w := 2) (u := b.2.2.1 i) hk hA1.1 hLk (hWa k hk).1 (hWa k hk).2 hTk.1 hTk.2.1 (hro k hx hu) (by decide) hi (hA1.2.2.2.2.1 i hi) (fun h => absurd h (by decide)) (by rw [hmq]; exact hmk)) (w_V X.2.2.2.2.1 lM_105 jM_write sM_write i_LogBrokerModel kM_write rfl rfl (by decide +kernel) ⟨Nat.le_of_ble_eq_true rfl, Nat.le_of_ble_eq_true rfl⟩) rfl rfl rfl rfl rfl (Nat.le_of_ble_eq_true rfl) dM_finish_37 ⟨Nat.le_of_ble_eq_true rfl, Nat.le_of_ble_eq_true rfl⟩ (fun v S9 hp => ?_) (fun E S1 hx => hx.elim)
        obtain ⟨hv, hL9, h229, h259, hcv⟩ := hp
        subst hv
        rw [hmq] at hL9 h259
        have hA9 : zMdA S9 (bDk b (b.2.2.1 i).1 (zMk (b.2.2.1 i).1 false) (k + 1)) := by
          rw [bDk_y hu]
          exact zMdA_wr hA1 (hcv.mono (fun n k h => oV_W h)) (by rw [bDk_at (Nat.le_refl _)]; exact hL9) h229 (by rw [bDk_at (Nat.le_refl _)]; exact h259) (hcv.2.2 _ _ (by unfold oV oL; omega)) (hcv.2.2 _ _ (by unfold oV oL; omega)) (hcv.2.2 _ _ (by unfold oV oL; omega))
        refine z_istore (L' := [(5, .int (nI ((b.2.1 k).2.1.2))), (4, .int (nI k)), (3, .int (nI (zcnt (zU b (b.2.2.1 i).1) k 0))), (0, .ref 1000), (1, .int (nI i)), (2, .int (nI 0))]) X dM_finish_40 (by decide) rfl ?_
        refine z_iinc (j := 2) (v := (nI (zcnt (zU b (b.2.2.1 i).1) k 0 + 1))) (L' := [(3, .int (nI (zcnt (zU b (b.2.2.1 i).1) k 0 + 1))), (5, .int (nI ((b.2.1 k).2.1.2))), (4, .int (nI k)), (0, .ref 1000), (1, .int (nI i)), (2, .int (nI 0))]) X dM_finish_42 rfl (nI_1 (zcnt (zU b (b.2.2.1 i).1) k 0)) (by decide) rfl ?_
        refine z_iinc (j := 2) (v := (nI (k + 1))) (L' := [(4, .int (nI (k + 1))), (3, .int (nI (zcnt (zU b (b.2.2.1 i).1) k 0 + 1))), (5, .int (nI ((b.2.1 k).2.1.2))), (0, .ref 1000), (1, .int (nI i)), (2, .int (nI 0))]) X dM_finish_45 rfl (nI_1 k) (by decide) rfl ?_
        refine z_goto (tgt := 5) X dM_finish_48 (by decide) ?_
        refine z_loc [0, 1, 3, 4, 5] rfl ?_
        rw [show zcnt (zU b (b.2.2.1 i).1) k 0 + 1 = zcnt (zU b (b.2.2.1 i).1) (k + 1) 0 by rw [zcnt_step, if_pos hu]]
        exact ih (k + 1) _ (by omega) (by omega) hA9 (hc1.tr (hcv.mono (fun n k h => oV_Q h)))
      · refine z_if_eq (tgt := 45) X dM_finish_19 (by decide) (fun c_19 => ?_) (fun c_19 => absurd c_19 (by decide))
        refine z_iinc (j := 0) (v := (nI (k + 1))) (L' := [(4, .int (nI (k + 1))), (3, .int (nI (zcnt (zU b (b.2.2.1 i).1) k 0))), (0, .ref 1000), (1, .int (nI i)), (2, .int (nI 0))]) X dM_finish_45 rfl (nI_1 k) (by decide) rfl ?_
        refine z_goto (tgt := 5) X dM_finish_48 (by decide) ?_
        refine z_loc [0, 1, 2, 3, 4] rfl ?_
        rw [show zcnt (zU b (b.2.2.1 i).1) k 0 = zcnt (zU b (b.2.2.1 i).1) (k + 1) 0 by rw [zcnt_step, if_neg (show ¬ zU b (b.2.2.1 i).1 k = true from hp)]; rfl]
        exact ih (k + 1) _ (by omega) (by omega) (by rw [bDk_n (show ¬ zU b (b.2.2.1 i).1 k = true from hp)]; exact hA1) hc1
  refine z_iconst (v := (nI 0)) X dM_finish_0 (by decide) ?_
  refine z_istore_n (L' := [(3, .int (nI 0)), (0, .ref 1000), (1, .int (nI i)), (2, .int (nI 0))]) X dM_finish_1 rfl (by decide) rfl ?_
  refine z_iconst (v := (nI 0)) X dM_finish_2 (by decide) ?_
  refine z_istore (L' := [(4, .int (nI 0)), (3, .int (nI 0)), (0, .ref 1000), (1, .int (nI i)), (2, .int (nI 0))]) X dM_finish_3 (by decide) rfl ?_
  exact loop1 13 0 S (by omega) (by omega) (by rw [bDk_0]; exact hA) zch.rf

theorem mM_finish (l : Launch) (D : va_G) (dA : Nat → ClassId) {S : zS} {b : zBr} {i : Nat} (c : Bool) (hA : zMdA S b) (hI : zInv b) (hi : i < 6) (hq : ∃ k, k < 4 ∧ (b.2.2.1 i).1 = nI k) (hcur : zCur b i) (hr : zRoom b (b.2.2.1 i).1 = true) : zMet l D vwCl zKK dA (zG0 D dA) yM_finish (Cond.code yM_finish cM_finish 6 (some .int) :: zTs) { frames := 4, cells := 0, slots := 0, locals := 91 } 0 0 [.ref 1000, .int (nI i), .int (zB c)] S (fun v S' => v = some (.int (nI (zcnt (zU b (b.2.2.1 i).1) 12 0))) ∧ zMdA S' (sDec b i c) ∧ zch oQ S S') (fun _ _ => False) := by
  cases c with
  | true => exact mM_finishT l D dA hA hI hi hq hcur hr
  | false => exact mM_finishF l D dA hA hI hi hq hcur hr