/-! CONTRACTS of LogBroker$Group; joining, leaving (rows by program) -/
set_option maxHeartbeats 600000 in
set_option maxRecDepth 100000 in
theorem mH_membersFor (l : Launch) (D : va_G) (dA : Nat → ClassId) {S : zS} {i : Nat} {u : zGr} {t : Nat} (hi : i < 2) (hO : zGrA S i u) : zMet l D vwCl zKK dA (zG0 D dA) yH_membersFor (Cond.code yH_membersFor cH_membersFor 4 (some .int) :: zTs) { frames := 0, cells := 0, slots := 0, locals := 0 } 0 0 [.ref (40 + i), .int (nI t)] S (fun v S' => v = some (.int (nI (zRk u.2.1 t 4))) ∧ S' = S) (fun _ _ => False) := by
  refine z_met (tys := ztys dA) (by decide) rfl zG0_K rfl (Nat.le_of_ble_eq_true rfl) (fun p e s m args below meth c A ad X hr hlocks hin hex => ?_)
  have loop : ∀ (f k : Nat), 4 - k < f → k ≤ 4 → AW p l e { frames := 0, cells := 0, slots := 0, locals := 0 } s m args below meth c D vwCl zKK dA A (ad, S) 4 S 0 0 (vx_MQ below (zQc D vwCl zKK dA A ad S (fun v S' => v = some (.int (nI (zRk u.2.1 t 4))) ∧ S' = S)) (zXC D vwCl zKK dA A ad S (fun _ _ => False)) args s 0 0 A) 4 [(3, .int (nI k)), (2, .int (nI (zRk u.2.1 t k))), (0, .ref (40 + i)), (1, .int (nI t))] [] := by
    intro f
    induction f with
    | zero => intro k h0; omega
    | succ f ih =>
    intro k h0 hk4
    have hrk := zRk_le (k := u.2.1) (t := t) (m := k)
    refine z_iload_n (j := 0) X dH_membersFor_4 rfl rfl ?_
    refine z_iconst (v := (nI 4)) X dH_membersFor_5 (by decide) ?_
    refine z_icmp_geN (tgt := 28) X dH_membersFor_6 (by decide) (by omega) (by omega) (fun c_6 => ?_) (fun c_6 => ?_)
    · refine z_iload_n (j := 1) X dH_membersFor_28 rfl rfl ?_
      refine z_iret X hlocks hr dH_membersFor_29 (by omega) (by omega) ?_
      have e4 : k = 4 := by omega
      subst e4
      exact ⟨rfl, rfl⟩
    · refine z_aload_n (j := 2) X dH_membersFor_9 rfl rfl ?_
      refine z_getr (C := RH) (T := TH) (N := 5) (k := 1) X (w_in inH) rfl rfl (kd_H hi) (by decide) (w_m lH_9) rfl rfl hO.2.2.2.2.2.2.1 dH_membersFor_10 ?_
      refine z_iload_n (j := 0) X dH_membersFor_13 rfl rfl ?_
      refine z_iald (t0 := 0) X (kd_HT hi) rfl (by omega) (by decide) dH_membersFor_14 (hv := (hO.2.2.2.2.2.2.2.2.2.2.1 k (by omega))) ?_
      refine z_iload_n (j := 3) X dH_membersFor_15 rfl rfl ?_
      refine z_icmp_ne (tgt := 22) X dH_membersFor_16 (by decide) (fun c_16 => ?_) (fun c_16 => ?_)
      · refine z_iinc (j := 0) (v := (nI (k + 1))) (L' := [(3, .int (nI (k + 1))), (2, .int (nI (zRk u.2.1 t k))), (0, .ref (40 + i)), (1, .int (nI t))]) X dH_membersFor_22 rfl (nI_1 k) (by decide) rfl ?_
        refine z_goto (tgt := 4) X dH_membersFor_25 (by decide) ?_
        refine z_loc [0, 1, 2, 3] rfl ?_
        have e9 := ih (k + 1) (by omega) (by omega)
        rw [zRk_n c_16] at e9
        exact e9
      · refine z_iinc (j := 1) (v := (nI (zRk u.2.1 t k + 1))) (L' := [(2, .int (nI (zRk u.2.1 t k + 1))), (3, .int (nI k)), (0, .ref (40 + i)), (1, .int (nI t))]) X dH_membersFor_19 rfl (nI_1 (zRk u.2.1 t k)) (by decide) rfl ?_
        refine z_iinc (j := 1) (v := (nI (k + 1))) (L' := [(3, .int (nI (k + 1))), (2, .int (nI (zRk u.2.1 t k + 1))), (0, .ref (40 + i)), (1, .int (nI t))]) X dH_membersFor_22 rfl (nI_1 k) (by decide) rfl ?_
        refine z_goto (tgt := 4) X dH_membersFor_25 (by decide) ?_
        refine z_loc [0, 1, 2, 3] rfl ?_
        have e9 := ih (k + 1) (by omega) (by omega)
        rw [zRk_y c_16] at e9
        exact e9
  refine z_iconst (v := (nI 0)) X dH_membersFor_0 (by decide) ?_
  refine z_istore_n (L' := [(2, .int (nI 0)), (0, .ref (40 + i)), (1, .int (nI t))]) X dH_membersFor_1 rfl (by decide) rfl ?_
  refine z_iconst (v := (nI 0)) X dH_membersFor_2 (by decide) ?_
  refine z_istore_n (L' := [(3, .int (nI 0)), (2, .int (nI 0)), (0, .ref (40 + i)), (1, .int (nI t))]) X dH_membersFor_3 rfl (by decide) rfl ?_
  exact loop 5 0 (by omega) (by omega)

set_option maxHeartbeats 600000 in
set_option maxRecDepth 100000 in
theorem mH_shareOut (l : Launch) (D : va_G) (dA : Nat → ClassId) {S : zS} {i : Nat} {u : zGr} {t n : Nat} (hi : i < 2) (hO : zGrA S i u) (ht : t < 3) (hn : n ≤ 3) (hpre : ∀ j, j < 12 → j / 4 = t → u.2.2.1 j = -1) : zMet l D vwCl zKK dA (zG0 D dA) yH_shareOut (Cond.code yH_shareOut cH_shareOut 8 none :: zTs) { frames := 1, cells := 0, slots := 0, locals := 23 } 0 0 [.ref (40 + i), .int (nI t), .int (nI n)] S (fun v S' => v = none ∧ zGrA S' i (u.1, u.2.1, (fun j => if j / 4 = t then zOI (zWho u.2.1 n j) else u.2.2.1 j), u.2.2.2) ∧ zfr (zOwnH i) S S' ∧ S'.1 = S.1) (fun _ _ => False) := by
  refine z_met (tys := ztys dA) (by decide) rfl zG0_K rfl (Nat.le_of_ble_eq_true rfl) (fun p e s m args below meth c A ad X hr hlocks hin hex => ?_)
  have hrk4 := zRk_le (k := u.2.1) (t := t) (m := 4)
  have loop : 0 < (zRk u.2.1 t 4) → ∀ (f k : Nat) (S1 : zS), 4 - k < f → k ≤ 4 → zGrA S1 i (u.1, u.2.1, (fun j => if j / 4 = t then zOI (zfind (zWhoP u.2.1 n t j) k 0) else u.2.2.1 j), u.2.2.2) → zfr (zOwnH i) S S1 → S1.1 = S.1 → AW p l e { frames := 1, cells := 0, slots := 0, locals := 23 } s m args below meth c D vwCl zKK dA A (ad, S) 8 S1 0 0 (vx_MQ below (zQc D vwCl zKK dA A ad S (fun v S' => v = none ∧ zGrA S' i (u.1, u.2.1, (fun j => if j / 4 = t then zOI (zWho u.2.1 n j) else u.2.2.1 j), u.2.2.2) ∧ zfr (zOwnH i) S S' ∧ S'.1 = S.1)) (zXC D vwCl zKK dA A ad S (fun _ _ => False)) args s 0 0 A) 24 [(6, .int (nI k)), (5, .int (nI (t * 4 + zNxt n (zRk u.2.1 t 4) (zRk u.2.1 t k)))), (4, .int (zLa n (zRk u.2.1 t 4) (zRk u.2.1 t k))), (3, .int (nI (zRk u.2.1 t 4))), (0, .ref (40 + i)), (1, .int (nI t)), (2, .int (nI n))] [] := by
    intro hc0 f
    induction f with
    | zero => intro k S1 h0; omega
    | succ f ih =>
    intro k S1 h0 hk4 hG1 hfr1 hd1
    have hrk := zRk_le (k := u.2.1) (t := t) (m := k)
    have hnk : zNxt n (zRk u.2.1 t 4) (zRk u.2.1 t k) ≤ 30 := Nat.le_trans (Nat.add_le_add (Nat.mul_le_mul hrk (Nat.div_le_self _ _)) (Nat.min_le_left _ _)) (by have : k * n ≤ 4 * 3 := Nat.mul_le_mul hk4 hn; omega)
    refine z_iload (j := 0) X dH_shareOut_24 rfl ?_
    refine z_iconst (v := (nI 4)) X dH_shareOut_26 (by decide) ?_
    refine z_icmp_geN (tgt := 91) X dH_shareOut_27 (by decide) (by omega) (by omega) (fun c_27 => ?_) (fun c_27 => ?_)
    · refine z_vret X hlocks hr dH_shareOut_91 (by omega) (by omega) ?_
      have e4 : k = 4 := by omega
      subst e4
      exact ⟨rfl, zGrA_eq hG1 rfl rfl (fun j hj => by
        show (if j / 4 = t then zOI (zfind (zWhoP u.2.1 n (j / 4) j) 4 0) else u.2.2.1 j) = if j / 4 = t then _ else _
        by_cases e6 : j / 4 = t
        · rw [if_pos e6, if_pos e6, e6]
        · rw [if_neg e6, if_neg e6]) rfl, hfr1, hd1⟩
    · refine z_aload_n (j := 4) X dH_shareOut_30 rfl rfl ?_
      refine z_getr (C := RH) (T := TH) (N := 5) (k := 1) X (w_in inH) rfl rfl (kd_H hi) (by decide) (w_m lH_9) rfl rfl hG1.2.2.2.2.2.2.1 dH_shareOut_31 ?_
      refine z_iload (j := 0) X dH_shareOut_34 rfl ?_
      refine z_iald (t0 := 0) X (kd_HT hi) rfl (by omega) (by decide) dH_shareOut_36 (hv := (hG1.2.2.2.2.2.2.2.2.2.2.1 k (by omega))) ?_
      refine z_iload_n (j := 5) X dH_shareOut_37 rfl rfl ?_
      refine z_icmp_ne (tgt := 85) X dH_shareOut_38 (by decide) (fun c_38 => ?_) (fun c_38 => ?_)
      · refine z_iinc (j := 0) (v := (nI (k + 1))) (L' := [(6, .int (nI (k + 1))), (5, .int (nI (t * 4 + zNxt n (zRk u.2.1 t 4) (zRk u.2.1 t k)))), (4, .int (zLa n (zRk u.2.1 t 4) (zRk u.2.1 t k))), (3, .int (nI (zRk u.2.1 t 4))), (0, .ref (40 + i)), (1, .int (nI t)), (2, .int (nI n))]) X dH_shareOut_85 rfl (nI_1 k) (by decide) rfl ?_
        refine z_goto (tgt := 24) X dH_shareOut_88 (by decide) ?_
        refine z_loc [0, 1, 2, 3, 4, 5, 6] rfl ?_
        have e7 := ih (k + 1) S1 (by omega) (by omega) (zGrA_eq hG1 rfl rfl (fun j hj => by
          show (if j / 4 = t then zOI (zfind (zWhoP u.2.1 n t j) (k + 1) 0) else u.2.2.1 j) = _
          rw [zWho_n c_38]) rfl) hfr1 hd1
        rw [zRk_n c_38] at e7
        exact e7
      · have hkt : u.2.1 k = nI t := c_38
        have hk4' : k < 4 := by omega
        have inner : u.2.1 k = nI t → ∀ (f2 p9 : Nat) (S2 : zS), t * 4 + zNxt n (zRk u.2.1 t 4) (zRk u.2.1 t k + 1) - p9 < f2 → t * 4 + zNxt n (zRk u.2.1 t 4) (zRk u.2.1 t k) ≤ p9 → p9 ≤ t * 4 + zNxt n (zRk u.2.1 t 4) (zRk u.2.1 t k + 1) → zGrA S2 i (u.1, u.2.1, (fun j => if t * 4 + zNxt n (zRk u.2.1 t 4) (zRk u.2.1 t k) ≤ j ∧ j < p9 then nI k else (fun j => if j / 4 = t then zOI (zfind (zWhoP u.2.1 n t j) k 0) else u.2.2.1 j) j), u.2.2.2) → zfr (zOwnH i) S S2 → S2.1 = S.1 → AW p l e { frames := 1, cells := 0, slots := 0, locals := 23 } s m args below meth c D vwCl zKK dA A (ad, S) 8 S2 0 0 (vx_MQ below (zQc D vwCl zKK dA A ad S (fun v S' => v = none ∧ zGrA S' i (u.1, u.2.1, (fun j => if j / 4 = t then zOI (zWho u.2.1 n j) else u.2.2.1 j), u.2.2.2) ∧ zfr (zOwnH i) S S' ∧ S'.1 = S.1)) (zXC D vwCl zKK dA A ad S (fun _ _ => False)) args s 0 0 A) 60 [(7, .int (nI (t * 4 + zNxt n (zRk u.2.1 t 4) (zRk u.2.1 t k + 1)))), (5, .int (nI p9)), (6, .int (nI k)), (4, .int (zLa n (zRk u.2.1 t 4) (zRk u.2.1 t k))), (3, .int (nI (zRk u.2.1 t 4))), (0, .ref (40 + i)), (1, .int (nI t)), (2, .int (nI n))] [] := by
          intro hkt f2
          induction f2 with
          | zero => intro p9 S2 h0; omega
          | succ f2 ih2 =>
          intro p9 S2 h0 hp1 hp2 hG2 hfr2 hd2
          have hlt := zRk_lt hkt hk4'
          have hnx := zNxt_le (n := n) (c := zRk u.2.1 t 4) (r := zRk u.2.1 t k + 1) hlt hn hrk4
          refine z_iload (j := 1) X dH_shareOut_60 rfl ?_
          refine z_iload (j := 0) X dH_shareOut_62 rfl ?_
          refine z_icmp_geN (tgt := 82) X dH_shareOut_64 (by decide) (by omega) (by omega) (fun c_64 => ?_) (fun c_64 => ?_)
          · refine z_iinc (j := 3) (v := (zLa n (zRk u.2.1 t 4) (zRk u.2.1 t k)) + Int32.ofInt (-1)) (L' := [(4, .int ((zLa n (zRk u.2.1 t 4) (zRk u.2.1 t k)) + Int32.ofInt (-1))), (7, .int (nI (t * 4 + zNxt n (zRk u.2.1 t 4) (zRk u.2.1 t k + 1)))), (5, .int (nI p9)), (6, .int (nI k)), (3, .int (nI (zRk u.2.1 t 4))), (0, .ref (40 + i)), (1, .int (nI t)), (2, .int (nI n))]) X dH_shareOut_82 rfl rfl (by decide) rfl ?_
            refine z_iinc (j := 3) (v := (nI (k + 1))) (L' := [(6, .int (nI (k + 1))), (4, .int ((zLa n (zRk u.2.1 t 4) (zRk u.2.1 t k)) + Int32.ofInt (-1))), (7, .int (nI (t * 4 + zNxt n (zRk u.2.1 t 4) (zRk u.2.1 t k + 1)))), (5, .int (nI p9)), (3, .int (nI (zRk u.2.1 t 4))), (0, .ref (40 + i)), (1, .int (nI t)), (2, .int (nI n))]) X dH_shareOut_85 rfl (nI_1 k) (by decide) rfl ?_
            refine z_goto (tgt := 24) X dH_shareOut_88 (by decide) ?_
            have e9 : p9 = t * 4 + zNxt n (zRk u.2.1 t 4) (zRk u.2.1 t k + 1) := by omega
            refine z_loc [0, 3, 1, 4, 5, 6, 7] rfl ?_
            rw [zLa_s, e9]
            have e7 := ih (k + 1) S2 (by omega) (by omega) (zGrA_eq hG2 rfl rfl (fun j hj => by
              show (if j / 4 = t then zOI (zfind (zWhoP u.2.1 n t j) (k + 1) 0) else u.2.2.1 j) = if t * 4 + zNxt n (zRk u.2.1 t 4) (zRk u.2.1 t k) ≤ j ∧ j < p9 then nI k else (if j / 4 = t then zOI (zfind (zWhoP u.2.1 n t j) k 0) else u.2.2.1 j)
              by_cases e6 : j / 4 = t
              · rw [if_pos e6, if_pos e6, zWho_y hkt]
                by_cases e5 : zNxt n (zRk u.2.1 t 4) (zRk u.2.1 t k) ≤ j % 4 ∧ j % 4 < zNxt n (zRk u.2.1 t 4) (zRk u.2.1 t k + 1)
                · rw [if_pos e5, if_pos (by omega)]; rfl
                · rw [if_neg e5, if_neg (by omega)]
              · rw [if_neg e6, if_neg e6, if_neg (by omega)]) rfl) hfr2 hd2
            rw [zRk_y hkt] at e7
            exact e7
          · refine z_aload_n (j := 5) X dH_shareOut_67 rfl rfl ?_
            refine z_getr (C := RH) (T := TH) (N := 5) (k := 2) X (w_in inH) rfl rfl (kd_H hi) (by decide) (w_m lH_15) rfl rfl hG2.2.2.2.2.2.2.2.1 dH_shareOut_68 ?_
            refine z_iload (j := 1) X dH_shareOut_71 rfl ?_
            refine z_iload (j := 2) X dH_shareOut_73 rfl ?_
            refine z_iast (t0 := 0) X (kd_HO hi) rfl (by omega) (by decide) dH_shareOut_75 ?_
            refine z_iinc (j := 1) (v := (nI (p9 + 1))) (L' := [(5, .int (nI (p9 + 1))), (7, .int (nI (t * 4 + zNxt n (zRk u.2.1 t 4) (zRk u.2.1 t k + 1)))), (6, .int (nI k)), (4, .int (zLa n (zRk u.2.1 t 4) (zRk u.2.1 t k))), (3, .int (nI (zRk u.2.1 t 4))), (0, .ref (40 + i)), (1, .int (nI t)), (2, .int (nI n))]) X dH_shareOut_76 rfl (nI_1 p9) (by decide) rfl ?_
            refine z_goto (tgt := 60) X dH_shareOut_79 (by decide) ?_
            refine z_loc [1, 0, 2, 3, 4, 5, 6, 7] rfl ?_
            exact ih2 (p9 + 1) _ (by omega) (by omega) (by omega) (zGrA_eq (zGrA_own (j := p9) (v := nI k) hG2 hi) rfl rfl (fun j hj => by
              show (if t * 4 + zNxt n (zRk u.2.1 t 4) (zRk u.2.1 t k) ≤ j ∧ j < p9 + 1 then nI k else _) = if j = p9 then nI k else (if t * 4 + zNxt n (zRk u.2.1 t 4) (zRk u.2.1 t k) ≤ j ∧ j < p9 then nI k else _)
              by_cases e9 : j = p9
              · rw [if_pos e9, if_pos (by omega)]
              · rw [if_neg e9]
                by_cases e8 : t * 4 + zNxt n (zRk u.2.1 t 4) (zRk u.2.1 t k) ≤ j ∧ j < p9
                · rw [if_pos e8, if_pos (by omega)]
                · rw [if_neg e8, if_neg (by omega)]) rfl) (hfr2.tr (zfr.i (Or.inr (Or.inr (Or.inl rfl))))) hd2
        have hlt := zRk_lt hkt hk4'
        have hs9 := zNxt_s (n := n) (c := zRk u.2.1 t 4) (r := zRk u.2.1 t k)
        have hnx := zNxt_le (n := n) (c := zRk u.2.1 t 4) (r := zRk u.2.1 t k + 1) hlt hn hrk4
        have hdv : n / zRk u.2.1 t 4 ≤ n := Nat.div_le_self _ _
        have hmn := zNxt_m (n := n) (c := zRk u.2.1 t 4) (r := zRk u.2.1 t k)
        refine z_iload (j := 1) X dH_shareOut_41 rfl ?_
        refine z_iload_n (j := 6) X dH_shareOut_43 rfl rfl ?_
        refine z_iload_n (j := 3) X dH_shareOut_44 rfl rfl ?_
        refine z_idiv X dH_shareOut_45 (nI_ne0 (by omega) (by omega)) ?_
        refine z_top (pk_div (a := n) (d := zRk u.2.1 t 4) (by omega) (by omega) (by omega)) ?_
        refine z_iadd X dH_shareOut_46 ?_
        refine z_top (nI_add (t * 4 + zNxt n (zRk u.2.1 t 4) (zRk u.2.1 t k)) (n / (zRk u.2.1 t 4))) ?_
        refine z_iload (j := 2) X dH_shareOut_47 rfl ?_
        refine z_if_le (tgt := 56) X dH_shareOut_49 (by decide) (fun c_49 => ?_) (fun c_49 => ?_)
        · refine z_iconst (v := (nI 0)) X dH_shareOut_56 (by decide) ?_
          refine z_iadd X dH_shareOut_57 ?_
          refine z_top (nI_add (t * 4 + zNxt n (zRk u.2.1 t 4) (zRk u.2.1 t k) + n / (zRk u.2.1 t 4)) 0) ?_
          refine z_istore (L' := [(7, .int (nI (t * 4 + zNxt n (zRk u.2.1 t 4) (zRk u.2.1 t k) + n / (zRk u.2.1 t 4) + 0))), (6, .int (nI k)), (5, .int (nI (t * 4 + zNxt n (zRk u.2.1 t 4) (zRk u.2.1 t k)))), (4, .int (zLa n (zRk u.2.1 t 4) (zRk u.2.1 t k))), (3, .int (nI (zRk u.2.1 t 4))), (0, .ref (40 + i)), (1, .int (nI t)), (2, .int (nI n))]) X dH_shareOut_58 (by decide) rfl ?_
          rw [show t * 4 + zNxt n (zRk u.2.1 t 4) (zRk u.2.1 t k) + n / (zRk u.2.1 t 4) + 0 = t * 4 + zNxt n (zRk u.2.1 t 4) (zRk u.2.1 t k + 1) from by rw [hs9, if_neg ((zLa_le (by omega) (by omega)).mp c_49)]; simp only [Nat.add_assoc]]
          refine z_loc [0, 2, 1, 3, 4, 5, 6, 7] rfl ?_
          exact inner hkt (zNxt n (zRk u.2.1 t 4) (zRk u.2.1 t k + 1) + 1) (t * 4 + zNxt n (zRk u.2.1 t 4) (zRk u.2.1 t k)) S1 (by omega) (Nat.le_refl _) (by omega) (zGrA_eq hG1 rfl rfl (fun j hj => if_neg (by omega)) rfl) hfr1 hd1
        · refine z_iconst (v := (nI 1)) X dH_shareOut_52 (by decide) ?_
          refine z_goto (tgt := 57) X dH_shareOut_53 (by decide) ?_
          refine z_iadd X dH_shareOut_57 ?_
          refine z_top (nI_add (t * 4 + zNxt n (zRk u.2.1 t 4) (zRk u.2.1 t k) + n / (zRk u.2.1 t 4)) 1) ?_
          refine z_istore (L' := [(7, .int (nI (t * 4 + zNxt n (zRk u.2.1 t 4) (zRk u.2.1 t k) + n / (zRk u.2.1 t 4) + 1))), (6, .int (nI k)), (5, .int (nI (t * 4 + zNxt n (zRk u.2.1 t 4) (zRk u.2.1 t k)))), (4, .int (zLa n (zRk u.2.1 t 4) (zRk u.2.1 t k))), (3, .int (nI (zRk u.2.1 t 4))), (0, .ref (40 + i)), (1, .int (nI t)), (2, .int (nI n))]) X dH_shareOut_58 (by decide) rfl ?_
          rw [show t * 4 + zNxt n (zRk u.2.1 t 4) (zRk u.2.1 t k) + n / (zRk u.2.1 t 4) + 1 = t * 4 + zNxt n (zRk u.2.1 t 4) (zRk u.2.1 t k + 1) from by rw [hs9, if_pos (Classical.not_not.mp (mt (zLa_le (by omega) (by omega)).mpr c_49))]; simp only [Nat.add_assoc]]
          refine z_loc [0, 2, 1, 3, 4, 5, 6, 7] rfl ?_
          exact inner hkt (zNxt n (zRk u.2.1 t 4) (zRk u.2.1 t k + 1) + 1) (t * 4 + zNxt n (zRk u.2.1 t 4) (zRk u.2.1 t k)) S1 (by omega) (Nat.le_refl _) (by omega) (zGrA_eq hG1 rfl rfl (fun j hj => if_neg (by omega)) rfl) hfr1 hd1
  refine z_aload_n (j := 0) X dH_shareOut_0 rfl rfl ?_
  refine z_iload_n (j := 1) X dH_shareOut_1 rfl rfl ?_
  refine z_callV (n := 1) (As := [.int (nI t)]) (rest := []) X zG0_m (mH_membersFor l D dA hi hO) (w_V X.2.2.2.2.1 lH_44 jH_membersFor sH_membersFor i_LogBroker_Group kH_membersFor rfl rfl (by decide +kernel) ⟨Nat.le_of_ble_eq_true rfl, Nat.le_of_ble_eq_true rfl⟩) (kd_H hi) rfl rfl rfl rfl (Nat.le_of_ble_eq_true rfl) dH_shareOut_2 ⟨Nat.le_of_ble_eq_true rfl, Nat.le_of_ble_eq_true rfl⟩ (fun v S9 hp => ?_) (fun E S1 hx => hx.elim)
  obtain ⟨hv, hS9⟩ := hp
  subst hv
  have hS9 := hS9.symm
  subst hS9
  refine z_istore_n (L' := [(3, .int (nI (zRk u.2.1 t 4))), (0, .ref (40 + i)), (1, .int (nI t)), (2, .int (nI n))]) X dH_shareOut_5 rfl (by decide) rfl ?_
  refine z_iload_n (j := 0) X dH_shareOut_6 rfl rfl ?_
  refine z_if_ne (tgt := 11) X dH_shareOut_7 (by decide) (fun c_7 => ?_) (fun c_7 => ?_)
  · have hc0 : 0 < zRk u.2.1 t 4 := Nat.pos_of_ne_zero (fun q => c_7 (by rw [q]; decide))
    refine z_iload_n (j := 3) X dH_shareOut_11 rfl rfl ?_
    refine z_iload_n (j := 0) X dH_shareOut_12 rfl rfl ?_
    refine z_irem X dH_shareOut_13 (nI_ne0 (by omega) (by omega)) ?_
    refine z_top (pk_rem (a := n) (d := zRk u.2.1 t 4) (by omega) (by omega) (by omega)) ?_
    refine z_istore (L' := [(4, .int (nI (n % (zRk u.2.1 t 4)))), (3, .int (nI (zRk u.2.1 t 4))), (0, .ref (40 + i)), (1, .int (nI t)), (2, .int (nI n))]) X dH_shareOut_14 (by decide) rfl ?_
    refine z_iload_n (j := 3) X dH_shareOut_16 rfl rfl ?_
    refine z_iconst (v := (nI 4)) X dH_shareOut_17 (by decide) ?_
    refine z_imul X dH_shareOut_18 ?_
    refine z_top (pk_mul t 4) ?_
    refine z_istore (L' := [(5, .int (nI (t * 4))), (4, .int (nI (n % (zRk u.2.1 t 4)))), (3, .int (nI (zRk u.2.1 t 4))), (0, .ref (40 + i)), (1, .int (nI t)), (2, .int (nI n))]) X dH_shareOut_19 (by decide) rfl ?_
    refine z_iconst (v := (nI 0)) X dH_shareOut_21 (by decide) ?_
    refine z_istore (L' := [(6, .int (nI 0)), (5, .int (nI (t * 4))), (4, .int (nI (n % (zRk u.2.1 t 4)))), (3, .int (nI (zRk u.2.1 t 4))), (0, .ref (40 + i)), (1, .int (nI t)), (2, .int (nI n))]) X dH_shareOut_22 (by decide) rfl ?_
    refine z_loc [0, 1, 2, 3, 4, 5, 6] rfl ?_
    have e7 := loop hc0 5 0 S (by omega) (by omega) (zGrA_eq hO rfl rfl (fun j hj => by
      show (if j / 4 = t then zOI none else u.2.2.1 j) = u.2.2.1 j
      by_cases e6 : j / 4 = t
      · rw [if_pos e6, hpre j hj e6]; rfl
      · rw [if_neg e6]) rfl) zfr.rf rfl
    rw [show zRk u.2.1 t 0 = 0 from rfl, zNxt_0, zLa_0] at e7
    exact e7
  · refine z_vret X hlocks hr dH_shareOut_10 (by omega) (by omega) ?_
    have hc0 : zRk u.2.1 t 4 = 0 := Classical.byContradiction fun q => nI_ne0 (by omega) (by omega) c_7
    exact ⟨rfl, zGrA_eq hO rfl rfl (fun j hj => by
      show (if j / 4 = t then zOI (zfind (zWhoP u.2.1 n (j / 4) j) 4 0) else u.2.2.1 j) = u.2.2.1 j
      by_cases e6 : j / 4 = t
      · rw [if_pos e6, e6, hpre j hj e6, (zWho_iff 4).mpr (by rw [hc0, zNxt_0]; omega)]; rfl
      · rw [if_neg e6]) rfl, zfr.rf, rfl⟩
