/-! CONTRACTS of java/util/Arrays.fill, of the constructors, of LogBroker$Session (rows by program) -/
set_option maxHeartbeats 600000 in
set_option maxRecDepth 100000 in
theorem mA_fill (l : Launch) (D : va_G) (dA : Nat → ClassId) {S : zS} {n len : Nat} {v : Int32} (hkd : zKK.1 n = .inr (0, len)) (hl : len < 2 ^ 30) : zMet l D vwCl zKK dA (zG0 D dA) yA_fill (Cond.code yA_fill cA_fill 4 none :: zTs) { frames := 0, cells := 0, slots := 0, locals := 0 } 0 0 [.ref n, .int v] S (fun r S' => r = none ∧ S' = zfil S n len v) (fun _ _ => False) := by
  refine z_met (tys := ztys dA) (by decide) rfl zG0_K rfl (Nat.le_of_ble_eq_true rfl) (fun p e s m args below meth c A ad X hr hlocks hin hex => ?_)
  have loop : ∀ (f o : Nat) (S1 : zS), len - o < f → o ≤ len → S1 = zfil S n o v → AW p l e { frames := 0, cells := 0, slots := 0, locals := 0 } s m args below meth c D vwCl zKK dA A (ad, S) 4 S1 0 0 (vx_MQ below (zQc D vwCl zKK dA A ad S (fun r S' => r = none ∧ S' = zfil S n len v)) (zXC D vwCl zKK dA A ad S (fun _ _ => False)) args s 0 0 A) 5 [(2, .int (nI o)), (3, .int (nI len)), (0, .ref n), (1, .int v)] [] := by
    intro f
    induction f with
    | zero => intro o S1 h0; omega
    | succ f ih =>
    intro o S1 h0 hi2 hS1
    refine z_iload_n (j := 0) X dA_fill_5 rfl rfl ?_
    refine z_iload_n (j := 1) X dA_fill_6 rfl rfl ?_
    refine z_icmp_geN (tgt := 20) X dA_fill_7 (by decide) (by omega) (by omega) (fun c_7 => ?_) (fun c_7 => ?_)
    · refine z_vret X hlocks hr dA_fill_20 (by omega) (by omega) ?_
      refine ⟨rfl, ?_⟩
      unfold zfil at hS1 ⊢
      rw [hS1]
      congr 2
      funext a b
      by_cases e9 : a = n ∧ b < len
      · rw [if_pos e9, if_pos ⟨e9.1, by omega⟩]
      · rw [if_neg e9, if_neg (by omega)]
    · refine z_aload_n (j := 2) X dA_fill_10 rfl rfl ?_
      refine z_iload_n (j := 0) X dA_fill_11 rfl rfl ?_
      refine z_iload_n (j := 3) X dA_fill_12 rfl rfl ?_
      refine z_iast (t0 := 0) X hkd rfl (by omega) (by omega) dA_fill_13 ?_
      refine z_iinc (j := 0) (v := (nI (o + 1))) (L' := [(2, .int (nI (o + 1))), (3, .int (nI len)), (0, .ref n), (1, .int v)]) X dA_fill_14 rfl (nI_1 o) (by decide) rfl ?_
      refine z_goto (tgt := 5) X dA_fill_17 (by decide) ?_
      exact ih (o + 1) _ (by omega) (by omega) (by
        rw [hS1]
        unfold zfil zsi z2
        congr 2
        funext a b
        by_cases e9 : a = n ∧ b = o
        · rw [if_pos e9, if_pos ⟨e9.1, by omega⟩]
        · rw [if_neg e9]
          show (if a = n ∧ b < o then v else S.2.1 a b) = _
          by_cases e8 : a = n ∧ b < o
          · rw [if_pos e8, if_pos ⟨e8.1, by omega⟩]
          · rw [if_neg e8, if_neg (by omega)])
  refine z_iconst (v := (nI 0)) X dA_fill_0 (by decide) ?_
  refine z_istore_n (L' := [(2, .int (nI 0)), (0, .ref n), (1, .int v)]) X dA_fill_1 rfl (by decide) rfl ?_
  refine z_aload_n (j := 1) X dA_fill_2 rfl rfl ?_
  refine z_alen (t0 := 0) (v := (nI len)) X hkd (by decide) rfl rfl dA_fill_3 ?_
  refine z_istore_n (L' := [(3, .int (nI len)), (2, .int (nI 0)), (0, .ref n), (1, .int v)]) X dA_fill_4 rfl (by decide) rfl ?_
  refine z_loc [1, 0, 2, 3] rfl ?_
  exact loop (len + 1) 0 S (by omega) (by omega) (by
    unfold zfil
    rw [show (fun a b => if a = n ∧ b < 0 then v else S.2.1 a b) = S.2.1 from by
      funext a b
      exact if_neg (by omega)])

set_option maxHeartbeats 600000 in
set_option maxRecDepth 100000 in
theorem mE_init (l : Launch) (D : va_G) (dA : Nat → ClassId) {S : zS} {n : Nat} {a0 a1 a2 a3 a4 : Int32} (hkd : zKK.1 n = .inl 0) : zMet l D vwCl zKK dA (zG0 D dA) yE_init (Cond.code yE_init cE_init 6 none :: zTs) { frames := 1, cells := 0, slots := 0, locals := 12 } 0 0 [.ref n, .int a0, .int a1, .int a2, .int a3, .int a4] S (fun r S' => r = none ∧ S' = zsi (zsi (zsi (zsi (zsi S n 0 a0) n 1 a1) n 2 a2) n 3 a3) n 4 a4) (fun _ _ => False) := by
  refine z_met (tys := ztys dA) (by decide) rfl zG0_K rfl (Nat.le_of_ble_eq_true rfl) (fun p e s m args below meth c A ad X hr hlocks hin hex => ?_)
  refine z_aload_n (j := 0) X dE_init_0 rfl rfl ?_
  refine z_objInit X (w_m lE_3) (w_m j_obj) (w_m k_obj) dE_init_1 (by decide) (Nat.le_of_ble_eq_true rfl) ?_
  refine z_aload_n (j := 0) X dE_init_4 rfl rfl ?_
  refine z_iload_n (j := 1) X dE_init_5 rfl rfl ?_
  refine z_putiF (C := RE) (T := TE) (N := 5) (k := 0) X (w_in inE) rfl rfl hkd (by decide) (w_m lE_9) rfl tyE tyE_ok nmE rfl hin rfl rfl (ty := .int) (by decide +kernel) rfl rfl dE_init_6 ?_
  refine z_aload_n (j := 0) X dE_init_9 rfl rfl ?_
  refine z_iload_n (j := 2) X dE_init_10 rfl rfl ?_
  refine z_putiF (C := RE) (T := TE) (N := 5) (k := 1) X (w_in inE) rfl rfl hkd (by decide) (w_m lE_15) rfl tyE tyE_ok nmE rfl hin rfl rfl (ty := .int) (by decide +kernel) rfl rfl dE_init_11 ?_
  refine z_aload_n (j := 0) X dE_init_14 rfl rfl ?_
  refine z_iload_n (j := 3) X dE_init_15 rfl rfl ?_
  refine z_putiF (C := RE) (T := TE) (N := 5) (k := 2) X (w_in inE) rfl rfl hkd (by decide) (w_m lE_18) rfl tyE tyE_ok nmE rfl hin rfl rfl (ty := .int) (by decide +kernel) rfl rfl dE_init_16 ?_
  refine z_aload_n (j := 0) X dE_init_19 rfl rfl ?_
  refine z_iload (j := 4) X dE_init_20 rfl ?_
  refine z_putiF (C := RE) (T := TE) (N := 5) (k := 3) X (w_in inE) rfl rfl hkd (by decide) (w_m lE_21) rfl tyE tyE_ok nmE rfl hin rfl rfl (ty := .int) (by decide +kernel) rfl rfl dE_init_22 ?_
  refine z_aload_n (j := 0) X dE_init_25 rfl rfl ?_
  refine z_iload (j := 5) X dE_init_26 rfl ?_
  refine z_puti (C := RE) (T := TE) (N := 5) (k := 4) X (w_in inE) rfl rfl hkd (by decide) (w_m lE_24) rfl tyE tyE_ok nmE rfl rfl (ty := .int) (by decide +kernel) rfl rfl dE_init_28 ?_
  refine z_vret X hlocks hr dE_init_31 (by omega) (by omega) ?_
  exact ⟨rfl, rfl⟩

set_option maxHeartbeats 600000 in
set_option maxRecDepth 100000 in
theorem mG_init (l : Launch) (D : va_G) (dA : Nat → ClassId) {S : zS} {tp : Nat} {z k : Nat} {cm : Int32} (htp : tp < 12) (hn2 : S.1 (80 + tp) = false) (hcm : cm = nI 0 ∨ cm = nI 1) : zMet l D vwCl zKK dA (zG0 D dA) yG_init (Cond.code yG_init cG_init 4 none :: zTs) { frames := 1, cells := 1, slots := 60, locals := 13 } 1 60 [.ref (60 + tp), .int (nI z), .int (nI k), .int cm] S (fun r S' => r = none ∧ S' = zsi (zsi (zsi (zsp (zadd S (80 + tp)) (60 + tp) 3 (some (80 + tp))) (60 + tp) 0 (nI z)) (60 + tp) 1 (nI k)) (60 + tp) 2 cm) (fun _ _ => False) := by
  refine z_met (tys := ztys dA) (by decide) rfl zG0_K rfl (Nat.le_of_ble_eq_true rfl) (fun p e s m args below meth c A ad X hr hlocks hin hex => ?_)
  refine z_aload_n (j := 0) X dG_init_0 rfl rfl ?_
  refine z_objInit X (w_m lG_3) (w_m j_obj) (w_m k_obj) dG_init_1 (by decide) (Nat.le_of_ble_eq_true rfl) ?_
  refine z_aload_n (j := 0) X dG_init_4 rfl rfl ?_
  refine z_bipush (v := (nI 60)) X dG_init_5 (by decide) ?_
  refine z_anew (n := (80 + tp)) (t0 := 6) X (kd_GA htp) (by decide) (by decide) rfl hn2 (by omega) (nI_pos (by decide)) (nI_clamp (by decide)) (by decide) (w_m lG_9) (zG0_over X.2.2.2.2.2.2.2.2 (by decide +kernel)) (Nat.le_of_ble_eq_true rfl) (Nat.le_of_ble_eq_true rfl) dG_init_7 ?_
  refine z_putrF (cn := "") (C := RG) (T := TG) (N := 9) (k := 3) X (w_in inG) rfl rfl (kd_G htp) (by decide) (w_m lG_11) rfl tyG tyG_ok nmG rfl hin rfl rfl (Or.inr ⟨.object "LogBroker$Entry", by decide +kernel⟩) (by omega) dG_init_10 ?_
  refine z_aload_n (j := 0) X dG_init_13 rfl rfl ?_
  refine z_iload_n (j := 1) X dG_init_14 rfl rfl ?_
  refine z_putiF (C := RG) (T := TG) (N := 9) (k := 0) X (w_in inG) rfl rfl (kd_G htp) (by decide) (w_m lG_17) rfl tyG tyG_ok nmG rfl hin rfl rfl (ty := .int) (by decide +kernel) rfl rfl dG_init_15 ?_
  refine z_aload_n (j := 0) X dG_init_18 rfl rfl ?_
  refine z_iload_n (j := 2) X dG_init_19 rfl rfl ?_
  refine z_putiF (C := RG) (T := TG) (N := 9) (k := 1) X (w_in inG) rfl rfl (kd_G htp) (by decide) (w_m lG_21) rfl tyG tyG_ok nmG rfl hin rfl rfl (ty := .int) (by decide +kernel) rfl rfl dG_init_20 ?_
  refine z_aload_n (j := 0) X dG_init_23 rfl rfl ?_
  refine z_iload_n (j := 3) X dG_init_24 rfl rfl ?_
  refine z_putiF (C := RG) (T := TG) (N := 9) (k := 2) X (w_in inG) rfl rfl (kd_G htp) (by decide) (w_m lG_24) rfl tyG tyG_ok nmG rfl hin rfl rfl (ty := .boolean) (by decide +kernel) (by rcases hcm with h | h <;> (subst h; rfl)) (by rcases hcm with h | h <;> (subst h; rfl)) dG_init_25 ?_
  refine z_vret X hlocks hr dG_init_28 (by omega) (by omega) ?_
  exact ⟨rfl, rfl⟩

set_option maxHeartbeats 600000 in
set_option maxRecDepth 100000 in
theorem mS_init (l : Launch) (D : va_G) (dA : Nat → ClassId) {S : zS} {i : Nat} (hi : i < 6) (hn1 : S.1 (20 + i) = false) (hn2 : S.1 (30 + i) = false) : zMet l D vwCl zKK dA (zG0 D dA) yS_init (Cond.code yS_init cS_init 1 none :: zTs) { frames := 1, cells := 2, slots := 48, locals := 13 } 2 48 [.ref (10 + i)] S (fun r S' => r = none ∧ S' = zsp (zadd (zsp (zadd (zsi S (10 + i) 0 (-1)) (20 + i)) (10 + i) 2 (some (20 + i))) (30 + i)) (10 + i) 3 (some (30 + i))) (fun _ _ => False) := by
  refine z_met (tys := ztys dA) (by decide) rfl zG0_K rfl (Nat.le_of_ble_eq_true rfl) (fun p e s m args below meth c A ad X hr hlocks hin hex => ?_)
  refine z_aload_n (j := 0) X dS_init_0 rfl rfl ?_
  refine z_objInit X (w_m lS_3) (w_m j_obj) (w_m k_obj) dS_init_1 (by decide) (Nat.le_of_ble_eq_true rfl) ?_
  refine z_aload_n (j := 0) X dS_init_4 rfl rfl ?_
  refine z_iconst (v := (-1)) X dS_init_5 (by decide) ?_
  refine z_puti (C := RS) (T := TS) (N := 4) (k := 0) X (w_in inS) rfl rfl (kd_S hi) (by decide) (w_m lS_9) rfl tyS tyS_ok nmS rfl rfl (ty := .int) (by decide +kernel) rfl rfl dS_init_6 ?_
  refine z_aload_n (j := 0) X dS_init_9 rfl rfl ?_
  refine z_bipush (v := (nI 12)) X dS_init_10 (by decide) ?_
  refine z_newi (n := (20 + i)) (t0 := 0) X (kd_SE hi) rfl hn1 (by omega) (nI_pos (by decide)) (nI_clamp (by decide)) (by decide) (w_m ac_int) (Nat.le_of_ble_eq_true rfl) (Nat.le_of_ble_eq_true rfl) dS_init_12 ?_
  refine z_putrF (cn := "") (C := RS) (T := TS) (N := 4) (k := 2) X (w_in inS) rfl rfl (kd_S hi) (by decide) (w_m lS_15) rfl tyS tyS_ok nmS rfl hin rfl rfl (Or.inr ⟨.int, by decide +kernel⟩) (by omega) dS_init_14 ?_
  refine z_aload_n (j := 0) X dS_init_17 rfl rfl ?_
  refine z_bipush (v := (nI 36)) X dS_init_18 (by decide) ?_
  refine z_newi (n := (30 + i)) (t0 := 0) X (kd_SO hi) rfl ((zadd_n (by omega)).trans hn2) (by omega) (nI_pos (by decide)) (nI_clamp (by decide)) (by decide) (w_m ac_int) (Nat.le_of_ble_eq_true rfl) (Nat.le_of_ble_eq_true rfl) dS_init_20 ?_
  refine z_putrF (cn := "") (C := RS) (T := TS) (N := 4) (k := 3) X (w_in inS) rfl rfl (kd_S hi) (by decide) (w_m lS_19) rfl tyS tyS_ok nmS rfl hin rfl rfl (Or.inr ⟨.int, by decide +kernel⟩) (by omega) dS_init_22 ?_
  refine z_vret X hlocks hr dS_init_25 (by omega) (by omega) ?_
  exact ⟨rfl, rfl⟩
