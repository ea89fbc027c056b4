/-! CONTRACTS of LogBroker$Session (rows by program) -/
set_option maxHeartbeats 600000 in
set_option maxRecDepth 100000 in
theorem mS_expects (l : Launch) (D : va_G) (dA : Nat → ClassId) {S : zS} {i : Nat} {u : zSn} {t k : Nat} (hi : i < 6) (hO : zSsA S i u) (ht : t < 12) (hk : k < 2 ^ 31) (hx : u.2.2.1 t < 2 ^ 30) : zMet l D vwCl zKK dA (zG0 D dA) yS_expects (Cond.code yS_expects cS_expects 3 (some .boolean) :: zTs) { frames := 0, cells := 0, slots := 0, locals := 0 } 0 0 [.ref (10 + i), .int (nI t), .int (nI k)] S (fun v S' => v = some (.int (if k = u.2.2.1 t then nI 1 else nI 0)) ∧ S' = S) (fun _ _ => False) := by
  refine z_met (tys := ztys dA) (by decide) rfl zG0_K rfl (Nat.le_of_ble_eq_true rfl) (fun p e s m args below meth c A ad X hr hlocks hin hex => ?_)
  obtain ⟨hd1, hd2, hd3, f0, f1, f2, f3, hex0, hof0⟩ := id hO
  refine z_iload_n (j := 2) X dS_expects_0 rfl rfl ?_
  refine z_aload_n (j := 0) X dS_expects_1 rfl rfl ?_
  refine z_getr (C := RS) (T := TS) (N := 4) (k := 2) X (w_in inS) rfl rfl (kd_S hi) (by decide) (w_m lS_15) rfl rfl f2 dS_expects_2 ?_
  refine z_iload_n (j := 1) X dS_expects_5 rfl rfl ?_
  refine z_iald (t0 := 0) X (kd_SE hi) rfl (by omega) (by decide) dS_expects_6 (hv := (hex0 t (by omega))) ?_
  refine z_icmp_neN (tgt := 14) X dS_expects_7 (by decide) (by omega) (by omega) (fun c_7 => ?_) (fun c_7 => ?_)
  · refine z_iconst (v := (nI 0)) X dS_expects_14 (by decide) ?_
    refine z_zret X hlocks hr dS_expects_15 (by first | rfl | decide) (by omega) (by omega) ?_
    exact ⟨by rw [if_neg c_7], rfl⟩
  · refine z_iconst (v := (nI 1)) X dS_expects_10 (by decide) ?_
    refine z_goto (tgt := 15) X dS_expects_11 (by decide) ?_
    refine z_zret X hlocks hr dS_expects_15 (by first | rfl | decide) (by omega) (by omega) ?_
    exact ⟨by rw [if_pos c_7], rfl⟩

set_option maxHeartbeats 600000 in
set_option maxRecDepth 100000 in
theorem mS_remembers (l : Launch) (D : va_G) (dA : Nat → ClassId) {S : zS} {i : Nat} {u : zSn} {t k : Nat} (hi : i < 6) (hO : zSsA S i u) (ht : t < 12) (hk : k < 2 ^ 31) (hx : u.2.2.1 t < 2 ^ 30) : zMet l D vwCl zKK dA (zG0 D dA) yS_remembers (Cond.code yS_remembers cS_remembers 3 (some .boolean) :: zTs) { frames := 0, cells := 0, slots := 0, locals := 0 } 0 0 [.ref (10 + i), .int (nI t), .int (nI k)] S (fun v S' => v = some (.int (if k < u.2.2.1 t ∧ u.2.2.1 t ≤ k + 3 then nI 1 else nI 0)) ∧ S' = S) (fun _ _ => False) := by
  refine z_met (tys := ztys dA) (by decide) rfl zG0_K rfl (Nat.le_of_ble_eq_true rfl) (fun p e s m args below meth c A ad X hr hlocks hin hex => ?_)
  obtain ⟨hd1, hd2, hd3, f0, f1, f2, f3, hex0, hof0⟩ := id hO
  refine z_iload_n (j := 2) X dS_remembers_0 rfl rfl ?_
  refine z_aload_n (j := 0) X dS_remembers_1 rfl rfl ?_
  refine z_getr (C := RS) (T := TS) (N := 4) (k := 2) X (w_in inS) rfl rfl (kd_S hi) (by decide) (w_m lS_15) rfl rfl f2 dS_remembers_2 ?_
  refine z_iload_n (j := 1) X dS_remembers_5 rfl rfl ?_
  refine z_iald (t0 := 0) X (kd_SE hi) rfl (by omega) (by decide) dS_remembers_6 (hv := (hex0 t (by omega))) ?_
  refine z_icmp_geN (tgt := 26) X dS_remembers_7 (by decide) (by omega) (by omega) (fun c_7 => ?_) (fun c_7 => ?_)
  · refine z_iconst (v := (nI 0)) X dS_remembers_26 (by decide) ?_
    refine z_zret X hlocks hr dS_remembers_27 (by first | rfl | decide) (by omega) (by omega) ?_
    first | exact ⟨by rw [if_neg (fun h => by omega)], rfl⟩ | exact ⟨by rw [if_neg (fun h => by have := (zlt3 hk hx).mp c_19; omega)], rfl⟩
  · refine z_iload_n (j := 2) X dS_remembers_10 rfl rfl ?_
    refine z_aload_n (j := 0) X dS_remembers_11 rfl rfl ?_
    refine z_getr (C := RS) (T := TS) (N := 4) (k := 2) X (w_in inS) rfl rfl (kd_S hi) (by decide) (w_m lS_15) rfl rfl f2 dS_remembers_12 ?_
    refine z_iload_n (j := 1) X dS_remembers_15 rfl rfl ?_
    refine z_iald (t0 := 0) X (kd_SE hi) rfl (by omega) (by decide) dS_remembers_16 (hv := (hex0 t (by omega))) ?_
    refine z_iconst (v := (nI 3)) X dS_remembers_17 (by decide) ?_
    refine z_isub X dS_remembers_18 ?_
    refine z_icmp_lt (tgt := 26) X dS_remembers_19 (by decide) (fun c_19 => ?_) (fun c_19 => ?_)
    · refine z_iconst (v := (nI 0)) X dS_remembers_26 (by decide) ?_
      refine z_zret X hlocks hr dS_remembers_27 (by first | rfl | decide) (by omega) (by omega) ?_
      first | exact ⟨by rw [if_neg (fun h => by omega)], rfl⟩ | exact ⟨by rw [if_neg (fun h => by have := (zlt3 hk hx).mp c_19; omega)], rfl⟩
    · refine z_iconst (v := (nI 1)) X dS_remembers_22 (by decide) ?_
      refine z_goto (tgt := 27) X dS_remembers_23 (by decide) ?_
      refine z_zret X hlocks hr dS_remembers_27 (by first | rfl | decide) (by omega) (by omega) ?_
      exact ⟨by rw [if_pos ⟨by omega, by have := mt (zlt3 hk hx).mpr c_19; omega⟩], rfl⟩

set_option maxHeartbeats 600000 in
set_option maxRecDepth 100000 in
theorem mS_offsetRemembered (l : Launch) (D : va_G) (dA : Nat → ClassId) {S : zS} {i : Nat} {u : zSn} {t k : Nat} (hi : i < 6) (hO : zSsA S i u) (ht : t < 12) (hk : k < 2 ^ 31) (hx : u.2.2.1 t < 2 ^ 30) : zMet l D vwCl zKK dA (zG0 D dA) yS_offsetRemembered (Cond.code yS_offsetRemembered cS_offsetRemembered 3 (some .int) :: zTs) { frames := 0, cells := 0, slots := 0, locals := 0 } 0 0 [.ref (10 + i), .int (nI t), .int (nI k)] S (fun v S' => v = some (.int (u.2.2.2 (t * 3 + k % 3))) ∧ S' = S) (fun _ _ => False) := by
  refine z_met (tys := ztys dA) (by decide) rfl zG0_K rfl (Nat.le_of_ble_eq_true rfl) (fun p e s m args below meth c A ad X hr hlocks hin hex => ?_)
  obtain ⟨hd1, hd2, hd3, f0, f1, f2, f3, hex0, hof0⟩ := id hO
  refine z_aload_n (j := 0) X dS_offsetRemembered_0 rfl rfl ?_
  refine z_getr (C := RS) (T := TS) (N := 4) (k := 3) X (w_in inS) rfl rfl (kd_S hi) (by decide) (w_m lS_19) rfl rfl f3 dS_offsetRemembered_1 ?_
  refine z_iload_n (j := 1) X dS_offsetRemembered_4 rfl rfl ?_
  refine z_iconst (v := (nI 3)) X dS_offsetRemembered_5 (by decide) ?_
  refine z_imul X dS_offsetRemembered_6 ?_
  refine z_top (pk_mul t 3) ?_
  refine z_iload_n (j := 2) X dS_offsetRemembered_7 rfl rfl ?_
  refine z_iconst (v := (nI 3)) X dS_offsetRemembered_8 (by decide) ?_
  refine z_irem X dS_offsetRemembered_9 (by decide) ?_
  refine z_top (pk_rem (a := k) (d := 3) (by omega) (by omega) (by omega)) ?_
  refine z_iadd X dS_offsetRemembered_10 ?_
  refine z_top (nI_add (t * 3) (k % 3)) ?_
  refine z_iald (t0 := 0) X (kd_SO hi) rfl (by omega) (by decide) dS_offsetRemembered_11 (hv := (hof0 (t * 3 + k % 3) (by omega))) ?_
  refine z_iret X hlocks hr dS_offsetRemembered_12 (by omega) (by omega) ?_
  exact ⟨rfl, rfl⟩

set_option maxHeartbeats 600000 in
set_option maxRecDepth 100000 in
theorem mS_startFor (l : Launch) (D : va_G) (dA : Nat → ClassId) {S : zS} {i : Nat} {u : zSn} {q : Int32} (hi : i < 6) (hO : zSsA S i u)  : zMet l D vwCl zKK dA (zG0 D dA) yS_startFor (Cond.code yS_startFor cS_startFor 2 none :: zTs) { frames := 1, cells := 0, slots := 0, locals := 23 } 0 0 [.ref (10 + i), .int q] S (fun v S' => v = none ∧ zSsA S' i (q, u.2.1, fun _ => 0, u.2.2.2) ∧ zfr (zOwnS i) S S' ∧ S'.1 = S.1) (fun _ _ => False) := by
  refine z_met (tys := ztys dA) (by decide) rfl zG0_K rfl (Nat.le_of_ble_eq_true rfl) (fun p e s m args below meth c A ad X hr hlocks hin hex => ?_)
  obtain ⟨hd1, hd2, hd3, f0, f1, f2, f3, hex0, hof0⟩ := id hO
  refine z_aload_n (j := 0) X dS_startFor_0 rfl rfl ?_
  refine z_iload_n (j := 1) X dS_startFor_1 rfl rfl ?_
  refine z_puti (C := RS) (T := TS) (N := 4) (k := 0) X (w_in inS) rfl rfl (kd_S hi) (by decide) (w_m lS_9) rfl tyS tyS_ok nmS rfl rfl (ty := .int) (by decide +kernel) rfl rfl dS_startFor_2 ?_
  refine z_aload_n (j := 0) X dS_startFor_5 rfl rfl ?_
  refine z_getr (C := RS) (T := TS) (N := 4) (k := 2) X (w_in inS) rfl rfl (kd_S hi) (by decide) (w_m lS_15) rfl rfl (rp_i f2) dS_startFor_6 ?_
  refine z_iconst (v := (nI 0)) X dS_startFor_9 (by decide) ?_
  refine z_callS (n := 2) (As := [.ref (20 + i), .int (nI 0)]) (rest := []) X zG0_m (mA_fill l D dA (kd_SE hi) (by decide)) (w_S X.2.2.2.2.1 lS_22 tA_fill i_java_util_Arrays kA_fill rfl rfl (by decide +kernel) ⟨Nat.le_of_ble_eq_true rfl, Nat.le_of_ble_eq_true rfl⟩) rfl rfl (Nat.le_of_ble_eq_true rfl) dS_startFor_10 ⟨Nat.le_of_ble_eq_true rfl, Nat.le_of_ble_eq_true rfl⟩ (fun v S1 hp => ?_) (fun E S1 hx => hx.elim)
  obtain ⟨hv, hS1⟩ := hp
  subst hv
  subst hS1
  refine z_vret X hlocks hr dS_startFor_13 (by omega) (by omega) ?_
  refine ⟨rfl, ⟨hd1, hd2, hd3, (zfil_out (Or.inl (by omega))).trans rd_s, (zfil_out (Or.inl (by omega))).trans (rd_i (Or.inr (by decide)) f1), f2, f3, fun t ht => zfil_in ht, fun k hk => (zfil_out (Or.inl (by omega))).trans (rd_i (Or.inl (by omega)) (hof0 k hk))⟩, (zfr.i (Or.inl rfl)).tr (zfr.fil (Or.inr (Or.inl rfl))), rfl⟩

set_option maxHeartbeats 600000 in
set_option maxRecDepth 100000 in
theorem mS_remember (l : Launch) (D : va_G) (dA : Nat → ClassId) {S : zS} {i : Nat} {u : zSn} {t : Nat} {y : Int32} (hi : i < 6) (hO : zSsA S i u) (ht : t < 12) (hx : u.2.2.1 t < 2 ^ 30) : zMet l D vwCl zKK dA (zG0 D dA) yS_remember (Cond.code yS_remember cS_remember 3 none :: zTs) { frames := 0, cells := 0, slots := 0, locals := 0 } 0 0 [.ref (10 + i), .int (nI t), .int y] S (fun v S' => v = none ∧ zSsA S' i (u.1, u.2.1, (fun j => if j = t then u.2.2.1 t + 1 else u.2.2.1 j), fun j => if j = t * 3 + u.2.2.1 t % 3 then y else u.2.2.2 j) ∧ zfr (zOwnS i) S S' ∧ S'.1 = S.1) (fun _ _ => False) := by
  refine z_met (tys := ztys dA) (by decide) rfl zG0_K rfl (Nat.le_of_ble_eq_true rfl) (fun p e s m args below meth c A ad X hr hlocks hin hex => ?_)
  obtain ⟨hd1, hd2, hd3, f0, f1, f2, f3, hex0, hof0⟩ := id hO
  refine z_aload_n (j := 0) X dS_remember_0 rfl rfl ?_
  refine z_getr (C := RS) (T := TS) (N := 4) (k := 3) X (w_in inS) rfl rfl (kd_S hi) (by decide) (w_m lS_19) rfl rfl f3 dS_remember_1 ?_
  refine z_iload_n (j := 1) X dS_remember_4 rfl rfl ?_
  refine z_iconst (v := (nI 3)) X dS_remember_5 (by decide) ?_
  refine z_imul X dS_remember_6 ?_
  refine z_top (pk_mul t 3) ?_
  refine z_aload_n (j := 0) X dS_remember_7 rfl rfl ?_
  refine z_getr (C := RS) (T := TS) (N := 4) (k := 2) X (w_in inS) rfl rfl (kd_S hi) (by decide) (w_m lS_15) rfl rfl f2 dS_remember_8 ?_
  refine z_iload_n (j := 1) X dS_remember_11 rfl rfl ?_
  refine z_iald (t0 := 0) X (kd_SE hi) rfl (by omega) (by decide) dS_remember_12 (hv := (hex0 t (by omega))) ?_
  refine z_iconst (v := (nI 3)) X dS_remember_13 (by decide) ?_
  refine z_irem X dS_remember_14 (by decide) ?_
  refine z_top (pk_rem (a := u.2.2.1 t) (d := 3) (by omega) (by omega) (by omega)) ?_
  refine z_iadd X dS_remember_15 ?_
  refine z_top (nI_add (t * 3) ((u.2.2.1 t) % 3)) ?_
  refine z_iload_n (j := 2) X dS_remember_16 rfl rfl ?_
  refine z_iast (t0 := 0) X (kd_SO hi) rfl (by omega) (by decide) dS_remember_17 ?_
  refine z_aload_n (j := 0) X dS_remember_18 rfl rfl ?_
  refine z_getr (C := RS) (T := TS) (N := 4) (k := 2) X (w_in inS) rfl rfl (kd_S hi) (by decide) (w_m lS_15) rfl rfl (rp_i f2) dS_remember_19 ?_
  refine z_iload_n (j := 1) X dS_remember_22 rfl rfl ?_
  refine z_dup2 X dS_remember_23 rfl rfl ?_
  refine z_iald (t0 := 0) X (kd_SE hi) rfl (by omega) (by decide) dS_remember_24 (hv := (rd_i (Or.inl (by omega)) (hex0 t (by omega)))) ?_
  refine z_iconst (v := (nI 1)) X dS_remember_25 (by decide) ?_
  refine z_iadd X dS_remember_26 ?_
  refine z_top (nI_add (u.2.2.1 t) 1) ?_
  refine z_iast (t0 := 0) X (kd_SE hi) rfl (by omega) (by decide) dS_remember_27 ?_
  refine z_vret X hlocks hr dS_remember_28 (by omega) (by omega) ?_
  refine ⟨rfl, ⟨hd1, hd2, hd3, (rd_i (Or.inl (by omega)) (rd_i (Or.inl (by omega)) f0)), (rd_i (Or.inl (by omega)) (rd_i (Or.inl (by omega)) f1)), f2, f3, fun t1 ht1 => ?_, fun k1 hk1 => ?_⟩, (zfr.i (Or.inr (Or.inr rfl))).tr (zfr.i (Or.inr (Or.inl rfl))), rfl⟩
  · show _ = nI (if t1 = t then u.2.2.1 t + 1 else u.2.2.1 t1)
    by_cases e9 : t1 = t
    · subst e9; rw [if_pos rfl]; exact rd_s
    · rw [if_neg e9]; exact rd_i (Or.inr e9) (rd_i (Or.inl (by omega)) (hex0 t1 ht1))
  · show _ = if k1 = t * 3 + u.2.2.1 t % 3 then y else u.2.2.2 k1
    by_cases e9 : k1 = t * 3 + u.2.2.1 t % 3
    · subst e9; rw [if_pos rfl]; exact rd_i (Or.inl (by omega)) rd_s
    · rw [if_neg e9]; exact rd_i (Or.inl (by omega)) (rd_i (Or.inr e9) (hof0 k1 hk1))
