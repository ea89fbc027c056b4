/-! THE LAW: its loop, its beginning (rows by program) -/
theorem z15 (x : Int32) : ∃ v, v < 16 ∧ x &&& nI 15 = nI v := by
  refine ⟨x.toBitVec.toNat % 16, Nat.mod_lt _ (by decide), ?_⟩
  rw [← Int32.toBitVec_inj]
  apply BitVec.eq_of_toNat_eq
  rw [Int32.toBitVec_and, BitVec.toNat_and]
  show x.toBitVec.toNat &&& 15 = _
  rw [show (15 : Nat) = 2 ^ 4 - 1 from rfl, Nat.and_two_pow_sub_one_eq_mod]
  show _ = (BitVec.ofNat 32 (x.toBitVec.toNat % 16)).toNat
  rw [BitVec.toNat_ofNat, Nat.mod_eq_of_lt (b := 2 ^ 32) (by omega)]
theorem z_tail {Ln j : Nat} (hL : Ln < 2 ^ 30) (hj : 6 * j < 2 ^ 30) : nI Ln - nI 6 < nI (6 * j) ↔ Ln < 6 * j + 6 := by
  rw [Int32.lt_iff_toInt_lt, pk_sub_toInt hL (by decide), nI_toInt (by omega)]
  omega
set_option maxHeartbeats 1000000 in
set_option maxRecDepth 100000 in
theorem law_loop {p : Program} {l : Launch} {e : Env} {s : State} {m : MethodId} {below : List Frame} {meth : Method} {c : Code} {D : va_G} {dA : Nat → ClassId} {O : (Nat → Nat) × zS} {c0 : Cond} {b0 Ln : Nat} {xs : Nat → Int32} (X : zX p s m #[Value.ref b0] c D vwCl zKK (fun q : Nat => s.heap.size ≤ q) code 7 "LogBrokerLaw" (c0 :: zTs) (ztys dA) (zG1 D dA)) (hr : meth.sig.returnType = ret) (hlocks : meth.locks = false) (hl0 : l.stackTraces = false) (hX : va_X b0 Ln xs s s.heap) (hbl : b0 < s.heap.size) (hO : O.1 0 = b0) (hLn : Ln ≤ 3072) : ∀ (f j : Nat) (S : zS) (b : zBr) (kc ks : Nat), Ln < 6 * j + 6 * f → 6 * j ≤ Ln → lwH S b → kc ≤ 300 + 40 * j → ks ≤ 8000 + 400 * j → AW p l e room_1 s m #[Value.ref b0] below meth c D vwCl zKK dA (fun q : Nat => s.heap.size ≤ q) O 7 S kc ks (lw_Z below #[Value.ref b0] s) 23 [(4, .int (nI (6 * j))), (0, .ref 0), (1, .ref 1), (2, .ref 1000), (3, .ref 2000)] [] := by
  have hbA : ¬ (fun q : Nat => s.heap.size ≤ q) b0 := Nat.not_le.mpr hbl
  intro f
  induction f with
  | zero => intro j S b kc ks h0 h1; omega
  | succ f ih =>
  intro j S b kc ks h0 h1 hH hkc hks
  refine z_iload (j := 0) X dL_law_23 rfl ?_
  refine z_aload_n (j := 1) X dL_law_25 rfl rfl ?_
  refine z_slen X hX hbl hbA hO dL_law_26 ?_
  refine z_bipush (v := (nI 6)) X dL_law_27 (by decide) ?_
  refine z_isub X dL_law_29 ?_
  refine z_icmp_gt (tgt := 1231) X dL_law_30 (by decide) (fun hg => ?_) (fun hg => ?_)
  · refine z_iconst (v := 1) X dL_law_1231 (by decide) ?_
    intro ad H locs ls hH9 hS9 hl9 ho9
    exact va_forget (fun q hq => hS9.2.2 q hq) (W.widen (by omega) (by omega) (lw_ret X.1 X.2.1 hr hlocks dL_law_1232))
  · have hge : 6 * j + 6 ≤ Ln := Nat.not_lt.mp (fun q => hg ((z_tail (by omega) (by omega)).mpr q))
    refine z_aload_n (j := 1) X dL_law_33 rfl rfl ?_
    refine z_iload (j := 0) X dL_law_34 rfl ?_
    refine z_sld (j := 6 * j) X hX hbl hbA hO (by omega) (by omega) dL_law_36 ?_
    refine z_bipush (v := (nI 15)) X dL_law_37 (by decide) ?_
    refine z_iand X dL_law_39 ?_
    obtain ⟨v, hv, hvx⟩ := z15 (xs (6 * j))
    refine z_top hvx ?_
    have hRf : 10 ≤ room_1.frames ∧ 300 ≤ room_1.locals := ⟨Nat.le_of_ble_eq_true rfl, Nat.le_of_ble_eq_true rfl⟩
    have hRc : kc + 40 ≤ room_1.cells := by show _ ≤ (601024 : Nat); omega
    have hRs : ks + 400 ≤ room_1.slots := by show _ ≤ (7293034 : Nat); omega
    have next : ∀ (S' : zS) (b' : zBr) (kc' ks' : Nat), lwH S' b' → kc' ≤ kc + 40 → ks' ≤ ks + 400 → AW p l e room_1 s m #[Value.ref b0] below meth c D vwCl zKK dA (fun q : Nat => s.heap.size ≤ q) O 7 S' kc' ks' (lw_Z below #[Value.ref b0] s) 1225 [(4, .int (nI (6 * j))), (0, .ref 0), (1, .ref 1), (2, .ref 1000), (3, .ref 2000)] [] := by
      intro S' b' kc' ks' hH' h3 h4
      refine z_iinc (j := 0) (v := nI (6 * (j + 1))) (L' := [(4, .int (nI (6 * (j + 1)))), (0, .ref 0), (1, .ref 1), (2, .ref 1000), (3, .ref 2000)]) X dL_law_1225 rfl (nI_add (6 * j) 6) (by decide) rfl ?_
      refine z_goto (tgt := 23) X dL_law_1228 (by decide) ?_
      exact ih (j + 1) S' b' kc' ks' (by omega) (by omega) hH' (by omega) (by omega)
    rcases (show v = 0 ∨ v = 1 ∨ v = 2 ∨ v = 3 ∨ v = 4 ∨ v = 5 ∨ v = 6 ∨ v = 7 ∨ v = 8 ∨ v = 9 ∨ v = 10 ∨ v = 11 ∨ v = 12 ∨ v = 13 ∨ v = 14 ∨ v = 15 by omega) with e9 | e9 | e9 | e9 | e9 | e9 | e9 | e9 | e9 | e9 | e9 | e9 | e9 | e9 | e9 | e9 <;> subst e9
    · refine z_tableIn (off := 76) (tgt := 116) X dL_law_40 (by decide) (by decide) (by decide +kernel) (by decide) ?_
      exact law_topic X hl0 hX hbl hbA hO (by omega) (by omega) hH hRf hRc hRs next
    · refine z_tableIn (off := 176) (tgt := 216) X dL_law_40 (by decide) (by decide) (by decide +kernel) (by decide) ?_
      exact law_open X hl0 hX hbl hbA hO (by omega) (by omega) hH hRf hRc hRs next
    · refine z_tableIn (off := 244) (tgt := 284) X dL_law_40 (by decide) (by decide) (by decide +kernel) (by decide) ?_
      exact law_produce X hl0 hX hbl hbA hO (by omega) (by omega) hH hRf hRc hRs next
    · refine z_tableIn (off := 348) (tgt := 388) X dL_law_40 (by decide) (by decide) (by decide +kernel) (by decide) ?_
      exact law_begin X hl0 hX hbl hbA hO (by omega) (by omega) hH hRf hRc hRs next
    · refine z_tableIn (off := 384) (tgt := 424) X dL_law_40 (by decide) (by decide) (by decide +kernel) (by decide) ?_
      exact law_end X hl0 hX hbl hbA hO (by omega) (by omega) hH hRf hRc hRs next
    · refine z_tableIn (off := 468) (tgt := 508) X dL_law_40 (by decide) (by decide) (by decide +kernel) (by decide) ?_
      exact law_fetch X hl0 hX hbl hbA hO (by omega) (by omega) hH hRf hRc hRs next
    · refine z_tableIn (off := 564) (tgt := 604) X dL_law_40 (by decide) (by decide) (by decide +kernel) (by decide) ?_
      exact law_told X hl0 hX hbl hbA hO (by omega) (by omega) hH hRf hRc hRs next
    · refine z_tableIn (off := 644) (tgt := 684) X dL_law_40 (by decide) (by decide) (by decide +kernel) (by decide) ?_
      exact law_compact X hl0 hX hbl hbA hO (by omega) (by omega) hH hRf hRc hRs next
    · refine z_tableIn (off := 700) (tgt := 740) X dL_law_40 (by decide) (by decide) (by decide +kernel) (by decide) ?_
      exact law_join X hl0 hX hbl hbA hO (by omega) (by omega) hH hRf hRc hRs next
    · refine z_tableIn (off := 780) (tgt := 820) X dL_law_40 (by decide) (by decide) (by decide +kernel) (by decide) ?_
      exact law_leave X hl0 hX hbl hbA hO (by omega) (by omega) hH hRf hRc hRs next
    · refine z_tableIn (off := 848) (tgt := 888) X dL_law_40 (by decide) (by decide) (by decide +kernel) (by decide) ?_
      exact law_owner X hl0 hX hbl hbA hO (by omega) (by omega) hH hRf hRc hRs next
    · refine z_tableIn (off := 916) (tgt := 956) X dL_law_40 (by decide) (by decide) (by decide +kernel) (by decide) ?_
      exact law_poll X hl0 hX hbl hbA hO (by omega) (by omega) hH hRf hRc hRs next
    · refine z_tableIn (off := 1008) (tgt := 1048) X dL_law_40 (by decide) (by decide) (by decide +kernel) (by decide) ?_
      exact law_keep X hl0 hX hbl hbA hO (by omega) (by omega) hH hRf hRc hRs next
    · refine z_tableIn (off := 1092) (tgt := 1132) X dL_law_40 (by decide) (by decide) (by decide +kernel) (by decide) ?_
      exact law_log X hl0 hX hbl hbA hO (by omega) (by omega) hH hRf hRc hRs next
    · refine z_tableIn (off := 1160) (tgt := 1200) X dL_law_40 (by decide) (by decide) (by decide +kernel) (by decide) ?_
      exact law_count X hl0 hX hbl hbA hO (by omega) (by omega) hH hRf hRc hRs next
    · refine z_tableOut (tgt := 1225) X dL_law_40 (by decide) (by decide) ?_
      exact next S b kc ks hH (by omega) (by omega)

def zS0 : zS := (fun _ => false, fun _ _ => 0, fun _ _ => none, fun _ _ => 0)
theorem zfr.add1 {S : zS} {n : Nat} : zfr (fun q => q = n) S (zadd S n) := ⟨fun q hq => zadd_n hq, fun _ _ => ⟨rfl, rfl, rfl⟩⟩
set_option maxHeartbeats 1000000 in
set_option maxRecDepth 100000 in
theorem law_start {p : Program} {l : Launch} {e : Env} {s : State} {m : MethodId} {below : List Frame} {meth : Method} {c : Code} {D : va_G} {dA : Nat → ClassId} {O : (Nat → Nat) × zS} {c0 : Cond} {b0 Ln : Nat} {xs : Nat → Int32} (X : zX p s m #[Value.ref b0] c D vwCl zKK (fun q : Nat => s.heap.size ≤ q) code 7 "LogBrokerLaw" (c0 :: zTs) (ztys dA) (zG1 D dA)) (hr : meth.sig.returnType = ret) (hlocks : meth.locks = false) (hl0 : l.stackTraces = false) (hX : va_X b0 Ln xs s s.heap) (hbl : b0 < s.heap.size) (hO : O.1 0 = b0) (hLn : Ln ≤ 3072) : AW p l e room_1 s m #[Value.ref b0] below meth c D vwCl zKK dA (fun q : Nat => s.heap.size ≤ q) O 7 zS0 0 0 (lw_Z below #[Value.ref b0] s) 0 [(0, .ref 0)] [] := by
  refine z_new (C := RB) (T := TB) (N := 11) (ci := 4) (n := 1) X (w_in inB) rfl rfl rfl rfl (by decide) tyB tyB_ok (by decide +kernel) (w_m lL_8) (w_m n_LogBroker) (w_m i_LogBroker) (Nat.le_of_ble_eq_true rfl) (Nat.le_of_ble_eq_true rfl) dL_law_0 ?_
  refine z_dup X dL_law_3 rfl ?_
  refine z_callI (n := 0) (As := []) (rest := [.ref 1]) X zG1_m (fun _ _ h => h) (mB_init l D dA zadd_s (fun n h1 h2 => zadd_n (by omega)) (fun k hk => rfl)) (w_I X.2.2.2.2.1 lL_71 jB_init i_LogBroker kB_init rfl rfl rfl (by decide +kernel) ⟨Nat.le_of_ble_eq_true rfl, Nat.le_of_ble_eq_true rfl⟩) rfl rfl (Nat.le_of_ble_eq_true rfl) dL_law_4 ⟨Nat.le_of_ble_eq_true rfl, Nat.le_of_ble_eq_true rfl⟩ (fun v S1 hp => ?_)
  obtain ⟨hv, hB, hf⟩ := hp
  subst hv
  refine z_astore_n (L' := [(1, .ref 1), (0, .ref 0)]) X dL_law_7 rfl (by decide) rfl ?_
  have hd1 : ∀ n, 1000 ≤ n → S1.1 n = false := fun n hn => (hf.1 n (by unfold zOwnB; omega)).trans (zadd_n (by omega))
  have hz1 : ∀ n k, 1000 ≤ n → S1.2.1 n k = 0 := fun n k hn => by rw [(hf.2 n (by unfold zOwnB; omega)).1]; rfl
  refine z_new (C := RM) (T := TM) (N := 28) (ci := 5) (n := 1000) X (w_in inM) rfl rfl rfl (hd1 1000 (by omega)) (by decide) tyM tyM_ok (by decide +kernel) (w_m lL_72) (w_m n_LogBrokerModel) (w_m i_LogBrokerModel) (Nat.le_of_ble_eq_true rfl) (Nat.le_of_ble_eq_true rfl) dL_law_8 ?_
  refine z_dup X dL_law_11 rfl ?_
  refine z_callI (n := 0) (As := []) (rest := [.ref 1000]) X zG1_m (fun _ _ h => h) (zMet_g zG1_0 (mM_init l D dA zadd_s (fun k => hz1 1000 k (by omega)) (fun n h1 h2 => (zadd_n (by omega)).trans (hd1 n (by omega))))) (w_I X.2.2.2.2.1 lL_74 jM_init i_LogBrokerModel kM_init rfl rfl rfl (by decide +kernel) ⟨Nat.le_of_ble_eq_true rfl, Nat.le_of_ble_eq_true rfl⟩) rfl rfl (Nat.le_of_ble_eq_true rfl) dL_law_12 ⟨Nat.le_of_ble_eq_true rfl, Nat.le_of_ble_eq_true rfl⟩ (fun v S2 hp => ?_)
  obtain ⟨hv, hA, hf2⟩ := hp
  subst hv
  refine z_astore_n (L' := [(2, .ref 1000), (1, .ref 1), (0, .ref 0)]) X dL_law_15 rfl (by decide) rfl ?_
  refine z_iconst (v := (nI 1)) X dL_law_16 (by decide) ?_
  refine z_newl (n := 2000) (t0 := 2) X rfl rfl ((hf2.1 2000 (by omega)).trans ((zadd_n (by omega)).trans (hd1 2000 (by omega)))) (by decide) (nI_pos (by decide)) (nI_clamp (by decide)) (by decide) (w_m ac_long) (Nat.le_of_ble_eq_true rfl) (Nat.le_of_ble_eq_true rfl) dL_law_17 ?_
  refine z_astore_n (L' := [(3, .ref 2000), (2, .ref 1000), (1, .ref 1), (0, .ref 0)]) X dL_law_19 rfl (by decide) rfl ?_
  refine z_iconst (v := (nI 0)) X dL_law_20 (by decide) ?_
  refine z_istore (L' := [(4, .int (nI 0)), (3, .ref 2000), (2, .ref 1000), (1, .ref 1), (0, .ref 0)]) X dL_law_21 (by decide) rfl ?_
  refine z_loc [0, 4, 3, 2, 1] rfl ?_
  have hB2 : zBrA (zadd S2 2000) zBr0 := zBrA_far (zBrA_far (zBrA_far hB zInv_0.1 (zfr.add1 (n := 1000)) (fun n h => by omega)) zInv_0.1 hf2 (fun n h => h.1)) zInv_0.1 (zfr.add1 (n := 2000)) (fun n h => by omega)
  exact law_loop X hr hlocks hl0 hX hbl hO hLn 513 0 (zadd S2 2000) zBr0 _ _ (by omega) (by omega) ⟨hB2, zMdA_far hA (zfr.add1 (n := 2000)) (fun n h => Or.inr h), zInv_0, zadd_s⟩ (by show _ ≤ 300 + 40 * 0; decide) (by show _ ≤ 8000 + 400 * 0; decide)