/-! CONTRACTS of the reference: opening, the constructor (rows by program) -/
set_option maxHeartbeats 600000 in
set_option maxRecDepth 100000 in
theorem mM_open (l : Launch) (D : va_G) (dA : Nat → ClassId) {S : zS} {b : zBr} {x y : Int32} (hA : zMdA S b) (hI : zInv b)  : zMet l D vwCl zKK dA (zG0 D dA) yM_open (Cond.code yM_open cM_open 7 (some .int) :: zTs) { frames := 5, cells := 0, slots := 0, locals := 116 } 0 0 [.ref 1000, .int x, .int y] S (fun v S' => v = some (.int (sOpen b x y).1.2) ∧ S'.2.1 1000 27 = nI (sOpen b x y).1.1 ∧ zMdA S' (sOpen b x y).2 ∧ zch oM S S') (fun _ _ => False) := by
  refine z_met (tys := ztys dA) (by decide) rfl zG0_K rfl (Nat.le_of_ble_eq_true rfl) (fun p e s m args below meth c A ad X hr hlocks hin hex => ?_)
  refine z_aload_n (j := 0) X dM_open_0 rfl rfl ?_
  refine z_aload_n (j := 0) X dM_open_1 rfl rfl ?_
  refine z_iload_n (j := 1) X dM_open_2 rfl rfl ?_
  refine z_callV (n := 1) (As := [.int x]) (rest := [.ref 1000]) X zG0_m (mM_badSession l D dA) (w_V X.2.2.2.2.1 lM_112 jM_badSession sM_badSession i_LogBrokerModel kM_badSession rfl rfl (by decide +kernel) ⟨Nat.le_of_ble_eq_true rfl, Nat.le_of_ble_eq_true rfl⟩) rfl rfl rfl rfl rfl (Nat.le_of_ble_eq_true rfl) dM_open_3 ⟨Nat.le_of_ble_eq_true rfl, Nat.le_of_ble_eq_true rfl⟩ (fun v S9 hp => ?_) (fun E S1 hx => hx.elim)
  obtain ⟨hS9, hp⟩ := hp
  have hS9 := hS9.symm
  subst hS9
  rcases hp with ⟨hv, hp⟩ | ⟨hv, hp⟩ <;> subst hv
  · have hbS := hp
    refine z_if_ne (tgt := 18) X dM_open_6 (by decide) (fun c_6 => ?_) (fun c_6 => absurd c_6 (by decide))
    refine z_iconst (v := (nI 1)) X dM_open_18 (by decide) ?_
    refine z_goto (tgt := 23) X dM_open_19 (by decide) ?_
    refine z_puti (C := RM) (T := TM) (N := 28) (k := 27) X (w_in inM) rfl rfl rfl (by decide) (w_m lM_77) rfl tyM tyM_ok nmM rfl rfl (ty := .int) (by decide +kernel) rfl rfl dM_open_23 ?_
    refine z_aload_n (j := 0) X dM_open_26 rfl rfl ?_
    refine z_geti (C := RM) (T := TM) (N := 28) (k := 27) X (w_in inM) rfl rfl rfl (by decide) (w_m lM_77) rfl rfl dM_open_27 (hv := rd_s) ?_
    refine z_if_eq (tgt := 35) X dM_open_30 (by decide) (fun c_30 => absurd c_30 (by decide)) (fun c_30 => ?_)
    refine z_iconst (v := (nI 0)) X dM_open_33 (by decide) ?_
    refine z_iret X hlocks hr dM_open_34 (by omega) (by omega) ?_
    have hs : sOpen b x y = ((1, 0), b) := by
      unfold sOpen
      first | rw [zA_n hbS] | (rw [zA_s hi (by decide)]; exact zA_n (by first | exact Or.inl (by rw [nI_0]; exact c_10) | exact Or.inr (Int32.not_le.mp c_15)))
    rw [hs]
    exact ⟨congrArg (fun z => some (Value.int z)) nI_0, rd_s, (zMdA_th hA), (zch.rf.tr (zch.i ⟨by omega, by omega⟩))⟩
  · obtain ⟨i, hx9, hi⟩ := hp
    subst hx9
    refine z_if_ne (tgt := 18) X dM_open_6 (by decide) (fun c_6 => absurd c_6 (by decide)) (fun c_6 => ?_)
    refine z_iload_n (j := 2) X dM_open_9 rfl rfl ?_
    refine z_if_lt (tgt := 18) X dM_open_10 (by decide) (fun c_10 => ?_) (fun c_10 => ?_)
    · refine z_iconst (v := (nI 1)) X dM_open_18 (by decide) ?_
      refine z_goto (tgt := 23) X dM_open_19 (by decide) ?_
      refine z_puti (C := RM) (T := TM) (N := 28) (k := 27) X (w_in inM) rfl rfl rfl (by decide) (w_m lM_77) rfl tyM tyM_ok nmM rfl rfl (ty := .int) (by decide +kernel) rfl rfl dM_open_23 ?_
      refine z_aload_n (j := 0) X dM_open_26 rfl rfl ?_
      refine z_geti (C := RM) (T := TM) (N := 28) (k := 27) X (w_in inM) rfl rfl rfl (by decide) (w_m lM_77) rfl rfl dM_open_27 (hv := rd_s) ?_
      refine z_if_eq (tgt := 35) X dM_open_30 (by decide) (fun c_30 => absurd c_30 (by decide)) (fun c_30 => ?_)
      refine z_iconst (v := (nI 0)) X dM_open_33 (by decide) ?_
      refine z_iret X hlocks hr dM_open_34 (by omega) (by omega) ?_
      have hs : sOpen b (nI i) y = ((1, 0), b) := by
        unfold sOpen
        first | rw [zA_n hbS] | (rw [zA_s hi (by decide)]; exact zA_n (by first | exact Or.inl (by rw [nI_0]; exact c_10) | exact Or.inr (Int32.not_le.mp c_15)))
      rw [hs]
      exact ⟨congrArg (fun z => some (Value.int z)) nI_0, rd_s, (zMdA_th hA), (zch.rf.tr (zch.i ⟨by omega, by omega⟩))⟩
    · refine z_iload_n (j := 2) X dM_open_13 rfl rfl ?_
      refine z_iconst (v := (nI 3)) X dM_open_14 (by decide) ?_
      refine z_icmp_le (tgt := 22) X dM_open_15 (by decide) (fun c_15 => ?_) (fun c_15 => ?_)
      · obtain ⟨p9, hy9, hp9⟩ := zRg (n := 3) (x := y) (by decide) (fun h => c_10 (by rw [← nI_0]; exact h)) (Int32.not_lt.mpr c_15)
        subst hy9
        refine z_iconst (v := (nI 0)) X dM_open_22 (by decide) ?_
        refine z_puti (C := RM) (T := TM) (N := 28) (k := 27) X (w_in inM) rfl rfl rfl (by decide) (w_m lM_77) rfl tyM tyM_ok nmM rfl rfl (ty := .int) (by decide +kernel) rfl rfl dM_open_23 ?_
        generalize hS1 : zsi S 1000 27 (nI 0) = S1
        have hA1 : zMdA S1 b := by rw [← hS1]; exact zMdA_th hA
        have h27 : S1.2.1 1000 27 = nI 0 := by rw [← hS1]; exact rd_s
        have hc1 : zch oM S S1 := by rw [← hS1]; exact zch.i ⟨by decide, by decide⟩
        refine z_aload_n (j := 0) X dM_open_26 rfl rfl ?_
        refine z_geti (C := RM) (T := TM) (N := 28) (k := 27) X (w_in inM) rfl rfl rfl (by decide) (w_m lM_77) rfl rfl dM_open_27 (hv := h27) ?_
        refine z_if_eq (tgt := 35) X dM_open_30 (by decide) (fun c_30 => ?_) (fun c_30 => absurd c_30 (by decide))
        have tail : ∀ (SX SY : zS) (B : zBr) (v3 v4 v5 : Int32), zMdA SX B → zInv B → sAb b p9 = some B → (B.2.2.1 i).2.1 = nI 0 → (∀ j, j < 6 → (B.2.2.1 j).2.1 = nI 1 → ¬ (B.2.2.1 j).1 = nI p9) → B.2.2.2.2.1 = b.2.2.2.2.1 → SX.2.1 1000 27 = nI 0 → zch oM S SX → zch (fun n _ => n = 1017) SX SY → (∀ q2, q2 < 4 → q2 ≠ p9 → SY.2.1 1017 q2 = (sOp2 B i p9).2.2.2.1 q2) → ¬ (¬ (b.2.2.1 i).2.1 = nI 0 ∧ ¬ (b.2.2.1 i).1 = nI p9) → AW p l e { frames := 5, cells := 0, slots := 0, locals := 116 } s m args below meth c D vwCl zKK dA A (ad, S) 7 SY 0 0 (vx_MQ below (zQc D vwCl zKK dA A ad S (fun v S' => v = some (.int (sOpen b (nI i) (nI p9)).1.2) ∧ S'.2.1 1000 27 = nI (sOpen b (nI i) (nI p9)).1.1 ∧ zMdA S' (sOpen b (nI i) (nI p9)).2 ∧ zch oM S S')) (zXC D vwCl zKK dA A ad S (fun _ _ => False)) args s 0 0 A) 172 [(5, .int v5), (4, .int v4), (3, .int v3), (0, .ref 1000), (1, .int (nI i)), (2, .int (nI p9))] [] := by
          intro SX SY B v3 v4 v5 hBX hIB hab haB hPB hop h27X hcX hcY h17 hno
          have hPY : mP SY := mP_fr hBX.1 hcY
          have loop : ∀ (f k : Nat) (S3 : zS), 12 - k < f → k ≤ 12 → zch (fun n j => n = 1014 ∧ i * 12 ≤ j ∧ j < i * 12 + 12) (zsi (zsi SY 1013 i (nI p9)) 1017 p9 (nI i)) S3 → (∀ t, t < k → S3.2.1 1014 (i * 12 + t) = nI 0) → AW p l e { frames := 5, cells := 0, slots := 0, locals := 116 } s m args below meth c D vwCl zKK dA A (ad, S) 7 S3 0 0 (vx_MQ below (zQc D vwCl zKK dA A ad S (fun v S' => v = some (.int (sOpen b (nI i) (nI p9)).1.2) ∧ S'.2.1 1000 27 = nI (sOpen b (nI i) (nI p9)).1.1 ∧ zMdA S' (sOpen b (nI i) (nI p9)).2 ∧ zch oM S S')) (zXC D vwCl zKK dA A ad S (fun _ _ => False)) args s 0 0 A) 189 [(6, .int (nI k)), (5, .int v5), (4, .int v4), (3, .int v3), (0, .ref 1000), (1, .int (nI i)), (2, .int (nI p9))] [] := by
            intro f
            induction f with
            | zero => intro k S3 h0; omega
            | succ f ih =>
            intro k S3 h0 hk12 hc3 h143
            have hP3 : mP S3 := mP_fr (S := (zsi (zsi SY 1013 i (nI p9)) 1017 p9 (nI i))) (own := fun n j => n = 1014 ∧ i * 12 ≤ j ∧ j < i * 12 + 12) ⟨hPY.1, hPY.2⟩ hc3
            refine z_iload (j := 0) X dM_open_189 rfl ?_
            refine z_bipush (v := (nI 12)) X dM_open_191 (by decide) ?_
            refine z_icmp_geN (tgt := 215) X dM_open_193 (by decide) (by omega) (by omega) (fun c_193 => ?_) (fun c_193 => ?_)
            · refine z_aload_n (j := 4) X dM_open_215 rfl rfl ?_
              refine z_getr (C := RM) (T := TM) (N := 28) (k := 17) X (w_in inM) rfl rfl rfl (by decide) (w_m lM_62) rfl rfl (hP3.2 17 (by decide)) dM_open_216 ?_
              refine z_iload_n (j := 6) X dM_open_219 rfl rfl ?_
              refine z_dup2 X dM_open_220 rfl rfl ?_
              refine z_iald (t0 := 0) X rfl rfl (by omega) (by decide) dM_open_221 (hv := ((hc3.2.2 _ _ (by omega)).trans (rd_i (Or.inl (by omega)) (rd_i (Or.inl (by omega)) ((hcY.2.2 _ _ (by omega)).trans ((hBX.2.2.2.2.2.1 p9 (by omega)).2.trans (by rw [hop]))))))) ?_
              refine z_iconst (v := (nI 1)) X dM_open_222 (by decide) ?_
              refine z_iadd X dM_open_223 ?_
              refine z_iast (t0 := 0) X rfl rfl (by omega) (by decide) dM_open_224 ?_
              refine z_aload_n (j := 4) X dM_open_225 rfl rfl ?_
              refine z_getr (C := RM) (T := TM) (N := 28) (k := 17) X (w_in inM) rfl rfl rfl (by decide) (w_m lM_62) rfl rfl (rp_i (hP3.2 17 (by decide))) dM_open_226 ?_
              refine z_iload_n (j := 6) X dM_open_229 rfl rfl ?_
              refine z_iald (t0 := 0) X rfl rfl (by omega) (by decide) dM_open_230 (hv := rd_s) ?_
              refine z_iret X hlocks hr dM_open_231 (by omega) (by omega) ?_
              have e12 : k = 12 := by omega
              subst e12
              have hs : sOpen b (nI i) (nI p9) = ((0, B.2.2.2.2.1 p9 + nI 1), sOp2 B i p9) := by unfold sOpen; rw [zA_s hi (by decide), zA_s hp9 (by decide), if_neg hno, hab]; rfl
              rw [hs]
              have hr := sOp2_rest (b := B) (i := i) (p := p9)
              refine ⟨by rw [hop], rd_i (Or.inl (by omega)) ((hc3.2.2 _ _ (by omega)).trans (rd_i (Or.inl (by omega)) (rd_i (Or.inl (by omega)) ((hcY.2.2 _ _ (by omega)).trans h27X)))), ?_, ?_⟩
              · refine zMdA_op2 hBX hIB (by omega) haB hPB (S' := zsi S3 1018 p9 (b.2.2.2.2.1 p9 + nI 1)) ?_ (rd_i (Or.inl (by omega)) ((hc3.2.2 _ _ (by omega)).trans (rd_i (Or.inl (by omega)) rd_s))) (fun t ht => rd_i (Or.inl (by omega)) (h143 t ht)) (fun q2 hq2 => ?_) (fun q2 hq2 => ?_)
                · exact ((((hcY.mono (fun n k h => Or.inr (Or.inr (Or.inl h)))).tr (zch.i (Or.inl ⟨rfl, rfl⟩))).tr (zch.i (Or.inr (Or.inr (Or.inl rfl))))).tr (hc3.mono (fun n k h => Or.inr (Or.inl h)))).tr (zch.i (Or.inr (Or.inr (Or.inr rfl))))
                · refine rd_i (Or.inl (by omega)) ((hc3.2.2 _ _ (by omega)).trans ?_)
                  by_cases e9 : q2 = p9
                  · subst e9; rw [sOp2_cu, if_pos rfl]; exact rd_s
                  · exact rd_i (Or.inr e9) (rd_i (Or.inl (by omega)) (h17 q2 hq2 e9))
                · rw [hr.2.2.2.2, hop]
                  by_cases e9 : q2 = p9
                  · subst e9; rw [if_pos rfl]; exact rd_s
                  · rw [if_neg e9]
                    refine rd_i (Or.inr e9) ((hc3.2.2 _ _ (by omega)).trans (rd_i (Or.inl (by omega)) (rd_i (Or.inl (by omega)) ((hcY.2.2 _ _ (by omega)).trans ?_))))
                    rw [← hop]; exact (hBX.2.2.2.2.2.1 q2 hq2).2
              · exact (((((hcX.tr (hcY.mono (fun n k h => ⟨by omega, by omega⟩))).tr (zch.i ⟨by omega, by omega⟩)).tr (zch.i ⟨by omega, by omega⟩)).tr (hc3.mono (fun n k h => ⟨by omega, by omega⟩)))).tr (zch.i ⟨by omega, by omega⟩)
            · refine z_aload_n (j := 4) X dM_open_196 rfl rfl ?_
              refine z_getr (C := RM) (T := TM) (N := 28) (k := 13) X (w_in inM) rfl rfl rfl (by decide) (w_m lM_50) rfl rfl (hP3.2 13 (by decide)) dM_open_197 ?_
              refine z_iload_n (j := 5) X dM_open_200 rfl rfl ?_
              refine z_bipush (v := (nI 12)) X dM_open_201 (by decide) ?_
              refine z_imul X dM_open_203 ?_
              refine z_top (pk_mul i 12) ?_
              refine z_iload (j := 0) X dM_open_204 rfl ?_
              refine z_iadd X dM_open_206 ?_
              refine z_top (nI_add (i * 12) k) ?_
              refine z_iconst (v := (nI 0)) X dM_open_207 (by decide) ?_
              refine z_iast (t0 := 0) X rfl rfl (by omega) (by decide) dM_open_208 ?_
              refine z_iinc (j := 0) (v := (nI (k + 1))) (L' := [(6, .int (nI (k + 1))), (5, .int v5), (4, .int v4), (3, .int v3), (0, .ref 1000), (1, .int (nI i)), (2, .int (nI p9))]) X dM_open_209 rfl (nI_1 k) (by decide) rfl ?_
              refine z_goto (tgt := 189) X dM_open_212 (by decide) ?_
              exact ih (k + 1) _ (by omega) (by omega) (hc3.tr (zch.i ⟨rfl, by omega, by omega⟩)) (fun t ht => by
                by_cases e9 : t = k
                · subst e9; exact rd_s
                · exact rd_i (Or.inr (by omega)) (h143 t (by omega)))
          refine z_aload_n (j := 3) X dM_open_172 rfl rfl ?_
          refine z_getr (C := RM) (T := TM) (N := 28) (k := 12) X (w_in inM) rfl rfl rfl (by decide) (w_m lM_47) rfl rfl (hPY.2 12 (by decide)) dM_open_173 ?_
          refine z_iload_n (j := 4) X dM_open_176 rfl rfl ?_
          refine z_iload_n (j := 5) X dM_open_177 rfl rfl ?_
          refine z_iast (t0 := 0) X rfl rfl (by omega) (by decide) dM_open_178 ?_
          refine z_aload_n (j := 3) X dM_open_179 rfl rfl ?_
          refine z_getr (C := RM) (T := TM) (N := 28) (k := 16) X (w_in inM) rfl rfl rfl (by decide) (w_m lM_59) rfl rfl (rp_i (hPY.2 16 (by decide))) dM_open_180 ?_
          refine z_iload_n (j := 5) X dM_open_183 rfl rfl ?_
          refine z_iload_n (j := 4) X dM_open_184 rfl rfl ?_
          refine z_iast (t0 := 0) X rfl rfl (by omega) (by decide) dM_open_185 ?_
          refine z_iconst (v := (nI 0)) X dM_open_186 (by decide) ?_
          refine z_istore (L' := [(6, .int (nI 0)), (5, .int v5), (4, .int v4), (3, .int v3), (0, .ref 1000), (1, .int (nI i)), (2, .int (nI p9))]) X dM_open_187 (by decide) rfl ?_
          refine z_loc [0, 1, 2, 3, 4, 5, 6] rfl ?_
          exact loop 13 0 _ (by omega) (by omega) zch.rf (fun t ht => by omega)
        refine z_aload_n (j := 0) X dM_open_35 rfl rfl ?_
        refine z_getr (C := RM) (T := TM) (N := 28) (k := 12) X (w_in inM) rfl rfl rfl (by decide) (w_m lM_47) rfl rfl (hA1.1.2 12 (by decide)) dM_open_36 ?_
        refine z_iload_n (j := 1) X dM_open_39 rfl rfl ?_
        refine z_iald (t0 := 0) X rfl rfl (by omega) (by decide) dM_open_40 (hv := (hA1.2.2.2.2.1 i (by omega)).1) ?_
        refine z_istore_n (L' := [(3, .int ((b.2.2.1 i).1)), (0, .ref 1000), (1, .int (nI i)), (2, .int (nI p9))]) X dM_open_41 rfl (by decide) rfl ?_
        refine z_iload_n (j := 0) X dM_open_42 rfl rfl ?_
        rcases (hI.1.2.2.2.1 i (by omega)).1 with hb1 | ⟨q, hq4, hq1⟩
        · refine z_if_lt (tgt := 65) X dM_open_43 (by decide) (fun c_43 => ?_) (fun c_43 => absurd (by rw [hb1]; decide) c_43)
          have hno : ¬ (¬ (b.2.2.1 i).2.1 = nI 0 ∧ ¬ (b.2.2.1 i).1 = nI p9) := fun h => by
            obtain ⟨q2, hq5, hq6, hq7⟩ := hI.2.2.2.1 i (by omega) ((hI.1.2.2.2.1 i (by omega)).2.resolve_left h.1)
            exact nI_m1 (by omega) (hq6.symm.trans hb1)
          refine z_iconst (v := (nI 0)) X dM_open_65 (by decide) ?_
          refine z_istore (L' := [(4, .int (nI 0)), (3, .int ((b.2.2.1 i).1)), (0, .ref 1000), (1, .int (nI i)), (2, .int (nI p9))]) X dM_open_66 (by decide) rfl ?_
          refine z_aload_n (j := 2) X dM_open_68 rfl rfl ?_
          refine z_getr (C := RM) (T := TM) (N := 28) (k := 16) X (w_in inM) rfl rfl rfl (by decide) (w_m lM_59) rfl rfl (hA1.1.2 16 (by decide)) dM_open_69 ?_
          refine z_iload_n (j := 4) X dM_open_72 rfl rfl ?_
          refine z_iald (t0 := 0) X rfl rfl (by omega) (by decide) dM_open_73 (hv := (hA1.2.2.2.2.2.1 p9 (by omega)).1) ?_
          refine z_istore (L' := [(5, .int (b.2.2.2.1 p9)), (4, .int (nI 0)), (3, .int ((b.2.2.1 i).1)), (0, .ref 1000), (1, .int (nI i)), (2, .int (nI p9))]) X dM_open_74 (by decide) rfl ?_
          refine z_iload (j := 1) X dM_open_76 rfl ?_
          refine z_if_eq (tgt := 98) X dM_open_78 (by decide) (fun c_78 => ?_) (fun c_78 => absurd c_78 (by decide))
          rcases hI.1.2.2.2.2.2.1 p9 (by omega) with hcp | ⟨j9, hj9, hcp⟩ <;> rw [hcp]
          · have hab : sAb b p9 = some b := by
              unfold sAb
              rw [if_neg (fun h => h.1 hcp)]
            refine z_iload (j := 0) X dM_open_98 rfl ?_
            refine z_if_lt (tgt := 127) X dM_open_100 (by decide) (fun c_100 => ?_) (fun c_100 => absurd c_100 (by decide))
            refine z_aload_n (j := 3) X dM_open_127 rfl rfl ?_
            refine z_geti (C := RM) (T := TM) (N := 28) (k := 27) X (w_in inM) rfl rfl rfl (by decide) (w_m lM_77) rfl rfl dM_open_128 (hv := h27) ?_
            refine z_if_eq (tgt := 136) X dM_open_131 (by decide) (fun c_131 => ?_) (fun c_131 => absurd c_131 (by decide))
            refine z_iload (j := 0) X dM_open_136 rfl ?_
            refine z_if_lt (tgt := 160) X dM_open_138 (by decide) (fun c_138 => ?_) (fun c_138 => absurd c_138 (by decide))
            refine z_iload (j := 1) X dM_open_160 rfl ?_
            refine z_if_eq (tgt := 172) X dM_open_162 (by decide) (fun c_162 => ?_) (fun c_162 => absurd c_162 (by decide))
            obtain ⟨g1, g2, g3, g4⟩ := zInv_ab hI (by omega) hab
            have haB : (b.2.2.1 i).2.1 = nI 0 := (g1.1.2.2.2.1 i (by omega)).2.resolve_right (fun h5 => by
              obtain ⟨h6, h7⟩ := g4 i (by omega) h5
              exact hno ⟨fun e => by rw [h6] at e; exact absurd e (by decide), by rw [← g3]; exact h7⟩)
            have hPB : ∀ j, j < 6 → (b.2.2.1 j).2.1 = nI 1 → ¬ (b.2.2.1 j).1 = nI p9 := fun j hj h5 => (g4 j hj h5).2
            refine z_loc [0, 1, 2, 3, 4, 5] rfl ?_
            exact tail S1 _ b _ _ _ hA1 g1 hab haB hPB rfl h27 hc1 zch.rf (fun q2 hq2 hne => by
              rw [sOp2_cu, if_neg hne, g3, hb1, if_neg (fun h => h.1.1 rfl)]; exact (hA1.2.2.2.2.2.1 q2 hq2).1) hno
          · have hbj : (b.2.2.1 j9).1 = nI p9 := hI.2.2.1 p9 j9 (by omega) hj9 hcp
            have hcj : zCur b j9 := by unfold zCur; rw [hbj, nI_clamp (by omega)]; exact hcp
            refine z_iload (j := 0) X dM_open_98 rfl ?_
            refine z_if_lt (tgt := 127) X dM_open_100 (by decide) (fun c_100 => absurd c_100 (nI_pos (by omega))) (fun c_100 => ?_)
            refine z_aload_n (j := 3) X dM_open_103 rfl rfl ?_
            refine z_getr (C := RM) (T := TM) (N := 28) (k := 15) X (w_in inM) rfl rfl rfl (by decide) (w_m lM_56) rfl rfl (hA1.1.2 15 (by decide)) dM_open_104 ?_
            refine z_iload (j := 0) X dM_open_107 rfl ?_
            refine z_zald (t0 := 1) X rfl rfl (by omega) (by decide) dM_open_109 (hv := (hA1.2.2.2.2.1 j9 (by omega)).2.1) ?_
            refine z_if_eq (tgt := 127) X dM_open_110 (by decide) (fun c_110 => ?_) (fun c_110 => ?_)
            · have hab : sAb b p9 = some b := by
                unfold sAb
                rw [if_neg (fun h => h.2 (by rw [hcp, nI_clamp (by omega)]; exact c_110.trans nI_0.symm))]
              refine z_aload_n (j := 3) X dM_open_127 rfl rfl ?_
              refine z_geti (C := RM) (T := TM) (N := 28) (k := 27) X (w_in inM) rfl rfl rfl (by decide) (w_m lM_77) rfl rfl dM_open_128 (hv := h27) ?_
              refine z_if_eq (tgt := 136) X dM_open_131 (by decide) (fun c_131 => ?_) (fun c_131 => absurd c_131 (by decide))
              refine z_iload (j := 0) X dM_open_136 rfl ?_
              refine z_if_lt (tgt := 160) X dM_open_138 (by decide) (fun c_138 => absurd c_138 (nI_pos (by omega))) (fun c_138 => ?_)
              refine z_aload_n (j := 3) X dM_open_141 rfl rfl ?_
              refine z_getr (C := RM) (T := TM) (N := 28) (k := 15) X (w_in inM) rfl rfl rfl (by decide) (w_m lM_56) rfl rfl (hA1.1.2 15 (by decide)) dM_open_142 ?_
              refine z_iload (j := 0) X dM_open_145 rfl ?_
              refine z_zald (t0 := 1) X rfl rfl (by omega) (by decide) dM_open_147 (hv := (hA1.2.2.2.2.1 j9 (by omega)).2.1) ?_
              refine z_if_eq (tgt := 160) X dM_open_148 (by decide) (fun c_148 => ?_) (fun c_148 => absurd c_110 c_148)
              refine z_iload (j := 1) X dM_open_160 rfl ?_
              refine z_if_eq (tgt := 172) X dM_open_162 (by decide) (fun c_162 => ?_) (fun c_162 => absurd c_162 (by decide))
              obtain ⟨g1, g2, g3, g4⟩ := zInv_ab hI (by omega) hab
              have haB : (b.2.2.1 i).2.1 = nI 0 := (g1.1.2.2.2.1 i (by omega)).2.resolve_right (fun h5 => by
                obtain ⟨h6, h7⟩ := g4 i (by omega) h5
                exact hno ⟨fun e => by rw [h6] at e; exact absurd e (by decide), by rw [← g3]; exact h7⟩)
              have hPB : ∀ j, j < 6 → (b.2.2.1 j).2.1 = nI 1 → ¬ (b.2.2.1 j).1 = nI p9 := fun j hj h5 => (g4 j hj h5).2
              refine z_loc [0, 1, 2, 3, 4, 5] rfl ?_
              exact tail S1 _ b _ _ _ hA1 g1 hab haB hPB rfl h27 hc1 zch.rf (fun q2 hq2 hne => by
                rw [sOp2_cu, if_neg hne, g3, hb1, if_neg (fun h => h.1.1 rfl)]; exact (hA1.2.2.2.2.2.1 q2 hq2).1) hno
            · refine z_aload_n (j := 3) X dM_open_113 rfl rfl ?_
              refine z_iload (j := 0) X dM_open_114 rfl ?_
              refine z_callV (n := 1) (As := [.int (nI j9)]) (rest := []) X zG0_m (mM_roomToEnd l D dA (b := b) (i := j9) (q := (b.2.2.1 j9).1) hA1.1 hA1.2.2.2.1 (fun t ht => zBrW_a hI.1 hI.2.1 ht) (fun t ht o e he _ => zHq hI.2.2.1 (fun t ht => (zBrW_a hI.1 hI.2.1 ht).2) hj9 ⟨p9, by omega, hbj⟩ hcj ht he)) (w_V X.2.2.2.2.1 lM_116 jM_roomToEnd sM_roomToEnd i_LogBrokerModel kM_roomToEnd rfl rfl (by decide +kernel) ⟨Nat.le_of_ble_eq_true rfl, Nat.le_of_ble_eq_true rfl⟩) rfl rfl rfl rfl rfl (Nat.le_of_ble_eq_true rfl) dM_open_116 ⟨Nat.le_of_ble_eq_true rfl, Nat.le_of_ble_eq_true rfl⟩ (fun v S9 hp => ?_) (fun E S1 hx => hx.elim)
              obtain ⟨hS9, hp⟩ := hp
              have hS9 := hS9.symm
              subst hS9
              rcases hp with ⟨hv, hp⟩ | ⟨hv, hp⟩ <;> subst hv
              · have hrm := hp
                have hab : sAb b p9 = some (sDec b j9 false) := by
                  unfold sAb
                  rw [hcp, nI_clamp (by omega), if_pos ⟨nI_m1 (by omega), fun h => c_110 (h.trans nI_0)⟩, if_pos (by rw [← hbj]; exact hrm)]
                refine z_if_ne (tgt := 127) X dM_open_119 (by decide) (fun c_119 => ?_) (fun c_119 => absurd c_119 (by decide))
                refine z_aload_n (j := 3) X dM_open_127 rfl rfl ?_
                refine z_geti (C := RM) (T := TM) (N := 28) (k := 27) X (w_in inM) rfl rfl rfl (by decide) (w_m lM_77) rfl rfl dM_open_128 (hv := h27) ?_
                refine z_if_eq (tgt := 136) X dM_open_131 (by decide) (fun c_131 => ?_) (fun c_131 => absurd c_131 (by decide))
                refine z_iload (j := 0) X dM_open_136 rfl ?_
                refine z_if_lt (tgt := 160) X dM_open_138 (by decide) (fun c_138 => absurd c_138 (nI_pos (by omega))) (fun c_138 => ?_)
                refine z_aload_n (j := 3) X dM_open_141 rfl rfl ?_
                refine z_getr (C := RM) (T := TM) (N := 28) (k := 15) X (w_in inM) rfl rfl rfl (by decide) (w_m lM_56) rfl rfl (hA1.1.2 15 (by decide)) dM_open_142 ?_
                refine z_iload (j := 0) X dM_open_145 rfl ?_
                refine z_zald (t0 := 1) X rfl rfl (by omega) (by decide) dM_open_147 (hv := (hA1.2.2.2.2.1 j9 (by omega)).2.1) ?_
                refine z_if_eq (tgt := 160) X dM_open_148 (by decide) (fun c_148 => absurd c_148 c_110) (fun c_148 => ?_)
                refine z_aload_n (j := 3) X dM_open_151 rfl rfl ?_
                refine z_iload (j := 0) X dM_open_152 rfl ?_
                refine z_iconst (v := (nI 0)) X dM_open_154 (by decide) ?_
                refine z_callV (n := 2) (As := [.int (nI j9), .int (nI 0)]) (rest := []) X zG0_m (mM_finish l D dA false hA1 hI hj9 ⟨p9, by omega, hbj⟩ hcj hrm) (w_V X.2.2.2.2.1 lM_119 jM_finish sM_finish i_LogBrokerModel kM_finish rfl rfl (by decide +kernel) ⟨Nat.le_of_ble_eq_true rfl, Nat.le_of_ble_eq_true rfl⟩) rfl rfl rfl rfl rfl (Nat.le_of_ble_eq_true rfl) dM_open_155 ⟨Nat.le_of_ble_eq_true rfl, Nat.le_of_ble_eq_true rfl⟩ (fun v S9 hp => ?_) (fun E S1 hx => hx.elim)
                obtain ⟨hv, hA9, hc9⟩ := hp
                subst hv
                refine z_istore (L' := [(6, .int (nI (zcnt (zU b (b.2.2.1 j9).1) 12 0))), (5, .int (nI j9)), (4, .int (nI 0)), (3, .int ((b.2.2.1 i).1)), (0, .ref 1000), (1, .int (nI i)), (2, .int (nI p9))]) X dM_open_158 (by decide) rfl ?_
                refine z_iload (j := 2) X dM_open_160 rfl ?_
                refine z_if_eq (tgt := 172) X dM_open_162 (by decide) (fun c_162 => ?_) (fun c_162 => absurd c_162 (by decide))
                obtain ⟨g1, g2, g3, g4⟩ := zInv_ab hI (by omega) hab
                have haB : ((sDec b j9 false).2.2.1 i).2.1 = nI 0 := (g1.1.2.2.2.1 i (by omega)).2.resolve_right (fun h5 => by
                  obtain ⟨h6, h7⟩ := g4 i (by omega) h5
                  exact hno ⟨fun e => by rw [h6] at e; exact absurd e (by decide), by rw [← g3]; exact h7⟩)
                have hPB : ∀ j, j < 6 → ((sDec b j9 false).2.2.1 j).2.1 = nI 1 → ¬ ((sDec b j9 false).2.2.1 j).1 = nI p9 := fun j hj h5 => (g4 j hj h5).2
                refine z_loc [1, 2, 3, 4, 5, 6] rfl ?_
                exact tail S9 _ (sDec b j9 false) _ _ _ hA9 g1 hab haB hPB sDec_op ((hc9.2.2 _ _ (by unfold oQ; omega)).trans h27) (hc1.tr (hc9.mono (fun n k h => ⟨h.1, h.2.1⟩))) zch.rf (fun q2 hq2 hne => by
                  rw [sOp2_cu, if_neg hne, g3, hb1, if_neg (fun h => h.1.1 rfl)]; exact (hA9.2.2.2.2.2.1 q2 hq2).1) hno
              · have hab : sAb b p9 = none := by
                  unfold sAb
                  rw [hcp, nI_clamp (by omega), if_pos ⟨nI_m1 (by omega), fun h => c_110 (h.trans nI_0)⟩, if_neg (by rw [← hbj]; exact hp)]
                refine z_if_ne (tgt := 127) X dM_open_119 (by decide) (fun c_119 => absurd c_119 (by decide)) (fun c_119 => ?_)
                refine z_aload_n (j := 3) X dM_open_122 rfl rfl ?_
                refine z_iconst (v := (nI 3)) X dM_open_123 (by decide) ?_
                refine z_puti (C := RM) (T := TM) (N := 28) (k := 27) X (w_in inM) rfl rfl rfl (by decide) (w_m lM_77) rfl tyM tyM_ok nmM rfl rfl (ty := .int) (by decide +kernel) rfl rfl dM_open_124 ?_
                refine z_aload_n (j := 3) X dM_open_127 rfl rfl ?_
                refine z_geti (C := RM) (T := TM) (N := 28) (k := 27) X (w_in inM) rfl rfl rfl (by decide) (w_m lM_77) rfl rfl dM_open_128 (hv := rd_s) ?_
                refine z_if_eq (tgt := 136) X dM_open_131 (by decide) (fun c_131 => absurd c_131 (by decide)) (fun c_131 => ?_)
                refine z_iconst (v := (nI 0)) X dM_open_134 (by decide) ?_
                refine z_iret X hlocks hr dM_open_135 (by omega) (by omega) ?_
                have hs : sOpen b (nI i) (nI p9) = ((3, 0), b) := by unfold sOpen; rw [zA_s hi (by decide), zA_s hp9 (by decide), if_neg hno, hab]; rfl
                rw [hs]
                exact ⟨congrArg (fun z => some (Value.int z)) nI_0, rd_s, (zMdA_th hA1), (hc1.tr (zch.i ⟨by omega, by omega⟩))⟩
        · refine z_if_lt (tgt := 65) X dM_open_43 (by decide) (fun c_43 => absurd c_43 (by rw [hq1]; exact nI_pos (by omega))) (fun c_43 => ?_)
          have hbn : ¬ (b.2.2.1 i).1 = -1 := fun h => nI_m1 (by omega) (hq1.symm.trans h)
          rw [hq1]
          refine z_iload_n (j := 0) X dM_open_46 rfl rfl ?_
          refine z_iload_n (j := 3) X dM_open_47 rfl rfl ?_
          refine z_icmp_eqN (tgt := 65) X dM_open_48 (by decide) (by omega) (by omega) (fun c_48 => ?_) (fun c_48 => ?_)
          · have hno : ¬ (¬ (b.2.2.1 i).2.1 = nI 0 ∧ ¬ (b.2.2.1 i).1 = nI p9) := fun h => h.2 (by rw [hq1, c_48])
            refine z_iconst (v := (nI 0)) X dM_open_65 (by decide) ?_
            refine z_istore (L' := [(4, .int (nI 0)), (3, .int (nI q)), (0, .ref 1000), (1, .int (nI i)), (2, .int (nI p9))]) X dM_open_66 (by decide) rfl ?_
            refine z_aload_n (j := 2) X dM_open_68 rfl rfl ?_
            refine z_getr (C := RM) (T := TM) (N := 28) (k := 16) X (w_in inM) rfl rfl rfl (by decide) (w_m lM_59) rfl rfl (hA1.1.2 16 (by decide)) dM_open_69 ?_
            refine z_iload_n (j := 4) X dM_open_72 rfl rfl ?_
            refine z_iald (t0 := 0) X rfl rfl (by omega) (by decide) dM_open_73 (hv := (hA1.2.2.2.2.2.1 p9 (by omega)).1) ?_
            refine z_istore (L' := [(5, .int (b.2.2.2.1 p9)), (4, .int (nI 0)), (3, .int (nI q)), (0, .ref 1000), (1, .int (nI i)), (2, .int (nI p9))]) X dM_open_74 (by decide) rfl ?_
            refine z_iload (j := 1) X dM_open_76 rfl ?_
            refine z_if_eq (tgt := 98) X dM_open_78 (by decide) (fun c_78 => ?_) (fun c_78 => absurd c_78 (by decide))
            rcases hI.1.2.2.2.2.2.1 p9 (by omega) with hcp | ⟨j9, hj9, hcp⟩ <;> rw [hcp]
            · have hab : sAb b p9 = some b := by
                unfold sAb
                rw [if_neg (fun h => h.1 hcp)]
              refine z_iload (j := 0) X dM_open_98 rfl ?_
              refine z_if_lt (tgt := 127) X dM_open_100 (by decide) (fun c_100 => ?_) (fun c_100 => absurd c_100 (by decide))
              refine z_aload_n (j := 3) X dM_open_127 rfl rfl ?_
              refine z_geti (C := RM) (T := TM) (N := 28) (k := 27) X (w_in inM) rfl rfl rfl (by decide) (w_m lM_77) rfl rfl dM_open_128 (hv := h27) ?_
              refine z_if_eq (tgt := 136) X dM_open_131 (by decide) (fun c_131 => ?_) (fun c_131 => absurd c_131 (by decide))
              refine z_iload (j := 0) X dM_open_136 rfl ?_
              refine z_if_lt (tgt := 160) X dM_open_138 (by decide) (fun c_138 => ?_) (fun c_138 => absurd c_138 (by decide))
              refine z_iload (j := 1) X dM_open_160 rfl ?_
              refine z_if_eq (tgt := 172) X dM_open_162 (by decide) (fun c_162 => ?_) (fun c_162 => absurd c_162 (by decide))
              obtain ⟨g1, g2, g3, g4⟩ := zInv_ab hI (by omega) hab
              have haB : (b.2.2.1 i).2.1 = nI 0 := (g1.1.2.2.2.1 i (by omega)).2.resolve_right (fun h5 => by
                obtain ⟨h6, h7⟩ := g4 i (by omega) h5
                exact hno ⟨fun e => by rw [h6] at e; exact absurd e (by decide), by rw [← g3]; exact h7⟩)
              have hPB : ∀ j, j < 6 → (b.2.2.1 j).2.1 = nI 1 → ¬ (b.2.2.1 j).1 = nI p9 := fun j hj h5 => (g4 j hj h5).2
              refine z_loc [0, 1, 2, 3, 4, 5] rfl ?_
              exact tail S1 _ b _ _ _ hA1 g1 hab haB hPB rfl h27 hc1 zch.rf (fun q2 hq2 hne => by
                rw [sOp2_cu, if_neg hne, g3, hq1, nI_clamp (by omega), if_neg (fun h => hne (by rw [h.2, c_48]))]; exact (hA1.2.2.2.2.2.1 q2 hq2).1) hno
            · have hbj : (b.2.2.1 j9).1 = nI p9 := hI.2.2.1 p9 j9 (by omega) hj9 hcp
              have hcj : zCur b j9 := by unfold zCur; rw [hbj, nI_clamp (by omega)]; exact hcp
              refine z_iload (j := 0) X dM_open_98 rfl ?_
              refine z_if_lt (tgt := 127) X dM_open_100 (by decide) (fun c_100 => absurd c_100 (nI_pos (by omega))) (fun c_100 => ?_)
              refine z_aload_n (j := 3) X dM_open_103 rfl rfl ?_
              refine z_getr (C := RM) (T := TM) (N := 28) (k := 15) X (w_in inM) rfl rfl rfl (by decide) (w_m lM_56) rfl rfl (hA1.1.2 15 (by decide)) dM_open_104 ?_
              refine z_iload (j := 0) X dM_open_107 rfl ?_
              refine z_zald (t0 := 1) X rfl rfl (by omega) (by decide) dM_open_109 (hv := (hA1.2.2.2.2.1 j9 (by omega)).2.1) ?_
              refine z_if_eq (tgt := 127) X dM_open_110 (by decide) (fun c_110 => ?_) (fun c_110 => ?_)
              · have hab : sAb b p9 = some b := by
                  unfold sAb
                  rw [if_neg (fun h => h.2 (by rw [hcp, nI_clamp (by omega)]; exact c_110.trans nI_0.symm))]
                refine z_aload_n (j := 3) X dM_open_127 rfl rfl ?_
                refine z_geti (C := RM) (T := TM) (N := 28) (k := 27) X (w_in inM) rfl rfl rfl (by decide) (w_m lM_77) rfl rfl dM_open_128 (hv := h27) ?_
                refine z_if_eq (tgt := 136) X dM_open_131 (by decide) (fun c_131 => ?_) (fun c_131 => absurd c_131 (by decide))
                refine z_iload (j := 0) X dM_open_136 rfl ?_
                refine z_if_lt (tgt := 160) X dM_open_138 (by decide) (fun c_138 => absurd c_138 (nI_pos (by omega))) (fun c_138 => ?_)
                refine z_aload_n (j := 3) X dM_open_141 rfl rfl ?_
                refine z_getr (C := RM) (T := TM) (N := 28) (k := 15) X (w_in inM) rfl rfl rfl (by decide) (w_m lM_56) rfl rfl (hA1.1.2 15 (by decide)) dM_open_142 ?_
                refine z_iload (j := 0) X dM_open_145 rfl ?_
                refine z_zald (t0 := 1) X rfl rfl (by omega) (by decide) dM_open_147 (hv := (hA1.2.2.2.2.1 j9 (by omega)).2.1) ?_
                refine z_if_eq (tgt := 160) X dM_open_148 (by decide) (fun c_148 => ?_) (fun c_148 => absurd c_110 c_148)
                refine z_iload (j := 1) X dM_open_160 rfl ?_
                refine z_if_eq (tgt := 172) X dM_open_162 (by decide) (fun c_162 => ?_) (fun c_162 => absurd c_162 (by decide))
                obtain ⟨g1, g2, g3, g4⟩ := zInv_ab hI (by omega) hab
                have haB : (b.2.2.1 i).2.1 = nI 0 := (g1.1.2.2.2.1 i (by omega)).2.resolve_right (fun h5 => by
                  obtain ⟨h6, h7⟩ := g4 i (by omega) h5
                  exact hno ⟨fun e => by rw [h6] at e; exact absurd e (by decide), by rw [← g3]; exact h7⟩)
                have hPB : ∀ j, j < 6 → (b.2.2.1 j).2.1 = nI 1 → ¬ (b.2.2.1 j).1 = nI p9 := fun j hj h5 => (g4 j hj h5).2
                refine z_loc [0, 1, 2, 3, 4, 5] rfl ?_
                exact tail S1 _ b _ _ _ hA1 g1 hab haB hPB rfl h27 hc1 zch.rf (fun q2 hq2 hne => by
                  rw [sOp2_cu, if_neg hne, g3, hq1, nI_clamp (by omega), if_neg (fun h => hne (by rw [h.2, c_48]))]; exact (hA1.2.2.2.2.2.1 q2 hq2).1) hno
              · refine z_aload_n (j := 3) X dM_open_113 rfl rfl ?_
                refine z_iload (j := 0) X dM_open_114 rfl ?_
                refine z_callV (n := 1) (As := [.int (nI j9)]) (rest := []) X zG0_m (mM_roomToEnd l D dA (b := b) (i := j9) (q := (b.2.2.1 j9).1) hA1.1 hA1.2.2.2.1 (fun t ht => zBrW_a hI.1 hI.2.1 ht) (fun t ht o e he _ => zHq hI.2.2.1 (fun t ht => (zBrW_a hI.1 hI.2.1 ht).2) hj9 ⟨p9, by omega, hbj⟩ hcj ht he)) (w_V X.2.2.2.2.1 lM_116 jM_roomToEnd sM_roomToEnd i_LogBrokerModel kM_roomToEnd rfl rfl (by decide +kernel) ⟨Nat.le_of_ble_eq_true rfl, Nat.le_of_ble_eq_true rfl⟩) rfl rfl rfl rfl rfl (Nat.le_of_ble_eq_true rfl) dM_open_116 ⟨Nat.le_of_ble_eq_true rfl, Nat.le_of_ble_eq_true rfl⟩ (fun v S9 hp => ?_) (fun E S1 hx => hx.elim)
                obtain ⟨hS9, hp⟩ := hp
                have hS9 := hS9.symm
                subst hS9
                rcases hp with ⟨hv, hp⟩ | ⟨hv, hp⟩ <;> subst hv
                · have hrm := hp
                  have hab : sAb b p9 = some (sDec b j9 false) := by
                    unfold sAb
                    rw [hcp, nI_clamp (by omega), if_pos ⟨nI_m1 (by omega), fun h => c_110 (h.trans nI_0)⟩, if_pos (by rw [← hbj]; exact hrm)]
                  refine z_if_ne (tgt := 127) X dM_open_119 (by decide) (fun c_119 => ?_) (fun c_119 => absurd c_119 (by decide))
                  refine z_aload_n (j := 3) X dM_open_127 rfl rfl ?_
                  refine z_geti (C := RM) (T := TM) (N := 28) (k := 27) X (w_in inM) rfl rfl rfl (by decide) (w_m lM_77) rfl rfl dM_open_128 (hv := h27) ?_
                  refine z_if_eq (tgt := 136) X dM_open_131 (by decide) (fun c_131 => ?_) (fun c_131 => absurd c_131 (by decide))
                  refine z_iload (j := 0) X dM_open_136 rfl ?_
                  refine z_if_lt (tgt := 160) X dM_open_138 (by decide) (fun c_138 => absurd c_138 (nI_pos (by omega))) (fun c_138 => ?_)
                  refine z_aload_n (j := 3) X dM_open_141 rfl rfl ?_
                  refine z_getr (C := RM) (T := TM) (N := 28) (k := 15) X (w_in inM) rfl rfl rfl (by decide) (w_m lM_56) rfl rfl (hA1.1.2 15 (by decide)) dM_open_142 ?_
                  refine z_iload (j := 0) X dM_open_145 rfl ?_
                  refine z_zald (t0 := 1) X rfl rfl (by omega) (by decide) dM_open_147 (hv := (hA1.2.2.2.2.1 j9 (by omega)).2.1) ?_
                  refine z_if_eq (tgt := 160) X dM_open_148 (by decide) (fun c_148 => absurd c_148 c_110) (fun c_148 => ?_)
                  refine z_aload_n (j := 3) X dM_open_151 rfl rfl ?_
                  refine z_iload (j := 0) X dM_open_152 rfl ?_
                  refine z_iconst (v := (nI 0)) X dM_open_154 (by decide) ?_
                  refine z_callV (n := 2) (As := [.int (nI j9), .int (nI 0)]) (rest := []) X zG0_m (mM_finish l D dA false hA1 hI hj9 ⟨p9, by omega, hbj⟩ hcj hrm) (w_V X.2.2.2.2.1 lM_119 jM_finish sM_finish i_LogBrokerModel kM_finish rfl rfl (by decide +kernel) ⟨Nat.le_of_ble_eq_true rfl, Nat.le_of_ble_eq_true rfl⟩) rfl rfl rfl rfl rfl (Nat.le_of_ble_eq_true rfl) dM_open_155 ⟨Nat.le_of_ble_eq_true rfl, Nat.le_of_ble_eq_true rfl⟩ (fun v S9 hp => ?_) (fun E S1 hx => hx.elim)
                  obtain ⟨hv, hA9, hc9⟩ := hp
                  subst hv
                  refine z_istore (L' := [(6, .int (nI (zcnt (zU b (b.2.2.1 j9).1) 12 0))), (5, .int (nI j9)), (4, .int (nI 0)), (3, .int (nI q)), (0, .ref 1000), (1, .int (nI i)), (2, .int (nI p9))]) X dM_open_158 (by decide) rfl ?_
                  refine z_iload (j := 2) X dM_open_160 rfl ?_
                  refine z_if_eq (tgt := 172) X dM_open_162 (by decide) (fun c_162 => ?_) (fun c_162 => absurd c_162 (by decide))
                  obtain ⟨g1, g2, g3, g4⟩ := zInv_ab hI (by omega) hab
                  have haB : ((sDec b j9 false).2.2.1 i).2.1 = nI 0 := (g1.1.2.2.2.1 i (by omega)).2.resolve_right (fun h5 => by
                    obtain ⟨h6, h7⟩ := g4 i (by omega) h5
                    exact hno ⟨fun e => by rw [h6] at e; exact absurd e (by decide), by rw [← g3]; exact h7⟩)
                  have hPB : ∀ j, j < 6 → ((sDec b j9 false).2.2.1 j).2.1 = nI 1 → ¬ ((sDec b j9 false).2.2.1 j).1 = nI p9 := fun j hj h5 => (g4 j hj h5).2
                  refine z_loc [1, 2, 3, 4, 5, 6] rfl ?_
                  exact tail S9 _ (sDec b j9 false) _ _ _ hA9 g1 hab haB hPB sDec_op ((hc9.2.2 _ _ (by unfold oQ; omega)).trans h27) (hc1.tr (hc9.mono (fun n k h => ⟨h.1, h.2.1⟩))) zch.rf (fun q2 hq2 hne => by
                    rw [sOp2_cu, if_neg hne, g3, hq1, nI_clamp (by omega), if_neg (fun h => hne (by rw [h.2, c_48]))]; exact (hA9.2.2.2.2.2.1 q2 hq2).1) hno
                · have hab : sAb b p9 = none := by
                    unfold sAb
                    rw [hcp, nI_clamp (by omega), if_pos ⟨nI_m1 (by omega), fun h => c_110 (h.trans nI_0)⟩, if_neg (by rw [← hbj]; exact hp)]
                  refine z_if_ne (tgt := 127) X dM_open_119 (by decide) (fun c_119 => absurd c_119 (by decide)) (fun c_119 => ?_)
                  refine z_aload_n (j := 3) X dM_open_122 rfl rfl ?_
                  refine z_iconst (v := (nI 3)) X dM_open_123 (by decide) ?_
                  refine z_puti (C := RM) (T := TM) (N := 28) (k := 27) X (w_in inM) rfl rfl rfl (by decide) (w_m lM_77) rfl tyM tyM_ok nmM rfl rfl (ty := .int) (by decide +kernel) rfl rfl dM_open_124 ?_
                  refine z_aload_n (j := 3) X dM_open_127 rfl rfl ?_
                  refine z_geti (C := RM) (T := TM) (N := 28) (k := 27) X (w_in inM) rfl rfl rfl (by decide) (w_m lM_77) rfl rfl dM_open_128 (hv := rd_s) ?_
                  refine z_if_eq (tgt := 136) X dM_open_131 (by decide) (fun c_131 => absurd c_131 (by decide)) (fun c_131 => ?_)
                  refine z_iconst (v := (nI 0)) X dM_open_134 (by decide) ?_
                  refine z_iret X hlocks hr dM_open_135 (by omega) (by omega) ?_
                  have hs : sOpen b (nI i) (nI p9) = ((3, 0), b) := by unfold sOpen; rw [zA_s hi (by decide), zA_s hp9 (by decide), if_neg hno, hab]; rfl
                  rw [hs]
                  exact ⟨congrArg (fun z => some (Value.int z)) nI_0, rd_s, (zMdA_th hA1), (hc1.tr (zch.i ⟨by omega, by omega⟩))⟩
          · refine z_aload_n (j := 1) X dM_open_51 rfl rfl ?_
            refine z_getr (C := RM) (T := TM) (N := 28) (k := 16) X (w_in inM) rfl rfl rfl (by decide) (w_m lM_59) rfl rfl (hA1.1.2 16 (by decide)) dM_open_52 ?_
            refine z_iload_n (j := 0) X dM_open_55 rfl rfl ?_
            refine z_iald (t0 := 0) X rfl rfl (by omega) (by decide) dM_open_56 (hv := (hA1.2.2.2.2.2.1 q (by omega)).1) ?_
            refine z_iload_n (j := 2) X dM_open_57 rfl rfl ?_
            refine z_icmp_ne (tgt := 65) X dM_open_58 (by decide) (fun c_58 => ?_) (fun c_58 => ?_)
            · have hno : ¬ (¬ (b.2.2.1 i).2.1 = nI 0 ∧ ¬ (b.2.2.1 i).1 = nI p9) := fun h => by
                obtain ⟨q2, hq5, hq6, hq7⟩ := hI.2.2.2.1 i (by omega) ((hI.1.2.2.2.1 i (by omega)).2.resolve_left h.1)
                have e9 := (nI_eq (by omega) (by omega)).mp (hq6.symm.trans hq1)
                subst e9
                exact c_58 hq7
              refine z_iconst (v := (nI 0)) X dM_open_65 (by decide) ?_
              refine z_istore (L' := [(4, .int (nI 0)), (3, .int (nI q)), (0, .ref 1000), (1, .int (nI i)), (2, .int (nI p9))]) X dM_open_66 (by decide) rfl ?_
              refine z_aload_n (j := 2) X dM_open_68 rfl rfl ?_
              refine z_getr (C := RM) (T := TM) (N := 28) (k := 16) X (w_in inM) rfl rfl rfl (by decide) (w_m lM_59) rfl rfl (hA1.1.2 16 (by decide)) dM_open_69 ?_
              refine z_iload_n (j := 4) X dM_open_72 rfl rfl ?_
              refine z_iald (t0 := 0) X rfl rfl (by omega) (by decide) dM_open_73 (hv := (hA1.2.2.2.2.2.1 p9 (by omega)).1) ?_
              refine z_istore (L' := [(5, .int (b.2.2.2.1 p9)), (4, .int (nI 0)), (3, .int (nI q)), (0, .ref 1000), (1, .int (nI i)), (2, .int (nI p9))]) X dM_open_74 (by decide) rfl ?_
              refine z_iload (j := 1) X dM_open_76 rfl ?_
              refine z_if_eq (tgt := 98) X dM_open_78 (by decide) (fun c_78 => ?_) (fun c_78 => absurd c_78 (by decide))
              rcases hI.1.2.2.2.2.2.1 p9 (by omega) with hcp | ⟨j9, hj9, hcp⟩ <;> rw [hcp]
              · have hab : sAb b p9 = some b := by
                  unfold sAb
                  rw [if_neg (fun h => h.1 hcp)]
                refine z_iload (j := 0) X dM_open_98 rfl ?_
                refine z_if_lt (tgt := 127) X dM_open_100 (by decide) (fun c_100 => ?_) (fun c_100 => absurd c_100 (by decide))
                refine z_aload_n (j := 3) X dM_open_127 rfl rfl ?_
                refine z_geti (C := RM) (T := TM) (N := 28) (k := 27) X (w_in inM) rfl rfl rfl (by decide) (w_m lM_77) rfl rfl dM_open_128 (hv := h27) ?_
                refine z_if_eq (tgt := 136) X dM_open_131 (by decide) (fun c_131 => ?_) (fun c_131 => absurd c_131 (by decide))
                refine z_iload (j := 0) X dM_open_136 rfl ?_
                refine z_if_lt (tgt := 160) X dM_open_138 (by decide) (fun c_138 => ?_) (fun c_138 => absurd c_138 (by decide))
                refine z_iload (j := 1) X dM_open_160 rfl ?_
                refine z_if_eq (tgt := 172) X dM_open_162 (by decide) (fun c_162 => ?_) (fun c_162 => absurd c_162 (by decide))
                obtain ⟨g1, g2, g3, g4⟩ := zInv_ab hI (by omega) hab
                have haB : (b.2.2.1 i).2.1 = nI 0 := (g1.1.2.2.2.1 i (by omega)).2.resolve_right (fun h5 => by
                  obtain ⟨h6, h7⟩ := g4 i (by omega) h5
                  exact hno ⟨fun e => by rw [h6] at e; exact absurd e (by decide), by rw [← g3]; exact h7⟩)
                have hPB : ∀ j, j < 6 → (b.2.2.1 j).2.1 = nI 1 → ¬ (b.2.2.1 j).1 = nI p9 := fun j hj h5 => (g4 j hj h5).2
                refine z_loc [0, 1, 2, 3, 4, 5] rfl ?_
                exact tail S1 _ b _ _ _ hA1 g1 hab haB hPB rfl h27 hc1 zch.rf (fun q2 hq2 hne => by
                  rw [sOp2_cu, if_neg hne, g2, g3, hq1, nI_clamp (by omega), if_neg (fun h => c_58 h.1.2)]; exact (hA1.2.2.2.2.2.1 q2 hq2).1.trans (by rw [g2])) hno
              · have hbj : (b.2.2.1 j9).1 = nI p9 := hI.2.2.1 p9 j9 (by omega) hj9 hcp
                have hcj : zCur b j9 := by unfold zCur; rw [hbj, nI_clamp (by omega)]; exact hcp
                refine z_iload (j := 0) X dM_open_98 rfl ?_
                refine z_if_lt (tgt := 127) X dM_open_100 (by decide) (fun c_100 => absurd c_100 (nI_pos (by omega))) (fun c_100 => ?_)
                refine z_aload_n (j := 3) X dM_open_103 rfl rfl ?_
                refine z_getr (C := RM) (T := TM) (N := 28) (k := 15) X (w_in inM) rfl rfl rfl (by decide) (w_m lM_56) rfl rfl (hA1.1.2 15 (by decide)) dM_open_104 ?_
                refine z_iload (j := 0) X dM_open_107 rfl ?_
                refine z_zald (t0 := 1) X rfl rfl (by omega) (by decide) dM_open_109 (hv := (hA1.2.2.2.2.1 j9 (by omega)).2.1) ?_
                refine z_if_eq (tgt := 127) X dM_open_110 (by decide) (fun c_110 => ?_) (fun c_110 => ?_)
                · have hab : sAb b p9 = some b := by
                    unfold sAb
                    rw [if_neg (fun h => h.2 (by rw [hcp, nI_clamp (by omega)]; exact c_110.trans nI_0.symm))]
                  refine z_aload_n (j := 3) X dM_open_127 rfl rfl ?_
                  refine z_geti (C := RM) (T := TM) (N := 28) (k := 27) X (w_in inM) rfl rfl rfl (by decide) (w_m lM_77) rfl rfl dM_open_128 (hv := h27) ?_
                  refine z_if_eq (tgt := 136) X dM_open_131 (by decide) (fun c_131 => ?_) (fun c_131 => absurd c_131 (by decide))
                  refine z_iload (j := 0) X dM_open_136 rfl ?_
                  refine z_if_lt (tgt := 160) X dM_open_138 (by decide) (fun c_138 => absurd c_138 (nI_pos (by omega))) (fun c_138 => ?_)
                  refine z_aload_n (j := 3) X dM_open_141 rfl rfl ?_
                  refine z_getr (C := RM) (T := TM) (N := 28) (k := 15) X (w_in inM) rfl rfl rfl (by decide) (w_m lM_56) rfl rfl (hA1.1.2 15 (by decide)) dM_open_142 ?_
                  refine z_iload (j := 0) X dM_open_145 rfl ?_
                  refine z_zald (t0 := 1) X rfl rfl (by omega) (by decide) dM_open_147 (hv := (hA1.2.2.2.2.1 j9 (by omega)).2.1) ?_
                  refine z_if_eq (tgt := 160) X dM_open_148 (by decide) (fun c_148 => ?_) (fun c_148 => absurd c_110 c_148)
                  refine z_iload (j := 1) X dM_open_160 rfl ?_
                  refine z_if_eq (tgt := 172) X dM_open_162 (by decide) (fun c_162 => ?_) (fun c_162 => absurd c_162 (by decide))
                  obtain ⟨g1, g2, g3, g4⟩ := zInv_ab hI (by omega) hab
                  have haB : (b.2.2.1 i).2.1 = nI 0 := (g1.1.2.2.2.1 i (by omega)).2.resolve_right (fun h5 => by
                    obtain ⟨h6, h7⟩ := g4 i (by omega) h5
                    exact hno ⟨fun e => by rw [h6] at e; exact absurd e (by decide), by rw [← g3]; exact h7⟩)
                  have hPB : ∀ j, j < 6 → (b.2.2.1 j).2.1 = nI 1 → ¬ (b.2.2.1 j).1 = nI p9 := fun j hj h5 => (g4 j hj h5).2
                  refine z_loc [0, 1, 2, 3, 4, 5] rfl ?_
                  exact tail S1 _ b _ _ _ hA1 g1 hab haB hPB rfl h27 hc1 zch.rf (fun q2 hq2 hne => by
                    rw [sOp2_cu, if_neg hne, g2, g3, hq1, nI_clamp (by omega), if_neg (fun h => c_58 h.1.2)]; exact (hA1.2.2.2.2.2.1 q2 hq2).1.trans (by rw [g2])) hno
                · refine z_aload_n (j := 3) X dM_open_113 rfl rfl ?_
                  refine z_iload (j := 0) X dM_open_114 rfl ?_
                  refine z_callV (n := 1) (As := [.int (nI j9)]) (rest := []) X zG0_m (mM_roomToEnd l D dA (b := b) (i := j9) (q := (b.2.2.1 j9).1) hA1.1 hA1.2.2.2.1 (fun t ht => zBrW_a hI.1 hI.2.1 ht) (fun t ht o e he _ => zHq hI.2.2.1 (fun t ht => (zBrW_a hI.1 hI.2.1 ht).2) hj9 ⟨p9, by omega, hbj⟩ hcj ht he)) (w_V X.2.2.2.2.1 lM_116 jM_roomToEnd sM_roomToEnd i_LogBrokerModel kM_roomToEnd rfl rfl (by decide +kernel) ⟨Nat.le_of_ble_eq_true rfl, Nat.le_of_ble_eq_true rfl⟩) rfl rfl rfl rfl rfl (Nat.le_of_ble_eq_true rfl) dM_open_116 ⟨Nat.le_of_ble_eq_true rfl, Nat.le_of_ble_eq_true rfl⟩ (fun v S9 hp => ?_) (fun E S1 hx => hx.elim)
                  obtain ⟨hS9, hp⟩ := hp
                  have hS9 := hS9.symm
                  subst hS9
                  rcases hp with ⟨hv, hp⟩ | ⟨hv, hp⟩ <;> subst hv
                  · have hrm := hp
                    have hab : sAb b p9 = some (sDec b j9 false) := by
                      unfold sAb
                      rw [hcp, nI_clamp (by omega), if_pos ⟨nI_m1 (by omega), fun h => c_110 (h.trans nI_0)⟩, if_pos (by rw [← hbj]; exact hrm)]
                    refine z_if_ne (tgt := 127) X dM_open_119 (by decide) (fun c_119 => ?_) (fun c_119 => absurd c_119 (by decide))
                    refine z_aload_n (j := 3) X dM_open_127 rfl rfl ?_
                    refine z_geti (C := RM) (T := TM) (N := 28) (k := 27) X (w_in inM) rfl rfl rfl (by decide) (w_m lM_77) rfl rfl dM_open_128 (hv := h27) ?_
                    refine z_if_eq (tgt := 136) X dM_open_131 (by decide) (fun c_131 => ?_) (fun c_131 => absurd c_131 (by decide))
                    refine z_iload (j := 0) X dM_open_136 rfl ?_
                    refine z_if_lt (tgt := 160) X dM_open_138 (by decide) (fun c_138 => absurd c_138 (nI_pos (by omega))) (fun c_138 => ?_)
                    refine z_aload_n (j := 3) X dM_open_141 rfl rfl ?_
                    refine z_getr (C := RM) (T := TM) (N := 28) (k := 15) X (w_in inM) rfl rfl rfl (by decide) (w_m lM_56) rfl rfl (hA1.1.2 15 (by decide)) dM_open_142 ?_
                    refine z_iload (j := 0) X dM_open_145 rfl ?_
                    refine z_zald (t0 := 1) X rfl rfl (by omega) (by decide) dM_open_147 (hv := (hA1.2.2.2.2.1 j9 (by omega)).2.1) ?_
                    refine z_if_eq (tgt := 160) X dM_open_148 (by decide) (fun c_148 => absurd c_148 c_110) (fun c_148 => ?_)
                    refine z_aload_n (j := 3) X dM_open_151 rfl rfl ?_
                    refine z_iload (j := 0) X dM_open_152 rfl ?_
                    refine z_iconst (v := (nI 0)) X dM_open_154 (by decide) ?_
                    refine z_callV (n := 2) (As := [.int (nI j9), .int (nI 0)]) (rest := []) X zG0_m (mM_finish l D dA false hA1 hI hj9 ⟨p9, by omega, hbj⟩ hcj hrm) (w_V X.2.2.2.2.1 lM_119 jM_finish sM_finish i_LogBrokerModel kM_finish rfl rfl (by decide +kernel) ⟨Nat.le_of_ble_eq_true rfl, Nat.le_of_ble_eq_true rfl⟩) rfl rfl rfl rfl rfl (Nat.le_of_ble_eq_true rfl) dM_open_155 ⟨Nat.le_of_ble_eq_true rfl, Nat.le_of_ble_eq_true rfl⟩ (fun v S9 hp => ?_) (fun E S1 hx => hx.elim)
                    obtain ⟨hv, hA9, hc9⟩ := hp
                    subst hv
                    refine z_istore (L' := [(6, .int (nI (zcnt (zU b (b.2.2.1 j9).1) 12 0))), (5, .int (nI j9)), (4, .int (nI 0)), (3, .int (nI q)), (0, .ref 1000), (1, .int (nI i)), (2, .int (nI p9))]) X dM_open_158 (by decide) rfl ?_
                    refine z_iload (j := 2) X dM_open_160 rfl ?_
                    refine z_if_eq (tgt := 172) X dM_open_162 (by decide) (fun c_162 => ?_) (fun c_162 => absurd c_162 (by decide))
                    obtain ⟨g1, g2, g3, g4⟩ := zInv_ab hI (by omega) hab
                    have haB : ((sDec b j9 false).2.2.1 i).2.1 = nI 0 := (g1.1.2.2.2.1 i (by omega)).2.resolve_right (fun h5 => by
                      obtain ⟨h6, h7⟩ := g4 i (by omega) h5
                      exact hno ⟨fun e => by rw [h6] at e; exact absurd e (by decide), by rw [← g3]; exact h7⟩)
                    have hPB : ∀ j, j < 6 → ((sDec b j9 false).2.2.1 j).2.1 = nI 1 → ¬ ((sDec b j9 false).2.2.1 j).1 = nI p9 := fun j hj h5 => (g4 j hj h5).2
                    refine z_loc [1, 2, 3, 4, 5, 6] rfl ?_
                    exact tail S9 _ (sDec b j9 false) _ _ _ hA9 g1 hab haB hPB sDec_op ((hc9.2.2 _ _ (by unfold oQ; omega)).trans h27) (hc1.tr (hc9.mono (fun n k h => ⟨h.1, h.2.1⟩))) zch.rf (fun q2 hq2 hne => by
                      rw [sOp2_cu, if_neg hne, g2, g3, hq1, nI_clamp (by omega), if_neg (fun h => c_58 h.1.2)]; exact (hA9.2.2.2.2.2.1 q2 hq2).1.trans (by rw [g2])) hno
                  · have hab : sAb b p9 = none := by
                      unfold sAb
                      rw [hcp, nI_clamp (by omega), if_pos ⟨nI_m1 (by omega), fun h => c_110 (h.trans nI_0)⟩, if_neg (by rw [← hbj]; exact hp)]
                    refine z_if_ne (tgt := 127) X dM_open_119 (by decide) (fun c_119 => absurd c_119 (by decide)) (fun c_119 => ?_)
                    refine z_aload_n (j := 3) X dM_open_122 rfl rfl ?_
                    refine z_iconst (v := (nI 3)) X dM_open_123 (by decide) ?_
                    refine z_puti (C := RM) (T := TM) (N := 28) (k := 27) X (w_in inM) rfl rfl rfl (by decide) (w_m lM_77) rfl tyM tyM_ok nmM rfl rfl (ty := .int) (by decide +kernel) rfl rfl dM_open_124 ?_
                    refine z_aload_n (j := 3) X dM_open_127 rfl rfl ?_
                    refine z_geti (C := RM) (T := TM) (N := 28) (k := 27) X (w_in inM) rfl rfl rfl (by decide) (w_m lM_77) rfl rfl dM_open_128 (hv := rd_s) ?_
                    refine z_if_eq (tgt := 136) X dM_open_131 (by decide) (fun c_131 => absurd c_131 (by decide)) (fun c_131 => ?_)
                    refine z_iconst (v := (nI 0)) X dM_open_134 (by decide) ?_
                    refine z_iret X hlocks hr dM_open_135 (by omega) (by omega) ?_
                    have hs : sOpen b (nI i) (nI p9) = ((3, 0), b) := by unfold sOpen; rw [zA_s hi (by decide), zA_s hp9 (by decide), if_neg hno, hab]; rfl
                    rw [hs]
                    exact ⟨congrArg (fun z => some (Value.int z)) nI_0, rd_s, (zMdA_th hA1), (hc1.tr (zch.i ⟨by omega, by omega⟩))⟩
            · refine z_iconst (v := (nI 1)) X dM_open_61 (by decide) ?_
              refine z_goto (tgt := 66) X dM_open_62 (by decide) ?_
              refine z_istore (L' := [(4, .int (nI 1)), (3, .int (nI q)), (0, .ref 1000), (1, .int (nI i)), (2, .int (nI p9))]) X dM_open_66 (by decide) rfl ?_
              refine z_aload_n (j := 2) X dM_open_68 rfl rfl ?_
              refine z_getr (C := RM) (T := TM) (N := 28) (k := 16) X (w_in inM) rfl rfl rfl (by decide) (w_m lM_59) rfl rfl (hA1.1.2 16 (by decide)) dM_open_69 ?_
              refine z_iload_n (j := 4) X dM_open_72 rfl rfl ?_
              refine z_iald (t0 := 0) X rfl rfl (by omega) (by decide) dM_open_73 (hv := (hA1.2.2.2.2.2.1 p9 (by omega)).1) ?_
              refine z_istore (L' := [(5, .int (b.2.2.2.1 p9)), (4, .int (nI 1)), (3, .int (nI q)), (0, .ref 1000), (1, .int (nI i)), (2, .int (nI p9))]) X dM_open_74 (by decide) rfl ?_
              refine z_iload (j := 1) X dM_open_76 rfl ?_
              refine z_if_eq (tgt := 98) X dM_open_78 (by decide) (fun c_78 => absurd c_78 (by decide)) (fun c_78 => ?_)
              refine z_aload_n (j := 3) X dM_open_81 rfl rfl ?_
              refine z_getr (C := RM) (T := TM) (N := 28) (k := 15) X (w_in inM) rfl rfl rfl (by decide) (w_m lM_56) rfl rfl (hA1.1.2 15 (by decide)) dM_open_82 ?_
              refine z_iload_n (j := 4) X dM_open_85 rfl rfl ?_
              refine z_zald (t0 := 1) X rfl rfl (by omega) (by decide) dM_open_86 (hv := (hA1.2.2.2.2.1 i (by omega)).2.1) ?_
              refine z_if_eq (tgt := 98) X dM_open_87 (by decide) (fun c_87 => ?_) (fun c_87 => ?_)
              · have hno : ¬ (¬ (b.2.2.1 i).2.1 = nI 0 ∧ ¬ (b.2.2.1 i).1 = nI p9) := fun h => h.1 (c_87.trans nI_0.symm)
                rcases hI.1.2.2.2.2.2.1 p9 (by omega) with hcp | ⟨j9, hj9, hcp⟩ <;> rw [hcp]
                · have hab : sAb b p9 = some b := by
                    unfold sAb
                    rw [if_neg (fun h => h.1 hcp)]
                  refine z_iload (j := 0) X dM_open_98 rfl ?_
                  refine z_if_lt (tgt := 127) X dM_open_100 (by decide) (fun c_100 => ?_) (fun c_100 => absurd c_100 (by decide))
                  refine z_aload_n (j := 3) X dM_open_127 rfl rfl ?_
                  refine z_geti (C := RM) (T := TM) (N := 28) (k := 27) X (w_in inM) rfl rfl rfl (by decide) (w_m lM_77) rfl rfl dM_open_128 (hv := h27) ?_
                  refine z_if_eq (tgt := 136) X dM_open_131 (by decide) (fun c_131 => ?_) (fun c_131 => absurd c_131 (by decide))
                  refine z_iload (j := 0) X dM_open_136 rfl ?_
                  refine z_if_lt (tgt := 160) X dM_open_138 (by decide) (fun c_138 => ?_) (fun c_138 => absurd c_138 (by decide))
                  refine z_iload (j := 1) X dM_open_160 rfl ?_
                  refine z_if_eq (tgt := 172) X dM_open_162 (by decide) (fun c_162 => absurd c_162 (by decide)) (fun c_162 => ?_)
                  refine z_aload_n (j := 3) X dM_open_165 rfl rfl ?_
                  refine z_getr (C := RM) (T := TM) (N := 28) (k := 16) X (w_in inM) rfl rfl rfl (by decide) (w_m lM_59) rfl rfl (hA1.1.2 16 (by decide)) dM_open_166 ?_
                  refine z_iload_n (j := 2) X dM_open_169 rfl rfl ?_
                  refine z_iconst (v := (-1)) X dM_open_170 (by decide) ?_
                  refine z_iast (t0 := 0) X rfl rfl (by omega) (by decide) dM_open_171 ?_
                  obtain ⟨g1, g2, g3, g4⟩ := zInv_ab hI (by omega) hab
                  have haB : (b.2.2.1 i).2.1 = nI 0 := (g1.1.2.2.2.1 i (by omega)).2.resolve_right (fun h5 => by
                    obtain ⟨h6, h7⟩ := g4 i (by omega) h5
                    exact hno ⟨fun e => by rw [h6] at e; exact absurd e (by decide), by rw [← g3]; exact h7⟩)
                  have hPB : ∀ j, j < 6 → (b.2.2.1 j).2.1 = nI 1 → ¬ (b.2.2.1 j).1 = nI p9 := fun j hj h5 => (g4 j hj h5).2
                  refine z_loc [0, 1, 2, 3, 4, 5] rfl ?_
                  exact tail S1 _ b _ _ _ hA1 g1 hab haB hPB rfl h27 hc1 (zch.i rfl) (fun q2 hq2 hne => by
                    rw [sOp2_cu, if_neg hne, g2, g3, hq1, nI_clamp (by omega)]
                    by_cases e9 : q2 = q
                    · subst e9; rw [if_pos ⟨⟨nI_m1 (by omega), c_58⟩, rfl⟩]; exact rd_s
                    · rw [if_neg (fun h => e9 h.2)]; exact rd_i (Or.inr e9) ((hA1.2.2.2.2.2.1 q2 hq2).1.trans (by rw [g2]))) hno
                · have hbj : (b.2.2.1 j9).1 = nI p9 := hI.2.2.1 p9 j9 (by omega) hj9 hcp
                  have hcj : zCur b j9 := by unfold zCur; rw [hbj, nI_clamp (by omega)]; exact hcp
                  refine z_iload (j := 0) X dM_open_98 rfl ?_
                  refine z_if_lt (tgt := 127) X dM_open_100 (by decide) (fun c_100 => absurd c_100 (nI_pos (by omega))) (fun c_100 => ?_)
                  refine z_aload_n (j := 3) X dM_open_103 rfl rfl ?_
                  refine z_getr (C := RM) (T := TM) (N := 28) (k := 15) X (w_in inM) rfl rfl rfl (by decide) (w_m lM_56) rfl rfl (hA1.1.2 15 (by decide)) dM_open_104 ?_
                  refine z_iload (j := 0) X dM_open_107 rfl ?_
                  refine z_zald (t0 := 1) X rfl rfl (by omega) (by decide) dM_open_109 (hv := (hA1.2.2.2.2.1 j9 (by omega)).2.1) ?_
                  refine z_if_eq (tgt := 127) X dM_open_110 (by decide) (fun c_110 => ?_) (fun c_110 => ?_)
                  · have hab : sAb b p9 = some b := by
                      unfold sAb
                      rw [if_neg (fun h => h.2 (by rw [hcp, nI_clamp (by omega)]; exact c_110.trans nI_0.symm))]
                    refine z_aload_n (j := 3) X dM_open_127 rfl rfl ?_
                    refine z_geti (C := RM) (T := TM) (N := 28) (k := 27) X (w_in inM) rfl rfl rfl (by decide) (w_m lM_77) rfl rfl dM_open_128 (hv := h27) ?_
                    refine z_if_eq (tgt := 136) X dM_open_131 (by decide) (fun c_131 => ?_) (fun c_131 => absurd c_131 (by decide))
                    refine z_iload (j := 0) X dM_open_136 rfl ?_
                    refine z_if_lt (tgt := 160) X dM_open_138 (by decide) (fun c_138 => absurd c_138 (nI_pos (by omega))) (fun c_138 => ?_)
                    refine z_aload_n (j := 3) X dM_open_141 rfl rfl ?_
                    refine z_getr (C := RM) (T := TM) (N := 28) (k := 15) X (w_in inM) rfl rfl rfl (by decide) (w_m lM_56) rfl rfl (hA1.1.2 15 (by decide)) dM_open_142 ?_
                    refine z_iload (j := 0) X dM_open_145 rfl ?_
                    refine z_zald (t0 := 1) X rfl rfl (by omega) (by decide) dM_open_147 (hv := (hA1.2.2.2.2.1 j9 (by omega)).2.1) ?_
                    refine z_if_eq (tgt := 160) X dM_open_148 (by decide) (fun c_148 => ?_) (fun c_148 => absurd c_110 c_148)
                    refine z_iload (j := 1) X dM_open_160 rfl ?_
                    refine z_if_eq (tgt := 172) X dM_open_162 (by decide) (fun c_162 => absurd c_162 (by decide)) (fun c_162 => ?_)
                    refine z_aload_n (j := 3) X dM_open_165 rfl rfl ?_
                    refine z_getr (C := RM) (T := TM) (N := 28) (k := 16) X (w_in inM) rfl rfl rfl (by decide) (w_m lM_59) rfl rfl (hA1.1.2 16 (by decide)) dM_open_166 ?_
                    refine z_iload_n (j := 2) X dM_open_169 rfl rfl ?_
                    refine z_iconst (v := (-1)) X dM_open_170 (by decide) ?_
                    refine z_iast (t0 := 0) X rfl rfl (by omega) (by decide) dM_open_171 ?_
                    obtain ⟨g1, g2, g3, g4⟩ := zInv_ab hI (by omega) hab
                    have haB : (b.2.2.1 i).2.1 = nI 0 := (g1.1.2.2.2.1 i (by omega)).2.resolve_right (fun h5 => by
                      obtain ⟨h6, h7⟩ := g4 i (by omega) h5
                      exact hno ⟨fun e => by rw [h6] at e; exact absurd e (by decide), by rw [← g3]; exact h7⟩)
                    have hPB : ∀ j, j < 6 → (b.2.2.1 j).2.1 = nI 1 → ¬ (b.2.2.1 j).1 = nI p9 := fun j hj h5 => (g4 j hj h5).2
                    refine z_loc [0, 1, 2, 3, 4, 5] rfl ?_
                    exact tail S1 _ b _ _ _ hA1 g1 hab haB hPB rfl h27 hc1 (zch.i rfl) (fun q2 hq2 hne => by
                      rw [sOp2_cu, if_neg hne, g2, g3, hq1, nI_clamp (by omega)]
                      by_cases e9 : q2 = q
                      · subst e9; rw [if_pos ⟨⟨nI_m1 (by omega), c_58⟩, rfl⟩]; exact rd_s
                      · rw [if_neg (fun h => e9 h.2)]; exact rd_i (Or.inr e9) ((hA1.2.2.2.2.2.1 q2 hq2).1.trans (by rw [g2]))) hno
                  · refine z_aload_n (j := 3) X dM_open_113 rfl rfl ?_
                    refine z_iload (j := 0) X dM_open_114 rfl ?_
                    refine z_callV (n := 1) (As := [.int (nI j9)]) (rest := []) X zG0_m (mM_roomToEnd l D dA (b := b) (i := j9) (q := (b.2.2.1 j9).1) hA1.1 hA1.2.2.2.1 (fun t ht => zBrW_a hI.1 hI.2.1 ht) (fun t ht o e he _ => zHq hI.2.2.1 (fun t ht => (zBrW_a hI.1 hI.2.1 ht).2) hj9 ⟨p9, by omega, hbj⟩ hcj ht he)) (w_V X.2.2.2.2.1 lM_116 jM_roomToEnd sM_roomToEnd i_LogBrokerModel kM_roomToEnd rfl rfl (by decide +kernel) ⟨Nat.le_of_ble_eq_true rfl, Nat.le_of_ble_eq_true rfl⟩) rfl rfl rfl rfl rfl (Nat.le_of_ble_eq_true rfl) dM_open_116 ⟨Nat.le_of_ble_eq_true rfl, Nat.le_of_ble_eq_true rfl⟩ (fun v S9 hp => ?_) (fun E S1 hx => hx.elim)
                    obtain ⟨hS9, hp⟩ := hp
                    have hS9 := hS9.symm
                    subst hS9
                    rcases hp with ⟨hv, hp⟩ | ⟨hv, hp⟩ <;> subst hv
                    · have hrm := hp
                      have hab : sAb b p9 = some (sDec b j9 false) := by
                        unfold sAb
                        rw [hcp, nI_clamp (by omega), if_pos ⟨nI_m1 (by omega), fun h => c_110 (h.trans nI_0)⟩, if_pos (by rw [← hbj]; exact hrm)]
                      refine z_if_ne (tgt := 127) X dM_open_119 (by decide) (fun c_119 => ?_) (fun c_119 => absurd c_119 (by decide))
                      refine z_aload_n (j := 3) X dM_open_127 rfl rfl ?_
                      refine z_geti (C := RM) (T := TM) (N := 28) (k := 27) X (w_in inM) rfl rfl rfl (by decide) (w_m lM_77) rfl rfl dM_open_128 (hv := h27) ?_
                      refine z_if_eq (tgt := 136) X dM_open_131 (by decide) (fun c_131 => ?_) (fun c_131 => absurd c_131 (by decide))
                      refine z_iload (j := 0) X dM_open_136 rfl ?_
                      refine z_if_lt (tgt := 160) X dM_open_138 (by decide) (fun c_138 => absurd c_138 (nI_pos (by omega))) (fun c_138 => ?_)
                      refine z_aload_n (j := 3) X dM_open_141 rfl rfl ?_
                      refine z_getr (C := RM) (T := TM) (N := 28) (k := 15) X (w_in inM) rfl rfl rfl (by decide) (w_m lM_56) rfl rfl (hA1.1.2 15 (by decide)) dM_open_142 ?_
                      refine z_iload (j := 0) X dM_open_145 rfl ?_
                      refine z_zald (t0 := 1) X rfl rfl (by omega) (by decide) dM_open_147 (hv := (hA1.2.2.2.2.1 j9 (by omega)).2.1) ?_
                      refine z_if_eq (tgt := 160) X dM_open_148 (by decide) (fun c_148 => absurd c_148 c_110) (fun c_148 => ?_)
                      refine z_aload_n (j := 3) X dM_open_151 rfl rfl ?_
                      refine z_iload (j := 0) X dM_open_152 rfl ?_
                      refine z_iconst (v := (nI 0)) X dM_open_154 (by decide) ?_
                      refine z_callV (n := 2) (As := [.int (nI j9), .int (nI 0)]) (rest := []) X zG0_m (mM_finish l D dA false hA1 hI hj9 ⟨p9, by omega, hbj⟩ hcj hrm) (w_V X.2.2.2.2.1 lM_119 jM_finish sM_finish i_LogBrokerModel kM_finish rfl rfl (by decide +kernel) ⟨Nat.le_of_ble_eq_true rfl, Nat.le_of_ble_eq_true rfl⟩) rfl rfl rfl rfl rfl (Nat.le_of_ble_eq_true rfl) dM_open_155 ⟨Nat.le_of_ble_eq_true rfl, Nat.le_of_ble_eq_true rfl⟩ (fun v S9 hp => ?_) (fun E S1 hx => hx.elim)
                      obtain ⟨hv, hA9, hc9⟩ := hp
                      subst hv
                      refine z_istore (L' := [(6, .int (nI (zcnt (zU b (b.2.2.1 j9).1) 12 0))), (5, .int (nI j9)), (4, .int (nI 1)), (3, .int (nI q)), (0, .ref 1000), (1, .int (nI i)), (2, .int (nI p9))]) X dM_open_158 (by decide) rfl ?_
                      refine z_iload (j := 2) X dM_open_160 rfl ?_
                      refine z_if_eq (tgt := 172) X dM_open_162 (by decide) (fun c_162 => absurd c_162 (by decide)) (fun c_162 => ?_)
                      refine z_aload_n (j := 4) X dM_open_165 rfl rfl ?_
                      refine z_getr (C := RM) (T := TM) (N := 28) (k := 16) X (w_in inM) rfl rfl rfl (by decide) (w_m lM_59) rfl rfl (hA9.1.2 16 (by decide)) dM_open_166 ?_
                      refine z_iload_n (j := 3) X dM_open_169 rfl rfl ?_
                      refine z_iconst (v := (-1)) X dM_open_170 (by decide) ?_
                      refine z_iast (t0 := 0) X rfl rfl (by omega) (by decide) dM_open_171 ?_
                      obtain ⟨g1, g2, g3, g4⟩ := zInv_ab hI (by omega) hab
                      have haB : ((sDec b j9 false).2.2.1 i).2.1 = nI 0 := (g1.1.2.2.2.1 i (by omega)).2.resolve_right (fun h5 => by
                        obtain ⟨h6, h7⟩ := g4 i (by omega) h5
                        exact hno ⟨fun e => by rw [h6] at e; exact absurd e (by decide), by rw [← g3]; exact h7⟩)
                      have hPB : ∀ j, j < 6 → ((sDec b j9 false).2.2.1 j).2.1 = nI 1 → ¬ ((sDec b j9 false).2.2.1 j).1 = nI p9 := fun j hj h5 => (g4 j hj h5).2
                      refine z_loc [1, 2, 3, 4, 5, 6] rfl ?_
                      exact tail S9 _ (sDec b j9 false) _ _ _ hA9 g1 hab haB hPB sDec_op ((hc9.2.2 _ _ (by unfold oQ; omega)).trans h27) (hc1.tr (hc9.mono (fun n k h => ⟨h.1, h.2.1⟩))) (zch.i rfl) (fun q2 hq2 hne => by
                        rw [sOp2_cu, if_neg hne, g2, g3, hq1, nI_clamp (by omega)]
                        by_cases e9 : q2 = q
                        · subst e9; rw [if_pos ⟨⟨nI_m1 (by omega), c_58⟩, rfl⟩]; exact rd_s
                        · rw [if_neg (fun h => e9 h.2)]; exact rd_i (Or.inr e9) ((hA9.2.2.2.2.2.1 q2 hq2).1.trans (by rw [g2]))) hno
                    · have hab : sAb b p9 = none := by
                        unfold sAb
                        rw [hcp, nI_clamp (by omega), if_pos ⟨nI_m1 (by omega), fun h => c_110 (h.trans nI_0)⟩, if_neg (by rw [← hbj]; exact hp)]
                      refine z_if_ne (tgt := 127) X dM_open_119 (by decide) (fun c_119 => absurd c_119 (by decide)) (fun c_119 => ?_)
                      refine z_aload_n (j := 3) X dM_open_122 rfl rfl ?_
                      refine z_iconst (v := (nI 3)) X dM_open_123 (by decide) ?_
                      refine z_puti (C := RM) (T := TM) (N := 28) (k := 27) X (w_in inM) rfl rfl rfl (by decide) (w_m lM_77) rfl tyM tyM_ok nmM rfl rfl (ty := .int) (by decide +kernel) rfl rfl dM_open_124 ?_
                      refine z_aload_n (j := 3) X dM_open_127 rfl rfl ?_
                      refine z_geti (C := RM) (T := TM) (N := 28) (k := 27) X (w_in inM) rfl rfl rfl (by decide) (w_m lM_77) rfl rfl dM_open_128 (hv := rd_s) ?_
                      refine z_if_eq (tgt := 136) X dM_open_131 (by decide) (fun c_131 => absurd c_131 (by decide)) (fun c_131 => ?_)
                      refine z_iconst (v := (nI 0)) X dM_open_134 (by decide) ?_
                      refine z_iret X hlocks hr dM_open_135 (by omega) (by omega) ?_
                      have hs : sOpen b (nI i) (nI p9) = ((3, 0), b) := by unfold sOpen; rw [zA_s hi (by decide), zA_s hp9 (by decide), if_neg hno, hab]; rfl
                      rw [hs]
                      exact ⟨congrArg (fun z => some (Value.int z)) nI_0, rd_s, (zMdA_th hA1), (hc1.tr (zch.i ⟨by omega, by omega⟩))⟩
              · refine z_aload_n (j := 3) X dM_open_90 rfl rfl ?_
                refine z_iconst (v := (nI 2)) X dM_open_91 (by decide) ?_
                refine z_puti (C := RM) (T := TM) (N := 28) (k := 27) X (w_in inM) rfl rfl rfl (by decide) (w_m lM_77) rfl tyM tyM_ok nmM rfl rfl (ty := .int) (by decide +kernel) rfl rfl dM_open_92 ?_
                refine z_goto (tgt := 127) X dM_open_95 (by decide) ?_
                refine z_aload_n (j := 3) X dM_open_127 rfl rfl ?_
                refine z_geti (C := RM) (T := TM) (N := 28) (k := 27) X (w_in inM) rfl rfl rfl (by decide) (w_m lM_77) rfl rfl dM_open_128 (hv := rd_s) ?_
                refine z_if_eq (tgt := 136) X dM_open_131 (by decide) (fun c_131 => absurd c_131 (by decide)) (fun c_131 => ?_)
                refine z_iconst (v := (nI 0)) X dM_open_134 (by decide) ?_
                refine z_iret X hlocks hr dM_open_135 (by omega) (by omega) ?_
                have hs : sOpen b (nI i) (nI p9) = ((2, 0), b) := by unfold sOpen; rw [zA_s hi (by decide), zA_s hp9 (by decide), if_pos ⟨fun h => c_87 (h.trans nI_0), fun h => c_48 ((nI_eq (by omega) (by omega)).mp (hq1.symm.trans h))⟩]
                rw [hs]
                exact ⟨congrArg (fun z => some (Value.int z)) nI_0, rd_s, (zMdA_th hA1), (hc1.tr (zch.i ⟨by omega, by omega⟩))⟩
      · refine z_iconst (v := (nI 1)) X dM_open_18 (by decide) ?_
        refine z_goto (tgt := 23) X dM_open_19 (by decide) ?_
        refine z_puti (C := RM) (T := TM) (N := 28) (k := 27) X (w_in inM) rfl rfl rfl (by decide) (w_m lM_77) rfl tyM tyM_ok nmM rfl rfl (ty := .int) (by decide +kernel) rfl rfl dM_open_23 ?_
        refine z_aload_n (j := 0) X dM_open_26 rfl rfl ?_
        refine z_geti (C := RM) (T := TM) (N := 28) (k := 27) X (w_in inM) rfl rfl rfl (by decide) (w_m lM_77) rfl rfl dM_open_27 (hv := rd_s) ?_
        refine z_if_eq (tgt := 35) X dM_open_30 (by decide) (fun c_30 => absurd c_30 (by decide)) (fun c_30 => ?_)
        refine z_iconst (v := (nI 0)) X dM_open_33 (by decide) ?_
        refine z_iret X hlocks hr dM_open_34 (by omega) (by omega) ?_
        have hs : sOpen b (nI i) y = ((1, 0), b) := by
          unfold sOpen
          first | rw [zA_n hbS] | (rw [zA_s hi (by decide)]; exact zA_n (by first | exact Or.inl (by rw [nI_0]; exact c_10) | exact Or.inr (Int32.not_le.mp c_15)))
        rw [hs]
        exact ⟨congrArg (fun z => some (Value.int z)) nI_0, rd_s, (zMdA_th hA), (zch.rf.tr (zch.i ⟨by omega, by omega⟩))⟩

set_option maxHeartbeats 600000 in
set_option maxRecDepth 100000 in
theorem mM_init (l : Launch) (D : va_G) (dA : Nat → ClassId) {S : zS} (hS0 : S.1 1000 = true) (hz1 : ∀ k, S.2.1 1000 k = 0) (hfree : ∀ n, 1001 ≤ n → n < 1023 → S.1 n = false) : zMet l D vwCl zKK dA (zG0 D dA) yM_init (Cond.code yM_init cM_init 2 none :: zTs) { frames := 1, cells := 22, slots := 5000, locals := 12 } 22 5000 [.ref 1000] S (fun v S' => v = none ∧ zMdA S' zBr0 ∧ zfr (fun n => 1000 ≤ n ∧ n < 1023) S S') (fun _ _ => False) := by
  refine z_met (tys := ztys dA) (by decide) rfl zG0_K rfl (Nat.le_of_ble_eq_true rfl) (fun p e s m args below meth c A ad X hr hlocks hin hex => ?_)
  have tail : ∀ (S1 : zS) (kc ks : Nat), kc ≤ 22 → ks ≤ 5000 → zMi S1 22 → zfr (fun n => 1000 ≤ n ∧ n < 1023) S S1 → AW p l e { frames := 1, cells := 22, slots := 5000, locals := 12 } s m args below meth c D vwCl zKK dA A (ad, S) 2 S1 kc ks (vx_MQ below (zQc D vwCl zKK dA A ad S (fun v S' => v = none ∧ zMdA S' zBr0 ∧ zfr (fun n => 1000 ≤ n ∧ n < 1023) S S')) (zXC D vwCl zKK dA A ad S (fun _ _ => False)) args s 22 5000 A) 182 [(1, .int (nI 0)), (0, .ref 1000)] [] := by
    intro S1 kc ks hkc hks hMi hfr0
    have loope : ∀ (f k : Nat) (S2 : zS), 8 - k < f → k ≤ 8 → zMf S1 S2 720 6 4 k → AW p l e { frames := 1, cells := 22, slots := 5000, locals := 12 } s m args below meth c D vwCl zKK dA A (ad, S) 2 S2 kc ks (vx_MQ below (zQc D vwCl zKK dA A ad S (fun v S' => v = none ∧ zMdA S' zBr0 ∧ zfr (fun n => 1000 ≤ n ∧ n < 1023) S S')) (zXC D vwCl zKK dA A ad S (fun _ _ => False)) args s 22 5000 A) 245 [(1, .int (nI k)), (0, .ref 1000)] [] := by
      intro f
      induction f with
      | zero => intro k S2 h0; omega
      | succ f ih =>
      intro k S2 h0 hk9 hf
      have hPf : mP S2 := by
        have h := zMi_P hMi
        exact ⟨fun n g1 g2 => by rw [hf.1]; exact h.1 n g1 g2, fun k hk => by rw [hf.2.1]; exact h.2 k hk⟩
      refine z_iload_n (j := 0) X dM_init_245 rfl rfl ?_
      refine z_bipush (v := (nI 8)) X dM_init_246 (by decide) ?_
      refine z_icmp_geN (tgt := 264) X dM_init_248 (by decide) (by omega) (by omega) (fun c_248 => ?_) (fun c_248 => ?_)
      · refine z_vret X hlocks hr dM_init_264 (by omega) (by omega) ?_
        have e9 : k = 8 := by omega
        subst e9
        exact ⟨rfl, zMf_end hMi hf, hfr0.tr ⟨fun n hn => by rw [hf.1], fun n hn => ⟨funext fun j => hf.2.2.2.2.2.2 n j (by omega) (by omega) (by omega) (by omega), by rw [hf.2.1], by rw [hf.2.1]⟩⟩⟩
      · refine z_aload_n (j := 1) X dM_init_251 rfl rfl ?_
        refine z_getr (C := RM) (T := TM) (N := 28) (k := 18) X (w_in inM) rfl rfl rfl (by decide) (w_m lM_65) rfl rfl (hPf.2 18 (by decide)) dM_init_252 ?_
        refine z_iload_n (j := 0) X dM_init_255 rfl rfl ?_
        refine z_iconst (v := (-1)) X dM_init_256 (by decide) ?_
        refine z_iast (t0 := 0) X rfl rfl (by omega) (by decide) dM_init_257 ?_
        refine z_iinc (j := 0) (v := (nI (k + 1))) (L' := [(1, .int (nI (k + 1))), (0, .ref 1000)]) X dM_init_258 rfl (nI_1 k) (by decide) rfl ?_
        refine z_goto (tgt := 245) X dM_init_261 (by decide) ?_
        exact ih (k + 1) _ (by omega) (by omega) (zMf_e hf)
    have loopd : ∀ (f k : Nat) (S2 : zS), 4 - k < f → k ≤ 4 → zMf S1 S2 720 6 k 0 → AW p l e { frames := 1, cells := 22, slots := 5000, locals := 12 } s m args below meth c D vwCl zKK dA A (ad, S) 2 S2 kc ks (vx_MQ below (zQc D vwCl zKK dA A ad S (fun v S' => v = none ∧ zMdA S' zBr0 ∧ zfr (fun n => 1000 ≤ n ∧ n < 1023) S S')) (zXC D vwCl zKK dA A ad S (fun _ _ => False)) args s 22 5000 A) 225 [(1, .int (nI k)), (0, .ref 1000)] [] := by
      intro f
      induction f with
      | zero => intro k S2 h0; omega
      | succ f ih =>
      intro k S2 h0 hk9 hf
      have hPf : mP S2 := by
        have h := zMi_P hMi
        exact ⟨fun n g1 g2 => by rw [hf.1]; exact h.1 n g1 g2, fun k hk => by rw [hf.2.1]; exact h.2 k hk⟩
      refine z_iload_n (j := 0) X dM_init_225 rfl rfl ?_
      refine z_iconst (v := (nI 4)) X dM_init_226 (by decide) ?_
      refine z_icmp_geN (tgt := 243) X dM_init_227 (by decide) (by omega) (by omega) (fun c_227 => ?_) (fun c_227 => ?_)
      · refine z_iconst (v := (nI 0)) X dM_init_243 (by decide) ?_
        refine z_istore_n (L' := [(1, .int (nI 0)), (0, .ref 1000)]) X dM_init_244 rfl (by decide) rfl ?_
        have e9 : k = 4 := by omega
        subst e9
        exact loope 9 0 _ (by omega) (by omega) hf
      · refine z_aload_n (j := 1) X dM_init_230 rfl rfl ?_
        refine z_getr (C := RM) (T := TM) (N := 28) (k := 16) X (w_in inM) rfl rfl rfl (by decide) (w_m lM_59) rfl rfl (hPf.2 16 (by decide)) dM_init_231 ?_
        refine z_iload_n (j := 0) X dM_init_234 rfl rfl ?_
        refine z_iconst (v := (-1)) X dM_init_235 (by decide) ?_
        refine z_iast (t0 := 0) X rfl rfl (by omega) (by decide) dM_init_236 ?_
        refine z_iinc (j := 0) (v := (nI (k + 1))) (L' := [(1, .int (nI (k + 1))), (0, .ref 1000)]) X dM_init_237 rfl (nI_1 k) (by decide) rfl ?_
        refine z_goto (tgt := 225) X dM_init_240 (by decide) ?_
        exact ih (k + 1) _ (by omega) (by omega) (zMf_d hf)
    have loopc : ∀ (f k : Nat) (S2 : zS), 6 - k < f → k ≤ 6 → zMf S1 S2 720 k 0 0 → AW p l e { frames := 1, cells := 22, slots := 5000, locals := 12 } s m args below meth c D vwCl zKK dA A (ad, S) 2 S2 kc ks (vx_MQ below (zQc D vwCl zKK dA A ad S (fun v S' => v = none ∧ zMdA S' zBr0 ∧ zfr (fun n => 1000 ≤ n ∧ n < 1023) S S')) (zXC D vwCl zKK dA A ad S (fun _ _ => False)) args s 22 5000 A) 204 [(1, .int (nI k)), (0, .ref 1000)] [] := by
      intro f
      induction f with
      | zero => intro k S2 h0; omega
      | succ f ih =>
      intro k S2 h0 hk9 hf
      have hPf : mP S2 := by
        have h := zMi_P hMi
        exact ⟨fun n g1 g2 => by rw [hf.1]; exact h.1 n g1 g2, fun k hk => by rw [hf.2.1]; exact h.2 k hk⟩
      refine z_iload_n (j := 0) X dM_init_204 rfl rfl ?_
      refine z_bipush (v := (nI 6)) X dM_init_205 (by decide) ?_
      refine z_icmp_geN (tgt := 223) X dM_init_207 (by decide) (by omega) (by omega) (fun c_207 => ?_) (fun c_207 => ?_)
      · refine z_iconst (v := (nI 0)) X dM_init_223 (by decide) ?_
        refine z_istore_n (L' := [(1, .int (nI 0)), (0, .ref 1000)]) X dM_init_224 rfl (by decide) rfl ?_
        have e9 : k = 6 := by omega
        subst e9
        exact loopd 5 0 _ (by omega) (by omega) hf
      · refine z_aload_n (j := 1) X dM_init_210 rfl rfl ?_
        refine z_getr (C := RM) (T := TM) (N := 28) (k := 12) X (w_in inM) rfl rfl rfl (by decide) (w_m lM_47) rfl rfl (hPf.2 12 (by decide)) dM_init_211 ?_
        refine z_iload_n (j := 0) X dM_init_214 rfl rfl ?_
        refine z_iconst (v := (-1)) X dM_init_215 (by decide) ?_
        refine z_iast (t0 := 0) X rfl rfl (by omega) (by decide) dM_init_216 ?_
        refine z_iinc (j := 0) (v := (nI (k + 1))) (L' := [(1, .int (nI (k + 1))), (0, .ref 1000)]) X dM_init_217 rfl (nI_1 k) (by decide) rfl ?_
        refine z_goto (tgt := 204) X dM_init_220 (by decide) ?_
        exact ih (k + 1) _ (by omega) (by omega) (zMf_c hf)
    have loopa : ∀ (f k : Nat) (S2 : zS), 720 - k < f → k ≤ 720 → zMf S1 S2 k 0 0 0 → AW p l e { frames := 1, cells := 22, slots := 5000, locals := 12 } s m args below meth c D vwCl zKK dA A (ad, S) 2 S2 kc ks (vx_MQ below (zQc D vwCl zKK dA A ad S (fun v S' => v = none ∧ zMdA S' zBr0 ∧ zfr (fun n => 1000 ≤ n ∧ n < 1023) S S')) (zXC D vwCl zKK dA A ad S (fun _ _ => False)) args s 22 5000 A) 182 [(1, .int (nI k)), (0, .ref 1000)] [] := by
      intro f
      induction f with
      | zero => intro k S2 h0; omega
      | succ f ih =>
      intro k S2 h0 hk9 hf
      have hPf : mP S2 := by
        have h := zMi_P hMi
        exact ⟨fun n g1 g2 => by rw [hf.1]; exact h.1 n g1 g2, fun k hk => by rw [hf.2.1]; exact h.2 k hk⟩
      refine z_iload_n (j := 0) X dM_init_182 rfl rfl ?_
      refine z_sipush (v := (nI 720)) X dM_init_183 (by decide) ?_
      refine z_icmp_geN (tgt := 202) X dM_init_186 (by decide) (by omega) (by omega) (fun c_186 => ?_) (fun c_186 => ?_)
      · refine z_iconst (v := (nI 0)) X dM_init_202 (by decide) ?_
        refine z_istore_n (L' := [(1, .int (nI 0)), (0, .ref 1000)]) X dM_init_203 rfl (by decide) rfl ?_
        have e9 : k = 720 := by omega
        subst e9
        exact loopc 7 0 _ (by omega) (by omega) hf
      · refine z_aload_n (j := 1) X dM_init_189 rfl rfl ?_
        refine z_getr (C := RM) (T := TM) (N := 28) (k := 6) X (w_in inM) rfl rfl rfl (by decide) (w_m lM_29) rfl rfl (hPf.2 6 (by decide)) dM_init_190 ?_
        refine z_iload_n (j := 0) X dM_init_193 rfl rfl ?_
        refine z_iconst (v := (-1)) X dM_init_194 (by decide) ?_
        refine z_iast (t0 := 0) X rfl rfl (by omega) (by decide) dM_init_195 ?_
        refine z_iinc (j := 0) (v := (nI (k + 1))) (L' := [(1, .int (nI (k + 1))), (0, .ref 1000)]) X dM_init_196 rfl (nI_1 k) (by decide) rfl ?_
        refine z_goto (tgt := 182) X dM_init_199 (by decide) ?_
        exact ih (k + 1) _ (by omega) (by omega) (zMf_a hf)
    exact loopa 721 0 S1 (by omega) (by omega) zMf_0
  refine z_aload_n (j := 0) X dM_init_0 rfl rfl ?_
  refine z_zero (fun hzz => ?_)
  refine z_objInit X (w_m lM_1) (w_m j_obj) (w_m k_obj) dM_init_1 (by decide) (Nat.le_of_ble_eq_true rfl) ?_
  have hM0 : zMi S 0 := ⟨hS0, fun j h => absurd h (Nat.not_lt_zero _), fun n j h1 h2 => by
    by_cases e9 : n = 1000
    · rw [e9]; exact hz1 j
    · exact (hzz n (hfree n (by omega) h2) j).1, fun n h1 h2 => hfree n h1 h2⟩
  have hF0 : zfr (fun n => 1000 ≤ n ∧ n < 1023) S S := zfr.rf
  refine z_aload_n (j := 0) X dM_init_4 rfl rfl ?_
  refine z_iconst (v := (nI 3)) X dM_init_5 (by decide) ?_
  refine z_newi (n := 1001) (t0 := 0) X rfl rfl (hM0.2.2.2 1001 (by decide) (by decide)) (by decide) (nI_pos (by decide)) (nI_clamp (by decide)) (by decide) (w_m ac_int) (Nat.le_of_ble_eq_true rfl) (Nat.le_of_ble_eq_true rfl) dM_init_6 ?_
  refine z_putrF (cn := "") (C := RM) (T := TM) (N := 28) (k := 0) X (w_in inM) rfl rfl rfl (by decide) (w_m lM_7) rfl tyM tyM_ok nmM rfl hin rfl rfl (Or.inr ⟨.int, by decide +kernel⟩) (by omega) dM_init_8 ?_
  generalize hT1 : zsp (zadd S 1001) 1000 0 (some 1001) = T1
  have hM1 : zMi T1 1 := by rw [← hT1]; exact zMi_s hM0 (by decide)
  have hF1 : zfr (fun n => 1000 ≤ n ∧ n < 1023) S T1 := by rw [← hT1]; exact (hF0.tr (zfr.add ⟨by decide, by decide⟩)).tr (zfr.p ⟨by decide, by decide⟩)
  refine z_aload_n (j := 0) X dM_init_11 rfl rfl ?_
  refine z_iconst (v := (nI 3)) X dM_init_12 (by decide) ?_
  refine z_newi (n := 1002) (t0 := 0) X rfl rfl (hM1.2.2.2 1002 (by decide) (by decide)) (by decide) (nI_pos (by decide)) (nI_clamp (by decide)) (by decide) (w_m ac_int) (Nat.le_of_ble_eq_true rfl) (Nat.le_of_ble_eq_true rfl) dM_init_13 ?_
  refine z_putrF (cn := "") (C := RM) (T := TM) (N := 28) (k := 1) X (w_in inM) rfl rfl rfl (by decide) (w_m lM_13) rfl tyM tyM_ok nmM rfl hin rfl rfl (Or.inr ⟨.int, by decide +kernel⟩) (by omega) dM_init_15 ?_
  generalize hT2 : zsp (zadd T1 1002) 1000 1 (some 1002) = T2
  have hM2 : zMi T2 2 := by rw [← hT2]; exact zMi_s hM1 (by decide)
  have hF2 : zfr (fun n => 1000 ≤ n ∧ n < 1023) S T2 := by rw [← hT2]; exact (hF1.tr (zfr.add ⟨by decide, by decide⟩)).tr (zfr.p ⟨by decide, by decide⟩)
  refine z_aload_n (j := 0) X dM_init_18 rfl rfl ?_
  refine z_iconst (v := (nI 3)) X dM_init_19 (by decide) ?_
  refine z_newi (n := 1003) (t0 := 0) X rfl rfl (hM2.2.2.2 1003 (by decide) (by decide)) (by decide) (nI_pos (by decide)) (nI_clamp (by decide)) (by decide) (w_m ac_int) (Nat.le_of_ble_eq_true rfl) (Nat.le_of_ble_eq_true rfl) dM_init_20 ?_
  refine z_putrF (cn := "") (C := RM) (T := TM) (N := 28) (k := 2) X (w_in inM) rfl rfl rfl (by decide) (w_m lM_16) rfl tyM tyM_ok nmM rfl hin rfl rfl (Or.inr ⟨.int, by decide +kernel⟩) (by omega) dM_init_22 ?_
  generalize hT3 : zsp (zadd T2 1003) 1000 2 (some 1003) = T3
  have hM3 : zMi T3 3 := by rw [← hT3]; exact zMi_s hM2 (by decide)
  have hF3 : zfr (fun n => 1000 ≤ n ∧ n < 1023) S T3 := by rw [← hT3]; exact (hF2.tr (zfr.add ⟨by decide, by decide⟩)).tr (zfr.p ⟨by decide, by decide⟩)
  refine z_aload_n (j := 0) X dM_init_25 rfl rfl ?_
  refine z_iconst (v := (nI 3)) X dM_init_26 (by decide) ?_
  refine z_newz (n := 1004) (t0 := 1) X rfl rfl (hM3.2.2.2 1004 (by decide) (by decide)) (by decide) (nI_pos (by decide)) (nI_clamp (by decide)) (by decide) (w_m ac_bool) (Nat.le_of_ble_eq_true rfl) (Nat.le_of_ble_eq_true rfl) dM_init_27 ?_
  refine z_putrF (cn := "") (C := RM) (T := TM) (N := 28) (k := 3) X (w_in inM) rfl rfl rfl (by decide) (w_m lM_19) rfl tyM tyM_ok nmM rfl hin rfl rfl (Or.inr ⟨.boolean, by decide +kernel⟩) (by omega) dM_init_29 ?_
  generalize hT4 : zsp (zadd T3 1004) 1000 3 (some 1004) = T4
  have hM4 : zMi T4 4 := by rw [← hT4]; exact zMi_s hM3 (by decide)
  have hF4 : zfr (fun n => 1000 ≤ n ∧ n < 1023) S T4 := by rw [← hT4]; exact (hF3.tr (zfr.add ⟨by decide, by decide⟩)).tr (zfr.p ⟨by decide, by decide⟩)
  refine z_aload_n (j := 0) X dM_init_32 rfl rfl ?_
  refine z_bipush (v := (nI 12)) X dM_init_33 (by decide) ?_
  refine z_newi (n := 1005) (t0 := 0) X rfl rfl (hM4.2.2.2 1005 (by decide) (by decide)) (by decide) (nI_pos (by decide)) (nI_clamp (by decide)) (by decide) (w_m ac_int) (Nat.le_of_ble_eq_true rfl) (Nat.le_of_ble_eq_true rfl) dM_init_35 ?_
  refine z_putrF (cn := "") (C := RM) (T := TM) (N := 28) (k := 4) X (w_in inM) rfl rfl rfl (by decide) (w_m lM_23) rfl tyM tyM_ok nmM rfl hin rfl rfl (Or.inr ⟨.int, by decide +kernel⟩) (by omega) dM_init_37 ?_
  generalize hT5 : zsp (zadd T4 1005) 1000 4 (some 1005) = T5
  have hM5 : zMi T5 5 := by rw [← hT5]; exact zMi_s hM4 (by decide)
  have hF5 : zfr (fun n => 1000 ≤ n ∧ n < 1023) S T5 := by rw [← hT5]; exact (hF4.tr (zfr.add ⟨by decide, by decide⟩)).tr (zfr.p ⟨by decide, by decide⟩)
  refine z_aload_n (j := 0) X dM_init_40 rfl rfl ?_
  refine z_bipush (v := (nI 12)) X dM_init_41 (by decide) ?_
  refine z_newi (n := 1006) (t0 := 0) X rfl rfl (hM5.2.2.2 1006 (by decide) (by decide)) (by decide) (nI_pos (by decide)) (nI_clamp (by decide)) (by decide) (w_m ac_int) (Nat.le_of_ble_eq_true rfl) (Nat.le_of_ble_eq_true rfl) dM_init_43 ?_
  refine z_putrF (cn := "") (C := RM) (T := TM) (N := 28) (k := 5) X (w_in inM) rfl rfl rfl (by decide) (w_m lM_26) rfl tyM tyM_ok nmM rfl hin rfl rfl (Or.inr ⟨.int, by decide +kernel⟩) (by omega) dM_init_45 ?_
  generalize hT6 : zsp (zadd T5 1006) 1000 5 (some 1006) = T6
  have hM6 : zMi T6 6 := by rw [← hT6]; exact zMi_s hM5 (by decide)
  have hF6 : zfr (fun n => 1000 ≤ n ∧ n < 1023) S T6 := by rw [← hT6]; exact (hF5.tr (zfr.add ⟨by decide, by decide⟩)).tr (zfr.p ⟨by decide, by decide⟩)
  refine z_aload_n (j := 0) X dM_init_48 rfl rfl ?_
  refine z_sipush (v := (nI 720)) X dM_init_49 (by decide) ?_
  refine z_newi (n := 1007) (t0 := 0) X rfl rfl (hM6.2.2.2 1007 (by decide) (by decide)) (by decide) (nI_pos (by decide)) (nI_clamp (by decide)) (by decide) (w_m ac_int) (Nat.le_of_ble_eq_true rfl) (Nat.le_of_ble_eq_true rfl) dM_init_52 ?_
  refine z_putrF (cn := "") (C := RM) (T := TM) (N := 28) (k := 6) X (w_in inM) rfl rfl rfl (by decide) (w_m lM_29) rfl tyM tyM_ok nmM rfl hin rfl rfl (Or.inr ⟨.int, by decide +kernel⟩) (by omega) dM_init_54 ?_
  generalize hT7 : zsp (zadd T6 1007) 1000 6 (some 1007) = T7
  have hM7 : zMi T7 7 := by rw [← hT7]; exact zMi_s hM6 (by decide)
  have hF7 : zfr (fun n => 1000 ≤ n ∧ n < 1023) S T7 := by rw [← hT7]; exact (hF6.tr (zfr.add ⟨by decide, by decide⟩)).tr (zfr.p ⟨by decide, by decide⟩)
  refine z_aload_n (j := 0) X dM_init_57 rfl rfl ?_
  refine z_sipush (v := (nI 720)) X dM_init_58 (by decide) ?_
  refine z_newi (n := 1008) (t0 := 0) X rfl rfl (hM7.2.2.2 1008 (by decide) (by decide)) (by decide) (nI_pos (by decide)) (nI_clamp (by decide)) (by decide) (w_m ac_int) (Nat.le_of_ble_eq_true rfl) (Nat.le_of_ble_eq_true rfl) dM_init_61 ?_
  refine z_putrF (cn := "") (C := RM) (T := TM) (N := 28) (k := 7) X (w_in inM) rfl rfl rfl (by decide) (w_m lM_32) rfl tyM tyM_ok nmM rfl hin rfl rfl (Or.inr ⟨.int, by decide +kernel⟩) (by omega) dM_init_63 ?_
  generalize hT8 : zsp (zadd T7 1008) 1000 7 (some 1008) = T8
  have hM8 : zMi T8 8 := by rw [← hT8]; exact zMi_s hM7 (by decide)
  have hF8 : zfr (fun n => 1000 ≤ n ∧ n < 1023) S T8 := by rw [← hT8]; exact (hF7.tr (zfr.add ⟨by decide, by decide⟩)).tr (zfr.p ⟨by decide, by decide⟩)
  refine z_aload_n (j := 0) X dM_init_66 rfl rfl ?_
  refine z_sipush (v := (nI 720)) X dM_init_67 (by decide) ?_
  refine z_newi (n := 1009) (t0 := 0) X rfl rfl (hM8.2.2.2 1009 (by decide) (by decide)) (by decide) (nI_pos (by decide)) (nI_clamp (by decide)) (by decide) (w_m ac_int) (Nat.le_of_ble_eq_true rfl) (Nat.le_of_ble_eq_true rfl) dM_init_70 ?_
  refine z_putrF (cn := "") (C := RM) (T := TM) (N := 28) (k := 8) X (w_in inM) rfl rfl rfl (by decide) (w_m lM_35) rfl tyM tyM_ok nmM rfl hin rfl rfl (Or.inr ⟨.int, by decide +kernel⟩) (by omega) dM_init_72 ?_
  generalize hT9 : zsp (zadd T8 1009) 1000 8 (some 1009) = T9
  have hM9 : zMi T9 9 := by rw [← hT9]; exact zMi_s hM8 (by decide)
  have hF9 : zfr (fun n => 1000 ≤ n ∧ n < 1023) S T9 := by rw [← hT9]; exact (hF8.tr (zfr.add ⟨by decide, by decide⟩)).tr (zfr.p ⟨by decide, by decide⟩)
  refine z_aload_n (j := 0) X dM_init_75 rfl rfl ?_
  refine z_sipush (v := (nI 720)) X dM_init_76 (by decide) ?_
  refine z_newi (n := 1010) (t0 := 0) X rfl rfl (hM9.2.2.2 1010 (by decide) (by decide)) (by decide) (nI_pos (by decide)) (nI_clamp (by decide)) (by decide) (w_m ac_int) (Nat.le_of_ble_eq_true rfl) (Nat.le_of_ble_eq_true rfl) dM_init_79 ?_
  refine z_putrF (cn := "") (C := RM) (T := TM) (N := 28) (k := 9) X (w_in inM) rfl rfl rfl (by decide) (w_m lM_38) rfl tyM tyM_ok nmM rfl hin rfl rfl (Or.inr ⟨.int, by decide +kernel⟩) (by omega) dM_init_81 ?_
  generalize hT10 : zsp (zadd T9 1010) 1000 9 (some 1010) = T10
  have hM10 : zMi T10 10 := by rw [← hT10]; exact zMi_s hM9 (by decide)
  have hF10 : zfr (fun n => 1000 ≤ n ∧ n < 1023) S T10 := by rw [← hT10]; exact (hF9.tr (zfr.add ⟨by decide, by decide⟩)).tr (zfr.p ⟨by decide, by decide⟩)
  refine z_aload_n (j := 0) X dM_init_84 rfl rfl ?_
  refine z_sipush (v := (nI 720)) X dM_init_85 (by decide) ?_
  refine z_newi (n := 1011) (t0 := 0) X rfl rfl (hM10.2.2.2 1011 (by decide) (by decide)) (by decide) (nI_pos (by decide)) (nI_clamp (by decide)) (by decide) (w_m ac_int) (Nat.le_of_ble_eq_true rfl) (Nat.le_of_ble_eq_true rfl) dM_init_88 ?_
  refine z_putrF (cn := "") (C := RM) (T := TM) (N := 28) (k := 10) X (w_in inM) rfl rfl rfl (by decide) (w_m lM_41) rfl tyM tyM_ok nmM rfl hin rfl rfl (Or.inr ⟨.int, by decide +kernel⟩) (by omega) dM_init_90 ?_
  generalize hT11 : zsp (zadd T10 1011) 1000 10 (some 1011) = T11
  have hM11 : zMi T11 11 := by rw [← hT11]; exact zMi_s hM10 (by decide)
  have hF11 : zfr (fun n => 1000 ≤ n ∧ n < 1023) S T11 := by rw [← hT11]; exact (hF10.tr (zfr.add ⟨by decide, by decide⟩)).tr (zfr.p ⟨by decide, by decide⟩)
  refine z_aload_n (j := 0) X dM_init_93 rfl rfl ?_
  refine z_sipush (v := (nI 720)) X dM_init_94 (by decide) ?_
  refine z_newi (n := 1012) (t0 := 0) X rfl rfl (hM11.2.2.2 1012 (by decide) (by decide)) (by decide) (nI_pos (by decide)) (nI_clamp (by decide)) (by decide) (w_m ac_int) (Nat.le_of_ble_eq_true rfl) (Nat.le_of_ble_eq_true rfl) dM_init_97 ?_
  refine z_putrF (cn := "") (C := RM) (T := TM) (N := 28) (k := 11) X (w_in inM) rfl rfl rfl (by decide) (w_m lM_44) rfl tyM tyM_ok nmM rfl hin rfl rfl (Or.inr ⟨.int, by decide +kernel⟩) (by omega) dM_init_99 ?_
  generalize hT12 : zsp (zadd T11 1012) 1000 11 (some 1012) = T12
  have hM12 : zMi T12 12 := by rw [← hT12]; exact zMi_s hM11 (by decide)
  have hF12 : zfr (fun n => 1000 ≤ n ∧ n < 1023) S T12 := by rw [← hT12]; exact (hF11.tr (zfr.add ⟨by decide, by decide⟩)).tr (zfr.p ⟨by decide, by decide⟩)
  refine z_aload_n (j := 0) X dM_init_102 rfl rfl ?_
  refine z_bipush (v := (nI 6)) X dM_init_103 (by decide) ?_
  refine z_newi (n := 1013) (t0 := 0) X rfl rfl (hM12.2.2.2 1013 (by decide) (by decide)) (by decide) (nI_pos (by decide)) (nI_clamp (by decide)) (by decide) (w_m ac_int) (Nat.le_of_ble_eq_true rfl) (Nat.le_of_ble_eq_true rfl) dM_init_105 ?_
  refine z_putrF (cn := "") (C := RM) (T := TM) (N := 28) (k := 12) X (w_in inM) rfl rfl rfl (by decide) (w_m lM_47) rfl tyM tyM_ok nmM rfl hin rfl rfl (Or.inr ⟨.int, by decide +kernel⟩) (by omega) dM_init_107 ?_
  generalize hT13 : zsp (zadd T12 1013) 1000 12 (some 1013) = T13
  have hM13 : zMi T13 13 := by rw [← hT13]; exact zMi_s hM12 (by decide)
  have hF13 : zfr (fun n => 1000 ≤ n ∧ n < 1023) S T13 := by rw [← hT13]; exact (hF12.tr (zfr.add ⟨by decide, by decide⟩)).tr (zfr.p ⟨by decide, by decide⟩)
  refine z_aload_n (j := 0) X dM_init_110 rfl rfl ?_
  refine z_bipush (v := (nI 72)) X dM_init_111 (by decide) ?_
  refine z_newi (n := 1014) (t0 := 0) X rfl rfl (hM13.2.2.2 1014 (by decide) (by decide)) (by decide) (nI_pos (by decide)) (nI_clamp (by decide)) (by decide) (w_m ac_int) (Nat.le_of_ble_eq_true rfl) (Nat.le_of_ble_eq_true rfl) dM_init_113 ?_
  refine z_putrF (cn := "") (C := RM) (T := TM) (N := 28) (k := 13) X (w_in inM) rfl rfl rfl (by decide) (w_m lM_50) rfl tyM tyM_ok nmM rfl hin rfl rfl (Or.inr ⟨.int, by decide +kernel⟩) (by omega) dM_init_115 ?_
  generalize hT14 : zsp (zadd T13 1014) 1000 13 (some 1014) = T14
  have hM14 : zMi T14 14 := by rw [← hT14]; exact zMi_s hM13 (by decide)
  have hF14 : zfr (fun n => 1000 ≤ n ∧ n < 1023) S T14 := by rw [← hT14]; exact (hF13.tr (zfr.add ⟨by decide, by decide⟩)).tr (zfr.p ⟨by decide, by decide⟩)
  refine z_aload_n (j := 0) X dM_init_118 rfl rfl ?_
  refine z_sipush (v := (nI 216)) X dM_init_119 (by decide) ?_
  refine z_newi (n := 1015) (t0 := 0) X rfl rfl (hM14.2.2.2 1015 (by decide) (by decide)) (by decide) (nI_pos (by decide)) (nI_clamp (by decide)) (by decide) (w_m ac_int) (Nat.le_of_ble_eq_true rfl) (Nat.le_of_ble_eq_true rfl) dM_init_122 ?_
  refine z_putrF (cn := "") (C := RM) (T := TM) (N := 28) (k := 14) X (w_in inM) rfl rfl rfl (by decide) (w_m lM_53) rfl tyM tyM_ok nmM rfl hin rfl rfl (Or.inr ⟨.int, by decide +kernel⟩) (by omega) dM_init_124 ?_
  generalize hT15 : zsp (zadd T14 1015) 1000 14 (some 1015) = T15
  have hM15 : zMi T15 15 := by rw [← hT15]; exact zMi_s hM14 (by decide)
  have hF15 : zfr (fun n => 1000 ≤ n ∧ n < 1023) S T15 := by rw [← hT15]; exact (hF14.tr (zfr.add ⟨by decide, by decide⟩)).tr (zfr.p ⟨by decide, by decide⟩)
  refine z_aload_n (j := 0) X dM_init_127 rfl rfl ?_
  refine z_bipush (v := (nI 6)) X dM_init_128 (by decide) ?_
  refine z_newz (n := 1016) (t0 := 1) X rfl rfl (hM15.2.2.2 1016 (by decide) (by decide)) (by decide) (nI_pos (by decide)) (nI_clamp (by decide)) (by decide) (w_m ac_bool) (Nat.le_of_ble_eq_true rfl) (Nat.le_of_ble_eq_true rfl) dM_init_130 ?_
  refine z_putrF (cn := "") (C := RM) (T := TM) (N := 28) (k := 15) X (w_in inM) rfl rfl rfl (by decide) (w_m lM_56) rfl tyM tyM_ok nmM rfl hin rfl rfl (Or.inr ⟨.boolean, by decide +kernel⟩) (by omega) dM_init_132 ?_
  generalize hT16 : zsp (zadd T15 1016) 1000 15 (some 1016) = T16
  have hM16 : zMi T16 16 := by rw [← hT16]; exact zMi_s hM15 (by decide)
  have hF16 : zfr (fun n => 1000 ≤ n ∧ n < 1023) S T16 := by rw [← hT16]; exact (hF15.tr (zfr.add ⟨by decide, by decide⟩)).tr (zfr.p ⟨by decide, by decide⟩)
  refine z_aload_n (j := 0) X dM_init_135 rfl rfl ?_
  refine z_iconst (v := (nI 4)) X dM_init_136 (by decide) ?_
  refine z_newi (n := 1017) (t0 := 0) X rfl rfl (hM16.2.2.2 1017 (by decide) (by decide)) (by decide) (nI_pos (by decide)) (nI_clamp (by decide)) (by decide) (w_m ac_int) (Nat.le_of_ble_eq_true rfl) (Nat.le_of_ble_eq_true rfl) dM_init_137 ?_
  refine z_putrF (cn := "") (C := RM) (T := TM) (N := 28) (k := 16) X (w_in inM) rfl rfl rfl (by decide) (w_m lM_59) rfl tyM tyM_ok nmM rfl hin rfl rfl (Or.inr ⟨.int, by decide +kernel⟩) (by omega) dM_init_139 ?_
  generalize hT17 : zsp (zadd T16 1017) 1000 16 (some 1017) = T17
  have hM17 : zMi T17 17 := by rw [← hT17]; exact zMi_s hM16 (by decide)
  have hF17 : zfr (fun n => 1000 ≤ n ∧ n < 1023) S T17 := by rw [← hT17]; exact (hF16.tr (zfr.add ⟨by decide, by decide⟩)).tr (zfr.p ⟨by decide, by decide⟩)
  refine z_aload_n (j := 0) X dM_init_142 rfl rfl ?_
  refine z_iconst (v := (nI 4)) X dM_init_143 (by decide) ?_
  refine z_newi (n := 1018) (t0 := 0) X rfl rfl (hM17.2.2.2 1018 (by decide) (by decide)) (by decide) (nI_pos (by decide)) (nI_clamp (by decide)) (by decide) (w_m ac_int) (Nat.le_of_ble_eq_true rfl) (Nat.le_of_ble_eq_true rfl) dM_init_144 ?_
  refine z_putrF (cn := "") (C := RM) (T := TM) (N := 28) (k := 17) X (w_in inM) rfl rfl rfl (by decide) (w_m lM_62) rfl tyM tyM_ok nmM rfl hin rfl rfl (Or.inr ⟨.int, by decide +kernel⟩) (by omega) dM_init_146 ?_
  generalize hT18 : zsp (zadd T17 1018) 1000 17 (some 1018) = T18
  have hM18 : zMi T18 18 := by rw [← hT18]; exact zMi_s hM17 (by decide)
  have hF18 : zfr (fun n => 1000 ≤ n ∧ n < 1023) S T18 := by rw [← hT18]; exact (hF17.tr (zfr.add ⟨by decide, by decide⟩)).tr (zfr.p ⟨by decide, by decide⟩)
  refine z_aload_n (j := 0) X dM_init_149 rfl rfl ?_
  refine z_bipush (v := (nI 8)) X dM_init_150 (by decide) ?_
  refine z_newi (n := 1019) (t0 := 0) X rfl rfl (hM18.2.2.2 1019 (by decide) (by decide)) (by decide) (nI_pos (by decide)) (nI_clamp (by decide)) (by decide) (w_m ac_int) (Nat.le_of_ble_eq_true rfl) (Nat.le_of_ble_eq_true rfl) dM_init_152 ?_
  refine z_putrF (cn := "") (C := RM) (T := TM) (N := 28) (k := 18) X (w_in inM) rfl rfl rfl (by decide) (w_m lM_65) rfl tyM tyM_ok nmM rfl hin rfl rfl (Or.inr ⟨.int, by decide +kernel⟩) (by omega) dM_init_154 ?_
  generalize hT19 : zsp (zadd T18 1019) 1000 18 (some 1019) = T19
  have hM19 : zMi T19 19 := by rw [← hT19]; exact zMi_s hM18 (by decide)
  have hF19 : zfr (fun n => 1000 ≤ n ∧ n < 1023) S T19 := by rw [← hT19]; exact (hF18.tr (zfr.add ⟨by decide, by decide⟩)).tr (zfr.p ⟨by decide, by decide⟩)
  refine z_aload_n (j := 0) X dM_init_157 rfl rfl ?_
  refine z_iconst (v := (nI 2)) X dM_init_158 (by decide) ?_
  refine z_newi (n := 1020) (t0 := 0) X rfl rfl (hM19.2.2.2 1020 (by decide) (by decide)) (by decide) (nI_pos (by decide)) (nI_clamp (by decide)) (by decide) (w_m ac_int) (Nat.le_of_ble_eq_true rfl) (Nat.le_of_ble_eq_true rfl) dM_init_159 ?_
  refine z_putrF (cn := "") (C := RM) (T := TM) (N := 28) (k := 19) X (w_in inM) rfl rfl rfl (by decide) (w_m lM_68) rfl tyM tyM_ok nmM rfl hin rfl rfl (Or.inr ⟨.int, by decide +kernel⟩) (by omega) dM_init_161 ?_
  generalize hT20 : zsp (zadd T19 1020) 1000 19 (some 1020) = T20
  have hM20 : zMi T20 20 := by rw [← hT20]; exact zMi_s hM19 (by decide)
  have hF20 : zfr (fun n => 1000 ≤ n ∧ n < 1023) S T20 := by rw [← hT20]; exact (hF19.tr (zfr.add ⟨by decide, by decide⟩)).tr (zfr.p ⟨by decide, by decide⟩)
  refine z_aload_n (j := 0) X dM_init_164 rfl rfl ?_
  refine z_bipush (v := (nI 24)) X dM_init_165 (by decide) ?_
  refine z_newi (n := 1021) (t0 := 0) X rfl rfl (hM20.2.2.2 1021 (by decide) (by decide)) (by decide) (nI_pos (by decide)) (nI_clamp (by decide)) (by decide) (w_m ac_int) (Nat.le_of_ble_eq_true rfl) (Nat.le_of_ble_eq_true rfl) dM_init_167 ?_
  refine z_putrF (cn := "") (C := RM) (T := TM) (N := 28) (k := 20) X (w_in inM) rfl rfl rfl (by decide) (w_m lM_71) rfl tyM tyM_ok nmM rfl hin rfl rfl (Or.inr ⟨.int, by decide +kernel⟩) (by omega) dM_init_169 ?_
  generalize hT21 : zsp (zadd T20 1021) 1000 20 (some 1021) = T21
  have hM21 : zMi T21 21 := by rw [← hT21]; exact zMi_s hM20 (by decide)
  have hF21 : zfr (fun n => 1000 ≤ n ∧ n < 1023) S T21 := by rw [← hT21]; exact (hF20.tr (zfr.add ⟨by decide, by decide⟩)).tr (zfr.p ⟨by decide, by decide⟩)
  refine z_aload_n (j := 0) X dM_init_172 rfl rfl ?_
  refine z_bipush (v := (nI 24)) X dM_init_173 (by decide) ?_
  refine z_newi (n := 1022) (t0 := 0) X rfl rfl (hM21.2.2.2 1022 (by decide) (by decide)) (by decide) (nI_pos (by decide)) (nI_clamp (by decide)) (by decide) (w_m ac_int) (Nat.le_of_ble_eq_true rfl) (Nat.le_of_ble_eq_true rfl) dM_init_175 ?_
  refine z_putrF (cn := "") (C := RM) (T := TM) (N := 28) (k := 21) X (w_in inM) rfl rfl rfl (by decide) (w_m lM_74) rfl tyM tyM_ok nmM rfl hin rfl rfl (Or.inr ⟨.int, by decide +kernel⟩) (by omega) dM_init_177 ?_
  generalize hT22 : zsp (zadd T21 1022) 1000 21 (some 1022) = T22
  have hM22 : zMi T22 22 := by rw [← hT22]; exact zMi_s hM21 (by decide)
  have hF22 : zfr (fun n => 1000 ≤ n ∧ n < 1023) S T22 := by rw [← hT22]; exact (hF21.tr (zfr.add ⟨by decide, by decide⟩)).tr (zfr.p ⟨by decide, by decide⟩)
  refine z_iconst (v := (nI 0)) X dM_init_180 (by decide) ?_
  refine z_istore_n (L' := [(1, .int (nI 0)), (0, .ref 1000)]) X dM_init_181 rfl (by decide) rfl ?_
  exact tail T22 _ _ (Nat.le_of_ble_eq_true rfl) (Nat.le_of_ble_eq_true rfl) hM22 hF22
