/-! THE LAW: its cases (rows by program) -/
/-! the script, from the abstract store: its name is 0 -/
section ZSC
variable {p : Program} {l : Launch} {e : Env} {R : Room} {s : State} {m : MethodId} {args : Array Value} {below : List Frame} {meth : Method} {c : Code} {kc ks : Nat} {Q : State → Prop}
variable {D : va_G} {cl : List vw_C} {K : zK} {dA : Nat → ClassId} {A : Nat → Prop} {O : (Nat → Nat) × zS} {cc : ByteArray} {nL : Nat} {own : String} {Ts : List Cond} {tys : List (ClassId × FieldType)} {G : (Nat → Prop) → State → Prop} {S : zS} {pc : Nat} {L : List (Nat × Value)} {st : List Value}
theorem z_sld (X : zX p s m args c D cl K A cc nL own Ts tys G) {b Ln : Nat} {xs : Nat → Int32} (hX : va_X b Ln xs s s.heap) (hbl : b < s.heap.size) (hbA : ¬ A b) (hO : O.1 0 = b) {j : Nat} (hj : j < Ln) (hLn : Ln < 2 ^ 31) (hd : decode cc pc = .ok (.iaload, 1)) (k : AW p l e R s m args below meth c D cl K dA A O nL S kc ks Q (pc + 1) L (.int (xs j) :: st)) : AW p l e R s m args below meth c D cl K dA A O nL S kc ks Q pc L (.int (nI j) :: .ref 0 :: st) := by
  intro ad H locs ls hH hS hl ho
  have e9 : ad 0 = b := hH.1.2.trans hO
  have w := k ad H locs ls hH hS hl (ho.t.t.c trivial)
  show W p l e R s m args below meth c H locs kc ks Q (F0 m pc ls (.int (nI j) :: .ref (ad 0) :: st.map (zv ad)))
  rw [e9]
  exact va_sld X.1 X.2.1 hX hbl hbA hS (nI_in hj hLn) hd (by rw [nI_clamp (Nat.lt_trans hj hLn)]; exact w)
theorem z_slen (X : zX p s m args c D cl K A cc nL own Ts tys G) {b Ln : Nat} {xs : Nat → Int32} (hX : va_X b Ln xs s s.heap) (hbl : b < s.heap.size) (hbA : ¬ A b) (hO : O.1 0 = b) (hd : decode cc pc = .ok (.arraylength, 1)) (k : AW p l e R s m args below meth c D cl K dA A O nL S kc ks Q (pc + 1) L (.int (nI Ln) :: st)) : AW p l e R s m args below meth c D cl K dA A O nL S kc ks Q pc L (.ref 0 :: st) := by
  intro ad H locs ls hH hS hl ho
  have e9 : ad 0 = b := hH.1.2.trans hO
  have w := k ad H locs ls hH hS hl (ho.t.c trivial)
  show W p l e R s m args below meth c H locs kc ks Q (F0 m pc ls (.ref (ad 0) :: st.map (zv ad)))
  rw [e9]
  exact va_slen X.1 X.2.1 hX hbl hbA hS hd w
end ZSC
theorem lg_same (x : Int64) : lg_cmp x x = 0 := by
  unfold lg_cmp
  simp
/-- what holds at the head of the law's loop -/
def lwH (S : zS) (b : zBr) : Prop := zBrA S b ∧ zMdA S b ∧ zInv b ∧ S.1 2000 = true
set_option maxHeartbeats 1000000 in
set_option maxRecDepth 100000 in
theorem law_topic {p : Program} {l : Launch} {e : Env} {R : Room} {s : State} {m : MethodId} {args : Array Value} {below : List Frame} {meth : Method} {c : Code} {kc ks : Nat} {Q : State → Prop} {D : va_G} {dA : Nat → ClassId} {A : Nat → Prop} {O : (Nat → Nat) × zS} {c0 : Cond} {S : zS} {b : zBr} {b0 Ln i : Nat} {xs : Nat → Int32} (X : zX p s m args c D vwCl zKK A code 7 "LogBrokerLaw" (c0 :: zTs) (ztys dA) (zG1 D dA)) (hl0 : l.stackTraces = false) (hX : va_X b0 Ln xs s s.heap) (hbl : b0 < s.heap.size) (hbA : ¬ A b0) (hO : O.1 0 = b0) (hLn : Ln < 2 ^ 30) (hi : i + 5 < Ln) (hH : lwH S b) (hR : 10 ≤ R.frames ∧ 300 ≤ R.locals) (hkc : kc + 40 ≤ R.cells) (hks : ks + 400 ≤ R.slots) (k : ∀ (S' : zS) (b' : zBr) (kc' ks' : Nat), lwH S' b' → kc' ≤ kc + 40 → ks' ≤ ks + 400 → AW p l e R s m args below meth c D vwCl zKK dA A O 7 S' kc' ks' Q 1225 [(4, .int (nI i)), (0, .ref 0), (1, .ref 1), (2, .ref 1000), (3, .ref 2000)] []) : AW p l e R s m args below meth c D vwCl zKK dA A O 7 S kc ks Q 116 [(4, .int (nI i)), (0, .ref 0), (1, .ref 1), (2, .ref 1000), (3, .ref 2000)] [] := by
  obtain ⟨hB, hA, hI, h2000⟩ := hH
  refine z_aload_n (j := 2) X dL_law_116 rfl rfl ?_
  refine z_aload_n (j := 1) X dL_law_117 rfl rfl ?_
  refine z_iload (j := 0) X dL_law_118 rfl ?_
  refine z_iconst (v := (nI 1)) X dL_law_120 (by decide) ?_
  refine z_iadd X dL_law_121 ?_
  refine z_top (nI_add i 1) ?_
  refine z_sld (j := i + 1) X hX hbl hbA hO (by omega) (by omega) dL_law_122 ?_
  refine z_aload_n (j := 1) X dL_law_123 rfl rfl ?_
  refine z_iload (j := 0) X dL_law_124 rfl ?_
  refine z_iconst (v := (nI 2)) X dL_law_126 (by decide) ?_
  refine z_iadd X dL_law_127 ?_
  refine z_top (nI_add i 2) ?_
  refine z_sld (j := i + 2) X hX hbl hbA hO (by omega) (by omega) dL_law_128 ?_
  refine z_aload_n (j := 1) X dL_law_129 rfl rfl ?_
  refine z_iload (j := 0) X dL_law_130 rfl ?_
  refine z_iconst (v := (nI 3)) X dL_law_132 (by decide) ?_
  refine z_iadd X dL_law_133 ?_
  refine z_top (nI_add i 3) ?_
  refine z_sld (j := i + 3) X hX hbl hbA hO (by omega) (by omega) dL_law_134 ?_
  refine z_aload_n (j := 1) X dL_law_135 rfl rfl ?_
  refine z_iload (j := 0) X dL_law_136 rfl ?_
  refine z_iconst (v := (nI 4)) X dL_law_138 (by decide) ?_
  refine z_iadd X dL_law_139 ?_
  refine z_top (nI_add i 4) ?_
  refine z_sld (j := i + 4) X hX hbl hbA hO (by omega) (by omega) dL_law_140 ?_
  refine z_aload_n (j := 1) X dL_law_141 rfl rfl ?_
  refine z_iload (j := 0) X dL_law_142 rfl ?_
  refine z_iconst (v := (nI 5)) X dL_law_144 (by decide) ?_
  refine z_iadd X dL_law_145 ?_
  refine z_top (nI_add i 5) ?_
  refine z_sld (j := i + 5) X hX hbl hbA hO (by omega) (by omega) dL_law_146 ?_
  refine z_if_eq (tgt := 154) X dL_law_147 (by decide) (fun hcb => ?_) (fun hcb => ?_)
  · refine z_iconst (v := (nI 0)) X dL_law_154 (by decide) ?_
    refine z_callSX (n := 6) (As := [.ref 1, .int (xs (i + 1)), .int (xs (i + 2)), .int (xs (i + 3)), .int (xs (i + 4)), .int (nI 0)]) (rest := []) X zG1_m (zMet_g zG1_0 (mL_topic l D dA (c0 := false) hl0 hB hI)) (w_SX X.2.2.2.2.1 lL_75 tL_topic i_LogBrokerLaw kL_topic rfl rfl (by decide +kernel) ⟨by show 8 + 1 ≤ _; omega, by show 8 + (7 + 11) + 130 ≤ _; omega⟩) rfl rfl (Nat.le_of_ble_eq_true rfl) dL_law_155 ⟨by show _ + _ ≤ _; omega, by show _ + _ ≤ _; omega⟩ (fun v S1 hp => ?_) (fun E S1 hx => hx.elim)
    obtain ⟨hv, hle, hB1, hf1, hd1⟩ := hp
    subst hv
    have hA1 : zMdA S1 b := zMdA_far hA hf1 (fun n h => h)
    have h20 : S1.1 2000 = true := hd1.trans h2000
    refine z_istore (L' := [(5, .int (nI (sTopic b (xs (i + 1)) (xs (i + 2)) (xs (i + 3)) (xs (i + 4)) (zB false)).1.1)), (4, .int (nI i)), (0, .ref 0), (1, .ref 1), (2, .ref 1000), (3, .ref 2000)]) X dL_law_158 (by decide) rfl ?_
    refine z_aload_n (j := 4) X dL_law_160 rfl rfl ?_
    refine z_aload_n (j := 2) X dL_law_161 rfl rfl ?_
    refine z_iload (j := 1) X dL_law_162 rfl ?_
    refine z_iconst (v := (nI 1)) X dL_law_164 (by decide) ?_
    refine z_iadd X dL_law_165 ?_
    refine z_top (nI_add i 1) ?_
    refine z_sld (j := i + 1) X hX hbl hbA hO (by omega) (by omega) dL_law_166 ?_
    refine z_aload_n (j := 2) X dL_law_167 rfl rfl ?_
    refine z_iload (j := 1) X dL_law_168 rfl ?_
    refine z_iconst (v := (nI 2)) X dL_law_170 (by decide) ?_
    refine z_iadd X dL_law_171 ?_
    refine z_top (nI_add i 2) ?_
    refine z_sld (j := i + 2) X hX hbl hbA hO (by omega) (by omega) dL_law_172 ?_
    refine z_aload_n (j := 2) X dL_law_173 rfl rfl ?_
    refine z_iload (j := 1) X dL_law_174 rfl ?_
    refine z_iconst (v := (nI 3)) X dL_law_176 (by decide) ?_
    refine z_iadd X dL_law_177 ?_
    refine z_top (nI_add i 3) ?_
    refine z_sld (j := i + 3) X hX hbl hbA hO (by omega) (by omega) dL_law_178 ?_
    refine z_aload_n (j := 2) X dL_law_179 rfl rfl ?_
    refine z_iload (j := 1) X dL_law_180 rfl ?_
    refine z_iconst (v := (nI 4)) X dL_law_182 (by decide) ?_
    refine z_iadd X dL_law_183 ?_
    refine z_top (nI_add i 4) ?_
    refine z_sld (j := i + 4) X hX hbl hbA hO (by omega) (by omega) dL_law_184 ?_
    refine z_aload_n (j := 2) X dL_law_185 rfl rfl ?_
    refine z_iload (j := 1) X dL_law_186 rfl ?_
    refine z_iconst (v := (nI 5)) X dL_law_188 (by decide) ?_
    refine z_iadd X dL_law_189 ?_
    refine z_top (nI_add i 5) ?_
    refine z_sld (j := i + 5) X hX hbl hbA hO (by omega) (by omega) dL_law_190 ?_
    refine z_if_eq (tgt := 198) X dL_law_191 (by decide) (fun _ => ?_) (fun h => absurd hcb h)
    refine z_iconst (v := (nI 0)) X dL_law_198 (by decide) ?_
    refine z_callV (n := 5) (As := [.int (xs (i + 1)), .int (xs (i + 2)), .int (xs (i + 3)), .int (xs (i + 4)), .int (nI 0)]) (rest := []) X zG1_m (zMet_g zG1_0 (mM_topic l D dA (c9 := (zB false)) hA1 hI (by first | exact Or.inl rfl | exact Or.inr rfl))) (w_V X.2.2.2.2.1 lL_80 jM_topic sM_topic i_LogBrokerModel kM_topic rfl rfl (by decide +kernel) ⟨by show 0 + 1 ≤ _; omega, by show 8 + (7 + 11) + 0 ≤ _; omega⟩) rfl rfl rfl rfl rfl (Nat.le_of_ble_eq_true rfl) dL_law_199 ⟨by show _ + _ ≤ _; omega, by show _ + _ ≤ _; omega⟩ (fun v S2 hp => ?_) (fun E S1 hx => hx.elim)
    obtain ⟨hv, h27, hA2, hc2⟩ := hp
    subst hv
    have hI2 : zInv ((sTopic b (xs (i + 1)) (xs (i + 2)) (xs (i + 3)) (xs (i + 4)) (zB false)).2) := (zInv_topic hI)
    have hf2 : zfr (fun n => 1000 ≤ n ∧ n < 1023) S1 S2 := hc2.fr (fun n k h => h)
    have hH2 : lwH S2 ((sTopic b (xs (i + 1)) (xs (i + 2)) (xs (i + 3)) (xs (i + 4)) (zB false)).2) := ⟨zBrA_far hB1 hI2.1 hf2 (fun n h => h.1), hA2, hI2, (hf2.1 2000 (by omega)).trans h20⟩
    refine z_aload_n (j := 4) X dL_law_202 rfl rfl ?_
    refine z_callV (n := 0) (As := []) (rest := []) X zG1_m (zMet_g zG1_0 (mM_thrown l D dA)) (w_V X.2.2.2.2.1 lL_81 jM_thrown sM_thrown i_LogBrokerModel kM_thrown rfl rfl (by decide +kernel) ⟨by show 0 + 1 ≤ _; omega, by show 8 + (1 + 11) + 0 ≤ _; omega⟩) rfl rfl rfl rfl rfl (Nat.le_of_ble_eq_true rfl) dL_law_203 ⟨by show _ + _ ≤ _; omega, by show _ + _ ≤ _; omega⟩ (fun v S9 hp => ?_) (fun E S1 hx => hx.elim)
    obtain ⟨hS9, hp⟩ := hp
    have hS9 := hS9.symm
    subst hS9
    subst hp
    refine z_iload (j := 0) X dL_law_206 rfl ?_
    refine z_icmp_eq (tgt := 213) X dL_law_208 (by decide) (fun _ => ?_) (fun h => absurd h27 h)
    refine z_goto (tgt := 1225) X dL_law_213 (by decide) ?_
    refine z_loc [1, 2, 3, 4, 5] rfl ?_
    exact k _ _ _ _ hH2 (by omega) (by omega)
  · refine z_iconst (v := (nI 1)) X dL_law_150 (by decide) ?_
    refine z_goto (tgt := 155) X dL_law_151 (by decide) ?_
    refine z_callSX (n := 6) (As := [.ref 1, .int (xs (i + 1)), .int (xs (i + 2)), .int (xs (i + 3)), .int (xs (i + 4)), .int (nI 1)]) (rest := []) X zG1_m (zMet_g zG1_0 (mL_topic l D dA (c0 := true) hl0 hB hI)) (w_SX X.2.2.2.2.1 lL_75 tL_topic i_LogBrokerLaw kL_topic rfl rfl (by decide +kernel) ⟨by show 8 + 1 ≤ _; omega, by show 8 + (7 + 11) + 130 ≤ _; omega⟩) rfl rfl (Nat.le_of_ble_eq_true rfl) dL_law_155 ⟨by show _ + _ ≤ _; omega, by show _ + _ ≤ _; omega⟩ (fun v S1 hp => ?_) (fun E S1 hx => hx.elim)
    obtain ⟨hv, hle, hB1, hf1, hd1⟩ := hp
    subst hv
    have hA1 : zMdA S1 b := zMdA_far hA hf1 (fun n h => h)
    have h20 : S1.1 2000 = true := hd1.trans h2000
    refine z_istore (L' := [(5, .int (nI (sTopic b (xs (i + 1)) (xs (i + 2)) (xs (i + 3)) (xs (i + 4)) (zB true)).1.1)), (4, .int (nI i)), (0, .ref 0), (1, .ref 1), (2, .ref 1000), (3, .ref 2000)]) X dL_law_158 (by decide) rfl ?_
    refine z_aload_n (j := 4) X dL_law_160 rfl rfl ?_
    refine z_aload_n (j := 2) X dL_law_161 rfl rfl ?_
    refine z_iload (j := 1) X dL_law_162 rfl ?_
    refine z_iconst (v := (nI 1)) X dL_law_164 (by decide) ?_
    refine z_iadd X dL_law_165 ?_
    refine z_top (nI_add i 1) ?_
    refine z_sld (j := i + 1) X hX hbl hbA hO (by omega) (by omega) dL_law_166 ?_
    refine z_aload_n (j := 2) X dL_law_167 rfl rfl ?_
    refine z_iload (j := 1) X dL_law_168 rfl ?_
    refine z_iconst (v := (nI 2)) X dL_law_170 (by decide) ?_
    refine z_iadd X dL_law_171 ?_
    refine z_top (nI_add i 2) ?_
    refine z_sld (j := i + 2) X hX hbl hbA hO (by omega) (by omega) dL_law_172 ?_
    refine z_aload_n (j := 2) X dL_law_173 rfl rfl ?_
    refine z_iload (j := 1) X dL_law_174 rfl ?_
    refine z_iconst (v := (nI 3)) X dL_law_176 (by decide) ?_
    refine z_iadd X dL_law_177 ?_
    refine z_top (nI_add i 3) ?_
    refine z_sld (j := i + 3) X hX hbl hbA hO (by omega) (by omega) dL_law_178 ?_
    refine z_aload_n (j := 2) X dL_law_179 rfl rfl ?_
    refine z_iload (j := 1) X dL_law_180 rfl ?_
    refine z_iconst (v := (nI 4)) X dL_law_182 (by decide) ?_
    refine z_iadd X dL_law_183 ?_
    refine z_top (nI_add i 4) ?_
    refine z_sld (j := i + 4) X hX hbl hbA hO (by omega) (by omega) dL_law_184 ?_
    refine z_aload_n (j := 2) X dL_law_185 rfl rfl ?_
    refine z_iload (j := 1) X dL_law_186 rfl ?_
    refine z_iconst (v := (nI 5)) X dL_law_188 (by decide) ?_
    refine z_iadd X dL_law_189 ?_
    refine z_top (nI_add i 5) ?_
    refine z_sld (j := i + 5) X hX hbl hbA hO (by omega) (by omega) dL_law_190 ?_
    refine z_if_eq (tgt := 198) X dL_law_191 (by decide) (fun h => absurd h hcb) (fun _ => ?_)
    refine z_iconst (v := (nI 1)) X dL_law_194 (by decide) ?_
    refine z_goto (tgt := 199) X dL_law_195 (by decide) ?_
    refine z_callV (n := 5) (As := [.int (xs (i + 1)), .int (xs (i + 2)), .int (xs (i + 3)), .int (xs (i + 4)), .int (nI 1)]) (rest := []) X zG1_m (zMet_g zG1_0 (mM_topic l D dA (c9 := (zB true)) hA1 hI (by first | exact Or.inl rfl | exact Or.inr rfl))) (w_V X.2.2.2.2.1 lL_80 jM_topic sM_topic i_LogBrokerModel kM_topic rfl rfl (by decide +kernel) ⟨by show 0 + 1 ≤ _; omega, by show 8 + (7 + 11) + 0 ≤ _; omega⟩) rfl rfl rfl rfl rfl (Nat.le_of_ble_eq_true rfl) dL_law_199 ⟨by show _ + _ ≤ _; omega, by show _ + _ ≤ _; omega⟩ (fun v S2 hp => ?_) (fun E S1 hx => hx.elim)
    obtain ⟨hv, h27, hA2, hc2⟩ := hp
    subst hv
    have hI2 : zInv ((sTopic b (xs (i + 1)) (xs (i + 2)) (xs (i + 3)) (xs (i + 4)) (zB true)).2) := (zInv_topic hI)
    have hf2 : zfr (fun n => 1000 ≤ n ∧ n < 1023) S1 S2 := hc2.fr (fun n k h => h)
    have hH2 : lwH S2 ((sTopic b (xs (i + 1)) (xs (i + 2)) (xs (i + 3)) (xs (i + 4)) (zB true)).2) := ⟨zBrA_far hB1 hI2.1 hf2 (fun n h => h.1), hA2, hI2, (hf2.1 2000 (by omega)).trans h20⟩
    refine z_aload_n (j := 4) X dL_law_202 rfl rfl ?_
    refine z_callV (n := 0) (As := []) (rest := []) X zG1_m (zMet_g zG1_0 (mM_thrown l D dA)) (w_V X.2.2.2.2.1 lL_81 jM_thrown sM_thrown i_LogBrokerModel kM_thrown rfl rfl (by decide +kernel) ⟨by show 0 + 1 ≤ _; omega, by show 8 + (1 + 11) + 0 ≤ _; omega⟩) rfl rfl rfl rfl rfl (Nat.le_of_ble_eq_true rfl) dL_law_203 ⟨by show _ + _ ≤ _; omega, by show _ + _ ≤ _; omega⟩ (fun v S9 hp => ?_) (fun E S1 hx => hx.elim)
    obtain ⟨hS9, hp⟩ := hp
    have hS9 := hS9.symm
    subst hS9
    subst hp
    refine z_iload (j := 0) X dL_law_206 rfl ?_
    refine z_icmp_eq (tgt := 213) X dL_law_208 (by decide) (fun _ => ?_) (fun h => absurd h27 h)
    refine z_goto (tgt := 1225) X dL_law_213 (by decide) ?_
    refine z_loc [1, 2, 3, 4, 5] rfl ?_
    exact k _ _ _ _ hH2 (by omega) (by omega)

set_option maxHeartbeats 1000000 in
set_option maxRecDepth 100000 in
theorem law_open {p : Program} {l : Launch} {e : Env} {R : Room} {s : State} {m : MethodId} {args : Array Value} {below : List Frame} {meth : Method} {c : Code} {kc ks : Nat} {Q : State → Prop} {D : va_G} {dA : Nat → ClassId} {A : Nat → Prop} {O : (Nat → Nat) × zS} {c0 : Cond} {S : zS} {b : zBr} {b0 Ln i : Nat} {xs : Nat → Int32} (X : zX p s m args c D vwCl zKK A code 7 "LogBrokerLaw" (c0 :: zTs) (ztys dA) (zG1 D dA)) (hl0 : l.stackTraces = false) (hX : va_X b0 Ln xs s s.heap) (hbl : b0 < s.heap.size) (hbA : ¬ A b0) (hO : O.1 0 = b0) (hLn : Ln < 2 ^ 30) (hi : i + 5 < Ln) (hH : lwH S b) (hR : 10 ≤ R.frames ∧ 300 ≤ R.locals) (hkc : kc + 40 ≤ R.cells) (hks : ks + 400 ≤ R.slots) (k : ∀ (S' : zS) (b' : zBr) (kc' ks' : Nat), lwH S' b' → kc' ≤ kc + 40 → ks' ≤ ks + 400 → AW p l e R s m args below meth c D vwCl zKK dA A O 7 S' kc' ks' Q 1225 [(4, .int (nI i)), (0, .ref 0), (1, .ref 1), (2, .ref 1000), (3, .ref 2000)] []) : AW p l e R s m args below meth c D vwCl zKK dA A O 7 S kc ks Q 216 [(4, .int (nI i)), (0, .ref 0), (1, .ref 1), (2, .ref 1000), (3, .ref 2000)] [] := by
  obtain ⟨hB, hA, hI, h2000⟩ := hH
  refine z_aload_n (j := 2) X dL_law_216 rfl rfl ?_
  refine z_aload_n (j := 1) X dL_law_217 rfl rfl ?_
  refine z_iload (j := 0) X dL_law_218 rfl ?_
  refine z_iconst (v := (nI 1)) X dL_law_220 (by decide) ?_
  refine z_iadd X dL_law_221 ?_
  refine z_top (nI_add i 1) ?_
  refine z_sld (j := i + 1) X hX hbl hbA hO (by omega) (by omega) dL_law_222 ?_
  refine z_aload_n (j := 1) X dL_law_223 rfl rfl ?_
  refine z_iload (j := 0) X dL_law_224 rfl ?_
  refine z_iconst (v := (nI 2)) X dL_law_226 (by decide) ?_
  refine z_iadd X dL_law_227 ?_
  refine z_top (nI_add i 2) ?_
  refine z_sld (j := i + 2) X hX hbl hbA hO (by omega) (by omega) dL_law_228 ?_
  refine z_aload_n (j := 4) X dL_law_229 rfl rfl ?_
  refine z_callSX (n := 4) (As := [.ref 1, .int (xs (i + 1)), .int (xs (i + 2)), .ref 2000]) (rest := []) X zG1_m (zMet_g zG1_0 (mL_open l D dA hl0 hB hI)) (w_SX X.2.2.2.2.1 lL_85 tL_open i_LogBrokerLaw kL_open rfl rfl (by decide +kernel) ⟨by show 9 + 1 ≤ _; omega, by show 8 + (5 + 11) + 149 ≤ _; omega⟩) rfl rfl (Nat.le_of_ble_eq_true rfl) dL_law_230 ⟨by show _ + _ ≤ _; omega, by show _ + _ ≤ _; omega⟩ (fun v S1 hp => ?_) (fun E S1 hx => hx.elim)
  obtain ⟨hv, hle, hB1, hf1, hd1, hlg⟩ := hp
  subst hv
  have hA1 : zMdA S1 b := zMdA_far hA hf1 (fun n h => h)
  have h20 : S1.1 2000 = true := hd1.trans h2000
  refine z_istore (L' := [(5, .int (nI (sOpen b (xs (i + 1)) (xs (i + 2))).1.1)), (4, .int (nI i)), (0, .ref 0), (1, .ref 1), (2, .ref 1000), (3, .ref 2000)]) X dL_law_233 (by decide) rfl ?_
  refine z_aload_n (j := 4) X dL_law_235 rfl rfl ?_
  refine z_aload_n (j := 2) X dL_law_236 rfl rfl ?_
  refine z_iload (j := 1) X dL_law_237 rfl ?_
  refine z_iconst (v := (nI 1)) X dL_law_239 (by decide) ?_
  refine z_iadd X dL_law_240 ?_
  refine z_top (nI_add i 1) ?_
  refine z_sld (j := i + 1) X hX hbl hbA hO (by omega) (by omega) dL_law_241 ?_
  refine z_aload_n (j := 2) X dL_law_242 rfl rfl ?_
  refine z_iload (j := 1) X dL_law_243 rfl ?_
  refine z_iconst (v := (nI 2)) X dL_law_245 (by decide) ?_
  refine z_iadd X dL_law_246 ?_
  refine z_top (nI_add i 2) ?_
  refine z_sld (j := i + 2) X hX hbl hbA hO (by omega) (by omega) dL_law_247 ?_
  refine z_callV (n := 2) (As := [.int (xs (i + 1)), .int (xs (i + 2))]) (rest := []) X zG1_m (zMet_g zG1_0 (mM_open l D dA hA1 hI)) (w_V X.2.2.2.2.1 lL_88 jM_open sM_open i_LogBrokerModel kM_open rfl rfl (by decide +kernel) ⟨by show 5 + 1 ≤ _; omega, by show 8 + (7 + 11) + 116 ≤ _; omega⟩) rfl rfl rfl rfl rfl (Nat.le_of_ble_eq_true rfl) dL_law_248 ⟨by show _ + _ ≤ _; omega, by show _ + _ ≤ _; omega⟩ (fun v S2 hp => ?_) (fun E S1 hx => hx.elim)
  obtain ⟨hv, h27, hA2, hc2⟩ := hp
  subst hv
  have hI2 : zInv ((sOpen b (xs (i + 1)) (xs (i + 2))).2) := (zInv_open hI)
  have hf2 : zfr (fun n => 1000 ≤ n ∧ n < 1023) S1 S2 := hc2.fr (fun n k h => h)
  have hH2 : lwH S2 ((sOpen b (xs (i + 1)) (xs (i + 2))).2) := ⟨zBrA_far hB1 hI2.1 hf2 (fun n h => h.1), hA2, hI2, (hf2.1 2000 (by omega)).trans h20⟩
  refine z_istore (L' := [(6, .int ((sOpen b (xs (i + 1)) (xs (i + 2))).1.2)), (5, .int (nI (sOpen b (xs (i + 1)) (xs (i + 2))).1.1)), (4, .int (nI i)), (0, .ref 0), (1, .ref 1), (2, .ref 1000), (3, .ref 2000)]) X dL_law_251 (by decide) rfl ?_
  refine z_aload_n (j := 5) X dL_law_253 rfl rfl ?_
  refine z_callV (n := 0) (As := []) (rest := []) X zG1_m (zMet_g zG1_0 (mM_thrown l D dA)) (w_V X.2.2.2.2.1 lL_81 jM_thrown sM_thrown i_LogBrokerModel kM_thrown rfl rfl (by decide +kernel) ⟨by show 0 + 1 ≤ _; omega, by show 8 + (1 + 11) + 0 ≤ _; omega⟩) rfl rfl rfl rfl rfl (Nat.le_of_ble_eq_true rfl) dL_law_254 ⟨by show _ + _ ≤ _; omega, by show _ + _ ≤ _; omega⟩ (fun v S9 hp => ?_) (fun E S1 hx => hx.elim)
  obtain ⟨hS9, hp⟩ := hp
  have hS9 := hS9.symm
  subst hS9
  subst hp
  refine z_iload (j := 1) X dL_law_257 rfl ?_
  refine z_icmp_eq (tgt := 264) X dL_law_259 (by decide) (fun _ => ?_) (fun h => absurd h27 h)
  refine z_iload (j := 1) X dL_law_264 rfl ?_
  refine z_if_ne (tgt := 281) X dL_law_266 (by decide) (fun _ => ?_) (fun h0 => ?_)
  · refine z_goto (tgt := 1225) X dL_law_281 (by decide) ?_
    refine z_loc [2, 3, 4, 5, 6] rfl ?_
    exact k _ _ _ _ hH2 (by omega) (by omega)
  · have hc0 : (sOpen b (xs (i + 1)) (xs (i + 2))).1.1 = 0 := Classical.byContradiction fun h => nI_ne0 (by omega) (by omega) h0
    have hlg2 : S2.2.2.2 2000 0 = ((sOpen b (xs (i + 1)) (xs (i + 2))).1.2).toInt64 := by rw [hc2.2.1]; exact hlg hc0
    refine z_aload_n (j := 6) X dL_law_269 rfl rfl ?_
    refine z_iconst (v := (nI 0)) X dL_law_270 (by decide) ?_
    refine z_lald (t0 := 2) (j9 := 0) X rfl rfl (by decide) (by decide) dL_law_271 (hv := hlg2) ?_
    refine z_iload (j := 0) X dL_law_272 rfl ?_
    refine z_i2l X dL_law_274 rfl ?_
    refine z_lcmp X dL_law_275 ?_
    refine z_if_eq (tgt := 281) X dL_law_276 (by decide) (fun _ => ?_) (fun c_276 => absurd (lg_same _) c_276)
    refine z_goto (tgt := 1225) X dL_law_281 (by decide) ?_
    refine z_loc [2, 3, 4, 5, 6] rfl ?_
    exact k _ _ _ _ hH2 (by omega) (by omega)

set_option maxHeartbeats 1000000 in
set_option maxRecDepth 100000 in
theorem law_produce {p : Program} {l : Launch} {e : Env} {R : Room} {s : State} {m : MethodId} {args : Array Value} {below : List Frame} {meth : Method} {c : Code} {kc ks : Nat} {Q : State → Prop} {D : va_G} {dA : Nat → ClassId} {A : Nat → Prop} {O : (Nat → Nat) × zS} {c0 : Cond} {S : zS} {b : zBr} {b0 Ln i : Nat} {xs : Nat → Int32} (X : zX p s m args c D vwCl zKK A code 7 "LogBrokerLaw" (c0 :: zTs) (ztys dA) (zG1 D dA)) (hl0 : l.stackTraces = false) (hX : va_X b0 Ln xs s s.heap) (hbl : b0 < s.heap.size) (hbA : ¬ A b0) (hO : O.1 0 = b0) (hLn : Ln < 2 ^ 30) (hi : i + 5 < Ln) (hH : lwH S b) (hR : 10 ≤ R.frames ∧ 300 ≤ R.locals) (hkc : kc + 40 ≤ R.cells) (hks : ks + 400 ≤ R.slots) (k : ∀ (S' : zS) (b' : zBr) (kc' ks' : Nat), lwH S' b' → kc' ≤ kc + 40 → ks' ≤ ks + 400 → AW p l e R s m args below meth c D vwCl zKK dA A O 7 S' kc' ks' Q 1225 [(4, .int (nI i)), (0, .ref 0), (1, .ref 1), (2, .ref 1000), (3, .ref 2000)] []) : AW p l e R s m args below meth c D vwCl zKK dA A O 7 S kc ks Q 284 [(4, .int (nI i)), (0, .ref 0), (1, .ref 1), (2, .ref 1000), (3, .ref 2000)] [] := by
  obtain ⟨hB, hA, hI, h2000⟩ := hH
  refine z_aload_n (j := 2) X dL_law_284 rfl rfl ?_
  refine z_aload_n (j := 1) X dL_law_285 rfl rfl ?_
  refine z_iload (j := 0) X dL_law_286 rfl ?_
  refine z_iconst (v := (nI 1)) X dL_law_288 (by decide) ?_
  refine z_iadd X dL_law_289 ?_
  refine z_top (nI_add i 1) ?_
  refine z_sld (j := i + 1) X hX hbl hbA hO (by omega) (by omega) dL_law_290 ?_
  refine z_aload_n (j := 1) X dL_law_291 rfl rfl ?_
  refine z_iload (j := 0) X dL_law_292 rfl ?_
  refine z_iconst (v := (nI 2)) X dL_law_294 (by decide) ?_
  refine z_iadd X dL_law_295 ?_
  refine z_top (nI_add i 2) ?_
  refine z_sld (j := i + 2) X hX hbl hbA hO (by omega) (by omega) dL_law_296 ?_
  refine z_aload_n (j := 1) X dL_law_297 rfl rfl ?_
  refine z_iload (j := 0) X dL_law_298 rfl ?_
  refine z_iconst (v := (nI 3)) X dL_law_300 (by decide) ?_
  refine z_iadd X dL_law_301 ?_
  refine z_top (nI_add i 3) ?_
  refine z_sld (j := i + 3) X hX hbl hbA hO (by omega) (by omega) dL_law_302 ?_
  refine z_aload_n (j := 1) X dL_law_303 rfl rfl ?_
  refine z_iload (j := 0) X dL_law_304 rfl ?_
  refine z_iconst (v := (nI 4)) X dL_law_306 (by decide) ?_
  refine z_iadd X dL_law_307 ?_
  refine z_top (nI_add i 4) ?_
  refine z_sld (j := i + 4) X hX hbl hbA hO (by omega) (by omega) dL_law_308 ?_
  refine z_aload_n (j := 1) X dL_law_309 rfl rfl ?_
  refine z_iload (j := 0) X dL_law_310 rfl ?_
  refine z_iconst (v := (nI 5)) X dL_law_312 (by decide) ?_
  refine z_iadd X dL_law_313 ?_
  refine z_top (nI_add i 5) ?_
  refine z_sld (j := i + 5) X hX hbl hbA hO (by omega) (by omega) dL_law_314 ?_
  refine z_aload_n (j := 4) X dL_law_315 rfl rfl ?_
  refine z_callSX (n := 7) (As := [.ref 1, .int (xs (i + 1)), .int (xs (i + 2)), .int (xs (i + 3)), .int (xs (i + 4)), .int (xs (i + 5)), .ref 2000]) (rest := []) X zG1_m (zMet_g zG1_0 (mL_produce l D dA hl0 hB hI)) (w_SX X.2.2.2.2.1 lL_89 tL_produce i_LogBrokerLaw kL_produce rfl rfl (by decide +kernel) ⟨by show 8 + 1 ≤ _; omega, by show 8 + (8 + 11) + 134 ≤ _; omega⟩) rfl rfl (Nat.le_of_ble_eq_true rfl) dL_law_316 ⟨by show _ + _ ≤ _; omega, by show _ + _ ≤ _; omega⟩ (fun v S1 hp => ?_) (fun E S1 hx => hx.elim)
  obtain ⟨hv, hle, hB1, hf1, hd1, hlg⟩ := hp
  subst hv
  have hA1 : zMdA S1 b := zMdA_far hA hf1 (fun n h => h)
  have h20 : S1.1 2000 = true := hd1.trans h2000
  refine z_istore (L' := [(5, .int (nI (sProduce b (xs (i + 1)) (xs (i + 2)) (xs (i + 3)) (xs (i + 4)) (xs (i + 5))).1.1)), (4, .int (nI i)), (0, .ref 0), (1, .ref 1), (2, .ref 1000), (3, .ref 2000)]) X dL_law_319 (by decide) rfl ?_
  refine z_aload_n (j := 4) X dL_law_321 rfl rfl ?_
  refine z_aload_n (j := 2) X dL_law_322 rfl rfl ?_
  refine z_iload (j := 1) X dL_law_323 rfl ?_
  refine z_iconst (v := (nI 1)) X dL_law_325 (by decide) ?_
  refine z_iadd X dL_law_326 ?_
  refine z_top (nI_add i 1) ?_
  refine z_sld (j := i + 1) X hX hbl hbA hO (by omega) (by omega) dL_law_327 ?_
  refine z_aload_n (j := 2) X dL_law_328 rfl rfl ?_
  refine z_iload (j := 1) X dL_law_329 rfl ?_
  refine z_iconst (v := (nI 2)) X dL_law_331 (by decide) ?_
  refine z_iadd X dL_law_332 ?_
  refine z_top (nI_add i 2) ?_
  refine z_sld (j := i + 2) X hX hbl hbA hO (by omega) (by omega) dL_law_333 ?_
  refine z_aload_n (j := 2) X dL_law_334 rfl rfl ?_
  refine z_iload (j := 1) X dL_law_335 rfl ?_
  refine z_iconst (v := (nI 3)) X dL_law_337 (by decide) ?_
  refine z_iadd X dL_law_338 ?_
  refine z_top (nI_add i 3) ?_
  refine z_sld (j := i + 3) X hX hbl hbA hO (by omega) (by omega) dL_law_339 ?_
  refine z_aload_n (j := 2) X dL_law_340 rfl rfl ?_
  refine z_iload (j := 1) X dL_law_341 rfl ?_
  refine z_iconst (v := (nI 4)) X dL_law_343 (by decide) ?_
  refine z_iadd X dL_law_344 ?_
  refine z_top (nI_add i 4) ?_
  refine z_sld (j := i + 4) X hX hbl hbA hO (by omega) (by omega) dL_law_345 ?_
  refine z_aload_n (j := 2) X dL_law_346 rfl rfl ?_
  refine z_iload (j := 1) X dL_law_347 rfl ?_
  refine z_iconst (v := (nI 5)) X dL_law_349 (by decide) ?_
  refine z_iadd X dL_law_350 ?_
  refine z_top (nI_add i 5) ?_
  refine z_sld (j := i + 5) X hX hbl hbA hO (by omega) (by omega) dL_law_351 ?_
  refine z_callV (n := 5) (As := [.int (xs (i + 1)), .int (xs (i + 2)), .int (xs (i + 3)), .int (xs (i + 4)), .int (xs (i + 5))]) (rest := []) X zG1_m (zMet_g zG1_0 (mM_produce l D dA hA1 hI)) (w_V X.2.2.2.2.1 lL_92 jM_produce sM_produce i_LogBrokerModel kM_produce rfl rfl (by decide +kernel) ⟨by show 4 + 1 ≤ _; omega, by show 8 + (9 + 11) + 91 ≤ _; omega⟩) rfl rfl rfl rfl rfl (Nat.le_of_ble_eq_true rfl) dL_law_352 ⟨by show _ + _ ≤ _; omega, by show _ + _ ≤ _; omega⟩ (fun v S2 hp => ?_) (fun E S1 hx => hx.elim)
  obtain ⟨hv, h27, hA2, hc2⟩ := hp
  subst hv
  have hI2 : zInv ((sProduce b (xs (i + 1)) (xs (i + 2)) (xs (i + 3)) (xs (i + 4)) (xs (i + 5))).2) := (zInv_produce hI)
  have hf2 : zfr (fun n => 1000 ≤ n ∧ n < 1023) S1 S2 := hc2.fr (fun n k h => h)
  have hH2 : lwH S2 ((sProduce b (xs (i + 1)) (xs (i + 2)) (xs (i + 3)) (xs (i + 4)) (xs (i + 5))).2) := ⟨zBrA_far hB1 hI2.1 hf2 (fun n h => h.1), hA2, hI2, (hf2.1 2000 (by omega)).trans h20⟩
  refine z_istore (L' := [(6, .int ((sProduce b (xs (i + 1)) (xs (i + 2)) (xs (i + 3)) (xs (i + 4)) (xs (i + 5))).1.2)), (5, .int (nI (sProduce b (xs (i + 1)) (xs (i + 2)) (xs (i + 3)) (xs (i + 4)) (xs (i + 5))).1.1)), (4, .int (nI i)), (0, .ref 0), (1, .ref 1), (2, .ref 1000), (3, .ref 2000)]) X dL_law_355 (by decide) rfl ?_
  refine z_aload_n (j := 5) X dL_law_357 rfl rfl ?_
  refine z_callV (n := 0) (As := []) (rest := []) X zG1_m (zMet_g zG1_0 (mM_thrown l D dA)) (w_V X.2.2.2.2.1 lL_81 jM_thrown sM_thrown i_LogBrokerModel kM_thrown rfl rfl (by decide +kernel) ⟨by show 0 + 1 ≤ _; omega, by show 8 + (1 + 11) + 0 ≤ _; omega⟩) rfl rfl rfl rfl rfl (Nat.le_of_ble_eq_true rfl) dL_law_358 ⟨by show _ + _ ≤ _; omega, by show _ + _ ≤ _; omega⟩ (fun v S9 hp => ?_) (fun E S1 hx => hx.elim)
  obtain ⟨hS9, hp⟩ := hp
  have hS9 := hS9.symm
  subst hS9
  subst hp
  refine z_iload (j := 1) X dL_law_361 rfl ?_
  refine z_icmp_eq (tgt := 368) X dL_law_363 (by decide) (fun _ => ?_) (fun h => absurd h27 h)
  refine z_iload (j := 1) X dL_law_368 rfl ?_
  refine z_if_ne (tgt := 385) X dL_law_370 (by decide) (fun _ => ?_) (fun h0 => ?_)
  · refine z_goto (tgt := 1225) X dL_law_385 (by decide) ?_
    refine z_loc [2, 3, 4, 5, 6] rfl ?_
    exact k _ _ _ _ hH2 (by omega) (by omega)
  · have hc0 : (sProduce b (xs (i + 1)) (xs (i + 2)) (xs (i + 3)) (xs (i + 4)) (xs (i + 5))).1.1 = 0 := Classical.byContradiction fun h => nI_ne0 (by omega) (by omega) h0
    have hlg2 : S2.2.2.2 2000 0 = ((sProduce b (xs (i + 1)) (xs (i + 2)) (xs (i + 3)) (xs (i + 4)) (xs (i + 5))).1.2).toInt64 := by rw [hc2.2.1]; exact hlg hc0
    refine z_aload_n (j := 6) X dL_law_373 rfl rfl ?_
    refine z_iconst (v := (nI 0)) X dL_law_374 (by decide) ?_
    refine z_lald (t0 := 2) (j9 := 0) X rfl rfl (by decide) (by decide) dL_law_375 (hv := hlg2) ?_
    refine z_iload (j := 0) X dL_law_376 rfl ?_
    refine z_i2l X dL_law_378 rfl ?_
    refine z_lcmp X dL_law_379 ?_
    refine z_if_eq (tgt := 385) X dL_law_380 (by decide) (fun _ => ?_) (fun c_380 => absurd (lg_same _) c_380)
    refine z_goto (tgt := 1225) X dL_law_385 (by decide) ?_
    refine z_loc [2, 3, 4, 5, 6] rfl ?_
    exact k _ _ _ _ hH2 (by omega) (by omega)

set_option maxHeartbeats 1000000 in
set_option maxRecDepth 100000 in
theorem law_begin {p : Program} {l : Launch} {e : Env} {R : Room} {s : State} {m : MethodId} {args : Array Value} {below : List Frame} {meth : Method} {c : Code} {kc ks : Nat} {Q : State → Prop} {D : va_G} {dA : Nat → ClassId} {A : Nat → Prop} {O : (Nat → Nat) × zS} {c0 : Cond} {S : zS} {b : zBr} {b0 Ln i : Nat} {xs : Nat → Int32} (X : zX p s m args c D vwCl zKK A code 7 "LogBrokerLaw" (c0 :: zTs) (ztys dA) (zG1 D dA)) (hl0 : l.stackTraces = false) (hX : va_X b0 Ln xs s s.heap) (hbl : b0 < s.heap.size) (hbA : ¬ A b0) (hO : O.1 0 = b0) (hLn : Ln < 2 ^ 30) (hi : i + 5 < Ln) (hH : lwH S b) (hR : 10 ≤ R.frames ∧ 300 ≤ R.locals) (hkc : kc + 40 ≤ R.cells) (hks : ks + 400 ≤ R.slots) (k : ∀ (S' : zS) (b' : zBr) (kc' ks' : Nat), lwH S' b' → kc' ≤ kc + 40 → ks' ≤ ks + 400 → AW p l e R s m args below meth c D vwCl zKK dA A O 7 S' kc' ks' Q 1225 [(4, .int (nI i)), (0, .ref 0), (1, .ref 1), (2, .ref 1000), (3, .ref 2000)] []) : AW p l e R s m args below meth c D vwCl zKK dA A O 7 S kc ks Q 388 [(4, .int (nI i)), (0, .ref 0), (1, .ref 1), (2, .ref 1000), (3, .ref 2000)] [] := by
  obtain ⟨hB, hA, hI, h2000⟩ := hH
  refine z_aload_n (j := 2) X dL_law_388 rfl rfl ?_
  refine z_aload_n (j := 1) X dL_law_389 rfl rfl ?_
  refine z_iload (j := 0) X dL_law_390 rfl ?_
  refine z_iconst (v := (nI 1)) X dL_law_392 (by decide) ?_
  refine z_iadd X dL_law_393 ?_
  refine z_top (nI_add i 1) ?_
  refine z_sld (j := i + 1) X hX hbl hbA hO (by omega) (by omega) dL_law_394 ?_
  refine z_callSX (n := 2) (As := [.ref 1, .int (xs (i + 1))]) (rest := []) X zG1_m (zMet_g zG1_0 (mL_begin l D dA hl0 hB hI)) (w_SX X.2.2.2.2.1 lL_93 tL_begin i_LogBrokerLaw kL_begin rfl rfl (by decide +kernel) ⟨by show 8 + 1 ≤ _; omega, by show 8 + (3 + 11) + 126 ≤ _; omega⟩) rfl rfl (Nat.le_of_ble_eq_true rfl) dL_law_395 ⟨by show _ + _ ≤ _; omega, by show _ + _ ≤ _; omega⟩ (fun v S1 hp => ?_) (fun E S1 hx => hx.elim)
  obtain ⟨hv, hle, hB1, hf1, hd1⟩ := hp
  subst hv
  have hA1 : zMdA S1 b := zMdA_far hA hf1 (fun n h => h)
  have h20 : S1.1 2000 = true := hd1.trans h2000
  refine z_istore (L' := [(5, .int (nI (sBegin b (xs (i + 1))).1.1)), (4, .int (nI i)), (0, .ref 0), (1, .ref 1), (2, .ref 1000), (3, .ref 2000)]) X dL_law_398 (by decide) rfl ?_
  refine z_aload_n (j := 4) X dL_law_400 rfl rfl ?_
  refine z_aload_n (j := 2) X dL_law_401 rfl rfl ?_
  refine z_iload (j := 1) X dL_law_402 rfl ?_
  refine z_iconst (v := (nI 1)) X dL_law_404 (by decide) ?_
  refine z_iadd X dL_law_405 ?_
  refine z_top (nI_add i 1) ?_
  refine z_sld (j := i + 1) X hX hbl hbA hO (by omega) (by omega) dL_law_406 ?_
  refine z_callV (n := 1) (As := [.int (xs (i + 1))]) (rest := []) X zG1_m (zMet_g zG1_0 (mM_begin l D dA hA1 hI)) (w_V X.2.2.2.2.1 lL_96 jM_begin sM_begin i_LogBrokerModel kM_begin rfl rfl (by decide +kernel) ⟨by show 1 + 1 ≤ _; omega, by show 8 + (2 + 11) + 21 ≤ _; omega⟩) rfl rfl rfl rfl rfl (Nat.le_of_ble_eq_true rfl) dL_law_407 ⟨by show _ + _ ≤ _; omega, by show _ + _ ≤ _; omega⟩ (fun v S2 hp => ?_) (fun E S1 hx => hx.elim)
  obtain ⟨hv, h27, hA2, hc2⟩ := hp
  subst hv
  have hI2 : zInv ((sBegin b (xs (i + 1))).2) := (zInv_begin hI)
  have hf2 : zfr (fun n => 1000 ≤ n ∧ n < 1023) S1 S2 := hc2.fr (fun n k h => h)
  have hH2 : lwH S2 ((sBegin b (xs (i + 1))).2) := ⟨zBrA_far hB1 hI2.1 hf2 (fun n h => h.1), hA2, hI2, (hf2.1 2000 (by omega)).trans h20⟩
  refine z_aload_n (j := 4) X dL_law_410 rfl rfl ?_
  refine z_callV (n := 0) (As := []) (rest := []) X zG1_m (zMet_g zG1_0 (mM_thrown l D dA)) (w_V X.2.2.2.2.1 lL_81 jM_thrown sM_thrown i_LogBrokerModel kM_thrown rfl rfl (by decide +kernel) ⟨by show 0 + 1 ≤ _; omega, by show 8 + (1 + 11) + 0 ≤ _; omega⟩) rfl rfl rfl rfl rfl (Nat.le_of_ble_eq_true rfl) dL_law_411 ⟨by show _ + _ ≤ _; omega, by show _ + _ ≤ _; omega⟩ (fun v S9 hp => ?_) (fun E S1 hx => hx.elim)
  obtain ⟨hS9, hp⟩ := hp
  have hS9 := hS9.symm
  subst hS9
  subst hp
  refine z_iload (j := 0) X dL_law_414 rfl ?_
  refine z_icmp_eq (tgt := 421) X dL_law_416 (by decide) (fun _ => ?_) (fun h => absurd h27 h)
  refine z_goto (tgt := 1225) X dL_law_421 (by decide) ?_
  refine z_loc [1, 2, 3, 4, 5] rfl ?_
  exact k _ _ _ _ hH2 (by omega) (by omega)

set_option maxHeartbeats 1000000 in
set_option maxRecDepth 100000 in
theorem law_end {p : Program} {l : Launch} {e : Env} {R : Room} {s : State} {m : MethodId} {args : Array Value} {below : List Frame} {meth : Method} {c : Code} {kc ks : Nat} {Q : State → Prop} {D : va_G} {dA : Nat → ClassId} {A : Nat → Prop} {O : (Nat → Nat) × zS} {c0 : Cond} {S : zS} {b : zBr} {b0 Ln i : Nat} {xs : Nat → Int32} (X : zX p s m args c D vwCl zKK A code 7 "LogBrokerLaw" (c0 :: zTs) (ztys dA) (zG1 D dA)) (hl0 : l.stackTraces = false) (hX : va_X b0 Ln xs s s.heap) (hbl : b0 < s.heap.size) (hbA : ¬ A b0) (hO : O.1 0 = b0) (hLn : Ln < 2 ^ 30) (hi : i + 5 < Ln) (hH : lwH S b) (hR : 10 ≤ R.frames ∧ 300 ≤ R.locals) (hkc : kc + 40 ≤ R.cells) (hks : ks + 400 ≤ R.slots) (k : ∀ (S' : zS) (b' : zBr) (kc' ks' : Nat), lwH S' b' → kc' ≤ kc + 40 → ks' ≤ ks + 400 → AW p l e R s m args below meth c D vwCl zKK dA A O 7 S' kc' ks' Q 1225 [(4, .int (nI i)), (0, .ref 0), (1, .ref 1), (2, .ref 1000), (3, .ref 2000)] []) : AW p l e R s m args below meth c D vwCl zKK dA A O 7 S kc ks Q 424 [(4, .int (nI i)), (0, .ref 0), (1, .ref 1), (2, .ref 1000), (3, .ref 2000)] [] := by
  obtain ⟨hB, hA, hI, h2000⟩ := hH
  refine z_aload_n (j := 2) X dL_law_424 rfl rfl ?_
  refine z_aload_n (j := 1) X dL_law_425 rfl rfl ?_
  refine z_iload (j := 0) X dL_law_426 rfl ?_
  refine z_iconst (v := (nI 1)) X dL_law_428 (by decide) ?_
  refine z_iadd X dL_law_429 ?_
  refine z_top (nI_add i 1) ?_
  refine z_sld (j := i + 1) X hX hbl hbA hO (by omega) (by omega) dL_law_430 ?_
  refine z_aload_n (j := 1) X dL_law_431 rfl rfl ?_
  refine z_iload (j := 0) X dL_law_432 rfl ?_
  refine z_iconst (v := (nI 2)) X dL_law_434 (by decide) ?_
  refine z_iadd X dL_law_435 ?_
  refine z_top (nI_add i 2) ?_
  refine z_sld (j := i + 2) X hX hbl hbA hO (by omega) (by omega) dL_law_436 ?_
  refine z_if_eq (tgt := 444) X dL_law_437 (by decide) (fun hcb => ?_) (fun hcb => ?_)
  · refine z_iconst (v := (nI 0)) X dL_law_444 (by decide) ?_
    refine z_aload_n (j := 4) X dL_law_445 rfl rfl ?_
    refine z_callSX (n := 4) (As := [.ref 1, .int (xs (i + 1)), .int (nI 0), .ref 2000]) (rest := []) X zG1_m (zMet_g zG1_0 (mL_end l D dA (c0 := false) hl0 hB hI)) (w_SX X.2.2.2.2.1 lL_97 tL_end i_LogBrokerLaw kL_end rfl rfl (by decide +kernel) ⟨by show 8 + 1 ≤ _; omega, by show 8 + (5 + 11) + 127 ≤ _; omega⟩) rfl rfl (Nat.le_of_ble_eq_true rfl) dL_law_446 ⟨by show _ + _ ≤ _; omega, by show _ + _ ≤ _; omega⟩ (fun v S1 hp => ?_) (fun E S1 hx => hx.elim)
    obtain ⟨hv, hle, hB1, hf1, hd1, hlg⟩ := hp
    subst hv
    have hA1 : zMdA S1 b := zMdA_far hA hf1 (fun n h => h)
    have h20 : S1.1 2000 = true := hd1.trans h2000
    refine z_istore (L' := [(5, .int (nI (sEnd b (xs (i + 1)) false).1.1)), (4, .int (nI i)), (0, .ref 0), (1, .ref 1), (2, .ref 1000), (3, .ref 2000)]) X dL_law_449 (by decide) rfl ?_
    refine z_aload_n (j := 4) X dL_law_451 rfl rfl ?_
    refine z_aload_n (j := 2) X dL_law_452 rfl rfl ?_
    refine z_iload (j := 1) X dL_law_453 rfl ?_
    refine z_iconst (v := (nI 1)) X dL_law_455 (by decide) ?_
    refine z_iadd X dL_law_456 ?_
    refine z_top (nI_add i 1) ?_
    refine z_sld (j := i + 1) X hX hbl hbA hO (by omega) (by omega) dL_law_457 ?_
    refine z_aload_n (j := 2) X dL_law_458 rfl rfl ?_
    refine z_iload (j := 1) X dL_law_459 rfl ?_
    refine z_iconst (v := (nI 2)) X dL_law_461 (by decide) ?_
    refine z_iadd X dL_law_462 ?_
    refine z_top (nI_add i 2) ?_
    refine z_sld (j := i + 2) X hX hbl hbA hO (by omega) (by omega) dL_law_463 ?_
    refine z_if_eq (tgt := 471) X dL_law_464 (by decide) (fun _ => ?_) (fun h => absurd hcb h)
    refine z_iconst (v := (nI 0)) X dL_law_471 (by decide) ?_
    refine z_callV (n := 2) (As := [.int (xs (i + 1)), .int (nI 0)]) (rest := []) X zG1_m (zMet_g zG1_0 (mM_end l D dA (c9 := false) hA1 hI)) (w_V X.2.2.2.2.1 lL_100 jM_end sM_end i_LogBrokerModel kM_end rfl rfl (by decide +kernel) ⟨by show 5 + 1 ≤ _; omega, by show 8 + (3 + 11) + 116 ≤ _; omega⟩) rfl rfl rfl rfl rfl (Nat.le_of_ble_eq_true rfl) dL_law_472 ⟨by show _ + _ ≤ _; omega, by show _ + _ ≤ _; omega⟩ (fun v S2 hp => ?_) (fun E S1 hx => hx.elim)
    obtain ⟨hv, h27, hA2, hc2⟩ := hp
    subst hv
    have hI2 : zInv ((sEnd b (xs (i + 1)) false).2) := (zInv_end hI)
    have hf2 : zfr (fun n => 1000 ≤ n ∧ n < 1023) S1 S2 := hc2.fr (fun n k h => h)
    have hH2 : lwH S2 ((sEnd b (xs (i + 1)) false).2) := ⟨zBrA_far hB1 hI2.1 hf2 (fun n h => h.1), hA2, hI2, (hf2.1 2000 (by omega)).trans h20⟩
    refine z_istore (L' := [(6, .int ((sEnd b (xs (i + 1)) false).1.2)), (5, .int (nI (sEnd b (xs (i + 1)) false).1.1)), (4, .int (nI i)), (0, .ref 0), (1, .ref 1), (2, .ref 1000), (3, .ref 2000)]) X dL_law_475 (by decide) rfl ?_
    refine z_aload_n (j := 5) X dL_law_477 rfl rfl ?_
    refine z_callV (n := 0) (As := []) (rest := []) X zG1_m (zMet_g zG1_0 (mM_thrown l D dA)) (w_V X.2.2.2.2.1 lL_81 jM_thrown sM_thrown i_LogBrokerModel kM_thrown rfl rfl (by decide +kernel) ⟨by show 0 + 1 ≤ _; omega, by show 8 + (1 + 11) + 0 ≤ _; omega⟩) rfl rfl rfl rfl rfl (Nat.le_of_ble_eq_true rfl) dL_law_478 ⟨by show _ + _ ≤ _; omega, by show _ + _ ≤ _; omega⟩ (fun v S9 hp => ?_) (fun E S1 hx => hx.elim)
    obtain ⟨hS9, hp⟩ := hp
    have hS9 := hS9.symm
    subst hS9
    subst hp
    refine z_iload (j := 1) X dL_law_481 rfl ?_
    refine z_icmp_eq (tgt := 488) X dL_law_483 (by decide) (fun _ => ?_) (fun h => absurd h27 h)
    refine z_iload (j := 1) X dL_law_488 rfl ?_
    refine z_if_ne (tgt := 505) X dL_law_490 (by decide) (fun _ => ?_) (fun h0 => ?_)
    · refine z_goto (tgt := 1225) X dL_law_505 (by decide) ?_
      refine z_loc [2, 3, 4, 5, 6] rfl ?_
      exact k _ _ _ _ hH2 (by omega) (by omega)
    · have hc0 : (sEnd b (xs (i + 1)) false).1.1 = 0 := Classical.byContradiction fun h => nI_ne0 (by omega) (by omega) h0
      have hlg2 : S2.2.2.2 2000 0 = ((sEnd b (xs (i + 1)) false).1.2).toInt64 := by rw [hc2.2.1]; exact hlg hc0
      refine z_aload_n (j := 6) X dL_law_493 rfl rfl ?_
      refine z_iconst (v := (nI 0)) X dL_law_494 (by decide) ?_
      refine z_lald (t0 := 2) (j9 := 0) X rfl rfl (by decide) (by decide) dL_law_495 (hv := hlg2) ?_
      refine z_iload (j := 0) X dL_law_496 rfl ?_
      refine z_i2l X dL_law_498 rfl ?_
      refine z_lcmp X dL_law_499 ?_
      refine z_if_eq (tgt := 505) X dL_law_500 (by decide) (fun _ => ?_) (fun c_500 => absurd (lg_same _) c_500)
      refine z_goto (tgt := 1225) X dL_law_505 (by decide) ?_
      refine z_loc [2, 3, 4, 5, 6] rfl ?_
      exact k _ _ _ _ hH2 (by omega) (by omega)
  · refine z_iconst (v := (nI 1)) X dL_law_440 (by decide) ?_
    refine z_goto (tgt := 445) X dL_law_441 (by decide) ?_
    refine z_aload_n (j := 4) X dL_law_445 rfl rfl ?_
    refine z_callSX (n := 4) (As := [.ref 1, .int (xs (i + 1)), .int (nI 1), .ref 2000]) (rest := []) X zG1_m (zMet_g zG1_0 (mL_end l D dA (c0 := true) hl0 hB hI)) (w_SX X.2.2.2.2.1 lL_97 tL_end i_LogBrokerLaw kL_end rfl rfl (by decide +kernel) ⟨by show 8 + 1 ≤ _; omega, by show 8 + (5 + 11) + 127 ≤ _; omega⟩) rfl rfl (Nat.le_of_ble_eq_true rfl) dL_law_446 ⟨by show _ + _ ≤ _; omega, by show _ + _ ≤ _; omega⟩ (fun v S1 hp => ?_) (fun E S1 hx => hx.elim)
    obtain ⟨hv, hle, hB1, hf1, hd1, hlg⟩ := hp
    subst hv
    have hA1 : zMdA S1 b := zMdA_far hA hf1 (fun n h => h)
    have h20 : S1.1 2000 = true := hd1.trans h2000
    refine z_istore (L' := [(5, .int (nI (sEnd b (xs (i + 1)) true).1.1)), (4, .int (nI i)), (0, .ref 0), (1, .ref 1), (2, .ref 1000), (3, .ref 2000)]) X dL_law_449 (by decide) rfl ?_
    refine z_aload_n (j := 4) X dL_law_451 rfl rfl ?_
    refine z_aload_n (j := 2) X dL_law_452 rfl rfl ?_
    refine z_iload (j := 1) X dL_law_453 rfl ?_
    refine z_iconst (v := (nI 1)) X dL_law_455 (by decide) ?_
    refine z_iadd X dL_law_456 ?_
    refine z_top (nI_add i 1) ?_
    refine z_sld (j := i + 1) X hX hbl hbA hO (by omega) (by omega) dL_law_457 ?_
    refine z_aload_n (j := 2) X dL_law_458 rfl rfl ?_
    refine z_iload (j := 1) X dL_law_459 rfl ?_
    refine z_iconst (v := (nI 2)) X dL_law_461 (by decide) ?_
    refine z_iadd X dL_law_462 ?_
    refine z_top (nI_add i 2) ?_
    refine z_sld (j := i + 2) X hX hbl hbA hO (by omega) (by omega) dL_law_463 ?_
    refine z_if_eq (tgt := 471) X dL_law_464 (by decide) (fun h => absurd h hcb) (fun _ => ?_)
    refine z_iconst (v := (nI 1)) X dL_law_467 (by decide) ?_
    refine z_goto (tgt := 472) X dL_law_468 (by decide) ?_
    refine z_callV (n := 2) (As := [.int (xs (i + 1)), .int (nI 1)]) (rest := []) X zG1_m (zMet_g zG1_0 (mM_end l D dA (c9 := true) hA1 hI)) (w_V X.2.2.2.2.1 lL_100 jM_end sM_end i_LogBrokerModel kM_end rfl rfl (by decide +kernel) ⟨by show 5 + 1 ≤ _; omega, by show 8 + (3 + 11) + 116 ≤ _; omega⟩) rfl rfl rfl rfl rfl (Nat.le_of_ble_eq_true rfl) dL_law_472 ⟨by show _ + _ ≤ _; omega, by show _ + _ ≤ _; omega⟩ (fun v S2 hp => ?_) (fun E S1 hx => hx.elim)
    obtain ⟨hv, h27, hA2, hc2⟩ := hp
    subst hv
    have hI2 : zInv ((sEnd b (xs (i + 1)) true).2) := (zInv_end hI)
    have hf2 : zfr (fun n => 1000 ≤ n ∧ n < 1023) S1 S2 := hc2.fr (fun n k h => h)
    have hH2 : lwH S2 ((sEnd b (xs (i + 1)) true).2) := ⟨zBrA_far hB1 hI2.1 hf2 (fun n h => h.1), hA2, hI2, (hf2.1 2000 (by omega)).trans h20⟩
    refine z_istore (L' := [(6, .int ((sEnd b (xs (i + 1)) true).1.2)), (5, .int (nI (sEnd b (xs (i + 1)) true).1.1)), (4, .int (nI i)), (0, .ref 0), (1, .ref 1), (2, .ref 1000), (3, .ref 2000)]) X dL_law_475 (by decide) rfl ?_
    refine z_aload_n (j := 5) X dL_law_477 rfl rfl ?_
    refine z_callV (n := 0) (As := []) (rest := []) X zG1_m (zMet_g zG1_0 (mM_thrown l D dA)) (w_V X.2.2.2.2.1 lL_81 jM_thrown sM_thrown i_LogBrokerModel kM_thrown rfl rfl (by decide +kernel) ⟨by show 0 + 1 ≤ _; omega, by show 8 + (1 + 11) + 0 ≤ _; omega⟩) rfl rfl rfl rfl rfl (Nat.le_of_ble_eq_true rfl) dL_law_478 ⟨by show _ + _ ≤ _; omega, by show _ + _ ≤ _; omega⟩ (fun v S9 hp => ?_) (fun E S1 hx => hx.elim)
    obtain ⟨hS9, hp⟩ := hp
    have hS9 := hS9.symm
    subst hS9
    subst hp
    refine z_iload (j := 1) X dL_law_481 rfl ?_
    refine z_icmp_eq (tgt := 488) X dL_law_483 (by decide) (fun _ => ?_) (fun h => absurd h27 h)
    refine z_iload (j := 1) X dL_law_488 rfl ?_
    refine z_if_ne (tgt := 505) X dL_law_490 (by decide) (fun _ => ?_) (fun h0 => ?_)
    · refine z_goto (tgt := 1225) X dL_law_505 (by decide) ?_
      refine z_loc [2, 3, 4, 5, 6] rfl ?_
      exact k _ _ _ _ hH2 (by omega) (by omega)
    · have hc0 : (sEnd b (xs (i + 1)) true).1.1 = 0 := Classical.byContradiction fun h => nI_ne0 (by omega) (by omega) h0
      have hlg2 : S2.2.2.2 2000 0 = ((sEnd b (xs (i + 1)) true).1.2).toInt64 := by rw [hc2.2.1]; exact hlg hc0
      refine z_aload_n (j := 6) X dL_law_493 rfl rfl ?_
      refine z_iconst (v := (nI 0)) X dL_law_494 (by decide) ?_
      refine z_lald (t0 := 2) (j9 := 0) X rfl rfl (by decide) (by decide) dL_law_495 (hv := hlg2) ?_
      refine z_iload (j := 0) X dL_law_496 rfl ?_
      refine z_i2l X dL_law_498 rfl ?_
      refine z_lcmp X dL_law_499 ?_
      refine z_if_eq (tgt := 505) X dL_law_500 (by decide) (fun _ => ?_) (fun c_500 => absurd (lg_same _) c_500)
      refine z_goto (tgt := 1225) X dL_law_505 (by decide) ?_
      refine z_loc [2, 3, 4, 5, 6] rfl ?_
      exact k _ _ _ _ hH2 (by omega) (by omega)

set_option maxHeartbeats 1000000 in
set_option maxRecDepth 100000 in
theorem law_fetch {p : Program} {l : Launch} {e : Env} {R : Room} {s : State} {m : MethodId} {args : Array Value} {below : List Frame} {meth : Method} {c : Code} {kc ks : Nat} {Q : State → Prop} {D : va_G} {dA : Nat → ClassId} {A : Nat → Prop} {O : (Nat → Nat) × zS} {c0 : Cond} {S : zS} {b : zBr} {b0 Ln i : Nat} {xs : Nat → Int32} (X : zX p s m args c D vwCl zKK A code 7 "LogBrokerLaw" (c0 :: zTs) (ztys dA) (zG1 D dA)) (hl0 : l.stackTraces = false) (hX : va_X b0 Ln xs s s.heap) (hbl : b0 < s.heap.size) (hbA : ¬ A b0) (hO : O.1 0 = b0) (hLn : Ln < 2 ^ 30) (hi : i + 5 < Ln) (hH : lwH S b) (hR : 10 ≤ R.frames ∧ 300 ≤ R.locals) (hkc : kc + 40 ≤ R.cells) (hks : ks + 400 ≤ R.slots) (k : ∀ (S' : zS) (b' : zBr) (kc' ks' : Nat), lwH S' b' → kc' ≤ kc + 40 → ks' ≤ ks + 400 → AW p l e R s m args below meth c D vwCl zKK dA A O 7 S' kc' ks' Q 1225 [(4, .int (nI i)), (0, .ref 0), (1, .ref 1), (2, .ref 1000), (3, .ref 2000)] []) : AW p l e R s m args below meth c D vwCl zKK dA A O 7 S kc ks Q 508 [(4, .int (nI i)), (0, .ref 0), (1, .ref 1), (2, .ref 1000), (3, .ref 2000)] [] := by
  obtain ⟨hB, hA, hI, h2000⟩ := hH
  refine z_aload_n (j := 2) X dL_law_508 rfl rfl ?_
  refine z_aload_n (j := 1) X dL_law_509 rfl rfl ?_
  refine z_iload (j := 0) X dL_law_510 rfl ?_
  refine z_iconst (v := (nI 1)) X dL_law_512 (by decide) ?_
  refine z_iadd X dL_law_513 ?_
  refine z_top (nI_add i 1) ?_
  refine z_sld (j := i + 1) X hX hbl hbA hO (by omega) (by omega) dL_law_514 ?_
  refine z_aload_n (j := 1) X dL_law_515 rfl rfl ?_
  refine z_iload (j := 0) X dL_law_516 rfl ?_
  refine z_iconst (v := (nI 2)) X dL_law_518 (by decide) ?_
  refine z_iadd X dL_law_519 ?_
  refine z_top (nI_add i 2) ?_
  refine z_sld (j := i + 2) X hX hbl hbA hO (by omega) (by omega) dL_law_520 ?_
  refine z_aload_n (j := 1) X dL_law_521 rfl rfl ?_
  refine z_iload (j := 0) X dL_law_522 rfl ?_
  refine z_iconst (v := (nI 3)) X dL_law_524 (by decide) ?_
  refine z_iadd X dL_law_525 ?_
  refine z_top (nI_add i 3) ?_
  refine z_sld (j := i + 3) X hX hbl hbA hO (by omega) (by omega) dL_law_526 ?_
  refine z_if_eq (tgt := 534) X dL_law_527 (by decide) (fun hcb => ?_) (fun hcb => ?_)
  · refine z_iconst (v := (nI 0)) X dL_law_534 (by decide) ?_
    refine z_aload_n (j := 4) X dL_law_535 rfl rfl ?_
    refine z_callSX (n := 5) (As := [.ref 1, .int (xs (i + 1)), .int (xs (i + 2)), .int (nI 0), .ref 2000]) (rest := []) X zG1_m (zMet_g zG1_0 (mL_fetch l D dA (c0 := false) hl0 hB hI)) (w_SX X.2.2.2.2.1 lL_101 tL_fetch i_LogBrokerLaw kL_fetch rfl rfl (by decide +kernel) ⟨by show 8 + 1 ≤ _; omega, by show 8 + (6 + 11) + 127 ≤ _; omega⟩) rfl rfl (Nat.le_of_ble_eq_true rfl) dL_law_536 ⟨by show _ + _ ≤ _; omega, by show _ + _ ≤ _; omega⟩ (fun v S1 hp => ?_) (fun E S1 hx => hx.elim)
    obtain ⟨hv, hle, hB1, hf1, hd1, hlg⟩ := hp
    subst hv
    have hA1 : zMdA S1 b := zMdA_far hA hf1 (fun n h => h)
    have h20 : S1.1 2000 = true := hd1.trans h2000
    refine z_istore (L' := [(5, .int (nI (sFetch b (xs (i + 1)) (xs (i + 2)) false).1)), (4, .int (nI i)), (0, .ref 0), (1, .ref 1), (2, .ref 1000), (3, .ref 2000)]) X dL_law_539 (by decide) rfl ?_
    refine z_aload_n (j := 4) X dL_law_541 rfl rfl ?_
    refine z_aload_n (j := 2) X dL_law_542 rfl rfl ?_
    refine z_iload (j := 1) X dL_law_543 rfl ?_
    refine z_iconst (v := (nI 1)) X dL_law_545 (by decide) ?_
    refine z_iadd X dL_law_546 ?_
    refine z_top (nI_add i 1) ?_
    refine z_sld (j := i + 1) X hX hbl hbA hO (by omega) (by omega) dL_law_547 ?_
    refine z_aload_n (j := 2) X dL_law_548 rfl rfl ?_
    refine z_iload (j := 1) X dL_law_549 rfl ?_
    refine z_iconst (v := (nI 2)) X dL_law_551 (by decide) ?_
    refine z_iadd X dL_law_552 ?_
    refine z_top (nI_add i 2) ?_
    refine z_sld (j := i + 2) X hX hbl hbA hO (by omega) (by omega) dL_law_553 ?_
    refine z_aload_n (j := 2) X dL_law_554 rfl rfl ?_
    refine z_iload (j := 1) X dL_law_555 rfl ?_
    refine z_iconst (v := (nI 3)) X dL_law_557 (by decide) ?_
    refine z_iadd X dL_law_558 ?_
    refine z_top (nI_add i 3) ?_
    refine z_sld (j := i + 3) X hX hbl hbA hO (by omega) (by omega) dL_law_559 ?_
    refine z_if_eq (tgt := 567) X dL_law_560 (by decide) (fun _ => ?_) (fun h => absurd hcb h)
    refine z_iconst (v := (nI 0)) X dL_law_567 (by decide) ?_
    refine z_callV (n := 3) (As := [.int (xs (i + 1)), .int (xs (i + 2)), .int (nI 0)]) (rest := []) X zG1_m (zMet_g zG1_0 (mM_fetch l D dA (c9 := false) hA1 hI)) (w_V X.2.2.2.2.1 lL_104 jM_fetch sM_fetch i_LogBrokerModel kM_fetch rfl rfl (by decide +kernel) ⟨by show 2 + 1 ≤ _; omega, by show 8 + (4 + 11) + 48 ≤ _; omega⟩) rfl rfl rfl rfl rfl (Nat.le_of_ble_eq_true rfl) dL_law_568 ⟨by show _ + _ ≤ _; omega, by show _ + _ ≤ _; omega⟩ (fun v S2 hp => ?_) (fun E S1 hx => hx.elim)
    obtain ⟨hv, h27, hA2, hc2⟩ := hp
    subst hv
    have hI2 : zInv b := hI
    have hf2 : zfr (fun n => 1000 ≤ n ∧ n < 1023) S1 S2 := hc2.fr (fun n k h => h)
    have hH2 : lwH S2 b := ⟨zBrA_far hB1 hI2.1 hf2 (fun n h => h.1), hA2, hI2, (hf2.1 2000 (by omega)).trans h20⟩
    refine z_istore (L' := [(6, .int ((sFetch b (xs (i + 1)) (xs (i + 2)) false).2)), (5, .int (nI (sFetch b (xs (i + 1)) (xs (i + 2)) false).1)), (4, .int (nI i)), (0, .ref 0), (1, .ref 1), (2, .ref 1000), (3, .ref 2000)]) X dL_law_571 (by decide) rfl ?_
    refine z_aload_n (j := 5) X dL_law_573 rfl rfl ?_
    refine z_callV (n := 0) (As := []) (rest := []) X zG1_m (zMet_g zG1_0 (mM_thrown l D dA)) (w_V X.2.2.2.2.1 lL_81 jM_thrown sM_thrown i_LogBrokerModel kM_thrown rfl rfl (by decide +kernel) ⟨by show 0 + 1 ≤ _; omega, by show 8 + (1 + 11) + 0 ≤ _; omega⟩) rfl rfl rfl rfl rfl (Nat.le_of_ble_eq_true rfl) dL_law_574 ⟨by show _ + _ ≤ _; omega, by show _ + _ ≤ _; omega⟩ (fun v S9 hp => ?_) (fun E S1 hx => hx.elim)
    obtain ⟨hS9, hp⟩ := hp
    have hS9 := hS9.symm
    subst hS9
    subst hp
    refine z_iload (j := 1) X dL_law_577 rfl ?_
    refine z_icmp_eq (tgt := 584) X dL_law_579 (by decide) (fun _ => ?_) (fun h => absurd h27 h)
    refine z_iload (j := 1) X dL_law_584 rfl ?_
    refine z_if_ne (tgt := 601) X dL_law_586 (by decide) (fun _ => ?_) (fun h0 => ?_)
    · refine z_goto (tgt := 1225) X dL_law_601 (by decide) ?_
      refine z_loc [2, 3, 4, 5, 6] rfl ?_
      exact k _ _ _ _ hH2 (by omega) (by omega)
    · have hc0 : (sFetch b (xs (i + 1)) (xs (i + 2)) false).1 = 0 := Classical.byContradiction fun h => nI_ne0 (by omega) (by omega) h0
      have hlg2 : S2.2.2.2 2000 0 = ((sFetch b (xs (i + 1)) (xs (i + 2)) false).2).toInt64 := by rw [hc2.2.1]; exact hlg hc0
      refine z_aload_n (j := 6) X dL_law_589 rfl rfl ?_
      refine z_iconst (v := (nI 0)) X dL_law_590 (by decide) ?_
      refine z_lald (t0 := 2) (j9 := 0) X rfl rfl (by decide) (by decide) dL_law_591 (hv := hlg2) ?_
      refine z_iload (j := 0) X dL_law_592 rfl ?_
      refine z_i2l X dL_law_594 rfl ?_
      refine z_lcmp X dL_law_595 ?_
      refine z_if_eq (tgt := 601) X dL_law_596 (by decide) (fun _ => ?_) (fun c_596 => absurd (lg_same _) c_596)
      refine z_goto (tgt := 1225) X dL_law_601 (by decide) ?_
      refine z_loc [2, 3, 4, 5, 6] rfl ?_
      exact k _ _ _ _ hH2 (by omega) (by omega)
  · refine z_iconst (v := (nI 1)) X dL_law_530 (by decide) ?_
    refine z_goto (tgt := 535) X dL_law_531 (by decide) ?_
    refine z_aload_n (j := 4) X dL_law_535 rfl rfl ?_
    refine z_callSX (n := 5) (As := [.ref 1, .int (xs (i + 1)), .int (xs (i + 2)), .int (nI 1), .ref 2000]) (rest := []) X zG1_m (zMet_g zG1_0 (mL_fetch l D dA (c0 := true) hl0 hB hI)) (w_SX X.2.2.2.2.1 lL_101 tL_fetch i_LogBrokerLaw kL_fetch rfl rfl (by decide +kernel) ⟨by show 8 + 1 ≤ _; omega, by show 8 + (6 + 11) + 127 ≤ _; omega⟩) rfl rfl (Nat.le_of_ble_eq_true rfl) dL_law_536 ⟨by show _ + _ ≤ _; omega, by show _ + _ ≤ _; omega⟩ (fun v S1 hp => ?_) (fun E S1 hx => hx.elim)
    obtain ⟨hv, hle, hB1, hf1, hd1, hlg⟩ := hp
    subst hv
    have hA1 : zMdA S1 b := zMdA_far hA hf1 (fun n h => h)
    have h20 : S1.1 2000 = true := hd1.trans h2000
    refine z_istore (L' := [(5, .int (nI (sFetch b (xs (i + 1)) (xs (i + 2)) true).1)), (4, .int (nI i)), (0, .ref 0), (1, .ref 1), (2, .ref 1000), (3, .ref 2000)]) X dL_law_539 (by decide) rfl ?_
    refine z_aload_n (j := 4) X dL_law_541 rfl rfl ?_
    refine z_aload_n (j := 2) X dL_law_542 rfl rfl ?_
    refine z_iload (j := 1) X dL_law_543 rfl ?_
    refine z_iconst (v := (nI 1)) X dL_law_545 (by decide) ?_
    refine z_iadd X dL_law_546 ?_
    refine z_top (nI_add i 1) ?_
    refine z_sld (j := i + 1) X hX hbl hbA hO (by omega) (by omega) dL_law_547 ?_
    refine z_aload_n (j := 2) X dL_law_548 rfl rfl ?_
    refine z_iload (j := 1) X dL_law_549 rfl ?_
    refine z_iconst (v := (nI 2)) X dL_law_551 (by decide) ?_
    refine z_iadd X dL_law_552 ?_
    refine z_top (nI_add i 2) ?_
    refine z_sld (j := i + 2) X hX hbl hbA hO (by omega) (by omega) dL_law_553 ?_
    refine z_aload_n (j := 2) X dL_law_554 rfl rfl ?_
    refine z_iload (j := 1) X dL_law_555 rfl ?_
    refine z_iconst (v := (nI 3)) X dL_law_557 (by decide) ?_
    refine z_iadd X dL_law_558 ?_
    refine z_top (nI_add i 3) ?_
    refine z_sld (j := i + 3) X hX hbl hbA hO (by omega) (by omega) dL_law_559 ?_
    refine z_if_eq (tgt := 567) X dL_law_560 (by decide) (fun h => absurd h hcb) (fun _ => ?_)
    refine z_iconst (v := (nI 1)) X dL_law_563 (by decide) ?_
    refine z_goto (tgt := 568) X dL_law_564 (by decide) ?_
    refine z_callV (n := 3) (As := [.int (xs (i + 1)), .int (xs (i + 2)), .int (nI 1)]) (rest := []) X zG1_m (zMet_g zG1_0 (mM_fetch l D dA (c9 := true) hA1 hI)) (w_V X.2.2.2.2.1 lL_104 jM_fetch sM_fetch i_LogBrokerModel kM_fetch rfl rfl (by decide +kernel) ⟨by show 2 + 1 ≤ _; omega, by show 8 + (4 + 11) + 48 ≤ _; omega⟩) rfl rfl rfl rfl rfl (Nat.le_of_ble_eq_true rfl) dL_law_568 ⟨by show _ + _ ≤ _; omega, by show _ + _ ≤ _; omega⟩ (fun v S2 hp => ?_) (fun E S1 hx => hx.elim)
    obtain ⟨hv, h27, hA2, hc2⟩ := hp
    subst hv
    have hI2 : zInv b := hI
    have hf2 : zfr (fun n => 1000 ≤ n ∧ n < 1023) S1 S2 := hc2.fr (fun n k h => h)
    have hH2 : lwH S2 b := ⟨zBrA_far hB1 hI2.1 hf2 (fun n h => h.1), hA2, hI2, (hf2.1 2000 (by omega)).trans h20⟩
    refine z_istore (L' := [(6, .int ((sFetch b (xs (i + 1)) (xs (i + 2)) true).2)), (5, .int (nI (sFetch b (xs (i + 1)) (xs (i + 2)) true).1)), (4, .int (nI i)), (0, .ref 0), (1, .ref 1), (2, .ref 1000), (3, .ref 2000)]) X dL_law_571 (by decide) rfl ?_
    refine z_aload_n (j := 5) X dL_law_573 rfl rfl ?_
    refine z_callV (n := 0) (As := []) (rest := []) X zG1_m (zMet_g zG1_0 (mM_thrown l D dA)) (w_V X.2.2.2.2.1 lL_81 jM_thrown sM_thrown i_LogBrokerModel kM_thrown rfl rfl (by decide +kernel) ⟨by show 0 + 1 ≤ _; omega, by show 8 + (1 + 11) + 0 ≤ _; omega⟩) rfl rfl rfl rfl rfl (Nat.le_of_ble_eq_true rfl) dL_law_574 ⟨by show _ + _ ≤ _; omega, by show _ + _ ≤ _; omega⟩ (fun v S9 hp => ?_) (fun E S1 hx => hx.elim)
    obtain ⟨hS9, hp⟩ := hp
    have hS9 := hS9.symm
    subst hS9
    subst hp
    refine z_iload (j := 1) X dL_law_577 rfl ?_
    refine z_icmp_eq (tgt := 584) X dL_law_579 (by decide) (fun _ => ?_) (fun h => absurd h27 h)
    refine z_iload (j := 1) X dL_law_584 rfl ?_
    refine z_if_ne (tgt := 601) X dL_law_586 (by decide) (fun _ => ?_) (fun h0 => ?_)
    · refine z_goto (tgt := 1225) X dL_law_601 (by decide) ?_
      refine z_loc [2, 3, 4, 5, 6] rfl ?_
      exact k _ _ _ _ hH2 (by omega) (by omega)
    · have hc0 : (sFetch b (xs (i + 1)) (xs (i + 2)) true).1 = 0 := Classical.byContradiction fun h => nI_ne0 (by omega) (by omega) h0
      have hlg2 : S2.2.2.2 2000 0 = ((sFetch b (xs (i + 1)) (xs (i + 2)) true).2).toInt64 := by rw [hc2.2.1]; exact hlg hc0
      refine z_aload_n (j := 6) X dL_law_589 rfl rfl ?_
      refine z_iconst (v := (nI 0)) X dL_law_590 (by decide) ?_
      refine z_lald (t0 := 2) (j9 := 0) X rfl rfl (by decide) (by decide) dL_law_591 (hv := hlg2) ?_
      refine z_iload (j := 0) X dL_law_592 rfl ?_
      refine z_i2l X dL_law_594 rfl ?_
      refine z_lcmp X dL_law_595 ?_
      refine z_if_eq (tgt := 601) X dL_law_596 (by decide) (fun _ => ?_) (fun c_596 => absurd (lg_same _) c_596)
      refine z_goto (tgt := 1225) X dL_law_601 (by decide) ?_
      refine z_loc [2, 3, 4, 5, 6] rfl ?_
      exact k _ _ _ _ hH2 (by omega) (by omega)

set_option maxHeartbeats 1000000 in
set_option maxRecDepth 100000 in
theorem law_told {p : Program} {l : Launch} {e : Env} {R : Room} {s : State} {m : MethodId} {args : Array Value} {below : List Frame} {meth : Method} {c : Code} {kc ks : Nat} {Q : State → Prop} {D : va_G} {dA : Nat → ClassId} {A : Nat → Prop} {O : (Nat → Nat) × zS} {c0 : Cond} {S : zS} {b : zBr} {b0 Ln i : Nat} {xs : Nat → Int32} (X : zX p s m args c D vwCl zKK A code 7 "LogBrokerLaw" (c0 :: zTs) (ztys dA) (zG1 D dA)) (hl0 : l.stackTraces = false) (hX : va_X b0 Ln xs s s.heap) (hbl : b0 < s.heap.size) (hbA : ¬ A b0) (hO : O.1 0 = b0) (hLn : Ln < 2 ^ 30) (hi : i + 5 < Ln) (hH : lwH S b) (hR : 10 ≤ R.frames ∧ 300 ≤ R.locals) (hkc : kc + 40 ≤ R.cells) (hks : ks + 400 ≤ R.slots) (k : ∀ (S' : zS) (b' : zBr) (kc' ks' : Nat), lwH S' b' → kc' ≤ kc + 40 → ks' ≤ ks + 400 → AW p l e R s m args below meth c D vwCl zKK dA A O 7 S' kc' ks' Q 1225 [(4, .int (nI i)), (0, .ref 0), (1, .ref 1), (2, .ref 1000), (3, .ref 2000)] []) : AW p l e R s m args below meth c D vwCl zKK dA A O 7 S kc ks Q 604 [(4, .int (nI i)), (0, .ref 0), (1, .ref 1), (2, .ref 1000), (3, .ref 2000)] [] := by
  obtain ⟨hB, hA, hI, h2000⟩ := hH
  refine z_aload_n (j := 2) X dL_law_604 rfl rfl ?_
  refine z_aload_n (j := 1) X dL_law_605 rfl rfl ?_
  refine z_iload (j := 0) X dL_law_606 rfl ?_
  refine z_iconst (v := (nI 1)) X dL_law_608 (by decide) ?_
  refine z_iadd X dL_law_609 ?_
  refine z_top (nI_add i 1) ?_
  refine z_sld (j := i + 1) X hX hbl hbA hO (by omega) (by omega) dL_law_610 ?_
  refine z_aload_n (j := 1) X dL_law_611 rfl rfl ?_
  refine z_iload (j := 0) X dL_law_612 rfl ?_
  refine z_iconst (v := (nI 2)) X dL_law_614 (by decide) ?_
  refine z_iadd X dL_law_615 ?_
  refine z_top (nI_add i 2) ?_
  refine z_sld (j := i + 2) X hX hbl hbA hO (by omega) (by omega) dL_law_616 ?_
  refine z_aload_n (j := 1) X dL_law_617 rfl rfl ?_
  refine z_iload (j := 0) X dL_law_618 rfl ?_
  refine z_iconst (v := (nI 3)) X dL_law_620 (by decide) ?_
  refine z_iadd X dL_law_621 ?_
  refine z_top (nI_add i 3) ?_
  refine z_sld (j := i + 3) X hX hbl hbA hO (by omega) (by omega) dL_law_622 ?_
  refine z_aload_n (j := 4) X dL_law_623 rfl rfl ?_
  refine z_callSX (n := 5) (As := [.ref 1, .int (xs (i + 1)), .int (xs (i + 2)), .int (xs (i + 3)), .ref 2000]) (rest := []) X zG1_m (zMet_g zG1_0 (mL_told l D dA hl0 hB hI)) (w_SX X.2.2.2.2.1 lL_105 tL_told i_LogBrokerLaw kL_told rfl rfl (by decide +kernel) ⟨by show 8 + 1 ≤ _; omega, by show 8 + (6 + 11) + 129 ≤ _; omega⟩) rfl rfl (Nat.le_of_ble_eq_true rfl) dL_law_624 ⟨by show _ + _ ≤ _; omega, by show _ + _ ≤ _; omega⟩ (fun v S1 hp => ?_) (fun E S1 hx => hx.elim)
  obtain ⟨hv, hle, hB1, hf1, hd1, hlg⟩ := hp
  subst hv
  have hA1 : zMdA S1 b := zMdA_far hA hf1 (fun n h => h)
  have h20 : S1.1 2000 = true := hd1.trans h2000
  refine z_istore (L' := [(5, .int (nI (sTold b (xs (i + 1)) (xs (i + 2)) (xs (i + 3))).1)), (4, .int (nI i)), (0, .ref 0), (1, .ref 1), (2, .ref 1000), (3, .ref 2000)]) X dL_law_627 (by decide) rfl ?_
  refine z_aload_n (j := 4) X dL_law_629 rfl rfl ?_
  refine z_aload_n (j := 2) X dL_law_630 rfl rfl ?_
  refine z_iload (j := 1) X dL_law_631 rfl ?_
  refine z_iconst (v := (nI 1)) X dL_law_633 (by decide) ?_
  refine z_iadd X dL_law_634 ?_
  refine z_top (nI_add i 1) ?_
  refine z_sld (j := i + 1) X hX hbl hbA hO (by omega) (by omega) dL_law_635 ?_
  refine z_aload_n (j := 2) X dL_law_636 rfl rfl ?_
  refine z_iload (j := 1) X dL_law_637 rfl ?_
  refine z_iconst (v := (nI 2)) X dL_law_639 (by decide) ?_
  refine z_iadd X dL_law_640 ?_
  refine z_top (nI_add i 2) ?_
  refine z_sld (j := i + 2) X hX hbl hbA hO (by omega) (by omega) dL_law_641 ?_
  refine z_aload_n (j := 2) X dL_law_642 rfl rfl ?_
  refine z_iload (j := 1) X dL_law_643 rfl ?_
  refine z_iconst (v := (nI 3)) X dL_law_645 (by decide) ?_
  refine z_iadd X dL_law_646 ?_
  refine z_top (nI_add i 3) ?_
  refine z_sld (j := i + 3) X hX hbl hbA hO (by omega) (by omega) dL_law_647 ?_
  refine z_callV (n := 3) (As := [.int (xs (i + 1)), .int (xs (i + 2)), .int (xs (i + 3))]) (rest := []) X zG1_m (zMet_g zG1_0 (mM_told l D dA hA1 hI)) (w_V X.2.2.2.2.1 lL_108 jM_told sM_told i_LogBrokerModel kM_told rfl rfl (by decide +kernel) ⟨by show 1 + 1 ≤ _; omega, by show 8 + (5 + 11) + 21 ≤ _; omega⟩) rfl rfl rfl rfl rfl (Nat.le_of_ble_eq_true rfl) dL_law_648 ⟨by show _ + _ ≤ _; omega, by show _ + _ ≤ _; omega⟩ (fun v S2 hp => ?_) (fun E S1 hx => hx.elim)
  obtain ⟨hv, h27, hA2, hc2⟩ := hp
  subst hv
  have hI2 : zInv b := hI
  have hf2 : zfr (fun n => 1000 ≤ n ∧ n < 1023) S1 S2 := hc2.fr (fun n k h => h)
  have hH2 : lwH S2 b := ⟨zBrA_far hB1 hI2.1 hf2 (fun n h => h.1), hA2, hI2, (hf2.1 2000 (by omega)).trans h20⟩
  refine z_istore (L' := [(6, .int ((sTold b (xs (i + 1)) (xs (i + 2)) (xs (i + 3))).2)), (5, .int (nI (sTold b (xs (i + 1)) (xs (i + 2)) (xs (i + 3))).1)), (4, .int (nI i)), (0, .ref 0), (1, .ref 1), (2, .ref 1000), (3, .ref 2000)]) X dL_law_651 (by decide) rfl ?_
  refine z_aload_n (j := 5) X dL_law_653 rfl rfl ?_
  refine z_callV (n := 0) (As := []) (rest := []) X zG1_m (zMet_g zG1_0 (mM_thrown l D dA)) (w_V X.2.2.2.2.1 lL_81 jM_thrown sM_thrown i_LogBrokerModel kM_thrown rfl rfl (by decide +kernel) ⟨by show 0 + 1 ≤ _; omega, by show 8 + (1 + 11) + 0 ≤ _; omega⟩) rfl rfl rfl rfl rfl (Nat.le_of_ble_eq_true rfl) dL_law_654 ⟨by show _ + _ ≤ _; omega, by show _ + _ ≤ _; omega⟩ (fun v S9 hp => ?_) (fun E S1 hx => hx.elim)
  obtain ⟨hS9, hp⟩ := hp
  have hS9 := hS9.symm
  subst hS9
  subst hp
  refine z_iload (j := 1) X dL_law_657 rfl ?_
  refine z_icmp_eq (tgt := 664) X dL_law_659 (by decide) (fun _ => ?_) (fun h => absurd h27 h)
  refine z_iload (j := 1) X dL_law_664 rfl ?_
  refine z_if_ne (tgt := 681) X dL_law_666 (by decide) (fun _ => ?_) (fun h0 => ?_)
  · refine z_goto (tgt := 1225) X dL_law_681 (by decide) ?_
    refine z_loc [2, 3, 4, 5, 6] rfl ?_
    exact k _ _ _ _ hH2 (by omega) (by omega)
  · have hc0 : (sTold b (xs (i + 1)) (xs (i + 2)) (xs (i + 3))).1 = 0 := Classical.byContradiction fun h => nI_ne0 (by omega) (by omega) h0
    have hlg2 : S2.2.2.2 2000 0 = ((sTold b (xs (i + 1)) (xs (i + 2)) (xs (i + 3))).2).toInt64 := by rw [hc2.2.1]; exact hlg hc0
    refine z_aload_n (j := 6) X dL_law_669 rfl rfl ?_
    refine z_iconst (v := (nI 0)) X dL_law_670 (by decide) ?_
    refine z_lald (t0 := 2) (j9 := 0) X rfl rfl (by decide) (by decide) dL_law_671 (hv := hlg2) ?_
    refine z_iload (j := 0) X dL_law_672 rfl ?_
    refine z_i2l X dL_law_674 rfl ?_
    refine z_lcmp X dL_law_675 ?_
    refine z_if_eq (tgt := 681) X dL_law_676 (by decide) (fun _ => ?_) (fun c_676 => absurd (lg_same _) c_676)
    refine z_goto (tgt := 1225) X dL_law_681 (by decide) ?_
    refine z_loc [2, 3, 4, 5, 6] rfl ?_
    exact k _ _ _ _ hH2 (by omega) (by omega)

set_option maxHeartbeats 1000000 in
set_option maxRecDepth 100000 in
theorem law_compact {p : Program} {l : Launch} {e : Env} {R : Room} {s : State} {m : MethodId} {args : Array Value} {below : List Frame} {meth : Method} {c : Code} {kc ks : Nat} {Q : State → Prop} {D : va_G} {dA : Nat → ClassId} {A : Nat → Prop} {O : (Nat → Nat) × zS} {c0 : Cond} {S : zS} {b : zBr} {b0 Ln i : Nat} {xs : Nat → Int32} (X : zX p s m args c D vwCl zKK A code 7 "LogBrokerLaw" (c0 :: zTs) (ztys dA) (zG1 D dA)) (hl0 : l.stackTraces = false) (hX : va_X b0 Ln xs s s.heap) (hbl : b0 < s.heap.size) (hbA : ¬ A b0) (hO : O.1 0 = b0) (hLn : Ln < 2 ^ 30) (hi : i + 5 < Ln) (hH : lwH S b) (hR : 10 ≤ R.frames ∧ 300 ≤ R.locals) (hkc : kc + 40 ≤ R.cells) (hks : ks + 400 ≤ R.slots) (k : ∀ (S' : zS) (b' : zBr) (kc' ks' : Nat), lwH S' b' → kc' ≤ kc + 40 → ks' ≤ ks + 400 → AW p l e R s m args below meth c D vwCl zKK dA A O 7 S' kc' ks' Q 1225 [(4, .int (nI i)), (0, .ref 0), (1, .ref 1), (2, .ref 1000), (3, .ref 2000)] []) : AW p l e R s m args below meth c D vwCl zKK dA A O 7 S kc ks Q 684 [(4, .int (nI i)), (0, .ref 0), (1, .ref 1), (2, .ref 1000), (3, .ref 2000)] [] := by
  obtain ⟨hB, hA, hI, h2000⟩ := hH
  refine z_aload_n (j := 2) X dL_law_684 rfl rfl ?_
  refine z_aload_n (j := 1) X dL_law_685 rfl rfl ?_
  refine z_iload (j := 0) X dL_law_686 rfl ?_
  refine z_iconst (v := (nI 1)) X dL_law_688 (by decide) ?_
  refine z_iadd X dL_law_689 ?_
  refine z_top (nI_add i 1) ?_
  refine z_sld (j := i + 1) X hX hbl hbA hO (by omega) (by omega) dL_law_690 ?_
  refine z_aload_n (j := 4) X dL_law_691 rfl rfl ?_
  refine z_callSX (n := 3) (As := [.ref 1, .int (xs (i + 1)), .ref 2000]) (rest := []) X zG1_m (zMet_g zG1_0 (mL_compact l D dA hl0 hB hI)) (w_SX X.2.2.2.2.1 lL_109 tL_compact i_LogBrokerLaw kL_compact rfl rfl (by decide +kernel) ⟨by show 8 + 1 ≤ _; omega, by show 8 + (4 + 11) + 126 ≤ _; omega⟩) rfl rfl (Nat.le_of_ble_eq_true rfl) dL_law_692 ⟨by show _ + _ ≤ _; omega, by show _ + _ ≤ _; omega⟩ (fun v S1 hp => ?_) (fun E S1 hx => hx.elim)
  obtain ⟨hv, hle, hB1, hf1, hd1, hlg⟩ := hp
  subst hv
  have hA1 : zMdA S1 b := zMdA_far hA hf1 (fun n h => h)
  have h20 : S1.1 2000 = true := hd1.trans h2000
  refine z_istore (L' := [(5, .int (nI (sCompact b (xs (i + 1))).1.1)), (4, .int (nI i)), (0, .ref 0), (1, .ref 1), (2, .ref 1000), (3, .ref 2000)]) X dL_law_695 (by decide) rfl ?_
  refine z_aload_n (j := 4) X dL_law_697 rfl rfl ?_
  refine z_aload_n (j := 2) X dL_law_698 rfl rfl ?_
  refine z_iload (j := 1) X dL_law_699 rfl ?_
  refine z_iconst (v := (nI 1)) X dL_law_701 (by decide) ?_
  refine z_iadd X dL_law_702 ?_
  refine z_top (nI_add i 1) ?_
  refine z_sld (j := i + 1) X hX hbl hbA hO (by omega) (by omega) dL_law_703 ?_
  refine z_callV (n := 1) (As := [.int (xs (i + 1))]) (rest := []) X zG1_m (zMet_g zG1_0 (mM_compact l D dA hA1 hI)) (w_V X.2.2.2.2.1 lL_112 jM_compact sM_compact i_LogBrokerModel kM_compact rfl rfl (by decide +kernel) ⟨by show 1 + 1 ≤ _; omega, by show 8 + (7 + 11) + 25 ≤ _; omega⟩) rfl rfl rfl rfl rfl (Nat.le_of_ble_eq_true rfl) dL_law_704 ⟨by show _ + _ ≤ _; omega, by show _ + _ ≤ _; omega⟩ (fun v S2 hp => ?_) (fun E S1 hx => hx.elim)
  obtain ⟨hv, h27, hA2, hc2⟩ := hp
  subst hv
  have hI2 : zInv ((sCompact b (xs (i + 1))).2) := (zInv_compact hI)
  have hf2 : zfr (fun n => 1000 ≤ n ∧ n < 1023) S1 S2 := hc2.fr (fun n k h => h)
  have hH2 : lwH S2 ((sCompact b (xs (i + 1))).2) := ⟨zBrA_far hB1 hI2.1 hf2 (fun n h => h.1), hA2, hI2, (hf2.1 2000 (by omega)).trans h20⟩
  refine z_istore (L' := [(6, .int ((sCompact b (xs (i + 1))).1.2)), (5, .int (nI (sCompact b (xs (i + 1))).1.1)), (4, .int (nI i)), (0, .ref 0), (1, .ref 1), (2, .ref 1000), (3, .ref 2000)]) X dL_law_707 (by decide) rfl ?_
  refine z_aload_n (j := 5) X dL_law_709 rfl rfl ?_
  refine z_callV (n := 0) (As := []) (rest := []) X zG1_m (zMet_g zG1_0 (mM_thrown l D dA)) (w_V X.2.2.2.2.1 lL_81 jM_thrown sM_thrown i_LogBrokerModel kM_thrown rfl rfl (by decide +kernel) ⟨by show 0 + 1 ≤ _; omega, by show 8 + (1 + 11) + 0 ≤ _; omega⟩) rfl rfl rfl rfl rfl (Nat.le_of_ble_eq_true rfl) dL_law_710 ⟨by show _ + _ ≤ _; omega, by show _ + _ ≤ _; omega⟩ (fun v S9 hp => ?_) (fun E S1 hx => hx.elim)
  obtain ⟨hS9, hp⟩ := hp
  have hS9 := hS9.symm
  subst hS9
  subst hp
  refine z_iload (j := 1) X dL_law_713 rfl ?_
  refine z_icmp_eq (tgt := 720) X dL_law_715 (by decide) (fun _ => ?_) (fun h => absurd h27 h)
  refine z_iload (j := 1) X dL_law_720 rfl ?_
  refine z_if_ne (tgt := 737) X dL_law_722 (by decide) (fun _ => ?_) (fun h0 => ?_)
  · refine z_goto (tgt := 1225) X dL_law_737 (by decide) ?_
    refine z_loc [2, 3, 4, 5, 6] rfl ?_
    exact k _ _ _ _ hH2 (by omega) (by omega)
  · have hc0 : (sCompact b (xs (i + 1))).1.1 = 0 := Classical.byContradiction fun h => nI_ne0 (by omega) (by omega) h0
    have hlg2 : S2.2.2.2 2000 0 = ((sCompact b (xs (i + 1))).1.2).toInt64 := by rw [hc2.2.1]; exact hlg hc0
    refine z_aload_n (j := 6) X dL_law_725 rfl rfl ?_
    refine z_iconst (v := (nI 0)) X dL_law_726 (by decide) ?_
    refine z_lald (t0 := 2) (j9 := 0) X rfl rfl (by decide) (by decide) dL_law_727 (hv := hlg2) ?_
    refine z_iload (j := 0) X dL_law_728 rfl ?_
    refine z_i2l X dL_law_730 rfl ?_
    refine z_lcmp X dL_law_731 ?_
    refine z_if_eq (tgt := 737) X dL_law_732 (by decide) (fun _ => ?_) (fun c_732 => absurd (lg_same _) c_732)
    refine z_goto (tgt := 1225) X dL_law_737 (by decide) ?_
    refine z_loc [2, 3, 4, 5, 6] rfl ?_
    exact k _ _ _ _ hH2 (by omega) (by omega)

set_option maxHeartbeats 1000000 in
set_option maxRecDepth 100000 in
theorem law_join {p : Program} {l : Launch} {e : Env} {R : Room} {s : State} {m : MethodId} {args : Array Value} {below : List Frame} {meth : Method} {c : Code} {kc ks : Nat} {Q : State → Prop} {D : va_G} {dA : Nat → ClassId} {A : Nat → Prop} {O : (Nat → Nat) × zS} {c0 : Cond} {S : zS} {b : zBr} {b0 Ln i : Nat} {xs : Nat → Int32} (X : zX p s m args c D vwCl zKK A code 7 "LogBrokerLaw" (c0 :: zTs) (ztys dA) (zG1 D dA)) (hl0 : l.stackTraces = false) (hX : va_X b0 Ln xs s s.heap) (hbl : b0 < s.heap.size) (hbA : ¬ A b0) (hO : O.1 0 = b0) (hLn : Ln < 2 ^ 30) (hi : i + 5 < Ln) (hH : lwH S b) (hR : 10 ≤ R.frames ∧ 300 ≤ R.locals) (hkc : kc + 40 ≤ R.cells) (hks : ks + 400 ≤ R.slots) (k : ∀ (S' : zS) (b' : zBr) (kc' ks' : Nat), lwH S' b' → kc' ≤ kc + 40 → ks' ≤ ks + 400 → AW p l e R s m args below meth c D vwCl zKK dA A O 7 S' kc' ks' Q 1225 [(4, .int (nI i)), (0, .ref 0), (1, .ref 1), (2, .ref 1000), (3, .ref 2000)] []) : AW p l e R s m args below meth c D vwCl zKK dA A O 7 S kc ks Q 740 [(4, .int (nI i)), (0, .ref 0), (1, .ref 1), (2, .ref 1000), (3, .ref 2000)] [] := by
  obtain ⟨hB, hA, hI, h2000⟩ := hH
  refine z_aload_n (j := 2) X dL_law_740 rfl rfl ?_
  refine z_aload_n (j := 1) X dL_law_741 rfl rfl ?_
  refine z_iload (j := 0) X dL_law_742 rfl ?_
  refine z_iconst (v := (nI 1)) X dL_law_744 (by decide) ?_
  refine z_iadd X dL_law_745 ?_
  refine z_top (nI_add i 1) ?_
  refine z_sld (j := i + 1) X hX hbl hbA hO (by omega) (by omega) dL_law_746 ?_
  refine z_aload_n (j := 1) X dL_law_747 rfl rfl ?_
  refine z_iload (j := 0) X dL_law_748 rfl ?_
  refine z_iconst (v := (nI 2)) X dL_law_750 (by decide) ?_
  refine z_iadd X dL_law_751 ?_
  refine z_top (nI_add i 2) ?_
  refine z_sld (j := i + 2) X hX hbl hbA hO (by omega) (by omega) dL_law_752 ?_
  refine z_aload_n (j := 1) X dL_law_753 rfl rfl ?_
  refine z_iload (j := 0) X dL_law_754 rfl ?_
  refine z_iconst (v := (nI 3)) X dL_law_756 (by decide) ?_
  refine z_iadd X dL_law_757 ?_
  refine z_top (nI_add i 3) ?_
  refine z_sld (j := i + 3) X hX hbl hbA hO (by omega) (by omega) dL_law_758 ?_
  refine z_aload_n (j := 4) X dL_law_759 rfl rfl ?_
  refine z_callSX (n := 5) (As := [.ref 1, .int (xs (i + 1)), .int (xs (i + 2)), .int (xs (i + 3)), .ref 2000]) (rest := []) X zG1_m (zMet_g zG1_0 (mL_join l D dA hl0 hB hI)) (w_SX X.2.2.2.2.1 lL_113 tL_join i_LogBrokerLaw kL_join rfl rfl (by decide +kernel) ⟨by show 8 + 1 ≤ _; omega, by show 8 + (6 + 11) + 127 ≤ _; omega⟩) rfl rfl (Nat.le_of_ble_eq_true rfl) dL_law_760 ⟨by show _ + _ ≤ _; omega, by show _ + _ ≤ _; omega⟩ (fun v S1 hp => ?_) (fun E S1 hx => hx.elim)
  obtain ⟨hv, hle, hB1, hf1, hd1, hlg⟩ := hp
  subst hv
  have hA1 : zMdA S1 b := zMdA_far hA hf1 (fun n h => h)
  have h20 : S1.1 2000 = true := hd1.trans h2000
  refine z_istore (L' := [(5, .int (nI (sJoin b (xs (i + 1)) (xs (i + 2)) (xs (i + 3))).1.1)), (4, .int (nI i)), (0, .ref 0), (1, .ref 1), (2, .ref 1000), (3, .ref 2000)]) X dL_law_763 (by decide) rfl ?_
  refine z_aload_n (j := 4) X dL_law_765 rfl rfl ?_
  refine z_aload_n (j := 2) X dL_law_766 rfl rfl ?_
  refine z_iload (j := 1) X dL_law_767 rfl ?_
  refine z_iconst (v := (nI 1)) X dL_law_769 (by decide) ?_
  refine z_iadd X dL_law_770 ?_
  refine z_top (nI_add i 1) ?_
  refine z_sld (j := i + 1) X hX hbl hbA hO (by omega) (by omega) dL_law_771 ?_
  refine z_aload_n (j := 2) X dL_law_772 rfl rfl ?_
  refine z_iload (j := 1) X dL_law_773 rfl ?_
  refine z_iconst (v := (nI 2)) X dL_law_775 (by decide) ?_
  refine z_iadd X dL_law_776 ?_
  refine z_top (nI_add i 2) ?_
  refine z_sld (j := i + 2) X hX hbl hbA hO (by omega) (by omega) dL_law_777 ?_
  refine z_aload_n (j := 2) X dL_law_778 rfl rfl ?_
  refine z_iload (j := 1) X dL_law_779 rfl ?_
  refine z_iconst (v := (nI 3)) X dL_law_781 (by decide) ?_
  refine z_iadd X dL_law_782 ?_
  refine z_top (nI_add i 3) ?_
  refine z_sld (j := i + 3) X hX hbl hbA hO (by omega) (by omega) dL_law_783 ?_
  refine z_callV (n := 3) (As := [.int (xs (i + 1)), .int (xs (i + 2)), .int (xs (i + 3))]) (rest := []) X zG1_m (zMet_g zG1_0 (mM_join l D dA hA1 hI)) (w_V X.2.2.2.2.1 lL_115 jM_join sM_join i_LogBrokerModel kM_join rfl rfl (by decide +kernel) ⟨by show 1 + 1 ≤ _; omega, by show 8 + (4 + 11) + 22 ≤ _; omega⟩) rfl rfl rfl rfl rfl (Nat.le_of_ble_eq_true rfl) dL_law_784 ⟨by show _ + _ ≤ _; omega, by show _ + _ ≤ _; omega⟩ (fun v S2 hp => ?_) (fun E S1 hx => hx.elim)
  obtain ⟨hv, h27, hA2, hc2⟩ := hp
  subst hv
  have hI2 : zInv ((sJoin b (xs (i + 1)) (xs (i + 2)) (xs (i + 3))).2) := (zInv_join hI)
  have hf2 : zfr (fun n => 1000 ≤ n ∧ n < 1023) S1 S2 := hc2.fr (fun n k h => h)
  have hH2 : lwH S2 ((sJoin b (xs (i + 1)) (xs (i + 2)) (xs (i + 3))).2) := ⟨zBrA_far hB1 hI2.1 hf2 (fun n h => h.1), hA2, hI2, (hf2.1 2000 (by omega)).trans h20⟩
  refine z_istore (L' := [(6, .int ((sJoin b (xs (i + 1)) (xs (i + 2)) (xs (i + 3))).1.2)), (5, .int (nI (sJoin b (xs (i + 1)) (xs (i + 2)) (xs (i + 3))).1.1)), (4, .int (nI i)), (0, .ref 0), (1, .ref 1), (2, .ref 1000), (3, .ref 2000)]) X dL_law_787 (by decide) rfl ?_
  refine z_aload_n (j := 5) X dL_law_789 rfl rfl ?_
  refine z_callV (n := 0) (As := []) (rest := []) X zG1_m (zMet_g zG1_0 (mM_thrown l D dA)) (w_V X.2.2.2.2.1 lL_81 jM_thrown sM_thrown i_LogBrokerModel kM_thrown rfl rfl (by decide +kernel) ⟨by show 0 + 1 ≤ _; omega, by show 8 + (1 + 11) + 0 ≤ _; omega⟩) rfl rfl rfl rfl rfl (Nat.le_of_ble_eq_true rfl) dL_law_790 ⟨by show _ + _ ≤ _; omega, by show _ + _ ≤ _; omega⟩ (fun v S9 hp => ?_) (fun E S1 hx => hx.elim)
  obtain ⟨hS9, hp⟩ := hp
  have hS9 := hS9.symm
  subst hS9
  subst hp
  refine z_iload (j := 1) X dL_law_793 rfl ?_
  refine z_icmp_eq (tgt := 800) X dL_law_795 (by decide) (fun _ => ?_) (fun h => absurd h27 h)
  refine z_iload (j := 1) X dL_law_800 rfl ?_
  refine z_if_ne (tgt := 817) X dL_law_802 (by decide) (fun _ => ?_) (fun h0 => ?_)
  · refine z_goto (tgt := 1225) X dL_law_817 (by decide) ?_
    refine z_loc [2, 3, 4, 5, 6] rfl ?_
    exact k _ _ _ _ hH2 (by omega) (by omega)
  · have hc0 : (sJoin b (xs (i + 1)) (xs (i + 2)) (xs (i + 3))).1.1 = 0 := Classical.byContradiction fun h => nI_ne0 (by omega) (by omega) h0
    have hlg2 : S2.2.2.2 2000 0 = ((sJoin b (xs (i + 1)) (xs (i + 2)) (xs (i + 3))).1.2).toInt64 := by rw [hc2.2.1]; exact hlg hc0
    refine z_aload_n (j := 6) X dL_law_805 rfl rfl ?_
    refine z_iconst (v := (nI 0)) X dL_law_806 (by decide) ?_
    refine z_lald (t0 := 2) (j9 := 0) X rfl rfl (by decide) (by decide) dL_law_807 (hv := hlg2) ?_
    refine z_iload (j := 0) X dL_law_808 rfl ?_
    refine z_i2l X dL_law_810 rfl ?_
    refine z_lcmp X dL_law_811 ?_
    refine z_if_eq (tgt := 817) X dL_law_812 (by decide) (fun _ => ?_) (fun c_812 => absurd (lg_same _) c_812)
    refine z_goto (tgt := 1225) X dL_law_817 (by decide) ?_
    refine z_loc [2, 3, 4, 5, 6] rfl ?_
    exact k _ _ _ _ hH2 (by omega) (by omega)

set_option maxHeartbeats 1000000 in
set_option maxRecDepth 100000 in
theorem law_leave {p : Program} {l : Launch} {e : Env} {R : Room} {s : State} {m : MethodId} {args : Array Value} {below : List Frame} {meth : Method} {c : Code} {kc ks : Nat} {Q : State → Prop} {D : va_G} {dA : Nat → ClassId} {A : Nat → Prop} {O : (Nat → Nat) × zS} {c0 : Cond} {S : zS} {b : zBr} {b0 Ln i : Nat} {xs : Nat → Int32} (X : zX p s m args c D vwCl zKK A code 7 "LogBrokerLaw" (c0 :: zTs) (ztys dA) (zG1 D dA)) (hl0 : l.stackTraces = false) (hX : va_X b0 Ln xs s s.heap) (hbl : b0 < s.heap.size) (hbA : ¬ A b0) (hO : O.1 0 = b0) (hLn : Ln < 2 ^ 30) (hi : i + 5 < Ln) (hH : lwH S b) (hR : 10 ≤ R.frames ∧ 300 ≤ R.locals) (hkc : kc + 40 ≤ R.cells) (hks : ks + 400 ≤ R.slots) (k : ∀ (S' : zS) (b' : zBr) (kc' ks' : Nat), lwH S' b' → kc' ≤ kc + 40 → ks' ≤ ks + 400 → AW p l e R s m args below meth c D vwCl zKK dA A O 7 S' kc' ks' Q 1225 [(4, .int (nI i)), (0, .ref 0), (1, .ref 1), (2, .ref 1000), (3, .ref 2000)] []) : AW p l e R s m args below meth c D vwCl zKK dA A O 7 S kc ks Q 820 [(4, .int (nI i)), (0, .ref 0), (1, .ref 1), (2, .ref 1000), (3, .ref 2000)] [] := by
  obtain ⟨hB, hA, hI, h2000⟩ := hH
  refine z_aload_n (j := 2) X dL_law_820 rfl rfl ?_
  refine z_aload_n (j := 1) X dL_law_821 rfl rfl ?_
  refine z_iload (j := 0) X dL_law_822 rfl ?_
  refine z_iconst (v := (nI 1)) X dL_law_824 (by decide) ?_
  refine z_iadd X dL_law_825 ?_
  refine z_top (nI_add i 1) ?_
  refine z_sld (j := i + 1) X hX hbl hbA hO (by omega) (by omega) dL_law_826 ?_
  refine z_aload_n (j := 1) X dL_law_827 rfl rfl ?_
  refine z_iload (j := 0) X dL_law_828 rfl ?_
  refine z_iconst (v := (nI 2)) X dL_law_830 (by decide) ?_
  refine z_iadd X dL_law_831 ?_
  refine z_top (nI_add i 2) ?_
  refine z_sld (j := i + 2) X hX hbl hbA hO (by omega) (by omega) dL_law_832 ?_
  refine z_aload_n (j := 4) X dL_law_833 rfl rfl ?_
  refine z_callSX (n := 4) (As := [.ref 1, .int (xs (i + 1)), .int (xs (i + 2)), .ref 2000]) (rest := []) X zG1_m (zMet_g zG1_0 (mL_leave l D dA hl0 hB hI)) (w_SX X.2.2.2.2.1 lL_116 tL_leave i_LogBrokerLaw kL_leave rfl rfl (by decide +kernel) ⟨by show 8 + 1 ≤ _; omega, by show 8 + (5 + 11) + 126 ≤ _; omega⟩) rfl rfl (Nat.le_of_ble_eq_true rfl) dL_law_834 ⟨by show _ + _ ≤ _; omega, by show _ + _ ≤ _; omega⟩ (fun v S1 hp => ?_) (fun E S1 hx => hx.elim)
  obtain ⟨hv, hle, hB1, hf1, hd1, hlg⟩ := hp
  subst hv
  have hA1 : zMdA S1 b := zMdA_far hA hf1 (fun n h => h)
  have h20 : S1.1 2000 = true := hd1.trans h2000
  refine z_istore (L' := [(5, .int (nI (sLeave b (xs (i + 1)) (xs (i + 2))).1.1)), (4, .int (nI i)), (0, .ref 0), (1, .ref 1), (2, .ref 1000), (3, .ref 2000)]) X dL_law_837 (by decide) rfl ?_
  refine z_aload_n (j := 4) X dL_law_839 rfl rfl ?_
  refine z_aload_n (j := 2) X dL_law_840 rfl rfl ?_
  refine z_iload (j := 1) X dL_law_841 rfl ?_
  refine z_iconst (v := (nI 1)) X dL_law_843 (by decide) ?_
  refine z_iadd X dL_law_844 ?_
  refine z_top (nI_add i 1) ?_
  refine z_sld (j := i + 1) X hX hbl hbA hO (by omega) (by omega) dL_law_845 ?_
  refine z_aload_n (j := 2) X dL_law_846 rfl rfl ?_
  refine z_iload (j := 1) X dL_law_847 rfl ?_
  refine z_iconst (v := (nI 2)) X dL_law_849 (by decide) ?_
  refine z_iadd X dL_law_850 ?_
  refine z_top (nI_add i 2) ?_
  refine z_sld (j := i + 2) X hX hbl hbA hO (by omega) (by omega) dL_law_851 ?_
  refine z_callV (n := 2) (As := [.int (xs (i + 1)), .int (xs (i + 2))]) (rest := []) X zG1_m (zMet_g zG1_0 (mM_leave l D dA hA1 hI)) (w_V X.2.2.2.2.1 lL_118 jM_leave sM_leave i_LogBrokerModel kM_leave rfl rfl (by decide +kernel) ⟨by show 1 + 1 ≤ _; omega, by show 8 + (3 + 11) + 22 ≤ _; omega⟩) rfl rfl rfl rfl rfl (Nat.le_of_ble_eq_true rfl) dL_law_852 ⟨by show _ + _ ≤ _; omega, by show _ + _ ≤ _; omega⟩ (fun v S2 hp => ?_) (fun E S1 hx => hx.elim)
  obtain ⟨hv, h27, hA2, hc2⟩ := hp
  subst hv
  have hI2 : zInv ((sLeave b (xs (i + 1)) (xs (i + 2))).2) := (zInv_leave hI)
  have hf2 : zfr (fun n => 1000 ≤ n ∧ n < 1023) S1 S2 := hc2.fr (fun n k h => h)
  have hH2 : lwH S2 ((sLeave b (xs (i + 1)) (xs (i + 2))).2) := ⟨zBrA_far hB1 hI2.1 hf2 (fun n h => h.1), hA2, hI2, (hf2.1 2000 (by omega)).trans h20⟩
  refine z_istore (L' := [(6, .int ((sLeave b (xs (i + 1)) (xs (i + 2))).1.2)), (5, .int (nI (sLeave b (xs (i + 1)) (xs (i + 2))).1.1)), (4, .int (nI i)), (0, .ref 0), (1, .ref 1), (2, .ref 1000), (3, .ref 2000)]) X dL_law_855 (by decide) rfl ?_
  refine z_aload_n (j := 5) X dL_law_857 rfl rfl ?_
  refine z_callV (n := 0) (As := []) (rest := []) X zG1_m (zMet_g zG1_0 (mM_thrown l D dA)) (w_V X.2.2.2.2.1 lL_81 jM_thrown sM_thrown i_LogBrokerModel kM_thrown rfl rfl (by decide +kernel) ⟨by show 0 + 1 ≤ _; omega, by show 8 + (1 + 11) + 0 ≤ _; omega⟩) rfl rfl rfl rfl rfl (Nat.le_of_ble_eq_true rfl) dL_law_858 ⟨by show _ + _ ≤ _; omega, by show _ + _ ≤ _; omega⟩ (fun v S9 hp => ?_) (fun E S1 hx => hx.elim)
  obtain ⟨hS9, hp⟩ := hp
  have hS9 := hS9.symm
  subst hS9
  subst hp
  refine z_iload (j := 1) X dL_law_861 rfl ?_
  refine z_icmp_eq (tgt := 868) X dL_law_863 (by decide) (fun _ => ?_) (fun h => absurd h27 h)
  refine z_iload (j := 1) X dL_law_868 rfl ?_
  refine z_if_ne (tgt := 885) X dL_law_870 (by decide) (fun _ => ?_) (fun h0 => ?_)
  · refine z_goto (tgt := 1225) X dL_law_885 (by decide) ?_
    refine z_loc [2, 3, 4, 5, 6] rfl ?_
    exact k _ _ _ _ hH2 (by omega) (by omega)
  · have hc0 : (sLeave b (xs (i + 1)) (xs (i + 2))).1.1 = 0 := Classical.byContradiction fun h => nI_ne0 (by omega) (by omega) h0
    have hlg2 : S2.2.2.2 2000 0 = ((sLeave b (xs (i + 1)) (xs (i + 2))).1.2).toInt64 := by rw [hc2.2.1]; exact hlg hc0
    refine z_aload_n (j := 6) X dL_law_873 rfl rfl ?_
    refine z_iconst (v := (nI 0)) X dL_law_874 (by decide) ?_
    refine z_lald (t0 := 2) (j9 := 0) X rfl rfl (by decide) (by decide) dL_law_875 (hv := hlg2) ?_
    refine z_iload (j := 0) X dL_law_876 rfl ?_
    refine z_i2l X dL_law_878 rfl ?_
    refine z_lcmp X dL_law_879 ?_
    refine z_if_eq (tgt := 885) X dL_law_880 (by decide) (fun _ => ?_) (fun c_880 => absurd (lg_same _) c_880)
    refine z_goto (tgt := 1225) X dL_law_885 (by decide) ?_
    refine z_loc [2, 3, 4, 5, 6] rfl ?_
    exact k _ _ _ _ hH2 (by omega) (by omega)

set_option maxHeartbeats 1000000 in
set_option maxRecDepth 100000 in
theorem law_owner {p : Program} {l : Launch} {e : Env} {R : Room} {s : State} {m : MethodId} {args : Array Value} {below : List Frame} {meth : Method} {c : Code} {kc ks : Nat} {Q : State → Prop} {D : va_G} {dA : Nat → ClassId} {A : Nat → Prop} {O : (Nat → Nat) × zS} {c0 : Cond} {S : zS} {b : zBr} {b0 Ln i : Nat} {xs : Nat → Int32} (X : zX p s m args c D vwCl zKK A code 7 "LogBrokerLaw" (c0 :: zTs) (ztys dA) (zG1 D dA)) (hl0 : l.stackTraces = false) (hX : va_X b0 Ln xs s s.heap) (hbl : b0 < s.heap.size) (hbA : ¬ A b0) (hO : O.1 0 = b0) (hLn : Ln < 2 ^ 30) (hi : i + 5 < Ln) (hH : lwH S b) (hR : 10 ≤ R.frames ∧ 300 ≤ R.locals) (hkc : kc + 40 ≤ R.cells) (hks : ks + 400 ≤ R.slots) (k : ∀ (S' : zS) (b' : zBr) (kc' ks' : Nat), lwH S' b' → kc' ≤ kc + 40 → ks' ≤ ks + 400 → AW p l e R s m args below meth c D vwCl zKK dA A O 7 S' kc' ks' Q 1225 [(4, .int (nI i)), (0, .ref 0), (1, .ref 1), (2, .ref 1000), (3, .ref 2000)] []) : AW p l e R s m args below meth c D vwCl zKK dA A O 7 S kc ks Q 888 [(4, .int (nI i)), (0, .ref 0), (1, .ref 1), (2, .ref 1000), (3, .ref 2000)] [] := by
  obtain ⟨hB, hA, hI, h2000⟩ := hH
  refine z_aload_n (j := 2) X dL_law_888 rfl rfl ?_
  refine z_aload_n (j := 1) X dL_law_889 rfl rfl ?_
  refine z_iload (j := 0) X dL_law_890 rfl ?_
  refine z_iconst (v := (nI 1)) X dL_law_892 (by decide) ?_
  refine z_iadd X dL_law_893 ?_
  refine z_top (nI_add i 1) ?_
  refine z_sld (j := i + 1) X hX hbl hbA hO (by omega) (by omega) dL_law_894 ?_
  refine z_aload_n (j := 1) X dL_law_895 rfl rfl ?_
  refine z_iload (j := 0) X dL_law_896 rfl ?_
  refine z_iconst (v := (nI 2)) X dL_law_898 (by decide) ?_
  refine z_iadd X dL_law_899 ?_
  refine z_top (nI_add i 2) ?_
  refine z_sld (j := i + 2) X hX hbl hbA hO (by omega) (by omega) dL_law_900 ?_
  refine z_aload_n (j := 4) X dL_law_901 rfl rfl ?_
  refine z_callSX (n := 4) (As := [.ref 1, .int (xs (i + 1)), .int (xs (i + 2)), .ref 2000]) (rest := []) X zG1_m (zMet_g zG1_0 (mL_owner l D dA hl0 hB hI)) (w_SX X.2.2.2.2.1 lL_119 tL_owner i_LogBrokerLaw kL_owner rfl rfl (by decide +kernel) ⟨by show 8 + 1 ≤ _; omega, by show 8 + (5 + 11) + 126 ≤ _; omega⟩) rfl rfl (Nat.le_of_ble_eq_true rfl) dL_law_902 ⟨by show _ + _ ≤ _; omega, by show _ + _ ≤ _; omega⟩ (fun v S1 hp => ?_) (fun E S1 hx => hx.elim)
  obtain ⟨hv, hle, hB1, hf1, hd1, hlg⟩ := hp
  subst hv
  have hA1 : zMdA S1 b := zMdA_far hA hf1 (fun n h => h)
  have h20 : S1.1 2000 = true := hd1.trans h2000
  refine z_istore (L' := [(5, .int (nI (sOwner b (xs (i + 1)) (xs (i + 2))).1)), (4, .int (nI i)), (0, .ref 0), (1, .ref 1), (2, .ref 1000), (3, .ref 2000)]) X dL_law_905 (by decide) rfl ?_
  refine z_aload_n (j := 4) X dL_law_907 rfl rfl ?_
  refine z_aload_n (j := 2) X dL_law_908 rfl rfl ?_
  refine z_iload (j := 1) X dL_law_909 rfl ?_
  refine z_iconst (v := (nI 1)) X dL_law_911 (by decide) ?_
  refine z_iadd X dL_law_912 ?_
  refine z_top (nI_add i 1) ?_
  refine z_sld (j := i + 1) X hX hbl hbA hO (by omega) (by omega) dL_law_913 ?_
  refine z_aload_n (j := 2) X dL_law_914 rfl rfl ?_
  refine z_iload (j := 1) X dL_law_915 rfl ?_
  refine z_iconst (v := (nI 2)) X dL_law_917 (by decide) ?_
  refine z_iadd X dL_law_918 ?_
  refine z_top (nI_add i 2) ?_
  refine z_sld (j := i + 2) X hX hbl hbA hO (by omega) (by omega) dL_law_919 ?_
  refine z_callV (n := 2) (As := [.int (xs (i + 1)), .int (xs (i + 2))]) (rest := []) X zG1_m (zMet_g zG1_0 (mM_owner l D dA hA1 hI)) (w_V X.2.2.2.2.1 lL_121 jM_owner sM_owner i_LogBrokerModel kM_owner rfl rfl (by decide +kernel) ⟨by show 1 + 1 ≤ _; omega, by show 8 + (3 + 11) + 27 ≤ _; omega⟩) rfl rfl rfl rfl rfl (Nat.le_of_ble_eq_true rfl) dL_law_920 ⟨by show _ + _ ≤ _; omega, by show _ + _ ≤ _; omega⟩ (fun v S2 hp => ?_) (fun E S1 hx => hx.elim)
  obtain ⟨hv, h27, hA2, hc2⟩ := hp
  subst hv
  have hI2 : zInv b := hI
  have hf2 : zfr (fun n => 1000 ≤ n ∧ n < 1023) S1 S2 := hc2.fr (fun n k h => h)
  have hH2 : lwH S2 b := ⟨zBrA_far hB1 hI2.1 hf2 (fun n h => h.1), hA2, hI2, (hf2.1 2000 (by omega)).trans h20⟩
  refine z_istore (L' := [(6, .int ((sOwner b (xs (i + 1)) (xs (i + 2))).2)), (5, .int (nI (sOwner b (xs (i + 1)) (xs (i + 2))).1)), (4, .int (nI i)), (0, .ref 0), (1, .ref 1), (2, .ref 1000), (3, .ref 2000)]) X dL_law_923 (by decide) rfl ?_
  refine z_aload_n (j := 5) X dL_law_925 rfl rfl ?_
  refine z_callV (n := 0) (As := []) (rest := []) X zG1_m (zMet_g zG1_0 (mM_thrown l D dA)) (w_V X.2.2.2.2.1 lL_81 jM_thrown sM_thrown i_LogBrokerModel kM_thrown rfl rfl (by decide +kernel) ⟨by show 0 + 1 ≤ _; omega, by show 8 + (1 + 11) + 0 ≤ _; omega⟩) rfl rfl rfl rfl rfl (Nat.le_of_ble_eq_true rfl) dL_law_926 ⟨by show _ + _ ≤ _; omega, by show _ + _ ≤ _; omega⟩ (fun v S9 hp => ?_) (fun E S1 hx => hx.elim)
  obtain ⟨hS9, hp⟩ := hp
  have hS9 := hS9.symm
  subst hS9
  subst hp
  refine z_iload (j := 1) X dL_law_929 rfl ?_
  refine z_icmp_eq (tgt := 936) X dL_law_931 (by decide) (fun _ => ?_) (fun h => absurd h27 h)
  refine z_iload (j := 1) X dL_law_936 rfl ?_
  refine z_if_ne (tgt := 953) X dL_law_938 (by decide) (fun _ => ?_) (fun h0 => ?_)
  · refine z_goto (tgt := 1225) X dL_law_953 (by decide) ?_
    refine z_loc [2, 3, 4, 5, 6] rfl ?_
    exact k _ _ _ _ hH2 (by omega) (by omega)
  · have hc0 : (sOwner b (xs (i + 1)) (xs (i + 2))).1 = 0 := Classical.byContradiction fun h => nI_ne0 (by omega) (by omega) h0
    have hlg2 : S2.2.2.2 2000 0 = ((sOwner b (xs (i + 1)) (xs (i + 2))).2).toInt64 := by rw [hc2.2.1]; exact hlg hc0
    refine z_aload_n (j := 6) X dL_law_941 rfl rfl ?_
    refine z_iconst (v := (nI 0)) X dL_law_942 (by decide) ?_
    refine z_lald (t0 := 2) (j9 := 0) X rfl rfl (by decide) (by decide) dL_law_943 (hv := hlg2) ?_
    refine z_iload (j := 0) X dL_law_944 rfl ?_
    refine z_i2l X dL_law_946 rfl ?_
    refine z_lcmp X dL_law_947 ?_
    refine z_if_eq (tgt := 953) X dL_law_948 (by decide) (fun _ => ?_) (fun c_948 => absurd (lg_same _) c_948)
    refine z_goto (tgt := 1225) X dL_law_953 (by decide) ?_
    refine z_loc [2, 3, 4, 5, 6] rfl ?_
    exact k _ _ _ _ hH2 (by omega) (by omega)

set_option maxHeartbeats 1000000 in
set_option maxRecDepth 100000 in
theorem law_poll {p : Program} {l : Launch} {e : Env} {R : Room} {s : State} {m : MethodId} {args : Array Value} {below : List Frame} {meth : Method} {c : Code} {kc ks : Nat} {Q : State → Prop} {D : va_G} {dA : Nat → ClassId} {A : Nat → Prop} {O : (Nat → Nat) × zS} {c0 : Cond} {S : zS} {b : zBr} {b0 Ln i : Nat} {xs : Nat → Int32} (X : zX p s m args c D vwCl zKK A code 7 "LogBrokerLaw" (c0 :: zTs) (ztys dA) (zG1 D dA)) (hl0 : l.stackTraces = false) (hX : va_X b0 Ln xs s s.heap) (hbl : b0 < s.heap.size) (hbA : ¬ A b0) (hO : O.1 0 = b0) (hLn : Ln < 2 ^ 30) (hi : i + 5 < Ln) (hH : lwH S b) (hR : 10 ≤ R.frames ∧ 300 ≤ R.locals) (hkc : kc + 40 ≤ R.cells) (hks : ks + 400 ≤ R.slots) (k : ∀ (S' : zS) (b' : zBr) (kc' ks' : Nat), lwH S' b' → kc' ≤ kc + 40 → ks' ≤ ks + 400 → AW p l e R s m args below meth c D vwCl zKK dA A O 7 S' kc' ks' Q 1225 [(4, .int (nI i)), (0, .ref 0), (1, .ref 1), (2, .ref 1000), (3, .ref 2000)] []) : AW p l e R s m args below meth c D vwCl zKK dA A O 7 S kc ks Q 956 [(4, .int (nI i)), (0, .ref 0), (1, .ref 1), (2, .ref 1000), (3, .ref 2000)] [] := by
  obtain ⟨hB, hA, hI, h2000⟩ := hH
  refine z_aload_n (j := 2) X dL_law_956 rfl rfl ?_
  refine z_aload_n (j := 1) X dL_law_957 rfl rfl ?_
  refine z_iload (j := 0) X dL_law_958 rfl ?_
  refine z_iconst (v := (nI 1)) X dL_law_960 (by decide) ?_
  refine z_iadd X dL_law_961 ?_
  refine z_top (nI_add i 1) ?_
  refine z_sld (j := i + 1) X hX hbl hbA hO (by omega) (by omega) dL_law_962 ?_
  refine z_aload_n (j := 1) X dL_law_963 rfl rfl ?_
  refine z_iload (j := 0) X dL_law_964 rfl ?_
  refine z_iconst (v := (nI 2)) X dL_law_966 (by decide) ?_
  refine z_iadd X dL_law_967 ?_
  refine z_top (nI_add i 2) ?_
  refine z_sld (j := i + 2) X hX hbl hbA hO (by omega) (by omega) dL_law_968 ?_
  refine z_aload_n (j := 1) X dL_law_969 rfl rfl ?_
  refine z_iload (j := 0) X dL_law_970 rfl ?_
  refine z_iconst (v := (nI 3)) X dL_law_972 (by decide) ?_
  refine z_iadd X dL_law_973 ?_
  refine z_top (nI_add i 3) ?_
  refine z_sld (j := i + 3) X hX hbl hbA hO (by omega) (by omega) dL_law_974 ?_
  refine z_aload_n (j := 1) X dL_law_975 rfl rfl ?_
  refine z_iload (j := 0) X dL_law_976 rfl ?_
  refine z_iconst (v := (nI 4)) X dL_law_978 (by decide) ?_
  refine z_iadd X dL_law_979 ?_
  refine z_top (nI_add i 4) ?_
  refine z_sld (j := i + 4) X hX hbl hbA hO (by omega) (by omega) dL_law_980 ?_
  refine z_aload_n (j := 4) X dL_law_981 rfl rfl ?_
  refine z_callSX (n := 6) (As := [.ref 1, .int (xs (i + 1)), .int (xs (i + 2)), .int (xs (i + 3)), .int (xs (i + 4)), .ref 2000]) (rest := []) X zG1_m (zMet_g zG1_0 (mL_poll l D dA hl0 hB hI)) (w_SX X.2.2.2.2.1 lL_122 tL_poll i_LogBrokerLaw kL_poll rfl rfl (by decide +kernel) ⟨by show 8 + 1 ≤ _; omega, by show 8 + (7 + 11) + 132 ≤ _; omega⟩) rfl rfl (Nat.le_of_ble_eq_true rfl) dL_law_982 ⟨by show _ + _ ≤ _; omega, by show _ + _ ≤ _; omega⟩ (fun v S1 hp => ?_) (fun E S1 hx => hx.elim)
  obtain ⟨hv, hle, hB1, hf1, hd1, hlg⟩ := hp
  subst hv
  have hA1 : zMdA S1 b := zMdA_far hA hf1 (fun n h => h)
  have h20 : S1.1 2000 = true := hd1.trans h2000
  refine z_istore (L' := [(5, .int (nI (sPoll b (xs (i + 1)) (xs (i + 2)) (xs (i + 3)) (xs (i + 4))).1.1)), (4, .int (nI i)), (0, .ref 0), (1, .ref 1), (2, .ref 1000), (3, .ref 2000)]) X dL_law_985 (by decide) rfl ?_
  refine z_aload_n (j := 4) X dL_law_987 rfl rfl ?_
  refine z_aload_n (j := 2) X dL_law_988 rfl rfl ?_
  refine z_iload (j := 1) X dL_law_989 rfl ?_
  refine z_iconst (v := (nI 1)) X dL_law_991 (by decide) ?_
  refine z_iadd X dL_law_992 ?_
  refine z_top (nI_add i 1) ?_
  refine z_sld (j := i + 1) X hX hbl hbA hO (by omega) (by omega) dL_law_993 ?_
  refine z_aload_n (j := 2) X dL_law_994 rfl rfl ?_
  refine z_iload (j := 1) X dL_law_995 rfl ?_
  refine z_iconst (v := (nI 2)) X dL_law_997 (by decide) ?_
  refine z_iadd X dL_law_998 ?_
  refine z_top (nI_add i 2) ?_
  refine z_sld (j := i + 2) X hX hbl hbA hO (by omega) (by omega) dL_law_999 ?_
  refine z_aload_n (j := 2) X dL_law_1000 rfl rfl ?_
  refine z_iload (j := 1) X dL_law_1001 rfl ?_
  refine z_iconst (v := (nI 3)) X dL_law_1003 (by decide) ?_
  refine z_iadd X dL_law_1004 ?_
  refine z_top (nI_add i 3) ?_
  refine z_sld (j := i + 3) X hX hbl hbA hO (by omega) (by omega) dL_law_1005 ?_
  refine z_aload_n (j := 2) X dL_law_1006 rfl rfl ?_
  refine z_iload (j := 1) X dL_law_1007 rfl ?_
  refine z_iconst (v := (nI 4)) X dL_law_1009 (by decide) ?_
  refine z_iadd X dL_law_1010 ?_
  refine z_top (nI_add i 4) ?_
  refine z_sld (j := i + 4) X hX hbl hbA hO (by omega) (by omega) dL_law_1011 ?_
  refine z_callV (n := 4) (As := [.int (xs (i + 1)), .int (xs (i + 2)), .int (xs (i + 3)), .int (xs (i + 4))]) (rest := []) X zG1_m (zMet_g zG1_0 (mM_poll l D dA hA1 hI)) (w_V X.2.2.2.2.1 lL_125 jM_poll sM_poll i_LogBrokerModel kM_poll rfl rfl (by decide +kernel) ⟨by show 2 + 1 ≤ _; omega, by show 8 + (7 + 11) + 48 ≤ _; omega⟩) rfl rfl rfl rfl rfl (Nat.le_of_ble_eq_true rfl) dL_law_1012 ⟨by show _ + _ ≤ _; omega, by show _ + _ ≤ _; omega⟩ (fun v S2 hp => ?_) (fun E S1 hx => hx.elim)
  obtain ⟨hv, h27, hA2, hc2⟩ := hp
  subst hv
  have hI2 : zInv ((sPoll b (xs (i + 1)) (xs (i + 2)) (xs (i + 3)) (xs (i + 4))).2) := (zInv_poll hI)
  have hf2 : zfr (fun n => 1000 ≤ n ∧ n < 1023) S1 S2 := hc2.fr (fun n k h => h)
  have hH2 : lwH S2 ((sPoll b (xs (i + 1)) (xs (i + 2)) (xs (i + 3)) (xs (i + 4))).2) := ⟨zBrA_far hB1 hI2.1 hf2 (fun n h => h.1), hA2, hI2, (hf2.1 2000 (by omega)).trans h20⟩
  refine z_istore (L' := [(6, .int ((sPoll b (xs (i + 1)) (xs (i + 2)) (xs (i + 3)) (xs (i + 4))).1.2)), (5, .int (nI (sPoll b (xs (i + 1)) (xs (i + 2)) (xs (i + 3)) (xs (i + 4))).1.1)), (4, .int (nI i)), (0, .ref 0), (1, .ref 1), (2, .ref 1000), (3, .ref 2000)]) X dL_law_1015 (by decide) rfl ?_
  refine z_aload_n (j := 5) X dL_law_1017 rfl rfl ?_
  refine z_callV (n := 0) (As := []) (rest := []) X zG1_m (zMet_g zG1_0 (mM_thrown l D dA)) (w_V X.2.2.2.2.1 lL_81 jM_thrown sM_thrown i_LogBrokerModel kM_thrown rfl rfl (by decide +kernel) ⟨by show 0 + 1 ≤ _; omega, by show 8 + (1 + 11) + 0 ≤ _; omega⟩) rfl rfl rfl rfl rfl (Nat.le_of_ble_eq_true rfl) dL_law_1018 ⟨by show _ + _ ≤ _; omega, by show _ + _ ≤ _; omega⟩ (fun v S9 hp => ?_) (fun E S1 hx => hx.elim)
  obtain ⟨hS9, hp⟩ := hp
  have hS9 := hS9.symm
  subst hS9
  subst hp
  refine z_iload (j := 1) X dL_law_1021 rfl ?_
  refine z_icmp_eq (tgt := 1028) X dL_law_1023 (by decide) (fun _ => ?_) (fun h => absurd h27 h)
  refine z_iload (j := 1) X dL_law_1028 rfl ?_
  refine z_if_ne (tgt := 1045) X dL_law_1030 (by decide) (fun _ => ?_) (fun h0 => ?_)
  · refine z_goto (tgt := 1225) X dL_law_1045 (by decide) ?_
    refine z_loc [2, 3, 4, 5, 6] rfl ?_
    exact k _ _ _ _ hH2 (by omega) (by omega)
  · have hc0 : (sPoll b (xs (i + 1)) (xs (i + 2)) (xs (i + 3)) (xs (i + 4))).1.1 = 0 := Classical.byContradiction fun h => nI_ne0 (by omega) (by omega) h0
    have hlg2 : S2.2.2.2 2000 0 = ((sPoll b (xs (i + 1)) (xs (i + 2)) (xs (i + 3)) (xs (i + 4))).1.2).toInt64 := by rw [hc2.2.1]; exact hlg hc0
    refine z_aload_n (j := 6) X dL_law_1033 rfl rfl ?_
    refine z_iconst (v := (nI 0)) X dL_law_1034 (by decide) ?_
    refine z_lald (t0 := 2) (j9 := 0) X rfl rfl (by decide) (by decide) dL_law_1035 (hv := hlg2) ?_
    refine z_iload (j := 0) X dL_law_1036 rfl ?_
    refine z_i2l X dL_law_1038 rfl ?_
    refine z_lcmp X dL_law_1039 ?_
    refine z_if_eq (tgt := 1045) X dL_law_1040 (by decide) (fun _ => ?_) (fun c_1040 => absurd (lg_same _) c_1040)
    refine z_goto (tgt := 1225) X dL_law_1045 (by decide) ?_
    refine z_loc [2, 3, 4, 5, 6] rfl ?_
    exact k _ _ _ _ hH2 (by omega) (by omega)

set_option maxHeartbeats 1000000 in
set_option maxRecDepth 100000 in
theorem law_keep {p : Program} {l : Launch} {e : Env} {R : Room} {s : State} {m : MethodId} {args : Array Value} {below : List Frame} {meth : Method} {c : Code} {kc ks : Nat} {Q : State → Prop} {D : va_G} {dA : Nat → ClassId} {A : Nat → Prop} {O : (Nat → Nat) × zS} {c0 : Cond} {S : zS} {b : zBr} {b0 Ln i : Nat} {xs : Nat → Int32} (X : zX p s m args c D vwCl zKK A code 7 "LogBrokerLaw" (c0 :: zTs) (ztys dA) (zG1 D dA)) (hl0 : l.stackTraces = false) (hX : va_X b0 Ln xs s s.heap) (hbl : b0 < s.heap.size) (hbA : ¬ A b0) (hO : O.1 0 = b0) (hLn : Ln < 2 ^ 30) (hi : i + 5 < Ln) (hH : lwH S b) (hR : 10 ≤ R.frames ∧ 300 ≤ R.locals) (hkc : kc + 40 ≤ R.cells) (hks : ks + 400 ≤ R.slots) (k : ∀ (S' : zS) (b' : zBr) (kc' ks' : Nat), lwH S' b' → kc' ≤ kc + 40 → ks' ≤ ks + 400 → AW p l e R s m args below meth c D vwCl zKK dA A O 7 S' kc' ks' Q 1225 [(4, .int (nI i)), (0, .ref 0), (1, .ref 1), (2, .ref 1000), (3, .ref 2000)] []) : AW p l e R s m args below meth c D vwCl zKK dA A O 7 S kc ks Q 1048 [(4, .int (nI i)), (0, .ref 0), (1, .ref 1), (2, .ref 1000), (3, .ref 2000)] [] := by
  obtain ⟨hB, hA, hI, h2000⟩ := hH
  refine z_aload_n (j := 2) X dL_law_1048 rfl rfl ?_
  refine z_aload_n (j := 1) X dL_law_1049 rfl rfl ?_
  refine z_iload (j := 0) X dL_law_1050 rfl ?_
  refine z_iconst (v := (nI 1)) X dL_law_1052 (by decide) ?_
  refine z_iadd X dL_law_1053 ?_
  refine z_top (nI_add i 1) ?_
  refine z_sld (j := i + 1) X hX hbl hbA hO (by omega) (by omega) dL_law_1054 ?_
  refine z_aload_n (j := 1) X dL_law_1055 rfl rfl ?_
  refine z_iload (j := 0) X dL_law_1056 rfl ?_
  refine z_iconst (v := (nI 2)) X dL_law_1058 (by decide) ?_
  refine z_iadd X dL_law_1059 ?_
  refine z_top (nI_add i 2) ?_
  refine z_sld (j := i + 2) X hX hbl hbA hO (by omega) (by omega) dL_law_1060 ?_
  refine z_aload_n (j := 1) X dL_law_1061 rfl rfl ?_
  refine z_iload (j := 0) X dL_law_1062 rfl ?_
  refine z_iconst (v := (nI 3)) X dL_law_1064 (by decide) ?_
  refine z_iadd X dL_law_1065 ?_
  refine z_top (nI_add i 3) ?_
  refine z_sld (j := i + 3) X hX hbl hbA hO (by omega) (by omega) dL_law_1066 ?_
  refine z_aload_n (j := 1) X dL_law_1067 rfl rfl ?_
  refine z_iload (j := 0) X dL_law_1068 rfl ?_
  refine z_iconst (v := (nI 4)) X dL_law_1070 (by decide) ?_
  refine z_iadd X dL_law_1071 ?_
  refine z_top (nI_add i 4) ?_
  refine z_sld (j := i + 4) X hX hbl hbA hO (by omega) (by omega) dL_law_1072 ?_
  refine z_aload_n (j := 1) X dL_law_1073 rfl rfl ?_
  refine z_iload (j := 0) X dL_law_1074 rfl ?_
  refine z_iconst (v := (nI 5)) X dL_law_1076 (by decide) ?_
  refine z_iadd X dL_law_1077 ?_
  refine z_top (nI_add i 5) ?_
  refine z_sld (j := i + 5) X hX hbl hbA hO (by omega) (by omega) dL_law_1078 ?_
  refine z_callSX (n := 6) (As := [.ref 1, .int (xs (i + 1)), .int (xs (i + 2)), .int (xs (i + 3)), .int (xs (i + 4)), .int (xs (i + 5))]) (rest := []) X zG1_m (zMet_g zG1_0 (mL_keep l D dA hl0 hB hI)) (w_SX X.2.2.2.2.1 lL_126 tL_keep i_LogBrokerLaw kL_keep rfl rfl (by decide +kernel) ⟨by show 8 + 1 ≤ _; omega, by show 8 + (7 + 11) + 131 ≤ _; omega⟩) rfl rfl (Nat.le_of_ble_eq_true rfl) dL_law_1079 ⟨by show _ + _ ≤ _; omega, by show _ + _ ≤ _; omega⟩ (fun v S1 hp => ?_) (fun E S1 hx => hx.elim)
  obtain ⟨hv, hle, hB1, hf1, hd1⟩ := hp
  subst hv
  have hA1 : zMdA S1 b := zMdA_far hA hf1 (fun n h => h)
  have h20 : S1.1 2000 = true := hd1.trans h2000
  refine z_istore (L' := [(5, .int (nI (sKeep b (xs (i + 1)) (xs (i + 2)) (xs (i + 3)) (xs (i + 4)) (xs (i + 5))).1.1)), (4, .int (nI i)), (0, .ref 0), (1, .ref 1), (2, .ref 1000), (3, .ref 2000)]) X dL_law_1082 (by decide) rfl ?_
  refine z_aload_n (j := 4) X dL_law_1084 rfl rfl ?_
  refine z_aload_n (j := 2) X dL_law_1085 rfl rfl ?_
  refine z_iload (j := 1) X dL_law_1086 rfl ?_
  refine z_iconst (v := (nI 1)) X dL_law_1088 (by decide) ?_
  refine z_iadd X dL_law_1089 ?_
  refine z_top (nI_add i 1) ?_
  refine z_sld (j := i + 1) X hX hbl hbA hO (by omega) (by omega) dL_law_1090 ?_
  refine z_aload_n (j := 2) X dL_law_1091 rfl rfl ?_
  refine z_iload (j := 1) X dL_law_1092 rfl ?_
  refine z_iconst (v := (nI 2)) X dL_law_1094 (by decide) ?_
  refine z_iadd X dL_law_1095 ?_
  refine z_top (nI_add i 2) ?_
  refine z_sld (j := i + 2) X hX hbl hbA hO (by omega) (by omega) dL_law_1096 ?_
  refine z_aload_n (j := 2) X dL_law_1097 rfl rfl ?_
  refine z_iload (j := 1) X dL_law_1098 rfl ?_
  refine z_iconst (v := (nI 3)) X dL_law_1100 (by decide) ?_
  refine z_iadd X dL_law_1101 ?_
  refine z_top (nI_add i 3) ?_
  refine z_sld (j := i + 3) X hX hbl hbA hO (by omega) (by omega) dL_law_1102 ?_
  refine z_aload_n (j := 2) X dL_law_1103 rfl rfl ?_
  refine z_iload (j := 1) X dL_law_1104 rfl ?_
  refine z_iconst (v := (nI 4)) X dL_law_1106 (by decide) ?_
  refine z_iadd X dL_law_1107 ?_
  refine z_top (nI_add i 4) ?_
  refine z_sld (j := i + 4) X hX hbl hbA hO (by omega) (by omega) dL_law_1108 ?_
  refine z_aload_n (j := 2) X dL_law_1109 rfl rfl ?_
  refine z_iload (j := 1) X dL_law_1110 rfl ?_
  refine z_iconst (v := (nI 5)) X dL_law_1112 (by decide) ?_
  refine z_iadd X dL_law_1113 ?_
  refine z_top (nI_add i 5) ?_
  refine z_sld (j := i + 5) X hX hbl hbA hO (by omega) (by omega) dL_law_1114 ?_
  refine z_callV (n := 5) (As := [.int (xs (i + 1)), .int (xs (i + 2)), .int (xs (i + 3)), .int (xs (i + 4)), .int (xs (i + 5))]) (rest := []) X zG1_m (zMet_g zG1_0 (mM_keep l D dA hA1 hI)) (w_V X.2.2.2.2.1 lL_129 jM_keep sM_keep i_LogBrokerModel kM_keep rfl rfl (by decide +kernel) ⟨by show 1 + 1 ≤ _; omega, by show 8 + (7 + 11) + 27 ≤ _; omega⟩) rfl rfl rfl rfl rfl (Nat.le_of_ble_eq_true rfl) dL_law_1115 ⟨by show _ + _ ≤ _; omega, by show _ + _ ≤ _; omega⟩ (fun v S2 hp => ?_) (fun E S1 hx => hx.elim)
  obtain ⟨hv, h27, hA2, hc2⟩ := hp
  subst hv
  have hI2 : zInv ((sKeep b (xs (i + 1)) (xs (i + 2)) (xs (i + 3)) (xs (i + 4)) (xs (i + 5))).2) := (zInv_keep hI)
  have hf2 : zfr (fun n => 1000 ≤ n ∧ n < 1023) S1 S2 := hc2.fr (fun n k h => h)
  have hH2 : lwH S2 ((sKeep b (xs (i + 1)) (xs (i + 2)) (xs (i + 3)) (xs (i + 4)) (xs (i + 5))).2) := ⟨zBrA_far hB1 hI2.1 hf2 (fun n h => h.1), hA2, hI2, (hf2.1 2000 (by omega)).trans h20⟩
  refine z_aload_n (j := 4) X dL_law_1118 rfl rfl ?_
  refine z_callV (n := 0) (As := []) (rest := []) X zG1_m (zMet_g zG1_0 (mM_thrown l D dA)) (w_V X.2.2.2.2.1 lL_81 jM_thrown sM_thrown i_LogBrokerModel kM_thrown rfl rfl (by decide +kernel) ⟨by show 0 + 1 ≤ _; omega, by show 8 + (1 + 11) + 0 ≤ _; omega⟩) rfl rfl rfl rfl rfl (Nat.le_of_ble_eq_true rfl) dL_law_1119 ⟨by show _ + _ ≤ _; omega, by show _ + _ ≤ _; omega⟩ (fun v S9 hp => ?_) (fun E S1 hx => hx.elim)
  obtain ⟨hS9, hp⟩ := hp
  have hS9 := hS9.symm
  subst hS9
  subst hp
  refine z_iload (j := 0) X dL_law_1122 rfl ?_
  refine z_icmp_eq (tgt := 1129) X dL_law_1124 (by decide) (fun _ => ?_) (fun h => absurd h27 h)
  refine z_goto (tgt := 1225) X dL_law_1129 (by decide) ?_
  refine z_loc [1, 2, 3, 4, 5] rfl ?_
  exact k _ _ _ _ hH2 (by omega) (by omega)

set_option maxHeartbeats 1000000 in
set_option maxRecDepth 100000 in
theorem law_log {p : Program} {l : Launch} {e : Env} {R : Room} {s : State} {m : MethodId} {args : Array Value} {below : List Frame} {meth : Method} {c : Code} {kc ks : Nat} {Q : State → Prop} {D : va_G} {dA : Nat → ClassId} {A : Nat → Prop} {O : (Nat → Nat) × zS} {c0 : Cond} {S : zS} {b : zBr} {b0 Ln i : Nat} {xs : Nat → Int32} (X : zX p s m args c D vwCl zKK A code 7 "LogBrokerLaw" (c0 :: zTs) (ztys dA) (zG1 D dA)) (hl0 : l.stackTraces = false) (hX : va_X b0 Ln xs s s.heap) (hbl : b0 < s.heap.size) (hbA : ¬ A b0) (hO : O.1 0 = b0) (hLn : Ln < 2 ^ 30) (hi : i + 5 < Ln) (hH : lwH S b) (hR : 10 ≤ R.frames ∧ 300 ≤ R.locals) (hkc : kc + 40 ≤ R.cells) (hks : ks + 400 ≤ R.slots) (k : ∀ (S' : zS) (b' : zBr) (kc' ks' : Nat), lwH S' b' → kc' ≤ kc + 40 → ks' ≤ ks + 400 → AW p l e R s m args below meth c D vwCl zKK dA A O 7 S' kc' ks' Q 1225 [(4, .int (nI i)), (0, .ref 0), (1, .ref 1), (2, .ref 1000), (3, .ref 2000)] []) : AW p l e R s m args below meth c D vwCl zKK dA A O 7 S kc ks Q 1132 [(4, .int (nI i)), (0, .ref 0), (1, .ref 1), (2, .ref 1000), (3, .ref 2000)] [] := by
  obtain ⟨hB, hA, hI, h2000⟩ := hH
  refine z_aload_n (j := 2) X dL_law_1132 rfl rfl ?_
  refine z_aload_n (j := 1) X dL_law_1133 rfl rfl ?_
  refine z_iload (j := 0) X dL_law_1134 rfl ?_
  refine z_iconst (v := (nI 1)) X dL_law_1136 (by decide) ?_
  refine z_iadd X dL_law_1137 ?_
  refine z_top (nI_add i 1) ?_
  refine z_sld (j := i + 1) X hX hbl hbA hO (by omega) (by omega) dL_law_1138 ?_
  refine z_aload_n (j := 1) X dL_law_1139 rfl rfl ?_
  refine z_iload (j := 0) X dL_law_1140 rfl ?_
  refine z_iconst (v := (nI 2)) X dL_law_1142 (by decide) ?_
  refine z_iadd X dL_law_1143 ?_
  refine z_top (nI_add i 2) ?_
  refine z_sld (j := i + 2) X hX hbl hbA hO (by omega) (by omega) dL_law_1144 ?_
  refine z_aload_n (j := 4) X dL_law_1145 rfl rfl ?_
  refine z_callSX (n := 4) (As := [.ref 1, .int (xs (i + 1)), .int (xs (i + 2)), .ref 2000]) (rest := []) X zG1_m (zMet_g zG1_0 (mL_log l D dA hl0 hB hI)) (w_SX X.2.2.2.2.1 lL_130 tL_log i_LogBrokerLaw kL_log rfl rfl (by decide +kernel) ⟨by show 8 + 1 ≤ _; omega, by show 8 + (5 + 11) + 127 ≤ _; omega⟩) rfl rfl (Nat.le_of_ble_eq_true rfl) dL_law_1146 ⟨by show _ + _ ≤ _; omega, by show _ + _ ≤ _; omega⟩ (fun v S1 hp => ?_) (fun E S1 hx => hx.elim)
  obtain ⟨hv, hle, hB1, hf1, hd1, hlg⟩ := hp
  subst hv
  have hA1 : zMdA S1 b := zMdA_far hA hf1 (fun n h => h)
  have h20 : S1.1 2000 = true := hd1.trans h2000
  refine z_istore (L' := [(5, .int (nI (sLog b (xs (i + 1)) (xs (i + 2))).1)), (4, .int (nI i)), (0, .ref 0), (1, .ref 1), (2, .ref 1000), (3, .ref 2000)]) X dL_law_1149 (by decide) rfl ?_
  refine z_aload_n (j := 4) X dL_law_1151 rfl rfl ?_
  refine z_aload_n (j := 2) X dL_law_1152 rfl rfl ?_
  refine z_iload (j := 1) X dL_law_1153 rfl ?_
  refine z_iconst (v := (nI 1)) X dL_law_1155 (by decide) ?_
  refine z_iadd X dL_law_1156 ?_
  refine z_top (nI_add i 1) ?_
  refine z_sld (j := i + 1) X hX hbl hbA hO (by omega) (by omega) dL_law_1157 ?_
  refine z_aload_n (j := 2) X dL_law_1158 rfl rfl ?_
  refine z_iload (j := 1) X dL_law_1159 rfl ?_
  refine z_iconst (v := (nI 2)) X dL_law_1161 (by decide) ?_
  refine z_iadd X dL_law_1162 ?_
  refine z_top (nI_add i 2) ?_
  refine z_sld (j := i + 2) X hX hbl hbA hO (by omega) (by omega) dL_law_1163 ?_
  refine z_callV (n := 2) (As := [.int (xs (i + 1)), .int (xs (i + 2))]) (rest := []) X zG1_m (zMet_g zG1_0 (mM_log l D dA hA1 hI)) (w_V X.2.2.2.2.1 lL_132 jM_log sM_log i_LogBrokerModel kM_log rfl rfl (by decide +kernel) ⟨by show 2 + 1 ≤ _; omega, by show 8 + (5 + 11) + 42 ≤ _; omega⟩) rfl rfl rfl rfl rfl (Nat.le_of_ble_eq_true rfl) dL_law_1164 ⟨by show _ + _ ≤ _; omega, by show _ + _ ≤ _; omega⟩ (fun v S2 hp => ?_) (fun E S1 hx => hx.elim)
  obtain ⟨hv, h27, hA2, hc2⟩ := hp
  subst hv
  have hI2 : zInv b := hI
  have hf2 : zfr (fun n => 1000 ≤ n ∧ n < 1023) S1 S2 := hc2.fr (fun n k h => h)
  have hH2 : lwH S2 b := ⟨zBrA_far hB1 hI2.1 hf2 (fun n h => h.1), hA2, hI2, (hf2.1 2000 (by omega)).trans h20⟩
  refine z_istore (L' := [(6, .int ((sLog b (xs (i + 1)) (xs (i + 2))).2)), (5, .int (nI (sLog b (xs (i + 1)) (xs (i + 2))).1)), (4, .int (nI i)), (0, .ref 0), (1, .ref 1), (2, .ref 1000), (3, .ref 2000)]) X dL_law_1167 (by decide) rfl ?_
  refine z_aload_n (j := 5) X dL_law_1169 rfl rfl ?_
  refine z_callV (n := 0) (As := []) (rest := []) X zG1_m (zMet_g zG1_0 (mM_thrown l D dA)) (w_V X.2.2.2.2.1 lL_81 jM_thrown sM_thrown i_LogBrokerModel kM_thrown rfl rfl (by decide +kernel) ⟨by show 0 + 1 ≤ _; omega, by show 8 + (1 + 11) + 0 ≤ _; omega⟩) rfl rfl rfl rfl rfl (Nat.le_of_ble_eq_true rfl) dL_law_1170 ⟨by show _ + _ ≤ _; omega, by show _ + _ ≤ _; omega⟩ (fun v S9 hp => ?_) (fun E S1 hx => hx.elim)
  obtain ⟨hS9, hp⟩ := hp
  have hS9 := hS9.symm
  subst hS9
  subst hp
  refine z_iload (j := 1) X dL_law_1173 rfl ?_
  refine z_icmp_eq (tgt := 1180) X dL_law_1175 (by decide) (fun _ => ?_) (fun h => absurd h27 h)
  refine z_iload (j := 1) X dL_law_1180 rfl ?_
  refine z_if_ne (tgt := 1197) X dL_law_1182 (by decide) (fun _ => ?_) (fun h0 => ?_)
  · refine z_goto (tgt := 1225) X dL_law_1197 (by decide) ?_
    refine z_loc [2, 3, 4, 5, 6] rfl ?_
    exact k _ _ _ _ hH2 (by omega) (by omega)
  · have hc0 : (sLog b (xs (i + 1)) (xs (i + 2))).1 = 0 := Classical.byContradiction fun h => nI_ne0 (by omega) (by omega) h0
    have hlg2 : S2.2.2.2 2000 0 = ((sLog b (xs (i + 1)) (xs (i + 2))).2).toInt64 := by rw [hc2.2.1]; exact hlg hc0
    refine z_aload_n (j := 6) X dL_law_1185 rfl rfl ?_
    refine z_iconst (v := (nI 0)) X dL_law_1186 (by decide) ?_
    refine z_lald (t0 := 2) (j9 := 0) X rfl rfl (by decide) (by decide) dL_law_1187 (hv := hlg2) ?_
    refine z_iload (j := 0) X dL_law_1188 rfl ?_
    refine z_i2l X dL_law_1190 rfl ?_
    refine z_lcmp X dL_law_1191 ?_
    refine z_if_eq (tgt := 1197) X dL_law_1192 (by decide) (fun _ => ?_) (fun c_1192 => absurd (lg_same _) c_1192)
    refine z_goto (tgt := 1225) X dL_law_1197 (by decide) ?_
    refine z_loc [2, 3, 4, 5, 6] rfl ?_
    exact k _ _ _ _ hH2 (by omega) (by omega)

set_option maxHeartbeats 1000000 in
set_option maxRecDepth 100000 in
theorem law_count {p : Program} {l : Launch} {e : Env} {R : Room} {s : State} {m : MethodId} {args : Array Value} {below : List Frame} {meth : Method} {c : Code} {kc ks : Nat} {Q : State → Prop} {D : va_G} {dA : Nat → ClassId} {A : Nat → Prop} {O : (Nat → Nat) × zS} {c0 : Cond} {S : zS} {b : zBr} {b0 Ln i : Nat} {xs : Nat → Int32} (X : zX p s m args c D vwCl zKK A code 7 "LogBrokerLaw" (c0 :: zTs) (ztys dA) (zG1 D dA)) (hl0 : l.stackTraces = false) (hX : va_X b0 Ln xs s s.heap) (hbl : b0 < s.heap.size) (hbA : ¬ A b0) (hO : O.1 0 = b0) (hLn : Ln < 2 ^ 30) (hi : i + 5 < Ln) (hH : lwH S b) (hR : 10 ≤ R.frames ∧ 300 ≤ R.locals) (hkc : kc + 40 ≤ R.cells) (hks : ks + 400 ≤ R.slots) (k : ∀ (S' : zS) (b' : zBr) (kc' ks' : Nat), lwH S' b' → kc' ≤ kc + 40 → ks' ≤ ks + 400 → AW p l e R s m args below meth c D vwCl zKK dA A O 7 S' kc' ks' Q 1225 [(4, .int (nI i)), (0, .ref 0), (1, .ref 1), (2, .ref 1000), (3, .ref 2000)] []) : AW p l e R s m args below meth c D vwCl zKK dA A O 7 S kc ks Q 1200 [(4, .int (nI i)), (0, .ref 0), (1, .ref 1), (2, .ref 1000), (3, .ref 2000)] [] := by
  obtain ⟨hB, hA, hI, h2000⟩ := hH
  refine z_aload_n (j := 2) X dL_law_1200 rfl rfl ?_
  refine z_aload_n (j := 1) X dL_law_1201 rfl rfl ?_
  refine z_iload (j := 0) X dL_law_1202 rfl ?_
  refine z_iconst (v := (nI 1)) X dL_law_1204 (by decide) ?_
  refine z_iadd X dL_law_1205 ?_
  refine z_top (nI_add i 1) ?_
  refine z_sld (j := i + 1) X hX hbl hbA hO (by omega) (by omega) dL_law_1206 ?_
  refine z_callV (n := 1) (As := [.int (xs (i + 1))]) (rest := []) X zG1_m (zMet_g zG1_0 (mB_count l D dA hB hI.1)) (w_V X.2.2.2.2.1 lL_133 jB_count sB_count i_LogBroker kB_count rfl rfl (by decide +kernel) ⟨by show 1 + 1 ≤ _; omega, by show 8 + (2 + 11) + 22 ≤ _; omega⟩) rfl rfl rfl rfl rfl (Nat.le_of_ble_eq_true rfl) dL_law_1207 ⟨by show _ + _ ≤ _; omega, by show _ + _ ≤ _; omega⟩ (fun v S9 hp => ?_) (fun E S1 hx => hx.elim)
  obtain ⟨hS9, hp⟩ := hp
  have hS9 := hS9.symm
  subst hS9
  subst hp
  refine z_aload_n (j := 3) X dL_law_1210 rfl rfl ?_
  refine z_aload_n (j := 1) X dL_law_1211 rfl rfl ?_
  refine z_iload (j := 0) X dL_law_1212 rfl ?_
  refine z_iconst (v := (nI 1)) X dL_law_1214 (by decide) ?_
  refine z_iadd X dL_law_1215 ?_
  refine z_top (nI_add i 1) ?_
  refine z_sld (j := i + 1) X hX hbl hbA hO (by omega) (by omega) dL_law_1216 ?_
  refine z_callV (n := 1) (As := [.int (xs (i + 1))]) (rest := [.int (sCount b (xs (i + 1)))]) X zG1_m (zMet_g zG1_0 (mM_count l D dA hA hI)) (w_V X.2.2.2.2.1 lL_136 jM_count sM_count i_LogBrokerModel kM_count rfl rfl (by decide +kernel) ⟨by show 0 + 1 ≤ _; omega, by show 8 + (4 + 11) + 0 ≤ _; omega⟩) rfl rfl rfl rfl rfl (Nat.le_of_ble_eq_true rfl) dL_law_1217 ⟨by show _ + _ ≤ _; omega, by show _ + _ ≤ _; omega⟩ (fun v S2 hp => ?_) (fun E S1 hx => hx.elim)
  obtain ⟨hv, h27, hA2, hc2⟩ := hp
  subst hv
  have hf2 : zfr (fun n => 1000 ≤ n ∧ n < 1023) S S2 := hc2.fr (fun n k h => h)
  have hH2 : lwH S2 b := ⟨zBrA_far hB hI.1 hf2 (fun n h => h.1), hA2, hI, (hf2.1 2000 (by omega)).trans h2000⟩
  refine z_icmp_eq (tgt := 1225) X dL_law_1220 (by decide) (fun _ => ?_) (fun h => absurd rfl h)
  exact k _ _ _ _ hH2 (by omega) (by omega)
