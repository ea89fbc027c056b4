/-! CONTRACTS of LogBroker: reading (rows by program) -/
theorem mG_firstVisible (l : Launch) (D : va_G) (dA : Nat → ClassId) {S : zS} {tp : Nat} {g : zLg} {o0 : Nat} (c : Bool) (htp : tp < 12) (hO : zLogA S tp g) (hW : zLogW g) (ho0 : o0 ≤ 60) : zMet l D vwCl zKK dA (zG0 D dA) yG_firstVisible (Cond.code yG_firstVisible cG_firstVisible 5 (some .int) :: zTs) { frames := 1, cells := 0, slots := 0, locals := 21 } 0 0 [.ref (60 + tp), .int (nI o0), .int (zB c)] S (fun v S' => v = some (.int (zOI (zVis g o0 c))) ∧ S' = S) (fun _ _ => False) := by
  cases c with
  | true => exact mG_firstVisibleT l D dA htp hO hW ho0
  | false => exact mG_firstVisibleF l D dA htp hO hW ho0
set_option maxHeartbeats 600000 in
set_option maxRecDepth 100000 in
theorem mB_fetch (l : Launch) (D : va_G) (dA : Nat → ClassId) {S : zS} {b : zBr} {x y : Int32} {c0 : Bool} (hl0 : l.stackTraces = false) (hB : zBrA S b) (hW : zBrW b) : zMet l D vwCl zKK dA (zG0 D dA) yB_fetch (Cond.code yB_fetch cB_fetch 5 (some .int) :: zTs) { frames := 7, cells := 2, slots := 12, locals := 103 } 2 12 [.ref 1, .int x, .int y, .int (zB c0)] S (fun v S' => S' = S ∧ ∃ r, v = some (.int r) ∧ sFetch b x y c0 = (0, r)) (fun E S' => S' = S ∧ ((E = "java/lang/IllegalArgumentException" ∧ sFetch b x y c0 = (1, 0)) ∨ (E = "java/util/NoSuchElementException" ∧ sFetch b x y c0 = (2, 0)) ∨ (E = "java/lang/IndexOutOfBoundsException" ∧ sFetch b x y c0 = (3, 0)))) := by
  refine z_met (tys := ztys dA) (by decide) rfl zG0_K rfl (Nat.le_of_ble_eq_true rfl) (fun p e s m args below meth c A ad X hr hlocks hin hex => ?_)
  obtain ⟨hT, hLg, hSs, hGs, hnx, hnf⟩ := id hB
  obtain ⟨v1, v2, v3, v4, v5, v6, v7⟩ := id hW
  obtain ⟨hn, t0, t1, t2, t3, t4, t5, q6, q7, q8, q9, q10, hpt, hlg, hse, hcu, hop, hgr⟩ := id hT
  refine z_aload_n (j := 0) X dB_fetch_0 rfl rfl ?_
  refine z_iload_n (j := 1) X dB_fetch_1 rfl rfl ?_
  refine z_callV (n := 1) (As := [.int x]) (rest := []) X zG0_m (mB_logAt l D dA (x := x) hl0 hT) (w_V X.2.2.2.2.1 lB_80 jB_logAt sB_logAt i_LogBroker kB_logAt rfl rfl (by decide +kernel) ⟨Nat.le_of_ble_eq_true rfl, Nat.le_of_ble_eq_true rfl⟩) rfl rfl rfl rfl rfl (Nat.le_of_ble_eq_true rfl) dB_fetch_2 ⟨Nat.le_of_ble_eq_true rfl, Nat.le_of_ble_eq_true rfl⟩ (fun v S9 hp => ?_) (fun E S1 hx => ?_)
  · obtain ⟨hS9, t, ht, hx9, hv⟩ := hp
    subst hv
    have hS9 := hS9.symm
    subst hS9
    subst hx9
    obtain ⟨g, hg0⟩ : ∃ g, g = b.2.1 t := ⟨_, rfl⟩
    have hO : zLogA S t g := by rw [hg0]; exact hLg t ht
    have hWg : zLogW g := by rw [hg0]; exact v2 t ht
    have hV : ∀ o e, g.2.2 o = some e → zEW e := by rw [hg0]; exact v3 t ht
    obtain ⟨gd1, gd2, f0, f1, f2, f3, f4, f5, f6, f7, f8, hent, hee⟩ := id hO
    obtain ⟨w1, w2, w3, w4, w5, w6, w7, w8, w9⟩ := id hWg
    have wb := zBa_le g
    have wp : zPr g ≤ 60 := zcnt_le
    have ht12 := ht.1
    refine z_astore (L' := [(4, .ref (60 + t)), (0, .ref 1), (1, .int (nI t)), (2, .int y), (3, .int (zB c0))]) X dB_fetch_5 (by decide) rfl ?_
    refine z_iload_n (j := 3) X dB_fetch_7 rfl rfl ?_
    refine z_aload (j := 0) X dB_fetch_8 rfl ?_
    refine z_geti (C := RG) (T := TG) (N := 9) (k := 4) X (w_in inG) rfl rfl (kd_G ht.1) (by decide) (w_m lB_145) rfl rfl dB_fetch_10 (hv := f4) ?_
    refine z_icmp_lt (tgt := 25) X dB_fetch_13 (by decide) (fun c_13 => ?_) (fun c_13 => ?_)
    · exact z_thIOB (text := "the offset is out of the log") X hl0 (by decide +kernel) dB_fetch_25 dB_fetch_28 dB_fetch_29 dB_fetch_31 dB_fetch_34 hex (Nat.le_of_ble_eq_true rfl) (Nat.le_of_ble_eq_true rfl) (Nat.le_of_ble_eq_true rfl) (Nat.le_of_ble_eq_true rfl) hlocks (by omega) (by omega) ⟨rfl, Or.inr (Or.inr ⟨rfl, sFetch_3 ht (by rw [← hg0]; first | exact Or.inl c_13 | exact Or.inr (Int32.not_le.mp c_22))⟩)⟩
    · refine z_iload_n (j := 3) X dB_fetch_16 rfl rfl ?_
      refine z_aload (j := 0) X dB_fetch_17 rfl ?_
      refine z_geti (C := RG) (T := TG) (N := 9) (k := 5) X (w_in inG) rfl rfl (kd_G ht.1) (by decide) (w_m lB_148) rfl rfl dB_fetch_19 (hv := f5) ?_
      refine z_icmp_le (tgt := 35) X dB_fetch_22 (by decide) (fun c_22 => ?_) (fun c_22 => ?_)
      · obtain ⟨o, hy, hs1, hs2⟩ := zIn (y := y) (st := g.2.1.1) (en := g.2.1.2) (by omega) (by omega) c_13 c_22
        subst hy
        refine z_aload (j := 0) X dB_fetch_35 rfl ?_
        refine z_iload_n (j := 3) X dB_fetch_37 rfl rfl ?_
        refine z_iload_n (j := 4) X dB_fetch_38 rfl rfl ?_
        refine z_callV (n := 2) (As := [.int (nI o), .int (zB c0)]) (rest := []) X zG0_m (mG_firstVisible l D dA c0 ht.1 hO hWg (by omega)) (w_V X.2.2.2.2.1 lB_156 jG_firstVisible sG_firstVisible i_LogBroker_Log kG_firstVisible rfl rfl (by decide +kernel) ⟨Nat.le_of_ble_eq_true rfl, Nat.le_of_ble_eq_true rfl⟩) (kd_G ht.1) rfl rfl rfl rfl (Nat.le_of_ble_eq_true rfl) dB_fetch_39 ⟨Nat.le_of_ble_eq_true rfl, Nat.le_of_ble_eq_true rfl⟩ (fun v S9 hp => ?_) (fun E S1 hx => hx.elim)
        obtain ⟨hv, hS9⟩ := hp
        subst hv
        have hS9 := hS9.symm
        subst hS9
        refine z_callS (n := 1) (As := [.int (zOI (zVis g o c0))]) (rest := []) X zG0_m (mB_found l D dA hl0) (w_S X.2.2.2.2.1 lB_160 tB_found i_LogBroker kB_found rfl rfl (by decide +kernel) ⟨Nat.le_of_ble_eq_true rfl, Nat.le_of_ble_eq_true rfl⟩) rfl rfl (Nat.le_of_ble_eq_true rfl) dB_fetch_42 ⟨Nat.le_of_ble_eq_true rfl, Nat.le_of_ble_eq_true rfl⟩ (fun v S9 hp => ?_) (fun E S1 hx => ?_)
        · obtain ⟨hv, hS9, hnf⟩ := hp
          subst hv
          have hS9 := hS9.symm
          subst hS9
          refine z_iret X hlocks hr dB_fetch_45 (by omega) (by omega) ?_
          refine ⟨rfl, _, rfl, ?_⟩
          rw [sFetch_v ht (by rw [← hg0]; exact hs1) (by rw [← hg0]; exact hs2) (by rw [← hg0]; exact w6), ← hg0]
          cases hvs : zVis g o c0 with
          | none => rw [hvs] at hnf; exact absurd rfl hnf
          | some z => rfl
        · obtain ⟨hE, hS9, hnf⟩ := hx
          subst hE
          have hS9 := hS9.symm
          subst hS9
          exact z_out (fun x hx9 => (hex x hx9).elim) hlocks ⟨rfl, Or.inr (Or.inl ⟨rfl, by rw [sFetch_v ht (by rw [← hg0]; exact hs1) (by rw [← hg0]; exact hs2) (by rw [← hg0]; exact w6), ← hg0, zOI_m1 hnf (fun z hz => by have := zVis_le hWg hz; omega)]⟩)⟩ (by omega) (by omega)
      · exact z_thIOB (text := "the offset is out of the log") X hl0 (by decide +kernel) dB_fetch_25 dB_fetch_28 dB_fetch_29 dB_fetch_31 dB_fetch_34 hex (Nat.le_of_ble_eq_true rfl) (Nat.le_of_ble_eq_true rfl) (Nat.le_of_ble_eq_true rfl) (Nat.le_of_ble_eq_true rfl) hlocks (by omega) (by omega) ⟨rfl, Or.inr (Or.inr ⟨rfl, sFetch_3 ht (by rw [← hg0]; first | exact Or.inl c_13 | exact Or.inr (Int32.not_le.mp c_22))⟩)⟩
  · obtain ⟨hE, hS9, hn9⟩ := hx
    subst hE
    have hS9 := hS9.symm
    subst hS9
    exact z_out (fun x hx9 => (hex x hx9).elim) hlocks ⟨rfl, Or.inl ⟨rfl, sFetch_1 hn9⟩⟩ (by omega) (by omega)
