/-! CONTRACTS of LogBroker: reading and keeping (rows by program) -/
set_option maxHeartbeats 600000 in
set_option maxRecDepth 100000 in
theorem mB_told (l : Launch) (D : va_G) (dA : Nat → ClassId) {S : zS} {b : zBr} {x y w : Int32} (hl0 : l.stackTraces = false) (hB : zBrA S b) (hW : zBrW b) : zMet l D vwCl zKK dA (zG0 D dA) yB_told (Cond.code yB_told cB_told 6 (some .int) :: zTs) { frames := 7, cells := 8, slots := 48, locals := 104 } 8 48 [.ref 1, .int x, .int y, .int w] S (fun v S' => S' = S ∧ ∃ r, v = some (.int r) ∧ sTold b x y w = (0, r)) (fun E S' => S' = S ∧ ((E = "java/lang/IllegalArgumentException" ∧ sTold b x y w = (1, 0)) ∨ (E = "java/util/NoSuchElementException" ∧ sTold b x y w = (2, 0)) ∨ (E = "java/lang/IndexOutOfBoundsException" ∧ sTold b x y w = (3, 0)))) := by
  refine z_met (tys := ztys dA) (by decide) rfl zG0_K rfl (Nat.le_of_ble_eq_true rfl) (fun p e s m args below meth c A ad X hr hlocks hin hex => ?_)
  obtain ⟨hT, hLg, hSs, hGs, hnx, hnf⟩ := id hB
  obtain ⟨v1, v2, v3, v4, v5, v6, v7⟩ := id hW
  obtain ⟨hn, t0, t1, t2, t3, t4, t5, q6, q7, q8, q9, q10, hpt, hlg, hse, hcu, hop, hgr⟩ := id hT
  refine z_aload_n (j := 0) X dB_told_0 rfl rfl ?_
  refine z_iload_n (j := 1) X dB_told_1 rfl rfl ?_
  refine z_callV (n := 1) (As := [.int x]) (rest := []) X zG0_m (mB_logAt l D dA (x := x) hl0 hT) (w_V X.2.2.2.2.1 lB_80 jB_logAt sB_logAt i_LogBroker kB_logAt rfl rfl (by decide +kernel) ⟨Nat.le_of_ble_eq_true rfl, Nat.le_of_ble_eq_true rfl⟩) rfl rfl rfl rfl rfl (Nat.le_of_ble_eq_true rfl) dB_told_2 ⟨Nat.le_of_ble_eq_true rfl, Nat.le_of_ble_eq_true rfl⟩ (fun v S9 hp => ?_) (fun E S1 hx => ?_)
  · obtain ⟨hS9, t, ht, hx9, hv⟩ := hp
    subst hv
    have hS9 := hS9.symm
    subst hS9
    subst hx9
    obtain ⟨g, hg0⟩ : ∃ g, g = b.2.1 t := ⟨_, rfl⟩
    have hO : zLogA S t g := by rw [hg0]; exact hLg t ht
    have hWg : zLogW g := by rw [hg0]; exact v2 t ht
    have hV : ∀ o e, g.2.2 o = some e → zEW e := by rw [hg0]; exact v3 t ht
    obtain ⟨gd1, gd2, f0, f1, f2, f3, f4, f5, f6, f7, f8, hent, hee⟩ := id hO
    obtain ⟨w1, w2, w3, w4, w5, w6, w7, w8, w9⟩ := id hWg
    have wb := zBa_le g
    have wp : zPr g ≤ 60 := zcnt_le
    have ht12 := ht.1
    refine z_astore (L' := [(4, .ref (60 + t)), (0, .ref 1), (1, .int (nI t)), (2, .int y), (3, .int w)]) X dB_told_5 (by decide) rfl ?_
    refine z_iload_n (j := 4) X dB_told_7 rfl rfl ?_
    refine z_iconst (v := (nI 0)) X dB_told_8 (by decide) ?_
    refine z_iconst (v := (nI 4)) X dB_told_9 (by decide) ?_
    refine z_callS (n := 3) (As := [.int w, .int (nI 0), .int (nI 4)]) (rest := []) X zG0_m (mB_mustBeWithin l D dA hl0) (w_S X.2.2.2.2.1 lB_45 tB_mustBeWithin i_LogBroker kB_mustBeWithin rfl rfl (by decide +kernel) ⟨Nat.le_of_ble_eq_true rfl, Nat.le_of_ble_eq_true rfl⟩) rfl rfl (Nat.le_of_ble_eq_true rfl) dB_told_10 ⟨Nat.le_of_ble_eq_true rfl, Nat.le_of_ble_eq_true rfl⟩ (fun v S9 hp => ?_) (fun E S1 hx => ?_)
    · obtain ⟨hv, hS9, hr1, hr2⟩ := hp
      subst hv
      have hS9 := hS9.symm
      subst hS9
      obtain ⟨k, hx9, hk⟩ := zRg (n := 4) (by omega) hr1 hr2
      subst hx9
      refine z_iload_n (j := 3) X dB_told_13 rfl rfl ?_
      refine z_aload (j := 0) X dB_told_14 rfl ?_
      refine z_geti (C := RG) (T := TG) (N := 9) (k := 4) X (w_in inG) rfl rfl (kd_G ht12) (by decide) (w_m lB_145) rfl rfl dB_told_16 (hv := f4) ?_
      refine z_icmp_lt (tgt := 31) X dB_told_19 (by decide) (fun c_19 => ?_) (fun c_19 => ?_)
      · exact z_thIOB (text := "the offset is out of the log") X hl0 (by decide +kernel) dB_told_31 dB_told_34 dB_told_35 dB_told_37 dB_told_40 hex (Nat.le_of_ble_eq_true rfl) (Nat.le_of_ble_eq_true rfl) (Nat.le_of_ble_eq_true rfl) (Nat.le_of_ble_eq_true rfl) hlocks (by omega) (by omega) ⟨rfl, Or.inr (Or.inr (⟨rfl, by unfold sTold; rw [zT_s ht, zA_s hk (by decide), if_pos (by rw [← hg0]; first | exact Or.inl c_19 | exact Or.inr c_28)]⟩))⟩
      · refine z_iload_n (j := 3) X dB_told_22 rfl rfl ?_
        refine z_aload (j := 0) X dB_told_23 rfl ?_
        refine z_geti (C := RG) (T := TG) (N := 9) (k := 5) X (w_in inG) rfl rfl (kd_G ht12) (by decide) (w_m lB_148) rfl rfl dB_told_25 (hv := f5) ?_
        refine z_icmp_lt (tgt := 41) X dB_told_28 (by decide) (fun c_28 => ?_) (fun c_28 => ?_)
        · obtain ⟨o, hy, hs1, hs3⟩ := zIn (y := y) (st := g.2.1.1) (en := g.2.1.2) (by omega) (by omega) c_19 (Int32.le_of_lt c_28)
          subst hy
          have hs2 : o < g.2.1.2 := (nI_ltI (by omega) (by omega)).mp c_28
          rcases he : g.2.2 o with _ | r
          · refine z_aload (j := 0) X dB_told_41 rfl ?_
            refine z_getr (C := RG) (T := TG) (N := 9) (k := 3) X (w_in inG) rfl rfl (kd_G ht12) (by decide) (w_m lB_164) rfl rfl f3 dB_told_43 ?_
            refine z_iload_n (j := 3) X dB_told_46 rfl rfl ?_
            refine z_aaldN (t0 := 6) X (kd_GA (by omega)) (by decide) (by decide) (by decide) rfl (by omega) (by decide) (by rw [hent, he]; rfl) dB_told_47 ?_
            refine z_astoreN (L' := [(5, .null), (4, .ref (60 + t)), (0, .ref 1), (1, .int (nI t)), (2, .int (nI o)), (3, .int (nI k))]) X dB_told_48 (by decide) rfl ?_
            refine z_aloadN (j := 0) X dB_told_50 rfl ?_
            refine z_ifnonnullN X dB_told_52 ?_
            exact z_thNSE (text := "the record is gone") X hl0 (by decide +kernel) dB_told_55 dB_told_58 dB_told_59 dB_told_61 dB_told_64 hex (Nat.le_of_ble_eq_true rfl) (Nat.le_of_ble_eq_true rfl) (Nat.le_of_ble_eq_true rfl) (Nat.le_of_ble_eq_true rfl) hlocks (by omega) (by omega) ⟨rfl, Or.inr (Or.inl ⟨rfl, by unfold sTold; rw [zT_s ht, zA_s hk (by decide), if_neg (fun q => q.elim (fun q => by rw [← hg0] at q; exact absurd ((nI_ltI (by omega) (by omega)).mp q) (by omega)) (fun q => by rw [← hg0] at q; exact q ((nI_ltI (by omega) (by omega)).mpr hs2))), nI_clamp (by omega), ← hg0, he]; rfl⟩)⟩
          · refine z_aload (j := 0) X dB_told_41 rfl ?_
            refine z_getr (C := RG) (T := TG) (N := 9) (k := 3) X (w_in inG) rfl rfl (kd_G ht12) (by decide) (w_m lB_164) rfl rfl f3 dB_told_43 ?_
            refine z_iload_n (j := 3) X dB_told_46 rfl rfl ?_
            refine z_aald (t0 := 6) X (kd_GA (by omega)) (by decide) (by decide) (by decide) rfl (by omega) (by decide) (by rw [hent, he]; rfl) dB_told_47 ?_
            refine z_astore (L' := [(5, .ref (200 + 60 * t + o)), (4, .ref (60 + t)), (0, .ref 1), (1, .int (nI t)), (2, .int (nI o)), (3, .int (nI k))]) X dB_told_48 (by decide) rfl ?_
            refine z_aload (j := 0) X dB_told_50 rfl ?_
            refine z_ifnonnull (tgt := 65) X dB_told_52 (by decide) ?_
            refine z_iload_n (j := 5) X dB_told_65 rfl rfl ?_
            rcases (show k = 0 ∨ k = 1 ∨ k = 2 ∨ k = 3 ∨ k = 4 by omega) with e | e | e | e | e <;> subst e
            · refine z_tableIn (tgt := 96) X dB_told_66 (by decide) (by decide) rfl (by decide) ?_
              refine z_aload (j := 0) X dB_told_96 rfl ?_
              refine z_geti (C := RE) (T := TE) (N := 5) (k := 1) X (w_in inE) rfl rfl (kd_E ht12 (by omega)) (by decide) (w_m lB_173) rfl rfl dB_told_98 (hv := (hee o r he).2.2.1) ?_
              refine z_iret X hlocks hr dB_told_101 (by omega) (by omega) ?_
              exact ⟨rfl, _, rfl, by unfold sTold; rw [zT_s ht, zA_s hk (by decide), if_neg (fun q => q.elim (fun q => by rw [← hg0] at q; exact absurd ((nI_ltI (by omega) (by omega)).mp q) (by omega)) (fun q => by rw [← hg0] at q; exact q ((nI_ltI (by omega) (by omega)).mpr hs2))), nI_clamp (by omega), ← hg0, he]; rfl⟩
            · refine z_tableIn (tgt := 102) X dB_told_66 (by decide) (by decide) rfl (by decide) ?_
              refine z_aload (j := 0) X dB_told_102 rfl ?_
              refine z_geti (C := RE) (T := TE) (N := 5) (k := 2) X (w_in inE) rfl rfl (kd_E ht12 (by omega)) (by decide) (w_m lB_176) rfl rfl dB_told_104 (hv := (hee o r he).2.2.2.1) ?_
              refine z_iret X hlocks hr dB_told_107 (by omega) (by omega) ?_
              exact ⟨rfl, _, rfl, by unfold sTold; rw [zT_s ht, zA_s hk (by decide), if_neg (fun q => q.elim (fun q => by rw [← hg0] at q; exact absurd ((nI_ltI (by omega) (by omega)).mp q) (by omega)) (fun q => by rw [← hg0] at q; exact q ((nI_ltI (by omega) (by omega)).mpr hs2))), nI_clamp (by omega), ← hg0, he]; rfl⟩
            · refine z_tableIn (tgt := 108) X dB_told_66 (by decide) (by decide) rfl (by decide) ?_
              refine z_aload (j := 0) X dB_told_108 rfl ?_
              refine z_geti (C := RE) (T := TE) (N := 5) (k := 0) X (w_in inE) rfl rfl (kd_E ht12 (by omega)) (by decide) (w_m lB_179) rfl rfl dB_told_110 (hv := (hee o r he).2.1) ?_
              refine z_iret X hlocks hr dB_told_113 (by omega) (by omega) ?_
              exact ⟨rfl, _, rfl, by unfold sTold; rw [zT_s ht, zA_s hk (by decide), if_neg (fun q => q.elim (fun q => by rw [← hg0] at q; exact absurd ((nI_ltI (by omega) (by omega)).mp q) (by omega)) (fun q => by rw [← hg0] at q; exact q ((nI_ltI (by omega) (by omega)).mpr hs2))), nI_clamp (by omega), ← hg0, he]; rfl⟩
            · refine z_tableIn (tgt := 114) X dB_told_66 (by decide) (by decide) rfl (by decide) ?_
              refine z_aload (j := 0) X dB_told_114 rfl ?_
              refine z_geti (C := RE) (T := TE) (N := 5) (k := 3) X (w_in inE) rfl rfl (kd_E ht12 (by omega)) (by decide) (w_m lB_182) rfl rfl dB_told_116 (hv := (hee o r he).2.2.2.2.1) ?_
              refine z_iret X hlocks hr dB_told_119 (by omega) (by omega) ?_
              exact ⟨rfl, _, rfl, by unfold sTold; rw [zT_s ht, zA_s hk (by decide), if_neg (fun q => q.elim (fun q => by rw [← hg0] at q; exact absurd ((nI_ltI (by omega) (by omega)).mp q) (by omega)) (fun q => by rw [← hg0] at q; exact q ((nI_ltI (by omega) (by omega)).mpr hs2))), nI_clamp (by omega), ← hg0, he]; rfl⟩
            · refine z_tableOut (tgt := 120) X dB_told_66 (Or.inr (by decide)) (by decide) ?_
              refine z_aload (j := 0) X dB_told_120 rfl ?_
              refine z_geti (C := RE) (T := TE) (N := 5) (k := 4) X (w_in inE) rfl rfl (kd_E ht12 (by omega)) (by decide) (w_m lB_183) rfl rfl dB_told_122 (hv := (hee o r he).2.2.2.2.2) ?_
              refine z_iret X hlocks hr dB_told_125 (by omega) (by omega) ?_
              exact ⟨rfl, _, rfl, by unfold sTold; rw [zT_s ht, zA_s hk (by decide), if_neg (fun q => q.elim (fun q => by rw [← hg0] at q; exact absurd ((nI_ltI (by omega) (by omega)).mp q) (by omega)) (fun q => by rw [← hg0] at q; exact q ((nI_ltI (by omega) (by omega)).mpr hs2))), nI_clamp (by omega), ← hg0, he]; rfl⟩
        · exact z_thIOB (text := "the offset is out of the log") X hl0 (by decide +kernel) dB_told_31 dB_told_34 dB_told_35 dB_told_37 dB_told_40 hex (Nat.le_of_ble_eq_true rfl) (Nat.le_of_ble_eq_true rfl) (Nat.le_of_ble_eq_true rfl) (Nat.le_of_ble_eq_true rfl) hlocks (by omega) (by omega) ⟨rfl, Or.inr (Or.inr (⟨rfl, by unfold sTold; rw [zT_s ht, zA_s hk (by decide), if_pos (by rw [← hg0]; first | exact Or.inl c_19 | exact Or.inr c_28)]⟩))⟩
    · obtain ⟨hE, hS9, hn9⟩ := hx
      subst hE
      have hS9 := hS9.symm
      subst hS9
      exact z_out (fun x hx9 => (hex x hx9).elim) hlocks ⟨rfl, Or.inl ⟨rfl, by unfold sTold; rw [zT_s ht, zA_n hn9]⟩⟩ (by omega) (by omega)
  · obtain ⟨hE, hS9, hn9⟩ := hx
    subst hE
    have hS9 := hS9.symm
    subst hS9
    exact z_out (fun x hx9 => (hex x hx9).elim) hlocks ⟨rfl, Or.inl ⟨rfl, by unfold sTold; rw [zT_n hn9]⟩⟩ (by omega) (by omega)

set_option maxHeartbeats 600000 in
set_option maxRecDepth 100000 in
theorem mB_owner (l : Launch) (D : va_G) (dA : Nat → ClassId) {S : zS} {b : zBr} {x y : Int32} (hl0 : l.stackTraces = false) (hB : zBrA S b) (hW : zBrW b) : zMet l D vwCl zKK dA (zG0 D dA) yB_owner (Cond.code yB_owner cB_owner 3 (some .int) :: zTs) { frames := 7, cells := 8, slots := 48, locals := 104 } 8 48 [.ref 1, .int x, .int y] S (fun v S' => S' = S ∧ ∃ r, v = some (.int r) ∧ sOwner b x y = (0, r)) (fun E S' => S' = S ∧ ((E = "java/lang/IllegalArgumentException" ∧ sOwner b x y = (1, 0)) ∨ (E = "java/util/NoSuchElementException" ∧ sOwner b x y = (2, 0)))) := by
  refine z_met (tys := ztys dA) (by decide) rfl zG0_K rfl (Nat.le_of_ble_eq_true rfl) (fun p e s m args below meth c A ad X hr hlocks hin hex => ?_)
  obtain ⟨hT, hLg, hSs, hGs, hnx, hnf⟩ := id hB
  obtain ⟨v1, v2, v3, v4, v5, v6, v7⟩ := id hW
  obtain ⟨hn, t0, t1, t2, t3, t4, t5, q6, q7, q8, q9, q10, hpt, hlg, hse, hcu, hop, hgr⟩ := id hT
  refine z_iload_n (j := 1) X dB_owner_0 rfl rfl ?_
  refine z_iconst (v := (nI 0)) X dB_owner_1 (by decide) ?_
  refine z_iconst (v := (nI 1)) X dB_owner_2 (by decide) ?_
  refine z_callS (n := 3) (As := [.int x, .int (nI 0), .int (nI 1)]) (rest := []) X zG0_m (mB_mustBeWithin l D dA hl0) (w_S X.2.2.2.2.1 lB_45 tB_mustBeWithin i_LogBroker kB_mustBeWithin rfl rfl (by decide +kernel) ⟨Nat.le_of_ble_eq_true rfl, Nat.le_of_ble_eq_true rfl⟩) rfl rfl (Nat.le_of_ble_eq_true rfl) dB_owner_3 ⟨Nat.le_of_ble_eq_true rfl, Nat.le_of_ble_eq_true rfl⟩ (fun v S9 hp => ?_) (fun E S1 hx => ?_)
  · obtain ⟨hv, hS9, hr1, hr2⟩ := hp
    subst hv
    have hS9 := hS9.symm
    subst hS9
    obtain ⟨i, hx9, hi⟩ := zRg (n := 1) (by omega) hr1 hr2
    subst hx9
    refine z_aload_n (j := 0) X dB_owner_6 rfl rfl ?_
    refine z_iload_n (j := 2) X dB_owner_7 rfl rfl ?_
    refine z_callV (n := 1) (As := [.int y]) (rest := []) X zG0_m (mB_logAt l D dA (x := y) hl0 hT) (w_V X.2.2.2.2.1 lB_80 jB_logAt sB_logAt i_LogBroker kB_logAt rfl rfl (by decide +kernel) ⟨Nat.le_of_ble_eq_true rfl, Nat.le_of_ble_eq_true rfl⟩) rfl rfl rfl rfl rfl (Nat.le_of_ble_eq_true rfl) dB_owner_8 ⟨Nat.le_of_ble_eq_true rfl, Nat.le_of_ble_eq_true rfl⟩ (fun v S9 hp => ?_) (fun E S1 hx => ?_)
    · obtain ⟨hS9, t, ht, hx9, hv⟩ := hp
      subst hv
      have hS9 := hS9.symm
      subst hS9
      subst hx9
      obtain ⟨g, hg0⟩ : ∃ g, g = b.2.1 t := ⟨_, rfl⟩
      have hO : zLogA S t g := by rw [hg0]; exact hLg t ht
      have hWg : zLogW g := by rw [hg0]; exact v2 t ht
      have hV : ∀ o e, g.2.2 o = some e → zEW e := by rw [hg0]; exact v3 t ht
      obtain ⟨gd1, gd2, f0, f1, f2, f3, f4, f5, f6, f7, f8, hent, hee⟩ := id hO
      obtain ⟨w1, w2, w3, w4, w5, w6, w7, w8, w9⟩ := id hWg
      have wb := zBa_le g
      have wp : zPr g ≤ 60 := zcnt_le
      have ht12 := ht.1
      refine z_pop X dB_owner_11 rfl ?_
      refine z_aload_n (j := 0) X dB_owner_12 rfl rfl ?_
      refine z_getr (C := RB) (T := TB) (N := 11) (k := 5) X (w_in inB) rfl rfl rfl (by decide) (w_m lB_33) rfl rfl t5 dB_owner_13 ?_
      refine z_iload_n (j := 1) X dB_owner_16 rfl rfl ?_
      refine z_aald (t0 := 5) X rfl (by decide) (by decide) (by decide) rfl (by omega) (by decide) (hgr i (by omega)) dB_owner_17 ?_
      refine z_getr (C := RH) (T := TH) (N := 5) (k := 2) X (w_in inH) rfl rfl (kd_H (by omega)) (by decide) (w_m lB_209) rfl rfl (hGs i (by omega)).2.2.2.2.2.2.2.1 dB_owner_18 ?_
      refine z_iload_n (j := 2) X dB_owner_21 rfl rfl ?_
      refine z_iald (t0 := 0) X (kd_HO (by omega)) rfl (by omega) (by decide) dB_owner_22 (hv := ((hGs i (by omega)).2.2.2.2.2.2.2.2.2.2.2.1 t (by omega))) ?_
      refine z_callS (n := 1) (As := [.int ((b.2.2.2.2.2.1 i).2.2.1 t)]) (rest := []) X zG0_m (mB_found l D dA hl0) (w_S X.2.2.2.2.1 lB_160 tB_found i_LogBroker kB_found rfl rfl (by decide +kernel) ⟨Nat.le_of_ble_eq_true rfl, Nat.le_of_ble_eq_true rfl⟩) rfl rfl (Nat.le_of_ble_eq_true rfl) dB_owner_23 ⟨Nat.le_of_ble_eq_true rfl, Nat.le_of_ble_eq_true rfl⟩ (fun v S9 hp => ?_) (fun E S1 hx => ?_)
      · obtain ⟨hv, hS9, hnf⟩ := hp
        subst hv
        have hS9 := hS9.symm
        subst hS9
        refine z_iret X hlocks hr dB_owner_26 (by omega) (by omega) ?_
        exact ⟨rfl, _, rfl, by unfold sOwner; rw [zA_s hi (by decide), zT_s ht, if_neg hnf]⟩
      · obtain ⟨hE, hS9, hnf⟩ := hx
        subst hE
        have hS9 := hS9.symm
        subst hS9
        exact z_out (fun x hx9 => (hex x hx9).elim) hlocks ⟨rfl, Or.inr (⟨rfl, by unfold sOwner; rw [zA_s hi (by decide), zT_s ht, if_pos hnf]⟩)⟩ (by omega) (by omega)
    · obtain ⟨hE, hS9, hn9⟩ := hx
      subst hE
      have hS9 := hS9.symm
      subst hS9
      exact z_out (fun x hx9 => (hex x hx9).elim) hlocks ⟨rfl, Or.inl ⟨rfl, by unfold sOwner; rw [zA_s hi (by decide), zT_n hn9]⟩⟩ (by omega) (by omega)
  · obtain ⟨hE, hS9, hn9⟩ := hx
    subst hE
    have hS9 := hS9.symm
    subst hS9
    exact z_out (fun x hx9 => (hex x hx9).elim) hlocks ⟨rfl, Or.inl ⟨rfl, by unfold sOwner; rw [zA_n hn9]⟩⟩ (by omega) (by omega)

set_option maxHeartbeats 600000 in
set_option maxRecDepth 100000 in
theorem mB_log (l : Launch) (D : va_G) (dA : Nat → ClassId) {S : zS} {b : zBr} {x w : Int32} (hl0 : l.stackTraces = false) (hB : zBrA S b) (hW : zBrW b) : zMet l D vwCl zKK dA (zG0 D dA) yB_log (Cond.code yB_log cB_log 4 (some .int) :: zTs) { frames := 7, cells := 8, slots := 48, locals := 104 } 8 48 [.ref 1, .int x, .int w] S (fun v S' => S' = S ∧ ∃ r, v = some (.int r) ∧ sLog b x w = (0, r)) (fun E S' => S' = S ∧ (E = "java/lang/IllegalArgumentException" ∧ sLog b x w = (1, 0))) := by
  refine z_met (tys := ztys dA) (by decide) rfl zG0_K rfl (Nat.le_of_ble_eq_true rfl) (fun p e s m args below meth c A ad X hr hlocks hin hex => ?_)
  obtain ⟨hT, hLg, hSs, hGs, hnx, hnf⟩ := id hB
  obtain ⟨v1, v2, v3, v4, v5, v6, v7⟩ := id hW
  obtain ⟨hn, t0, t1, t2, t3, t4, t5, q6, q7, q8, q9, q10, hpt, hlg, hse, hcu, hop, hgr⟩ := id hT
  refine z_aload_n (j := 0) X dB_log_0 rfl rfl ?_
  refine z_iload_n (j := 1) X dB_log_1 rfl rfl ?_
  refine z_callV (n := 1) (As := [.int x]) (rest := []) X zG0_m (mB_logAt l D dA (x := x) hl0 hT) (w_V X.2.2.2.2.1 lB_80 jB_logAt sB_logAt i_LogBroker kB_logAt rfl rfl (by decide +kernel) ⟨Nat.le_of_ble_eq_true rfl, Nat.le_of_ble_eq_true rfl⟩) rfl rfl rfl rfl rfl (Nat.le_of_ble_eq_true rfl) dB_log_2 ⟨Nat.le_of_ble_eq_true rfl, Nat.le_of_ble_eq_true rfl⟩ (fun v S9 hp => ?_) (fun E S1 hx => ?_)
  · obtain ⟨hS9, t, ht, hx9, hv⟩ := hp
    subst hv
    have hS9 := hS9.symm
    subst hS9
    subst hx9
    obtain ⟨g, hg0⟩ : ∃ g, g = b.2.1 t := ⟨_, rfl⟩
    have hO : zLogA S t g := by rw [hg0]; exact hLg t ht
    have hWg : zLogW g := by rw [hg0]; exact v2 t ht
    have hV : ∀ o e, g.2.2 o = some e → zEW e := by rw [hg0]; exact v3 t ht
    obtain ⟨gd1, gd2, f0, f1, f2, f3, f4, f5, f6, f7, f8, hent, hee⟩ := id hO
    obtain ⟨w1, w2, w3, w4, w5, w6, w7, w8, w9⟩ := id hWg
    have wb := zBa_le g
    have wp : zPr g ≤ 60 := zcnt_le
    have ht12 := ht.1
    refine z_astore_n (L' := [(3, .ref (60 + t)), (0, .ref 1), (1, .int (nI t)), (2, .int w)]) X dB_log_5 rfl (by decide) rfl ?_
    refine z_iload_n (j := 3) X dB_log_6 rfl rfl ?_
    refine z_iconst (v := (nI 0)) X dB_log_7 (by decide) ?_
    refine z_bipush (v := (nI 8)) X dB_log_8 (by decide) ?_
    refine z_callS (n := 3) (As := [.int w, .int (nI 0), .int (nI 8)]) (rest := []) X zG0_m (mB_mustBeWithin l D dA hl0) (w_S X.2.2.2.2.1 lB_45 tB_mustBeWithin i_LogBroker kB_mustBeWithin rfl rfl (by decide +kernel) ⟨Nat.le_of_ble_eq_true rfl, Nat.le_of_ble_eq_true rfl⟩) rfl rfl (Nat.le_of_ble_eq_true rfl) dB_log_10 ⟨Nat.le_of_ble_eq_true rfl, Nat.le_of_ble_eq_true rfl⟩ (fun v S9 hp => ?_) (fun E S1 hx => ?_)
    · obtain ⟨hv, hS9, hr1, hr2⟩ := hp
      subst hv
      have hS9 := hS9.symm
      subst hS9
      obtain ⟨k, hx9, hk⟩ := zRg (n := 8) (by omega) hr1 hr2
      subst hx9
      refine z_iload_n (j := 3) X dB_log_13 rfl rfl ?_
      rcases (show k = 0 ∨ k = 1 ∨ k = 2 ∨ k = 3 ∨ k = 4 ∨ k = 5 ∨ k = 6 ∨ k = 7 ∨ k = 8 by omega) with e | e | e | e | e | e | e | e | e <;> subst e
      · refine z_tableIn (tgt := 60) X dB_log_14 (by decide) (by decide) rfl (by decide) ?_
        refine z_aload_n (j := 0) X dB_log_60 rfl rfl ?_
        refine z_geti (C := RG) (T := TG) (N := 9) (k := 4) X (w_in inG) rfl rfl (kd_G ht12) (by decide) (w_m lB_145) rfl rfl dB_log_61 (hv := f4) ?_
        refine z_iret X hlocks hr dB_log_64 (by omega) (by omega) ?_
        exact ⟨rfl, _, rfl, by rw [sLog_v ht (by decide), sLogV_0, ← hg0]⟩
      · refine z_tableIn (tgt := 65) X dB_log_14 (by decide) (by decide) rfl (by decide) ?_
        refine z_aload_n (j := 0) X dB_log_65 rfl rfl ?_
        refine z_geti (C := RG) (T := TG) (N := 9) (k := 5) X (w_in inG) rfl rfl (kd_G ht12) (by decide) (w_m lB_148) rfl rfl dB_log_66 (hv := f5) ?_
        refine z_iret X hlocks hr dB_log_69 (by omega) (by omega) ?_
        exact ⟨rfl, _, rfl, by rw [sLog_v ht (by decide), sLogV_1, ← hg0]⟩
      · refine z_tableIn (tgt := 70) X dB_log_14 (by decide) (by decide) rfl (by decide) ?_
        refine z_aload_n (j := 0) X dB_log_70 rfl rfl ?_
        refine z_callV (n := 0) (As := []) (rest := []) X zG0_m (mG_stableOffset l D dA ht12 hO hWg) (w_V X.2.2.2.2.1 lB_227 jG_stableOffset sG_stableOffset i_LogBroker_Log kG_stableOffset rfl rfl (by decide +kernel) ⟨Nat.le_of_ble_eq_true rfl, Nat.le_of_ble_eq_true rfl⟩) (kd_G ht12) rfl rfl rfl rfl (Nat.le_of_ble_eq_true rfl) dB_log_71 ⟨Nat.le_of_ble_eq_true rfl, Nat.le_of_ble_eq_true rfl⟩ (fun v S9 hp => ?_) (fun E S1 hx => hx.elim)
        obtain ⟨hv, hS9⟩ := hp
        subst hv
        have hS9 := hS9.symm
        subst hS9
        refine z_iret X hlocks hr dB_log_74 (by omega) (by omega) ?_
        exact ⟨rfl, _, rfl, by rw [sLog_v ht (by decide), sLogV_2, ← hg0]⟩
      · refine z_tableIn (tgt := 75) X dB_log_14 (by decide) (by decide) rfl (by decide) ?_
        refine z_aload_n (j := 0) X dB_log_75 rfl rfl ?_
        refine z_geti (C := RG) (T := TG) (N := 9) (k := 8) X (w_in inG) rfl rfl (kd_G ht12) (by decide) (w_m lB_230) rfl rfl dB_log_76 (hv := f8) ?_
        refine z_iret X hlocks hr dB_log_79 (by omega) (by omega) ?_
        exact ⟨rfl, _, rfl, by rw [sLog_v ht (by decide), sLogV_3, ← hg0]⟩
      · refine z_tableIn (tgt := 80) X dB_log_14 (by decide) (by decide) rfl (by decide) ?_
        refine z_aload_n (j := 0) X dB_log_80 rfl rfl ?_
        refine z_geti (C := RG) (T := TG) (N := 9) (k := 7) X (w_in inG) rfl rfl (kd_G ht12) (by decide) (w_m lB_233) rfl rfl dB_log_81 (hv := f7) ?_
        refine z_iret X hlocks hr dB_log_84 (by omega) (by omega) ?_
        exact ⟨rfl, _, rfl, by rw [sLog_v ht (by decide), sLogV_4, ← hg0]⟩
      · refine z_tableIn (tgt := 85) X dB_log_14 (by decide) (by decide) rfl (by decide) ?_
        refine z_aload_n (j := 1) X dB_log_85 rfl rfl ?_
        refine z_getr (C := RB) (T := TB) (N := 11) (k := 5) X (w_in inB) rfl rfl rfl (by decide) (w_m lB_33) rfl rfl t5 dB_log_86 ?_
        refine z_iconst (v := (nI 0)) X dB_log_89 (by decide) ?_
        refine z_aald (t0 := 5) X rfl (by decide) (by decide) (by decide) rfl (by decide) (by decide) (hgr 0 (by decide)) dB_log_90 ?_
        refine z_getr (C := RH) (T := TH) (N := 5) (k := 3) X (w_in inH) rfl rfl rfl (by decide) (w_m lB_216) rfl rfl (hGs 0 (by decide)).2.2.2.2.2.2.2.2.1 dB_log_91 ?_
        refine z_iload_n (j := 2) X dB_log_94 rfl rfl ?_
        refine z_iald (t0 := 0) X rfl rfl (by omega) (by decide) dB_log_95 (hv := ((hGs 0 (by decide)).2.2.2.2.2.2.2.2.2.2.2.2.1 t (by omega))) ?_
        refine z_iret X hlocks hr dB_log_96 (by omega) (by omega) ?_
        exact ⟨rfl, _, rfl, by rw [sLog_v ht (by decide), sLogV_5]⟩
      · refine z_tableIn (tgt := 97) X dB_log_14 (by decide) (by decide) rfl (by decide) ?_
        refine z_aload_n (j := 1) X dB_log_97 rfl rfl ?_
        refine z_getr (C := RB) (T := TB) (N := 11) (k := 5) X (w_in inB) rfl rfl rfl (by decide) (w_m lB_33) rfl rfl t5 dB_log_98 ?_
        refine z_iconst (v := (nI 1)) X dB_log_101 (by decide) ?_
        refine z_aald (t0 := 5) X rfl (by decide) (by decide) (by decide) rfl (by decide) (by decide) (hgr 1 (by decide)) dB_log_102 ?_
        refine z_getr (C := RH) (T := TH) (N := 5) (k := 3) X (w_in inH) rfl rfl rfl (by decide) (w_m lB_216) rfl rfl (hGs 1 (by decide)).2.2.2.2.2.2.2.2.1 dB_log_103 ?_
        refine z_iload_n (j := 2) X dB_log_106 rfl rfl ?_
        refine z_iald (t0 := 0) X rfl rfl (by omega) (by decide) dB_log_107 (hv := ((hGs 1 (by decide)).2.2.2.2.2.2.2.2.2.2.2.2.1 t (by omega))) ?_
        refine z_iret X hlocks hr dB_log_108 (by omega) (by omega) ?_
        exact ⟨rfl, _, rfl, by rw [sLog_v ht (by decide), sLogV_6]⟩
      · refine z_tableIn (tgt := 109) X dB_log_14 (by decide) (by decide) rfl (by decide) ?_
        refine z_aload_n (j := 1) X dB_log_109 rfl rfl ?_
        refine z_getr (C := RB) (T := TB) (N := 11) (k := 5) X (w_in inB) rfl rfl rfl (by decide) (w_m lB_33) rfl rfl t5 dB_log_110 ?_
        refine z_iconst (v := (nI 0)) X dB_log_113 (by decide) ?_
        refine z_aald (t0 := 5) X rfl (by decide) (by decide) (by decide) rfl (by decide) (by decide) (hgr 0 (by decide)) dB_log_114 ?_
        refine z_getr (C := RH) (T := TH) (N := 5) (k := 4) X (w_in inH) rfl rfl rfl (by decide) (w_m lB_224) rfl rfl (hGs 0 (by decide)).2.2.2.2.2.2.2.2.2.1 dB_log_115 ?_
        refine z_iload_n (j := 2) X dB_log_118 rfl rfl ?_
        refine z_iald (t0 := 0) X rfl rfl (by omega) (by decide) dB_log_119 (hv := ((hGs 0 (by decide)).2.2.2.2.2.2.2.2.2.2.2.2.2 t (by omega))) ?_
        refine z_iret X hlocks hr dB_log_120 (by omega) (by omega) ?_
        exact ⟨rfl, _, rfl, by rw [sLog_v ht (by decide), sLogV_7]⟩
      · refine z_tableOut (tgt := 121) X dB_log_14 (Or.inr (by decide)) (by decide) ?_
        refine z_aload_n (j := 1) X dB_log_121 rfl rfl ?_
        refine z_getr (C := RB) (T := TB) (N := 11) (k := 5) X (w_in inB) rfl rfl rfl (by decide) (w_m lB_33) rfl rfl t5 dB_log_122 ?_
        refine z_iconst (v := (nI 1)) X dB_log_125 (by decide) ?_
        refine z_aald (t0 := 5) X rfl (by decide) (by decide) (by decide) rfl (by decide) (by decide) (hgr 1 (by decide)) dB_log_126 ?_
        refine z_getr (C := RH) (T := TH) (N := 5) (k := 4) X (w_in inH) rfl rfl rfl (by decide) (w_m lB_224) rfl rfl (hGs 1 (by decide)).2.2.2.2.2.2.2.2.2.1 dB_log_127 ?_
        refine z_iload_n (j := 2) X dB_log_130 rfl rfl ?_
        refine z_iald (t0 := 0) X rfl rfl (by omega) (by decide) dB_log_131 (hv := ((hGs 1 (by decide)).2.2.2.2.2.2.2.2.2.2.2.2.2 t (by omega))) ?_
        refine z_iret X hlocks hr dB_log_132 (by omega) (by omega) ?_
        exact ⟨rfl, _, rfl, by rw [sLog_v ht (by decide), sLogV_8]⟩
    · obtain ⟨hE, hS9, hn9⟩ := hx
      subst hE
      have hS9 := hS9.symm
      subst hS9
      exact z_out (fun x hx9 => (hex x hx9).elim) hlocks ⟨rfl, rfl, by unfold sLog; rw [zT_s ht, zA_n hn9]⟩ (by omega) (by omega)
  · obtain ⟨hE, hS9, hn9⟩ := hx
    subst hE
    have hS9 := hS9.symm
    subst hS9
    exact z_out (fun x hx9 => (hex x hx9).elim) hlocks ⟨rfl, rfl, by unfold sLog; rw [zT_n hn9]⟩ (by omega) (by omega)

theorem zcount_out {b : zBr} {x : Int32} (h : x < 0 ∨ nI 8 ≤ x) : sCount b x = -1 := by
  have hk : ∀ k, k < 8 → ¬ x = nI k := fun k hk e => by
    subst e
    rcases h with h | h
    · exact nI_pos (by omega) h
    · exact absurd ((nI_leI (by decide) (by omega)).mp h) (by omega)
  unfold sCount
  rw [if_neg (hk 0 (by decide)), if_neg (hk 1 (by decide)), if_neg (hk 2 (by decide)), if_neg (hk 3 (by decide)), if_neg (hk 4 (by decide)), if_neg (hk 5 (by decide)), if_neg (hk 6 (by decide)), if_neg (hk 7 (by decide))]
set_option maxHeartbeats 600000 in
set_option maxRecDepth 100000 in
theorem mB_count (l : Launch) (D : va_G) (dA : Nat → ClassId) {S : zS} {b : zBr} {x : Int32} (hB : zBrA S b) (hW : zBrW b) : zMet l D vwCl zKK dA (zG0 D dA) yB_count (Cond.code yB_count cB_count 2 (some .int) :: zTs) { frames := 1, cells := 0, slots := 0, locals := 22 } 0 0 [.ref 1, .int x] S (fun v S' => S' = S ∧ v = some (.int (sCount b x))) (fun _ _ => False) := by
  refine z_met (tys := ztys dA) (by decide) rfl zG0_K rfl (Nat.le_of_ble_eq_true rfl) (fun p e s m args below meth c A ad X hr hlocks hin hex => ?_)
  obtain ⟨hT, hLg, hSs, hGs, hnx, hnf⟩ := id hB
  obtain ⟨v1, v2, v3, v4, v5, v6, v7⟩ := id hW
  obtain ⟨hn, t0, t1, t2, t3, t4, t5, q6, q7, q8, q9, q10, hpt, hlg, hse, hcu, hop, hgr⟩ := id hT
  refine z_iload_n (j := 1) X dB_count_0 rfl rfl ?_
  rcases pk_ix x (n := 8) (by decide) with h | h | ⟨k, hk, rfl⟩
  · have hout : sCount b x = -1 := zcount_out (Or.inl h)
    refine z_tableOut (tgt := 98) X dB_count_1 (Or.inl (by rw [Int32.lt_iff_toInt_lt, Int32.toInt_zero] at h; omega)) (by decide) ?_
    refine z_iconst (v := (-1)) X dB_count_98 (by decide) ?_
    refine z_iret X hlocks hr dB_count_99 (by omega) (by omega) ?_
    exact ⟨rfl, by rw [hout]⟩
  · have hout : sCount b x = -1 := zcount_out (Or.inr h)
    refine z_tableOut (tgt := 98) X dB_count_1 (Or.inr (by rw [Int32.le_iff_toInt_le, nI_toInt (by decide)] at h; omega)) (by decide) ?_
    refine z_iconst (v := (-1)) X dB_count_98 (by decide) ?_
    refine z_iret X hlocks hr dB_count_99 (by omega) (by omega) ?_
    exact ⟨rfl, by rw [hout]⟩
  · rcases (show k = 0 ∨ k = 1 ∨ k = 2 ∨ k = 3 ∨ k = 4 ∨ k = 5 ∨ k = 6 ∨ k = 7 by omega) with e | e | e | e | e | e | e | e <;> subst e
    · refine z_tableIn (tgt := 48) X dB_count_1 (by decide) (by decide) rfl (by decide) ?_
      refine z_aload_n (j := 0) X dB_count_48 rfl rfl ?_
      refine z_geti (C := RB) (T := TB) (N := 11) (k := 6) X (w_in inB) rfl rfl rfl (by decide) (w_m lB_236) rfl rfl dB_count_49 (hv := q6) ?_
      refine z_iret X hlocks hr dB_count_52 (by omega) (by omega) ?_
      exact ⟨rfl, rfl⟩
    · refine z_tableIn (tgt := 53) X dB_count_1 (by decide) (by decide) rfl (by decide) ?_
      refine z_aload_n (j := 0) X dB_count_53 rfl rfl ?_
      refine z_geti (C := RB) (T := TB) (N := 11) (k := 7) X (w_in inB) rfl rfl rfl (by decide) (w_m lB_105) rfl rfl dB_count_54 (hv := q7) ?_
      refine z_iret X hlocks hr dB_count_57 (by omega) (by omega) ?_
      exact ⟨rfl, rfl⟩
    · refine z_tableIn (tgt := 58) X dB_count_1 (by decide) (by decide) rfl (by decide) ?_
      refine z_aload_n (j := 0) X dB_count_58 rfl rfl ?_
      refine z_geti (C := RB) (T := TB) (N := 11) (k := 8) X (w_in inB) rfl rfl rfl (by decide) (w_m lB_239) rfl rfl dB_count_59 (hv := q8) ?_
      refine z_iret X hlocks hr dB_count_62 (by omega) (by omega) ?_
      exact ⟨rfl, rfl⟩
    · refine z_tableIn (tgt := 63) X dB_count_1 (by decide) (by decide) rfl (by decide) ?_
      refine z_aload_n (j := 0) X dB_count_63 rfl rfl ?_
      refine z_geti (C := RB) (T := TB) (N := 11) (k := 9) X (w_in inB) rfl rfl rfl (by decide) (w_m lB_242) rfl rfl dB_count_64 (hv := q9) ?_
      refine z_iret X hlocks hr dB_count_67 (by omega) (by omega) ?_
      exact ⟨rfl, rfl⟩
    · refine z_tableIn (tgt := 68) X dB_count_1 (by decide) (by decide) rfl (by decide) ?_
      refine z_aload_n (j := 0) X dB_count_68 rfl rfl ?_
      refine z_geti (C := RB) (T := TB) (N := 11) (k := 10) X (w_in inB) rfl rfl rfl (by decide) (w_m lB_195) rfl rfl dB_count_69 (hv := q10) ?_
      refine z_iret X hlocks hr dB_count_72 (by omega) (by omega) ?_
      exact ⟨rfl, rfl⟩
    · refine z_tableIn (tgt := 73) X dB_count_1 (by decide) (by decide) rfl (by decide) ?_
      refine z_aload_n (j := 0) X dB_count_73 rfl rfl ?_
      refine z_callV (n := 0) (As := []) (rest := []) X zG0_m (mB_openTransactions l D dA hB hW) (w_V X.2.2.2.2.1 lB_245 jB_openTransactions sB_openTransactions i_LogBroker kB_openTransactions rfl rfl (by decide +kernel) ⟨Nat.le_of_ble_eq_true rfl, Nat.le_of_ble_eq_true rfl⟩) rfl rfl rfl rfl rfl (Nat.le_of_ble_eq_true rfl) dB_count_74 ⟨Nat.le_of_ble_eq_true rfl, Nat.le_of_ble_eq_true rfl⟩ (fun v S9 hp => ?_) (fun E S1 hx => hx.elim)
      obtain ⟨hS9, hv⟩ := hp
      subst hv
      have hS9 := hS9.symm
      subst hS9
      refine z_iret X hlocks hr dB_count_77 (by omega) (by omega) ?_
      exact ⟨rfl, rfl⟩
    · refine z_tableIn (tgt := 78) X dB_count_1 (by decide) (by decide) rfl (by decide) ?_
      refine z_aload_n (j := 0) X dB_count_78 rfl rfl ?_
      refine z_getr (C := RB) (T := TB) (N := 11) (k := 5) X (w_in inB) rfl rfl rfl (by decide) (w_m lB_33) rfl rfl t5 dB_count_79 ?_
      refine z_iconst (v := (nI 0)) X dB_count_82 (by decide) ?_
      refine z_aald (t0 := 5) X rfl (by decide) (by decide) (by decide) rfl (by decide) (by decide) (hgr 0 (by decide)) dB_count_83 ?_
      refine z_geti (C := RH) (T := TH) (N := 5) (k := 0) X (w_in inH) rfl rfl rfl (by decide) (w_m lB_248) rfl rfl dB_count_84 (hv := (hGs 0 (by decide)).2.2.2.2.2.1) ?_
      refine z_iret X hlocks hr dB_count_87 (by omega) (by omega) ?_
      exact ⟨rfl, rfl⟩
    · refine z_tableIn (tgt := 88) X dB_count_1 (by decide) (by decide) rfl (by decide) ?_
      refine z_aload_n (j := 0) X dB_count_88 rfl rfl ?_
      refine z_getr (C := RB) (T := TB) (N := 11) (k := 5) X (w_in inB) rfl rfl rfl (by decide) (w_m lB_33) rfl rfl t5 dB_count_89 ?_
      refine z_iconst (v := (nI 1)) X dB_count_92 (by decide) ?_
      refine z_aald (t0 := 5) X rfl (by decide) (by decide) (by decide) rfl (by decide) (by decide) (hgr 1 (by decide)) dB_count_93 ?_
      refine z_geti (C := RH) (T := TH) (N := 5) (k := 0) X (w_in inH) rfl rfl rfl (by decide) (w_m lB_248) rfl rfl dB_count_94 (hv := (hGs 1 (by decide)).2.2.2.2.2.1) ?_
      refine z_iret X hlocks hr dB_count_97 (by omega) (by omega) ?_
      exact ⟨rfl, rfl⟩
