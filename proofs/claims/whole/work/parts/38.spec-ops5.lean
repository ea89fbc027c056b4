/-! a partition more -/
theorem zEx_T {b : zBr} {t n z k : Nat} {c : Int32} {v : Nat} : zEx (bT b t n z k c) v ↔ v < 12 ∧ v % 4 < (if v / 4 = t then n else b.1 (v / 4)) := Iff.rfl
theorem zcnt_0 {p : Nat → Bool} (h : ∀ j, p j = false) : ∀ k o, zcnt p k o = 0
  | 0, _ => rfl
  | k + 1, o => by
    show (if p o = true then 1 else 0) + zcnt p k (o + 1) = 0
    rw [h o, zcnt_0 h k (o + 1)]; rfl
/-- the log newly made -/
theorem zLogA_new {S S2 : zS} {u z k : Nat} {cm : Int32} (h1 : S.1 (60 + u) = false) (h2 : S.1 (80 + u) = false) (hz : ∀ n, S.1 n = false → ∀ k, S.2.1 n k = 0 ∧ S.2.2.1 n k = none ∧ S.2.2.2 n k = 0)
    (hS2 : S2 = zsp (zsi (zsi (zsi (zsp (zadd (zadd S (60 + u)) (80 + u)) (60 + u) 3 (some (80 + u))) (60 + u) 0 (nI z)) (60 + u) 1 (nI k)) (60 + u) 2 cm) 3 u (some (60 + u))) : zLogA S2 u ((z, k, cm), (0, 0), fun _ => none) := by
  have hb : zBa ((z, k, cm), (0, 0), fun _ => none) = 0 := by unfold zBa; show 0 / z * z = 0; rw [Nat.zero_div, Nat.zero_mul]
  have hc : zCl ((z, k, cm), (0, 0), fun _ => none) = 0 := by unfold zCl; rw [hb]; show (0 - 0) / z = 0; rw [Nat.sub_zero, Nat.zero_div]
  have hpr : zPr ((z, k, cm), (0, 0), fun _ => none) = 0 := zcnt_0 (fun _ => rfl) 60 0
  have i0 : ∀ j, 3 ≤ j → S2.2.1 (60 + u) j = nI 0 := fun j hj => by
    rw [hS2]
    exact rd_ip (rd_i (Or.inr (by omega)) (rd_i (Or.inr (by omega)) (rd_i (Or.inr (by omega)) (rd_ip ((hz _ h1 j).1.trans nI_0.symm)))))
  have p0 : ∀ o, S2.2.2.1 (80 + u) o = none := fun o => by
    rw [hS2]
    exact rp_p (Or.inl (by omega)) (rp_i (rp_i (rp_i (rp_p (Or.inl (by omega)) (hz _ h2 o).2.1))))
  refine ⟨?_, ?_, ?_, ?_, ?_, ?_, i0 4 (by omega), i0 5 (by omega), by rw [hb]; exact i0 6 (by omega), by rw [hc]; exact i0 7 (by omega), by rw [hpr]; exact i0 8 (by omega), p0, fun o e he => by cases he⟩
  · rw [hS2]; exact zadd_t zadd_s
  · rw [hS2]; exact zadd_s
  · rw [hS2]; exact rd_ip (rd_i (Or.inr (by decide)) (rd_i (Or.inr (by decide)) rd_s))
  · rw [hS2]; exact rd_ip (rd_i (Or.inr (by decide)) rd_s)
  · rw [hS2]; exact rd_ip rd_s
  · rw [hS2]; exact rp_p (Or.inl (by omega)) (rp_i (rp_i (rp_i rp_s)))
theorem zBrA_tp {S1 S2 : zS} {b : zBr} {t j z k : Nat} {cm : Int32} (hB : zBrA (zsi S1 2 t (nI j)) (bT b t j z k cm)) (hL : ∀ v, zEx (bT b t j z k cm) v → zLogW ((bT b t j z k cm).2.1 v)) (ht : t < 3) (hj : j < 3) (hz : ∀ n, S1.1 n = false → ∀ k, S1.2.1 n k = 0 ∧ S1.2.2.1 n k = none ∧ S1.2.2.2 n k = 0)
    (hS2 : S2 = zsp (zsi (zsi (zsi (zsp (zadd (zadd S1 (60 + (t * 4 + j))) (80 + (t * 4 + j))) (60 + (t * 4 + j)) 3 (some (80 + (t * 4 + j)))) (60 + (t * 4 + j)) 0 (nI z)) (60 + (t * 4 + j)) 1 (nI k)) (60 + (t * 4 + j)) 2 cm) 3 (t * 4 + j) (some (60 + (t * 4 + j)))) :
    zBrA (zsi S2 2 t (nI (j + 1))) (bT b t (j + 1) z k cm) ∧ zfr zOwnB S1 S2 := by
  obtain ⟨⟨hn, t0, t1, t2, t3, t4, t5, q6, q7, q8, q9, q10, hpt, hlg, hse, hcu, hop, hgr⟩, hLg, hSs, hGs, hnx, hnf⟩ := hB
  obtain ⟨u, hu⟩ : ∃ u, u = t * 4 + j := ⟨_, rfl⟩
  rw [← hu] at hS2
  have hux : ¬ zEx (bT b t j z k cm) u := fun h => by
    have h2 := (zEx_T.mp h).2
    rw [if_pos (by omega)] at h2; omega
  obtain ⟨n1, n2, n3⟩ := hnx u (by omega) hux
  have n1' : S1.1 (60 + u) = false := n1
  have n2' : S1.1 (80 + u) = false := n2
  have hnew := zLogA_new (u := u) n1' n2' hz hS2
  have hex : ∀ v, zEx (bT b t (j + 1) z k cm) v ↔ zEx (bT b t j z k cm) v ∨ v = u := fun v => by
    rw [zEx_T, zEx_T]
    by_cases h9 : v / 4 = t
    · rw [if_pos h9, if_pos h9]; omega
    · rw [if_neg h9, if_neg h9]
      constructor
      · intro h; exact Or.inl h
      · rintro (h | h)
        · exact h
        · omega
  have hlo : ∀ v, v ≠ u → (bT b t (j + 1) z k cm).2.1 v = (bT b t j z k cm).2.1 v := fun v hv => by
    show (if v / 4 = t ∧ v % 4 < j + 1 then _ else b.2.1 v) = (if v / 4 = t ∧ v % 4 < j then _ else b.2.1 v)
    by_cases h9 : v / 4 = t ∧ v % 4 < j
    · rw [if_pos h9, if_pos ⟨h9.1, by omega⟩]
    · rw [if_neg h9, if_neg (by omega)]
  have hlu : (bT b t (j + 1) z k cm).2.1 u = ((z, k, cm), (0, 0), fun _ => none) := if_pos ⟨by omega, by omega⟩
  have hf2 : zfr (fun n => n = 3 ∨ n = 60 + u ∨ n = 80 + u) S1 S2 := by
    rw [hS2]
    exact (((((zfr.tr (S2 := zadd S1 (60 + u)) ⟨fun q hq => zadd_n (by omega), fun q hq => ⟨rfl, rfl, rfl⟩⟩ (zfr.tr (S2 := zadd (zadd S1 (60 + u)) (80 + u)) ⟨fun q hq => zadd_n (by omega), fun q hq => ⟨rfl, rfl, rfl⟩⟩ (zfr.p (Or.inr (Or.inl rfl))))).tr (zfr.i (Or.inr (Or.inl rfl)))).tr (zfr.i (Or.inr (Or.inl rfl)))).tr (zfr.i (Or.inr (Or.inl rfl))))).tr (zfr.p (Or.inl rfl))
  have hag : ∀ n, n ≠ 2 → n ≠ 3 → n ≠ 60 + u → n ≠ 80 + u → zAg (zsi S1 2 t (nI j)) (zsi S2 2 t (nI (j + 1))) n := fun n h1 h2 h3 h4 => by
    have a := hf2.ag (n := n) (by omega)
    exact ⟨a.1, (z2_o h1).symm.trans (a.2.1.trans (z2_o h1)), a.2.2⟩
  refine ⟨⟨?_, fun v hv => ?_, fun i hi => ?_, fun i hi => ?_, fun v h12 hv => ?_, fun v hv o ho he => ?_⟩, hf2.ownB (fun n h => by omega)⟩
  · have a1 := hag 1 (by decide) (by decide) (by omega) (by omega)
    refine ⟨fun n h1 h2 => ?_, a1.p t0, a1.p t1, a1.p t2, a1.p t3, a1.p t4, a1.p t5, a1.i q6, a1.i q7, a1.i q8, a1.i q9, a1.i q10, fun v hv => ?_, fun v hv => ?_, fun v hv => (hag 4 (by decide) (by decide) (by omega) (by omega)).p (hse v hv), fun v hv => (hag 5 (by decide) (by decide) (by omega) (by omega)).i (hcu v hv), fun v hv => (hag 6 (by decide) (by decide) (by omega) (by omega)).i (hop v hv), fun v hv => (hag 7 (by decide) (by decide) (by omega) (by omega)).p (hgr v hv)⟩
    · show S2.1 n = true
      have h3 : S1.1 n = true := hn n h1 h2
      rw [hS2]
      exact zadd_t (zadd_t h3)
    · show z2 S2.2.1 2 t (nI (j + 1)) 2 v = nI (if v = t then j + 1 else b.1 v)
      by_cases h9 : v = t
      · subst h9; rw [if_pos rfl, z2_s]
      · rw [if_neg h9, z2_n (Or.inr h9)]
        have h8 : z2 S1.2.1 2 t (nI j) 2 v = nI (if v = t then j else b.1 v) := hpt v hv
        rw [if_neg h9, z2_n (Or.inr h9)] at h8
        rw [(hf2.2 2 (by omega)).1]; exact h8
    · show S2.2.2.1 3 v = if v % 4 < (if v / 4 = t then j + 1 else b.1 (v / 4)) then some (60 + v) else none
      have h8 : S1.2.2.1 3 v = if v % 4 < (if v / 4 = t then j else b.1 (v / 4)) then some (60 + v) else none := hlg v hv
      by_cases h9 : v = u
      · subst h9
        rw [if_pos (show v / 4 = t by omega), if_pos (show v % 4 < j + 1 by omega), hS2]; exact rp_s
      · have h7 : S2.2.2.1 3 v = S1.2.2.1 3 v := by
          rw [hS2]
          exact rp_p (Or.inr h9) (rp_i (rp_i (rp_i (rp_p (Or.inl (by omega)) rfl))))
        rw [h7, h8]
        by_cases h6 : v / 4 = t
        · rw [if_pos h6, if_pos h6]
          by_cases h5 : v % 4 < j
          · rw [if_pos h5, if_pos (by omega)]
          · rw [if_neg h5, if_neg (by omega)]
        · rw [if_neg h6, if_neg h6]
  · by_cases h9 : v = u
    · subst h9
      rw [hlu]
      obtain ⟨h1, h2, f0, f1, f2, f3, f4, f5, f6, f7, f8, hent, hee⟩ := hnew
      have r : ∀ {k : Nat} {x : Int32}, S2.2.1 (60 + v) k = x → (zsi S2 2 t (nI (j + 1))).2.1 (60 + v) k = x := fun h => rd_i (Or.inl (by omega)) h
      exact ⟨h1, h2, r f0, r f1, r f2, f3, r f4, r f5, r f6, r f7, r f8, hent, fun o e he => by cases he⟩
    · have hv' := ((hex v).mp hv).resolve_right h9
      have hv12 := hv'.1
      rw [hlo v h9]
      exact zLogA_fr (hLg v hv') (hL v hv') (fun n h8 => hag n (by unfold zOwnG at h8; omega) (by unfold zOwnG at h8; omega) (by unfold zOwnG at h8; omega) (by unfold zOwnG at h8; omega))
  · exact zSsA_fr (hSs i hi) (fun n h8 => hag n (by unfold zOwnS at h8; omega) (by unfold zOwnS at h8; omega) (by unfold zOwnS at h8; omega) (by unfold zOwnS at h8; omega))
  · exact zGrA_fr (hGs i hi) (fun n h8 => hag n (by unfold zOwnH at h8; omega) (by unfold zOwnH at h8; omega) (by unfold zOwnH at h8; omega) (by unfold zOwnH at h8; omega))
  · have h1 : ¬ zEx (bT b t j z k cm) v := fun h => hv ((hex v).mpr (Or.inl h))
    have h2 : v ≠ u := fun h => hv ((hex v).mpr (Or.inr h))
    obtain ⟨m1, m2, m3⟩ := hnx v h12 h1
    exact ⟨(hf2.1 _ (by omega)).trans m1, (hf2.1 _ (by omega)).trans m2, fun o ho => (hf2.1 _ (by omega)).trans (m3 o ho)⟩
  · by_cases h9 : v = u
    · subst h9
      exact (hf2.1 _ (by omega)).trans (n3 o ho)
    · have hv' := ((hex v).mp hv).resolve_right h9
      rw [hlo v h9] at he
      exact (hf2.1 _ (by omega)).trans (hnf v hv' o ho he)
theorem zsi_same {S : zS} {n k : Nat} {x : Int32} (h : S.2.1 n k = x) : zsi S n k x = S := by
  unfold zsi
  rw [show z2 S.2.1 n k x = S.2.1 from by
    funext a b
    by_cases h9 : a = n ∧ b = k
    · rw [h9.1, h9.2, z2_s, h]
    · unfold z2; rw [if_neg h9]]
theorem zsi_zsi {S : zS} {n k : Nat} {x y : Int32} : zsi (zsi S n k x) n k y = zsi S n k y := by
  unfold zsi
  rw [show z2 (S.1, z2 S.2.1 n k x, S.2.2).2.1 n k y = z2 S.2.1 n k y from by
    funext a b
    unfold z2
    by_cases h9 : a = n ∧ b = k
    · rw [if_pos h9, if_pos h9]
    · rw [if_neg h9, if_neg h9]; exact if_neg h9]
theorem bT_0 {b : zBr} {t z k : Nat} {c : Int32} (h : b.1 t = 0) : bT b t 0 z k c = b := by
  unfold bT
  rw [show (fun j => if j = t then 0 else b.1 j) = b.1 from by
    funext j
    by_cases h9 : j = t
    · rw [if_pos h9, h9, h]
    · rw [if_neg h9], show (fun j => if j / 4 = t ∧ j % 4 < 0 then ((z, k, c), (0, 0), fun _ => none) else b.2.1 j) = b.2.1 from by
    funext j
    exact if_neg (by omega)]
theorem zLogW_new {z k : Nat} {c : Int32} (h1 : 1 ≤ z) (h2 : z ≤ 4) (h3 : 1 ≤ k) (h4 : k ≤ 5) : zLogW ((z, k, c), (0, 0), fun _ => none) := ⟨h1, h2, h3, h4, Nat.zero_le _, (by show 0 ≤ 60; omega), Nat.zero_mod _, fun _ _ => rfl, fun _ _ => rfl⟩
theorem zLogW_T {b : zBr} {t j z k : Nat} {c : Int32} (hW : zBrW b) (h1 : 1 ≤ z) (h2 : z ≤ 4) (h3 : 1 ≤ k) (h4 : k ≤ 5) (v : Nat) (h : zEx (bT b t j z k c) v) (h0 : b.1 t = 0) : zLogW ((bT b t j z k c).2.1 v) := by
  show zLogW (if v / 4 = t ∧ v % 4 < j then ((z, k, c), (0, 0), fun _ => none) else b.2.1 v)
  by_cases h9 : v / 4 = t ∧ v % 4 < j
  · rw [if_pos h9]; exact zLogW_new h1 h2 h3 h4
  · rw [if_neg h9]
    have h8 := zEx_T.mp h
    by_cases h7 : v / 4 = t
    · rw [if_pos h7] at h8; omega
    · rw [if_neg h7] at h8; exact hW.2.1 v h8
