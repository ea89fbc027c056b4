/-! what stays when other names change -/
/-- the two stores agree at a name -/
def zAg (S S' : zS) (n : Nat) : Prop := S'.1 n = S.1 n ∧ S'.2.1 n = S.2.1 n ∧ S'.2.2.1 n = S.2.2.1 n
theorem zfr.ag {own : Nat → Prop} {S S' : zS} (h : zfr own S S') {n : Nat} (hn : ¬ own n) : zAg S S' n := ⟨h.1 n hn, (h.2 n hn).1, (h.2 n hn).2.1⟩
theorem zAg.d {S S' : zS} {n : Nat} (h : zAg S S' n) {v : Bool} (hv : S.1 n = v) : S'.1 n = v := h.1.trans hv
theorem zAg.i {S S' : zS} {n k : Nat} (h : zAg S S' n) {v : Int32} (hv : S.2.1 n k = v) : S'.2.1 n k = v := by rw [h.2.1]; exact hv
theorem zAg.p {S S' : zS} {n k : Nat} (h : zAg S S' n) {v : Option Nat} (hv : S.2.2.1 n k = v) : S'.2.2.1 n k = v := by rw [h.2.2]; exact hv
theorem zEat_fr {S S' : zS} {x : Nat} {e : zE} (h : zEat S x e) (a : zAg S S' x) : zEat S' x e := by
  obtain ⟨h1, h2, h3, h4, h5, h6⟩ := h
  exact ⟨a.d h1, a.i h2, a.i h3, a.i h4, a.i h5, a.i h6⟩
theorem zLogA_fr {S S' : zS} {t : Nat} {g : zLg} (h : zLogA S t g) (hW : zLogW g) (a : ∀ n, zOwnG t n → zAg S S' n) : zLogA S' t g := by
  obtain ⟨h1, h2, f0, f1, f2, f3, f4, f5, f6, f7, f8, hent, hee⟩ := h
  have a1 := a (60 + t) (Or.inl rfl)
  have a2 := a (80 + t) (Or.inr (Or.inl rfl))
  refine ⟨a1.d h1, a2.d h2, a1.i f0, a1.i f1, a1.i f2, a1.p f3, a1.i f4, a1.i f5, a1.i f6, a1.i f7, a1.i f8, fun o => a2.p (hent o), fun o e he => zEat_fr (hee o e he) (a _ (Or.inr (Or.inr ?_)))⟩
  have ho : o < 60 := by
    rcases Nat.lt_or_ge o 60 with q | q
    · exact q
    · rw [hW.2.2.2.2.2.2.2.1 o (Nat.le_trans hW.2.2.2.2.2.1 q)] at he; cases he
  omega
theorem zSsA_fr {S S' : zS} {i : Nat} {u : zSn} (h : zSsA S i u) (a : ∀ n, zOwnS i n → zAg S S' n) : zSsA S' i u := by
  obtain ⟨h1, h2, h3, f0, f1, f2, f3, he, ho⟩ := h
  have a1 := a (10 + i) (Or.inl rfl)
  have a2 := a (20 + i) (Or.inr (Or.inl rfl))
  have a3 := a (30 + i) (Or.inr (Or.inr rfl))
  exact ⟨a1.d h1, a2.d h2, a3.d h3, a1.i f0, a1.i f1, a1.p f2, a1.p f3, fun t ht => a2.i (he t ht), fun k hk => a3.i (ho k hk)⟩
theorem zGrA_fr {S S' : zS} {i : Nat} {u : zGr} (h : zGrA S i u) (a : ∀ n, zOwnH i n → zAg S S' n) : zGrA S' i u := by
  obtain ⟨h1, h2, h3, h4, h5, f0, f1, f2, f3, f4, q1, q2, q3, q4⟩ := h
  have a1 := a (40 + i) (Or.inl rfl)
  have a2 := a (42 + i) (Or.inr (Or.inl rfl))
  have a3 := a (44 + i) (Or.inr (Or.inr (Or.inl rfl)))
  have a4 := a (46 + i) (Or.inr (Or.inr (Or.inr (Or.inl rfl))))
  have a5 := a (48 + i) (Or.inr (Or.inr (Or.inr (Or.inr rfl))))
  exact ⟨a1.d h1, a2.d h2, a3.d h3, a4.d h4, a5.d h5, a1.i f0, a1.p f1, a1.p f2, a1.p f3, a1.p f4, fun k hk => a2.i (q1 k hk), fun k hk => a3.i (q2 k hk), fun k hk => a4.i (q3 k hk), fun k hk => a5.i (q4 k hk)⟩
theorem zTop_fr {S S' : zS} {b : zBr} (h : zTop S b) (a : ∀ n, 1 ≤ n → n < 8 → zAg S S' n) : zTop S' b := by
  obtain ⟨hn, t0, t1, t2, t3, t4, t5, q6, q7, q8, q9, q10, hpt, hlg, hse, hcu, hop, hgr⟩ := h
  have a1 := a 1 (by omega) (by omega)
  exact ⟨fun n h1 h2 => (a n h1 h2).d (hn n h1 h2), a1.p t0, a1.p t1, a1.p t2, a1.p t3, a1.p t4, a1.p t5, a1.i q6, a1.i q7, a1.i q8, a1.i q9, a1.i q10, fun t ht => (a 2 (by omega) (by omega)).i (hpt t ht), fun t ht => (a 3 (by omega) (by omega)).p (hlg t ht), fun t ht => (a 4 (by omega) (by omega)).p (hse t ht), fun t ht => (a 5 (by omega) (by omega)).i (hcu t ht), fun t ht => (a 6 (by omega) (by omega)).i (hop t ht), fun t ht => (a 7 (by omega) (by omega)).p (hgr t ht)⟩
theorem zTop_6 {S : zS} {b : zBr} {v : Int32} (h : zTop S b) : zTop (zsi S 1 6 v) (b.1, b.2.1, b.2.2.1, b.2.2.2.1, b.2.2.2.2.1, b.2.2.2.2.2.1, v, b.2.2.2.2.2.2.2.1, b.2.2.2.2.2.2.2.2.1, b.2.2.2.2.2.2.2.2.2.1, b.2.2.2.2.2.2.2.2.2.2) := by
  obtain ⟨hn, t0, t1, t2, t3, t4, t5, q6, q7, q8, q9, q10, hpt, hlg, hse, hcu, hop, hgr⟩ := h
  exact ⟨hn, t0, t1, t2, t3, t4, t5, rd_s, rd_i (Or.inr (by decide)) q7, rd_i (Or.inr (by decide)) q8, rd_i (Or.inr (by decide)) q9, rd_i (Or.inr (by decide)) q10, fun t ht => rd_i (Or.inl (by decide)) (hpt t ht), hlg, hse, fun t ht => rd_i (Or.inl (by decide)) (hcu t ht), fun t ht => rd_i (Or.inl (by decide)) (hop t ht), hgr⟩
theorem zTop_7 {S : zS} {b : zBr} {v : Int32} (h : zTop S b) : zTop (zsi S 1 7 v) (b.1, b.2.1, b.2.2.1, b.2.2.2.1, b.2.2.2.2.1, b.2.2.2.2.2.1, b.2.2.2.2.2.2.1, v, b.2.2.2.2.2.2.2.2.1, b.2.2.2.2.2.2.2.2.2.1, b.2.2.2.2.2.2.2.2.2.2) := by
  obtain ⟨hn, t0, t1, t2, t3, t4, t5, q6, q7, q8, q9, q10, hpt, hlg, hse, hcu, hop, hgr⟩ := h
  exact ⟨hn, t0, t1, t2, t3, t4, t5, rd_i (Or.inr (by decide)) q6, rd_s, rd_i (Or.inr (by decide)) q8, rd_i (Or.inr (by decide)) q9, rd_i (Or.inr (by decide)) q10, fun t ht => rd_i (Or.inl (by decide)) (hpt t ht), hlg, hse, fun t ht => rd_i (Or.inl (by decide)) (hcu t ht), fun t ht => rd_i (Or.inl (by decide)) (hop t ht), hgr⟩
theorem zTop_8 {S : zS} {b : zBr} {v : Int32} (h : zTop S b) : zTop (zsi S 1 8 v) (b.1, b.2.1, b.2.2.1, b.2.2.2.1, b.2.2.2.2.1, b.2.2.2.2.2.1, b.2.2.2.2.2.2.1, b.2.2.2.2.2.2.2.1, v, b.2.2.2.2.2.2.2.2.2.1, b.2.2.2.2.2.2.2.2.2.2) := by
  obtain ⟨hn, t0, t1, t2, t3, t4, t5, q6, q7, q8, q9, q10, hpt, hlg, hse, hcu, hop, hgr⟩ := h
  exact ⟨hn, t0, t1, t2, t3, t4, t5, rd_i (Or.inr (by decide)) q6, rd_i (Or.inr (by decide)) q7, rd_s, rd_i (Or.inr (by decide)) q9, rd_i (Or.inr (by decide)) q10, fun t ht => rd_i (Or.inl (by decide)) (hpt t ht), hlg, hse, fun t ht => rd_i (Or.inl (by decide)) (hcu t ht), fun t ht => rd_i (Or.inl (by decide)) (hop t ht), hgr⟩
theorem zTop_9 {S : zS} {b : zBr} {v : Int32} (h : zTop S b) : zTop (zsi S 1 9 v) (b.1, b.2.1, b.2.2.1, b.2.2.2.1, b.2.2.2.2.1, b.2.2.2.2.2.1, b.2.2.2.2.2.2.1, b.2.2.2.2.2.2.2.1, b.2.2.2.2.2.2.2.2.1, v, b.2.2.2.2.2.2.2.2.2.2) := by
  obtain ⟨hn, t0, t1, t2, t3, t4, t5, q6, q7, q8, q9, q10, hpt, hlg, hse, hcu, hop, hgr⟩ := h
  exact ⟨hn, t0, t1, t2, t3, t4, t5, rd_i (Or.inr (by decide)) q6, rd_i (Or.inr (by decide)) q7, rd_i (Or.inr (by decide)) q8, rd_s, rd_i (Or.inr (by decide)) q10, fun t ht => rd_i (Or.inl (by decide)) (hpt t ht), hlg, hse, fun t ht => rd_i (Or.inl (by decide)) (hcu t ht), fun t ht => rd_i (Or.inl (by decide)) (hop t ht), hgr⟩
theorem zTop_10 {S : zS} {b : zBr} {v : Int32} (h : zTop S b) : zTop (zsi S 1 10 v) (b.1, b.2.1, b.2.2.1, b.2.2.2.1, b.2.2.2.2.1, b.2.2.2.2.2.1, b.2.2.2.2.2.2.1, b.2.2.2.2.2.2.2.1, b.2.2.2.2.2.2.2.2.1, b.2.2.2.2.2.2.2.2.2.1, v) := by
  obtain ⟨hn, t0, t1, t2, t3, t4, t5, q6, q7, q8, q9, q10, hpt, hlg, hse, hcu, hop, hgr⟩ := h
  exact ⟨hn, t0, t1, t2, t3, t4, t5, rd_i (Or.inr (by decide)) q6, rd_i (Or.inr (by decide)) q7, rd_i (Or.inr (by decide)) q8, rd_i (Or.inr (by decide)) q9, rd_s, fun t ht => rd_i (Or.inl (by decide)) (hpt t ht), hlg, hse, fun t ht => rd_i (Or.inl (by decide)) (hcu t ht), fun t ht => rd_i (Or.inl (by decide)) (hop t ht), hgr⟩
theorem zAg_i {S : zS} {n k a : Nat} {x : Int32} (h : a ≠ n) : zAg S (zsi S n k x) a := ⟨rfl, (z2_o h).symm, rfl⟩
theorem zAg_p {S : zS} {n k a : Nat} {x : Option Nat} (h : a ≠ n) : zAg S (zsp S n k x) a := ⟨rfl, rfl, (z2_o h).symm⟩
theorem zAg.tr {S1 S2 S3 : zS} {n : Nat} (h : zAg S1 S2 n) (g : zAg S2 S3 n) : zAg S1 S3 n := ⟨g.1.trans h.1, g.2.1.trans h.2.1, g.2.2.trans h.2.2⟩
theorem zcnt_app {p : Nat → Bool} : ∀ {k o : Nat}, zcnt p (k + 1) o = zcnt p k o + (if p (o + k) = true then 1 else 0)
  | 0, o => by show (if p o = true then 1 else 0) + 0 = 0 + _; rw [Nat.add_zero, Nat.zero_add]; rfl
  | k + 1, o => by
    show (if p o = true then 1 else 0) + zcnt p (k + 1) (o + 1) = (if p o = true then 1 else 0) + zcnt p k (o + 1) + _
    rw [zcnt_app (k := k) (o := o + 1), show o + 1 + k = o + (k + 1) by omega]
    omega
theorem zcnt_step {p : Nat → Bool} {t : Nat} : zcnt p (t + 1) 0 = zcnt p t 0 + (if p t = true then 1 else 0) := by
  rw [zcnt_app, Nat.zero_add]
