/-! the reference: producing, new topics -/
theorem zBk {ex N : Nat} (h1 : ex ≤ 60) (h2 : N < 2 ^ 31) : (nI ex - nI N).toInt = (ex : Int) - N := by
  rw [Int32.toInt_sub, nI_toInt (by omega), nI_toInt h2]
  exact Int.bmod_eq_of_le (by omega) (by omega)
theorem zBk_lt {ex N : Nat} (h1 : ex ≤ 60) (h2 : N < 2 ^ 31) : nI ex - nI N < 0 ↔ ex < N := by
  rw [Int32.lt_iff_toInt_lt, zBk h1 h2, Int32.toInt_zero]; omega
theorem zBk_3 {ex N : Nat} (h1 : ex ≤ 60) (h2 : N < 2 ^ 31) : nI ex - nI N ≤ nI 3 ↔ ex ≤ N + 3 := by
  rw [Int32.le_iff_toInt_le, zBk h1 h2, nI_toInt (by decide)]; omega
theorem zBk_0 {ex N : Nat} (h1 : ex ≤ 60) (h2 : N < 2 ^ 31) : nI ex - nI N = 0 ↔ ex = N := by
  rw [← Int32.toInt_inj, zBk h1 h2, Int32.toInt_zero]; omega
theorem zBk_le {ex N : Nat} (h1 : ex ≤ 60) (h2 : N < 2 ^ 31) : nI ex - nI N ≤ 0 ↔ ex ≤ N := by
  rw [Int32.le_iff_toInt_le, zBk h1 h2, Int32.toInt_zero]; omega
theorem zMdA_T {S S' : zS} {b : zBr} {t n z k : Nat} {c : Int32} (h : zMdA S b) (hE : zBrE b) (ht : t < 3) (hb : b.1 t = 0) (hn : n ≤ 3) (hc : zch (fun a j => 1001 ≤ a ∧ a ≤ 1004 ∧ j = t) S S') (h1 : S'.2.1 1001 t = nI n) (h2 : S'.2.1 1002 t = nI z) (h3 : S'.2.1 1003 t = nI k) (h4 : S'.2.1 1004 t = c) : zMdA S' (bT b t n z k c) := by
  refine zMdA_upd h hc (Or.inr ⟨rfl, fun a j h1 h2 => by unfold oN at h1; omega⟩) (Or.inl ⟨fun j hj => ?_, fun j hj => ?_⟩) (fun j hj => Or.inl ?_) (fun i _ => Or.inr ⟨rfl, fun a j h1 h2 => by unfold oS at h1; omega⟩) (Or.inr ⟨rfl, rfl, fun a j h1 h2 => by unfold oC at h1; omega⟩) (fun i _ => Or.inr ⟨rfl, fun a j h1 h2 => by unfold oG at h1; omega⟩)
  · show _ = nI (if j = t then n else b.1 j)
    by_cases e : j = t
    · rw [if_pos e, e]; exact h1
    · rw [if_neg e]; exact (hc.2.2 _ _ (by omega)).trans (h.2.2.1.1 j hj)
  · have hj2 := zEx_T.mp hj
    by_cases e : j / 4 = t
    · rw [if_pos e] at hj2
      rw [show (bT b t n z k c).2.1 j = ((z, k, c), (0, 0), fun _ => none) from if_pos ⟨e, hj2.2⟩, e]
      exact ⟨h2, h3, h4⟩
    · rw [if_neg e] at hj2
      rw [show (bT b t n z k c).2.1 j = b.2.1 j from if_neg (fun q => e q.1)]
      obtain ⟨q1, q2, q3⟩ := h.2.2.1.2 j hj2
      exact ⟨(hc.2.2 _ _ (by omega)).trans q1, (hc.2.2 _ _ (by omega)).trans q2, (hc.2.2 _ _ (by omega)).trans q3⟩
  · have hl := mL_fr (S' := S') (h.2.2.2.1 j hj) (fun a q h1 => hc.2.2 a q (by unfold oL at h1; omega))
    by_cases e : j / 4 = t ∧ j % 4 < n
    · rw [show (bT b t n z k c).2.1 j = ((z, k, c), (0, 0), fun _ => none) from if_pos e]
      rw [hE j hj (fun q => by have := q.2; rw [e.1, hb] at this; omega)] at hl
      exact hl
    · rw [show (bT b t n z k c).2.1 j = b.2.1 j from if_neg e]; exact hl
/-- the reference's arrays, k of them made -/
def zMi (S : zS) (k : Nat) : Prop := S.1 1000 = true ∧ (∀ j, j < k → S.1 (1001 + j) = true ∧ S.2.2.1 1000 j = some (1001 + j)) ∧ (∀ n j, 1000 ≤ n → n < 1023 → S.2.1 n j = 0) ∧ ∀ n, 1001 + k ≤ n → n < 1023 → S.1 n = false
theorem zMi_s {S : zS} {k : Nat} (h : zMi S k) (hk : k < 22) : zMi (zsp (zadd S (1001 + k)) 1000 k (some (1001 + k))) (k + 1) := by
  obtain ⟨h1, h2, h3, h4⟩ := h
  refine ⟨zadd_t h1, fun j hj => ?_, h3, fun n hn hn2 => (zadd_n (by omega)).trans (h4 n (by omega) hn2)⟩
  by_cases e : j = k
  · subst e; exact ⟨zadd_s, rp_s⟩
  · exact ⟨zadd_t (h2 j (by omega)).1, rp_p (Or.inr e) (h2 j (by omega)).2⟩
theorem zMi_P {S : zS} (h : zMi S 22) : mP S := ⟨fun n h1 h2 => by
  by_cases e : n = 1000
  · rw [e]; exact h.1
  · have h3 := (h.2.1 (n - 1001) (by omega)).1
    rw [show 1001 + (n - 1001) = n by omega] at h3
    exact h3, fun k hk => (h.2.1 k hk).2⟩
/-- the first loops: what is filled with -1 -/
def zMf (S S' : zS) (a c d e : Nat) : Prop := S'.1 = S.1 ∧ S'.2.2 = S.2.2 ∧ (∀ j, j < a → S'.2.1 1007 j = -1) ∧ (∀ j, j < c → S'.2.1 1013 j = -1) ∧ (∀ j, j < d → S'.2.1 1017 j = -1) ∧ (∀ j, j < e → S'.2.1 1019 j = -1) ∧ ∀ n j, n ≠ 1007 → n ≠ 1013 → n ≠ 1017 → n ≠ 1019 → S'.2.1 n j = S.2.1 n j
theorem zMf_0 {S : zS} : zMf S S 0 0 0 0 := ⟨rfl, rfl, fun _ h => absurd h (Nat.not_lt_zero _), fun _ h => absurd h (Nat.not_lt_zero _), fun _ h => absurd h (Nat.not_lt_zero _), fun _ h => absurd h (Nat.not_lt_zero _), fun _ _ _ _ _ _ => rfl⟩
theorem zMf_fil {S S' : zS} {n m : Nat} (h : ∀ j, j < m → S'.2.1 n j = -1) : ∀ j, j < m + 1 → (zsi S' n m (-1)).2.1 n j = -1 := fun j hj => by
  by_cases e : j = m
  · rw [e]; exact rd_s
  · exact rd_i (Or.inr e) (h j (by omega))
theorem zMf_a {S S' : zS} {a c d e : Nat} (h : zMf S S' a c d e) : zMf S (zsi S' 1007 a (-1)) (a + 1) c d e :=
  ⟨h.1, h.2.1, zMf_fil (S := S) h.2.2.1, fun j hj => rd_i (Or.inl (by decide)) (h.2.2.2.1 j hj), fun j hj => rd_i (Or.inl (by decide)) (h.2.2.2.2.1 j hj), fun j hj => rd_i (Or.inl (by decide)) (h.2.2.2.2.2.1 j hj), fun n j h1 h2 h3 h4 => rd_i (Or.inl h1) (h.2.2.2.2.2.2 n j h1 h2 h3 h4)⟩
theorem zMf_c {S S' : zS} {a c d e : Nat} (h : zMf S S' a c d e) : zMf S (zsi S' 1013 c (-1)) a (c + 1) d e :=
  ⟨h.1, h.2.1, fun j hj => rd_i (Or.inl (by decide)) (h.2.2.1 j hj), zMf_fil (S := S) h.2.2.2.1, fun j hj => rd_i (Or.inl (by decide)) (h.2.2.2.2.1 j hj), fun j hj => rd_i (Or.inl (by decide)) (h.2.2.2.2.2.1 j hj), fun n j h1 h2 h3 h4 => rd_i (Or.inl h2) (h.2.2.2.2.2.2 n j h1 h2 h3 h4)⟩
theorem zMf_d {S S' : zS} {a c d e : Nat} (h : zMf S S' a c d e) : zMf S (zsi S' 1017 d (-1)) a c (d + 1) e :=
  ⟨h.1, h.2.1, fun j hj => rd_i (Or.inl (by decide)) (h.2.2.1 j hj), fun j hj => rd_i (Or.inl (by decide)) (h.2.2.2.1 j hj), zMf_fil (S := S) h.2.2.2.2.1, fun j hj => rd_i (Or.inl (by decide)) (h.2.2.2.2.2.1 j hj), fun n j h1 h2 h3 h4 => rd_i (Or.inl h3) (h.2.2.2.2.2.2 n j h1 h2 h3 h4)⟩
theorem zMf_e {S S' : zS} {a c d e : Nat} (h : zMf S S' a c d e) : zMf S (zsi S' 1019 e (-1)) a c d (e + 1) :=
  ⟨h.1, h.2.1, fun j hj => rd_i (Or.inl (by decide)) (h.2.2.1 j hj), fun j hj => rd_i (Or.inl (by decide)) (h.2.2.2.1 j hj), fun j hj => rd_i (Or.inl (by decide)) (h.2.2.2.2.1 j hj), zMf_fil (S := S) h.2.2.2.2.2.1, fun n j h1 h2 h3 h4 => rd_i (Or.inl h4) (h.2.2.2.2.2.2 n j h1 h2 h3 h4)⟩
theorem zMf_end {S S' : zS} (hi : zMi S 22) (h : zMf S S' 720 6 4 8) : zMdA S' zBr0 := by
  obtain ⟨h1, h2, ha, hc, hd, he, hr⟩ := h
  have hz : ∀ n j, 1000 ≤ n → n < 1023 → n ≠ 1007 → n ≠ 1013 → n ≠ 1017 → n ≠ 1019 → S'.2.1 n j = 0 := fun n j g1 g2 g3 g4 g5 g6 => (hr n j g3 g4 g5 g6).trans (hi.2.2.1 n j g1 g2)
  have hP : mP S' := by
    have h := zMi_P hi
    exact ⟨fun n g1 g2 => by rw [h1]; exact h.1 n g1 g2, fun k hk => by rw [h2]; exact h.2 k hk⟩
  refine ⟨hP, ⟨hz _ _ (by omega) (by omega) (by omega) (by omega) (by omega) (by omega), hz _ _ (by omega) (by omega) (by omega) (by omega) (by omega) (by omega), hz _ _ (by omega) (by omega) (by omega) (by omega) (by omega) (by omega), hz _ _ (by omega) (by omega) (by omega) (by omega) (by omega) (by omega), hz _ _ (by omega) (by omega) (by omega) (by omega) (by omega) (by omega)⟩, ⟨fun t _ => (hz _ _ (by omega) (by omega) (by omega) (by omega) (by omega) (by omega)).trans nI_0.symm, fun t ht => absurd ht.2 (Nat.not_lt_zero _)⟩, fun t ht => ⟨(hz _ _ (by omega) (by omega) (by omega) (by omega) (by omega) (by omega)).trans nI_0.symm, (hz _ _ (by omega) (by omega) (by omega) (by omega) (by omega) (by omega)).trans nI_0.symm, fun o ho => ha _ (by omega)⟩, fun i hi => ⟨hc i hi, (hz _ _ (by omega) (by omega) (by omega) (by omega) (by omega) (by omega)).trans nI_0.symm, fun t _ => (hz _ _ (by omega) (by omega) (by omega) (by omega) (by omega) (by omega)).trans nI_0.symm, fun k _ => hz _ _ (by omega) (by omega) (by omega) (by omega) (by omega) (by omega)⟩, fun q hq => ⟨hd q hq, hz _ _ (by omega) (by omega) (by omega) (by omega) (by omega) (by omega)⟩, fun i hi => ⟨hz _ _ (by omega) (by omega) (by omega) (by omega) (by omega) (by omega), fun k hk => he _ (by omega), fun t _ => (hz _ _ (by omega) (by omega) (by omega) (by omega) (by omega) (by omega)).trans nI_0.symm, fun t _ => (hz _ _ (by omega) (by omega) (by omega) (by omega) (by omega) (by omega)).trans nI_0.symm⟩⟩
/-! opening -/
theorem sOp2_cu {b : zBr} {i p q : Nat} : (sOp2 b i p).2.2.2.1 q = if q = p then nI i else if (¬ (b.2.2.1 i).1 = -1 ∧ b.2.2.2.1 (b.2.2.1 i).1.toNatClampNeg = nI i) ∧ q = (b.2.2.1 i).1.toNatClampNeg then -1 else b.2.2.2.1 q := by
  unfold sOp2
  by_cases h1 : ¬ (b.2.2.1 i).1 = -1 ∧ b.2.2.2.1 (b.2.2.1 i).1.toNatClampNeg = nI i
  · rw [if_pos h1]
    show (if q = p then nI i else if q = (b.2.2.1 i).1.toNatClampNeg then -1 else b.2.2.2.1 q) = _
    by_cases h2 : q = p
    · rw [if_pos h2, if_pos h2]
    · rw [if_neg h2, if_neg h2]
      by_cases h3 : q = (b.2.2.1 i).1.toNatClampNeg
      · rw [if_pos h3, if_pos ⟨h1, h3⟩]
      · rw [if_neg h3, if_neg (fun q => h3 q.2)]
  · rw [if_neg h1]
    show (if q = p then nI i else b.2.2.2.1 q) = _
    by_cases h2 : q = p
    · rw [if_pos h2, if_pos h2]
    · rw [if_neg h2, if_neg h2, if_neg (fun q => h1 q.1)]
theorem sOp2_rest {b : zBr} {i p : Nat} : (sOp2 b i p).1 = b.1 ∧ (sOp2 b i p).2.1 = b.2.1 ∧ (sOp2 b i p).2.2.2.2.2 = b.2.2.2.2.2 ∧ (∀ j, (sOp2 b i p).2.2.1 j = if j = i then (nI p, (b.2.2.1 i).2.1, (fun _ => 0), (b.2.2.1 i).2.2.2) else b.2.2.1 j) ∧ ∀ q, (sOp2 b i p).2.2.2.2.1 q = if q = p then b.2.2.2.2.1 p + nI 1 else b.2.2.2.2.1 q := by
  unfold sOp2
  by_cases h1 : ¬ (b.2.2.1 i).1 = -1 ∧ b.2.2.2.1 (b.2.2.1 i).1.toNatClampNeg = nI i
  · rw [if_pos h1]; exact ⟨rfl, rfl, rfl, fun _ => rfl, fun _ => rfl⟩
  · rw [if_neg h1]; exact ⟨rfl, rfl, rfl, fun _ => rfl, fun _ => rfl⟩
def oP (i n k : Nat) : Prop := (n = 1013 ∧ k = i) ∨ (n = 1014 ∧ i * 12 ≤ k ∧ k < i * 12 + 12) ∨ n = 1017 ∨ n = 1018
theorem zMdA_op2 {S S' : zS} {b : zBr} {i p : Nat} (h : zMdA S b) (hI : zInv b) (hi : i < 6) (ha : (b.2.2.1 i).2.1 = nI 0) (hP : ∀ j, j < 6 → (b.2.2.1 j).2.1 = nI 1 → ¬ (b.2.2.1 j).1 = nI p) (hc : zch (oP i) S S') (h13 : S'.2.1 1013 i = nI p) (h14 : ∀ t, t < 12 → S'.2.1 1014 (i * 12 + t) = nI 0) (h17 : ∀ q, q < 4 → S'.2.1 1017 q = (sOp2 b i p).2.2.2.1 q) (h18 : ∀ q, q < 4 → S'.2.1 1018 q = (sOp2 b i p).2.2.2.2.1 q) : zMdA S' (sOp2 b i p) := by
  obtain ⟨r1, r2, r3, r4, r5⟩ := sOp2_rest (b := b) (i := i) (p := p)
  refine zMdA_upd h hc (Or.inr ⟨by rw [r3], fun n k h1 h2 => by unfold oN at h1; unfold oP at h2; omega⟩) (Or.inr ⟨r1, fun t _ => by rw [r2], fun n k h1 h2 => by unfold oT at h1; unfold oP at h2; omega⟩) (fun t ht => Or.inr ⟨by rw [r2], fun n k h1 h2 => by unfold oL at h1; unfold oP at h2; omega, fun o e he hs => ?_⟩) (fun j hj => ?_) (Or.inl (fun q hq => ⟨h17 q hq, h18 q hq⟩)) (fun j _ => Or.inr ⟨by rw [r3], fun n k h1 h2 => by unfold oG at h1; unfold oP at h2; omega⟩)
  · have hx : zEx b t := Classical.byContradiction fun q => by rw [hI.2.1 t ht q] at he; cases he
    obtain ⟨j, hj, h5, h6⟩ := hI.2.2.2.2.1 t hx o e he hs
    obtain ⟨q, hq, hb, hcq⟩ := hI.2.2.2.1 j hj h5
    rw [h6] at hb
    rw [hb, nI_clamp (by omega), sOp2_cu, if_neg (fun e9 => hP j hj h5 (by rw [h6, hb, e9])), if_neg (fun e9 => ?_)]
    have h7 := e9.1.2
    rw [← e9.2, hcq] at h7
    have e8 := (nI_eq (by omega) (by omega)).mp h7
    rw [e8, ha] at h5
    exact absurd h5 (by decide)
  · rw [r4]
    obtain ⟨s1, s2, s3, s4⟩ := h.2.2.2.2.1 j hj
    by_cases e : j = i
    · subst e
      rw [if_pos rfl]
      exact Or.inl ⟨h13, (hc.2.2 _ _ (by unfold oP; omega)).trans s2, h14, fun k hk => (hc.2.2 _ _ (by unfold oP; omega)).trans (s4 k hk)⟩
    · rw [if_neg e]
      exact Or.inr ⟨rfl, fun n k h1 h2 => by unfold oS at h1; unfold oP at h2; omega⟩
theorem bS_W {b : zBr} {i t : Nat} {u u2 : zSn} {e : zE} : bS (bW (bS b i u) t e) i u2 = bS (bW b t e) i u2 := by
  have e1 : (fun j => if j = i then u2 else (if j = i then u else b.2.2.1 j)) = fun j => if j = i then u2 else b.2.2.1 j := by
    funext j
    by_cases h : j = i
    · rw [if_pos h, if_pos h]
    · rw [if_neg h, if_neg h, if_neg h]
  unfold bS bW bN bG
  dsimp only
  rw [e1]
theorem sDec_op {b : zBr} {i : Nat} {c : Bool} : (sDec b i c).2.2.2.2.1 = b.2.2.2.2.1 := by
  unfold sDec bS bSk bM bN bDk
  dsimp only
