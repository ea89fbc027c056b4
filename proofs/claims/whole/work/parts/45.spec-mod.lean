/-! the reference: what its cells say -/
/-- ints in some cells have changed, nothing else -/
def zch (own : Nat → Nat → Prop) (S S' : zS) : Prop := S'.1 = S.1 ∧ S'.2.2 = S.2.2 ∧ ∀ n k, ¬ own n k → S'.2.1 n k = S.2.1 n k
theorem zch.rf {own : Nat → Nat → Prop} {S : zS} : zch own S S := ⟨rfl, rfl, fun _ _ _ => rfl⟩
theorem zch.tr {own : Nat → Nat → Prop} {S1 S2 S3 : zS} (h : zch own S1 S2) (g : zch own S2 S3) : zch own S1 S3 := ⟨g.1.trans h.1, g.2.1.trans h.2.1, fun n k hn => (g.2.2 n k hn).trans (h.2.2 n k hn)⟩
theorem zch.mono {o1 o2 : Nat → Nat → Prop} {S S' : zS} (h : zch o1 S S') (m : ∀ n k, o1 n k → o2 n k) : zch o2 S S' := ⟨h.1, h.2.1, fun n k hn => h.2.2 n k (fun q => hn (m n k q))⟩
theorem zch.i {own : Nat → Nat → Prop} {S : zS} {n k : Nat} {x : Int32} (h : own n k) : zch own S (zsi S n k x) := ⟨rfl, rfl, fun a b ha => z2_n (by
  by_cases e1 : a = n
  · by_cases e2 : b = k
    · exact absurd (by rw [e1, e2]; exact h) ha
    · exact Or.inr e2
  · exact Or.inl e1)⟩
theorem zch.fr {own : Nat → Nat → Prop} {o2 : Nat → Prop} {S S' : zS} (h : zch own S S') (m : ∀ n k, own n k → o2 n) : zfr o2 S S' := ⟨fun n _ => by rw [h.1], fun n hn => ⟨funext fun k => h.2.2 n k (fun q => hn (m n k q)), by rw [h.2.1], by rw [h.2.1]⟩⟩
def mP (S : zS) : Prop := (∀ n, 1000 ≤ n → n < 1023 → S.1 n = true) ∧ ∀ k, k < 22 → S.2.2.1 1000 k = some (1001 + k)
def mN (S : zS) (c : Int32 × Int32 × Int32 × Int32 × Int32) : Prop := S.2.1 1000 22 = c.1 ∧ S.2.1 1000 23 = c.2.1 ∧ S.2.1 1000 24 = c.2.2.1 ∧ S.2.1 1000 25 = c.2.2.2.1 ∧ S.2.1 1000 26 = c.2.2.2.2
def mT (S : zS) (b : zBr) : Prop := (∀ t, t < 3 → S.2.1 1001 t = nI (b.1 t)) ∧ ∀ t, zEx b t → S.2.1 1002 (t / 4) = nI (b.2.1 t).1.1 ∧ S.2.1 1003 (t / 4) = nI (b.2.1 t).1.2.1 ∧ S.2.1 1004 (t / 4) = (b.2.1 t).1.2.2
def mE (S : zS) (cu : Nat → Int32) (j : Nat) (r : Option zE) : Prop := match r with
  | none => S.2.1 1007 j = -1
  | some e => S.2.1 1007 j = e.1 ∧ S.2.1 1008 j = e.2.1 ∧ S.2.1 1009 j = e.2.2.1 ∧ S.2.1 1010 j = e.2.2.2.1 ∧ S.2.1 1011 j = e.2.2.2.2 ∧ (e.2.2.2.2 = nI 2 → S.2.1 1012 j = cu e.2.2.2.1.toNatClampNeg)
def mL (S : zS) (cu : Nat → Int32) (t : Nat) (g : zLg) : Prop := S.2.1 1005 t = nI g.2.1.1 ∧ S.2.1 1006 t = nI g.2.1.2 ∧ ∀ o, o < 60 → mE S cu (t * 60 + o) (g.2.2 o)
def mS (S : zS) (i : Nat) (u : zSn) : Prop := S.2.1 1013 i = u.1 ∧ S.2.1 1016 i = u.2.1 ∧ (∀ t, t < 12 → S.2.1 1014 (i * 12 + t) = nI (u.2.2.1 t)) ∧ ∀ k, k < 36 → S.2.1 1015 (i * 36 + k) = u.2.2.2 k
def mC (S : zS) (b : zBr) : Prop := ∀ q, q < 4 → S.2.1 1017 q = b.2.2.2.1 q ∧ S.2.1 1018 q = b.2.2.2.2.1 q
def mG (S : zS) (i : Nat) (u : zGr) : Prop := S.2.1 1020 i = u.1 ∧ (∀ k, k < 4 → S.2.1 1019 (i * 4 + k) = u.2.1 k) ∧ (∀ t, t < 12 → S.2.1 1021 (i * 12 + t) = nI (u.2.2.2.1 t)) ∧ ∀ t, t < 12 → S.2.1 1022 (i * 12 + t) = nI (u.2.2.2.2 t)
def zMdA (S : zS) (b : zBr) : Prop := mP S ∧ mN S b.2.2.2.2.2.2 ∧ mT S b ∧ (∀ t, t < 12 → mL S b.2.2.2.1 t (b.2.1 t)) ∧ (∀ i, i < 6 → mS S i (b.2.2.1 i)) ∧ mC S b ∧ ∀ i, i < 2 → mG S i (b.2.2.2.2.2.1 i)
/-- the cells -/
def oN (n k : Nat) : Prop := n = 1000 ∧ 22 ≤ k ∧ k ≤ 26
def oT (n _k : Nat) : Prop := 1001 ≤ n ∧ n ≤ 1004
def oL (t n k : Nat) : Prop := ((n = 1005 ∨ n = 1006) ∧ k = t) ∨ (1007 ≤ n ∧ n ≤ 1012 ∧ t * 60 ≤ k ∧ k < t * 60 + 60)
def oS (i n k : Nat) : Prop := ((n = 1013 ∨ n = 1016) ∧ k = i) ∨ (n = 1014 ∧ i * 12 ≤ k ∧ k < i * 12 + 12) ∨ (n = 1015 ∧ i * 36 ≤ k ∧ k < i * 36 + 36)
def oC (n _k : Nat) : Prop := n = 1017 ∨ n = 1018
def oG (i n k : Nat) : Prop := (n = 1020 ∧ k = i) ∨ (n = 1019 ∧ i * 4 ≤ k ∧ k < i * 4 + 4) ∨ ((n = 1021 ∨ n = 1022) ∧ i * 12 ≤ k ∧ k < i * 12 + 12)
def oM (n _k : Nat) : Prop := 1000 ≤ n ∧ n < 1023
theorem mP_fr {own : Nat → Nat → Prop} {S S' : zS} (h : mP S) (hc : zch own S S') : mP S' := ⟨fun n h1 h2 => by rw [hc.1]; exact h.1 n h1 h2, fun k hk => by rw [hc.2.1]; exact h.2 k hk⟩
theorem mN_fr {S S' : zS} {c : Int32 × Int32 × Int32 × Int32 × Int32} (h : mN S c) (e : ∀ n k, oN n k → S'.2.1 n k = S.2.1 n k) : mN S' c :=
  ⟨(e _ _ ⟨rfl, by omega, by omega⟩).trans h.1, (e _ _ ⟨rfl, by omega, by omega⟩).trans h.2.1, (e _ _ ⟨rfl, by omega, by omega⟩).trans h.2.2.1, (e _ _ ⟨rfl, by omega, by omega⟩).trans h.2.2.2.1, (e _ _ ⟨rfl, by omega, by omega⟩).trans h.2.2.2.2⟩
theorem mT_fr {S S' : zS} {b b' : zBr} (h : mT S b) (e : ∀ n k, oT n k → S'.2.1 n k = S.2.1 n k) (h1 : b'.1 = b.1) (h2 : ∀ t, zEx b t → (b'.2.1 t).1 = (b.2.1 t).1) : mT S' b' := by
  refine ⟨fun t ht => by rw [h1]; exact (e _ _ ⟨by omega, by omega⟩).trans (h.1 t ht), fun t ht => ?_⟩
  have ht' : zEx b t := by unfold zEx at ht ⊢; rw [← h1]; exact ht
  rw [h2 t ht']
  obtain ⟨q1, q2, q3⟩ := h.2 t ht'
  exact ⟨(e _ _ ⟨by omega, by omega⟩).trans q1, (e _ _ ⟨by omega, by omega⟩).trans q2, (e _ _ ⟨by omega, by omega⟩).trans q3⟩
theorem mE_fr {S S' : zS} {cu cu' : Nat → Int32} {j : Nat} {r : Option zE} (h : mE S cu j r) (e : ∀ n, 1007 ≤ n → n ≤ 1012 → S'.2.1 n j = S.2.1 n j) (hc : ∀ x, r = some x → x.2.2.2.2 = nI 2 → cu' x.2.2.2.1.toNatClampNeg = cu x.2.2.2.1.toNatClampNeg) : mE S' cu' j r := by
  cases r with
  | none => exact (e 1007 (by omega) (by omega)).trans h
  | some x =>
    obtain ⟨h1, h2, h3, h4, h5, h6⟩ := h
    exact ⟨(e _ (by omega) (by omega)).trans h1, (e _ (by omega) (by omega)).trans h2, (e _ (by omega) (by omega)).trans h3, (e _ (by omega) (by omega)).trans h4, (e _ (by omega) (by omega)).trans h5, fun q => (e _ (by omega) (by omega)).trans ((h6 q).trans (hc x rfl q).symm)⟩
theorem mL_fr {S S' : zS} {cu : Nat → Int32} {t : Nat} {g : zLg} (h : mL S cu t g) (e : ∀ n k, oL t n k → S'.2.1 n k = S.2.1 n k) : mL S' cu t g :=
  ⟨(e _ _ (Or.inl ⟨Or.inl rfl, rfl⟩)).trans h.1, (e _ _ (Or.inl ⟨Or.inr rfl, rfl⟩)).trans h.2.1, fun o ho => mE_fr (h.2.2 o ho) (fun n h1 h2 => e _ _ (Or.inr ⟨h1, h2, by omega, by omega⟩)) (fun _ _ _ => rfl)⟩
theorem mL_cu {S : zS} {cu cu' : Nat → Int32} {t : Nat} {g : zLg} (h : mL S cu t g) (hc : ∀ o x, g.2.2 o = some x → x.2.2.2.2 = nI 2 → cu' x.2.2.2.1.toNatClampNeg = cu x.2.2.2.1.toNatClampNeg) : mL S cu' t g :=
  ⟨h.1, h.2.1, fun o ho => mE_fr (h.2.2 o ho) (fun _ _ _ => rfl) (fun x hx hu => hc o x hx hu)⟩
theorem mS_fr {S S' : zS} {i : Nat} {u : zSn} (h : mS S i u) (e : ∀ n k, oS i n k → S'.2.1 n k = S.2.1 n k) : mS S' i u :=
  ⟨(e _ _ (Or.inl ⟨Or.inl rfl, rfl⟩)).trans h.1, (e _ _ (Or.inl ⟨Or.inr rfl, rfl⟩)).trans h.2.1, fun t ht => (e _ _ (Or.inr (Or.inl ⟨rfl, by omega, by omega⟩))).trans (h.2.2.1 t ht), fun k hk => (e _ _ (Or.inr (Or.inr ⟨rfl, by omega, by omega⟩))).trans (h.2.2.2 k hk)⟩
theorem mC_fr {S S' : zS} {b b' : zBr} (h : mC S b) (e : ∀ n k, oC n k → S'.2.1 n k = S.2.1 n k) (h1 : b'.2.2.2.1 = b.2.2.2.1) (h2 : b'.2.2.2.2.1 = b.2.2.2.2.1) : mC S' b' := fun q hq => by
  rw [h1, h2]
  exact ⟨(e _ _ (Or.inl rfl)).trans (h q hq).1, (e _ _ (Or.inr rfl)).trans (h q hq).2⟩
theorem mG_fr {S S' : zS} {i : Nat} {u : zGr} (h : mG S i u) (e : ∀ n k, oG i n k → S'.2.1 n k = S.2.1 n k) : mG S' i u :=
  ⟨(e _ _ (Or.inl ⟨rfl, rfl⟩)).trans h.1, fun k hk => (e _ _ (Or.inr (Or.inl ⟨rfl, by omega, by omega⟩))).trans (h.2.1 k hk), fun t ht => (e _ _ (Or.inr (Or.inr ⟨Or.inl rfl, by omega, by omega⟩))).trans (h.2.2.1 t ht), fun t ht => (e _ _ (Or.inr (Or.inr ⟨Or.inr rfl, by omega, by omega⟩))).trans (h.2.2.2 t ht)⟩
/-- what was thrown is written elsewhere -/
theorem zMdA_th {S : zS} {b : zBr} {v : Int32} (h : zMdA S b) : zMdA (zsi S 1000 27 v) b := by
  obtain ⟨hP, hN, hT, hL, hS, hC, hG⟩ := h
  have e : ∀ n k, ¬ (n = 1000 ∧ k = 27) → (zsi S 1000 27 v).2.1 n k = S.2.1 n k := fun n k hn => z2_n (by omega)
  exact ⟨hP, mN_fr hN (fun n k h => e n k (by unfold oN at h; omega)), mT_fr hT (fun n k h => e n k (by unfold oT at h; omega)) rfl (fun _ _ => rfl), fun t ht => mL_fr (hL t ht) (fun n k h => e n k (by unfold oL at h; omega)), fun i hi => mS_fr (hS i hi) (fun n k h => e n k (by unfold oS at h; omega)), mC_fr hC (fun n k h => e n k (by unfold oC at h; omega)) rfl rfl, fun i hi => mG_fr (hG i hi) (fun n k h => e n k (by unfold oG at h; omega))⟩
/-- below the start nothing is there: the searches may begin at 0 -/
theorem zfind_skip {p : Nat → Bool} {s n : Nat} (h : ∀ j, j < s → p j = false) (hs : s ≤ n) : zfind p n 0 = zfind p (n - s) s := by
  cases hf : zfind p (n - s) s with
  | some x =>
    obtain ⟨a, b, c, d⟩ := zfind_spec hf
    exact zfind_some (by omega) (by omega) (fun j _ h2 => by
      rcases Nat.lt_or_ge j s with q | q
      · exact h j q
      · exact d j q h2) c
  | none =>
    have hn := zfind_nspec hf
    exact zfind_none (fun j _ h2 => by
      rcases Nat.lt_or_ge j s with q | q
      · exact h j q
      · exact hn j q (by omega))
theorem zStab_0 {g : zLg} (hW : zLogW g) : zStab g = (zfind (fun o => zUnd (g.2.2 o)) g.2.1.2 0).getD g.2.1.2 := by
  have h1 := zBa_le g
  have h2 := hW.2.2.2.2.1
  unfold zStab
  rw [zfind_skip (s := g.2.1.1) (fun j hj => by rw [hW.2.2.2.2.2.2.2.2 j hj]; rfl) (by omega)]
theorem zHasU_0 {g : zLg} {q : Int32} (hW : zLogW g) : zHasU g q = (zfind (fun o => zUndP q (g.2.2 o)) g.2.1.2 0).isSome := by
  have h1 := zBa_le g
  have h2 := hW.2.2.2.2.1
  unfold zHasU
  rw [zfind_skip (s := g.2.1.1) (fun j hj => by rw [hW.2.2.2.2.2.2.2.2 j hj]; rfl) (by omega)]
