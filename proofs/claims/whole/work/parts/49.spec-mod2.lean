/-! the reference: what changes, in numbers -/
theorem zMdA_upd {S S' : zS} {b b' : zBr} {own : Nat → Nat → Prop} (h : zMdA S b) (hc : zch own S S')
    (hN : mN S' b'.2.2.2.2.2.2 ∨ (b'.2.2.2.2.2.2 = b.2.2.2.2.2.2 ∧ ∀ n k, oN n k → ¬ own n k))
    (hT : mT S' b' ∨ (b'.1 = b.1 ∧ (∀ t, zEx b t → (b'.2.1 t).1 = (b.2.1 t).1) ∧ ∀ n k, oT n k → ¬ own n k))
    (hL : ∀ t, t < 12 → mL S' b'.2.2.2.1 t (b'.2.1 t) ∨ (b'.2.1 t = b.2.1 t ∧ (∀ n k, oL t n k → ¬ own n k) ∧ ∀ o x, (b.2.1 t).2.2 o = some x → x.2.2.2.2 = nI 2 → b'.2.2.2.1 x.2.2.2.1.toNatClampNeg = b.2.2.2.1 x.2.2.2.1.toNatClampNeg))
    (hS : ∀ i, i < 6 → mS S' i (b'.2.2.1 i) ∨ (b'.2.2.1 i = b.2.2.1 i ∧ ∀ n k, oS i n k → ¬ own n k))
    (hC : mC S' b' ∨ (b'.2.2.2.1 = b.2.2.2.1 ∧ b'.2.2.2.2.1 = b.2.2.2.2.1 ∧ ∀ n k, oC n k → ¬ own n k))
    (hG : ∀ i, i < 2 → mG S' i (b'.2.2.2.2.2.1 i) ∨ (b'.2.2.2.2.2.1 i = b.2.2.2.2.2.1 i ∧ ∀ n k, oG i n k → ¬ own n k)) : zMdA S' b' := by
  obtain ⟨hP, h1, h2, h3, h4, h5, h6⟩ := h
  refine ⟨mP_fr hP hc, ?_, ?_, fun t ht => ?_, fun i hi => ?_, ?_, fun i hi => ?_⟩
  · rcases hN with h | ⟨e, hn⟩
    · exact h
    · rw [e]; exact mN_fr h1 (fun n k q => hc.2.2 n k (hn n k q))
  · rcases hT with h | ⟨e, e2, hn⟩
    · exact h
    · exact mT_fr h2 (fun n k q => hc.2.2 n k (hn n k q)) e e2
  · rcases hL t ht with h | ⟨e, hn, hcu⟩
    · exact h
    · rw [e]; exact mL_cu (mL_fr (h3 t ht) (fun n k q => hc.2.2 n k (hn n k q))) hcu
  · rcases hS i hi with h | ⟨e, hn⟩
    · exact h
    · rw [e]; exact mS_fr (h4 i hi) (fun n k q => hc.2.2 n k (hn n k q))
  · rcases hC with h | ⟨e, e2, hn⟩
    · exact h
    · exact mC_fr h5 (fun n k q => hc.2.2 n k (hn n k q)) e e2
  · rcases hG i hi with h | ⟨e, hn⟩
    · exact h
    · rw [e]; exact mG_fr (h6 i hi) (fun n k q => hc.2.2 n k (hn n k q))
/-- one log and some counters -/
def oW (t n k : Nat) : Prop := oL t n k ∨ (n = 1000 ∧ 22 ≤ k ∧ k ≤ 26)
theorem oL_oL {t t2 n k : Nat} (h : t2 ≠ t) (h1 : oL t2 n k) : ¬ oL t n k := fun h2 => by unfold oL at h1 h2; omega
theorem zMdA_L {S S' : zS} {b : zBr} {t : Nat} {g : zLg} {c : Int32 × Int32 × Int32 × Int32 × Int32} (h : zMdA S b) (hc : zch (oW t) S S') (hN : mN S' c) (hL : mL S' b.2.2.2.1 t g) (h1 : g.1 = (b.2.1 t).1) : zMdA S' (bN (bG b t g) c) := by
  refine zMdA_upd h hc (Or.inl hN) (Or.inr ⟨rfl, fun t2 _ => ?_, fun n k h1 h2 => by unfold oT at h1; unfold oW oL at h2; omega⟩) (fun t2 _ => ?_) (fun i _ => Or.inr ⟨rfl, fun n k h1 h2 => by unfold oS at h1; unfold oW oL at h2; omega⟩) (Or.inr ⟨rfl, rfl, fun n k h1 h2 => by unfold oC at h1; unfold oW oL at h2; omega⟩) (fun i _ => Or.inr ⟨rfl, fun n k h1 h2 => by unfold oG at h1; unfold oW oL at h2; omega⟩)
  · show ((if t2 = t then g else b.2.1 t2) : zLg).1 = (b.2.1 t2).1
    by_cases e : t2 = t
    · rw [if_pos e, e]; exact h1
    · rw [if_neg e]
  · by_cases e : t2 = t
    · subst e
      refine Or.inl ?_
      show mL S' b.2.2.2.1 t2 (if t2 = t2 then g else b.2.1 t2)
      rw [if_pos rfl]; exact hL
    · refine Or.inr ⟨if_neg e, fun n k h1 h2 => ?_, fun _ _ _ _ => rfl⟩
      rcases h2 with h2 | h2
      · exact oL_oL e h1 h2
      · unfold oL at h1; omega
theorem mL_drop {S : zS} {cu : Nat → Int32} {t o : Nat} {g : zLg} (h : mL S cu t g) (ho : o < 60) : mL (zsi S 1007 (t * 60 + o) (-1)) cu t (zDrop g o) := by
  refine ⟨rd_i (Or.inl (by omega)) h.1, rd_i (Or.inl (by omega)) h.2.1, fun j hj => ?_⟩
  show mE _ cu (t * 60 + j) (if j = o then none else g.2.2 j)
  by_cases e : j = o
  · rw [if_pos e, e]; exact rd_s
  · rw [if_neg e]
    exact mE_fr (h.2.2 j hj) (fun n _ _ => rd_i (Or.inr (by omega)) rfl) (fun _ _ _ => rfl)
theorem mL_app {S S' : zS} {cu : Nat → Int32} {t : Nat} {g : zLg} {e : zE} (h : mL S cu t g) (hc : zch (fun n k => (1007 ≤ n ∧ n ≤ 1012 ∧ k = t * 60 + g.2.1.2) ∨ (n = 1006 ∧ k = t) ∨ n = 1000) S S') (h6 : S'.2.1 1006 t = nI (g.2.1.2 + 1)) (hE : mE S' cu (t * 60 + g.2.1.2) (some e)) : mL S' cu t (zApp g e) := by
  refine ⟨(hc.2.2 _ _ (by omega)).trans h.1, h6, fun j hj => ?_⟩
  show mE _ cu (t * 60 + j) (if j = g.2.1.2 then some e else g.2.2 j)
  by_cases e9 : j = g.2.1.2
  · rw [if_pos e9, e9]; exact hE
  · rw [if_neg e9]
    exact mE_fr (h.2.2 j hj) (fun n _ _ => hc.2.2 _ _ (by omega)) (fun _ _ _ => rfl)
/-- shortening: the records below k are gone -/
def zDr (g : zLg) (k : Nat) : zLg := (g.1, g.2.1, fun j => if j < k then none else g.2.2 j)
theorem zDr_0 {g : zLg} (h : zLogW g) : zDr g g.2.1.1 = g := by
  have e : (fun j => if j < g.2.1.1 then none else g.2.2 j) = g.2.2 := by
    funext j
    by_cases hj : j < g.2.1.1
    · rw [if_pos hj, h.2.2.2.2.2.2.2.2 j hj]
    · rw [if_neg hj]
  unfold zDr
  rw [e]
theorem zDr_s {g : zLg} {k : Nat} : zDr g (k + 1) = zDrop (zDr g k) k := by
  have e : (fun j => if j < k + 1 then none else g.2.2 j) = fun j => if j = k then none else (if j < k then none else g.2.2 j) := by
    funext j
    by_cases h1 : j = k
    · rw [if_pos h1, if_pos (by omega)]
    · rw [if_neg h1]
      by_cases h2 : j < k
      · rw [if_pos h2, if_pos (by omega)]
      · rw [if_neg h2, if_neg (by omega)]
  unfold zDr zDrop
  rw [e]
theorem zDr_at {g : zLg} {k j : Nat} (h : k ≤ j) : (zDr g k).2.2 j = g.2.2 j := if_neg (by omega)
theorem zDr_le {g : zLg} {k : Nat} : zPr (zDr g k) ≤ zPr g := zPr_mono (fun o h => by
  show (if o < k then none else g.2.2 o) = none
  by_cases h1 : o < k
  · rw [if_pos h1]
  · rw [if_neg h1]; exact h)
theorem zPr_sh1 {g : zLg} : zPr (zSh1 g) = zPr (zDr g (g.2.1.1 + g.1.1)) := rfl
theorem mL_sh1 {S : zS} {cu : Nat → Int32} {t : Nat} {g : zLg} (h : mL S cu t (zDr g (g.2.1.1 + g.1.1))) : mL (zsi S 1005 t (nI (g.2.1.1 + g.1.1))) cu t (zSh1 g) :=
  ⟨rd_s, rd_i (Or.inl (by omega)) h.2.1, fun o ho => mE_fr (h.2.2 o ho) (fun n _ _ => rd_i (Or.inl (by omega)) rfl) (fun _ _ _ => rfl)⟩
theorem zStab_sh1 {g : zLg} (hW : zLogW g) (hW2 : zLogW (zSh1 g)) (h : g.2.1.1 + g.1.1 ≤ zStab g) : zStab (zSh1 g) = zStab g := by
  rw [zStab_0 hW2, zStab_0 hW]
  show (zfind (fun o => zUnd ((zSh1 g).2.2 o)) g.2.1.2 0).getD g.2.1.2 = _
  rw [zfind_congr (q := fun o => zUnd (g.2.2 o)) (fun j _ hj => ?_)]
  show zUnd (if j < g.2.1.1 + g.1.1 then none else g.2.2 j) = zUnd (g.2.2 j)
  by_cases h1 : j < g.2.1.1 + g.1.1
  · rw [if_pos h1]
    show false = _
    cases hg : g.2.2 j with
    | none => rfl
    | some e =>
      rcases Nat.lt_or_ge j g.2.1.1 with h2 | h2
      · rw [hW.2.2.2.2.2.2.2.2 j h2] at hg; cases hg
      · exact (decide_eq_false (zStab_und h2 (by omega) hg)).symm
  · rw [if_neg h1]
theorem zShort_y {stb f : Nat} {g : zLg} (h : g.1.2.1 < zCl g ∧ g.2.1.1 + g.1.1 ≤ stb) : zShort stb (f + 1) g = zShort stb f (zSh1 g) := if_pos h
theorem zShort_n {stb f : Nat} {g : zLg} (h : ¬ (g.1.2.1 < zCl g ∧ g.2.1.1 + g.1.1 ≤ stb)) : zShort stb (f + 1) g = g := if_neg h
theorem zShort_le {stb : Nat} : ∀ {f : Nat} {g : zLg}, zPr (zShort stb f g) ≤ zPr g := fun {f g} => zPr_mono (fun o h => by
  cases h1 : (zShort stb f g).2.2 o with
  | none => rfl
  | some e => rw [zShort_1.2.2 o e h1] at h; cases h)
theorem zEW_k0 {e : zE} (h : zEW e) : ¬ e.1 < 0 := by
  obtain ⟨k, hk, e1⟩ := h.1
  rw [e1]; exact nI_pos (by omega)
theorem zEW_kg {e : zE} (h : zEW e) : 0 ≤ e.1 := Int32.not_lt.mp (zEW_k0 h)
/-- every log, there or not -/
theorem zLogW_0 : zLogW zLg0 := ⟨by decide, by decide, by decide, by decide, Nat.zero_le _, Nat.zero_le _, rfl, fun _ _ => rfl, fun _ _ => rfl⟩
theorem zBrW_a {b : zBr} (hW : zBrW b) (hE : zBrE b) {t : Nat} (ht : t < 12) : zLogW (b.2.1 t) ∧ ∀ o e, (b.2.1 t).2.2 o = some e → zEW e := by
  by_cases hx : zEx b t
  · exact ⟨hW.2.1 t hx, hW.2.2.1 t hx⟩
  · rw [hE t ht hx]; exact ⟨zLogW_0, fun o e h => by cases h⟩
/-- compacting, upwards -/
def zCmp (g : zLg) (k : Nat) : zLg := (g.1, g.2.1, fun j => if j < k ∧ zGoes g (zStab g) j = true then none else g.2.2 j)
theorem zCmp_0 {g : zLg} (h : zLogW g) : zCmp g g.2.1.1 = g := by
  have e : (fun j => if j < g.2.1.1 ∧ zGoes g (zStab g) j = true then none else g.2.2 j) = g.2.2 := by
    funext j
    by_cases hj : j < g.2.1.1 ∧ zGoes g (zStab g) j = true
    · rw [if_pos hj, h.2.2.2.2.2.2.2.2 j hj.1]
    · rw [if_neg hj]
  unfold zCmp
  rw [e]
theorem zCmp_y {g : zLg} {k : Nat} (h : zGoes g (zStab g) k = true) : zCmp g (k + 1) = zDrop (zCmp g k) k := by
  have e : (fun j => if j < k + 1 ∧ zGoes g (zStab g) j = true then none else g.2.2 j) = fun j => if j = k then none else (if j < k ∧ zGoes g (zStab g) j = true then none else g.2.2 j) := by
    funext j
    by_cases h1 : j = k
    · rw [if_pos h1, if_pos ⟨by omega, by rw [h1]; exact h⟩]
    · rw [if_neg h1]
      by_cases h2 : j < k ∧ zGoes g (zStab g) j = true
      · rw [if_pos h2, if_pos ⟨by omega, h2.2⟩]
      · rw [if_neg h2, if_neg (fun q => h2 ⟨by omega, q.2⟩)]
  unfold zCmp zDrop
  rw [e]
theorem zCmp_n {g : zLg} {k : Nat} (h : ¬ zGoes g (zStab g) k = true) : zCmp g (k + 1) = zCmp g k := by
  have e : (fun j => if j < k + 1 ∧ zGoes g (zStab g) j = true then none else g.2.2 j) = fun j => if j < k ∧ zGoes g (zStab g) j = true then none else g.2.2 j := by
    funext j
    by_cases h2 : j < k ∧ zGoes g (zStab g) j = true
    · rw [if_pos h2, if_pos ⟨by omega, h2.2⟩]
    · rw [if_neg h2, if_neg (fun q => h2 ⟨by
        rcases Nat.lt_or_ge j k with h3 | h3
        · exact h3
        · have : j = k := by omega
          subst this; exact absurd q.2 h, q.2⟩)]
  unfold zCmp
  rw [e]
theorem zCmp_at {g : zLg} {k j : Nat} (h : k ≤ j) : (zCmp g k).2.2 j = g.2.2 j := if_neg (by omega)
theorem zCmp_end {g : zLg} {k : Nat} (h : k = min (zBa g) (zStab g)) : zCmp g k = zComp g := by
  have e : (fun j => if j < k ∧ zGoes g (zStab g) j = true then none else g.2.2 j) = fun o => if o < zStab g ∧ o < zBa g ∧ zGoes g (zStab g) o = true then none else g.2.2 o := by
    funext j
    by_cases h1 : j < k ∧ zGoes g (zStab g) j = true
    · rw [if_pos h1, if_pos ⟨by omega, by omega, h1.2⟩]
    · rw [if_neg h1, if_neg (fun q => h1 ⟨by omega, q.2.2⟩)]
  unfold zCmp zComp
  rw [e]
theorem zCmp_le {g : zLg} {k : Nat} : zPr (zCmp g k) ≤ zPr g := zPr_mono (fun o h => by
  show (if o < k ∧ zGoes g (zStab g) o = true then none else g.2.2 o) = none
  by_cases h1 : o < k ∧ zGoes g (zStab g) o = true
  · rw [if_pos h1]
  · rw [if_neg h1]; exact h)
theorem zCmp_W {g : zLg} {k : Nat} (hW : zLogW g) (hV : ∀ o e, g.2.2 o = some e → zEW e) : zLogW (zCmp g k) ∧ ∀ o e, (zCmp g k).2.2 o = some e → zEW e := by
  refine ⟨zLogW_ent hW (fun o h => ?_), fun o e h => hV o e ?_⟩
  · show (if o < k ∧ zGoes g (zStab g) o = true then none else g.2.2 o) = none
    by_cases h1 : o < k ∧ zGoes g (zStab g) o = true
    · rw [if_pos h1]
    · rw [if_neg h1]; exact h
  · have h' : (if o < k ∧ zGoes g (zStab g) o = true then none else g.2.2 o) = some e := h
    by_cases h1 : o < k ∧ zGoes g (zStab g) o = true
    · rw [if_pos h1] at h'; cases h'
    · rw [if_neg h1] at h'; exact h'
theorem zCmp_new {g : zLg} {k stb o : Nat} {key : Int32} (h : k ≤ o) : zNew (zCmp g k) stb o key = zNew g stb o key := by
  unfold zNew
  rw [zfind_congr (q := fun j => zCK key (g.2.2 j)) (fun j h1 _ => by rw [zCmp_at (show k ≤ j by omega)])]
theorem zGo_new {g : zLg} {stb q : Nat} {r : zE} (he : g.2.2 q = some r) (hk0 : r.1 = nI 0) (hk : ¬ r.2.1 = -1) (hn : zNew g stb q r.2.1 = true) : zGoes g stb q = true := by
  unfold zGoes
  rw [he]
  show (decide _ && (_ || (decide _ && zNew _ _ _ _))) = true
  rw [decide_eq_true hk0, decide_eq_true hk, hn]
  simp
theorem zGo_k {g : zLg} {stb q : Nat} {r : zE} (he : g.2.2 q = some r) (hk0 : ¬ r.1 = nI 0) : ¬ zGoes g stb q = true := by
  unfold zGoes
  rw [he]
  show ¬ (decide _ && _) = true
  rw [decide_eq_false hk0]
  simp
theorem zGo_n {g : zLg} {stb q : Nat} (he : g.2.2 q = none) : ¬ zGoes g stb q = true := by
  unfold zGoes
  rw [he]
  simp
theorem zGo_m {g : zLg} {stb q : Nat} {r : zE} (he : g.2.2 q = some r) (h1 : ¬ r.2.2.2.2 = nI 1) (h2 : r.2.1 = -1 ∨ ¬ zNew g stb q r.2.1 = true) : ¬ zGoes g stb q = true := by
  unfold zGoes
  rw [he]
  show ¬ (decide _ && (decide _ || (decide _ && zNew _ _ _ _))) = true
  rw [decide_eq_false h1]
  rcases h2 with h2 | h2
  · rw [decide_eq_false (p := ¬ r.2.1 = -1) (fun q => q h2)]; simp
  · rw [Bool.eq_false_iff.mpr h2]; simp
theorem mL_ent {S : zS} {cu : Nat → Int32} {t : Nat} {g g2 : zLg} (h : mL S cu t g) (h1 : g2.2.1 = g.2.1) (h2 : ∀ o, o < 60 → g2.2.2 o = g.2.2 o) : mL S cu t g2 :=
  ⟨by rw [h1]; exact h.1, by rw [h1]; exact h.2.1, fun o ho => by rw [h2 o ho]; exact h.2.2 o ho⟩
/-- the records below j, in the order of the reference's cells, are settled -/
def bF (b : zBr) (q x : Int32) (j : Nat) : zBr := (b.1, (fun t => ((b.2.1 t).1, (b.2.1 t).2.1, fun o => if t * 60 + o < j then (zSet (b.2.1 t) q x).2.2 o else (b.2.1 t).2.2 o)), b.2.2)
theorem bF_0 {b : zBr} {q x : Int32} : bF b q x 0 = b := by
  have e : (fun t => ((b.2.1 t).1, (b.2.1 t).2.1, fun o => if t * 60 + o < 0 then (zSet (b.2.1 t) q x).2.2 o else (b.2.1 t).2.2 o)) = b.2.1 := by
    funext t
    have e2 : (fun o => if t * 60 + o < 0 then (zSet (b.2.1 t) q x).2.2 o else (b.2.1 t).2.2 o) = (b.2.1 t).2.2 := by
      funext o; exact if_neg (by omega)
    rw [e2]
  unfold bF
  rw [e]
theorem bF_end {b : zBr} {q x : Int32} (hE : ∀ t, t < 12 → ∀ o, 60 ≤ o → (b.2.1 t).2.2 o = none) : bF b q x 720 = bSk b q x 12 := by
  have e : (fun t => ((b.2.1 t).1, (b.2.1 t).2.1, fun o => if t * 60 + o < 720 then (zSet (b.2.1 t) q x).2.2 o else (b.2.1 t).2.2 o)) = fun t => if t < 12 then zSet (b.2.1 t) q x else b.2.1 t := by
    funext t
    by_cases ht : t < 12
    · rw [if_pos ht]
      have e2 : (fun o => if t * 60 + o < 720 then (zSet (b.2.1 t) q x).2.2 o else (b.2.1 t).2.2 o) = (zSet (b.2.1 t) q x).2.2 := by
        funext o
        by_cases ho : t * 60 + o < 720
        · rw [if_pos ho]
        · rw [if_neg ho]
          show _ = ((b.2.1 t).2.2 o).map _
          rw [hE t ht o (by omega)]; rfl
      rw [e2]; rfl
    · rw [if_neg ht]
      have e2 : (fun o => if t * 60 + o < 720 then (zSet (b.2.1 t) q x).2.2 o else (b.2.1 t).2.2 o) = (b.2.1 t).2.2 := by
        funext o; exact if_neg (by omega)
      rw [e2]
  unfold bF bSk
  rw [e]
theorem bF_at {b : zBr} {q x : Int32} {j t o : Nat} (h : j ≤ t * 60 + o) : ((bF b q x j).2.1 t).2.2 o = (b.2.1 t).2.2 o := if_neg (by omega)
/-- one cell further -/
theorem bF_n {S : zS} {b : zBr} {q x : Int32} {t o : Nat} (ho : o < 60) (h : zMdA S (bF b q x (t * 60 + o))) (hn : (zSet (b.2.1 t) q x).2.2 o = (b.2.1 t).2.2 o) : zMdA S (bF b q x (t * 60 + o + 1)) := by
  refine zMdA_upd (own := fun _ _ => False) h zch.rf (Or.inr ⟨rfl, fun _ _ _ h => h⟩) (Or.inr ⟨rfl, fun _ _ => rfl, fun _ _ _ h => h⟩) (fun t2 ht2 => Or.inl ?_) (fun i _ => Or.inr ⟨rfl, fun _ _ _ h => h⟩) (Or.inr ⟨rfl, rfl, fun _ _ _ h => h⟩) (fun i _ => Or.inr ⟨rfl, fun _ _ _ h => h⟩)
  refine mL_ent (h.2.2.2.1 t2 ht2) rfl (fun o2 ho2 => ?_)
  show (if t2 * 60 + o2 < t * 60 + o + 1 then (zSet (b.2.1 t2) q x).2.2 o2 else (b.2.1 t2).2.2 o2) = if t2 * 60 + o2 < t * 60 + o then (zSet (b.2.1 t2) q x).2.2 o2 else (b.2.1 t2).2.2 o2
  by_cases e : t2 * 60 + o2 = t * 60 + o
  · have e1 : t2 = t := by omega
    have e2 : o2 = o := by omega
    subst e1 e2
    rw [if_pos (by omega), if_neg (by omega)]; exact hn
  · by_cases e1 : t2 * 60 + o2 < t * 60 + o
    · rw [if_pos e1, if_pos (by omega)]
    · rw [if_neg e1, if_neg (by omega)]
theorem bF_y {S : zS} {b : zBr} {q x : Int32} {t o : Nat} {r : zE} (ht : t < 12) (ho : o < 60) (h : zMdA S (bF b q x (t * 60 + o))) (he : (b.2.1 t).2.2 o = some r) (hr : r.2.2.2.2 = nI 2 ∧ r.2.2.2.1 = q) (hx : ¬ x = nI 2) : zMdA (zsi S 1011 (t * 60 + o) x) (bF b q x (t * 60 + o + 1)) := by
  have hs : (zSet (b.2.1 t) q x).2.2 o = some (r.1, r.2.1, r.2.2.1, r.2.2.2.1, x) := by
    show ((b.2.1 t).2.2 o).map _ = _
    rw [he]
    show some (if r.2.2.2.2 = nI 2 ∧ r.2.2.2.1 = q then _ else _) = _
    rw [if_pos hr]
  refine zMdA_upd (own := fun n k => n = 1011 ∧ k = t * 60 + o) h (zch.i ⟨rfl, rfl⟩) (Or.inr ⟨rfl, fun n k h1 h2 => by unfold oN at h1; omega⟩) (Or.inr ⟨rfl, fun _ _ => rfl, fun n k h1 h2 => by unfold oT at h1; omega⟩) (fun t2 ht2 => Or.inl ?_) (fun i _ => Or.inr ⟨rfl, fun n k h1 h2 => by unfold oS at h1; omega⟩) (Or.inr ⟨rfl, rfl, fun n k h1 h2 => by unfold oC at h1; omega⟩) (fun i _ => Or.inr ⟨rfl, fun n k h1 h2 => by unfold oG at h1; omega⟩)
  obtain ⟨l1, l2, l3⟩ := h.2.2.2.1 t2 ht2
  refine ⟨rd_i (Or.inl (by omega)) l1, rd_i (Or.inl (by omega)) l2, fun o2 ho2 => ?_⟩
  have l4 := l3 o2 ho2
  show mE _ _ _ (if t2 * 60 + o2 < t * 60 + o + 1 then (zSet (b.2.1 t2) q x).2.2 o2 else (b.2.1 t2).2.2 o2)
  have l5 : mE S b.2.2.2.1 (t2 * 60 + o2) (if t2 * 60 + o2 < t * 60 + o then (zSet (b.2.1 t2) q x).2.2 o2 else (b.2.1 t2).2.2 o2) := l4
  by_cases e : t2 * 60 + o2 = t * 60 + o
  · have e1 : t2 = t := by omega
    have e2 : o2 = o := by omega
    subst e1 e2
    rw [if_neg (by omega), he] at l5
    rw [if_pos (by omega), hs]
    obtain ⟨m1, m2, m3, m4, m5, m6⟩ := l5
    exact ⟨rd_i (Or.inl (by omega)) m1, rd_i (Or.inl (by omega)) m2, rd_i (Or.inl (by omega)) m3, rd_i (Or.inl (by omega)) m4, rd_s, fun q => absurd q hx⟩
  · have e3 : (if t2 * 60 + o2 < t * 60 + o + 1 then (zSet (b.2.1 t2) q x).2.2 o2 else (b.2.1 t2).2.2 o2) = if t2 * 60 + o2 < t * 60 + o then (zSet (b.2.1 t2) q x).2.2 o2 else (b.2.1 t2).2.2 o2 := by
      by_cases e1 : t2 * 60 + o2 < t * 60 + o
      · rw [if_pos e1, if_pos (by omega)]
      · rw [if_neg e1, if_neg (by omega)]
    rw [e3]
    exact mE_fr l5 (fun n _ _ => rd_i (Or.inr (by omega)) rfl) (fun _ _ _ => rfl)
theorem zSet_same {g : zLg} {q x : Int32} {o : Nat} (h : ∀ r, g.2.2 o = some r → ¬ (r.2.2.2.2 = nI 2 ∧ r.2.2.2.1 = q)) : (zSet g q x).2.2 o = g.2.2 o := by
  show (g.2.2 o).map _ = _
  cases he : g.2.2 o with
  | none => rfl
  | some r =>
    show some (if r.2.2.2.2 = nI 2 ∧ r.2.2.2.1 = q then _ else _) = _
    rw [if_neg (h r he)]
/-- a record is written -/
theorem zMdA_wr {S S' : zS} {b : zBr} {t : Nat} {e : zE} (h : zMdA S b) (hc : zch (oW t) S S') (hL : mL S' b.2.2.2.1 t (zWr (b.2.1 t) e)) (h22 : S'.2.1 1000 22 = S.2.1 1000 22 + nI 1) (h25 : S'.2.1 1000 25 = S.2.1 1000 25 + nI (zWd (b.2.1 t) e)) (h23 : S'.2.1 1000 23 = S.2.1 1000 23) (h24 : S'.2.1 1000 24 = S.2.1 1000 24) (h26 : S'.2.1 1000 26 = S.2.1 1000 26) : zMdA S' (bW b t e) := by
  have hN := h.2.1
  exact zMdA_L h hc ⟨by rw [h22, hN.1], by rw [h23]; exact hN.2.1, by rw [h24]; exact hN.2.2.1, by rw [h25, hN.2.2.2.1], by rw [h26]; exact hN.2.2.2.2⟩ hL zShort_1.1
/-- one session's cells -/
theorem zMdA_S {S S' : zS} {b : zBr} {i : Nat} {u : zSn} (h : zMdA S b) (hc : zch (oS i) S S') (hS : mS S' i u) : zMdA S' (bS b i u) := by
  refine zMdA_upd h hc (Or.inr ⟨rfl, fun n k h1 h2 => by unfold oN at h1; unfold oS at h2; omega⟩) (Or.inr ⟨rfl, fun _ _ => rfl, fun n k h1 h2 => by unfold oT at h1; unfold oS at h2; omega⟩) (fun t2 _ => Or.inr ⟨rfl, fun n k h1 h2 => by unfold oL at h1; unfold oS at h2; omega, fun _ _ _ _ => rfl⟩) (fun j _ => ?_) (Or.inr ⟨rfl, rfl, fun n k h1 h2 => by unfold oC at h1; unfold oS at h2; omega⟩) (fun i _ => Or.inr ⟨rfl, fun n k h1 h2 => by unfold oG at h1; unfold oS at h2; omega⟩)
  by_cases e : j = i
  · subst e
    refine Or.inl ?_
    show mS S' j (if j = j then u else b.2.2.1 j)
    rw [if_pos rfl]; exact hS
  · exact Or.inr ⟨if_neg e, fun n k h1 h2 => by unfold oS at h1 h2; omega⟩
theorem zMdA_H {S S' : zS} {b : zBr} {i : Nat} {u : zGr} (h : zMdA S b) (hc : zch (oG i) S S') (hG : mG S' i u) : zMdA S' (bH b i u) := by
  refine zMdA_upd h hc (Or.inr ⟨rfl, fun n k h1 h2 => by unfold oN at h1; unfold oG at h2; omega⟩) (Or.inr ⟨rfl, fun _ _ => rfl, fun n k h1 h2 => by unfold oT at h1; unfold oG at h2; omega⟩) (fun t2 _ => Or.inr ⟨rfl, fun n k h1 h2 => by unfold oL at h1; unfold oG at h2; omega, fun _ _ _ _ => rfl⟩) (fun j _ => Or.inr ⟨rfl, fun n k h1 h2 => by unfold oS at h1; unfold oG at h2; omega⟩) (Or.inr ⟨rfl, rfl, fun n k h1 h2 => by unfold oC at h1; unfold oG at h2; omega⟩) (fun j _ => ?_)
  by_cases e : j = i
  · subst e
    refine Or.inl ?_
    show mG S' j (if j = j then u else b.2.2.2.2.2.1 j)
    rw [if_pos rfl]; exact hG
  · exact Or.inr ⟨if_neg e, fun n k h1 h2 => by unfold oG at h1 h2; omega⟩
/-- counters alone -/
theorem zMdA_N {S S' : zS} {b : zBr} {c : Int32 × Int32 × Int32 × Int32 × Int32} (h : zMdA S b) (hc : zch oN S S') (hN : mN S' c) : zMdA S' (bN b c) :=
  zMdA_upd h hc (Or.inl hN) (Or.inr ⟨rfl, fun _ _ => rfl, fun n k h1 h2 => by unfold oT at h1; unfold oN at h2; omega⟩) (fun t2 _ => Or.inr ⟨rfl, fun n k h1 h2 => by unfold oL at h1; unfold oN at h2; omega, fun _ _ _ _ => rfl⟩) (fun j _ => Or.inr ⟨rfl, fun n k h1 h2 => by unfold oS at h1; unfold oN at h2; omega⟩) (Or.inr ⟨rfl, rfl, fun n k h1 h2 => by unfold oC at h1; unfold oN at h2; omega⟩) (fun j _ => Or.inr ⟨rfl, fun n k h1 h2 => by unfold oG at h1; unfold oN at h2; omega⟩)
/-- who may take part: the session that is its producer's current one -/
theorem zHq {b : zBr} {i : Nat} (hC : zBrC b) (hV : ∀ t, t < 12 → ∀ o e, (b.2.1 t).2.2 o = some e → zEW e) (hi : i < 6) (hq : ∃ k, k < 4 ∧ (b.2.2.1 i).1 = nI k) (hcur : zCur b i) {t o : Nat} {e : zE} (ht : t < 12) (he : (b.2.1 t).2.2 o = some e) : (b.2.2.2.1 e.2.2.2.1.toNatClampNeg = nI i ↔ e.2.2.2.1 = (b.2.2.1 i).1) := by
  obtain ⟨k, hk, e1⟩ := (hV t ht o e he).2.2.1
  rw [e1, nI_clamp (by omega)]
  constructor
  · intro h; exact (hC k i hk hi h).symm
  · intro h
    unfold zCur at hcur
    rw [← h, nI_clamp (by omega)] at hcur
    exact hcur
/-- the cells of shortening, of writing, all but what was thrown -/
def oH (t n k : Nat) : Prop := (n = 1005 ∧ k = t) ∨ (n = 1007 ∧ t * 60 ≤ k ∧ k < t * 60 + 60) ∨ (n = 1000 ∧ k = 25)
def oV (t n k : Nat) : Prop := oL t n k ∨ (n = 1000 ∧ (k = 22 ∨ k = 25))
def oQ (n k : Nat) : Prop := 1000 ≤ n ∧ n < 1023 ∧ ¬ (n = 1000 ∧ k = 27)
theorem oV_W {t n k : Nat} (h : oV t n k) : oW t n k := h.elim Or.inl (fun h => Or.inr ⟨h.1, by omega, by omega⟩)
theorem oV_Q {t n k : Nat} (h : oV t n k) : oQ n k := by unfold oV oL at h; unfold oQ; omega
theorem oH_V {t n k : Nat} (h : oH t n k) : oV t n k := by unfold oH at h; unfold oV oL; omega
theorem zCl_60 {g : zLg} (hW : zLogW g) : zCl g ≤ 60 := by
  have h1 := zBa_le g
  have h2 := hW.2.2.2.2.2.1
  unfold zCl
  exact Nat.le_trans (Nat.div_le_self _ _) (by omega)
theorem sh_y {S S2 : zS} {cu : Nat → Int32} {t o P : Nat} {g : zLg} {r : zE} (hL : mL S2 cu t (zDr g o)) (h25 : S2.2.1 1000 25 = S.2.1 1000 25 + nI (P - zPr (zDr g o))) (hc : zch (oH t) S S2) (ho : o < 60) (he : g.2.2 o = some r) (hle : zPr g ≤ P) :
    mL (zsi (zsi S2 1000 25 (S2.2.1 1000 25 + nI 1)) 1007 (t * 60 + o) (-1)) cu t (zDr g (o + 1)) ∧ (zsi (zsi S2 1000 25 (S2.2.1 1000 25 + nI 1)) 1007 (t * 60 + o) (-1)).2.1 1000 25 = S.2.1 1000 25 + nI (P - zPr (zDr g (o + 1))) ∧ zch (oH t) S (zsi (zsi S2 1000 25 (S2.2.1 1000 25 + nI 1)) 1007 (t * 60 + o) (-1)) := by
  refine ⟨?_, ?_, (hc.tr (zch.i (Or.inr (Or.inr ⟨rfl, rfl⟩)))).tr (zch.i (Or.inr (Or.inl ⟨rfl, by omega, by omega⟩)))⟩
  · rw [zDr_s]
    exact mL_drop (mL_fr hL (fun n k h => rd_i (Or.inl (by unfold oL at h; omega)) rfl)) ho
  · refine rd_i (Or.inl (by omega)) (rd_s.trans ?_)
    have h1 := zPr_drop (g := zDr g o) ho (by rw [zDr_at (Nat.le_refl _)]; exact he)
    have h2 := zDr_le (g := g) (k := o)
    rw [← zDr_s] at h1
    rw [h25, zIa, show P - zPr (zDr g o) + 1 = P - zPr (zDr g (o + 1)) by omega]
theorem sh_n {S S2 : zS} {cu : Nat → Int32} {t o P : Nat} {g : zLg} (hL : mL S2 cu t (zDr g o)) (h25 : S2.2.1 1000 25 = S.2.1 1000 25 + nI (P - zPr (zDr g o))) (hc : zch (oH t) S S2) (ho : o < 60) (he : g.2.2 o = none) :
    mL (zsi S2 1007 (t * 60 + o) (-1)) cu t (zDr g (o + 1)) ∧ (zsi S2 1007 (t * 60 + o) (-1)).2.1 1000 25 = S.2.1 1000 25 + nI (P - zPr (zDr g (o + 1))) ∧ zch (oH t) S (zsi S2 1007 (t * 60 + o) (-1)) := by
  refine ⟨?_, ?_, hc.tr (zch.i (Or.inr (Or.inl ⟨rfl, by omega, by omega⟩)))⟩
  · rw [zDr_s]; exact mL_drop hL ho
  · refine rd_i (Or.inl (by omega)) ?_
    rw [h25, zDr_s, zDrop_none (by rw [zDr_at (Nat.le_refl _)]; exact he)]
theorem sh_e {S S2 : zS} {cu : Nat → Int32} {t P : Nat} {g : zLg} (hL : mL S2 cu t (zDr g (g.2.1.1 + g.1.1))) (h25 : S2.2.1 1000 25 = S.2.1 1000 25 + nI (P - zPr (zDr g (g.2.1.1 + g.1.1)))) (hc : zch (oH t) S S2) :
    mL (zsi S2 1005 t (nI (g.2.1.1 + g.1.1))) cu t (zSh1 g) ∧ (zsi S2 1005 t (nI (g.2.1.1 + g.1.1))).2.1 1000 25 = S.2.1 1000 25 + nI (P - zPr (zSh1 g)) ∧ zch (oH t) S (zsi S2 1005 t (nI (g.2.1.1 + g.1.1))) :=
  ⟨mL_sh1 hL, rd_i (Or.inl (by omega)) (by rw [h25, zPr_sh1]), hc.tr (zch.i (Or.inl ⟨rfl, rfl⟩))⟩
theorem zSh1_V {g : zLg} (hV : ∀ o e, g.2.2 o = some e → zEW e) : ∀ o e, (zSh1 g).2.2 o = some e → zEW e := fun o e h => by
  have h' : (if o < g.2.1.1 + g.1.1 then none else g.2.2 o) = some e := h
  by_cases h1 : o < g.2.1.1 + g.1.1
  · rw [if_pos h1] at h'; cases h'
  · rw [if_neg h1] at h'; exact hV o e h'
theorem zSh1_cl {g : zLg} (hW : zLogW g) (h : 0 < zCl g) : zCl (zSh1 g) < zCl g := by
  obtain ⟨w1, w2, w3, w4, w5, w6, w7, w8, w9⟩ := hW
  revert h
  unfold zCl zBa zSh1
  dsimp only
  generalize g.2.1.2 = en
  generalize g.2.1.1 = st
  exact z4 (P := fun n => 0 < (en / n * n - st) / n → (en / n * n - (st + n)) / n < (en / n * n - st) / n) (by omega) (by omega) (by omega) (by omega) w1 w2
theorem zApp_V {g : zLg} {e : zE} (hV : ∀ o e, g.2.2 o = some e → zEW e) (he : zEW e) : ∀ o e2, (zApp g e).2.2 o = some e2 → zEW e2 := fun o e2 h => by
  have h' : (if o = g.2.1.2 then some e else g.2.2 o) = some e2 := h
  by_cases h1 : o = g.2.1.2
  · rw [if_pos h1] at h'; cases h'; exact he
  · rw [if_neg h1] at h'; exact hV o e2 h'
def zWs (w : Nat) (u : zSn) : Int32 := if w = 0 ∧ ¬ u.2.1 = nI 0 then nI 2 else nI 0
theorem zWs_n {w : Nat} {u : zSn} (h : ¬ w = 0 ∨ u.2.1 = nI 0) : zWs w u = nI 0 := if_neg (fun q => h.elim (fun h => h q.1) (fun h => q.2 h))
theorem zWs_y {w : Nat} {u : zSn} (h : w = 0) (h2 : ¬ u.2.1 = nI 0) : zWs w u = nI 2 := if_pos ⟨h, h2⟩
theorem zWs_pe {u : zSn} {k v : Int32} : (nI 0, k, v, u.1, zWs 0 u) = zPe u k v := by
  unfold zPe
  by_cases h : u.2.1 = nI 0
  · rw [zWs_n (Or.inr h), if_pos h]
  · rw [zWs_y rfl h, if_neg h]
theorem zWs_mk {u : zSn} {c : Bool} : (nI (if c = true then 1 else 2), -1, nI 0, u.1, zWs (if c = true then 1 else 2) u) = zMk u.1 c := by
  unfold zMk
  cases c with
  | true => rw [zWs_n (Or.inl (by decide))]; rfl
  | false => rw [zWs_n (Or.inl (by decide))]; rfl
theorem zRoom_f {b : zBr} {q : Int32} {t : Nat} (ht : t < 12) (h1 : zHasU (b.2.1 t) q = true) (h2 : ¬ (b.2.1 t).2.1.2 < 60) : ¬ zRoom b q = true := fun h => h2 (zRoom_iff.mp h t ht h1)
