/-! what holds of the broker between two calls -/
def vI1 (b : zBr) : Prop := ∀ i, i < 6 → (b.2.2.1 i).2.1 = nI 1 → ∃ q, q < 4 ∧ (b.2.2.1 i).1 = nI q ∧ b.2.2.2.1 q = nI i
def vI2 (b : zBr) : Prop := ∀ t, zEx b t → ∀ o e, (b.2.1 t).2.2 o = some e → e.2.2.2.2 = nI 2 → ∃ i, i < 6 ∧ (b.2.2.1 i).2.1 = nI 1 ∧ (b.2.2.1 i).1 = e.2.2.2.1
def vG1 (pt : Nat → Nat) (u : zGr) : Prop := (∀ t, t < 12 → u.2.2.1 t = zOI (zWho u.2.1 (pt (t / 4)) t)) ∧ ∀ k, k < 4 → u.2.1 k = -1 ∨ ∃ j, j < 3 ∧ 0 < pt j ∧ u.2.1 k = nI j
def zInv (b : zBr) : Prop := zBrW b ∧ zBrE b ∧ zBrC b ∧ vI1 b ∧ vI2 b ∧ ∀ i, i < 2 → vG1 b.1 (b.2.2.2.2.2.1 i)
theorem zInv_N {b : zBr} {n : Int32 × Int32 × Int32 × Int32 × Int32} (h : zInv b) : zInv (bN b n) := h
theorem zInv_O {b : zBr} {q : Nat} {v : Int32} (h : zInv b) : zInv (bO b q v) := h
theorem bX {α : Type} {p : α → Prop} {i j : Nat} {u v : α} (h1 : j = i → p u) (h2 : ¬ j = i → p v) : p (if j = i then u else v) := by
  by_cases h : j = i
  · rw [if_pos h]; exact h1 h
  · rw [if_neg h]; exact h2 h
theorem zInv_H {b : zBr} {i : Nat} {u : zGr} (h : zInv b) (hu : vG1 b.1 u) (hp : ∀ t, t < 12 → u.2.2.2.1 t ≤ 60 ∧ u.2.2.2.2 t ≤ 60) : zInv (bH b i u) := by
  obtain ⟨⟨v1, v2, v3, v4, v5, v6, v7⟩, hE, hC, h1, h2, hG⟩ := h
  refine ⟨⟨v1, v2, v3, v4, v5, v6, fun j t hj ht => ?_⟩, hE, hC, h1, h2, fun j hj => ?_⟩
  · exact bX (p := fun g : zGr => g.2.2.2.1 t ≤ 60 ∧ g.2.2.2.2 t ≤ 60) (fun _ => hp t ht) (fun _ => v7 j t hj ht)
  · exact bX (p := vG1 b.1) (fun _ => hu) (fun _ => hG j hj)
theorem zInv_S {b : zBr} {i : Nat} {u : zSn} (h : zInv b) (hi : i < 6) (h1 : u.1 = (b.2.2.1 i).1) (h2 : u.2.1 = (b.2.2.1 i).2.1 ∨ (u.2.1 = nI 1 ∧ ∃ q, q < 4 ∧ u.1 = nI q ∧ b.2.2.2.1 q = nI i)) (h3 : ∀ t, t < 12 → u.2.2.1 t ≤ (b.2.1 t).2.1.2) : zInv (bS b i u) := by
  obtain ⟨hW, hE, hC, k1, k2, hG⟩ := h
  have w4 := hW.2.2.2.1 i hi
  refine ⟨zBrW_S hW ⟨by rw [h1]; exact w4.1, h2.elim (fun e => by rw [e]; exact w4.2) (fun e => Or.inr e.1)⟩ h3, hE, fun q j hq hj hc => ?_, fun j hj ha => ?_, fun t ht o e he hs => ?_, hG⟩
  · have h9 := hC q j hq hj hc
    exact bX (p := fun g : zSn => g.1 = nI q) (fun e => by rw [h1, ← e]; exact h9) (fun _ => h9)
  · show ∃ q, q < 4 ∧ ((if j = i then u else b.2.2.1 j) : zSn).1 = nI q ∧ b.2.2.2.1 q = nI j
    have ha' : ((if j = i then u else b.2.2.1 j) : zSn).2.1 = nI 1 := ha
    by_cases e : j = i
    · rw [if_pos e] at ha' ⊢
      subst e
      rcases h2 with h2 | h2
      · rw [h1]; exact k1 j hj (h2.symm.trans ha')
      · exact h2.2
    · rw [if_neg e] at ha' ⊢; exact k1 j hj ha'
  · obtain ⟨j, hj, ha, hb⟩ := k2 t ht o e he hs
    refine ⟨j, hj, ?_⟩
    show ((if j = i then u else b.2.2.1 j) : zSn).2.1 = nI 1 ∧ ((if j = i then u else b.2.2.1 j) : zSn).1 = e.2.2.2.1
    by_cases e9 : j = i
    · rw [if_pos e9]
      subst e9
      exact ⟨h2.elim (fun q => q.trans ha) (fun q => q.1), h1.trans hb⟩
    · rw [if_neg e9]; exact ⟨ha, hb⟩
theorem zInv_G {b : zBr} {t : Nat} {g : zLg} (h : zInv b) (ht : zEx b t) (hg : zLogW g) (hend : (b.2.1 t).2.1.2 ≤ g.2.1.2) (he : ∀ o e, g.2.2 o = some e → (∃ o2, (b.2.1 t).2.2 o2 = some e) ∨ (zEW e ∧ (e.2.2.2.2 = nI 2 → ∃ i, i < 6 ∧ (b.2.2.1 i).2.1 = nI 1 ∧ (b.2.2.1 i).1 = e.2.2.2.1))) : zInv (bG b t g) := by
  obtain ⟨hW, hE, hC, k1, k2, hG⟩ := h
  refine ⟨zBrW_G hW hg (fun o e h => ?_) hend, fun j hj hx => ?_, hC, k1, fun j hj o e h hs => ?_, hG⟩
  · rcases he o e h with ⟨o2, h2⟩ | h2
    · exact hW.2.2.1 t ht o2 e h2
    · exact h2.1
  · show (if j = t then g else b.2.1 j) = zLg0
    rw [if_neg (fun e => hx (by rw [e]; exact ht))]
    exact hE j hj hx
  · have h' : ((if j = t then g else b.2.1 j) : zLg).2.2 o = some e := h
    by_cases e9 : j = t
    · rw [if_pos e9] at h'
      rcases he o e h' with ⟨o2, h2⟩ | h2
      · exact k2 t ht o2 e h2 hs
      · exact h2.2 hs
    · rw [if_neg e9] at h'; exact k2 j hj o e h' hs
theorem zInv_poll {b : zBr} {x m gn y : Int32} (h : zInv b) : zInv (sPoll b x m gn y).2 := by
  unfold sPoll zA
  by_cases h1 : x < nI 0 ∨ nI 1 < x
  · rw [if_pos h1]; exact h
  rw [if_neg h1]
  try dsimp only
  obtain ⟨i, rfl, hi⟩ := zRg (n := 1) (x := x) (by decide) (fun q => h1 (Or.inl q)) (fun q => h1 (Or.inr q))
  rw [nI_clamp (by omega)]
  by_cases h2 : m < nI 0 ∨ nI 3 < m
  · rw [if_pos h2]; exact h
  rw [if_neg h2]
  try dsimp only
  rcases Classical.em (∃ t, zEx b t ∧ y = nI t) with ⟨t, ht, rfl⟩ | h3
  · rw [zT_s ht]
    try dsimp only
    by_cases h4 : ¬ (gn = (b.2.2.2.2.2.1 i).1 ∧ (b.2.2.2.2.2.1 i).2.2.1 t = nI m.toNatClampNeg)
    · rw [if_pos h4]; exact h
    rw [if_neg h4]
    have w7 := h.1.2.2.2.2.2.2 i
    have hg := h.2.2.2.2.2 i (by omega)
    cases hz : zVis (b.2.1 t) (max ((b.2.2.2.2.2.1 i).2.2.2.1 t) (b.2.1 t).2.1.1) true with
    | none => exact h
    | some z =>
      have h5 := zVis_le (h.1.2.1 t ht) hz
      have h6 := (h.1.2.1 t ht).2.2.2.2.2.1
      exact zInv_H h hg (fun j hj => ⟨bX (p := fun n : Nat => n ≤ 60) (fun _ => by omega) (fun _ => (w7 j (by omega) hj).1), (w7 j (by omega) hj).2⟩)
  · rw [zT_n h3]; exact h
theorem zInv_keep {b : zBr} {x m gn y o : Int32} (h : zInv b) : zInv (sKeep b x m gn y o).2 := by
  unfold sKeep zA
  by_cases h1 : x < nI 0 ∨ nI 1 < x
  · rw [if_pos h1]; exact h
  rw [if_neg h1]
  try dsimp only
  obtain ⟨i, rfl, hi⟩ := zRg (n := 1) (x := x) (by decide) (fun q => h1 (Or.inl q)) (fun q => h1 (Or.inr q))
  rw [nI_clamp (by omega)]
  by_cases h2 : m < nI 0 ∨ nI 3 < m
  · rw [if_pos h2]; exact h
  rw [if_neg h2]
  try dsimp only
  rcases Classical.em (∃ t, zEx b t ∧ y = nI t) with ⟨t, ht, rfl⟩ | h3
  · rw [zT_s ht]
    try dsimp only
    have h6 := (h.1.2.1 t ht).2.2.2.2.2.1
    by_cases h5 : o < nI 0 ∨ nI (b.2.1 t).2.1.2 < o
    · rw [if_pos h5]; exact h
    rw [if_neg h5]
    try dsimp only
    obtain ⟨z, rfl, hz⟩ := zRg (x := o) (show (b.2.1 t).2.1.2 < 2 ^ 31 by omega) (fun q => h5 (Or.inl q)) (fun q => h5 (Or.inr q))
    rw [nI_clamp (by omega)]
    by_cases h4 : ¬ (gn = (b.2.2.2.2.2.1 i).1 ∧ (b.2.2.2.2.2.1 i).2.2.1 t = nI m.toNatClampNeg)
    · rw [if_pos h4]; exact h
    rw [if_neg h4]
    have w7 := h.1.2.2.2.2.2.2 i
    have hg := h.2.2.2.2.2 i (by omega)
    exact zInv_H h hg (fun j hj => ⟨(w7 j (by omega) hj).1, bX (p := fun n : Nat => n ≤ 60) (fun _ => by omega) (fun _ => (w7 j (by omega) hj).2)⟩)
  · rw [zT_n h3]; exact h
theorem zInv_begin {b : zBr} {x : Int32} (h : zInv b) : zInv (sBegin b x).2 := by
  unfold sBegin zA
  by_cases h1 : x < nI 0 ∨ nI 5 < x
  · rw [if_pos h1]; exact h
  rw [if_neg h1]
  try dsimp only
  obtain ⟨i, rfl, hi⟩ := zRg (n := 5) (x := x) (by decide) (fun q => h1 (Or.inl q)) (fun q => h1 (Or.inr q))
  rw [nI_clamp (by omega)]
  by_cases h2 : (b.2.2.1 i).1 = -1
  · rw [if_pos h2]; exact h
  rw [if_neg h2]
  by_cases h3 : ¬ (b.2.2.1 i).2.1 = nI 0
  · rw [if_pos h3]; exact h
  rw [if_neg h3]
  by_cases h4 : ¬ b.2.2.2.1 (b.2.2.1 i).1.toNatClampNeg = nI i
  · rw [if_pos h4]; exact h
  rw [if_neg h4]
  obtain ⟨q, hq, e⟩ := (h.1.2.2.2.1 i (by omega)).1.resolve_left h2
  refine zInv_S h (by omega) rfl (Or.inr ⟨rfl, q, hq, e, ?_⟩) (fun t ht => (h.1.2.2.2.2.1 i t (by omega) ht).1)
  have h5 := Classical.not_not.mp h4
  rw [e, nI_clamp (by omega)] at h5
  exact h5
theorem zComp_ent {g : zLg} {o : Nat} {e : zE} (h : (zComp g).2.2 o = some e) : g.2.2 o = some e := by
  have h' : (if o < zStab g ∧ o < zBa g ∧ zGoes g (zStab g) o = true then none else g.2.2 o) = some e := h
  by_cases h9 : o < zStab g ∧ o < zBa g ∧ zGoes g (zStab g) o = true
  · rw [if_pos h9] at h'; cases h'
  · rw [if_neg h9] at h'; exact h'
theorem zInv_compact {b : zBr} {x : Int32} (h : zInv b) : zInv (sCompact b x).2 := by
  unfold sCompact
  rcases Classical.em (∃ t, zEx b t ∧ x = nI t) with ⟨t, ht, rfl⟩ | h3
  · rw [zT_s ht]
    try dsimp only
    by_cases h2 : (b.2.1 t).1.2.2 = nI 0
    · rw [if_pos h2]; exact h
    rw [if_neg h2]
    exact zInv_N (zInv_G h ht (zLogW_comp (h.1.2.1 t ht)) (Nat.le_refl _) (fun o e he => Or.inl ⟨o, zComp_ent he⟩))
  · rw [zT_n h3]; exact h
theorem zInv_W {b : zBr} {t : Nat} {e : zE} (h : zInv b) (ht : zEx b t) (hen : (b.2.1 t).2.1.2 < 60) (he : zEW e) (hu : e.2.2.2.2 = nI 2 → ∃ i, i < 6 ∧ (b.2.2.1 i).2.1 = nI 1 ∧ (b.2.2.1 i).1 = e.2.2.2.1) : zInv (bW b t e) :=
  zInv_N (zInv_G h ht (zLogW_wr (h.1.2.1 t ht) hen) (by rw [zWr_end]; omega) (fun o e2 h2 => by
    rcases zWr_ent h2 with h3 | h3
    · rw [h3.2]; exact Or.inr ⟨he, hu⟩
    · exact Or.inl ⟨o, h3⟩))
theorem zInv_produce {b : zBr} {x y n k v : Int32} (h : zInv b) : zInv (sProduce b x y n k v).2 := by
  unfold sProduce zA
  by_cases h1 : x < nI 0 ∨ nI 5 < x
  · rw [if_pos h1]; exact h
  rw [if_neg h1]
  try dsimp only
  obtain ⟨i, rfl, hi⟩ := zRg (n := 5) (x := x) (by decide) (fun q => h1 (Or.inl q)) (fun q => h1 (Or.inr q))
  rw [nI_clamp (by omega)]
  rcases Classical.em (∃ t, zEx b t ∧ y = nI t) with ⟨t, ht, rfl⟩ | h3
  · rw [zT_s ht]
    try dsimp only
    by_cases h2 : (k < -1 ∨ nI 7 < k) ∨ n < 0
    · rw [if_pos h2]; exact h
    rw [if_neg h2]
    by_cases h4 : (b.2.2.1 i).1 = -1
    · rw [if_pos h4]; exact h
    rw [if_neg h4]
    by_cases h5 : n.toNatClampNeg < (b.2.2.1 i).2.2.1 t ∧ (b.2.2.1 i).2.2.1 t ≤ n.toNatClampNeg + 3
    · rw [if_pos h5]
      by_cases h6 : ¬ b.2.2.2.1 (b.2.2.1 i).1.toNatClampNeg = nI i
      · rw [if_pos h6]; exact h
      rw [if_neg h6]; exact zInv_N h
    rw [if_neg h5]
    by_cases h6 : ¬ n.toNatClampNeg = (b.2.2.1 i).2.2.1 t
    · rw [if_pos h6]; exact h
    rw [if_neg h6]
    by_cases h7 : ¬ b.2.2.2.1 (b.2.2.1 i).1.toNatClampNeg = nI i ∨ ¬ (b.2.1 t).2.1.2 < 60
    · rw [if_pos h7]; exact h
    rw [if_neg h7]
    have hen : (b.2.1 t).2.1.2 < 60 := Classical.byContradiction fun q => h7 (Or.inr q)
    have w4 := h.1.2.2.2.1 i (by omega)
    have w5 := h.1.2.2.2.2.1 i
    have ht12 := ht.1
    have hw := zInv_W (e := zPe (b.2.2.1 i) k v) h ht hen (zEW_pe (w4.1.resolve_left h4) (zKey (fun q => h2 (Or.inl (Or.inl q))) (fun q => h2 (Or.inl (Or.inr q))))) (fun hs => ⟨i, by omega, w4.2.resolve_left (fun e => by
      have hs' : (if (b.2.2.1 i).2.1 = nI 0 then nI 0 else nI 2) = nI 2 := hs
      rw [if_pos e] at hs'
      exact absurd hs' (by decide)), rfl⟩)
    refine zInv_S hw (by omega) rfl (Or.inl rfl) (fun j hj => ?_)
    show (if j = t then (b.2.2.1 i).2.2.1 t + 1 else (b.2.2.1 i).2.2.1 j) ≤ ((if j = t then zWr (b.2.1 t) (zPe (b.2.2.1 i) k v) else b.2.1 j) : zLg).2.1.2
    have w6 := w5 j (by omega) hj
    by_cases e9 : j = t
    · subst e9; rw [if_pos rfl, if_pos rfl, zWr_end]; omega
    · rw [if_neg e9, if_neg e9]; exact w6.1
  · rw [zT_n h3]; exact h
