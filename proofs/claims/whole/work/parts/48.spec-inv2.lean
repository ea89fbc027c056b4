/-! deciding, ending, opening, new topics, members: what holds still holds -/
theorem bDk_ent {b : zBr} {q : Int32} {m e : zE} {k t o : Nat} (h : ((bDk b q m k).2.1 t).2.2 o = some e) : e = m ∨ (b.2.1 t).2.2 o = some e := by
  have h' : ((if t < k ∧ zU b q t = true then zWr (b.2.1 t) m else b.2.1 t) : zLg).2.2 o = some e := h
  by_cases h9 : t < k ∧ zU b q t = true
  · rw [if_pos h9] at h'
    rcases zWr_ent h' with h1 | h1
    · exact Or.inl h1.2
    · exact Or.inr h1
  · rw [if_neg h9] at h'; exact Or.inr h'
theorem sDec_log {b : zBr} {i t : Nat} {c : Bool} (ht : t < 12) : (sDec b i c).2.1 t = zSet ((bDk b (b.2.2.1 i).1 (zMk (b.2.2.1 i).1 c) 12).2.1 t) (b.2.2.1 i).1 (if c = true then nI 0 else nI 1) := if_pos ht
/-- what is undecided after a decision was undecided before it, of another producer -/
theorem sDec_und {b : zBr} {i t o : Nat} {c : Bool} {e : zE} (ht : t < 12) (h : ((sDec b i c).2.1 t).2.2 o = some e) (hs : e.2.2.2.2 = nI 2) : (b.2.1 t).2.2 o = some e ∧ ¬ e.2.2.2.1 = (b.2.2.1 i).1 := by
  rw [sDec_log ht] at h
  obtain ⟨e0, h1, h2⟩ := zSet_some h
  by_cases h3 : e0.2.2.2.2 = nI 2 ∧ e0.2.2.2.1 = (b.2.2.1 i).1
  · rw [if_pos h3] at h2
    rw [h2] at hs
    have hs' : (if c = true then nI 0 else nI 1) = nI 2 := hs
    cases c with
    | true => exact absurd hs' (by decide)
    | false => exact absurd hs' (by decide)
  · rw [if_neg h3] at h2
    subst h2
    rcases bDk_ent h1 with h4 | h4
    · rw [h4] at hs
      exact absurd (show nI 0 = nI 2 from hs) (by decide)
    · exact ⟨h4, fun q => h3 ⟨hs, q⟩⟩
theorem sDec_ss {b : zBr} {i j : Nat} {c : Bool} : (sDec b i c).2.2.1 j = if j = i then ((b.2.2.1 i).1, nI 0, (b.2.2.1 i).2.2) else b.2.2.1 j := rfl
theorem sDec_bel {b : zBr} {i j : Nat} {c : Bool} : ((sDec b i c).2.2.1 j).1 = (b.2.2.1 j).1 := by
  rw [sDec_ss]
  by_cases h : j = i
  · rw [if_pos h, h]
  · rw [if_neg h]
theorem sDec_cu {b : zBr} {i : Nat} {c : Bool} : (sDec b i c).2.2.2.1 = b.2.2.2.1 := by
  unfold sDec bS bSk bM bN bDk
  dsimp only
theorem zSet_0 {q x : Int32} : zSet zLg0 q x = zLg0 := rfl
theorem zInv_dec {b : zBr} {i : Nat} {c : Bool} (h : zInv b) (hi : i < 6) (hq : ∃ k, k < 4 ∧ (b.2.2.1 i).1 = nI k) (hr : zRoom b (b.2.2.1 i).1 = true) : zInv (sDec b i c) := by
  obtain ⟨hW, hE, hC, k1, k2, hG⟩ := h
  refine ⟨zBrW_dec hW hE hi hq (fun t ht hu => zRoom_iff.mp hr t ht.1 hu), fun t ht hx => ?_, fun q j hq hj hc => ?_, fun j hj ha => ?_, fun t ht o e he hs => ?_, hG⟩
  · have hx' : ¬ zEx b t := hx
    rw [sDec_log ht, show (bDk b (b.2.2.1 i).1 (zMk (b.2.2.1 i).1 c) 12).2.1 t = b.2.1 t from if_neg (fun h => by rw [hE.u t ht hx'] at h; cases h.2), hE t ht hx']
    exact zSet_0
  · rw [sDec_bel]; exact hC q j hq hj hc
  · rw [sDec_bel]
    rw [sDec_ss] at ha
    by_cases e9 : j = i
    · rw [if_pos e9] at ha
      exact absurd (show nI 0 = nI 1 from ha) (by decide)
    · rw [if_neg e9] at ha
      exact k1 j hj ha
  · have ht' : zEx b t := ht
    obtain ⟨h1, h2⟩ := sDec_und ht'.1 he hs
    obtain ⟨j, hj, ha, hb⟩ := k2 t ht' o e h1 hs
    refine ⟨j, hj, ?_, by rw [sDec_bel]; exact hb⟩
    rw [sDec_ss, if_neg (fun e9 => h2 (by rw [← hb, e9]))]
    exact ha
theorem zInv_end {b : zBr} {x : Int32} {c : Bool} (h : zInv b) : zInv (sEnd b x c).2 := by
  unfold sEnd zA
  by_cases h1 : x < nI 0 ∨ nI 5 < x
  · rw [if_pos h1]; exact h
  rw [if_neg h1]
  try dsimp only
  obtain ⟨i, rfl, hi⟩ := zRg (n := 5) (x := x) (by decide) (fun q => h1 (Or.inl q)) (fun q => h1 (Or.inr q))
  rw [nI_clamp (by omega)]
  by_cases h2 : (b.2.2.1 i).1 = -1
  · rw [if_pos h2]; exact h
  rw [if_neg h2]
  by_cases h3 : (b.2.2.1 i).2.1 = nI 0
  · rw [if_pos h3]; exact h
  rw [if_neg h3]
  by_cases h4 : ¬ zRoom b (b.2.2.1 i).1 = true
  · rw [if_pos h4]; exact h
  rw [if_neg h4]
  exact zInv_dec h (by omega) ((h.1.2.2.2.1 i (by omega)).1.resolve_left h2) (Classical.not_not.mp h4)
/-- the current session of p, if its transaction is open, is decided first -/
theorem zInv_ab {b b1 : zBr} {p : Nat} (h : zInv b) (hp : p < 4) (ha : sAb b p = some b1) : zInv b1 ∧ b1.2.2.2.1 = b.2.2.2.1 ∧ (∀ j, (b1.2.2.1 j).1 = (b.2.2.1 j).1) ∧ (∀ j, j < 6 → (b1.2.2.1 j).2.1 = nI 1 → (b.2.2.1 j).2.1 = nI 1 ∧ ¬ (b1.2.2.1 j).1 = nI p) := by
  unfold sAb at ha
  by_cases h1 : ¬ b.2.2.2.1 p = -1 ∧ ¬ (b.2.2.1 (b.2.2.2.1 p).toNatClampNeg).2.1 = nI 0
  · rw [if_pos h1] at ha
    obtain ⟨i, hi, e⟩ := (h.1.2.2.2.2.2.1 p hp).resolve_left h1.1
    have hb := h.2.2.1 p i hp hi e
    rw [e, nI_clamp (by omega)] at ha
    by_cases h2 : zRoom b (nI p) = true
    · rw [if_pos h2] at ha
      cases ha
      refine ⟨zInv_dec h hi ⟨p, hp, hb⟩ (by rw [hb]; exact h2), sDec_cu, fun j => sDec_bel, fun j hj ha => ?_⟩
      rw [sDec_ss] at ha
      by_cases e9 : j = i
      · rw [if_pos e9] at ha
        exact absurd (show nI 0 = nI 1 from ha) (by decide)
      · rw [if_neg e9] at ha
        refine ⟨ha, fun q => ?_⟩
        rw [sDec_bel] at q
        obtain ⟨q2, hq2, hq3, hq4⟩ := h.2.2.2.1 j hj ha
        rw [q] at hq3
        have e3 := (nI_eq (by omega) (by omega)).mp hq3
        subst e3
        rw [e] at hq4
        exact e9 ((nI_eq (by omega) (by omega)).mp hq4).symm
    · rw [if_neg h2] at ha; cases ha
  · rw [if_neg h1] at ha
    cases ha
    refine ⟨h, rfl, fun _ => rfl, fun j hj ha => ⟨ha, fun q => h1 ?_⟩⟩
    obtain ⟨q2, hq2, hq3, hq4⟩ := h.2.2.2.1 j hj ha
    rw [q] at hq3
    have e3 := (nI_eq (by omega) (by omega)).mp hq3
    subst e3
    rw [hq4]
    refine ⟨fun e => absurd (show nI j < 0 by rw [e]; decide) (nI_pos (by omega)), ?_⟩
    rw [nI_clamp (by omega), ha]
    decide
theorem nI_m1 {i : Nat} (h : i < 2 ^ 31) : ¬ nI i = -1 := fun e => absurd (show nI i < 0 by rw [e]; decide) (nI_pos h)
theorem zInv_op2 {b : zBr} {i p : Nat} (h : zInv b) (hi : i < 6) (hp : p < 4) (ha : (b.2.2.1 i).2.1 = nI 0) (hP : ∀ j, j < 6 → (b.2.2.1 j).2.1 = nI 1 → ¬ (b.2.2.1 j).1 = nI p) : zInv (sOp2 b i p) := by
  obtain ⟨hW, hE, hC, k1, k2, hG⟩ := h
  have w4 := hW.2.2.2.1 i hi
  have hcu : ∀ q, (sOp2 b i p).2.2.2.1 q = if q = p then nI i else if (¬ (b.2.2.1 i).1 = -1 ∧ b.2.2.2.1 (b.2.2.1 i).1.toNatClampNeg = nI i) ∧ q = (b.2.2.1 i).1.toNatClampNeg then -1 else b.2.2.2.1 q := fun q => by
    unfold sOp2
    by_cases h1 : ¬ (b.2.2.1 i).1 = -1 ∧ b.2.2.2.1 (b.2.2.1 i).1.toNatClampNeg = nI i
    · rw [if_pos h1]
      show (if q = p then nI i else if q = (b.2.2.1 i).1.toNatClampNeg then -1 else b.2.2.2.1 q) = _
      by_cases h2 : q = p
      · rw [if_pos h2, if_pos h2]
      · rw [if_neg h2, if_neg h2]
        by_cases h3 : q = (b.2.2.1 i).1.toNatClampNeg
        · rw [if_pos h3, if_pos ⟨h1, h3⟩]
        · rw [if_neg h3, if_neg (fun q => h3 q.2)]
    · rw [if_neg h1]
      show (if q = p then nI i else b.2.2.2.1 q) = _
      by_cases h2 : q = p
      · rw [if_pos h2, if_pos h2]
      · rw [if_neg h2, if_neg h2, if_neg (fun q => h1 q.1)]
  have hss : ∀ j, (sOp2 b i p).2.2.1 j = if j = i then (nI p, (b.2.2.1 i).2.1, (fun _ => 0), (b.2.2.1 i).2.2.2) else b.2.2.1 j := fun j => by
    unfold sOp2
    by_cases h1 : ¬ (b.2.2.1 i).1 = -1 ∧ b.2.2.2.1 (b.2.2.1 i).1.toNatClampNeg = nI i
    · rw [if_pos h1]; rfl
    · rw [if_neg h1]; rfl
  have hrest : (sOp2 b i p).1 = b.1 ∧ (sOp2 b i p).2.1 = b.2.1 ∧ (sOp2 b i p).2.2.2.2.2.1 = b.2.2.2.2.2.1 := by
    unfold sOp2
    by_cases h1 : ¬ (b.2.2.1 i).1 = -1 ∧ b.2.2.2.1 (b.2.2.1 i).1.toNatClampNeg = nI i
    · rw [if_pos h1]; exact ⟨rfl, rfl, rfl⟩
    · rw [if_neg h1]; exact ⟨rfl, rfl, rfl⟩
  have hex : ∀ t, zEx (sOp2 b i p) t ↔ zEx b t := fun t => by unfold zEx; rw [hrest.1]
  have hWn : zBrW (sOp2 b i p) := by
    unfold sOp2
    have hs : ∀ b2 : zBr, zBrW b2 → zBrW (bO (bC (bS b2 i (nI p, (b.2.2.1 i).2.1, (fun _ => 0), (b.2.2.1 i).2.2.2)) p (nI i)) p (b.2.2.2.2.1 p + nI 1)) := fun b2 h2 => zBrW_O (zBrW_C (zBrW_S h2 ⟨Or.inr ⟨p, hp, rfl⟩, w4.2⟩ (fun t _ => Nat.zero_le _)) (Or.inr ⟨i, hi, rfl⟩))
    by_cases h1 : ¬ (b.2.2.1 i).1 = -1 ∧ b.2.2.2.1 (b.2.2.1 i).1.toNatClampNeg = nI i
    · rw [if_pos h1]; exact hs _ (zBrW_C hW (Or.inl rfl))
    · rw [if_neg h1]; exact hs _ hW
  refine ⟨hWn, fun t ht hx => ?_, fun q j hq hj hc => ?_, fun j hj ha2 => ?_, fun t ht o e he hs => ?_, fun j hj => ?_⟩
  · rw [hrest.2.1]; exact hE t ht (fun q => hx ((hex t).mpr q))
  · rw [hcu] at hc
    rw [hss]
    by_cases h2 : q = p
    · rw [if_pos h2] at hc
      rw [if_pos ((nI_eq (by omega) (by omega)).mp hc).symm, h2]
    · rw [if_neg h2] at hc
      by_cases h3 : (¬ (b.2.2.1 i).1 = -1 ∧ b.2.2.2.1 (b.2.2.1 i).1.toNatClampNeg = nI i) ∧ q = (b.2.2.1 i).1.toNatClampNeg
      · rw [if_pos h3] at hc
        exact absurd hc.symm (nI_m1 (by omega))
      · rw [if_neg h3] at hc
        have h4 := hC q j hq hj hc
        by_cases e9 : j = i
        · subst e9
          refine absurd ⟨⟨fun e => ?_, ?_⟩, ?_⟩ h3
          · rw [h4] at e; exact nI_m1 (by omega) e
          · rw [h4, nI_clamp (by omega)]; exact hc
          · rw [h4, nI_clamp (by omega)]
        · rw [if_neg e9]; exact h4
  · rw [hss] at ha2 ⊢
    by_cases e9 : j = i
    · rw [if_pos e9] at ha2
      have ha3 : (b.2.2.1 i).2.1 = nI 1 := ha2
      rw [ha] at ha3
      exact absurd ha3 (by decide)
    · rw [if_neg e9] at ha2 ⊢
      obtain ⟨q, hq, hb, hc⟩ := k1 j hj ha2
      refine ⟨q, hq, hb, ?_⟩
      rw [hcu, if_neg (fun e => hP j hj ha2 (by rw [hb, e])), if_neg (fun e => ?_)]
      · exact hc
      · have h5 := e.1.2
        rw [← e.2, hc] at h5
        exact e9 ((nI_eq (by omega) (by omega)).mp h5)
  · rw [hrest.2.1] at he
    obtain ⟨j, hj, h5, h6⟩ := k2 t ((hex t).mp ht) o e he hs
    refine ⟨j, hj, ?_⟩
    rw [hss, if_neg (fun e9 => by rw [e9, ha] at h5; exact absurd h5 (by decide))]
    exact ⟨h5, h6⟩
  · rw [hrest.1, hrest.2.2]; exact hG j hj
theorem zInv_open {b : zBr} {x y : Int32} (h : zInv b) : zInv (sOpen b x y).2 := by
  unfold sOpen zA
  by_cases h1 : x < nI 0 ∨ nI 5 < x
  · rw [if_pos h1]; exact h
  rw [if_neg h1]
  try dsimp only
  obtain ⟨i, rfl, hi⟩ := zRg (n := 5) (x := x) (by decide) (fun q => h1 (Or.inl q)) (fun q => h1 (Or.inr q))
  rw [nI_clamp (by omega)]
  by_cases h2 : y < nI 0 ∨ nI 3 < y
  · rw [if_pos h2]; exact h
  rw [if_neg h2]
  try dsimp only
  obtain ⟨p, rfl, hp⟩ := zRg (n := 3) (x := y) (by decide) (fun q => h2 (Or.inl q)) (fun q => h2 (Or.inr q))
  rw [nI_clamp (by omega)]
  by_cases h3 : ¬ (b.2.2.1 i).2.1 = nI 0 ∧ ¬ (b.2.2.1 i).1 = nI p
  · rw [if_pos h3]; exact h
  rw [if_neg h3]
  cases ha : sAb b p with
  | none => exact h
  | some b1 =>
    obtain ⟨g1, g2, g3, g4⟩ := zInv_ab h (by omega) ha
    refine zInv_op2 g1 (by omega) (by omega) ?_ (fun j hj h5 => (g4 j hj h5).2)
    refine (g1.1.2.2.2.1 i (by omega)).2.resolve_right (fun h5 => ?_)
    obtain ⟨h6, h7⟩ := g4 i (by omega) h5
    exact h3 ⟨fun e => by rw [h6] at e; exact absurd e (by decide), by rw [← g3]; exact h7⟩
theorem zWho_none {k : Nat → Int32} {n tp : Nat} (h : ∀ m, m < 4 → ¬ k m = nI (tp / 4)) : zWho k n tp = none :=
  zfind_none (fun j _ hj => by unfold zWhoP; rw [decide_eq_false (h j (by omega)), Bool.false_and])
theorem zInv_T {b : zBr} {t n z k : Nat} {c : Int32} (h : zInv b) (ht : t < 3) (hb : b.1 t = 0) (hn : 1 ≤ n ∧ n ≤ 3) (hz : 1 ≤ z ∧ z ≤ 4) (hk : 1 ≤ k ∧ k ≤ 5) : zInv (bT b t n z k c) := by
  obtain ⟨⟨v1, v2, v3, v4, v5, v6, v7⟩, hE, hC, k1, k2, hG⟩ := h
  have hlo : ∀ j, (bT b t n z k c).2.1 j = if j / 4 = t ∧ j % 4 < n then ((z, k, c), (0, 0), fun _ => none) else b.2.1 j := fun _ => rfl
  have hex : ∀ j, zEx (bT b t n z k c) j → (j / 4 = t ∧ j % 4 < n) ∨ (¬ (j / 4 = t ∧ j % 4 < n) ∧ zEx b j) := fun j hj => by
    have h1 := zEx_T.mp hj
    by_cases h2 : j / 4 = t
    · rw [if_pos h2] at h1; exact Or.inl ⟨h2, h1.2⟩
    · rw [if_neg h2] at h1; exact Or.inr ⟨fun q => h2 q.1, h1⟩
  have hw0 : zLogW ((z, k, c), (0, 0), fun _ => none) := ⟨hz.1, hz.2, hk.1, hk.2, Nat.zero_le _, Nat.zero_le _, Nat.zero_mod _, fun _ _ => rfl, fun _ _ => rfl⟩
  have hnx : ∀ j, j < 12 → j / 4 = t → b.2.1 j = zLg0 := fun j hj e => hE j hj (fun q => by have := q.2; rw [e, hb] at this; omega)
  refine ⟨⟨fun j hj => ?_, fun j hj => ?_, fun j hj o e he => ?_, v4, fun i j hi hj => ?_, v6, v7⟩, fun j hj hx => ?_, hC, k1, fun j hj o e he hs => ?_, fun i hi => ?_⟩
  · exact bX (p := fun n : Nat => n ≤ 3) (fun _ => hn.2) (fun _ => v1 j hj)
  · rw [hlo]
    rcases hex j hj with h1 | h1
    · rw [if_pos h1]; exact hw0
    · rw [if_neg h1.1]; exact v2 j h1.2
  · rw [hlo] at he
    rcases hex j hj with h1 | h1
    · rw [if_pos h1] at he; cases he
    · rw [if_neg h1.1] at he; exact v3 j h1.2 o e he
  · show (b.2.2.1 i).2.2.1 j ≤ _ ∧ _
    rw [hlo]
    have h5 := v5 i j hi hj
    by_cases h1 : j / 4 = t ∧ j % 4 < n
    · rw [hnx j hj h1.1] at h5
      rw [if_pos h1]
      exact ⟨h5.1, Nat.zero_le _⟩
    · rw [if_neg h1]; exact h5
  · rw [hlo, if_neg (fun h1 => hx (zEx_T.mpr ⟨hj, by rw [if_pos h1.1]; exact h1.2⟩))]
    by_cases e : j / 4 = t
    · exact hnx j hj e
    · exact hE j hj (fun q => hx (zEx_T.mpr ⟨hj, by rw [if_neg e]; exact q.2⟩))
  · rw [hlo] at he
    rcases hex j hj with h1 | h1
    · rw [if_pos h1] at he; cases he
    · rw [if_neg h1.1] at he; exact k2 j h1.2 o e he hs
  · obtain ⟨g1, g2⟩ := hG i hi
    refine ⟨fun j hj => ?_, fun m hm => ?_⟩
    · rw [show ((bT b t n z k c).2.2.2.2.2.1 i) = b.2.2.2.2.2.1 i from rfl, g1 j hj]
      show _ = zOI (zWho _ (if j / 4 = t then n else b.1 (j / 4)) j)
      by_cases e : j / 4 = t
      · have h1 : ∀ m, m < 4 → ¬ (b.2.2.2.2.2.1 i).2.1 m = nI (j / 4) := fun m hm q => by
          rcases g2 m hm with h2 | ⟨w, h2, h3, h4⟩
          · rw [q] at h2; exact nI_m1 (by omega) h2
          · rw [q] at h4
            have h5 := (nI_eq (by omega) (by omega)).mp h4
            rw [← h5, e, hb] at h3
            omega
        rw [zWho_none h1, zWho_none h1]
      · rw [if_neg e]
    · rcases g2 m hm with h2 | ⟨w, h2, h3, h4⟩
      · exact Or.inl h2
      · exact Or.inr ⟨w, h2, bX (p := fun q : Nat => 0 < q) (fun _ => by omega) (fun _ => h3), h4⟩
theorem zInv_topic {b : zBr} {x n z k c : Int32} (h : zInv b) : zInv (sTopic b x n z k c).2 := by
  unfold sTopic zR
  by_cases h1 : x < nI 0 ∨ nI 2 < x
  · rw [if_pos h1]; exact h
  rw [if_neg h1]
  try dsimp only
  obtain ⟨t, rfl, ht⟩ := zRg (n := 2) (x := x) (by decide) (fun q => h1 (Or.inl q)) (fun q => h1 (Or.inr q))
  rw [nI_clamp (by omega)]
  have hlo : ∀ {w : Int32} {m : Nat}, m < 2 ^ 31 → ¬ (w < nI 1 ∨ nI m < w) → ∃ j, w = nI j ∧ 1 ≤ j ∧ j ≤ m := fun {w m} hm hn => zIn hm (by decide) (fun q => hn (Or.inl q)) (Int32.not_lt.mp (fun q => hn (Or.inr q)))
  by_cases h2 : n < nI 1 ∨ nI 3 < n
  · rw [if_pos h2]; exact h
  rw [if_neg h2]
  try dsimp only
  obtain ⟨n', rfl, hn⟩ := hlo (by decide) h2
  rw [nI_clamp (by omega)]
  by_cases h3 : z < nI 1 ∨ nI 4 < z
  · rw [if_pos h3]; exact h
  rw [if_neg h3]
  try dsimp only
  obtain ⟨z', rfl, hz⟩ := hlo (by decide) h3
  rw [nI_clamp (by omega)]
  by_cases h4 : k < nI 1 ∨ nI 5 < k
  · rw [if_pos h4]; exact h
  rw [if_neg h4]
  try dsimp only
  obtain ⟨k', rfl, hk⟩ := hlo (by decide) h4
  rw [nI_clamp (by omega)]
  by_cases h5 : ¬ b.1 t = 0
  · rw [if_pos h5]; exact h
  rw [if_neg h5]
  exact zInv_T h (by omega) (Classical.not_not.mp h5) hn hz hk
theorem zInv_mem {b : zBr} {i m : Nat} {v : Int32} (h : zInv b) (hi : i < 2) (hv : v = -1 ∨ ∃ j, j < 3 ∧ 0 < b.1 j ∧ v = nI j) : zInv (bH b i (sMem b.1 (b.2.2.2.2.2.1 i) m v)) := by
  have w7 := h.1.2.2.2.2.2.2 i
  refine zInv_H h ⟨fun t _ => rfl, fun k hk => ?_⟩ (fun t ht => ⟨(w7 t hi ht).2, (w7 t hi ht).2⟩)
  exact bX (p := fun w : Int32 => w = -1 ∨ ∃ j, j < 3 ∧ 0 < b.1 j ∧ w = nI j) (fun _ => hv) (fun _ => (h.2.2.2.2.2 i hi).2 k hk)
theorem zInv_join {b : zBr} {x m y : Int32} (h : zInv b) : zInv (sJoin b x m y).2 := by
  unfold sJoin zA
  by_cases h1 : x < nI 0 ∨ nI 1 < x
  · rw [if_pos h1]; exact h
  rw [if_neg h1]
  try dsimp only
  obtain ⟨i, rfl, hi⟩ := zRg (n := 1) (x := x) (by decide) (fun q => h1 (Or.inl q)) (fun q => h1 (Or.inr q))
  rw [nI_clamp (by omega)]
  by_cases h2 : m < nI 0 ∨ nI 3 < m
  · rw [if_pos h2]; exact h
  rw [if_neg h2]
  try dsimp only
  by_cases h3 : y < nI 0 ∨ nI 2 < y
  · rw [if_pos h3]; exact h
  rw [if_neg h3]
  try dsimp only
  obtain ⟨t, rfl, ht⟩ := zRg (n := 2) (x := y) (by decide) (fun q => h3 (Or.inl q)) (fun q => h3 (Or.inr q))
  rw [nI_clamp (by omega)]
  by_cases h4 : b.1 t = 0
  · rw [if_pos h4]; exact h
  rw [if_neg h4]
  exact zInv_mem h (by omega) (Or.inr ⟨t, by omega, by omega, rfl⟩)
theorem zInv_leave {b : zBr} {x m : Int32} (h : zInv b) : zInv (sLeave b x m).2 := by
  unfold sLeave zA
  by_cases h1 : x < nI 0 ∨ nI 1 < x
  · rw [if_pos h1]; exact h
  rw [if_neg h1]
  try dsimp only
  obtain ⟨i, rfl, hi⟩ := zRg (n := 1) (x := x) (by decide) (fun q => h1 (Or.inl q)) (fun q => h1 (Or.inr q))
  rw [nI_clamp (by omega)]
  by_cases h2 : m < nI 0 ∨ nI 3 < m
  · rw [if_pos h2]; exact h
  rw [if_neg h2]
  try dsimp only
  by_cases h4 : (b.2.2.2.2.2.1 i).2.1 m.toNatClampNeg = -1
  · rw [if_pos h4]; exact h
  rw [if_neg h4]
  exact zInv_mem h (by omega) (Or.inl rfl)
theorem zInv_0 : zInv zBr0 := by
  have hx : ∀ t, ¬ zEx zBr0 t := fun t h => Nat.not_lt_zero _ h.2
  refine ⟨⟨fun _ _ => Nat.zero_le _, fun t ht => absurd ht (hx t), fun t ht => absurd ht (hx t), fun _ _ => ⟨Or.inl rfl, Or.inl rfl⟩, fun _ _ _ _ => ⟨Nat.zero_le _, Nat.zero_le _⟩, fun _ _ => Or.inl rfl, fun _ _ _ _ => ⟨Nat.zero_le _, Nat.zero_le _⟩⟩, fun _ _ _ => rfl, fun q i _ hi hc => absurd hc.symm (nI_m1 (by omega)), fun i _ h => absurd (show nI 0 = nI 1 from h) (by decide), fun t ht => absurd ht (hx t), fun i _ => ⟨fun t ht => ?_, fun _ _ => Or.inl rfl⟩⟩
  show (-1 : Int32) = zOI (zWho (fun _ => -1) 0 t)
  rw [zWho_none (fun m _ q => nI_m1 (by omega) q.symm)]
  rfl
