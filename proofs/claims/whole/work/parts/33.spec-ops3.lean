/-! writing, deciding, opening, producing, new topics -/
def zWr (g : zLg) (e : zE) : zLg := zShort (zStab (zApp g e)) 61 (zApp g e)
theorem zShort_1 {stb : Nat} : ∀ {f : Nat} {g : zLg}, (zShort stb f g).1 = g.1 ∧ (zShort stb f g).2.1.2 = g.2.1.2 ∧ ∀ o e, (zShort stb f g).2.2 o = some e → g.2.2 o = some e
  | 0, g => ⟨rfl, rfl, fun _ _ h => h⟩
  | f + 1, g => by
    unfold zShort
    by_cases h : g.1.2.1 < zCl g ∧ g.2.1.1 + g.1.1 ≤ stb
    · rw [if_pos h]
      obtain ⟨h1, h2, h3⟩ := zShort_1 (stb := stb) (f := f) (g := zSh1 g)
      refine ⟨h1, h2, fun o e he => ?_⟩
      have h4 : (if o < g.2.1.1 + g.1.1 then none else g.2.2 o) = some e := h3 o e he
      by_cases h5 : o < g.2.1.1 + g.1.1
      · rw [if_pos h5] at h4; cases h4
      · rw [if_neg h5] at h4; exact h4
    · rw [if_neg h]; exact ⟨rfl, rfl, fun _ _ h => h⟩
theorem zLogW_short {stb : Nat} : ∀ {f : Nat} {g : zLg}, zLogW g → zLogW (zShort stb f g)
  | 0, g, h => h
  | f + 1, g, hW => by
    unfold zShort
    by_cases h : g.1.2.1 < zCl g ∧ g.2.1.1 + g.1.1 ≤ stb
    · rw [if_pos h]
      exact zLogW_short (zLogW_sh1 hW (by omega))
    · rw [if_neg h]; exact hW
theorem zWr_end (g : zLg) (e : zE) : (zWr g e).2.1.2 = g.2.1.2 + 1 := zShort_1.2.1
theorem zWr_ent {g : zLg} {e : zE} {o : Nat} {e2 : zE} (h : (zWr g e).2.2 o = some e2) : (o = g.2.1.2 ∧ e2 = e) ∨ g.2.2 o = some e2 := by
  have h1 : (if o = g.2.1.2 then some e else g.2.2 o) = some e2 := zShort_1.2.2 o e2 h
  by_cases h2 : o = g.2.1.2
  · rw [if_pos h2] at h1; cases h1; exact Or.inl ⟨h2, rfl⟩
  · rw [if_neg h2] at h1; exact Or.inr h1
theorem zLogW_wr {g : zLg} {e : zE} (h : zLogW g) (hen : g.2.1.2 < 60) : zLogW (zWr g e) := zLogW_short (zLogW_app h hen)
/-- how many go when it is written -/
def zWd (g : zLg) (e : zE) : Nat := zPr (zApp g e) - zPr (zWr g e)
def bW (b : zBr) (t : Nat) (e : zE) : zBr := bN (bG b t (zWr (b.2.1 t) e)) (b.2.2.2.2.2.2.1 + nI 1, b.2.2.2.2.2.2.2.1, b.2.2.2.2.2.2.2.2.1, b.2.2.2.2.2.2.2.2.2.1 + nI (zWd (b.2.1 t) e), b.2.2.2.2.2.2.2.2.2.2)
theorem zBrW_wr {b : zBr} {t : Nat} {e : zE} (h : zBrW b) (ht : zEx b t) (hen : (b.2.1 t).2.1.2 < 60) (he : zEW e) : zBrW (bW b t e) := by
  obtain ⟨v1, v2, v3, v4, v5, v6, v7⟩ := h
  have e1 : ∀ j, (bW b t e).2.1 j = if j = t then zWr (b.2.1 t) e else b.2.1 j := fun j => rfl
  refine ⟨v1, fun j hj => ?_, fun j hj o e2 h2 => ?_, v4, fun i j hi hj => ?_, v6, v7⟩
  · rw [e1]
    by_cases h9 : j = t
    · rw [if_pos h9]; exact zLogW_wr (v2 t ht) hen
    · rw [if_neg h9]; exact v2 j hj
  · rw [e1] at h2
    by_cases h9 : j = t
    · rw [if_pos h9] at h2
      rcases zWr_ent h2 with h3 | h3
      · rw [h3.2]; exact he
      · exact v3 t ht o e2 h3
    · rw [if_neg h9] at h2; exact v3 j hj o e2 h2
  · rw [e1]
    have h5 := v5 i j hi hj
    show (b.2.2.1 i).2.2.1 j ≤ _ ∧ _
    by_cases h9 : j = t
    · subst h9; rw [if_pos rfl, zWr_end]; omega
    · rw [if_neg h9]; exact h5
/-- a record newly made -/
theorem zNewE {S : zS} {n : Nat} {a0 a1 a2 a3 a4 : Int32} : zEat (zsi (zsi (zsi (zsi (zsi (zadd S n) n 0 a0) n 1 a1) n 2 a2) n 3 a3) n 4 a4) n (a0, a1, a2, a3, a4) ∧ zfr (fun q => q = n) S (zsi (zsi (zsi (zsi (zsi (zadd S n) n 0 a0) n 1 a1) n 2 a2) n 3 a3) n 4 a4) ∧ ∀ q, q ≠ n → (zsi (zsi (zsi (zsi (zsi (zadd S n) n 0 a0) n 1 a1) n 2 a2) n 3 a3) n 4 a4).1 q = S.1 q := by
  refine ⟨⟨zadd_s, rd_i (Or.inr (by decide)) (rd_i (Or.inr (by decide)) (rd_i (Or.inr (by decide)) (rd_i (Or.inr (by decide)) rd_s))), rd_i (Or.inr (by decide)) (rd_i (Or.inr (by decide)) (rd_i (Or.inr (by decide)) rd_s)), rd_i (Or.inr (by decide)) (rd_i (Or.inr (by decide)) rd_s), rd_i (Or.inr (by decide)) rd_s, rd_s⟩, ?_, fun q hq => zadd_n hq⟩
  exact ((((zfr.tr (S2 := zadd S n) ⟨fun q hq => zadd_n hq, fun q hq => ⟨rfl, rfl, rfl⟩⟩ (zfr.i rfl)).tr (zfr.i rfl)).tr (zfr.i rfl)).tr (zfr.i rfl)).tr (zfr.i rfl)
/-- the object after a record was made and written -/
theorem zBrA_wr {S S0 S' : zS} {b : zBr} {t : Nat} {e : zE} (hB : zBrA S b) (hW : zBrW b) (ht : zEx b t) (h0 : zfr (fun q => q = 200 + 60 * t + (b.2.1 t).2.1.2) S S0) (hd0 : ∀ q, q ≠ 200 + 60 * t + (b.2.1 t).2.1.2 → S0.1 q = S.1 q) (hen : (b.2.1 t).2.1.2 < 60)
    (hT : zTop S' (b.1, b.2.1, b.2.2.1, b.2.2.2.1, b.2.2.2.2.1, b.2.2.2.2.2.1, b.2.2.2.2.2.2.1 + nI 1, b.2.2.2.2.2.2.2.1, b.2.2.2.2.2.2.2.2.1, b.2.2.2.2.2.2.2.2.2.1 + nI (zWd (b.2.1 t) e), b.2.2.2.2.2.2.2.2.2.2)) (hA : zLogA S' t (zWr (b.2.1 t) e)) (hf : zfr (fun n => n = 1 ∨ zOwnG t n) S0 S') (hd : S'.1 = S0.1) :
    zBrA S' (bW b t e) ∧ zfr (fun n => n = 1 ∨ zOwnG t n) S S' := by
  have ht12 := ht.1
  have hfx : zfr (fun n => n = 1 ∨ zOwnG t n) S S' := (h0.mono (fun q hq => Or.inr (Or.inr (Or.inr (by omega))))).tr hf
  refine ⟨zBrA_upd hB hW hfx hT rfl (fun t2 h2 => ?_) (fun i hi => Or.inr ⟨rfl, fun n h9 h => by unfold zOwnS at h9; unfold zOwnG at h; omega⟩) (fun i hi => Or.inr ⟨rfl, fun n h9 h => by unfold zOwnH at h9; unfold zOwnG at h; omega⟩) (fun t2 h12 h2 n h9 h => ?_), hfx⟩
  · by_cases e9 : t2 = t
    · subst e9
      have e8 : (bW b t2 e).2.1 t2 = zWr (b.2.1 t2) e := if_pos rfl
      refine Or.inl ⟨by rw [e8]; exact hA, fun o ho h => ?_⟩
      rw [e8, zWr_end] at h
      rw [hd, hd0 _ (by omega)]
      exact hB.2.2.2.2.2 t2 ht o ho (by omega)
    · exact Or.inr ⟨if_neg e9, fun n h9 h => by unfold zOwnG at h9 h; have := h2.1; omega⟩
  · unfold zOwnG at h9 h
    have : ¬ t2 = t := fun e => h2 (by rw [e]; exact ht)
    omega
def bM (b : zBr) (v : Int32) : zBr := bN b (b.2.2.2.2.2.2.1, b.2.2.2.2.2.2.2.1, v, b.2.2.2.2.2.2.2.2.2.1, b.2.2.2.2.2.2.2.2.2.2)
/-- sums of k numbers from 0 on -/
def zsum (f : Nat → Nat) : Nat → Nat
  | 0 => 0
  | k + 1 => zsum f k + f k
def zU (b : zBr) (q : Int32) (t : Nat) : Bool := zHasU (b.2.1 t) q
/-- the markers of the partitions below k are written -/
def bDk (b : zBr) (q : Int32) (e : zE) (k : Nat) : zBr := (b.1, (fun t => if t < k ∧ zU b q t = true then zWr (b.2.1 t) e else b.2.1 t), b.2.2.1, b.2.2.2.1, b.2.2.2.2.1, b.2.2.2.2.2.1, b.2.2.2.2.2.2.1 + nI (zcnt (zU b q) k 0), b.2.2.2.2.2.2.2.1, b.2.2.2.2.2.2.2.2.1, b.2.2.2.2.2.2.2.2.2.1 + nI (zsum (fun t => if zU b q t = true then zWd (b.2.1 t) e else 0) k), b.2.2.2.2.2.2.2.2.2.2)
theorem zIa (x : Int32) (a c : Nat) : x + nI a + nI c = x + nI (a + c) := by rw [Int32.add_assoc, nI_add]
theorem bDk_0 {b : zBr} {q : Int32} {e : zE} : bDk b q e 0 = b := by
  have e1 : (fun t => if t < 0 ∧ zU b q t = true then zWr (b.2.1 t) e else b.2.1 t) = b.2.1 := by
    funext t; exact if_neg (by omega)
  unfold bDk
  rw [e1]
  show (b.1, b.2.1, b.2.2.1, b.2.2.2.1, b.2.2.2.2.1, b.2.2.2.2.2.1, b.2.2.2.2.2.2.1 + nI 0, _, _, b.2.2.2.2.2.2.2.2.2.1 + nI 0, _) = _
  rw [nI_0, Int32.add_zero, Int32.add_zero]
theorem bDk_at {b : zBr} {q : Int32} {e : zE} {k t : Nat} (h : k ≤ t) : (bDk b q e k).2.1 t = b.2.1 t := if_neg (by omega)
theorem bDk_y {b : zBr} {q : Int32} {e : zE} {k : Nat} (h : zU b q k = true) : bDk b q e (k + 1) = bW (bDk b q e k) k e := by
  have e0 : (bDk b q e k).2.1 k = b.2.1 k := bDk_at (Nat.le_refl _)
  have e1 : (fun t => if t < k + 1 ∧ zU b q t = true then zWr (b.2.1 t) e else b.2.1 t) = fun j => if j = k then zWr (b.2.1 k) e else (if j < k ∧ zU b q j = true then zWr (b.2.1 j) e else b.2.1 j) := by
    funext t
    by_cases h1 : t = k
    · subst h1; rw [if_pos rfl, if_pos ⟨by omega, h⟩]
    · rw [if_neg h1]
      by_cases h2 : t < k ∧ zU b q t = true
      · rw [if_pos h2, if_pos ⟨by omega, h2.2⟩]
      · rw [if_neg h2, if_neg (fun q9 => h2 ⟨by omega, q9.2⟩)]
  unfold bW
  rw [e0]
  unfold bDk bN bG
  dsimp only
  rw [e1, zcnt_step, if_pos h, zIa, zIa]
  show _ = (_, _, _, _, _, _, _, _, _, _ + nI (zsum (fun t => if zU b q t = true then zWd (b.2.1 t) e else 0) k + zWd (b.2.1 k) e), _)
  show (_, _, _, _, _, _, _, _, _, _ + nI (zsum (fun t => if zU b q t = true then zWd (b.2.1 t) e else 0) k + (if zU b q k = true then zWd (b.2.1 k) e else 0)), _) = _
  rw [if_pos h]
theorem bDk_n {b : zBr} {q : Int32} {e : zE} {k : Nat} (h : ¬ zU b q k = true) : bDk b q e (k + 1) = bDk b q e k := by
  have e1 : (fun t => if t < k + 1 ∧ zU b q t = true then zWr (b.2.1 t) e else b.2.1 t) = fun j => (if j < k ∧ zU b q j = true then zWr (b.2.1 j) e else b.2.1 j) := by
    funext t
    by_cases h2 : t < k ∧ zU b q t = true
    · rw [if_pos h2, if_pos ⟨by omega, h2.2⟩]
    · rw [if_neg h2, if_neg (fun q9 => h2 ⟨by
        rcases Nat.lt_or_ge t k with h3 | h3
        · exact h3
        · have : t = k := by omega
          subst this; exact absurd q9.2 h, q9.2⟩)]
  unfold bDk
  rw [e1, zcnt_step, if_neg h]
  show (_, _, _, _, _, _, _, _, _, _ + nI (zsum (fun t => if zU b q t = true then zWd (b.2.1 t) e else 0) k + (if zU b q k = true then zWd (b.2.1 k) e else 0)), _) = _
  rw [if_neg h]
  rfl
def zRoom (b : zBr) (q : Int32) : Bool := (zfind (fun t => zU b q t && decide (¬ (b.2.1 t).2.1.2 < 60)) 12 0).isNone
theorem zRoom_iff {b : zBr} {q : Int32} : zRoom b q = true ↔ ∀ t, t < 12 → zU b q t = true → (b.2.1 t).2.1.2 < 60 := by
  unfold zRoom
  constructor
  · intro h t ht hu
    have h1 := zfind_nspec (Option.isNone_iff_eq_none.mp h) t (by omega) (by omega)
    rw [hu, Bool.true_and] at h1
    rcases Nat.lt_or_ge (b.2.1 t).2.1.2 60 with h2 | h2
    · exact h2
    · rw [decide_eq_true (by omega)] at h1; cases h1
  · intro h
    rw [zfind_none (fun j h1 h2 => ?_)]
    · rfl
    · cases hu : zU b q j with
      | false => rfl
      | true => rw [Bool.true_and]; exact decide_eq_false (fun q => q (h j (by omega) hu))
theorem zEW_mk {q c : Int32} (h : ∃ k, k < 4 ∧ q = nI k) (hc : c = nI 1 ∨ c = nI 2) : zEW (c, -1, nI 0, q, nI 0) := ⟨hc.elim (fun h => ⟨1, by omega, h⟩) (fun h => ⟨2, by omega, h⟩), Or.inl rfl, h, ⟨0, by omega, rfl⟩, fun h => absurd (show nI 0 = nI 2 from h) (by decide)⟩
theorem zBrW_Dk {b : zBr} {q : Int32} {e : zE} (hW : zBrW b) (hr : ∀ t, zEx b t → zU b q t = true → (b.2.1 t).2.1.2 < 60) (hn : ∀ t, t < 12 → ¬ zEx b t → zU b q t = false) (he : zEW e) : ∀ k, k ≤ 12 → zBrW (bDk b q e k)
  | 0, _ => by rw [bDk_0]; exact hW
  | k + 1, hk => by
    have ih := zBrW_Dk hW hr hn he k (by omega)
    by_cases h : zU b q k = true
    · rw [bDk_y h]
      have hx : zEx b k := Classical.byContradiction fun q9 => by rw [hn k (by omega) q9] at h; cases h
      exact zBrW_wr ih hx (by rw [bDk_at (Nat.le_refl _)]; exact hr k hx h) he
    · rw [bDk_n h]; exact ih
def zMk (q : Int32) (c : Bool) : zE := (if c = true then nI 1 else nI 2, -1, nI 0, q, nI 0)
theorem zI_acc (x y : Int32) : x + y - x = y := by rw [Int32.add_comm, Int32.add_sub_cancel]
theorem bM_W {b : zBr} {v : Int32} {t : Nat} {e : zE} : bW (bM b v) t e = bM (bW b t e) v := rfl
theorem bM_M {b : zBr} {v x : Int32} : bM (bM b v) x = bM b x := rfl
theorem zBrW_M {b : zBr} {v : Int32} (h : zBrW b) : zBrW (bM b v) := h
theorem zTop_M {S : zS} {b : zBr} {v : Int32} (h : zTop S b) : zTop (zsi S 1 8 v) (bM b v) := zTop_8 h
theorem zBrA_M {S : zS} {b : zBr} {v : Int32} (h : zBrA S b) (hW : zBrW b) : zBrA (zsi S 1 8 v) (bM b v) ∧ zfr (fun n => n = 1) S (zsi S 1 8 v) := by
  have hf : zfr (fun n => n = 1) S (zsi S 1 8 v) := zfr.i rfl
  exact ⟨zBrA_upd h hW hf (zTop_M h.1) rfl (fun t2 h2 => Or.inr ⟨rfl, fun n h9 h => by unfold zOwnG at h9; omega⟩) (fun i hi => Or.inr ⟨rfl, fun n h9 h => by unfold zOwnS at h9; omega⟩) (fun i hi => Or.inr ⟨rfl, fun n h9 h => by unfold zOwnH at h9; omega⟩) (fun t2 h12 h2 n h9 h => by unfold zOwnG at h9; omega), hf⟩
/-- the states of the partitions below k are written -/
def bSk (b : zBr) (q x : Int32) (k : Nat) : zBr := (b.1, (fun t => if t < k then zSet (b.2.1 t) q x else b.2.1 t), b.2.2)
theorem bSk_0 {b : zBr} {q x : Int32} : bSk b q x 0 = b := by
  have e1 : (fun t => if t < 0 then zSet (b.2.1 t) q x else b.2.1 t) = b.2.1 := by funext t; exact if_neg (by omega)
  unfold bSk; rw [e1]
theorem bSk_at {b : zBr} {q x : Int32} {k t : Nat} (h : k ≤ t) : (bSk b q x k).2.1 t = b.2.1 t := if_neg (by omega)
theorem bSk_s {b : zBr} {q x : Int32} {k : Nat} : bSk b q x (k + 1) = bG (bSk b q x k) k (zSet (b.2.1 k) q x) := by
  have e1 : (fun t => if t < k + 1 then zSet (b.2.1 t) q x else b.2.1 t) = fun j => if j = k then zSet (b.2.1 k) q x else (if j < k then zSet (b.2.1 j) q x else b.2.1 j) := by
    funext t
    by_cases h1 : t = k
    · subst h1; rw [if_pos rfl, if_pos (by omega)]
    · rw [if_neg h1]
      by_cases h2 : t < k
      · rw [if_pos h2, if_pos (by omega)]
      · rw [if_neg h2, if_neg (by omega)]
  unfold bSk bG
  rw [e1]
theorem zSet_end {g : zLg} {q x : Int32} : (zSet g q x).2.1 = g.2.1 := rfl
theorem zSet_some {g : zLg} {q x : Int32} {o : Nat} {e : zE} (h : (zSet g q x).2.2 o = some e) : ∃ e0, g.2.2 o = some e0 ∧ e = if e0.2.2.2.2 = nI 2 ∧ e0.2.2.2.1 = q then (e0.1, e0.2.1, e0.2.2.1, e0.2.2.2.1, x) else e0 := by
  have h' : (g.2.2 o).map (fun e => if e.2.2.2.2 = nI 2 ∧ e.2.2.2.1 = q then (e.1, e.2.1, e.2.2.1, e.2.2.2.1, x) else e) = some e := h
  cases hg : g.2.2 o with
  | none => rw [hg] at h'; cases h'
  | some e0 => rw [hg] at h'; cases h'; exact ⟨e0, rfl, rfl⟩
theorem zLogW_set {g : zLg} {q x : Int32} (h : zLogW g) : zLogW (zSet g q x) := zLogW_ent h (fun o ho => by show (g.2.2 o).map _ = none; rw [ho]; rfl)
theorem zEW_set {e0 : zE} {q x : Int32} (h : zEW e0) (hx : x = nI 0 ∨ x = nI 1) : zEW (if e0.2.2.2.2 = nI 2 ∧ e0.2.2.2.1 = q then (e0.1, e0.2.1, e0.2.2.1, e0.2.2.2.1, x) else e0) := by
  by_cases h9 : e0.2.2.2.2 = nI 2 ∧ e0.2.2.2.1 = q
  · rw [if_pos h9]
    obtain ⟨a, b, c, d, e⟩ := h
    refine ⟨a, b, c, hx.elim (fun h => ⟨0, by omega, h⟩) (fun h => ⟨1, by omega, h⟩), fun h => ?_⟩
    have h' : x = nI 2 := h
    rcases hx with h1 | h1 <;> (rw [h1] at h'; exact absurd h' (by decide))
  · rw [if_neg h9]; exact h
theorem zBrW_G {b : zBr} {t : Nat} {g : zLg} (h : zBrW b) (hg : zLogW g) (he : ∀ o e, g.2.2 o = some e → zEW e) (hend : (b.2.1 t).2.1.2 ≤ g.2.1.2) : zBrW (bG b t g) := by
  obtain ⟨v1, v2, v3, v4, v5, v6, v7⟩ := h
  have e1 : ∀ j, (bG b t g).2.1 j = if j = t then g else b.2.1 j := fun j => rfl
  refine ⟨v1, fun j hj => ?_, fun j hj o e2 h2 => ?_, v4, fun i j hi hj => ?_, v6, v7⟩
  · rw [e1]
    by_cases h9 : j = t
    · rw [if_pos h9]; exact hg
    · rw [if_neg h9]; exact v2 j hj
  · rw [e1] at h2
    by_cases h9 : j = t
    · rw [if_pos h9] at h2; exact he o e2 h2
    · rw [if_neg h9] at h2; exact v3 j hj o e2 h2
  · rw [e1]
    have h5 := v5 i j hi hj
    show (b.2.2.1 i).2.2.1 j ≤ _ ∧ _
    by_cases h9 : j = t
    · subst h9; rw [if_pos rfl]; exact ⟨Nat.le_trans h5.1 hend, hg.2.2.2.2.2.1⟩
    · rw [if_neg h9]; exact h5
theorem zBrA_G {S S' : zS} {b : zBr} {t : Nat} {g : zLg} (hB : zBrA S b) (hW : zBrW b) (ht : zEx b t) (hA : zLogA S' t g) (hf : zfr (zOwnG t) S S') (hd : S'.1 = S.1) (hend : g.2.1.2 = (b.2.1 t).2.1.2) : zBrA S' (bG b t g) := by
  have ht12 := ht.1
  refine zBrA_upd hB hW hf (zTop_fr hB.1 (fun n h1 h2 => hf.ag (fun h => by unfold zOwnG at h; omega))) rfl (fun t2 h2 => ?_) (fun i hi => Or.inr ⟨rfl, fun n h9 h => by unfold zOwnS at h9; unfold zOwnG at h; omega⟩) (fun i hi => Or.inr ⟨rfl, fun n h9 h => by unfold zOwnH at h9; unfold zOwnG at h; omega⟩) (fun t2 h12 h2 n h9 h => ?_)
  · by_cases e9 : t2 = t
    · subst e9
      have e8 : (bG b t2 g).2.1 t2 = g := if_pos rfl
      refine Or.inl ⟨by rw [e8]; exact hA, fun o ho h => ?_⟩
      rw [e8, hend] at h
      rw [hd]
      exact hB.2.2.2.2.2 t2 ht o ho h
    · exact Or.inr ⟨if_neg e9, fun n h9 h => by unfold zOwnG at h9 h; have := h2.1; omega⟩
  · unfold zOwnG at h9 h
    have : ¬ t2 = t := fun e => h2 (by rw [e]; exact ht)
    omega
theorem zBrA_S {S S' : zS} {b : zBr} {i : Nat} {u : zSn} (hB : zBrA S b) (hW : zBrW b) (hi : i < 6) (hA : zSsA S' i u) (hf : zfr (zOwnS i) S S') : zBrA S' (bS b i u) := by
  refine zBrA_upd hB hW hf (zTop_fr hB.1 (fun n h1 h2 => hf.ag (fun h => by unfold zOwnS at h; omega))) rfl (fun t2 h2 => Or.inr ⟨rfl, fun n h9 h => by unfold zOwnS at h; unfold zOwnG at h9; have := h2.1; omega⟩) (fun j hj => ?_) (fun j hj => Or.inr ⟨rfl, fun n h9 h => by unfold zOwnH at h9; unfold zOwnS at h; omega⟩) (fun t2 h12 h2 n h9 h => by unfold zOwnS at h; unfold zOwnG at h9; omega)
  by_cases e9 : j = i
  · subst e9
    have e8 : (bS b j u).2.2.1 j = u := if_pos rfl
    exact Or.inl (by rw [e8]; exact hA)
  · exact Or.inr ⟨if_neg e9, fun n h9 h => by unfold zOwnS at h9 h; omega⟩
theorem zSsA_tr {S : zS} {i : Nat} {u : zSn} {v : Int32} (hA : zSsA S i u) (hi : i < 6) : zSsA (zsi S (10 + i) 1 v) i (u.1, v, u.2.2) := by
  obtain ⟨k1, k2, k3, k4, k5, k6, k7, k8, k9⟩ := hA
  exact ⟨k1, k2, k3, rd_i (Or.inr (by decide)) k4, rd_s, k6, k7, fun t ht => rd_i (Or.inl (by omega)) (k8 t ht), fun t ht => rd_i (Or.inl (by omega)) (k9 t ht)⟩
def sDec (b : zBr) (i : Nat) (c : Bool) : zBr := bS (bSk (bM (bDk b (b.2.2.1 i).1 (zMk (b.2.2.1 i).1 c) 12) (b.2.2.2.2.2.2.2.2.1 + nI (zcnt (zU b (b.2.2.1 i).1) 12 0))) (b.2.2.1 i).1 (if c = true then nI 0 else nI 1) 12) i ((b.2.2.1 i).1, nI 0, (b.2.2.1 i).2.2)
/-- a new record's name is not among the log's records -/
theorem zLogA_nw {S S0 : zS} {t : Nat} {g : zLg} (h : zLogA S t g) (hW : zLogW g) (ht : t < 12) (hf : zfr (fun q => q = 200 + 60 * t + g.2.1.2) S S0) : zLogA S0 t g := by
  obtain ⟨w1, w2, w3, w4, w5, w6, w7, w8, w9⟩ := hW
  obtain ⟨h1, h2, f0, f1, f2, f3, f4, f5, f6, f7, f8, hent, hee⟩ := h
  have a1 : zAg S S0 (60 + t) := hf.ag (by omega)
  have a2 : zAg S S0 (80 + t) := hf.ag (by omega)
  refine ⟨a1.d h1, a2.d h2, a1.i f0, a1.i f1, a1.i f2, a1.p f3, a1.i f4, a1.i f5, a1.i f6, a1.i f7, a1.i f8, fun o => a2.p (hent o), fun o e he => zEat_fr (hee o e he) (hf.ag ?_)⟩
  intro h9
  have : o = g.2.1.2 := by omega
  rw [w8 o (by omega)] at he; cases he
theorem zSet_no {b : zBr} {k : Nat} {g g0 : zLg} {q x : Int32} (hb : b.2.1 k = g) (h : ∀ o : Nat, g = g0 ∧ g0.2.2 o = none) : bG b k (zSet g q x) = b := by
  have h1 : zSet g q x = g := by
    unfold zSet
    rw [show (fun o => (g.2.2 o).map (fun e => if e.2.2.2.2 = nI 2 ∧ e.2.2.2.1 = q then (e.1, e.2.1, e.2.2.1, e.2.2.2.1, x) else e)) = g.2.2 from by
      funext o
      rw [(h o).1, (h o).2]; rfl]
  unfold bG
  rw [h1, ← hb, show (fun j => if j = k then b.2.1 k else b.2.1 j) = b.2.1 from by
    funext j
    by_cases e9 : j = k
    · rw [if_pos e9, e9]
    · rw [if_neg e9]]
