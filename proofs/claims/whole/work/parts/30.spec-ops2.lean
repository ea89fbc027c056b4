/-! the broker with one thing changed -/
def bG (b : zBr) (t : Nat) (g : zLg) : zBr := (b.1, (fun j => if j = t then g else b.2.1 j), b.2.2)
def bS (b : zBr) (i : Nat) (u : zSn) : zBr := (b.1, b.2.1, (fun j => if j = i then u else b.2.2.1 j), b.2.2.2)
def bC (b : zBr) (q : Nat) (v : Int32) : zBr := (b.1, b.2.1, b.2.2.1, (fun j => if j = q then v else b.2.2.2.1 j), b.2.2.2.2)
def bO (b : zBr) (q : Nat) (v : Int32) : zBr := (b.1, b.2.1, b.2.2.1, b.2.2.2.1, (fun j => if j = q then v else b.2.2.2.2.1 j), b.2.2.2.2.2)
def bH (b : zBr) (i : Nat) (u : zGr) : zBr := (b.1, b.2.1, b.2.2.1, b.2.2.2.1, b.2.2.2.2.1, (fun j => if j = i then u else b.2.2.2.2.2.1 j), b.2.2.2.2.2.2)
def bN (b : zBr) (n : Int32 × Int32 × Int32 × Int32 × Int32) : zBr := (b.1, b.2.1, b.2.2.1, b.2.2.2.1, b.2.2.2.2.1, b.2.2.2.2.2.1, n)
/-- an argument in 0 .. n; a partition that is there; an answer that may be none -/
def zA {α : Type} (x : Int32) (n : Nat) (d : α) (k : Nat → α) : α := if x < nI 0 ∨ nI n < x then d else k x.toNatClampNeg
theorem zA_n {α : Type} {x : Int32} {n : Nat} {d : α} {k : Nat → α} (h : x < nI 0 ∨ nI n < x) : zA x n d k = d := if_pos h
theorem zA_s {α : Type} {i n : Nat} {d : α} {k : Nat → α} (h : i ≤ n) (hn : n < 2 ^ 31) : zA (nI i) n d k = k i := by
  unfold zA
  rw [if_neg (fun q => q.elim (fun q => absurd ((nI_ltI (by omega) (by decide)).mp q) (by omega)) (fun q => absurd ((nI_ltI (by omega) (by omega)).mp q) (by omega))), nI_clamp (by omega)]
def zT {α : Type} (b : zBr) (x : Int32) (d : α) (k : Nat → α) : α := match zTpOf b x with
  | none => d
  | some t => k t
theorem zT_n {α : Type} {b : zBr} {x : Int32} {d : α} {k : Nat → α} (h : ¬ ∃ t, zEx b t ∧ x = nI t) : zT b x d k = d := by unfold zT; rw [zTpOf_n h]
theorem zT_s {α : Type} {b : zBr} {t : Nat} {d : α} {k : Nat → α} (h : zEx b t) : zT b (nI t) d k = k t := by unfold zT; rw [zTpOf_s h]
def zO {β α : Type} (r : Option β) (d : α) (k : β → α) : α := match r with
  | none => d
  | some t => k t
def sFld (e : zE) (k : Nat) : Int32 := if k = 0 then e.2.1 else if k = 1 then e.2.2.1 else if k = 2 then e.1 else if k = 3 then e.2.2.2.1 else e.2.2.2.2
def sTold (b : zBr) (x y w : Int32) : Nat × Int32 := zT b x (1, 0) fun t => zA w 4 (1, 0) fun k => if y < nI (b.2.1 t).2.1.1 ∨ ¬ y < nI (b.2.1 t).2.1.2 then (3, 0) else zO ((b.2.1 t).2.2 y.toNatClampNeg) (2, 0) fun e => (0, sFld e k)
def sOwner (b : zBr) (x y : Int32) : Nat × Int32 := zA x 1 (1, 0) fun i => zT b y (1, 0) fun t => if (b.2.2.2.2.2.1 i).2.2.1 t = -1 then (2, 0) else (0, (b.2.2.2.2.2.1 i).2.2.1 t)
def sPoll (b : zBr) (x m gn y : Int32) : (Nat × Int32) × zBr := zA x 1 ((1, 0), b) fun i => zA m 3 ((1, 0), b) fun k => zT b y ((1, 0), b) fun t => if ¬ (gn = (b.2.2.2.2.2.1 i).1 ∧ (b.2.2.2.2.2.1 i).2.2.1 t = nI k) then ((3, 0), b) else
  zO (zVis (b.2.1 t) (max ((b.2.2.2.2.2.1 i).2.2.2.1 t) (b.2.1 t).2.1.1) true) ((2, 0), b) fun z => ((0, nI z), bH b i ((b.2.2.2.2.2.1 i).1, (b.2.2.2.2.2.1 i).2.1, (b.2.2.2.2.2.1 i).2.2.1, (fun j => if j = t then z + 1 else (b.2.2.2.2.2.1 i).2.2.2.1 j), (b.2.2.2.2.2.1 i).2.2.2.2))
def sKeep (b : zBr) (x m gn y o : Int32) : (Nat × Int32) × zBr := zA x 1 ((1, 0), b) fun i => zA m 3 ((1, 0), b) fun k => zT b y ((1, 0), b) fun t => zA o (b.2.1 t).2.1.2 ((1, 0), b) fun z => if ¬ (gn = (b.2.2.2.2.2.1 i).1 ∧ (b.2.2.2.2.2.1 i).2.2.1 t = nI k) then ((2, 0), b) else
  ((0, 0), bH b i ((b.2.2.2.2.2.1 i).1, (b.2.2.2.2.2.1 i).2.1, (b.2.2.2.2.2.1 i).2.2.1, (b.2.2.2.2.2.1 i).2.2.2.1, (fun j => if j = t then z else (b.2.2.2.2.2.1 i).2.2.2.2 j)))
def sLogV (b : zBr) (t k : Nat) : Nat := if k = 0 then (b.2.1 t).2.1.1 else if k = 1 then (b.2.1 t).2.1.2 else if k = 2 then zStab (b.2.1 t) else if k = 3 then zPr (b.2.1 t) else if k = 4 then zCl (b.2.1 t) else if k = 5 then (b.2.2.2.2.2.1 0).2.2.2.1 t else if k = 6 then (b.2.2.2.2.2.1 1).2.2.2.1 t else if k = 7 then (b.2.2.2.2.2.1 0).2.2.2.2 t else (b.2.2.2.2.2.1 1).2.2.2.2 t
def sLog (b : zBr) (x w : Int32) : Nat × Int32 := zT b x (1, 0) fun t => zA w 8 (1, 0) fun k => (0, nI (sLogV b t k))
theorem sLog_v {b : zBr} {t k : Nat} (h : zEx b t) (hk : k ≤ 8) : sLog b (nI t) (nI k) = (0, nI (sLogV b t k)) := by unfold sLog; rw [zT_s h, zA_s hk (by decide)]
theorem sLogV_0 {b : zBr} {t : Nat} : sLogV b t 0 = (b.2.1 t).2.1.1 := by unfold sLogV; rw [if_pos rfl]
theorem sLogV_1 {b : zBr} {t : Nat} : sLogV b t 1 = (b.2.1 t).2.1.2 := by unfold sLogV; rw [if_neg (by decide), if_pos rfl]
theorem sLogV_2 {b : zBr} {t : Nat} : sLogV b t 2 = zStab (b.2.1 t) := by unfold sLogV; rw [if_neg (by decide), if_neg (by decide), if_pos rfl]
theorem sLogV_3 {b : zBr} {t : Nat} : sLogV b t 3 = zPr (b.2.1 t) := by unfold sLogV; rw [if_neg (by decide), if_neg (by decide), if_neg (by decide), if_pos rfl]
theorem sLogV_4 {b : zBr} {t : Nat} : sLogV b t 4 = zCl (b.2.1 t) := by unfold sLogV; rw [if_neg (by decide), if_neg (by decide), if_neg (by decide), if_neg (by decide), if_pos rfl]
theorem sLogV_5 {b : zBr} {t : Nat} : sLogV b t 5 = (b.2.2.2.2.2.1 0).2.2.2.1 t := by unfold sLogV; rw [if_neg (by decide), if_neg (by decide), if_neg (by decide), if_neg (by decide), if_neg (by decide), if_pos rfl]
theorem sLogV_6 {b : zBr} {t : Nat} : sLogV b t 6 = (b.2.2.2.2.2.1 1).2.2.2.1 t := by unfold sLogV; rw [if_neg (by decide), if_neg (by decide), if_neg (by decide), if_neg (by decide), if_neg (by decide), if_neg (by decide), if_pos rfl]
theorem sLogV_7 {b : zBr} {t : Nat} : sLogV b t 7 = (b.2.2.2.2.2.1 0).2.2.2.2 t := by unfold sLogV; rw [if_neg (by decide), if_neg (by decide), if_neg (by decide), if_neg (by decide), if_neg (by decide), if_neg (by decide), if_neg (by decide), if_pos rfl]
theorem sLogV_8 {b : zBr} {t : Nat} : sLogV b t 8 = (b.2.2.2.2.2.1 1).2.2.2.2 t := by unfold sLogV; rw [if_neg (by decide), if_neg (by decide), if_neg (by decide), if_neg (by decide), if_neg (by decide), if_neg (by decide), if_neg (by decide), if_neg (by decide)]
def sCompact (b : zBr) (x : Int32) : (Nat × Int32) × zBr := zT b x ((1, 0), b) fun t => if (b.2.1 t).1.2.2 = nI 0 then ((2, 0), b) else
  ((0, nI (zPr (b.2.1 t) - zPr (zComp (b.2.1 t)))), bN (bG b t (zComp (b.2.1 t))) (b.2.2.2.2.2.2.1, b.2.2.2.2.2.2.2.1, b.2.2.2.2.2.2.2.2.1, b.2.2.2.2.2.2.2.2.2.1, b.2.2.2.2.2.2.2.2.2.2 + nI (zPr (b.2.1 t) - zPr (zComp (b.2.1 t)))))
/-- the session i is its producer's current one -/
def zCur (b : zBr) (i : Nat) : Prop := b.2.2.2.1 (b.2.2.1 i).1.toNatClampNeg = nI i
theorem zCur_iff {b : zBr} {i : Nat} (h : ∃ q, q < 4 ∧ (b.2.2.1 i).1 = nI q) : zCur b i ↔ ∃ q, q < 4 ∧ (b.2.2.1 i).1 = nI q ∧ b.2.2.2.1 q = nI i := by
  obtain ⟨q, h1, h2⟩ := h
  unfold zCur
  rw [h2, nI_clamp (by omega)]
  constructor
  · intro h; exact ⟨q, h1, rfl, h⟩
  · rintro ⟨q2, h3, h4, h5⟩
    rw [(nI_eq (by omega) (by omega)).mp h4]; exact h5
def sBegin (b : zBr) (x : Int32) : (Nat × Int32) × zBr := zA x 5 ((1, 0), b) fun i => if (b.2.2.1 i).1 = -1 then ((2, 0), b) else if ¬ (b.2.2.1 i).2.1 = nI 0 then ((3, 0), b) else
  if ¬ b.2.2.2.1 (b.2.2.1 i).1.toNatClampNeg = nI i then ((4, 0), b) else ((0, 0), bS b i ((b.2.2.1 i).1, nI 1, (b.2.2.1 i).2.2))
theorem zLogW_comp {g : zLg} (h : zLogW g) : zLogW (zComp g) := zLogW_ent h (fun o ho => by
  show (if o < zStab g ∧ o < zBa g ∧ zGoes g (zStab g) o = true then none else g.2.2 o) = none
  by_cases e9 : o < zStab g ∧ o < zBa g ∧ zGoes g (zStab g) o = true
  · rw [if_pos e9]
  · rw [if_neg e9]; exact ho)
theorem zMaxN {a b : Nat} (ha : a < 2 ^ 31) (hb : b < 2 ^ 31) : (if nI a < nI b then nI b else nI a) = nI (max a b) := by
  by_cases h : a < b
  · rw [if_pos ((nI_ltI ha hb).mpr h), Nat.max_eq_right (by omega)]
  · rw [if_neg (fun q => h ((nI_ltI ha hb).mp q)), Nat.max_eq_left (by omega)]
/-- the class's own names -/
def zOwnB (n : Nat) : Prop := n < 1000
/-- the object after a change: what is changed is said anew, the rest is not touched -/
theorem zBrA_upd {S S' : zS} {b b' : zBr} {own : Nat → Prop} (hB : zBrA S b) (hW : zBrW b) (hf : zfr own S S') (hT : zTop S' b') (h1 : b'.1 = b.1)
    (hL : ∀ t, zEx b t → (zLogA S' t (b'.2.1 t) ∧ ∀ o, o < 60 → (b'.2.1 t).2.1.2 ≤ o → S'.1 (200 + 60 * t + o) = false) ∨ (b'.2.1 t = b.2.1 t ∧ ∀ n, zOwnG t n → ¬ own n))
    (hS : ∀ i, i < 6 → zSsA S' i (b'.2.2.1 i) ∨ (b'.2.2.1 i = b.2.2.1 i ∧ ∀ n, zOwnS i n → ¬ own n))
    (hG : ∀ i, i < 2 → zGrA S' i (b'.2.2.2.2.2.1 i) ∨ (b'.2.2.2.2.2.1 i = b.2.2.2.2.2.1 i ∧ ∀ n, zOwnH i n → ¬ own n))
    (hN : ∀ t, t < 12 → ¬ zEx b t → ∀ n, zOwnG t n → ¬ own n) : zBrA S' b' := by
  obtain ⟨-, hLg, hSs, hGs, hnx, hnf⟩ := hB
  have ex : ∀ t, zEx b' t ↔ zEx b t := fun t => by unfold zEx; rw [h1]
  refine ⟨hT, fun t ht => ?_, fun i hi => ?_, fun i hi => ?_, fun t h12 ht => ?_, fun t ht o ho he => ?_⟩
  · have ht' := (ex t).mp ht
    rcases hL t ht' with h | ⟨h, hn⟩
    · exact h.1
    · rw [h]; exact zLogA_fr (hLg t ht') (hW.2.1 t ht') (fun n h9 => hf.ag (hn n h9))
  · rcases hS i hi with h | ⟨h, hn⟩
    · exact h
    · rw [h]; exact zSsA_fr (hSs i hi) (fun n h9 => hf.ag (hn n h9))
  · rcases hG i hi with h | ⟨h, hn⟩
    · exact h
    · rw [h]; exact zGrA_fr (hGs i hi) (fun n h9 => hf.ag (hn n h9))
  · have ht' : ¬ zEx b t := fun q => ht ((ex t).mpr q)
    have h := hnx t h12 ht'
    have hn := hN t h12 ht'
    exact ⟨(hf.1 _ (hn _ (Or.inl rfl))).trans h.1, (hf.1 _ (hn _ (Or.inr (Or.inl rfl)))).trans h.2.1, fun o ho => (hf.1 _ (hn _ (Or.inr (Or.inr (by omega))))).trans (h.2.2 o ho)⟩
  · have ht' := (ex t).mp ht
    rcases hL t ht' with h | ⟨h, hn⟩
    · exact h.2 o ho he
    · rw [h] at he
      exact (hf.1 _ (hn _ (Or.inr (Or.inr (by omega))))).trans (hnf t ht' o ho he)
theorem zfr.ownB {own : Nat → Prop} {S S' : zS} (h : zfr own S S') (m : ∀ n, own n → n < 1000) : zfr zOwnB S S' := h.mono m
