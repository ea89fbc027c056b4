/-! what the calls answer: a code (0 an answer, else which exception, as the law's helpers number them) and the answer -/
def zB (c : Bool) : Int32 := if c = true then nI 1 else nI 0
def zTpOf (b : zBr) (x : Int32) : Option Nat := if 0 ≤ x.toInt ∧ x.toInt < 12 ∧ x.toNatClampNeg % 4 < b.1 (x.toNatClampNeg / 4) then some x.toNatClampNeg else none
theorem zTpOf_s {b : zBr} {t : Nat} (h : zEx b t) : zTpOf b (nI t) = some t := by
  unfold zTpOf
  have h1 := h.1
  rw [nI_clamp (by omega), nI_toInt (by omega), if_pos ⟨by omega, by omega, h.2⟩]
theorem zTpOf_n {b : zBr} {x : Int32} (h : ¬ ∃ t, zEx b t ∧ x = nI t) : zTpOf b x = none := by
  unfold zTpOf
  refine if_neg (fun q => h ?_)
  obtain ⟨q1, q2, q3⟩ := q
  rcases pk_ix x (n := 12) (by decide) with e | e | ⟨j, e, rfl⟩
  · exact absurd e (by rw [Int32.lt_iff_toInt_lt, Int32.toInt_zero]; omega)
  · exact absurd e (by rw [Int32.le_iff_toInt_le, nI_toInt (by decide)]; omega)
  · rw [nI_clamp (by omega)] at q3
    exact ⟨j, ⟨e, q3⟩, rfl⟩
theorem zIn {y : Int32} {st en : Nat} (hen : en < 2 ^ 31) (hst : st < 2 ^ 31) (h1 : ¬ y < nI st) (h2 : y ≤ nI en) : ∃ o, y = nI o ∧ st ≤ o ∧ o ≤ en := by
  have h0 : ¬ y < 0 := fun q => h1 (by
    rw [Int32.lt_iff_toInt_lt] at q ⊢
    rw [Int32.toInt_zero] at q
    rw [nI_toInt hst]
    omega)
  obtain ⟨j, hj, rfl⟩ := nI_of h0
  exact ⟨j, rfl, Nat.not_lt.mp (fun q => h1 ((nI_ltI hj hst).mpr q)), (nI_leI hj hen).mp h2⟩
/-- x is one of 0 .. n-1 -/
theorem zRg {x : Int32} {n : Nat} (hn : n < 2 ^ 31) (h1 : ¬ x < nI 0) (h2 : ¬ nI n < x) : ∃ j, x = nI j ∧ j ≤ n := by
  obtain ⟨j, e, -, h⟩ := zIn hn (by decide) h1 (Int32.not_lt.mp h2)
  exact ⟨j, e, h⟩
def sFetch (b : zBr) (x y : Int32) (c : Bool) : Nat × Int32 := match zTpOf b x with
  | none => (1, 0)
  | some t => if y < nI (b.2.1 t).2.1.1 ∨ nI (b.2.1 t).2.1.2 < y then (3, 0) else match zVis (b.2.1 t) y.toNatClampNeg c with
    | none => (2, 0)
    | some z => (0, nI z)
theorem sFetch_1 {b : zBr} {x y : Int32} {c : Bool} (h : ¬ ∃ t, zEx b t ∧ x = nI t) : sFetch b x y c = (1, 0) := by
  unfold sFetch; rw [zTpOf_n h]
theorem sFetch_3 {b : zBr} {t : Nat} {y : Int32} {c : Bool} (ht : zEx b t) (h : y < nI (b.2.1 t).2.1.1 ∨ nI (b.2.1 t).2.1.2 < y) : sFetch b (nI t) y c = (3, 0) := by
  unfold sFetch; rw [zTpOf_s ht]; exact if_pos h
theorem sFetch_v {b : zBr} {t o : Nat} {c : Bool} (ht : zEx b t) (h1 : (b.2.1 t).2.1.1 ≤ o) (h2 : o ≤ (b.2.1 t).2.1.2) (h3 : (b.2.1 t).2.1.2 ≤ 60) : sFetch b (nI t) (nI o) c = match zVis (b.2.1 t) o c with
    | none => (2, 0)
    | some z => (0, nI z) := by
  unfold sFetch
  rw [zTpOf_s ht]
  show (if _ then _ else _) = _
  rw [if_neg (fun q => q.elim (fun q => absurd ((nI_ltI (by omega) (by omega)).mp q) (by omega)) (fun q => absurd ((nI_ltI (by omega) (by omega)).mp q) (by omega))), nI_clamp (by omega)]
theorem zOI_m1 {r : Option Nat} (h : zOI r = -1) (hr : ∀ z, r = some z → z ≤ 60) : r = none := by
  cases r with
  | none => rfl
  | some z => exact absurd (show nI z < 0 by rw [show nI z = -1 from h]; decide) (nI_pos (by have := hr z rfl; omega))
theorem zVis_le {g : zLg} {o z : Nat} {c : Bool} (hW : zLogW g) (h : zVis g o c = some z) : z < g.2.1.2 ∧ o ≤ z := by
  unfold zVis at h
  obtain ⟨a, b, -, -⟩ := zfind_spec h
  have h1 := zBa_le g
  have h2 := zStab_le g (by have := hW.2.2.2.2.1; omega)
  cases c with
  | true => have b' : z < o + (zStab g - o) := b; omega
  | false => have b' : z < o + (g.2.1.2 - o) := b; omega
def sCount (b : zBr) (x : Int32) : Int32 := if x = nI 0 then b.2.2.2.2.2.2.1 else if x = nI 1 then b.2.2.2.2.2.2.2.1 else if x = nI 2 then b.2.2.2.2.2.2.2.2.1 else if x = nI 3 then b.2.2.2.2.2.2.2.2.2.1 else if x = nI 4 then b.2.2.2.2.2.2.2.2.2.2 else if x = nI 5 then nI (zcnt (fun i => decide ((b.2.2.1 i).2.1 = nI 1)) 6 0) else if x = nI 6 then (b.2.2.2.2.2.1 0).1 else if x = nI 7 then (b.2.2.2.2.2.1 1).1 else -1
