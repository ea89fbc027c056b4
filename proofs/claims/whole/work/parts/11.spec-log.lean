/-! one log: what its cells say, in numbers -/
/-- a record: kind, key, value, producer, state -/
abbrev zE : Type := Int32 × Int32 × Int32 × Int32 × Int32
/-- a log: (size, most, compacted), (start, end, base of the open segment), (closed, present), the records by their offsets -/
abbrev zLg : Type := (Nat × Nat × Int32) × (Nat × Nat × Nat) × (Nat × Nat) × (Nat → Option zE)
def zEat (S : zS) (x : Nat) (e : zE) : Prop := S.1 x = true ∧ S.2.1 x 0 = e.1 ∧ S.2.1 x 1 = e.2.1 ∧ S.2.1 x 2 = e.2.2.1 ∧ S.2.1 x 3 = e.2.2.2.1 ∧ S.2.1 x 4 = e.2.2.2.2
/-- the cells of the log tp -/
def zLogA (S : zS) (tp : Nat) (g : zLg) : Prop :=
  S.1 (60 + tp) = true ∧ S.1 (80 + tp) = true ∧ S.2.1 (60 + tp) 0 = nI g.1.1 ∧ S.2.1 (60 + tp) 1 = nI g.1.2.1 ∧ S.2.1 (60 + tp) 2 = g.1.2.2 ∧ S.2.2.1 (60 + tp) 3 = some (80 + tp) ∧
  S.2.1 (60 + tp) 4 = nI g.2.1.1 ∧ S.2.1 (60 + tp) 5 = nI g.2.1.2.1 ∧ S.2.1 (60 + tp) 6 = nI g.2.1.2.2 ∧ S.2.1 (60 + tp) 7 = nI g.2.2.1.1 ∧ S.2.1 (60 + tp) 8 = nI g.2.2.1.2 ∧
  (∀ o, S.2.2.1 (80 + tp) o = (g.2.2.2 o).map (fun _ => 200 + 60 * tp + o)) ∧ ∀ o e, g.2.2.2 o = some e → zEat S (200 + 60 * tp + o) e
/-- what holds of its numbers -/
def zLogW (g : zLg) : Prop :=
  1 ≤ g.1.1 ∧ g.1.1 ≤ 4 ∧ 1 ≤ g.1.2.1 ∧ g.1.2.1 ≤ 5 ∧ g.2.1.1 ≤ g.2.1.2.2 ∧ g.2.1.2.2 ≤ g.2.1.2.1 ∧ g.2.1.2.1 ≤ 60 ∧ g.2.1.2.1 < g.2.1.2.2 + g.1.1 ∧ g.2.1.2.2 = g.2.1.1 + g.2.2.1.1 * g.1.1 ∧ g.2.2.1.2 ≤ 60 ∧ (∀ o, g.2.1.2.1 ≤ o → g.2.2.2 o = none) ∧ ∀ o, o < g.2.1.1 → g.2.2.2 o = none
def zUnd (r : Option zE) : Bool := match r with
  | some e => decide (e.2.2.2.2 = nI 2)
  | none => false
def zUndP (p : Int32) (r : Option zE) : Bool := match r with
  | some e => decide (e.2.2.2.2 = nI 2) && decide (e.2.2.2.1 = p)
  | none => false
def zData (r : Option zE) : Bool := match r with
  | some e => decide (e.1 = nI 0)
  | none => false
def zComm (r : Option zE) : Bool := match r with
  | some e => decide (e.1 = nI 0) && decide (e.2.2.2.2 = nI 0)
  | none => false
/-- the stable offset -/
def zStab (g : zLg) : Nat := (zfind (fun o => zUnd (g.2.2.2 o)) (g.2.1.2.1 - g.2.1.1) g.2.1.1).getD g.2.1.2.1
theorem zStab_le (g : zLg) (h : g.2.1.1 ≤ g.2.1.2.1) : g.2.1.1 ≤ zStab g ∧ zStab g ≤ g.2.1.2.1 := by
  unfold zStab
  cases hf : zfind (fun o => zUnd (g.2.2.2 o)) (g.2.1.2.1 - g.2.1.1) g.2.1.1 with
  | none => exact ⟨h, Nat.le_refl _⟩
  | some x =>
    obtain ⟨a, b, -, -⟩ := zfind_spec hf
    show g.2.1.1 ≤ x ∧ x ≤ g.2.1.2.1
    omega
