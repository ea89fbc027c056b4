/-! the broker as a whole -/
/-- a group: its generation, the topics of its members, the owners, the positions, what is kept -/
abbrev zGr : Type := Int32 × (Nat → Int32) × (Nat → Int32) × (Nat → Nat) × (Nat → Nat)
def zGrA (S : zS) (i : Nat) (u : zGr) : Prop := S.1 (40 + i) = true ∧ S.1 (42 + i) = true ∧ S.1 (44 + i) = true ∧ S.1 (46 + i) = true ∧ S.1 (48 + i) = true ∧ S.2.1 (40 + i) 0 = u.1 ∧ S.2.2.1 (40 + i) 1 = some (42 + i) ∧ S.2.2.1 (40 + i) 2 = some (44 + i) ∧ S.2.2.1 (40 + i) 3 = some (46 + i) ∧ S.2.2.1 (40 + i) 4 = some (48 + i) ∧
  (∀ k, k < 4 → S.2.1 (42 + i) k = u.2.1 k) ∧ (∀ t, t < 12 → S.2.1 (44 + i) t = u.2.2.1 t) ∧ (∀ t, t < 12 → S.2.1 (46 + i) t = nI (u.2.2.2.1 t)) ∧ ∀ t, t < 12 → S.2.1 (48 + i) t = nI (u.2.2.2.2 t)
def zOwnH (i n : Nat) : Prop := n = 40 + i ∨ n = 42 + i ∨ n = 44 + i ∨ n = 46 + i ∨ n = 48 + i
/-- partitions, logs, sessions, current sessions, how often opened, groups, (written, repeats, markers, shortened, compacted away) -/
abbrev zBr : Type := (Nat → Nat) × (Nat → zLg) × (Nat → zSn) × (Nat → Int32) × (Nat → Int32) × (Nat → zGr) × (Int32 × Int32 × Int32 × Int32 × Int32)
/-- the partition is there -/
def zEx (b : zBr) (t : Nat) : Prop := t < 12 ∧ t % 4 < b.1 (t / 4)
theorem zEx_dec (b : zBr) (t : Nat) : zEx b t ∨ ¬ zEx b t := Classical.em _
/-- the object and its arrays -/
def zTop (S : zS) (b : zBr) : Prop := (∀ n, 1 ≤ n → n < 8 → S.1 n = true) ∧ S.2.2.1 1 0 = some 2 ∧ S.2.2.1 1 1 = some 3 ∧ S.2.2.1 1 2 = some 4 ∧ S.2.2.1 1 3 = some 5 ∧ S.2.2.1 1 4 = some 6 ∧ S.2.2.1 1 5 = some 7 ∧
  S.2.1 1 6 = b.2.2.2.2.2.2.1 ∧ S.2.1 1 7 = b.2.2.2.2.2.2.2.1 ∧ S.2.1 1 8 = b.2.2.2.2.2.2.2.2.1 ∧ S.2.1 1 9 = b.2.2.2.2.2.2.2.2.2.1 ∧ S.2.1 1 10 = b.2.2.2.2.2.2.2.2.2.2 ∧
  (∀ t, t < 3 → S.2.1 2 t = nI (b.1 t)) ∧ (∀ t, t < 12 → S.2.2.1 3 t = if t % 4 < b.1 (t / 4) then some (60 + t) else none) ∧ (∀ i, i < 6 → S.2.2.1 4 i = some (10 + i)) ∧ (∀ q, q < 4 → S.2.1 5 q = b.2.2.2.1 q) ∧ (∀ q, q < 4 → S.2.1 6 q = b.2.2.2.2.1 q) ∧ ∀ i, i < 2 → S.2.2.1 7 i = some (40 + i)
def zBrA (S : zS) (b : zBr) : Prop := zTop S b ∧ (∀ t, zEx b t → zLogA S t (b.2.1 t)) ∧ (∀ i, i < 6 → zSsA S i (b.2.2.1 i)) ∧ (∀ i, i < 2 → zGrA S i (b.2.2.2.2.2.1 i)) ∧
  (∀ t, t < 12 → ¬ zEx b t → S.1 (60 + t) = false ∧ S.1 (80 + t) = false ∧ ∀ o, o < 60 → S.1 (200 + 60 * t + o) = false) ∧ ∀ t, zEx b t → ∀ o, o < 60 → (b.2.1 t).2.1.2 ≤ o → S.1 (200 + 60 * t + o) = false
/-- a record's numbers are such as producing gives them -/
def zEW (e : zE) : Prop := (∃ k, k < 3 ∧ e.1 = nI k) ∧ (e.2.1 = -1 ∨ ∃ k, k < 8 ∧ e.2.1 = nI k) ∧ (∃ q, q < 4 ∧ e.2.2.2.1 = nI q) ∧ (∃ k, k < 3 ∧ e.2.2.2.2 = nI k) ∧ (e.2.2.2.2 = nI 2 → e.1 = nI 0)
/-- what holds of a broker's numbers -/
def zBrW (b : zBr) : Prop := (∀ t, t < 3 → b.1 t ≤ 3) ∧ (∀ t, zEx b t → zLogW (b.2.1 t)) ∧ (∀ t, zEx b t → ∀ o e, (b.2.1 t).2.2 o = some e → zEW e) ∧
  (∀ i, i < 6 → ((b.2.2.1 i).1 = -1 ∨ ∃ q, q < 4 ∧ (b.2.2.1 i).1 = nI q) ∧ ((b.2.2.1 i).2.1 = nI 0 ∨ (b.2.2.1 i).2.1 = nI 1)) ∧
  (∀ i t, i < 6 → t < 12 → (b.2.2.1 i).2.2.1 t ≤ (b.2.1 t).2.1.2 ∧ (b.2.1 t).2.1.2 ≤ 60) ∧ (∀ q, q < 4 → b.2.2.2.1 q = -1 ∨ ∃ i, i < 6 ∧ b.2.2.2.1 q = nI i) ∧
  (∀ i t, i < 2 → t < 12 → (b.2.2.2.2.2.1 i).2.2.2.1 t ≤ 60 ∧ (b.2.2.2.2.2.1 i).2.2.2.2 t ≤ 60)
