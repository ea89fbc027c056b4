/-! one log: what its cells say, in numbers -/
/-- how many of k numbers from o on -/
def zcnt (p : Nat → Bool) : Nat → Nat → Nat
  | 0, _ => 0
  | k + 1, o => (if p o = true then 1 else 0) + zcnt p k (o + 1)
theorem zcnt_le {p : Nat → Bool} : ∀ {k o : Nat}, zcnt p k o ≤ k
  | 0, _ => Nat.le_refl _
  | k + 1, o => by
    have h := zcnt_le (p := p) (k := k) (o := o + 1)
    show (if p o = true then 1 else 0) + zcnt p k (o + 1) ≤ k + 1
    by_cases e : p o = true
    · rw [if_pos e]; omega
    · rw [if_neg e]; omega
theorem zcnt_congr {p q : Nat → Bool} : ∀ {k o : Nat}, (∀ j, o ≤ j → j < o + k → p j = q j) → zcnt p k o = zcnt q k o
  | 0, _, _ => rfl
  | k + 1, o, h => by
    show (if p o = true then 1 else 0) + zcnt p k (o + 1) = (if q o = true then 1 else 0) + zcnt q k (o + 1)
    rw [h o (Nat.le_refl _) (by omega), zcnt_congr (k := k) (o := o + 1) (fun j h1 h2 => h j (by omega) (by omega))]
/-- one more at x -/
theorem zcnt_put {p q : Nat → Bool} : ∀ {k o x : Nat}, o ≤ x → x < o + k → p x = false → q x = true → (∀ j, j ≠ x → p j = q j) → zcnt q k o = zcnt p k o + 1
  | 0, o, x, h1, h2, _, _, _ => by omega
  | k + 1, o, x, h1, h2, hp, hq, h => by
    show (if q o = true then 1 else 0) + zcnt q k (o + 1) = (if p o = true then 1 else 0) + zcnt p k (o + 1) + 1
    by_cases e : o = x
    · subst e
      rw [hp, hq, zcnt_congr (p := p) (q := q) (k := k) (o := o + 1) (fun j h1 h2 => h j (by omega)), if_pos rfl, if_neg (by decide)]
      omega
    · rw [h o e, zcnt_put (p := p) (q := q) (k := k) (o := o + 1) (x := x) (by omega) (by omega) hp hq h]
      omega
/-- a record: kind, key, value, producer, state -/
abbrev zE : Type := Int32 × Int32 × Int32 × Int32 × Int32
/-- a log: (size, most, compacted), (start, end), the records by their offsets -/
abbrev zLg : Type := (Nat × Nat × Int32) × (Nat × Nat) × (Nat → Option zE)
/-- the open segment's base, the closed segments from start on, the records there -/
def zBa (g : zLg) : Nat := g.2.1.2 / g.1.1 * g.1.1
def zCl (g : zLg) : Nat := (zBa g - g.2.1.1) / g.1.1
def zPr (g : zLg) : Nat := zcnt (fun o => (g.2.2 o).isSome) 60 0
def zEat (S : zS) (x : Nat) (e : zE) : Prop := S.1 x = true ∧ S.2.1 x 0 = e.1 ∧ S.2.1 x 1 = e.2.1 ∧ S.2.1 x 2 = e.2.2.1 ∧ S.2.1 x 3 = e.2.2.2.1 ∧ S.2.1 x 4 = e.2.2.2.2
/-- the cells of the log tp -/
def zLogA (S : zS) (tp : Nat) (g : zLg) : Prop :=
  S.1 (60 + tp) = true ∧ S.1 (80 + tp) = true ∧ S.2.1 (60 + tp) 0 = nI g.1.1 ∧ S.2.1 (60 + tp) 1 = nI g.1.2.1 ∧ S.2.1 (60 + tp) 2 = g.1.2.2 ∧ S.2.2.1 (60 + tp) 3 = some (80 + tp) ∧
  S.2.1 (60 + tp) 4 = nI g.2.1.1 ∧ S.2.1 (60 + tp) 5 = nI g.2.1.2 ∧ S.2.1 (60 + tp) 6 = nI (zBa g) ∧ S.2.1 (60 + tp) 7 = nI (zCl g) ∧ S.2.1 (60 + tp) 8 = nI (zPr g) ∧
  (∀ o, S.2.2.1 (80 + tp) o = (g.2.2 o).map (fun _ => 200 + 60 * tp + o)) ∧ ∀ o e, g.2.2 o = some e → zEat S (200 + 60 * tp + o) e
/-- what holds of its numbers -/
def zLogW (g : zLg) : Prop :=
  1 ≤ g.1.1 ∧ g.1.1 ≤ 4 ∧ 1 ≤ g.1.2.1 ∧ g.1.2.1 ≤ 5 ∧ g.2.1.1 ≤ zBa g ∧ g.2.1.2 ≤ 60 ∧ g.2.1.1 % g.1.1 = 0 ∧ (∀ o, g.2.1.2 ≤ o → g.2.2 o = none) ∧ ∀ o, o < g.2.1.1 → g.2.2 o = none
/-- size is 1, 2, 3 or 4 -/
theorem z4 {P : Nat → Prop} (h1 : P 1) (h2 : P 2) (h3 : P 3) (h4 : P 4) {n : Nat} (a : 1 ≤ n) (b : n ≤ 4) : P n := by
  rcases (show n = 1 ∨ n = 2 ∨ n = 3 ∨ n = 4 by omega) with e | e | e | e <;> rw [e] <;> assumption
theorem zBa_le (g : zLg) : zBa g ≤ g.2.1.2 := Nat.div_mul_le_self _ _
theorem zBa_lt (g : zLg) (h : 1 ≤ g.1.1) (h4 : g.1.1 ≤ 4) : g.2.1.2 < zBa g + g.1.1 := by
  unfold zBa
  generalize g.2.1.2 = en
  exact z4 (P := fun n => en < en / n * n + n) (by omega) (by omega) (by omega) (by omega) h h4
theorem zCl_eq (g : zLg) (h : 1 ≤ g.1.1) (h4 : g.1.1 ≤ 4) (hm : g.2.1.1 % g.1.1 = 0) (hb : g.2.1.1 ≤ zBa g) : g.2.1.1 + zCl g * g.1.1 = zBa g := by
  unfold zCl zBa at *
  generalize g.2.1.2 = en at *
  generalize g.2.1.1 = st at *
  revert hm hb
  exact z4 (P := fun n => st % n = 0 → st ≤ en / n * n → st + (en / n * n - st) / n * n = en / n * n) (by omega) (by omega) (by omega) (by omega) h h4
def zUnd (r : Option zE) : Bool := match r with
  | some e => decide (e.2.2.2.2 = nI 2)
  | none => false
def zUndP (p : Int32) (r : Option zE) : Bool := match r with
  | some e => decide (e.2.2.2.2 = nI 2) && decide (e.2.2.2.1 = p)
  | none => false
def zData (r : Option zE) : Bool := match r with
  | some e => decide (e.1 = nI 0)
  | none => false
/-- to be seen: by all, or by committed readers -/
def zSee (c : Bool) (r : Option zE) : Bool := match r with
  | some e => decide (e.1 = nI 0) && (!c || decide (e.2.2.2.2 = nI 0))
  | none => false
/-- the stable offset -/
def zStab (g : zLg) : Nat := (zfind (fun o => zUnd (g.2.2 o)) (g.2.1.2 - g.2.1.1) g.2.1.1).getD g.2.1.2
theorem zStab_le (g : zLg) (h : g.2.1.1 ≤ g.2.1.2) : g.2.1.1 ≤ zStab g ∧ zStab g ≤ g.2.1.2 := by
  unfold zStab
  cases hf : zfind (fun o => zUnd (g.2.2 o)) (g.2.1.2 - g.2.1.1) g.2.1.1 with
  | none => exact ⟨h, Nat.le_refl _⟩
  | some x =>
    obtain ⟨a, b, -, -⟩ := zfind_spec hf
    show g.2.1.1 ≤ x ∧ x ≤ g.2.1.2
    omega
/-- the first to be seen from o on, or -1 -/
def zVis (g : zLg) (o : Nat) (c : Bool) : Option Nat := zfind (fun j => zSee c (g.2.2 j)) ((if c = true then zStab g else g.2.1.2) - o) o
/-- a record more; a record less; the first segment gone -/
def zApp (g : zLg) (e : zE) : zLg := (g.1, (g.2.1.1, g.2.1.2 + 1), fun o => if o = g.2.1.2 then some e else g.2.2 o)
def zDrop (g : zLg) (o : Nat) : zLg := (g.1, g.2.1, fun j => if j = o then none else g.2.2 j)
def zSh1 (g : zLg) : zLg := (g.1, (g.2.1.1 + g.1.1, g.2.1.2), fun o => if o < g.2.1.1 + g.1.1 then none else g.2.2 o)
def zShort (stb : Nat) : Nat → zLg → zLg
  | 0, g => g
  | f + 1, g => if g.1.2.1 < zCl g ∧ g.2.1.1 + g.1.1 ≤ stb then zShort stb f (zSh1 g) else g
/-- decided: what was undecided of p -/
def zSet (g : zLg) (p x : Int32) : zLg := (g.1, g.2.1, fun o => (g.2.2 o).map (fun e => if e.2.2.2.2 = nI 2 ∧ e.2.2.2.1 = p then (e.1, e.2.1, e.2.2.1, e.2.2.2.1, x) else e))
/-- the names of a log's cells -/
def zOwnG (tp n : Nat) : Prop := n = 60 + tp ∨ n = 80 + tp ∨ (200 + 60 * tp ≤ n ∧ n < 260 + 60 * tp)
/-- two stores that differ in the names of own alone -/
def zfr (own : Nat → Prop) (S S' : zS) : Prop := (∀ n, ¬ own n → S'.1 n = S.1 n) ∧ ∀ n, ¬ own n → S'.2.1 n = S.2.1 n ∧ S'.2.2.1 n = S.2.2.1 n ∧ S'.2.2.2 n = S.2.2.2 n
theorem zfr.rf {own : Nat → Prop} {S : zS} : zfr own S S := ⟨fun _ _ => rfl, fun _ _ => ⟨rfl, rfl, rfl⟩⟩
theorem zfr.tr {own : Nat → Prop} {S1 S2 S3 : zS} (h : zfr own S1 S2) (g : zfr own S2 S3) : zfr own S1 S3 := ⟨fun n hn => (g.1 n hn).trans (h.1 n hn), fun n hn => ⟨(g.2 n hn).1.trans (h.2 n hn).1, (g.2 n hn).2.1.trans (h.2 n hn).2.1, (g.2 n hn).2.2.trans (h.2 n hn).2.2⟩⟩
theorem zfr.mono {o1 o2 : Nat → Prop} {S S' : zS} (h : zfr o1 S S') (m : ∀ n, o1 n → o2 n) : zfr o2 S S' := ⟨fun n hn => h.1 n (fun q => hn (m n q)), fun n hn => h.2 n (fun q => hn (m n q))⟩
theorem zfr.i {own : Nat → Prop} {S : zS} {n k : Nat} {x : Int32} (h : own n) : zfr own S (zsi S n k x) := ⟨fun _ _ => rfl, fun a ha => ⟨(z2_o (f := S.2.1) (n := n) (k := k) (q := a) (x := x) (fun e => ha (by rw [e]; exact h))).symm, rfl, rfl⟩⟩
theorem zfr.p {own : Nat → Prop} {S : zS} {n k : Nat} {r : Option Nat} (h : own n) : zfr own S (zsp S n k r) := ⟨fun _ _ => rfl, fun a ha => ⟨rfl, (z2_o (f := S.2.2.1) (n := n) (k := k) (q := a) (x := r) (fun e => ha (by rw [e]; exact h))).symm, rfl⟩⟩
theorem zPr_app {g : zLg} {e : zE} (h : g.2.1.2 < 60) (hn : g.2.2 g.2.1.2 = none) : zPr (zApp g e) = zPr g + 1 := by
  unfold zPr
  refine zcnt_put (x := g.2.1.2) (Nat.zero_le _) (by omega) (by show (g.2.2 g.2.1.2).isSome = false; rw [hn]; rfl) (by show (if g.2.1.2 = g.2.1.2 then some e else g.2.2 g.2.1.2).isSome = true; rw [if_pos rfl]; rfl) (fun j hj => ?_)
  show (g.2.2 j).isSome = (if j = g.2.1.2 then some e else g.2.2 j).isSome
  rw [if_neg hj]
theorem zPr_drop {g : zLg} {o : Nat} {e : zE} (h : o < 60) (hn : g.2.2 o = some e) : zPr g = zPr (zDrop g o) + 1 := by
  unfold zPr
  refine zcnt_put (x := o) (Nat.zero_le _) (by omega) (by show (if o = o then none else g.2.2 o).isSome = false; rw [if_pos rfl]; rfl) (by show (g.2.2 o).isSome = true; rw [hn]; rfl) (fun j hj => ?_)
  show (if j = o then none else g.2.2 j).isSome = (g.2.2 j).isSome
  rw [if_neg hj]
theorem zDrop_none {g : zLg} {o : Nat} (h : g.2.2 o = none) : zDrop g o = g := by
  have e : (fun j => if j = o then none else g.2.2 j) = g.2.2 := by
    funext j
    by_cases hj : j = o
    · rw [if_pos hj, hj, h]
    · rw [if_neg hj]
  unfold zDrop
  rw [e]
theorem zBa_app1 {g : zLg} {e : zE} (h1 : 1 ≤ g.1.1) (h4 : g.1.1 ≤ 4) (h : g.2.1.2 + 1 = zBa g + g.1.1) : zBa (zApp g e) = g.2.1.2 + 1 ∧ (g.2.1.1 ≤ zBa g → zCl (zApp g e) = zCl g + 1) := by
  revert h
  unfold zCl zBa zApp
  dsimp only
  generalize g.2.1.2 = en
  generalize g.2.1.1 = st
  exact z4 (P := fun n => en + 1 = en / n * n + n → (en + 1) / n * n = en + 1 ∧ (st ≤ en / n * n → ((en + 1) / n * n - st) / n = (en / n * n - st) / n + 1)) (by omega) (by omega) (by omega) (by omega) h1 h4
theorem zBa_app0 {g : zLg} {e : zE} (h1 : 1 ≤ g.1.1) (h4 : g.1.1 ≤ 4) (h : ¬ g.2.1.2 + 1 = zBa g + g.1.1) : zBa (zApp g e) = zBa g ∧ zCl (zApp g e) = zCl g := by
  revert h
  unfold zCl zBa zApp
  dsimp only
  generalize g.2.1.2 = en
  generalize g.2.1.1 = st
  exact z4 (P := fun n => ¬ en + 1 = en / n * n + n → (en + 1) / n * n = en / n * n ∧ ((en + 1) / n * n - st) / n = (en / n * n - st) / n) (by omega) (by omega) (by omega) (by omega) h1 h4
theorem zLogW_app {g : zLg} {e : zE} (h : zLogW g) (hen : g.2.1.2 < 60) : zLogW (zApp g e) := by
  obtain ⟨w1, w2, w3, w4, w5, w6, w7, w8, w9⟩ := id h
  refine ⟨w1, w2, w3, w4, ?_, by show g.2.1.2 + 1 ≤ 60; omega, w7, fun o ho => ?_, fun o ho => ?_⟩
  · show g.2.1.1 ≤ zBa (zApp g e)
    by_cases hc : g.2.1.2 + 1 = zBa g + g.1.1
    · rw [(zBa_app1 w1 w2 hc).1]; have := zBa_le g; omega
    · rw [(zBa_app0 w1 w2 hc).1]; exact w5
  · have ho' : g.2.1.2 + 1 ≤ o := ho
    show (if o = g.2.1.2 then some e else g.2.2 o) = none
    rw [if_neg (by omega)]; exact w8 o (by omega)
  · have ho' : o < g.2.1.1 := ho
    have := zBa_le g
    show (if o = g.2.1.2 then some e else g.2.2 o) = none
    rw [if_neg (by omega)]; exact w9 o ho'
/-- a record's state is written -/
theorem zLogA_st {S : zS} {tp o : Nat} {g : zLg} {r : zE} {x : Int32} (h : zLogA S tp g) (htp : tp < 12) (ho : o < 60) (he : g.2.2 o = some r) : zLogA (zsi S (200 + 60 * tp + o) 4 x) tp (g.1, g.2.1, fun j => if j = o then some (r.1, r.2.1, r.2.2.1, r.2.2.2.1, x) else g.2.2 j) := by
  obtain ⟨hd1, hd2, f0, f1, f2, f3, f4, f5, f6, f7, f8, hent, hee⟩ := h
  have hp : zPr (g.1, g.2.1, fun j => if j = o then some (r.1, r.2.1, r.2.2.1, r.2.2.2.1, x) else g.2.2 j) = zPr g := by
    unfold zPr
    refine zcnt_congr (fun j _ _ => ?_)
    show (if j = o then some (r.1, r.2.1, r.2.2.1, r.2.2.2.1, x) else g.2.2 j).isSome = _
    by_cases e9 : j = o
    · rw [if_pos e9, e9, he]; rfl
    · rw [if_neg e9]
  refine ⟨hd1, hd2, rd_i (Or.inl (by omega)) f0, rd_i (Or.inl (by omega)) f1, rd_i (Or.inl (by omega)) f2, f3, rd_i (Or.inl (by omega)) f4, rd_i (Or.inl (by omega)) f5, rd_i (Or.inl (by omega)) f6, rd_i (Or.inl (by omega)) f7, rd_i (Or.inl (by omega)) (by rw [hp]; exact f8), fun j => ?_, fun j y hy => ?_⟩
  · refine (hent j).trans ?_
    show _ = (if j = o then some (r.1, r.2.1, r.2.2.1, r.2.2.2.1, x) else g.2.2 j).map _
    by_cases e9 : j = o
    · rw [if_pos e9, e9, he]; rfl
    · rw [if_neg e9]
  · have hy' : (if j = o then some (r.1, r.2.1, r.2.2.1, r.2.2.2.1, x) else g.2.2 j) = some y := hy
    by_cases e9 : j = o
    · subst e9
      rw [if_pos rfl] at hy'
      cases hy'
      obtain ⟨q1, q2, q3, q4, q5, q6⟩ := hee j r he
      exact ⟨q1, rd_i (Or.inr (by decide)) q2, rd_i (Or.inr (by decide)) q3, rd_i (Or.inr (by decide)) q4, rd_i (Or.inr (by decide)) q5, rd_s⟩
    · rw [if_neg e9] at hy'
      obtain ⟨q1, q2, q3, q4, q5, q6⟩ := hee j y hy'
      exact ⟨q1, rd_i (Or.inl (by omega)) q2, rd_i (Or.inl (by omega)) q3, rd_i (Or.inl (by omega)) q4, rd_i (Or.inl (by omega)) q5, rd_i (Or.inl (by omega)) q6⟩
def zHasU (g : zLg) (q : Int32) : Bool := (zfind (fun o => zUndP q (g.2.2 o)) (g.2.1.2 - g.2.1.1) g.2.1.1).isSome
def zSt1 (q x : Int32) (e : zE) : zE := if e.2.2.2.2 = nI 2 ∧ e.2.2.2.1 = q then (e.1, e.2.1, e.2.2.1, e.2.2.2.1, x) else e
theorem zLogW_ent {g : zLg} {f : Nat → Option zE} (h : zLogW g) (hf : ∀ o, g.2.2 o = none → f o = none) : zLogW (g.1, g.2.1, f) := by
  obtain ⟨w1, w2, w3, w4, w5, w6, w7, w8, w9⟩ := h
  exact ⟨w1, w2, w3, w4, w5, w6, w7, fun o ho => hf o (w8 o ho), fun o ho => hf o (w9 o ho)⟩
theorem zLogW_drop {g : zLg} {o : Nat} (h : zLogW g) : zLogW (zDrop g o) := zLogW_ent h (fun j hj => by
  show (if j = o then none else g.2.2 j) = none
  by_cases e9 : j = o
  · rw [if_pos e9]
  · rw [if_neg e9]; exact hj)
theorem zCl_sh1 {g : zLg} (h : zLogW g) (h1 : 1 ≤ zCl g) : zCl (zSh1 g) = zCl g - 1 ∧ g.2.1.1 + g.1.1 ≤ zBa g := by
  obtain ⟨w1, w2, w3, w4, w5, w6, w7, w8, w9⟩ := h
  revert h1 w5 w7
  unfold zCl zBa zSh1
  dsimp only
  generalize g.2.1.2 = en
  generalize g.2.1.1 = st
  exact z4 (P := fun n => 1 ≤ (en / n * n - st) / n → st ≤ en / n * n → st % n = 0 → (en / n * n - (st + n)) / n = (en / n * n - st) / n - 1 ∧ st + n ≤ en / n * n) (by omega) (by omega) (by omega) (by omega) w1 w2
theorem zLogW_sh1 {g : zLg} (h : zLogW g) (h1 : 1 ≤ zCl g) : zLogW (zSh1 g) := by
  have h2 := zCl_sh1 h h1
  obtain ⟨w1, w2, w3, w4, w5, w6, w7, w8, w9⟩ := h
  refine ⟨w1, w2, w3, w4, h2.2, w6, ?_, fun o ho => ?_, fun o ho => ?_⟩
  · show (g.2.1.1 + g.1.1) % g.1.1 = 0
    rw [Nat.add_mod_right]; exact w7
  · show (if o < g.2.1.1 + g.1.1 then none else g.2.2 o) = none
    by_cases e9 : o < g.2.1.1 + g.1.1
    · rw [if_pos e9]
    · rw [if_neg e9]; exact w8 o ho
  · show (if o < g.2.1.1 + g.1.1 then none else g.2.2 o) = none
    exact if_pos ho
theorem zLogA_sh1 {S : zS} {tp : Nat} {g : zLg} (h : zLogA S tp (g.1, g.2.1, (zSh1 g).2.2)) (hc : zCl (zSh1 g) = zCl g - 1) : zLogA (zsi (zsi S (60 + tp) 4 (nI (g.2.1.1 + g.1.1))) (60 + tp) 7 (nI (zCl g - 1))) tp (zSh1 g) := by
  obtain ⟨hd1, hd2, f0, f1, f2, f3, f4, f5, f6, f7, f8, hent, hee⟩ := h
  refine ⟨hd1, hd2, rd_i (Or.inr (by decide)) (rd_i (Or.inr (by decide)) f0), rd_i (Or.inr (by decide)) (rd_i (Or.inr (by decide)) f1), rd_i (Or.inr (by decide)) (rd_i (Or.inr (by decide)) f2), f3, rd_i (Or.inr (by decide)) rd_s, rd_i (Or.inr (by decide)) (rd_i (Or.inr (by decide)) f5), rd_i (Or.inr (by decide)) (rd_i (Or.inr (by decide)) f6), by rw [hc]; exact rd_s, rd_i (Or.inr (by decide)) (rd_i (Or.inr (by decide)) f8), hent, fun o e he => ?_⟩
  obtain ⟨q1, q2, q3, q4, q5, q6⟩ := hee o e he
  exact ⟨q1, rd_i (Or.inr (by decide)) (rd_i (Or.inr (by decide)) q2), rd_i (Or.inr (by decide)) (rd_i (Or.inr (by decide)) q3), rd_i (Or.inr (by decide)) (rd_i (Or.inr (by decide)) q4), rd_i (Or.inr (by decide)) (rd_i (Or.inr (by decide)) q5), rd_i (Or.inl (by omega)) (rd_i (Or.inl (by omega)) q6)⟩
def zOI (r : Option Nat) : Int32 := match r with
  | some x => nI x
  | none => -1
theorem zPr_mono {g g1 : zLg} (h : ∀ o, g.2.2 o = none → g1.2.2 o = none) : zPr g1 ≤ zPr g := by
  unfold zPr
  suffices H : ∀ (k o : Nat), zcnt (fun o => (g1.2.2 o).isSome) k o ≤ zcnt (fun o => (g.2.2 o).isSome) k o from H 60 0
  intro k
  induction k with
  | zero => intro o; exact Nat.le_refl _
  | succ k ih =>
    intro o
    show (if (g1.2.2 o).isSome = true then 1 else 0) + zcnt _ k (o + 1) ≤ (if (g.2.2 o).isSome = true then 1 else 0) + zcnt _ k (o + 1)
    have h1 := ih (o + 1)
    cases hg : g.2.2 o with
    | none => rw [h o hg]; exact Nat.add_le_add_left h1 _
    | some e =>
      show _ ≤ 1 + _
      by_cases e9 : (g1.2.2 o).isSome = true
      · rw [if_pos e9]; omega
      · rw [if_neg e9]; omega
