/-! searching a stretch of numbers -/
def zfind (p : Nat → Bool) : Nat → Nat → Option Nat
  | 0, _ => none
  | k + 1, o => if p o = true then some o else zfind p k (o + 1)
theorem zfind_none {p : Nat → Bool} : ∀ {k o : Nat}, (∀ j, o ≤ j → j < o + k → p j = false) → zfind p k o = none
  | 0, _, _ => rfl
  | k + 1, o, h => by
    show (if p o = true then some o else zfind p k (o + 1)) = none
    rw [if_neg (by rw [h o (Nat.le_refl _) (by omega)]; decide)]
    exact zfind_none (fun j h1 h2 => h j (by omega) (by omega))
theorem zfind_some {p : Nat → Bool} : ∀ {k o x : Nat}, o ≤ x → x < o + k → (∀ j, o ≤ j → j < x → p j = false) → p x = true → zfind p k o = some x
  | 0, o, x, h1, h2, _, _ => by omega
  | k + 1, o, x, h1, h2, h3, h4 => by
    show (if p o = true then some o else zfind p k (o + 1)) = some x
    by_cases e : o = x
    · subst e; rw [if_pos h4]
    · rw [if_neg (by rw [h3 o (Nat.le_refl _) (by omega)]; decide)]
      exact zfind_some (by omega) (by omega) (fun j h1 h2 => h3 j (by omega) h2) h4
theorem zfind_spec {p : Nat → Bool} : ∀ {k o x : Nat}, zfind p k o = some x → o ≤ x ∧ x < o + k ∧ p x = true ∧ ∀ j, o ≤ j → j < x → p j = false
  | 0, o, x, h => by cases h
  | k + 1, o, x, h => by
    have h' : (if p o = true then some o else zfind p k (o + 1)) = some x := h
    by_cases e : p o = true
    · rw [if_pos e] at h'
      cases h'
      exact ⟨Nat.le_refl _, by omega, e, fun j h1 h2 => by omega⟩
    · rw [if_neg e] at h'
      obtain ⟨a, b, c, d⟩ := zfind_spec h'
      refine ⟨by omega, by omega, c, fun j h1 h2 => ?_⟩
      by_cases ej : j = o
      · subst ej; exact Bool.eq_false_iff.mpr e
      · exact d j (by omega) h2
theorem zfind_nspec {p : Nat → Bool} : ∀ {k o : Nat}, zfind p k o = none → ∀ j, o ≤ j → j < o + k → p j = false
  | 0, o, _, j, h1, h2 => by omega
  | k + 1, o, h, j, h1, h2 => by
    have h' : (if p o = true then some o else zfind p k (o + 1)) = none := h
    by_cases e : p o = true
    · rw [if_pos e] at h'; cases h'
    · rw [if_neg e] at h'
      by_cases ej : j = o
      · subst ej; exact Bool.eq_false_iff.mpr e
      · exact zfind_nspec h' j (by omega) (by omega)
theorem zfind_congr {p q : Nat → Bool} : ∀ {k o : Nat}, (∀ j, o ≤ j → j < o + k → p j = q j) → zfind p k o = zfind q k o
  | 0, _, _ => rfl
  | k + 1, o, h => by
    show (if p o = true then some o else zfind p k (o + 1)) = if q o = true then some o else zfind q k (o + 1)
    rw [h o (Nat.le_refl _) (by omega), zfind_congr (k := k) (o := o + 1) (fun j h1 h2 => h j (by omega) (by omega))]
