/-! compacting -/
def zBit (r : zE) : Int32 := if r.2.2.2.2 = nI 0 ∧ ¬ r.2.1 = -1 then nI 1 <<< (r.2.1 &&& 31) else nI 0
def zCK (k : Int32) (r : Option zE) : Bool := match r with
  | some e => decide (e.1 = nI 0) && (decide (e.2.2.2.2 = nI 0) && decide (e.2.1 = k))
  | none => false
/-- a committed record with this key comes later, below stb -/
def zNew (g : zLg) (stb o : Nat) (k : Int32) : Bool := (zfind (fun j => zCK k (g.2.2 j)) (stb - (o + 1)) (o + 1)).isSome
def zGoes (g : zLg) (stb o : Nat) : Bool := match g.2.2 o with
  | some e => decide (e.1 = nI 0) && (decide (e.2.2.2.2 = nI 1) || (decide (¬ e.2.1 = -1) && zNew g stb o e.2.1))
  | none => false
def zComp (g : zLg) : zLg := (g.1, g.2.1, fun o => if o < zStab g ∧ o < zBa g ∧ zGoes g (zStab g) o = true then none else g.2.2 o)
def zPd (o : Nat) : Int32 := nI o - nI 1
theorem zPd_s (q : Nat) : zPd (q + 1) = nI q := by
  unfold zPd
  rw [pk_sub (by omega)]
  rfl
theorem zPd_lt {o st : Nat} (h : o ≤ st) (hs : st < 2 ^ 30) : zPd o < nI st := by
  unfold zPd
  rw [Int32.lt_iff_toInt_lt, pk_sub_toInt (by omega) (by decide), nI_toInt (by omega)]
  omega
theorem zPd_inc (q : Nat) : nI q + Int32.ofInt (-1) = zPd q := by
  unfold zPd
  rw [Int32.sub_eq_add_neg]
  rfl
theorem zBits : ∀ M, M < 256 → ∀ k, k < 8 → ((nI M &&& (nI 1 <<< (nI k &&& 31))) = nI 0 ↔ M.testBit k = false) ∧ (nI M ||| (nI 1 <<< (nI k &&& 31))) = nI (M ||| 2 ^ k) ∧ M ||| 2 ^ k < 256 := by decide +kernel
theorem zBit0 : ∀ M, M < 256 → (nI M &&& nI 0) = nI 0 ∧ (nI M ||| nI 0) = nI M := by decide +kernel
theorem zkey_ne {k : Nat} (h : k < 8) : ¬ nI k = -1 := fun e => absurd (show nI k < 0 by rw [e]; decide) (nI_pos (by omega))
theorem zNew_iff {g : zLg} {stb o : Nat} {k : Int32} : zNew g stb o k = true ↔ ∃ j, o < j ∧ j < stb ∧ zCK k (g.2.2 j) = true := by
  unfold zNew
  constructor
  · intro h
    obtain ⟨x, hx⟩ := Option.isSome_iff_exists.mp h
    obtain ⟨a, b, c, -⟩ := zfind_spec hx
    exact ⟨x, by omega, by omega, c⟩
  · rintro ⟨j, h1, h2, h3⟩
    cases hf : zfind (fun j => zCK k (g.2.2 j)) (stb - (o + 1)) (o + 1) with
    | some x => rfl
    | none =>
      have h4 := zfind_nspec hf j (by omega) (by omega)
      rw [h3] at h4
      cases h4
/-- below the stable offset nothing is undecided -/
theorem zStab_und {g : zLg} {o : Nat} {e : zE} (h1 : g.2.1.1 ≤ o) (h2 : o < zStab g) (he : g.2.2 o = some e) : ¬ e.2.2.2.2 = nI 2 := by
  intro h3
  have hu : zUnd (g.2.2 o) = true := by rw [he]; exact decide_eq_true h3
  unfold zStab at h2
  cases hf : zfind (fun o => zUnd (g.2.2 o)) (g.2.1.2 - g.2.1.1) g.2.1.1 with
  | some x =>
    rw [hf] at h2
    have h4 := (zfind_spec hf).2.2.2 o h1 h2
    rw [hu] at h4; cases h4
  | none =>
    rw [hf] at h2
    have h5 : o < g.2.1.2 := h2
    have h4 := zfind_nspec hf o h1 (by omega)
    rw [hu] at h4; cases h4
theorem zMinN {a b : Nat} (ha : a < 2 ^ 31) (hb : b < 2 ^ 31) : (if nI b < nI a then nI b else nI a) = nI (min a b) := by
  by_cases h : b < a
  · rw [if_pos ((nI_ltI hb ha).mpr h), Nat.min_eq_right (by omega)]
  · rw [if_neg (fun q => h ((nI_ltI hb ha).mp q)), Nat.min_eq_left (by omega)]
theorem zCK_iff {k : Int32} {r : zE} : zCK k (some r) = true ↔ r.1 = nI 0 ∧ r.2.2.2.2 = nI 0 ∧ r.2.1 = k := by
  show (decide _ && (decide _ && decide _)) = true ↔ _
  rw [Bool.and_eq_true, Bool.and_eq_true, decide_eq_true_iff, decide_eq_true_iff, decide_eq_true_iff]
/-- the keys seen, with this record's -/
theorem zSeen {M : Nat} {r : zE} (hM : M < 256) (hk0 : r.1 = nI 0) (hy : r.2.1 = -1 ∨ ∃ k, k < 8 ∧ r.2.1 = nI k) : ∃ M2, (nI M ||| zBit r) = nI M2 ∧ M2 < 256 ∧ ∀ k, k < 8 → (M2.testBit k = true ↔ (M.testBit k = true ∨ zCK (nI k) (some r) = true)) := by
  by_cases hb : r.2.2.2.2 = nI 0 ∧ ¬ r.2.1 = -1
  · obtain ⟨k0, hk, hr⟩ := hy.resolve_left hb.2
    obtain ⟨b1, b2, b3⟩ := zBits M hM k0 hk
    refine ⟨M ||| 2 ^ k0, ?_, b3, fun k h9 => ?_⟩
    · unfold zBit; rw [if_pos hb, hr]; exact b2
    · rw [Nat.testBit_or, Nat.testBit_two_pow, Bool.or_eq_true, decide_eq_true_iff, zCK_iff]
      constructor
      · rintro (h | h)
        · exact Or.inl h
        · subst h; exact Or.inr ⟨hk0, hb.1, hr⟩
      · rintro (h | ⟨-, -, h⟩)
        · exact Or.inl h
        · exact Or.inr ((nI_eq (by omega) (by omega)).mp (hr.symm.trans h))
  · refine ⟨M, ?_, hM, fun k h9 => ?_⟩
    · unfold zBit; rw [if_neg hb]; exact (zBit0 M hM).2
    · constructor
      · exact Or.inl
      · rintro (h | h)
        · exact h
        · obtain ⟨-, h2, h3⟩ := zCK_iff.mp h
          exact absurd ⟨h2, by rw [h3]; exact zkey_ne h9⟩ hb
theorem zSeenI {M M2 q : Nat} {g : zLg} {r : zE} (hM : M < 256 ∧ ∀ k, k < 8 → (M.testBit k = true ↔ ∃ j, q + 1 ≤ j ∧ j < zStab g ∧ zCK (nI k) (g.2.2 j) = true)) (h2 : M2 < 256 ∧ ∀ k, k < 8 → (M2.testBit k = true ↔ (M.testBit k = true ∨ zCK (nI k) (some r) = true))) (he : g.2.2 q = some r) (hq : q < zStab g) : M2 < 256 ∧ ∀ k, k < 8 → (M2.testBit k = true ↔ ∃ j, q ≤ j ∧ j < zStab g ∧ zCK (nI k) (g.2.2 j) = true) := by
  refine ⟨h2.1, fun k hk => ?_⟩
  rw [h2.2 k hk, hM.2 k hk]
  constructor
  · rintro (⟨j, a, b, c⟩ | h)
    · exact ⟨j, by omega, b, c⟩
    · exact ⟨q, Nat.le_refl _, hq, by rw [he]; exact h⟩
  · rintro ⟨j, a, b, c⟩
    by_cases e : j = q
    · subst e; rw [he] at c; exact Or.inr c
    · exact Or.inl ⟨j, by omega, b, c⟩
theorem zSeenN {M q : Nat} {g : zLg} {x : Option zE} (hM : M < 256 ∧ ∀ k, k < 8 → (M.testBit k = true ↔ ∃ j, q + 1 ≤ j ∧ j < zStab g ∧ zCK (nI k) (g.2.2 j) = true)) (he : g.2.2 q = x) (hn : ∀ k, zCK (nI k) x = false) : M < 256 ∧ ∀ k, k < 8 → (M.testBit k = true ↔ ∃ j, q ≤ j ∧ j < zStab g ∧ zCK (nI k) (g.2.2 j) = true) := by
  refine ⟨hM.1, fun k hk => ?_⟩
  rw [hM.2 k hk]
  constructor
  · rintro ⟨j, a, b, c⟩
    exact ⟨j, by omega, b, c⟩
  · rintro ⟨j, a, b, c⟩
    by_cases e : j = q
    · subst e; rw [he, hn k] at c; cases c
    · exact ⟨j, by omega, b, c⟩
theorem zGo1 {g : zLg} {stb q : Nat} {r : zE} (he : g.2.2 q = some r) (hk0 : r.1 = nI 0) (h1 : r.2.2.2.2 = nI 1) : zGoes g stb q = true := by
  unfold zGoes
  rw [he]
  show (decide _ && (decide _ || _)) = true
  rw [decide_eq_true hk0, decide_eq_true h1]; rfl
theorem zGo2 {g : zLg} {M q : Nat} {r : zE} (he : g.2.2 q = some r) (hk0 : r.1 = nI 0) (hM : M < 256) (hI : ∀ k, k < 8 → (M.testBit k = true ↔ ∃ j, q + 1 ≤ j ∧ j < zStab g ∧ zCK (nI k) (g.2.2 j) = true)) (hy : r.2.1 = -1 ∨ ∃ k, k < 8 ∧ r.2.1 = nI k) (h : ¬ (nI M &&& zBit r) = nI 0) : zGoes g (zStab g) q = true := by
  by_cases hb : r.2.2.2.2 = nI 0 ∧ ¬ r.2.1 = -1
  · obtain ⟨k0, hk, hr⟩ := hy.resolve_left hb.2
    have h2 : M.testBit k0 = true := by
      cases h3 : M.testBit k0 with
      | true => rfl
      | false =>
        exfalso
        apply h
        unfold zBit
        rw [if_pos hb, hr]
        exact ((zBits M hM k0 hk).1).mpr h3
    obtain ⟨j, a, b, c⟩ := (hI k0 hk).mp h2
    unfold zGoes
    rw [he]
    show (decide _ && (_ || (decide _ && zNew _ _ _ _))) = true
    rw [decide_eq_true hk0, decide_eq_true hb.2, zNew_iff.mpr ⟨j, a, b, by rw [hr]; exact c⟩]
    simp
  · exfalso
    apply h
    unfold zBit
    rw [if_neg hb]
    exact (zBit0 M hM).1
theorem zGo0 {g : zLg} {M q : Nat} {r : zE} (he : g.2.2 q = some r) (hk0 : r.1 = nI 0) (h1 : ¬ r.2.2.2.2 = nI 1) (hM : M < 256) (hI : ∀ k, k < 8 → (M.testBit k = true ↔ ∃ j, q + 1 ≤ j ∧ j < zStab g ∧ zCK (nI k) (g.2.2 j) = true)) (hy : r.2.1 = -1 ∨ ∃ k, k < 8 ∧ r.2.1 = nI k) (hs : r.2.2.2.2 = nI 0) (h : (nI M &&& zBit r) = nI 0) : ¬ zGoes g (zStab g) q = true := by
  intro h9
  unfold zGoes at h9
  rw [he] at h9
  have h8 : (decide (r.1 = nI 0) && (decide (r.2.2.2.2 = nI 1) || (decide (¬ r.2.1 = -1) && zNew g (zStab g) q r.2.1))) = true := h9
  rw [decide_eq_true hk0, decide_eq_false h1, Bool.true_and, Bool.false_or, Bool.and_eq_true, decide_eq_true_iff] at h8
  obtain ⟨k0, hk, hr⟩ := hy.resolve_left h8.1
  obtain ⟨j, a, b, c⟩ := zNew_iff.mp h8.2
  have h2 := (hI k0 hk).mpr ⟨j, a, b, by rw [← hr]; exact c⟩
  have h3 := ((zBits M hM k0 hk).1).mp (by
    have h7 := h
    unfold zBit at h7
    rw [if_pos ⟨hs, h8.1⟩, hr] at h7
    exact h7)
  rw [h2] at h3
  cases h3
theorem zSt0 {x : Int32} (h : ∃ k, k < 3 ∧ x = nI k) (h1 : ¬ x = nI 1) (h2 : ¬ x = nI 2) : x = nI 0 := by
  obtain ⟨k, hk, e⟩ := h
  rcases (show k = 0 ∨ k = 1 ∨ k = 2 by omega) with q | q | q
  · rw [e, q]
  · exact absurd (by rw [e, q]) h1
  · exact absurd (by rw [e, q]) h2
section ZMM
variable {p : Program} {l : Launch} {e : Env} {R : Room} {s : State} {m : MethodId} {args : Array Value} {below : List Frame} {meth : Method} {c : Code} {kc ks : Nat} {Q : State → Prop}
variable {D : va_G} {cl : List vw_C} {K : zK} {dA : Nat → ClassId} {A : Nat → Prop} {O : (Nat → Nat) × zS} {cc : ByteArray} {nL : Nat} {own : String} {c0 : Cond} {tys : List (ClassId × FieldType)} {G : (Nat → Prop) → State → Prop} {S : zS} {pc : Nat} {L : List (Nat × Value)} {st : List Value}
theorem w_mmin : Cond.static Lib.Math.min.name ∈ zTs ∧ Cond.initialized "java/lang/Math" ∈ zTs ∧ Cond.code Lib.Math.min.name Lib.Math.min.code 2 (some .int) ∈ zTs := ⟨zTs_in (by decide +kernel) (by decide +kernel), zTs_in (by decide +kernel) (by decide +kernel), zTs_in (by decide +kernel) (by decide +kernel)⟩
theorem w_mmax : Cond.static Lib.Math.max.name ∈ zTs ∧ Cond.initialized "java/lang/Math" ∈ zTs ∧ Cond.code Lib.Math.max.name Lib.Math.max.code 2 (some .int) ∈ zTs := ⟨zTs_in (by decide +kernel) (by decide +kernel), zTs_in (by decide +kernel) (by decide +kernel), zTs_in (by decide +kernel) (by decide +kernel)⟩
theorem z_mmin (X : zX p s m args c D cl K A cc nL own (c0 :: zTs) tys G) {index : Nat} {x y : Int32} (h1 : Cond.methodLink own index Lib.Math.min.name ∈ c0 :: zTs) (hd : decode cc pc = .ok (.invokestatic index, 3)) (hf : 1 ≤ R.frames) (hlo : (st.map fun v => v.category).sum + 13 ≤ R.locals) (hc : kc ≤ R.cells) (hs : ks ≤ R.slots) (k : AW p l e R s m args below meth c D cl K dA A O nL S kc ks Q (pc + 3) L (.int (if y < x then y else x) :: st)) : AW p l e R s m args below meth c D cl K dA A O nL S kc ks Q pc L (.int y :: .int x :: st) := by
  intro ad H locs ls hH hS hl ho
  refine va_mmin (x := x) (y := y) X.1 X.2.1 (X.2.2.1.trans hl.1.symm) X.2.2.2.1 (X.2.2.2.2.1 _ h1) (X.2.2.2.2.1 _ (w_m w_mmin.1)) (X.2.2.2.2.1 _ (w_m w_mmin.2.1)) (X.2.2.2.2.1 _ (w_m w_mmin.2.2)) hf ?_ hc hs hd (k ad H locs ls hH hS hl (ho.t.t.c trivial))
  rw [List.map_map, show ((fun v : Value => v.category) ∘ zv ad) = (fun v : Value => v.category) from funext fun v => zv_cat ad v]
  exact hlo
theorem z_mmax (X : zX p s m args c D cl K A cc nL own (c0 :: zTs) tys G) {index : Nat} {x y : Int32} (h1 : Cond.methodLink own index Lib.Math.max.name ∈ c0 :: zTs) (hd : decode cc pc = .ok (.invokestatic index, 3)) (hf : 1 ≤ R.frames) (hlo : (st.map fun v => v.category).sum + 13 ≤ R.locals) (hc : kc ≤ R.cells) (hs : ks ≤ R.slots) (k : AW p l e R s m args below meth c D cl K dA A O nL S kc ks Q (pc + 3) L (.int (if x < y then y else x) :: st)) : AW p l e R s m args below meth c D cl K dA A O nL S kc ks Q pc L (.int y :: .int x :: st) := by
  intro ad H locs ls hH hS hl ho
  refine va_mmax (x := x) (y := y) X.1 X.2.1 (X.2.2.1.trans hl.1.symm) X.2.2.2.1 (X.2.2.2.2.1 _ h1) (X.2.2.2.2.1 _ (w_m w_mmax.1)) (X.2.2.2.2.1 _ (w_m w_mmax.2.1)) (X.2.2.2.2.1 _ (w_m w_mmax.2.2)) hf ?_ hc hs hd (k ad H locs ls hH hS hl (ho.t.t.c trivial))
  rw [List.map_map, show ((fun v : Value => v.category) ∘ zv ad) = (fun v : Value => v.category) from funext fun v => zv_cat ad v]
  exact hlo
end ZMM
