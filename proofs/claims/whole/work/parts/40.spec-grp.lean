/-! groups: who owns a partition -/
def zRk (k : Nat → Int32) (t m : Nat) : Nat := zcnt (fun j => decide (k j = nI t)) m 0
def zNxt (n c r : Nat) : Nat := r * (n / c) + min r (n % c)
def zWhoP (k : Nat → Int32) (n t tp : Nat) : Nat → Bool := fun m => decide (k m = nI t) && decide (tp % 4 < zNxt n (zRk k t 4) (zRk k t (m + 1)))
def zWho (k : Nat → Int32) (n tp : Nat) : Option Nat := zfind (zWhoP k n (tp / 4) tp) 4 0
theorem zRk_le {k : Nat → Int32} {t m : Nat} : zRk k t m ≤ m := zcnt_le
theorem zRk_y {k : Nat → Int32} {t m : Nat} (h : k m = nI t) : zRk k t (m + 1) = zRk k t m + 1 := by unfold zRk; rw [zcnt_step, if_pos (decide_eq_true h)]
theorem zRk_n {k : Nat → Int32} {t m : Nat} (h : ¬ k m = nI t) : zRk k t (m + 1) = zRk k t m := by unfold zRk; rw [zcnt_step, if_neg (fun q => h (of_decide_eq_true q))]; rfl
theorem zRk_mono {k : Nat → Int32} {t m : Nat} : zRk k t m ≤ zRk k t (m + 1) := by
  by_cases h : k m = nI t
  · rw [zRk_y h]; omega
  · rw [zRk_n h]; omega
theorem zRk_lt {k : Nat → Int32} {t m : Nat} (h : k m = nI t) (hm : m < 4) : zRk k t m + 1 ≤ zRk k t 4 := by
  rw [← zRk_y h]
  rcases (show m = 0 ∨ m = 1 ∨ m = 2 ∨ m = 3 by omega) with e | e | e | e <;> subst e
  · exact Nat.le_trans zRk_mono (Nat.le_trans zRk_mono zRk_mono)
  · exact Nat.le_trans zRk_mono zRk_mono
  · exact zRk_mono
  · exact Nat.le_refl _
theorem zNxt_s {n c r : Nat} : zNxt n c (r + 1) = zNxt n c r + n / c + (if r < n % c then 1 else 0) := by
  unfold zNxt
  rw [Nat.add_mul, Nat.one_mul]
  by_cases h : r < n % c
  · rw [if_pos h, Nat.min_eq_left (by omega), Nat.min_eq_left (by omega)]; omega
  · rw [if_neg h, Nat.min_eq_right (by omega), Nat.min_eq_right (by omega)]; omega
theorem zNxt_m {n c r : Nat} : zNxt n c r ≤ zNxt n c (r + 1) := by rw [zNxt_s, Nat.add_assoc]; exact Nat.le_add_right _ _
theorem zNxt_0 {n c : Nat} : zNxt n c 0 = 0 := by unfold zNxt; rw [Nat.zero_mul, Nat.min_eq_left (Nat.zero_le _)]
theorem zNxt_le {n c r : Nat} (hr : r ≤ c) (hn : n ≤ 3) (hc : c ≤ 4) : zNxt n c r ≤ n :=
  (by decide +kernel : ∀ n, n < 4 → ∀ c, c < 5 → ∀ r, r < 5 → r ≤ c → zNxt n c r ≤ n) n (by omega) c (by omega) r (by omega) hr
theorem zfind_app {p : Nat → Bool} : ∀ {k o : Nat}, zfind p (k + 1) o = (match zfind p k o with | some x => some x | none => if p (o + k) = true then some (o + k) else none)
  | 0, o => by show (if p o = true then some o else none) = if p o = true then some o else none; rfl
  | k + 1, o => by
    show (if p o = true then some o else zfind p (k + 1) (o + 1)) = match (if p o = true then some o else zfind p k (o + 1)) with | some x => some x | none => if p (o + (k + 1)) = true then some (o + (k + 1)) else none
    by_cases h : p o = true
    · rw [if_pos h, if_pos h]
    · rw [if_neg h, if_neg h, zfind_app (k := k) (o := o + 1), show o + 1 + k = o + (k + 1) by omega]
theorem zfind_sn {p : Nat → Bool} {k x : Nat} (h : zfind p k 0 = some x) : zfind p (k + 1) 0 = some x := by rw [zfind_app, h]
theorem zfind_ny {p : Nat → Bool} {k : Nat} (h : zfind p k 0 = none) (hp : p k = true) : zfind p (k + 1) 0 = some k := by rw [zfind_app, h]; show (if p (0 + k) = true then some (0 + k) else none) = _; rw [Nat.zero_add, if_pos hp]
theorem zfind_nn {p : Nat → Bool} {k : Nat} (h : zfind p k 0 = none) (hp : p k = false) : zfind p (k + 1) 0 = none := by rw [zfind_app, h]; show (if p (0 + k) = true then some (0 + k) else none) = _; rw [Nat.zero_add, hp]; rfl
/-- found among the first m members: below their share -/
theorem zWho_iff {k : Nat → Int32} {n t tp : Nat} : ∀ m, (zfind (zWhoP k n t tp) m 0 = none ↔ ¬ tp % 4 < zNxt n (zRk k t 4) (zRk k t m))
  | 0 => by
    show (none : Option Nat) = none ↔ _
    rw [show zRk k t 0 = 0 from rfl, zNxt_0]
    exact ⟨fun _ => by omega, fun _ => rfl⟩
  | m + 1 => by
    have ih := zWho_iff (k := k) (n := n) (t := t) (tp := tp) m
    by_cases h : k m = nI t
    · have hs := zNxt_s (n := n) (c := zRk k t 4) (r := zRk k t m)
      generalize n / zRk k t 4 = w9 at hs
      have hp : zWhoP k n t tp m = decide (tp % 4 < zNxt n (zRk k t 4) (zRk k t (m + 1))) := by unfold zWhoP; rw [decide_eq_true h, Bool.true_and]
      rw [zRk_y h] at hp ⊢
      cases hf : zfind (zWhoP k n t tp) m 0 with
      | some x =>
        rw [zfind_sn hf]
        have h1 : tp % 4 < zNxt n (zRk k t 4) (zRk k t m) := Classical.byContradiction fun q => by rw [ih.mpr q] at hf; cases hf
        constructor
        · intro q; cases q
        · intro q; omega
      | none =>
        by_cases h2 : tp % 4 < zNxt n (zRk k t 4) (zRk k t m + 1)
        · rw [zfind_ny hf (hp.trans (decide_eq_true h2))]
          constructor
          · intro q; cases q
          · intro q; exact absurd h2 q
        · rw [zfind_nn hf (hp.trans (decide_eq_false h2))]
          exact ⟨fun _ => h2, fun _ => rfl⟩
    · have hp : zWhoP k n t tp m = false := by unfold zWhoP; rw [decide_eq_false h, Bool.false_and]
      rw [zRk_n h]
      cases hf : zfind (zWhoP k n t tp) m 0 with
      | some x => rw [zfind_sn hf, ← ih, hf]
      | none => rw [zfind_nn hf hp, ← ih, hf]
/-- one member more -/
theorem zWho_y {k : Nat → Int32} {n t tp m : Nat} (h : k m = nI t) : zfind (zWhoP k n t tp) (m + 1) 0 = if zNxt n (zRk k t 4) (zRk k t m) ≤ tp % 4 ∧ tp % 4 < zNxt n (zRk k t 4) (zRk k t m + 1) then some m else zfind (zWhoP k n t tp) m 0 := by
  have hp : zWhoP k n t tp m = decide (tp % 4 < zNxt n (zRk k t 4) (zRk k t m + 1)) := by unfold zWhoP; rw [decide_eq_true h, Bool.true_and, zRk_y h]
  have ih := zWho_iff (k := k) (n := n) (t := t) (tp := tp) m
  cases hf : zfind (zWhoP k n t tp) m 0 with
  | some x =>
    have h1 : tp % 4 < zNxt n (zRk k t 4) (zRk k t m) := Classical.byContradiction fun q => by rw [ih.mpr q] at hf; cases hf
    rw [zfind_sn hf, if_neg (by omega)]
  | none =>
    have h1 := ih.mp hf
    by_cases h2 : tp % 4 < zNxt n (zRk k t 4) (zRk k t m + 1)
    · rw [zfind_ny hf (hp.trans (decide_eq_true h2)), if_pos ⟨by omega, h2⟩]
    · rw [zfind_nn hf (hp.trans (decide_eq_false h2)), if_neg (fun q => h2 q.2)]
theorem zWho_n {k : Nat → Int32} {n t tp m : Nat} (h : ¬ k m = nI t) : zfind (zWhoP k n t tp) (m + 1) 0 = zfind (zWhoP k n t tp) m 0 := by
  have hp : zWhoP k n t tp m = false := by unfold zWhoP; rw [decide_eq_false h, Bool.false_and]
  cases hf : zfind (zWhoP k n t tp) m 0 with
  | some x => rw [zfind_sn hf]
  | none => rw [zfind_nn hf hp]
/-- what is left over for the members to come -/
def zLa (n c r : Nat) : Int32 := nI (n % c) - nI r
theorem zLa_0 {n c : Nat} : zLa n c 0 = nI (n % c) := by unfold zLa; rw [nI_0, Int32.sub_zero]
theorem zLa_s {n c r : Nat} : zLa n c r + Int32.ofInt (-1) = zLa n c (r + 1) := by
  unfold zLa
  rw [← nI_add, Int32.sub_eq_add_neg, Int32.sub_eq_add_neg, Int32.neg_add, Int32.add_assoc, Int32.sub_eq_add_neg]
  rfl
theorem zLa_le {n c r : Nat} (hn : n < 100) (hr : r < 100) : zLa n c r ≤ 0 ↔ ¬ r < n % c := by
  have h1 : n % c ≤ n := Nat.mod_le _ _
  unfold zLa
  rw [Int32.le_iff_toInt_le, pk_sub_toInt (by omega) (by omega), Int32.toInt_zero]
  omega
theorem zGrA_own {S : zS} {i j : Nat} {u : zGr} {v : Int32} (h : zGrA S i u) (hi : i < 2) : zGrA (zsi S (44 + i) j v) i (u.1, u.2.1, (fun x => if x = j then v else u.2.2.1 x), u.2.2.2) := by
  obtain ⟨k1, k2, k3, k4, k5, k6, k7, k8, k9, k10, k11, k12, k13, k14⟩ := h
  refine ⟨k1, k2, k3, k4, k5, rd_i (Or.inl (by omega)) k6, k7, k8, k9, k10, fun k hk => rd_i (Or.inl (by omega)) (k11 k hk), fun x hx => ?_, fun k hk => rd_i (Or.inl (by omega)) (k13 k hk), fun k hk => rd_i (Or.inl (by omega)) (k14 k hk)⟩
  show _ = if x = j then v else u.2.2.1 x
  by_cases e9 : x = j
  · subst e9; rw [if_pos rfl]; exact rd_s
  · rw [if_neg e9]; exact rd_i (Or.inr e9) (k12 x hx)
theorem zGrA_eq {S : zS} {i : Nat} {u u2 : zGr} (h : zGrA S i u) (h0 : u2.1 = u.1) (h1 : u2.2.1 = u.2.1) (h2 : ∀ j, j < 12 → u2.2.2.1 j = u.2.2.1 j) (h3 : u2.2.2.2 = u.2.2.2) : zGrA S i u2 := by
  obtain ⟨k1, k2, k3, k4, k5, k6, k7, k8, k9, k10, k11, k12, k13, k14⟩ := h
  exact ⟨k1, k2, k3, k4, k5, by rw [h0]; exact k6, k7, k8, k9, k10, by rw [h1]; exact k11, fun j hj => by rw [h2 j hj]; exact k12 j hj, by rw [h3]; exact k13, by rw [h3]; exact k14⟩
/-- the group after its members have changed -/
def sMem (pt : Nat → Nat) (u : zGr) (m : Nat) (v : Int32) : zGr := (u.1 + nI 1, (fun j => if j = m then v else u.2.1 j), (fun j => zOI (zWho (fun j => if j = m then v else u.2.1 j) (pt (j / 4)) j)), u.2.2.2.2, u.2.2.2.2)
def sJoin (b : zBr) (x m y : Int32) : (Nat × Int32) × zBr := zA x 1 ((1, 0), b) fun i => zA m 3 ((1, 0), b) fun k => zA y 2 ((1, 0), b) fun t => if b.1 t = 0 then ((2, 0), b) else ((0, (b.2.2.2.2.2.1 i).1 + nI 1), bH b i (sMem b.1 (b.2.2.2.2.2.1 i) k (nI t)))
def sLeave (b : zBr) (x m : Int32) : (Nat × Int32) × zBr := zA x 1 ((1, 0), b) fun i => zA m 3 ((1, 0), b) fun k => if (b.2.2.2.2.2.1 i).2.1 k = -1 then ((2, 0), b) else ((0, (b.2.2.2.2.2.1 i).1 + nI 1), bH b i (sMem b.1 (b.2.2.2.2.2.1 i) k (-1)))
/-- ints copied from one array to another -/
def zcp (S : zS) (a b len : Nat) : zS := (S.1, (fun x y => if x = b ∧ y < len then S.2.1 a y else S.2.1 x y), S.2.2)
theorem nt_cp : Cond.native arraycopyName ∈ zTs := zTs_in (by decide +kernel) (by decide +kernel)
theorem st_cp : Cond.static arraycopyName ∈ zTs := zTs_in (by decide +kernel) (by decide +kernel)
section ZCP
variable {p : Program} {l : Launch} {e : Env} {R : Room} {s : State} {m : MethodId} {args : Array Value} {below : List Frame} {meth : Method} {c : Code} {kc ks : Nat} {Q : State → Prop}
variable {D : va_G} {cl : List vw_C} {K : zK} {dA : Nat → ClassId} {A : Nat → Prop} {O : (Nat → Nat) × zS} {cc : ByteArray} {nL : Nat} {own : String} {Ts : List Cond} {tys : List (ClassId × FieldType)} {G : (Nat → Prop) → State → Prop} {S : zS} {pc : Nat} {L : List (Nat × Value)} {st : List Value}
theorem z_copyi (X : zX p s m args c D cl K A cc nL own Ts tys G) {idx a b len t0 : Nat} (h1 : Cond.methodLink own idx arraycopyName ∈ Ts) (h2 : Cond.native arraycopyName ∈ Ts) (h3 : Cond.static arraycopyName ∈ Ts) (h4 : Cond.initialized "java/lang/System" ∈ Ts) (hka : K.1 a = .inr (0, len)) (hkb : K.1 b = .inr (0, len)) (ht : tys[t0]? = some (dA 0, .int)) (hlen : len < 2 ^ 31)
    (hd : decode cc pc = .ok (.invokestatic idx, 3)) (hf : 1 ≤ R.frames) (hlo : (st.map fun v => v.category).sum + (nativeFrameWords "java/lang/System" "arraycopy" 5 + 11) ≤ R.locals)
    (k : AW p l e R s m args below meth c D cl K dA A O nL (zcp S a b len) kc ks Q (pc + 3) L st) : AW p l e R s m args below meth c D cl K dA A O nL S kc ks Q pc L (.int (nI len) :: .int (nI 0) :: .ref b :: .int (nI 0) :: .ref a :: st) := by
  intro ad H locs ls hH hS hl ho
  obtain ⟨h0, hcl, hz, h00, dl, hnd, hdl, hP, hD⟩ := id hH
  have ht9 : ¬ (999 = 0) := by decide
  have hda : S.1 a = true := (ho.t.t.t.t.h).elim (fun e9 => by rw [e9, X.2.2.2.2.2.2.2.1] at hka; exact absurd (congrArg Prod.fst (Sum.inr.inj hka)) ht9) id
  have hdb : S.1 b = true := (ho.t.t.h).elim (fun e9 => by rw [e9, X.2.2.2.2.2.2.2.1] at hkb; exact absurd (congrArg Prod.fst (Sum.inr.inj hkb)) ht9) id
  obtain ⟨i, hi⟩ := List.getElem?_of_mem ((hdl a).mpr hda)
  obtain ⟨j, hj⟩ := List.getElem?_of_mem ((hdl b).mpr hdb)
  have e0 : (nI 0).toNatClampNeg = 0 := nI_clamp (by decide)
  have el : (nI len).toNatClampNeg = len := nI_clamp hlen
  refine va_copyi (c0 := dA 0) (c1 := dA 0) (f := S.2.1 a) (g := S.2.1 b) (n0 := len) (n1 := len) (ty := .int) X.1 X.2.1 (hl.1.trans X.2.2.1.symm).symm X.2.2.2.1 (X.2.2.2.2.1 _ h1) (X.2.2.2.2.1 _ h2) (X.2.2.2.2.1 _ h3) (X.2.2.2.2.1 _ h4) X.2.2.2.2.2.1 hP hD hS i j t0 t0 (by rw [zW_at hi, zC_a hka]; rfl) (by rw [zW_at hj, zC_a hkb]; rfl) ht ht rfl (nI_pos (by decide)) (nI_pos (by decide)) (nI_pos hlen) (by rw [e0, el]; omega) (by rw [e0, el]; omega) (fun _ _ => rfl) hf ?_ hd (fun H1 locs1 hP1 hD1 hS1 => k ad H1 locs1 ls (zH_wr (S' := zcp S a b len) hH rfl hdb hcl (fun q hq => ⟨by funext y; exact if_neg (fun h => hq h.1), rfl, rfl⟩) hnd hdl hj (by
    rw [zC_a hkb, e0, el]
    refine congrArg (fun z => Sum.inl (dA 0, len, Sum.inl z)) ?_
    funext y
    unfold va_cpy
    show _ = if b = b ∧ y < len then S.2.1 a y else S.2.1 b y
    by_cases h9 : y < len
    · rw [if_pos ⟨Nat.zero_le _, by omega⟩, if_pos ⟨rfl, h9⟩, Nat.zero_add, Nat.sub_zero]
    · rw [if_neg (by omega), if_neg (fun h => h9 h.2)]) hP1 hD1) hS1 hl (show zok (zcp S a b len) L st from ho.t.t.t.t.t))
  rw [List.map_map, show ((fun v : Value => v.category) ∘ zv ad) = (fun v : Value => v.category) from funext fun v => zv_cat ad v]
  exact hlo
end ZCP
