/-! ending, opening, producing, new topics -/
def zLg0 : zLg := ((1, 1, nI 0), (0, 0), fun _ => none)
/-- what is not there is empty -/
def zBrE (b : zBr) : Prop := ∀ t, t < 12 → ¬ zEx b t → b.2.1 t = zLg0
theorem zBrE.u {b : zBr} (h : zBrE b) {q : Int32} (t : Nat) (ht : t < 12) (hx : ¬ zEx b t) : zU b q t = false := by unfold zU; rw [h t ht hx]; rfl
theorem zBrE.n {b : zBr} (h : zBrE b) (t : Nat) (ht : t < 12) (hx : ¬ zEx b t) (o : Nat) : (b.2.1 t).2.2 o = none := by rw [h t ht hx]; rfl
theorem zRoom_y {b : zBr} {q : Int32} (hE : zBrE b) (h : ∀ t, zEx b t → zHasU (b.2.1 t) q = true → (b.2.1 t).2.1.2 < 60) : zRoom b q = true := zRoom_iff.mpr fun t ht hu => by
  by_cases hx : zEx b t
  · exact h t hx hu
  · rw [hE.u t ht hx] at hu; cases hu
theorem zRoom_n {b : zBr} {q : Int32} (h : ∃ t, zEx b t ∧ zHasU (b.2.1 t) q = true ∧ ¬ (b.2.1 t).2.1.2 < 60) : ¬ zRoom b q = true := fun h1 => by
  obtain ⟨t, hx, hu, he⟩ := h
  exact he (zRoom_iff.mp h1 t hx.1 hu)
def sEnd (b : zBr) (x : Int32) (c : Bool) : (Nat × Int32) × zBr := zA x 5 ((1, 0), b) fun i => if (b.2.2.1 i).1 = -1 then ((2, 0), b) else if (b.2.2.1 i).2.1 = nI 0 then ((3, 0), b) else
  if ¬ zRoom b (b.2.2.1 i).1 = true then ((4, 0), b) else ((0, nI (zcnt (zU b (b.2.2.1 i).1) 12 0)), sDec b i c)
/-- a producer's current session, if there is one -/
def zOpT (b : zBr) (p : Nat) : Prop := ¬ b.2.2.2.1 p = -1 ∧ ¬ (b.2.2.1 (b.2.2.2.1 p).toNatClampNeg).2.1 = nI 0
def sAb (b : zBr) (p : Nat) : Option zBr := if ¬ b.2.2.2.1 p = -1 ∧ ¬ (b.2.2.1 (b.2.2.2.1 p).toNatClampNeg).2.1 = nI 0 then (if zRoom b (nI p) = true then some (sDec b (b.2.2.2.1 p).toNatClampNeg false) else none) else some b
def sOp2 (b : zBr) (i p : Nat) : zBr := bO (bC (bS (if ¬ (b.2.2.1 i).1 = -1 ∧ b.2.2.2.1 (b.2.2.1 i).1.toNatClampNeg = nI i then bC b (b.2.2.1 i).1.toNatClampNeg (-1) else b) i (nI p, (b.2.2.1 i).2.1, (fun _ => 0), (b.2.2.1 i).2.2.2)) p (nI i)) p (b.2.2.2.2.1 p + nI 1)
def sOpen (b : zBr) (x y : Int32) : (Nat × Int32) × zBr := zA x 5 ((1, 0), b) fun i => zA y 3 ((1, 0), b) fun p => if ¬ (b.2.2.1 i).2.1 = nI 0 ∧ ¬ (b.2.2.1 i).1 = nI p then ((2, 0), b) else
  zO (sAb b p) ((3, 0), b) fun b1 => ((0, b1.2.2.2.2.1 p + nI 1), sOp2 b1 i p)
/-- a producer's current session belongs to it -/
def zBrC (b : zBr) : Prop := ∀ q i, q < 4 → i < 6 → b.2.2.2.1 q = nI i → (b.2.2.1 i).1 = nI q
theorem zBrW_S {b : zBr} {i : Nat} {u : zSn} (h : zBrW b) (h1 : (u.1 = -1 ∨ ∃ q, q < 4 ∧ u.1 = nI q) ∧ (u.2.1 = nI 0 ∨ u.2.1 = nI 1)) (h2 : ∀ t, t < 12 → u.2.2.1 t ≤ (b.2.1 t).2.1.2) : zBrW (bS b i u) := by
  obtain ⟨v1, v2, v3, v4, v5, v6, v7⟩ := h
  have e1 : ∀ j, (bS b i u).2.2.1 j = if j = i then u else b.2.2.1 j := fun j => rfl
  refine ⟨v1, v2, v3, fun j hj => ?_, fun j t hj ht => ?_, v6, v7⟩
  · rw [e1]
    by_cases h9 : j = i
    · rw [if_pos h9]; exact h1
    · rw [if_neg h9]; exact v4 j hj
  · rw [e1]
    have h5 := v5 j t hj ht
    by_cases h9 : j = i
    · rw [if_pos h9]; exact ⟨h2 t ht, h5.2⟩
    · rw [if_neg h9]; exact h5
theorem zBrW_Sk {b : zBr} {q x : Int32} (h : zBrW b) (hx : x = nI 0 ∨ x = nI 1) (hE : ∀ t, t < 12 → ¬ zEx b t → ∀ o, (b.2.1 t).2.2 o = none) : ∀ k, k ≤ 12 → zBrW (bSk b q x k)
  | 0, _ => by rw [bSk_0]; exact h
  | k + 1, hk => by
    have ih := zBrW_Sk (q := q) h hx hE k (by omega)
    by_cases hex : zEx b k
    · rw [bSk_s]
      exact zBrW_G ih (zLogW_set (h.2.1 k hex)) (fun o e he => by
        obtain ⟨e0, h1, h2⟩ := zSet_some he
        rw [h2]; exact zEW_set (h.2.2.1 k hex o e0 h1) hx) (by rw [bSk_at (Nat.le_refl _)]; exact Nat.le_refl _)
    · rw [bSk_s, zSet_no (g0 := b.2.1 k) (bSk_at (Nat.le_refl _)) (fun o => ⟨rfl, hE k (by omega) hex o⟩)]; exact ih
theorem zBrW_dec {b : zBr} {i : Nat} {c : Bool} (hW : zBrW b) (hE : zBrE b) (hi : i < 6) (hq : ∃ k, k < 4 ∧ (b.2.2.1 i).1 = nI k) (hr : ∀ t, zEx b t → zU b (b.2.2.1 i).1 t = true → (b.2.1 t).2.1.2 < 60) : zBrW (sDec b i c) := by
  have h1 := zBrW_Dk (e := zMk (b.2.2.1 i).1 c) hW hr (fun t h1 h2 => hE.u t h1 h2) (zEW_mk hq (by cases c <;> first | exact Or.inl rfl | exact Or.inr rfl)) 12 (by omega)
  have h2 := zBrW_Sk (q := (b.2.2.1 i).1) (x := if c = true then nI 0 else nI 1) (zBrW_M (v := b.2.2.2.2.2.2.2.2.1 + nI (zcnt (zU b (b.2.2.1 i).1) 12 0)) h1) (by cases c <;> first | exact Or.inl rfl | exact Or.inr rfl) (fun t h3 h4 o => by
    have h5 : (bDk b (b.2.2.1 i).1 (zMk (b.2.2.1 i).1 c) 12).2.1 t = b.2.1 t := if_neg (fun h => by rw [hE.u t h3 h4] at h; cases h.2)
    show ((bDk b (b.2.2.1 i).1 (zMk (b.2.2.1 i).1 c) 12).2.1 t).2.2 o = none
    rw [h5]; exact hE.n t h3 h4 o) 12 (by omega)
  exact zBrW_S h2 ⟨(hW.2.2.2.1 i hi).1, Or.inl rfl⟩ (fun t ht => (h2.2.2.2.2.1 i t hi ht).1)
theorem zTop_C {S : zS} {b : zBr} {q : Nat} {v : Int32} (h : zTop S b) : zTop (zsi S 5 q v) (bC b q v) := by
  obtain ⟨hn, t0, t1, t2, t3, t4, t5, q6, q7, q8, q9, q10, hpt, hlg, hse, hcu, hop, hgr⟩ := h
  refine ⟨hn, t0, t1, t2, t3, t4, t5, rd_i (Or.inl (by decide)) q6, rd_i (Or.inl (by decide)) q7, rd_i (Or.inl (by decide)) q8, rd_i (Or.inl (by decide)) q9, rd_i (Or.inl (by decide)) q10, fun t ht => rd_i (Or.inl (by decide)) (hpt t ht), hlg, hse, fun j hj => ?_, fun t ht => rd_i (Or.inl (by decide)) (hop t ht), hgr⟩
  show _ = if j = q then v else b.2.2.2.1 j
  by_cases e9 : j = q
  · subst e9; rw [if_pos rfl]; exact rd_s
  · rw [if_neg e9]; exact rd_i (Or.inr e9) (hcu j hj)
theorem zTop_O {S : zS} {b : zBr} {q : Nat} {v : Int32} (h : zTop S b) : zTop (zsi S 6 q v) (bO b q v) := by
  obtain ⟨hn, t0, t1, t2, t3, t4, t5, q6, q7, q8, q9, q10, hpt, hlg, hse, hcu, hop, hgr⟩ := h
  refine ⟨hn, t0, t1, t2, t3, t4, t5, rd_i (Or.inl (by decide)) q6, rd_i (Or.inl (by decide)) q7, rd_i (Or.inl (by decide)) q8, rd_i (Or.inl (by decide)) q9, rd_i (Or.inl (by decide)) q10, fun t ht => rd_i (Or.inl (by decide)) (hpt t ht), hlg, hse, fun t ht => rd_i (Or.inl (by decide)) (hcu t ht), fun j hj => ?_, hgr⟩
  show _ = if j = q then v else b.2.2.2.2.1 j
  by_cases e9 : j = q
  · subst e9; rw [if_pos rfl]; exact rd_s
  · rw [if_neg e9]; exact rd_i (Or.inr e9) (hop j hj)
/-- the object's own cells have changed alone -/
theorem zBrA_t {S S' : zS} {b b' : zBr} (h : zBrA S b) (hW : zBrW b) (hf : zfr (fun n => 1 ≤ n ∧ n < 8) S S') (hT : zTop S' b') (h1 : b'.1 = b.1) (h2 : b'.2.1 = b.2.1) (h3 : b'.2.2.1 = b.2.2.1) (h4 : b'.2.2.2.2.2.1 = b.2.2.2.2.2.1) : zBrA S' b' :=
  zBrA_upd h hW hf hT h1 (fun t2 h9 => Or.inr ⟨by rw [h2], fun n h9 h => by unfold zOwnG at h9; omega⟩) (fun i hi => Or.inr ⟨by rw [h3], fun n h9 h => by unfold zOwnS at h9; omega⟩) (fun i hi => Or.inr ⟨by rw [h4], fun n h9 h => by unfold zOwnH at h9; omega⟩) (fun t2 h12 h2 n h9 h => by unfold zOwnG at h9; omega)
theorem zBrA_C {S : zS} {b : zBr} {q : Nat} {v : Int32} (h : zBrA S b) (hW : zBrW b) : zBrA (zsi S 5 q v) (bC b q v) := zBrA_t h hW (zfr.i (by decide)) (zTop_C h.1) rfl rfl rfl rfl
theorem zBrA_O {S : zS} {b : zBr} {q : Nat} {v : Int32} (h : zBrA S b) (hW : zBrW b) : zBrA (zsi S 6 q v) (bO b q v) := zBrA_t h hW (zfr.i (by decide)) (zTop_O h.1) rfl rfl rfl rfl
theorem zBrW_C {b : zBr} {q : Nat} {v : Int32} (h : zBrW b) (hv : v = -1 ∨ ∃ i, i < 6 ∧ v = nI i) : zBrW (bC b q v) := by
  obtain ⟨v1, v2, v3, v4, v5, v6, v7⟩ := h
  refine ⟨v1, v2, v3, v4, v5, fun j hj => ?_, v7⟩
  show (if j = q then v else b.2.2.2.1 j) = -1 ∨ ∃ i, i < 6 ∧ (if j = q then v else b.2.2.2.1 j) = nI i
  by_cases h9 : j = q
  · rw [if_pos h9]; exact hv
  · rw [if_neg h9]; exact v6 j hj
theorem zBrW_O {b : zBr} {q : Nat} {v : Int32} (h : zBrW b) : zBrW (bO b q v) := h
def zRem (n ex : Nat) : Prop := n < ex ∧ ex ≤ n + 3
/-- what is produced -/
def zPe (u : zSn) (k v : Int32) : zE := (nI 0, k, v, u.1, if u.2.1 = nI 0 then nI 0 else nI 2)
def sProduce (b : zBr) (x y n k v : Int32) : (Nat × Int32) × zBr := zA x 5 ((1, 0), b) fun i => zT b y ((1, 0), b) fun t => if (k < -1 ∨ nI 7 < k) ∨ n < 0 then ((1, 0), b) else if (b.2.2.1 i).1 = -1 then ((2, 0), b) else
  if n.toNatClampNeg < (b.2.2.1 i).2.2.1 t ∧ (b.2.2.1 i).2.2.1 t ≤ n.toNatClampNeg + 3 then
    (if ¬ b.2.2.2.1 (b.2.2.1 i).1.toNatClampNeg = nI i then ((4, 0), b) else ((0, (b.2.2.1 i).2.2.2 (t * 3 + n.toNatClampNeg % 3)), bN b (b.2.2.2.2.2.2.1, b.2.2.2.2.2.2.2.1 + nI 1, b.2.2.2.2.2.2.2.2)))
  else if ¬ n.toNatClampNeg = (b.2.2.1 i).2.2.1 t then ((3, 0), b) else if ¬ b.2.2.2.1 (b.2.2.1 i).1.toNatClampNeg = nI i ∨ ¬ (b.2.1 t).2.1.2 < 60 then ((4, 0), b) else
    ((0, nI (b.2.1 t).2.1.2), bS (bW b t (zPe (b.2.2.1 i) k v)) i ((b.2.2.1 i).1, (b.2.2.1 i).2.1, (fun j => if j = t then (b.2.2.1 i).2.2.1 t + 1 else (b.2.2.1 i).2.2.1 j), fun j => if j = t * 3 + (b.2.2.1 i).2.2.1 t % 3 then nI (b.2.1 t).2.1.2 else (b.2.2.1 i).2.2.2 j))
/-- an argument in lo .. n -/
def zR {α : Type} (x : Int32) (lo n : Nat) (d : α) (k : Nat → α) : α := if x < nI lo ∨ nI n < x then d else k x.toNatClampNeg
theorem zR_n {α : Type} {x : Int32} {lo n : Nat} {d : α} {k : Nat → α} (h : x < nI lo ∨ nI n < x) : zR x lo n d k = d := if_pos h
theorem zR_s {α : Type} {i lo n : Nat} {d : α} {k : Nat → α} (h0 : lo ≤ i) (h : i ≤ n) (hn : n < 2 ^ 31) : zR (nI i) lo n d k = k i := by
  unfold zR
  rw [if_neg (fun q => q.elim (fun q => absurd ((nI_ltI (by omega) (by omega)).mp q) (by omega)) (fun q => absurd ((nI_ltI (by omega) (by omega)).mp q) (by omega))), nI_clamp (by omega)]
/-- topic t with n partitions -/
def bT (b : zBr) (t n z k : Nat) (c : Int32) : zBr := ((fun j => if j = t then n else b.1 j), (fun j => if j / 4 = t ∧ j % 4 < n then ((z, k, c), (0, 0), fun _ => none) else b.2.1 j), b.2.2)
def sTopic (b : zBr) (x n z k : Int32) (c : Int32) : (Nat × Int32) × zBr := zR x 0 2 ((1, 0), b) fun t => zR n 1 3 ((1, 0), b) fun n => zR z 1 4 ((1, 0), b) fun z => zR k 1 5 ((1, 0), b) fun k => if ¬ b.1 t = 0 then ((2, 0), b) else ((0, 0), bT b t n z k c)
/-- names that are not there hold nothing -/
theorem z_zero {p : Program} {l : Launch} {e : Env} {R : Room} {s : State} {m : MethodId} {args : Array Value} {below : List Frame} {meth : Method} {c : Code} {kc ks : Nat} {Q : State → Prop} {D : va_G} {cl : List vw_C} {K : zK} {dA : Nat → ClassId} {A : Nat → Prop} {O : (Nat → Nat) × zS} {nL : Nat} {S : zS} {pc : Nat} {L : List (Nat × Value)} {st : List Value}
    (k : (∀ n, S.1 n = false → ∀ k, S.2.1 n k = 0 ∧ S.2.2.1 n k = none ∧ S.2.2.2 n k = 0) → AW p l e R s m args below meth c D cl K dA A O nL S kc ks Q pc L st) : AW p l e R s m args below meth c D cl K dA A O nL S kc ks Q pc L st := fun ad H locs ls hH hS hl ho => k hH.2.2.1 ad H locs ls hH hS hl ho
theorem zKey {k : Int32} (h1 : ¬ k < -1) (h2 : ¬ nI 7 < k) : k = -1 ∨ ∃ j, j < 8 ∧ k = nI j := by
  by_cases h : k < 0
  · refine Or.inl ?_
    rw [Int32.lt_iff_toInt_lt] at h h1
    rw [← Int32.toInt_inj]
    have e0 : (0 : Int32).toInt = 0 := by decide
    have e1 : (-1 : Int32).toInt = -1 := by decide
    rw [e0] at h
    rw [e1] at h1 ⊢
    omega
  · obtain ⟨j, hj, rfl⟩ := nI_of h
    refine Or.inr ⟨j, ?_, rfl⟩
    rcases Nat.lt_or_ge j 8 with h9 | h9
    · exact h9
    · exact absurd ((nI_ltI (by omega) hj).mpr (show 7 < j by omega)) h2
theorem zEW_pe {u : zSn} {k v : Int32} (h1 : ∃ q, q < 4 ∧ u.1 = nI q) (h2 : k = -1 ∨ ∃ j, j < 8 ∧ k = nI j) : zEW (zPe u k v) := by
  refine ⟨⟨0, by omega, rfl⟩, h2, h1, ?_, fun _ => rfl⟩
  show ∃ k, k < 3 ∧ (if u.2.1 = nI 0 then nI 0 else nI 2) = nI k
  by_cases h : u.2.1 = nI 0
  · rw [if_pos h]; exact ⟨0, by omega, rfl⟩
  · rw [if_neg h]; exact ⟨2, by omega, rfl⟩
