/-! THE ABSTRACT STORE: cells are named by numbers; ad carries a name to its address; the store is four functions: which names are there, their ints, their references (names), their longs. The kind of a name is fixed: an object of a class, or an array of a type and a length. -/
/-- a value by names: its references are names -/
def zv (ad : Nat → Nat) (v : Value) : Value := match v with
  | .ref n => .ref (ad n)
  | w => w
def zq (ad : Nat → Nat) (q : Nat × Value) : Nat × Value := (q.1, zv ad q.2)
theorem zv_cat (ad : Nat → Nat) (v : Value) : (zv ad v).category = v.category := by cases v <;> rfl
theorem zv_rf (ad : Nat → Nat) (r : Option Nat) : zv ad (va_rf r) = va_rf (r.map ad) := by cases r <;> rfl
abbrev zS : Type := (Nat → Bool) × (Nat → Nat → Int32) × (Nat → Nat → Option Nat) × (Nat → Nat → Int64)
/-- the kinds: of a name (class number, or array type and length), whether a field is a reference, how many fields a class has -/
abbrev zK : Type := (Nat → Nat ⊕ (Nat × Nat)) × (Nat → Nat → Bool) × (Nat → Nat)
def z2 {α : Type} (f : Nat → Nat → α) (n k : Nat) (x : α) : Nat → Nat → α := fun a b => if a = n ∧ b = k then x else f a b
theorem z2_s {α : Type} {f : Nat → Nat → α} {n k : Nat} {x : α} : z2 f n k x n k = x := if_pos ⟨rfl, rfl⟩
theorem z2_n {α : Type} {f : Nat → Nat → α} {n k a b : Nat} {x : α} (h : a ≠ n ∨ b ≠ k) : z2 f n k x a b = f a b := if_neg (fun q => h.elim (fun h => h q.1) (fun h => h q.2))
/-- the store with one int, one reference, one long written -/
def zsi (S : zS) (n k : Nat) (x : Int32) : zS := (S.1, z2 S.2.1 n k x, S.2.2)
def zsp (S : zS) (n k : Nat) (r : Option Nat) : zS := (S.1, S.2.1, z2 S.2.2.1 n k r, S.2.2.2)
def zsl (S : zS) (n k : Nat) (x : Int64) : zS := (S.1, S.2.1, S.2.2.1, z2 S.2.2.2 n k x)
def zo (S : zS) (v : Value) : Prop := match v with
  | .ref n => n = 0 ∨ S.1 n = true
  | _ => True
def zok (S : zS) (L : List (Nat × Value)) (st : List Value) : Prop := (∀ q ∈ L, zo S q.2) ∧ ∀ v ∈ st, zo S v
theorem zok.c {S : zS} {L : List (Nat × Value)} {st : List Value} {v : Value} (h : zok S L st) (hv : zo S v) : zok S L (v :: st) := ⟨h.1, fun w hw => (List.mem_cons.mp hw).elim (fun e => by rw [e]; exact hv) (h.2 w)⟩
theorem zok.t {S : zS} {L : List (Nat × Value)} {st : List Value} {v : Value} (h : zok S L (v :: st)) : zok S L st := ⟨h.1, fun w hw => h.2 w (List.mem_cons_of_mem _ hw)⟩
theorem zok.h {S : zS} {L : List (Nat × Value)} {st : List Value} {v : Value} (h : zok S L (v :: st)) : zo S v := h.2 v List.mem_cons_self
theorem zok.l {S : zS} {L : List (Nat × Value)} {st : List Value} (h : zok S L st) {j i : Nat} {v : Value} (hj : L[j]? = some (i, v)) : zo S v := h.1 (i, v) (List.mem_of_getElem? hj)
def zf (i : Nat) : Nat × Value → Bool := fun q => !(q.1 == i) && !(q.1 + 1 == i && q.2.category == 2)
theorem zok.s {S : zS} {L L' : List (Nat × Value)} {st : List Value} {v : Value} {i : Nat} (h : zok S L st) (hv : zo S v) (hl : (i, v) :: L.filter (zf i) = L') : zok S L' st := by
  subst hl
  refine ⟨fun q hq => ?_, h.2⟩
  rcases List.mem_cons.mp hq with rfl | hq
  · exact hv
  · exact h.1 q (List.mem_filter.mp hq).1
theorem zq_at {ad : Nat → Nat} {L : List (Nat × Value)} {j i : Nat} {v : Value} (h : L[j]? = some (i, v)) : (L.map (zq ad))[j]? = some (i, zv ad v) := by
  rw [List.getElem?_map, h]; rfl
theorem zq_filter (ad : Nat → Nat) (i : Nat) (L : List (Nat × Value)) : (L.map (zq ad)).filter (fun q => !(q.1 == i) && !(q.1 + 1 == i && q.2.category == 2)) = (L.filter (zf i)).map (zq ad) := by
  induction L with
  | nil => rfl
  | cons q L ih =>
    have e : (!((zq ad q).1 == i) && !((zq ad q).1 + 1 == i && (zq ad q).2.category == 2)) = zf i q := by
      show (!(q.1 == i) && !(q.1 + 1 == i && (zv ad q.2).category == 2)) = _
      rw [zv_cat]; rfl
    rw [List.map_cons, List.filter_cons, List.filter_cons, e, ih]
    by_cases h : zf i q = true
    · rw [if_pos h, if_pos h, List.map_cons]
    · rw [if_neg h, if_neg h]
theorem zq_store {ad : Nat → Nat} {i : Nat} {v : Value} {L L' : List (Nat × Value)} (hl : (i, v) :: L.filter (zf i) = L') : (i, zv ad v) :: (L.map (zq ad)).filter (fun q => !(q.1 == i) && !(q.1 + 1 == i && q.2.category == 2)) = L'.map (zq ad) := by
  subst hl; rw [zq_filter]; rfl
/-- the fields of an object, the cell of a name -/
def zF (K : zK) (ad : Nat → Nat) (S : zS) (ci n : Nat) : List Value := (List.range (K.2.2 ci)).map (fun k => if K.2.1 ci k = true then va_rf ((S.2.2.1 n k).map ad) else .int (S.2.1 n k))
def zAr (ad : Nat → Nat) (S : zS) (t len n : Nat) : vp_A := (len, if t < 2 then .inl (S.2.1 n) else if t = 2 then .inr (.inl (S.2.2.2 n)) else .inr (.inr (.inr (.inr (fun i => (S.2.2.1 n i).map ad)))))
def zC (K : zK) (dA : Nat → ClassId) (ad : Nat → Nat) (S : zS) (n : Nat) : va_E := match K.1 n with
  | .inl ci => .inr (ci, zF K ad S ci n)
  | .inr (t, len) => .inl (dA t, zAr ad S t len n)
def zW (K : zK) (dA : Nat → ClassId) (ad : Nat → Nat) (S : zS) (dl : List Nat) : va_W := dl.map (fun n => (ad n, zC K dA ad S n))
def zext (ad : Nat → Nat) (S : zS) (ad' : Nat → Nat) (S' : zS) : Prop := (∀ n, S.1 n = true → S'.1 n = true ∧ ad' n = ad n) ∧ ad' 0 = ad 0
theorem zext.rf {ad : Nat → Nat} {S : zS} : zext ad S ad S := ⟨fun _ h => ⟨h, rfl⟩, rfl⟩
theorem zext.tr {a1 a2 a3 : Nat → Nat} {S1 S2 S3 : zS} (h : zext a1 S1 a2 S2) (g : zext a2 S2 a3 S3) : zext a1 S1 a3 S3 := ⟨fun n hn => ⟨(g.1 n (h.1 n hn).1).1, ((g.1 n (h.1 n hn).1).2).trans (h.1 n hn).2⟩, g.2.trans h.2⟩
def zH (D : va_G) (cl : List vw_C) (K : zK) (dA : Nat → ClassId) (A : Nat → Prop) (O : (Nat → Nat) × zS) (ad : Nat → Nat) (S : zS) (H : Heap) : Prop :=
  zext O.1 O.2 ad S ∧ (∀ n k x, S.2.2.1 n k = some x → S.1 x = true) ∧ (∀ n, S.1 n = false → ∀ k, S.2.1 n k = 0 ∧ S.2.2.1 n k = none ∧ S.2.2.2 n k = 0) ∧ S.1 0 = false ∧
  ∃ dl : List Nat, dl.Nodup ∧ (∀ n, n ∈ dl ↔ S.1 n = true) ∧ va_P D cl (zW K dA ad S dl) H ∧ va_D A (zW K dA ad S dl)
theorem zC_o {K : zK} {dA : Nat → ClassId} {ad : Nat → Nat} {S : zS} {n ci : Nat} (h : K.1 n = .inl ci) : zC K dA ad S n = .inr (ci, zF K ad S ci n) := by unfold zC; rw [h]
theorem zC_a {K : zK} {dA : Nat → ClassId} {ad : Nat → Nat} {S : zS} {n t len : Nat} (h : K.1 n = .inr (t, len)) : zC K dA ad S n = .inl (dA t, zAr ad S t len n) := by unfold zC; rw [h]
theorem zW_at {K : zK} {dA : Nat → ClassId} {ad : Nat → Nat} {S : zS} {dl : List Nat} {i n : Nat} (hi : dl[i]? = some n) : (zW K dA ad S dl)[i]? = some (ad n, zC K dA ad S n) := by
  unfold zW; rw [List.getElem?_map, hi]; rfl
theorem zF_i {K : zK} {ad : Nat → Nat} {S : zS} {ci n k : Nat} (hk : k < K.2.2 ci) (h : K.2.1 ci k = false) : (zF K ad S ci n)[k]? = some (.int (S.2.1 n k)) := by
  unfold zF; rw [List.getElem?_map, List.getElem?_range hk]; simp [h]
theorem zF_r {K : zK} {ad : Nat → Nat} {S : zS} {ci n k : Nat} (hk : k < K.2.2 ci) (h : K.2.1 ci k = true) : (zF K ad S ci n)[k]? = some (va_rf ((S.2.2.1 n k).map ad)) := by
  unfold zF; rw [List.getElem?_map, List.getElem?_range hk]; simp [h]
theorem zF_len {K : zK} {ad : Nat → Nat} {S : zS} {ci n : Nat} : (zF K ad S ci n).length = K.2.2 ci := by unfold zF; simp
/-- one cell has changed -/
theorem zW_set {K : zK} {dA : Nat → ClassId} {ad : Nat → Nat} {S S' : zS} {dl : List Nat} {i n : Nat} {e : va_E} (hnd : dl.Nodup) (hi : dl[i]? = some n) (he : e = zC K dA ad S' n) (ho : ∀ q, q ≠ n → zC K dA ad S q = zC K dA ad S' q) : (zW K dA ad S dl).set i (ad n, e) = zW K dA ad S' dl := by
  apply List.ext_getElem?
  intro j
  have hil : i < dl.length := (List.getElem?_eq_some_iff.mp hi).1
  by_cases hj : i = j
  · subst hj
    rw [List.getElem?_set_self (by unfold zW; simpa using hil), zW_at hi, he]
  · rw [List.getElem?_set_ne hj]
    cases hq : dl[j]? with
    | none => unfold zW; rw [List.getElem?_map, List.getElem?_map, hq]; rfl
    | some q =>
      rw [zW_at hq, zW_at hq, ho q]
      intro e9
      subst e9
      exact hj ((List.getElem?_inj hil hnd).mp (hi.trans hq.symm))
theorem zC_oth {K : zK} {dA : Nat → ClassId} {ad : Nat → Nat} {S S' : zS} {q : Nat} (h1 : S.2.1 q = S'.2.1 q) (h2 : S.2.2.1 q = S'.2.2.1 q) (h3 : S.2.2.2 q = S'.2.2.2 q) : zC K dA ad S q = zC K dA ad S' q := by
  unfold zC
  cases K.1 q with
  | inl ci => simp only [zF, h1, h2]
  | inr a => simp only [zAr, h1, h2, h3]
theorem z2_o {α : Type} {f : Nat → Nat → α} {n k q : Nat} {x : α} (h : q ≠ n) : f q = z2 f n k x q := by
  funext b; rw [z2_n (Or.inl h)]
theorem zF_seti {K : zK} {ad : Nat → Nat} {S : zS} {ci n k : Nat} {x : Int32} (h : K.2.1 ci k = false) : (zF K ad S ci n).set k (.int x) = zF K ad (zsi S n k x) ci n := by
  apply List.ext_getElem?
  intro j
  by_cases hj : j < K.2.2 ci
  · by_cases e : k = j
    · subst e
      rw [List.getElem?_set_self (by rw [zF_len]; exact hj), zF_i hj h]
      show _ = some (Value.int (z2 S.2.1 n k x n k)); rw [z2_s]
    · rw [List.getElem?_set_ne e]
      cases hr : K.2.1 ci j with
      | false => rw [zF_i hj hr, zF_i hj hr]; show _ = some (Value.int (z2 S.2.1 n k x n j)); rw [z2_n (Or.inr (Ne.symm e))]
      | true => rw [zF_r hj hr, zF_r hj hr]; rfl
  · rw [List.getElem?_eq_none (by rw [List.length_set, zF_len]; omega), List.getElem?_eq_none (by rw [zF_len]; omega)]
theorem zF_setr {K : zK} {ad : Nat → Nat} {S : zS} {ci n k : Nat} {r : Option Nat} (h : K.2.1 ci k = true) : (zF K ad S ci n).set k (va_rf (r.map ad)) = zF K ad (zsp S n k r) ci n := by
  apply List.ext_getElem?
  intro j
  by_cases hj : j < K.2.2 ci
  · by_cases e : k = j
    · subst e
      rw [List.getElem?_set_self (by rw [zF_len]; exact hj), zF_r hj h]
      show _ = some (va_rf ((z2 S.2.2.1 n k r n k).map ad)); rw [z2_s]
    · rw [List.getElem?_set_ne e]
      cases hr : K.2.1 ci j with
      | false => rw [zF_i hj hr, zF_i hj hr]; rfl
      | true => rw [zF_r hj hr, zF_r hj hr]; show _ = some (va_rf ((z2 S.2.2.1 n k r n j).map ad)); rw [z2_n (Or.inr (Ne.symm e))]
  · rw [List.getElem?_eq_none (by rw [List.length_set, zF_len]; omega), List.getElem?_eq_none (by rw [zF_len]; omega)]
/-- the world after a write: the same names, one cell otherwise -/
theorem zH_wr {D : va_G} {cl : List vw_C} {K : zK} {dA : Nat → ClassId} {A : Nat → Prop} {O : (Nat → Nat) × zS} {ad : Nat → Nat} {S S' : zS} {H H1 : Heap} {dl : List Nat} {i n : Nat} {e : va_E} (hH : zH D cl K dA A O ad S H) (hd1 : S'.1 = S.1) (hn : S.1 n = true)
    (hcl : ∀ a k x, S'.2.2.1 a k = some x → S.1 x = true) (ho : ∀ q, q ≠ n → S'.2.1 q = S.2.1 q ∧ S'.2.2.1 q = S.2.2.1 q ∧ S'.2.2.2 q = S.2.2.2 q) (hnd : dl.Nodup) (hdl : ∀ q, q ∈ dl ↔ S.1 q = true) (hi : dl[i]? = some n) (he : e = zC K dA ad S' n)
    (hP : va_P D cl ((zW K dA ad S dl).set i (ad n, e)) H1) (hD : va_D A ((zW K dA ad S dl).set i (ad n, e))) : zH D cl K dA A O ad S' H1 := by
  obtain ⟨h0, -, hz, h00, -⟩ := hH
  have e1 : (zW K dA ad S dl).set i (ad n, e) = zW K dA ad S' dl := zW_set hnd hi he (fun q hq => zC_oth (ho q hq).1.symm (ho q hq).2.1.symm (ho q hq).2.2.symm)
  rw [e1] at hP hD
  refine ⟨⟨fun a h => ⟨by rw [hd1]; exact (h0.1 a h).1, (h0.1 a h).2⟩, h0.2⟩, fun a k x h => by rw [hd1]; exact hcl a k x h, fun q hq k => ?_, by rw [hd1]; exact h00, dl, hnd, fun q => by rw [hd1]; exact hdl q, hP, hD⟩
  rw [hd1] at hq
  have hqn : q ≠ n := fun e9 => by rw [e9, hn] at hq; cases hq
  obtain ⟨o1, o2, o3⟩ := ho q hqn
  rw [o1, o2, o3]
  exact hz q hq k
def zadd (S : zS) (n : Nat) : zS := (fun q => if q = n then true else S.1 q, S.2)
def zup (ad : Nat → Nat) (n q : Nat) : Nat → Nat := fun x => if x = n then q else ad x
theorem zup_s {ad : Nat → Nat} {n q : Nat} : zup ad n q n = q := if_pos rfl
theorem zup_n {ad : Nat → Nat} {n q x : Nat} (h : x ≠ n) : zup ad n q x = ad x := if_neg h
theorem zadd_s {S : zS} {n : Nat} : (zadd S n).1 n = true := if_pos rfl
theorem zadd_n {S : zS} {n q : Nat} (h : q ≠ n) : (zadd S n).1 q = S.1 q := if_neg h
theorem zadd_t {S : zS} {n q : Nat} (h : S.1 q = true) : (zadd S n).1 q = true := by
  by_cases e : q = n
  · rw [e]; exact zadd_s
  · rw [zadd_n e]; exact h
/-- the map of names has grown: what was there stays -/
theorem zv_ext {ad ad' : Nat → Nat} {S : zS} {v : Value} (hv : zo S v) (h0 : ad' 0 = ad 0) (h : ∀ n, S.1 n = true → ad' n = ad n) : zv ad' v = zv ad v := by
  cases v with
  | ref n =>
    rcases hv with h1 | h1
    · subst h1; show Value.ref _ = Value.ref _; rw [h0]
    · show Value.ref _ = Value.ref _; rw [h n h1]
  | _ => rfl
theorem zq_ext {ad ad' : Nat → Nat} {S : zS} {L : List (Nat × Value)} {st : List Value} (hv : zok S L st) (h0 : ad' 0 = ad 0) (h : ∀ n, S.1 n = true → ad' n = ad n) : L.map (zq ad') = L.map (zq ad) ∧ st.map (zv ad') = st.map (zv ad) :=
  ⟨List.map_congr_left fun q hq => by show (q.1, _) = (q.1, _); rw [zv_ext (hv.1 q hq) h0 h], List.map_congr_left fun v hq => zv_ext (hv.2 v hq) h0 h⟩
theorem zo_mono {S S' : zS} {v : Value} (h : ∀ n, S.1 n = true → S'.1 n = true) (hv : zo S v) : zo S' v := by
  cases v with
  | ref n => exact hv.imp id (h n)
  | _ => trivial
theorem zok_mono {S S' : zS} {L : List (Nat × Value)} {st : List Value} (h : ∀ n, S.1 n = true → S'.1 n = true) (hv : zok S L st) : zok S' L st := ⟨fun q hq => zo_mono h (hv.1 q hq), fun q hq => zo_mono h (hv.2 q hq)⟩
theorem zC_ext {K : zK} {dA : Nat → ClassId} {ad ad' : Nat → Nat} {S : zS} {q : Nat} (hcl : ∀ n k x, S.2.2.1 n k = some x → ad' x = ad x) : zC K dA ad' S q = zC K dA ad S q := by
  have e : ∀ n k, (S.2.2.1 n k).map ad' = (S.2.2.1 n k).map ad := fun n k => by
    cases h : S.2.2.1 n k with
    | none => rfl
    | some x => show some _ = some _; rw [hcl n k x h]
  unfold zC
  cases K.1 q with
  | inl ci => simp only [zF, e]
  | inr a => simp only [zAr, e]
theorem zC_add {K : zK} {dA : Nat → ClassId} {ad : Nat → Nat} {S : zS} {n q : Nat} : zC K dA ad (zadd S n) q = zC K dA ad S q := zC_oth rfl rfl rfl
/-- a new cell, under a name that was free -/
theorem zH_new {D : va_G} {cl : List vw_C} {K : zK} {dA : Nat → ClassId} {A : Nat → Prop} {O : (Nat → Nat) × zS} {ad : Nat → Nat} {S : zS} {H H1 : Heap} {dl : List Nat} {n q : Nat} {e : va_E} (hH : zH D cl K dA A O ad S H) (hn : S.1 n = false) (hn0 : n ≠ 0) (hnd : dl.Nodup) (hdl : ∀ q, q ∈ dl ↔ S.1 q = true)
    (he : e = zC K dA ad S n) (hP : va_P D cl (zW K dA ad S dl ++ [(q, e)]) H1) (hD : va_D A (zW K dA ad S dl ++ [(q, e)])) : zH D cl K dA A O (zup ad n q) (zadd S n) H1 := by
  obtain ⟨h0, hcl, hz, h00, -⟩ := hH
  have hcx : ∀ a k x, S.2.2.1 a k = some x → zup ad n q x = ad x := fun a k x h => zup_n (fun e9 => by have := hcl a k x h; rw [e9, hn] at this; cases this)
  have hnl : n ∉ dl := fun h => by rw [(hdl n).mp h] at hn; cases hn
  have e1 : zW K dA (zup ad n q) (zadd S n) (dl ++ [n]) = zW K dA ad S dl ++ [(q, e)] := by
    unfold zW
    rw [List.map_append]
    congr 1
    · refine List.map_congr_left fun x hx => ?_
      have hxn : x ≠ n := fun e9 => hnl (e9 ▸ hx)
      rw [zup_n hxn, zC_add, zC_ext hcx]
    · show [(zup ad n q n, zC K dA (zup ad n q) (zadd S n) n)] = _
      rw [zup_s, zC_add, zC_ext hcx, he]
  refine ⟨⟨fun a h => ⟨zadd_t (h0.1 a h).1, (zup_n (fun e9 => by have h9 := (h0.1 a h).1; rw [e9, hn] at h9; cases h9)).trans (h0.1 a h).2⟩, (zup_n (Ne.symm hn0)).trans h0.2⟩, fun a k x h => zadd_t (hcl a k x h), fun x hx k => ?_, by rw [zadd_n (Ne.symm hn0)]; exact h00, dl ++ [n], ?_, fun x => ?_, by rw [e1]; exact hP, by rw [e1]; exact hD⟩
  · have hxn : x ≠ n := fun e9 => by rw [e9, zadd_s] at hx; cases hx
    rw [zadd_n hxn] at hx
    exact hz x hx k
  · exact List.nodup_append.mpr ⟨hnd, by simp, fun a ha b hb => by rw [List.mem_singleton.mp hb]; exact fun e9 => hnl (e9 ▸ ha)⟩
  · by_cases e9 : x = n
    · subst e9; simp [zadd_s]
    · rw [zadd_n e9, ← hdl x]; simp [e9]
/-- the walk over the abstract store: whatever the addresses are, the machine goes on from here -/
def AW (p : Program) (l : Launch) (e : Env) (R : Room) (s : State) (m : MethodId) (args : Array Value) (below : List Frame) (meth : Method) (c : Code) (D : va_G) (cl : List vw_C) (K : zK) (dA : Nat → ClassId) (A : Nat → Prop) (O : (Nat → Nat) × zS) (nL : Nat) (S : zS) (kc ks : Nat) (Q : State → Prop) (pc : Nat) (L : List (Nat × Value)) (st : List Value) : Prop :=
  ∀ (ad : Nat → Nat) (H : Heap) (locs : List Loc) (ls : Array Slot), zH D cl K dA A O ad S H → va_S A s.heap H locs → lv_has ls nL (L.map (zq ad)) → zok S L st → W p l e R s m args below meth c H locs kc ks Q (F0 m pc ls (st.map (zv ad)))
/-- what a method's body knows all along -/
def zX (p : Program) (s : State) (m : MethodId) (args : Array Value) (c : Code) (D : va_G) (cl : List vw_C) (K : zK) (A : Nat → Prop) (cc : ByteArray) (nL : Nat) (own : String) (Ts : List Cond) (tys : List (ClassId × FieldType)) (G : (Nat → Prop) → State → Prop) : Prop :=
  p.tables.exec = Jvm.exec ∧ c.code = cc ∧ c.maxLocals = nL ∧ s.vm.findClass own = some m.cls ∧ (∀ w ∈ Ts, w.before args s = true) ∧ va_K D cl tys s ∧ (∀ q, s.heap.size ≤ q → A q) ∧ K.1 0 = .inr (999, 0) ∧ G A s
section ZR
variable {p : Program} {l : Launch} {e : Env} {R : Room} {s : State} {m : MethodId} {args : Array Value} {below : List Frame} {meth : Method} {c : Code} {kc ks : Nat} {Q : State → Prop}
variable {D : va_G} {cl : List vw_C} {K : zK} {dA : Nat → ClassId} {A : Nat → Prop} {O : (Nat → Nat) × zS} {cc : ByteArray} {nL : Nat} {own : String} {Ts : List Cond} {tys : List (ClassId × FieldType)} {G : (Nat → Prop) → State → Prop} {S : zS} {pc : Nat} {L : List (Nat × Value)} {st : List Value}
theorem z_iconst (X : zX p s m args c D cl K A cc nL own Ts tys G) {n : Int} {v : Int32} (hd : decode cc pc = .ok (.iconst n, 1)) (hv : Int32.ofInt n = v) (k : AW p l e R s m args below meth c D cl K dA A O nL S kc ks Q (pc + 1) L (.int v :: st)) : AW p l e R s m args below meth c D cl K dA A O nL S kc ks Q pc L (st) := fun ad H locs ls hH hS hl ho => lv_iconst X.1 X.2.1 hd hv (k ad H locs ls hH hS hl (ho.c trivial))
theorem z_bipush (X : zX p s m args c D cl K A cc nL own Ts tys G) {n : Int} {v : Int32} (hd : decode cc pc = .ok (.bipush n, 2)) (hv : (Int8.ofInt n).toInt32 = v) (k : AW p l e R s m args below meth c D cl K dA A O nL S kc ks Q (pc + 2) L (.int v :: st)) : AW p l e R s m args below meth c D cl K dA A O nL S kc ks Q pc L (st) := fun ad H locs ls hH hS hl ho => lv_bipush X.1 X.2.1 hd hv (k ad H locs ls hH hS hl (ho.c trivial))
theorem z_sipush (X : zX p s m args c D cl K A cc nL own Ts tys G) {n : Int} {v : Int32} (hd : decode cc pc = .ok (.sipush n, 3)) (hv : (Int16.ofInt n).toInt32 = v) (k : AW p l e R s m args below meth c D cl K dA A O nL S kc ks Q (pc + 3) L (.int v :: st)) : AW p l e R s m args below meth c D cl K dA A O nL S kc ks Q pc L (st) := fun ad H locs ls hH hS hl ho => lv_sipush X.1 X.2.1 hd hv (k ad H locs ls hH hS hl (ho.c trivial))
theorem z_null (X : zX p s m args c D cl K A cc nL own Ts tys G)  (hd : decode cc pc = .ok (.aconst_null, 1))  (k : AW p l e R s m args below meth c D cl K dA A O nL S kc ks Q (pc + 1) L (.null :: st)) : AW p l e R s m args below meth c D cl K dA A O nL S kc ks Q pc L (st) := fun ad H locs ls hH hS hl ho => lv_null X.1 X.2.1 hd (k ad H locs ls hH hS hl (ho.c trivial))
theorem z_iadd (X : zX p s m args c D cl K A cc nL own Ts tys G) {x y : Int32} (hd : decode cc pc = .ok (.iadd, 1))  (k : AW p l e R s m args below meth c D cl K dA A O nL S kc ks Q (pc + 1) L (.int (x + y) :: st)) : AW p l e R s m args below meth c D cl K dA A O nL S kc ks Q pc L (.int y :: .int x :: st) := fun ad H locs ls hH hS hl ho => lv_iadd (x := x) (y := y) X.1 X.2.1 hd (k ad H locs ls hH hS hl (ho.t.t.c trivial))
theorem z_isub (X : zX p s m args c D cl K A cc nL own Ts tys G) {x y : Int32} (hd : decode cc pc = .ok (.isub, 1))  (k : AW p l e R s m args below meth c D cl K dA A O nL S kc ks Q (pc + 1) L (.int (x - y) :: st)) : AW p l e R s m args below meth c D cl K dA A O nL S kc ks Q pc L (.int y :: .int x :: st) := fun ad H locs ls hH hS hl ho => lv_isub (x := x) (y := y) X.1 X.2.1 hd (k ad H locs ls hH hS hl (ho.t.t.c trivial))
theorem z_imul (X : zX p s m args c D cl K A cc nL own Ts tys G) {x y : Int32} (hd : decode cc pc = .ok (.imul, 1))  (k : AW p l e R s m args below meth c D cl K dA A O nL S kc ks Q (pc + 1) L (.int (x * y) :: st)) : AW p l e R s m args below meth c D cl K dA A O nL S kc ks Q pc L (.int y :: .int x :: st) := fun ad H locs ls hH hS hl ho => lv_imul (x := x) (y := y) X.1 X.2.1 hd (k ad H locs ls hH hS hl (ho.t.t.c trivial))
theorem z_iand (X : zX p s m args c D cl K A cc nL own Ts tys G) {x y : Int32} (hd : decode cc pc = .ok (.iand, 1))  (k : AW p l e R s m args below meth c D cl K dA A O nL S kc ks Q (pc + 1) L (.int (x &&& y) :: st)) : AW p l e R s m args below meth c D cl K dA A O nL S kc ks Q pc L (.int y :: .int x :: st) := fun ad H locs ls hH hS hl ho => lv_iand (x := x) (y := y) X.1 X.2.1 hd (k ad H locs ls hH hS hl (ho.t.t.c trivial))
theorem z_ior (X : zX p s m args c D cl K A cc nL own Ts tys G) {x y : Int32} (hd : decode cc pc = .ok (.ior, 1))  (k : AW p l e R s m args below meth c D cl K dA A O nL S kc ks Q (pc + 1) L (.int (x ||| y) :: st)) : AW p l e R s m args below meth c D cl K dA A O nL S kc ks Q pc L (.int y :: .int x :: st) := fun ad H locs ls hH hS hl ho => lv_ior (x := x) (y := y) X.1 X.2.1 hd (k ad H locs ls hH hS hl (ho.t.t.c trivial))
theorem z_ixor (X : zX p s m args c D cl K A cc nL own Ts tys G) {x y : Int32} (hd : decode cc pc = .ok (.ixor, 1))  (k : AW p l e R s m args below meth c D cl K dA A O nL S kc ks Q (pc + 1) L (.int (x ^^^ y) :: st)) : AW p l e R s m args below meth c D cl K dA A O nL S kc ks Q pc L (.int y :: .int x :: st) := fun ad H locs ls hH hS hl ho => lv_ixor (x := x) (y := y) X.1 X.2.1 hd (k ad H locs ls hH hS hl (ho.t.t.c trivial))
theorem z_ishl (X : zX p s m args c D cl K A cc nL own Ts tys G) {x y : Int32} (hd : decode cc pc = .ok (.ishl, 1))  (k : AW p l e R s m args below meth c D cl K dA A O nL S kc ks Q (pc + 1) L (.int (x <<< (y &&& 31)) :: st)) : AW p l e R s m args below meth c D cl K dA A O nL S kc ks Q pc L (.int y :: .int x :: st) := fun ad H locs ls hH hS hl ho => lv_ishl (x := x) (y := y) X.1 X.2.1 hd (k ad H locs ls hH hS hl (ho.t.t.c trivial))
theorem z_ishr (X : zX p s m args c D cl K A cc nL own Ts tys G) {x y : Int32} (hd : decode cc pc = .ok (.ishr, 1))  (k : AW p l e R s m args below meth c D cl K dA A O nL S kc ks Q (pc + 1) L (.int (x >>> (y &&& 31)) :: st)) : AW p l e R s m args below meth c D cl K dA A O nL S kc ks Q pc L (.int y :: .int x :: st) := fun ad H locs ls hH hS hl ho => lv_ishr (x := x) (y := y) X.1 X.2.1 hd (k ad H locs ls hH hS hl (ho.t.t.c trivial))
theorem z_idiv (X : zX p s m args c D cl K A cc nL own Ts tys G) {x y : Int32} (hd : decode cc pc = .ok (.idiv, 1)) (hne : ¬ y = 0) (k : AW p l e R s m args below meth c D cl K dA A O nL S kc ks Q (pc + 1) L (.int (x / y) :: st)) : AW p l e R s m args below meth c D cl K dA A O nL S kc ks Q pc L (.int y :: .int x :: st) := fun ad H locs ls hH hS hl ho => lv_idiv (x := x) (y := y) X.1 X.2.1 hd hne (k ad H locs ls hH hS hl (ho.t.t.c trivial))
theorem z_irem (X : zX p s m args c D cl K A cc nL own Ts tys G) {x y : Int32} (hd : decode cc pc = .ok (.irem, 1)) (hne : ¬ y = 0) (k : AW p l e R s m args below meth c D cl K dA A O nL S kc ks Q (pc + 1) L (.int (x - x / y * y) :: st)) : AW p l e R s m args below meth c D cl K dA A O nL S kc ks Q pc L (.int y :: .int x :: st) := fun ad H locs ls hH hS hl ho => lv_irem (x := x) (y := y) X.1 X.2.1 hd hne (k ad H locs ls hH hS hl (ho.t.t.c trivial))
theorem z_ineg (X : zX p s m args c D cl K A cc nL own Ts tys G) {x : Int32} (hd : decode cc pc = .ok (.ineg, 1))  (k : AW p l e R s m args below meth c D cl K dA A O nL S kc ks Q (pc + 1) L (.int (-x) :: st)) : AW p l e R s m args below meth c D cl K dA A O nL S kc ks Q pc L (.int x :: st) := fun ad H locs ls hH hS hl ho => lv_ineg (x := x) X.1 X.2.1 hd (k ad H locs ls hH hS hl (ho.t.c trivial))
theorem z_i2l (X : zX p s m args c D cl K A cc nL own Ts tys G) {x : Int32} {v : Int64} (hd : decode cc pc = .ok (.i2l, 1)) (hv : x.toInt64 = v) (k : AW p l e R s m args below meth c D cl K dA A O nL S kc ks Q (pc + 1) L (.long v :: st)) : AW p l e R s m args below meth c D cl K dA A O nL S kc ks Q pc L (.int x :: st) := fun ad H locs ls hH hS hl ho => lv_i2l (x := x) X.1 X.2.1 hd hv (k ad H locs ls hH hS hl (ho.t.c trivial))
theorem z_lcmp (X : zX p s m args c D cl K A cc nL own Ts tys G) {x y : Int64} (hd : decode cc pc = .ok (.lcmp, 1))  (k : AW p l e R s m args below meth c D cl K dA A O nL S kc ks Q (pc + 1) L (.int (lg_cmp x y) :: st)) : AW p l e R s m args below meth c D cl K dA A O nL S kc ks Q pc L (.long y :: .long x :: st) := fun ad H locs ls hH hS hl ho => W.lcmp (x := x) (y := y) X.1 X.2.1 hd (k ad H locs ls hH hS hl (ho.t.t.c trivial))
theorem z_dup (X : zX p s m args c D cl K A cc nL own Ts tys G) {v : Value} (hd : decode cc pc = .ok (.dup, 1)) (hv : v.category = 1) (k : AW p l e R s m args below meth c D cl K dA A O nL S kc ks Q (pc + 1) L (v :: v :: st)) : AW p l e R s m args below meth c D cl K dA A O nL S kc ks Q pc L (v :: st) := fun ad H locs ls hH hS hl ho => lv_dup (va := zv ad v) X.1 X.2.1 hd ((zv_cat ad v).trans hv) (k ad H locs ls hH hS hl (ho.c ho.h))
theorem z_pop (X : zX p s m args c D cl K A cc nL own Ts tys G) {v : Value} (hd : decode cc pc = .ok (.pop, 1)) (hv : v.category = 1) (k : AW p l e R s m args below meth c D cl K dA A O nL S kc ks Q (pc + 1) L (st)) : AW p l e R s m args below meth c D cl K dA A O nL S kc ks Q pc L (v :: st) := fun ad H locs ls hH hS hl ho => lv_pop (va := zv ad v) X.1 X.2.1 hd ((zv_cat ad v).trans hv) (k ad H locs ls hH hS hl ho.t)
theorem z_dup2 (X : zX p s m args c D cl K A cc nL own Ts tys G) {v w : Value} (hd : decode cc pc = .ok (.dup2, 1)) (hv : v.category = 1) (hw : w.category = 1) (k : AW p l e R s m args below meth c D cl K dA A O nL S kc ks Q (pc + 1) L (v :: w :: v :: w :: st)) : AW p l e R s m args below meth c D cl K dA A O nL S kc ks Q pc L (v :: w :: st) := fun ad H locs ls hH hS hl ho => lv_dup2_11 (va := zv ad v) (vb := zv ad w) X.1 X.2.1 hd ((zv_cat ad v).trans hv) ((zv_cat ad w).trans hw) (k ad H locs ls hH hS hl ((ho.c ho.t.h).c ho.h))
theorem z_dup_x1 (X : zX p s m args c D cl K A cc nL own Ts tys G) {v w : Value} (hd : decode cc pc = .ok (.dup_x1, 1)) (hv : v.category = 1) (hw : w.category = 1) (k : AW p l e R s m args below meth c D cl K dA A O nL S kc ks Q (pc + 1) L (v :: w :: v :: st)) : AW p l e R s m args below meth c D cl K dA A O nL S kc ks Q pc L (v :: w :: st) := fun ad H locs ls hH hS hl ho => lv_dup_x1 (va := zv ad v) (vb := zv ad w) X.1 X.2.1 hd ((zv_cat ad v).trans hv) ((zv_cat ad w).trans hw) (k ad H locs ls hH hS hl (((ho.t.t.c ho.h).c ho.t.h).c ho.h))
theorem z_iload_n (X : zX p s m args c D cl K A cc nL own Ts tys G) {k0 : Fin 4} {i j : Nat} {x : Int32} (hd : decode cc pc = .ok (.iload_n k0, 1)) (hi : (k0 : Nat) = i) (hj : L[j]? = some (i, .int x)) (k : AW p l e R s m args below meth c D cl K dA A O nL S kc ks Q (pc + 1) L (.int x :: st)) : AW p l e R s m args below meth c D cl K dA A O nL S kc ks Q pc L (st) := fun ad H locs ls hH hS hl ho => lv_iload_n (x := x) X.1 X.2.1 hd hi (lv_at hl j (zq_at hj)) (k ad H locs ls hH hS hl (ho.c trivial))
theorem z_iload (X : zX p s m args c D cl K A cc nL own Ts tys G) {i j : Nat} {x : Int32} (hd : decode cc pc = .ok (.iload i, 2)) (hj : L[j]? = some (i, .int x)) (k : AW p l e R s m args below meth c D cl K dA A O nL S kc ks Q (pc + 2) L (.int x :: st)) : AW p l e R s m args below meth c D cl K dA A O nL S kc ks Q pc L (st) := fun ad H locs ls hH hS hl ho => lv_iload (x := x) X.1 X.2.1 hd (lv_at hl j (zq_at hj)) (k ad H locs ls hH hS hl (ho.c trivial))
theorem z_aload_n (X : zX p s m args c D cl K A cc nL own Ts tys G) {k0 : Fin 4} {i j : Nat} {x : Nat} (hd : decode cc pc = .ok (.aload_n k0, 1)) (hi : (k0 : Nat) = i) (hj : L[j]? = some (i, .ref x)) (k : AW p l e R s m args below meth c D cl K dA A O nL S kc ks Q (pc + 1) L (.ref x :: st)) : AW p l e R s m args below meth c D cl K dA A O nL S kc ks Q pc L (st) := fun ad H locs ls hH hS hl ho => lv_aload_n (x := ad x) X.1 X.2.1 hd hi (lv_at hl j (zq_at hj)) (k ad H locs ls hH hS hl (ho.c (ho.l hj)))
theorem z_aload (X : zX p s m args c D cl K A cc nL own Ts tys G) {i j : Nat} {x : Nat} (hd : decode cc pc = .ok (.aload i, 2)) (hj : L[j]? = some (i, .ref x)) (k : AW p l e R s m args below meth c D cl K dA A O nL S kc ks Q (pc + 2) L (.ref x :: st)) : AW p l e R s m args below meth c D cl K dA A O nL S kc ks Q pc L (st) := fun ad H locs ls hH hS hl ho => lv_aload (x := ad x) X.1 X.2.1 hd (lv_at hl j (zq_at hj)) (k ad H locs ls hH hS hl (ho.c (ho.l hj)))
theorem z_istore_n (X : zX p s m args c D cl K A cc nL own Ts tys G) {k0 : Fin 4} {i : Nat} {x : Int32} {L' : List (Nat × Value)} (hd : decode cc pc = .ok (.istore_n k0, 1)) (hi : (k0 : Nat) = i) (hn : i < nL) (hl9 : (i, Value.int x) :: L.filter (zf i) = L') (k : AW p l e R s m args below meth c D cl K dA A O nL S kc ks Q (pc + 1) L' (st)) : AW p l e R s m args below meth c D cl K dA A O nL S kc ks Q pc L (Value.int x :: st) := fun ad H locs ls hH hS hl ho => lv_istore_n (x := x) X.1 X.2.1 hd hi hl hn (zq_store hl9) (fun ls' h' => k ad H locs ls' hH hS h' (ho.t.s ho.h hl9))
theorem z_istore (X : zX p s m args c D cl K A cc nL own Ts tys G) {i : Nat} {x : Int32} {L' : List (Nat × Value)} (hd : decode cc pc = .ok (.istore i, 2))  (hn : i < nL) (hl9 : (i, Value.int x) :: L.filter (zf i) = L') (k : AW p l e R s m args below meth c D cl K dA A O nL S kc ks Q (pc + 2) L' (st)) : AW p l e R s m args below meth c D cl K dA A O nL S kc ks Q pc L (Value.int x :: st) := fun ad H locs ls hH hS hl ho => lv_istore (x := x) X.1 X.2.1 hd hl hn (zq_store hl9) (fun ls' h' => k ad H locs ls' hH hS h' (ho.t.s ho.h hl9))
theorem z_astore_n (X : zX p s m args c D cl K A cc nL own Ts tys G) {k0 : Fin 4} {i : Nat} {x : Nat} {L' : List (Nat × Value)} (hd : decode cc pc = .ok (.astore_n k0, 1)) (hi : (k0 : Nat) = i) (hn : i < nL) (hl9 : (i, Value.ref x) :: L.filter (zf i) = L') (k : AW p l e R s m args below meth c D cl K dA A O nL S kc ks Q (pc + 1) L' (st)) : AW p l e R s m args below meth c D cl K dA A O nL S kc ks Q pc L (Value.ref x :: st) := fun ad H locs ls hH hS hl ho => lv_astore_n (x := ad x) X.1 X.2.1 hd hi hl hn (zq_store hl9) (fun ls' h' => k ad H locs ls' hH hS h' (ho.t.s ho.h hl9))
theorem z_astore (X : zX p s m args c D cl K A cc nL own Ts tys G) {i : Nat} {x : Nat} {L' : List (Nat × Value)} (hd : decode cc pc = .ok (.astore i, 2))  (hn : i < nL) (hl9 : (i, Value.ref x) :: L.filter (zf i) = L') (k : AW p l e R s m args below meth c D cl K dA A O nL S kc ks Q (pc + 2) L' (st)) : AW p l e R s m args below meth c D cl K dA A O nL S kc ks Q pc L (Value.ref x :: st) := fun ad H locs ls hH hS hl ho => lv_astore (x := ad x) X.1 X.2.1 hd hl hn (zq_store hl9) (fun ls' h' => k ad H locs ls' hH hS h' (ho.t.s ho.h hl9))
theorem z_astore_nN (X : zX p s m args c D cl K A cc nL own Ts tys G) {k0 : Fin 4} {i : Nat} {L' : List (Nat × Value)} (hd : decode cc pc = .ok (.astore_n k0, 1)) (hi : (k0 : Nat) = i) (hn : i < nL) (hl9 : (i, Value.null) :: L.filter (zf i) = L') (k : AW p l e R s m args below meth c D cl K dA A O nL S kc ks Q (pc + 1) L' (st)) : AW p l e R s m args below meth c D cl K dA A O nL S kc ks Q pc L (Value.null :: st) := fun ad H locs ls hH hS hl ho => lv_astore_nN X.1 X.2.1 hd hi hl hn (zq_store hl9) (fun ls' h' => k ad H locs ls' hH hS h' (ho.t.s ho.h hl9))
theorem z_astoreN (X : zX p s m args c D cl K A cc nL own Ts tys G) {i : Nat} {L' : List (Nat × Value)} (hd : decode cc pc = .ok (.astore i, 2))  (hn : i < nL) (hl9 : (i, Value.null) :: L.filter (zf i) = L') (k : AW p l e R s m args below meth c D cl K dA A O nL S kc ks Q (pc + 2) L' (st)) : AW p l e R s m args below meth c D cl K dA A O nL S kc ks Q pc L (Value.null :: st) := fun ad H locs ls hH hS hl ho => lv_astoreN X.1 X.2.1 hd hl hn (zq_store hl9) (fun ls' h' => k ad H locs ls' hH hS h' (ho.t.s ho.h hl9))
theorem z_aload_nN (X : zX p s m args c D cl K A cc nL own Ts tys G) {k0 : Fin 4} {i j : Nat} (hd : decode cc pc = .ok (.aload_n k0, 1)) (hi : (k0 : Nat) = i) (hj : L[j]? = some (i, .null)) (k : AW p l e R s m args below meth c D cl K dA A O nL S kc ks Q (pc + 1) L (.null :: st)) : AW p l e R s m args below meth c D cl K dA A O nL S kc ks Q pc L (st) := fun ad H locs ls hH hS hl ho => lv_aload_nN X.1 X.2.1 hd hi (lv_at hl j (zq_at hj)) (k ad H locs ls hH hS hl (ho.c trivial))
theorem z_aloadN (X : zX p s m args c D cl K A cc nL own Ts tys G) {i j : Nat} (hd : decode cc pc = .ok (.aload i, 2)) (hj : L[j]? = some (i, .null)) (k : AW p l e R s m args below meth c D cl K dA A O nL S kc ks Q (pc + 2) L (.null :: st)) : AW p l e R s m args below meth c D cl K dA A O nL S kc ks Q pc L (st) := fun ad H locs ls hH hS hl ho => lv_aloadN X.1 X.2.1 hd (lv_at hl j (zq_at hj)) (k ad H locs ls hH hS hl (ho.c trivial))
theorem z_iinc (X : zX p s m args c D cl K A cc nL own Ts tys G) {i j : Nat} {n : Int} {x v : Int32} {L' : List (Nat × Value)} (hd : decode cc pc = .ok (.iinc i n, 3)) (hj : L[j]? = some (i, .int x)) (hv : x + Int32.ofInt n = v) (hn : i < nL) (hl9 : (i, Value.int v) :: L.filter (zf i) = L') (k : AW p l e R s m args below meth c D cl K dA A O nL S kc ks Q (pc + 3) L' (st)) : AW p l e R s m args below meth c D cl K dA A O nL S kc ks Q pc L (st) := fun ad H locs ls hH hS hl ho => lv_iinc (x := x) (v := v) X.1 X.2.1 hd hl (k := j) (zq_at hj) hv hn (zq_store (v := .int v) hl9) (fun ls' h' => k ad H locs ls' hH hS h' (ho.s (v := .int v) trivial hl9))
theorem z_if_eq (X : zX p s m args c D cl K A cc nL own Ts tys G) {x : Int32} {off : Int} {tgt : Nat} (hd : decode cc pc = .ok (.ifCond .eq off, 3)) (ht : (pc : Int) + off = (tgt : Int)) (kt : x = 0 → AW p l e R s m args below meth c D cl K dA A O nL S kc ks Q tgt L (st)) (kf : ¬ x = 0 → AW p l e R s m args below meth c D cl K dA A O nL S kc ks Q (pc + 3) L (st)) : AW p l e R s m args below meth c D cl K dA A O nL S kc ks Q pc L (.int x :: st) := fun ad H locs ls hH hS hl ho => lv_if_eq (x := x) X.1 X.2.1 hd ht (fun h => kt h ad H locs ls hH hS hl ho.t) (fun h => kf h ad H locs ls hH hS hl ho.t)
theorem z_icmp_eq (X : zX p s m args c D cl K A cc nL own Ts tys G) {x y : Int32} {off : Int} {tgt : Nat} (hd : decode cc pc = .ok (.if_icmp .eq off, 3)) (ht : (pc : Int) + off = (tgt : Int)) (kt : x = y → AW p l e R s m args below meth c D cl K dA A O nL S kc ks Q tgt L (st)) (kf : ¬ x = y → AW p l e R s m args below meth c D cl K dA A O nL S kc ks Q (pc + 3) L (st)) : AW p l e R s m args below meth c D cl K dA A O nL S kc ks Q pc L (.int y :: .int x :: st) := fun ad H locs ls hH hS hl ho => lv_icmp_eq (x := x) (y := y) X.1 X.2.1 hd ht (fun h => kt h ad H locs ls hH hS hl ho.t.t) (fun h => kf h ad H locs ls hH hS hl ho.t.t)
theorem z_if_ne (X : zX p s m args c D cl K A cc nL own Ts tys G) {x : Int32} {off : Int} {tgt : Nat} (hd : decode cc pc = .ok (.ifCond .ne off, 3)) (ht : (pc : Int) + off = (tgt : Int)) (kt : ¬ x = 0 → AW p l e R s m args below meth c D cl K dA A O nL S kc ks Q tgt L (st)) (kf : x = 0 → AW p l e R s m args below meth c D cl K dA A O nL S kc ks Q (pc + 3) L (st)) : AW p l e R s m args below meth c D cl K dA A O nL S kc ks Q pc L (.int x :: st) := fun ad H locs ls hH hS hl ho => lv_if_ne (x := x) X.1 X.2.1 hd ht (fun h => kt h ad H locs ls hH hS hl ho.t) (fun h => kf h ad H locs ls hH hS hl ho.t)
theorem z_icmp_ne (X : zX p s m args c D cl K A cc nL own Ts tys G) {x y : Int32} {off : Int} {tgt : Nat} (hd : decode cc pc = .ok (.if_icmp .ne off, 3)) (ht : (pc : Int) + off = (tgt : Int)) (kt : ¬ x = y → AW p l e R s m args below meth c D cl K dA A O nL S kc ks Q tgt L (st)) (kf : x = y → AW p l e R s m args below meth c D cl K dA A O nL S kc ks Q (pc + 3) L (st)) : AW p l e R s m args below meth c D cl K dA A O nL S kc ks Q pc L (.int y :: .int x :: st) := fun ad H locs ls hH hS hl ho => lv_icmp_ne (x := x) (y := y) X.1 X.2.1 hd ht (fun h => kt h ad H locs ls hH hS hl ho.t.t) (fun h => kf h ad H locs ls hH hS hl ho.t.t)
theorem z_if_lt (X : zX p s m args c D cl K A cc nL own Ts tys G) {x : Int32} {off : Int} {tgt : Nat} (hd : decode cc pc = .ok (.ifCond .lt off, 3)) (ht : (pc : Int) + off = (tgt : Int)) (kt : x < 0 → AW p l e R s m args below meth c D cl K dA A O nL S kc ks Q tgt L (st)) (kf : ¬ x < 0 → AW p l e R s m args below meth c D cl K dA A O nL S kc ks Q (pc + 3) L (st)) : AW p l e R s m args below meth c D cl K dA A O nL S kc ks Q pc L (.int x :: st) := fun ad H locs ls hH hS hl ho => lv_if_lt (x := x) X.1 X.2.1 hd ht (fun h => kt h ad H locs ls hH hS hl ho.t) (fun h => kf h ad H locs ls hH hS hl ho.t)
theorem z_icmp_lt (X : zX p s m args c D cl K A cc nL own Ts tys G) {x y : Int32} {off : Int} {tgt : Nat} (hd : decode cc pc = .ok (.if_icmp .lt off, 3)) (ht : (pc : Int) + off = (tgt : Int)) (kt : x < y → AW p l e R s m args below meth c D cl K dA A O nL S kc ks Q tgt L (st)) (kf : ¬ x < y → AW p l e R s m args below meth c D cl K dA A O nL S kc ks Q (pc + 3) L (st)) : AW p l e R s m args below meth c D cl K dA A O nL S kc ks Q pc L (.int y :: .int x :: st) := fun ad H locs ls hH hS hl ho => lv_icmp_lt (x := x) (y := y) X.1 X.2.1 hd ht (fun h => kt h ad H locs ls hH hS hl ho.t.t) (fun h => kf h ad H locs ls hH hS hl ho.t.t)
theorem z_if_ge (X : zX p s m args c D cl K A cc nL own Ts tys G) {x : Int32} {off : Int} {tgt : Nat} (hd : decode cc pc = .ok (.ifCond .ge off, 3)) (ht : (pc : Int) + off = (tgt : Int)) (kt : 0 ≤ x → AW p l e R s m args below meth c D cl K dA A O nL S kc ks Q tgt L (st)) (kf : ¬ 0 ≤ x → AW p l e R s m args below meth c D cl K dA A O nL S kc ks Q (pc + 3) L (st)) : AW p l e R s m args below meth c D cl K dA A O nL S kc ks Q pc L (.int x :: st) := fun ad H locs ls hH hS hl ho => lv_if_ge (x := x) X.1 X.2.1 hd ht (fun h => kt h ad H locs ls hH hS hl ho.t) (fun h => kf h ad H locs ls hH hS hl ho.t)
theorem z_icmp_ge (X : zX p s m args c D cl K A cc nL own Ts tys G) {x y : Int32} {off : Int} {tgt : Nat} (hd : decode cc pc = .ok (.if_icmp .ge off, 3)) (ht : (pc : Int) + off = (tgt : Int)) (kt : y ≤ x → AW p l e R s m args below meth c D cl K dA A O nL S kc ks Q tgt L (st)) (kf : ¬ y ≤ x → AW p l e R s m args below meth c D cl K dA A O nL S kc ks Q (pc + 3) L (st)) : AW p l e R s m args below meth c D cl K dA A O nL S kc ks Q pc L (.int y :: .int x :: st) := fun ad H locs ls hH hS hl ho => lv_icmp_ge (x := x) (y := y) X.1 X.2.1 hd ht (fun h => kt h ad H locs ls hH hS hl ho.t.t) (fun h => kf h ad H locs ls hH hS hl ho.t.t)
theorem z_if_gt (X : zX p s m args c D cl K A cc nL own Ts tys G) {x : Int32} {off : Int} {tgt : Nat} (hd : decode cc pc = .ok (.ifCond .gt off, 3)) (ht : (pc : Int) + off = (tgt : Int)) (kt : 0 < x → AW p l e R s m args below meth c D cl K dA A O nL S kc ks Q tgt L (st)) (kf : ¬ 0 < x → AW p l e R s m args below meth c D cl K dA A O nL S kc ks Q (pc + 3) L (st)) : AW p l e R s m args below meth c D cl K dA A O nL S kc ks Q pc L (.int x :: st) := fun ad H locs ls hH hS hl ho => lv_if_gt (x := x) X.1 X.2.1 hd ht (fun h => kt h ad H locs ls hH hS hl ho.t) (fun h => kf h ad H locs ls hH hS hl ho.t)
theorem z_icmp_gt (X : zX p s m args c D cl K A cc nL own Ts tys G) {x y : Int32} {off : Int} {tgt : Nat} (hd : decode cc pc = .ok (.if_icmp .gt off, 3)) (ht : (pc : Int) + off = (tgt : Int)) (kt : y < x → AW p l e R s m args below meth c D cl K dA A O nL S kc ks Q tgt L (st)) (kf : ¬ y < x → AW p l e R s m args below meth c D cl K dA A O nL S kc ks Q (pc + 3) L (st)) : AW p l e R s m args below meth c D cl K dA A O nL S kc ks Q pc L (.int y :: .int x :: st) := fun ad H locs ls hH hS hl ho => lv_icmp_gt (x := x) (y := y) X.1 X.2.1 hd ht (fun h => kt h ad H locs ls hH hS hl ho.t.t) (fun h => kf h ad H locs ls hH hS hl ho.t.t)
theorem z_if_le (X : zX p s m args c D cl K A cc nL own Ts tys G) {x : Int32} {off : Int} {tgt : Nat} (hd : decode cc pc = .ok (.ifCond .le off, 3)) (ht : (pc : Int) + off = (tgt : Int)) (kt : x ≤ 0 → AW p l e R s m args below meth c D cl K dA A O nL S kc ks Q tgt L (st)) (kf : ¬ x ≤ 0 → AW p l e R s m args below meth c D cl K dA A O nL S kc ks Q (pc + 3) L (st)) : AW p l e R s m args below meth c D cl K dA A O nL S kc ks Q pc L (.int x :: st) := fun ad H locs ls hH hS hl ho => lv_if_le (x := x) X.1 X.2.1 hd ht (fun h => kt h ad H locs ls hH hS hl ho.t) (fun h => kf h ad H locs ls hH hS hl ho.t)
theorem z_icmp_le (X : zX p s m args c D cl K A cc nL own Ts tys G) {x y : Int32} {off : Int} {tgt : Nat} (hd : decode cc pc = .ok (.if_icmp .le off, 3)) (ht : (pc : Int) + off = (tgt : Int)) (kt : x ≤ y → AW p l e R s m args below meth c D cl K dA A O nL S kc ks Q tgt L (st)) (kf : ¬ x ≤ y → AW p l e R s m args below meth c D cl K dA A O nL S kc ks Q (pc + 3) L (st)) : AW p l e R s m args below meth c D cl K dA A O nL S kc ks Q pc L (.int y :: .int x :: st) := fun ad H locs ls hH hS hl ho => lv_icmp_le (x := x) (y := y) X.1 X.2.1 hd ht (fun h => kt h ad H locs ls hH hS hl ho.t.t) (fun h => kf h ad H locs ls hH hS hl ho.t.t)
theorem z_goto (X : zX p s m args c D cl K A cc nL own Ts tys G) {off : Int} {tgt : Nat} (hd : decode cc pc = .ok (.goto off, 3)) (ht : (pc : Int) + off = (tgt : Int)) (k : AW p l e R s m args below meth c D cl K dA A O nL S kc ks Q tgt L (st)) : AW p l e R s m args below meth c D cl K dA A O nL S kc ks Q pc L (st) := fun ad H locs ls hH hS hl ho => lv_goto X.1 X.2.1 hd ht (k ad H locs ls hH hS hl ho)
theorem z_ifnull (X : zX p s m args c D cl K A cc nL own Ts tys G) {x : Nat} {off : Int} (hd : decode cc pc = .ok (.ifnull off, 3)) (k : AW p l e R s m args below meth c D cl K dA A O nL S kc ks Q (pc + 3) L (st)) : AW p l e R s m args below meth c D cl K dA A O nL S kc ks Q pc L (.ref x :: st) := fun ad H locs ls hH hS hl ho => lv_ifnull (x := ad x) X.1 X.2.1 hd (k ad H locs ls hH hS hl ho.t)
theorem z_ifnullN (X : zX p s m args c D cl K A cc nL own Ts tys G) {off : Int} {tgt : Nat} (hd : decode cc pc = .ok (.ifnull off, 3)) (ht : (pc : Int) + off = (tgt : Int)) (k : AW p l e R s m args below meth c D cl K dA A O nL S kc ks Q tgt L (st)) : AW p l e R s m args below meth c D cl K dA A O nL S kc ks Q pc L (.null :: st) := fun ad H locs ls hH hS hl ho => lv_ifnullN X.1 X.2.1 hd ht (k ad H locs ls hH hS hl ho.t)
theorem z_ifnonnull (X : zX p s m args c D cl K A cc nL own Ts tys G) {x : Nat} {off : Int} {tgt : Nat} (hd : decode cc pc = .ok (.ifnonnull off, 3)) (ht : (pc : Int) + off = (tgt : Int)) (k : AW p l e R s m args below meth c D cl K dA A O nL S kc ks Q tgt L (st)) : AW p l e R s m args below meth c D cl K dA A O nL S kc ks Q pc L (.ref x :: st) := fun ad H locs ls hH hS hl ho => lv_ifnonnull (x := ad x) X.1 X.2.1 hd ht (k ad H locs ls hH hS hl ho.t)
theorem z_ifnonnullN (X : zX p s m args c D cl K A cc nL own Ts tys G) {off : Int} (hd : decode cc pc = .ok (.ifnonnull off, 3)) (k : AW p l e R s m args below meth c D cl K dA A O nL S kc ks Q (pc + 3) L (st)) : AW p l e R s m args below meth c D cl K dA A O nL S kc ks Q pc L (.null :: st) := fun ad H locs ls hH hS hl ho => lv_ifnonnullN X.1 X.2.1 hd (k ad H locs ls hH hS hl ho.t)
theorem z_tableIn (X : zX p s m args c D cl K A cc nL own Ts tys G) {dflt lo hi : Int} {offs : Array Int} {len : Nat} {x : Int32} {off : Int} {tgt : Nat} (hd : decode cc pc = .ok (.tableswitch dflt lo hi offs, len)) (h1 : ¬ x.toInt < lo) (h2 : ¬ hi < x.toInt) (h3 : offs[(x.toInt - lo).toNat]? = some off) (ht : (pc : Int) + off = (tgt : Int)) (k : AW p l e R s m args below meth c D cl K dA A O nL S kc ks Q tgt L (st)) : AW p l e R s m args below meth c D cl K dA A O nL S kc ks Q pc L (.int x :: st) := fun ad H locs ls hH hS hl ho => lv_tableIn (x := x) X.1 X.2.1 hd h1 h2 h3 ht (k ad H locs ls hH hS hl ho.t)
theorem z_tableOut (X : zX p s m args c D cl K A cc nL own Ts tys G) {dflt lo hi : Int} {offs : Array Int} {len : Nat} {x : Int32} {tgt : Nat} (hd : decode cc pc = .ok (.tableswitch dflt lo hi offs, len)) (h : x.toInt < lo ∨ hi < x.toInt) (ht : (pc : Int) + dflt = (tgt : Int)) (k : AW p l e R s m args below meth c D cl K dA A O nL S kc ks Q tgt L (st)) : AW p l e R s m args below meth c D cl K dA A O nL S kc ks Q pc L (.int x :: st) := fun ad H locs ls hH hS hl ho => lv_tableOut (x := x) X.1 X.2.1 hd h ht (k ad H locs ls hH hS hl ho.t)
theorem z_geti (X : zX p s m args c D cl K A cc nL own Ts tys G) {C ref : String} {T : u_T} {N ci index n k : Nat} (hin : ∀ w ∈ u_ws C T N, w ∈ Ts) (hc : cl[ci]? = some (C, T, N)) (hN : K.2.2 ci = N) (hkd : K.1 n = .inl ci) (hk : k < N) (hlk : Cond.fieldLink own index ref (T k).2.1 (T k).2.2.1 ∈ Ts) (hrf : (T k).1 = ref) (hft : K.2.1 ci k = false) (hd : decode cc pc = .ok (.getfield index, 3)) {v : Int32} (hv : S.2.1 n k = v) (kk : AW p l e R s m args below meth c D cl K dA A O nL S kc ks Q (pc + 3) L (.int v :: st)) : AW p l e R s m args below meth c D cl K dA A O nL S kc ks Q pc L (.ref n :: st) := by
  intro ad H locs ls hH hS hl ho
  obtain ⟨h0, hcl, hz, h00, dl, hnd, hdl, hP, hD⟩ := id hH
  have hdm : S.1 n = true := (ho.h).elim (fun e9 => by rw [e9, X.2.2.2.2.2.2.2.1] at hkd; cases hkd) id
  obtain ⟨i, hi⟩ := List.getElem?_of_mem ((hdl n).mpr hdm)
  have he : (zW K dA ad S dl)[i]? = some (ad n, .inr (ci, zF K ad S ci n)) := by rw [zW_at hi, zC_o hkd]
  subst hv
  exact va_get X.1 X.2.1 X.2.2.2.2.1 hin X.2.2.2.1 X.2.2.2.2.2.1 hP i he hc k hk (X.2.2.2.2.1 _ hlk) (fun x9 h9 => by rw [← hrf]; exact h9) (zF_i (by rw [hN]; exact hk) hft) hd (kk ad H locs ls hH hS hl (ho.t.c trivial))
theorem z_getr (X : zX p s m args c D cl K A cc nL own Ts tys G) {C ref : String} {T : u_T} {N ci index n k : Nat} {x : Nat} (hin : ∀ w ∈ u_ws C T N, w ∈ Ts) (hc : cl[ci]? = some (C, T, N)) (hN : K.2.2 ci = N) (hkd : K.1 n = .inl ci) (hk : k < N) (hlk : Cond.fieldLink own index ref (T k).2.1 (T k).2.2.1 ∈ Ts) (hrf : (T k).1 = ref) (hft : K.2.1 ci k = true) (hx : S.2.2.1 n k = some x) (hd : decode cc pc = .ok (.getfield index, 3)) (kk : AW p l e R s m args below meth c D cl K dA A O nL S kc ks Q (pc + 3) L (.ref x :: st)) : AW p l e R s m args below meth c D cl K dA A O nL S kc ks Q pc L (.ref n :: st) := by
  intro ad H locs ls hH hS hl ho
  obtain ⟨h0, hcl, hz, h00, dl, hnd, hdl, hP, hD⟩ := id hH
  have hdm : S.1 n = true := (ho.h).elim (fun e9 => by rw [e9, X.2.2.2.2.2.2.2.1] at hkd; cases hkd) id
  obtain ⟨i, hi⟩ := List.getElem?_of_mem ((hdl n).mpr hdm)
  have he : (zW K dA ad S dl)[i]? = some (ad n, .inr (ci, zF K ad S ci n)) := by rw [zW_at hi, zC_o hkd]
  have h9 := zF_r (ad := ad) (S := S) (n := n) (by rw [hN]; exact hk) hft
  rw [hx] at h9
  exact va_get X.1 X.2.1 X.2.2.2.2.1 hin X.2.2.2.1 X.2.2.2.2.2.1 hP i he hc k hk (X.2.2.2.2.1 _ hlk) (fun x9 h9 => by rw [← hrf]; exact h9) h9 hd (kk ad H locs ls hH hS hl (ho.t.c (Or.inr (hcl n k x hx))))
theorem z_getn (X : zX p s m args c D cl K A cc nL own Ts tys G) {C ref : String} {T : u_T} {N ci index n k : Nat} (hin : ∀ w ∈ u_ws C T N, w ∈ Ts) (hc : cl[ci]? = some (C, T, N)) (hN : K.2.2 ci = N) (hkd : K.1 n = .inl ci) (hk : k < N) (hlk : Cond.fieldLink own index ref (T k).2.1 (T k).2.2.1 ∈ Ts) (hrf : (T k).1 = ref) (hft : K.2.1 ci k = true) (hx : S.2.2.1 n k = none) (hd : decode cc pc = .ok (.getfield index, 3)) (kk : AW p l e R s m args below meth c D cl K dA A O nL S kc ks Q (pc + 3) L (.null :: st)) : AW p l e R s m args below meth c D cl K dA A O nL S kc ks Q pc L (.ref n :: st) := by
  intro ad H locs ls hH hS hl ho
  obtain ⟨h0, hcl, hz, h00, dl, hnd, hdl, hP, hD⟩ := id hH
  have hdm : S.1 n = true := (ho.h).elim (fun e9 => by rw [e9, X.2.2.2.2.2.2.2.1] at hkd; cases hkd) id
  obtain ⟨i, hi⟩ := List.getElem?_of_mem ((hdl n).mpr hdm)
  have he : (zW K dA ad S dl)[i]? = some (ad n, .inr (ci, zF K ad S ci n)) := by rw [zW_at hi, zC_o hkd]
  have h9 := zF_r (ad := ad) (S := S) (n := n) (by rw [hN]; exact hk) hft
  rw [hx] at h9
  exact va_get X.1 X.2.1 X.2.2.2.2.1 hin X.2.2.2.1 X.2.2.2.2.2.1 hP i he hc k hk (X.2.2.2.2.1 _ hlk) (fun x9 h9 => by rw [← hrf]; exact h9) h9 hd (kk ad H locs ls hH hS hl (ho.t.c trivial))
theorem z_puti (X : zX p s m args c D cl K A cc nL own Ts tys G) {C ref : String} {T : u_T} {N ci index n k : Nat} {x : Int32} {ty : FieldType} (hin : ∀ w ∈ u_ws C T N, w ∈ Ts) (hc : cl[ci]? = some (C, T, N)) (hN : K.2.2 ci = N) (hkd : K.1 n = .inl ci) (hk : k < N) (hlk : Cond.fieldLink own index ref (T k).2.1 (T k).2.2.1 ∈ Ts) (hrf : (T k).1 = ref) (ty0 : Nat → FieldType) (hty : ∀ k, k < N → parseFieldDescriptor (T k).2.2.1 = some (ty0 k)) (hnm : ∀ a, a < N → ∀ b, b < N → a ≠ b → (T a).2.1 ≠ (T b).2.1) (hfin : (T k).2.2.2 = false) (hft : K.2.1 ci k = false) (hpd : parseFieldDescriptor (T k).2.2.1 = some ty) (hnr : narrow ty (.int x) = .int x) (hfi : fits ty (.int x) = true) (hd : decode cc pc = .ok (.putfield index, 3)) (kk : AW p l e R s m args below meth c D cl K dA A O nL (zsi S n k x) kc ks Q (pc + 3) L (st)) : AW p l e R s m args below meth c D cl K dA A O nL S kc ks Q pc L (.int x :: .ref n :: st) := by
  intro ad H locs ls hH hS hl ho
  obtain ⟨h0, hcl, hz, h00, dl, hnd, hdl, hP, hD⟩ := id hH
  have hdm : S.1 n = true := (ho.t.h).elim (fun e9 => by rw [e9, X.2.2.2.2.2.2.2.1] at hkd; cases hkd) id
  obtain ⟨i, hi⟩ := List.getElem?_of_mem ((hdl n).mpr hdm)
  have he : (zW K dA ad S dl)[i]? = some (ad n, .inr (ci, zF K ad S ci n)) := by rw [zW_at hi, zC_o hkd]
  exact va_put X.1 X.2.1 X.2.2.2.2.1 hin ty0 hty hnm X.2.2.2.1 X.2.2.2.2.2.1 hP hD hS i he hc k hk (X.2.2.2.2.1 _ hlk) (fun x9 h9 => by rw [← hrf]; exact h9) hfin (v := .int x) hpd hnr hfi (by rw [zF_len, hN]; exact hk) hd (fun H1 locs1 hP1 hD1 hS1 => kk ad H1 locs1 ls (zH_wr (S' := (zsi S n k x)) hH rfl hdm (hcl) (fun q hq => ⟨(z2_o hq).symm, rfl, rfl⟩) hnd hdl hi (by rw [zC_o hkd, zF_seti hft]) hP1 hD1) hS1 hl (show zok (zsi S n k x) L st from ho.t.t))
theorem z_putiF (X : zX p s m args c D cl K A cc nL own Ts tys G) {C ref : String} {T : u_T} {N ci index n k : Nat} {x : Int32} {ty : FieldType} (hin : ∀ w ∈ u_ws C T N, w ∈ Ts) (hc : cl[ci]? = some (C, T, N)) (hN : K.2.2 ci = N) (hkd : K.1 n = .inl ci) (hk : k < N) (hlk : Cond.fieldLink own index ref (T k).2.1 (T k).2.2.1 ∈ Ts) (hrf : (T k).1 = ref) (ty0 : Nat → FieldType) (hty : ∀ k, k < N → parseFieldDescriptor (T k).2.2.1 = some (ty0 k)) (hnm : ∀ a, a < N → ∀ b, b < N → a ≠ b → (T a).2.1 ≠ (T b).2.1) (hfin : (T k).2.2.2 = true) (hin2 : meth.name = "<init>") (hdecl : (T k).1 = own) (hft : K.2.1 ci k = false) (hpd : parseFieldDescriptor (T k).2.2.1 = some ty) (hnr : narrow ty (.int x) = .int x) (hfi : fits ty (.int x) = true) (hd : decode cc pc = .ok (.putfield index, 3)) (kk : AW p l e R s m args below meth c D cl K dA A O nL (zsi S n k x) kc ks Q (pc + 3) L (st)) : AW p l e R s m args below meth c D cl K dA A O nL S kc ks Q pc L (.int x :: .ref n :: st) := by
  intro ad H locs ls hH hS hl ho
  obtain ⟨h0, hcl, hz, h00, dl, hnd, hdl, hP, hD⟩ := id hH
  have hdm : S.1 n = true := (ho.t.h).elim (fun e9 => by rw [e9, X.2.2.2.2.2.2.2.1] at hkd; cases hkd) id
  obtain ⟨i, hi⟩ := List.getElem?_of_mem ((hdl n).mpr hdm)
  have he : (zW K dA ad S dl)[i]? = some (ad n, .inr (ci, zF K ad S ci n)) := by rw [zW_at hi, zC_o hkd]
  exact va_putF X.1 X.2.1 X.2.2.2.2.1 hin ty0 hty hnm X.2.2.2.1 X.2.2.2.2.2.1 hP hD hS i he hc k hk (X.2.2.2.2.1 _ hlk) (fun x9 h9 => by rw [← hrf]; exact h9) hfin hin2 hdecl (v := .int x) hpd hnr hfi (by rw [zF_len, hN]; exact hk) hd (fun H1 locs1 hP1 hD1 hS1 => kk ad H1 locs1 ls (zH_wr (S' := (zsi S n k x)) hH rfl hdm (hcl) (fun q hq => ⟨(z2_o hq).symm, rfl, rfl⟩) hnd hdl hi (by rw [zC_o hkd, zF_seti hft]) hP1 hD1) hS1 hl (show zok (zsi S n k x) L st from ho.t.t))
theorem z_putr (X : zX p s m args c D cl K A cc nL own Ts tys G) {C ref : String} {T : u_T} {N ci index n k : Nat} {x : Nat} {cn : String} (hin : ∀ w ∈ u_ws C T N, w ∈ Ts) (hc : cl[ci]? = some (C, T, N)) (hN : K.2.2 ci = N) (hkd : K.1 n = .inl ci) (hk : k < N) (hlk : Cond.fieldLink own index ref (T k).2.1 (T k).2.2.1 ∈ Ts) (hrf : (T k).1 = ref) (ty0 : Nat → FieldType) (hty : ∀ k, k < N → parseFieldDescriptor (T k).2.2.1 = some (ty0 k)) (hnm : ∀ a, a < N → ∀ b, b < N → a ≠ b → (T a).2.1 ≠ (T b).2.1) (hfin : (T k).2.2.2 = false) (hft : K.2.1 ci k = true) (hpd : parseFieldDescriptor (T k).2.2.1 = some (.object cn) ∨ ∃ t, parseFieldDescriptor (T k).2.2.1 = some (.array t)) (hx0 : x ≠ 0) (hd : decode cc pc = .ok (.putfield index, 3)) (kk : AW p l e R s m args below meth c D cl K dA A O nL (zsp S n k (some x)) kc ks Q (pc + 3) L (st)) : AW p l e R s m args below meth c D cl K dA A O nL S kc ks Q pc L (.ref x :: .ref n :: st) := by
  intro ad H locs ls hH hS hl ho
  obtain ⟨h0, hcl, hz, h00, dl, hnd, hdl, hP, hD⟩ := id hH
  have hdm : S.1 n = true := (ho.t.h).elim (fun e9 => by rw [e9, X.2.2.2.2.2.2.2.1] at hkd; cases hkd) id
  obtain ⟨i, hi⟩ := List.getElem?_of_mem ((hdl n).mpr hdm)
  have he : (zW K dA ad S dl)[i]? = some (ad n, .inr (ci, zF K ad S ci n)) := by rw [zW_at hi, zC_o hkd]
  rcases hpd with hpd | ⟨t9, hpd⟩
  · exact va_put X.1 X.2.1 X.2.2.2.2.1 hin ty0 hty hnm X.2.2.2.1 X.2.2.2.2.2.1 hP hD hS i he hc k hk (X.2.2.2.2.1 _ hlk) (fun x9 h9 => by rw [← hrf]; exact h9) hfin (v := .ref (ad x)) hpd rfl rfl (by rw [zF_len, hN]; exact hk) hd (fun H1 locs1 hP1 hD1 hS1 => kk ad H1 locs1 ls (zH_wr (S' := (zsp S n k (some x))) hH rfl hdm (fun a9 k9 x9 h9 => by
    by_cases e9 : a9 = n ∧ k9 = k
    · have h8 : some x = some x9 := by rw [← h9]; show some x = z2 S.2.2.1 n k (some x) a9 k9; rw [e9.1, e9.2, z2_s]
      cases h8
      exact (ho.h).elim (fun e8 => absurd e8 hx0) id
    · exact hcl a9 k9 x9 (by rw [← h9]; show _ = z2 S.2.2.1 n k (some x) a9 k9; unfold z2; rw [if_neg e9])) (fun q hq => ⟨rfl, (z2_o hq).symm, rfl⟩) hnd hdl hi (by rw [zC_o hkd]; exact congrArg (fun z => Sum.inr (ci, z)) (zF_setr (r := some x) hft)) hP1 hD1) hS1 hl (show zok (zsp S n k (some x)) L st from ho.t.t))
  · exact va_put X.1 X.2.1 X.2.2.2.2.1 hin ty0 hty hnm X.2.2.2.1 X.2.2.2.2.2.1 hP hD hS i he hc k hk (X.2.2.2.2.1 _ hlk) (fun x9 h9 => by rw [← hrf]; exact h9) hfin (v := .ref (ad x)) hpd rfl rfl (by rw [zF_len, hN]; exact hk) hd (fun H1 locs1 hP1 hD1 hS1 => kk ad H1 locs1 ls (zH_wr (S' := (zsp S n k (some x))) hH rfl hdm (fun a9 k9 x9 h9 => by
    by_cases e9 : a9 = n ∧ k9 = k
    · have h8 : some x = some x9 := by rw [← h9]; show some x = z2 S.2.2.1 n k (some x) a9 k9; rw [e9.1, e9.2, z2_s]
      cases h8
      exact (ho.h).elim (fun e8 => absurd e8 hx0) id
    · exact hcl a9 k9 x9 (by rw [← h9]; show _ = z2 S.2.2.1 n k (some x) a9 k9; unfold z2; rw [if_neg e9])) (fun q hq => ⟨rfl, (z2_o hq).symm, rfl⟩) hnd hdl hi (by rw [zC_o hkd]; exact congrArg (fun z => Sum.inr (ci, z)) (zF_setr (r := some x) hft)) hP1 hD1) hS1 hl (show zok (zsp S n k (some x)) L st from ho.t.t))
theorem z_putrF (X : zX p s m args c D cl K A cc nL own Ts tys G) {C ref : String} {T : u_T} {N ci index n k : Nat} {x : Nat} {cn : String} (hin : ∀ w ∈ u_ws C T N, w ∈ Ts) (hc : cl[ci]? = some (C, T, N)) (hN : K.2.2 ci = N) (hkd : K.1 n = .inl ci) (hk : k < N) (hlk : Cond.fieldLink own index ref (T k).2.1 (T k).2.2.1 ∈ Ts) (hrf : (T k).1 = ref) (ty0 : Nat → FieldType) (hty : ∀ k, k < N → parseFieldDescriptor (T k).2.2.1 = some (ty0 k)) (hnm : ∀ a, a < N → ∀ b, b < N → a ≠ b → (T a).2.1 ≠ (T b).2.1) (hfin : (T k).2.2.2 = true) (hin2 : meth.name = "<init>") (hdecl : (T k).1 = own) (hft : K.2.1 ci k = true) (hpd : parseFieldDescriptor (T k).2.2.1 = some (.object cn) ∨ ∃ t, parseFieldDescriptor (T k).2.2.1 = some (.array t)) (hx0 : x ≠ 0) (hd : decode cc pc = .ok (.putfield index, 3)) (kk : AW p l e R s m args below meth c D cl K dA A O nL (zsp S n k (some x)) kc ks Q (pc + 3) L (st)) : AW p l e R s m args below meth c D cl K dA A O nL S kc ks Q pc L (.ref x :: .ref n :: st) := by
  intro ad H locs ls hH hS hl ho
  obtain ⟨h0, hcl, hz, h00, dl, hnd, hdl, hP, hD⟩ := id hH
  have hdm : S.1 n = true := (ho.t.h).elim (fun e9 => by rw [e9, X.2.2.2.2.2.2.2.1] at hkd; cases hkd) id
  obtain ⟨i, hi⟩ := List.getElem?_of_mem ((hdl n).mpr hdm)
  have he : (zW K dA ad S dl)[i]? = some (ad n, .inr (ci, zF K ad S ci n)) := by rw [zW_at hi, zC_o hkd]
  rcases hpd with hpd | ⟨t9, hpd⟩
  · exact va_putF X.1 X.2.1 X.2.2.2.2.1 hin ty0 hty hnm X.2.2.2.1 X.2.2.2.2.2.1 hP hD hS i he hc k hk (X.2.2.2.2.1 _ hlk) (fun x9 h9 => by rw [← hrf]; exact h9) hfin hin2 hdecl (v := .ref (ad x)) hpd rfl rfl (by rw [zF_len, hN]; exact hk) hd (fun H1 locs1 hP1 hD1 hS1 => kk ad H1 locs1 ls (zH_wr (S' := (zsp S n k (some x))) hH rfl hdm (fun a9 k9 x9 h9 => by
    by_cases e9 : a9 = n ∧ k9 = k
    · have h8 : some x = some x9 := by rw [← h9]; show some x = z2 S.2.2.1 n k (some x) a9 k9; rw [e9.1, e9.2, z2_s]
      cases h8
      exact (ho.h).elim (fun e8 => absurd e8 hx0) id
    · exact hcl a9 k9 x9 (by rw [← h9]; show _ = z2 S.2.2.1 n k (some x) a9 k9; unfold z2; rw [if_neg e9])) (fun q hq => ⟨rfl, (z2_o hq).symm, rfl⟩) hnd hdl hi (by rw [zC_o hkd]; exact congrArg (fun z => Sum.inr (ci, z)) (zF_setr (r := some x) hft)) hP1 hD1) hS1 hl (show zok (zsp S n k (some x)) L st from ho.t.t))
  · exact va_putF X.1 X.2.1 X.2.2.2.2.1 hin ty0 hty hnm X.2.2.2.1 X.2.2.2.2.2.1 hP hD hS i he hc k hk (X.2.2.2.2.1 _ hlk) (fun x9 h9 => by rw [← hrf]; exact h9) hfin hin2 hdecl (v := .ref (ad x)) hpd rfl rfl (by rw [zF_len, hN]; exact hk) hd (fun H1 locs1 hP1 hD1 hS1 => kk ad H1 locs1 ls (zH_wr (S' := (zsp S n k (some x))) hH rfl hdm (fun a9 k9 x9 h9 => by
    by_cases e9 : a9 = n ∧ k9 = k
    · have h8 : some x = some x9 := by rw [← h9]; show some x = z2 S.2.2.1 n k (some x) a9 k9; rw [e9.1, e9.2, z2_s]
      cases h8
      exact (ho.h).elim (fun e8 => absurd e8 hx0) id
    · exact hcl a9 k9 x9 (by rw [← h9]; show _ = z2 S.2.2.1 n k (some x) a9 k9; unfold z2; rw [if_neg e9])) (fun q hq => ⟨rfl, (z2_o hq).symm, rfl⟩) hnd hdl hi (by rw [zC_o hkd]; exact congrArg (fun z => Sum.inr (ci, z)) (zF_setr (r := some x) hft)) hP1 hD1) hS1 hl (show zok (zsp S n k (some x)) L st from ho.t.t))
theorem z_iald (X : zX p s m args c D cl K A cc nL own Ts tys G) {n len t0 j9 : Nat} {v : Int32} (hkd : K.1 n = .inr (0, len)) (ht : tys[t0]? = some (dA 0, .int)) (hj : j9 < len) (hlen : len < 2 ^ 31) (hd : decode cc pc = .ok (.iaload, 1)) (hv : S.2.1 n j9 = v) (kk : AW p l e R s m args below meth c D cl K dA A O nL S kc ks Q (pc + 1) L (.int v :: st)) : AW p l e R s m args below meth c D cl K dA A O nL S kc ks Q pc L (.int (nI j9) :: .ref n :: st) := by
  intro ad H locs ls hH hS hl ho
  obtain ⟨h0, hcl, hz, h00, dl, hnd, hdl, hP, hD⟩ := id hH
  have ht9 : ¬ (999 = 0) := by decide
  have hdm : S.1 n = true := (ho.t.h).elim (fun e9 => by rw [e9, X.2.2.2.2.2.2.2.1] at hkd; exact absurd (congrArg Prod.fst (Sum.inr.inj hkd)) ht9) id
  obtain ⟨i, hi⟩ := List.getElem?_of_mem ((hdl n).mpr hdm)
  subst hv
  exact va_iald (cA := dA 0) (f := S.2.1 n) X.1 X.2.1 X.2.2.2.2.2.1 hP i t0 (by rw [zW_at hi, zC_a hkd]; rfl) ht (vp_in_nI hj hlen) hd (by rw [nI_clamp (Nat.lt_trans hj hlen)]; exact kk ad H locs ls hH hS hl (ho.t.t.c trivial))
theorem z_zald (X : zX p s m args c D cl K A cc nL own Ts tys G) {n len t0 j9 : Nat} {v : Int32} (hkd : K.1 n = .inr (1, len)) (ht : tys[t0]? = some (dA 1, .boolean)) (hj : j9 < len) (hlen : len < 2 ^ 31) (hd : decode cc pc = .ok (.baload, 1)) (hv : S.2.1 n j9 = v) (kk : AW p l e R s m args below meth c D cl K dA A O nL S kc ks Q (pc + 1) L (.int v :: st)) : AW p l e R s m args below meth c D cl K dA A O nL S kc ks Q pc L (.int (nI j9) :: .ref n :: st) := by
  intro ad H locs ls hH hS hl ho
  obtain ⟨h0, hcl, hz, h00, dl, hnd, hdl, hP, hD⟩ := id hH
  have ht9 : ¬ (999 = 1) := by decide
  have hdm : S.1 n = true := (ho.t.h).elim (fun e9 => by rw [e9, X.2.2.2.2.2.2.2.1] at hkd; exact absurd (congrArg Prod.fst (Sum.inr.inj hkd)) ht9) id
  obtain ⟨i, hi⟩ := List.getElem?_of_mem ((hdl n).mpr hdm)
  subst hv
  exact va_zald (cA := dA 1) (f := S.2.1 n) X.1 X.2.1 X.2.2.2.2.2.1 hP i t0 (by rw [zW_at hi, zC_a hkd]; rfl) ht (vp_in_nI hj hlen) hd (by rw [nI_clamp (Nat.lt_trans hj hlen)]; exact kk ad H locs ls hH hS hl (ho.t.t.c trivial))
theorem z_lald (X : zX p s m args c D cl K A cc nL own Ts tys G) {n len t0 j9 : Nat} {v : Int64} (hkd : K.1 n = .inr (2, len)) (ht : tys[t0]? = some (dA 2, .long)) (hj : j9 < len) (hlen : len < 2 ^ 31) (hd : decode cc pc = .ok (.laload, 1)) (hv : S.2.2.2 n j9 = v) (kk : AW p l e R s m args below meth c D cl K dA A O nL S kc ks Q (pc + 1) L (.long v :: st)) : AW p l e R s m args below meth c D cl K dA A O nL S kc ks Q pc L (.int (nI j9) :: .ref n :: st) := by
  intro ad H locs ls hH hS hl ho
  obtain ⟨h0, hcl, hz, h00, dl, hnd, hdl, hP, hD⟩ := id hH
  have ht9 : ¬ (999 = 2) := by decide
  have hdm : S.1 n = true := (ho.t.h).elim (fun e9 => by rw [e9, X.2.2.2.2.2.2.2.1] at hkd; exact absurd (congrArg Prod.fst (Sum.inr.inj hkd)) ht9) id
  obtain ⟨i, hi⟩ := List.getElem?_of_mem ((hdl n).mpr hdm)
  subst hv
  exact va_lald (cA := dA 2) (f := S.2.2.2 n) X.1 X.2.1 X.2.2.2.2.2.1 hP i t0 (by rw [zW_at hi, zC_a hkd]; rfl) ht (vp_in_nI hj hlen) hd (by rw [nI_clamp (Nat.lt_trans hj hlen)]; exact kk ad H locs ls hH hS hl (ho.t.t.c trivial))
theorem z_aald (X : zX p s m args c D cl K A cc nL own Ts tys G) {n len t0 t j9 : Nat} {C : String} {x : Nat} (hkd : K.1 n = .inr (t, len)) (ht9 : ¬ 999 = t) (ht0 : ¬ t < 2) (ht1 : ¬ t = 2) (ht : tys[t0]? = some (dA t, .object C)) (hj : j9 < len) (hlen : len < 2 ^ 31) (hx : S.2.2.1 n j9 = some x) (hd : decode cc pc = .ok (.aaload, 1)) (kk : AW p l e R s m args below meth c D cl K dA A O nL S kc ks Q (pc + 1) L (.ref x :: st)) : AW p l e R s m args below meth c D cl K dA A O nL S kc ks Q pc L (.int (nI j9) :: .ref n :: st) := by
  intro ad H locs ls hH hS hl ho
  obtain ⟨h0, hcl, hz, h00, dl, hnd, hdl, hP, hD⟩ := id hH
  have hdm : S.1 n = true := (ho.t.h).elim (fun e9 => by rw [e9, X.2.2.2.2.2.2.2.1] at hkd; exact absurd (congrArg Prod.fst (Sum.inr.inj hkd)) ht9) id
  obtain ⟨i, hi⟩ := List.getElem?_of_mem ((hdl n).mpr hdm)
  have hq9 : zAr ad S t len n = (len, .inr (.inr (.inr (.inr (fun j => (S.2.2.1 n j).map ad))))) := by unfold zAr; rw [if_neg ht0, if_neg ht1]
  exact va_aldq (cA := dA t) (f := fun j => (S.2.2.1 n j).map ad) X.1 X.2.1 X.2.2.2.2.2.1 hP i t0 (by rw [zW_at hi, zC_a hkd, hq9]) ht (vp_in_nI hj hlen) hd (by rw [nI_clamp (Nat.lt_trans hj hlen), hx]; exact kk ad H locs ls hH hS hl (ho.t.t.c (Or.inr (hcl n _ x hx))))
theorem z_aaldN (X : zX p s m args c D cl K A cc nL own Ts tys G) {n len t0 t j9 : Nat} {C : String} (hkd : K.1 n = .inr (t, len)) (ht9 : ¬ 999 = t) (ht0 : ¬ t < 2) (ht1 : ¬ t = 2) (ht : tys[t0]? = some (dA t, .object C)) (hj : j9 < len) (hlen : len < 2 ^ 31) (hx : S.2.2.1 n j9 = none) (hd : decode cc pc = .ok (.aaload, 1)) (kk : AW p l e R s m args below meth c D cl K dA A O nL S kc ks Q (pc + 1) L (.null :: st)) : AW p l e R s m args below meth c D cl K dA A O nL S kc ks Q pc L (.int (nI j9) :: .ref n :: st) := by
  intro ad H locs ls hH hS hl ho
  obtain ⟨h0, hcl, hz, h00, dl, hnd, hdl, hP, hD⟩ := id hH
  have hdm : S.1 n = true := (ho.t.h).elim (fun e9 => by rw [e9, X.2.2.2.2.2.2.2.1] at hkd; exact absurd (congrArg Prod.fst (Sum.inr.inj hkd)) ht9) id
  obtain ⟨i, hi⟩ := List.getElem?_of_mem ((hdl n).mpr hdm)
  have hq9 : zAr ad S t len n = (len, .inr (.inr (.inr (.inr (fun j => (S.2.2.1 n j).map ad))))) := by unfold zAr; rw [if_neg ht0, if_neg ht1]
  exact va_aldq (cA := dA t) (f := fun j => (S.2.2.1 n j).map ad) X.1 X.2.1 X.2.2.2.2.2.1 hP i t0 (by rw [zW_at hi, zC_a hkd, hq9]) ht (vp_in_nI hj hlen) hd (by rw [nI_clamp (Nat.lt_trans hj hlen), hx]; exact kk ad H locs ls hH hS hl (ho.t.t.c trivial))
theorem z_iast (X : zX p s m args c D cl K A cc nL own Ts tys G) {n len t0 j9 : Nat} {x : Int32} (hkd : K.1 n = .inr (0, len)) (ht : tys[t0]? = some (dA 0, .int)) (hj : j9 < len) (hlen : len < 2 ^ 31) (hd : decode cc pc = .ok (.iastore, 1)) (kk : AW p l e R s m args below meth c D cl K dA A O nL (zsi S n j9 x) kc ks Q (pc + 1) L (st)) : AW p l e R s m args below meth c D cl K dA A O nL S kc ks Q pc L (.int x :: .int (nI j9) :: .ref n :: st) := by
  intro ad H locs ls hH hS hl ho
  obtain ⟨h0, hcl, hz, h00, dl, hnd, hdl, hP, hD⟩ := id hH
  have ht9 : ¬ (999 = 0) := by decide
  have hdm : S.1 n = true := (ho.t.t.h).elim (fun e9 => by rw [e9, X.2.2.2.2.2.2.2.1] at hkd; exact absurd (congrArg Prod.fst (Sum.inr.inj hkd)) ht9) id
  obtain ⟨i, hi⟩ := List.getElem?_of_mem ((hdl n).mpr hdm)
  exact va_iast (cA := dA 0) (f := S.2.1 n) X.1 X.2.1 X.2.2.2.2.2.1 hP hD hS i t0 (by rw [zW_at hi, zC_a hkd]; rfl) ht (vp_in_nI hj hlen) hd (fun H1 locs1 hP1 hD1 hS1 => kk ad H1 locs1 ls (zH_wr (S' := (zsi S n j9 x)) hH rfl hdm hcl (fun q hq => ⟨(z2_o hq).symm, rfl, rfl⟩) hnd hdl hi (by
    rw [zC_a hkd, nI_clamp (Nat.lt_trans hj hlen)]
    refine congrArg (fun z => Sum.inl (dA 0, len, Sum.inl z)) ?_
    funext j
    by_cases hj : j = j9
    · subst hj; simp [upd, zsi, z2]
    · simp [upd, zsi, z2, hj]) hP1 hD1) hS1 hl (show zok (zsi S n j9 x) L st from ho.t.t.t))
theorem z_zast (X : zX p s m args c D cl K A cc nL own Ts tys G) {n len t0 j9 : Nat} {x : Int32} (hkd : K.1 n = .inr (1, len)) (ht : tys[t0]? = some (dA 1, .boolean)) (hj : j9 < len) (hlen : len < 2 ^ 31) (hx01 : x = 0 ∨ x = 1) (hd : decode cc pc = .ok (.bastore, 1)) (kk : AW p l e R s m args below meth c D cl K dA A O nL (zsi S n j9 x) kc ks Q (pc + 1) L (st)) : AW p l e R s m args below meth c D cl K dA A O nL S kc ks Q pc L (.int x :: .int (nI j9) :: .ref n :: st) := by
  intro ad H locs ls hH hS hl ho
  obtain ⟨h0, hcl, hz, h00, dl, hnd, hdl, hP, hD⟩ := id hH
  have ht9 : ¬ (999 = 1) := by decide
  have hn9 : vp_nar .boolean x = x := by rcases hx01 with h | h <;> (subst h; decide)
  have hdm : S.1 n = true := (ho.t.t.h).elim (fun e9 => by rw [e9, X.2.2.2.2.2.2.2.1] at hkd; exact absurd (congrArg Prod.fst (Sum.inr.inj hkd)) ht9) id
  obtain ⟨i, hi⟩ := List.getElem?_of_mem ((hdl n).mpr hdm)
  exact va_zast (cA := dA 1) (f := S.2.1 n) X.1 X.2.1 X.2.2.2.2.2.1 hP hD hS i t0 (by rw [zW_at hi, zC_a hkd]; rfl) ht (vp_in_nI hj hlen) hd (fun H1 locs1 hP1 hD1 hS1 => kk ad H1 locs1 ls (zH_wr (S' := (zsi S n j9 x)) hH rfl hdm hcl (fun q hq => ⟨(z2_o hq).symm, rfl, rfl⟩) hnd hdl hi (by
    rw [zC_a hkd, nI_clamp (Nat.lt_trans hj hlen), hn9]
    refine congrArg (fun z => Sum.inl (dA 1, len, Sum.inl z)) ?_
    funext j
    by_cases hj : j = j9
    · subst hj; simp [upd, zsi, z2]
    · simp [upd, zsi, z2, hj]) hP1 hD1) hS1 hl (show zok (zsi S n j9 x) L st from ho.t.t.t))
theorem z_last (X : zX p s m args c D cl K A cc nL own Ts tys G) {n len t0 j9 : Nat} {x : Int64} (hkd : K.1 n = .inr (2, len)) (ht : tys[t0]? = some (dA 2, .long)) (hj : j9 < len) (hlen : len < 2 ^ 31) (hd : decode cc pc = .ok (.lastore, 1)) (kk : AW p l e R s m args below meth c D cl K dA A O nL (zsl S n j9 x) kc ks Q (pc + 1) L (st)) : AW p l e R s m args below meth c D cl K dA A O nL S kc ks Q pc L (.long x :: .int (nI j9) :: .ref n :: st) := by
  intro ad H locs ls hH hS hl ho
  obtain ⟨h0, hcl, hz, h00, dl, hnd, hdl, hP, hD⟩ := id hH
  have ht9 : ¬ (999 = 2) := by decide
  have hdm : S.1 n = true := (ho.t.t.h).elim (fun e9 => by rw [e9, X.2.2.2.2.2.2.2.1] at hkd; exact absurd (congrArg Prod.fst (Sum.inr.inj hkd)) ht9) id
  obtain ⟨i, hi⟩ := List.getElem?_of_mem ((hdl n).mpr hdm)
  exact va_last (cA := dA 2) (f := S.2.2.2 n) X.1 X.2.1 X.2.2.2.2.2.1 hP hD hS i t0 (by rw [zW_at hi, zC_a hkd]; rfl) ht (vp_in_nI hj hlen) hd (fun H1 locs1 hP1 hD1 hS1 => kk ad H1 locs1 ls (zH_wr (S' := (zsl S n j9 x)) hH rfl hdm hcl (fun q hq => ⟨rfl, rfl, (z2_o hq).symm⟩) hnd hdl hi (by
    rw [zC_a hkd, nI_clamp (Nat.lt_trans hj hlen)]
    refine congrArg (fun z => Sum.inl (dA 2, len, Sum.inr (Sum.inl z))) ?_
    funext j
    by_cases hj : j = j9
    · subst hj; simp [vp_updL, zsl, z2]
    · simp [vp_updL, zsl, z2, hj]) hP1 hD1) hS1 hl (show zok (zsl S n j9 x) L st from ho.t.t.t))
theorem z_aast (X : zX p s m args c D cl K A cc nL own Ts tys G) {n len t0 t j9 : Nat} {C : String} {x ci : Nat} {r : vw_C} (hkd : K.1 n = .inr (t, len)) (ht9 : ¬ 999 = t) (ht0 : ¬ t < 2) (ht1 : ¬ t = 2) (ht : tys[t0]? = some (dA t, .object C)) (hj : j9 < len) (hlen : len < 2 ^ 31) (hkx : K.1 x = .inl ci) (hr : cl[ci]? = some r) (hrC : r.1 = C) (hd : decode cc pc = .ok (.aastore, 1)) (kk : AW p l e R s m args below meth c D cl K dA A O nL (zsp S n j9 (some x)) kc ks Q (pc + 1) L (st)) : AW p l e R s m args below meth c D cl K dA A O nL S kc ks Q pc L (.ref x :: .int (nI j9) :: .ref n :: st) := by
  intro ad H locs ls hH hS hl ho
  obtain ⟨h0, hcl, hz, h00, dl, hnd, hdl, hP, hD⟩ := id hH
  have hdm : S.1 n = true := (ho.t.t.h).elim (fun e9 => by rw [e9, X.2.2.2.2.2.2.2.1] at hkd; exact absurd (congrArg Prod.fst (Sum.inr.inj hkd)) ht9) id
  obtain ⟨i, hi⟩ := List.getElem?_of_mem ((hdl n).mpr hdm)
  have hq9 : zAr ad S t len n = (len, .inr (.inr (.inr (.inr (fun j => (S.2.2.1 n j).map ad))))) := by unfold zAr; rw [if_neg ht0, if_neg ht1]
  have hdx : S.1 x = true := (ho.h).elim (fun e9 => by rw [e9, X.2.2.2.2.2.2.2.1] at hkx; cases hkx) id
  obtain ⟨ix, hix⟩ := List.getElem?_of_mem ((hdl x).mpr hdx)
  exact va_astq (cA := dA t) (f := fun j => (S.2.2.1 n j).map ad) X.1 X.2.1 X.2.2.2.2.2.1 hP hD hS i t0 ix ci (r := r) (v := ad x) (by rw [zW_at hi, zC_a hkd, hq9]) (by rw [hrC]; exact ht) (by rw [zW_at hix, zC_o hkx]) hr (vp_in_nI hj hlen) hd (fun H1 locs1 hP1 hD1 hS1 => kk ad H1 locs1 ls (zH_wr (S' := (zsp S n j9 (some x))) hH rfl hdm (fun a9 k9 x9 h9 => by
    by_cases e9 : a9 = n ∧ k9 = j9
    · have h8 : (some x) = some x9 := by rw [← h9]; show (some x) = z2 S.2.2.1 n j9 (some x) a9 k9; rw [e9.1, e9.2, z2_s]
      cases h8
      exact hdx
    · exact hcl a9 k9 x9 (by rw [← h9]; show _ = z2 S.2.2.1 n j9 (some x) a9 k9; unfold z2; rw [if_neg e9])) (fun q hq => ⟨rfl, (z2_o hq).symm, rfl⟩) hnd hdl hi (by
    rw [zC_a hkd, nI_clamp (Nat.lt_trans hj hlen)]
    unfold zAr
    rw [if_neg ht0, if_neg ht1]
    refine congrArg (fun z => Sum.inl (dA t, len, Sum.inr (Sum.inr (Sum.inr (Sum.inr z))))) ?_
    funext j
    by_cases hj : j = j9
    · subst hj; simp [va_up, zsp, z2]
    · simp [va_up, zsp, z2, hj]) hP1 hD1) hS1 hl (show zok (zsp S n j9 (some x)) L st from ho.t.t.t))
theorem z_aastN (X : zX p s m args c D cl K A cc nL own Ts tys G) {n len t0 t j9 : Nat} {C : String} (hkd : K.1 n = .inr (t, len)) (ht9 : ¬ 999 = t) (ht0 : ¬ t < 2) (ht1 : ¬ t = 2) (ht : tys[t0]? = some (dA t, .object C)) (hj : j9 < len) (hlen : len < 2 ^ 31)  (hd : decode cc pc = .ok (.aastore, 1)) (kk : AW p l e R s m args below meth c D cl K dA A O nL (zsp S n j9 none) kc ks Q (pc + 1) L (st)) : AW p l e R s m args below meth c D cl K dA A O nL S kc ks Q pc L (.null :: .int (nI j9) :: .ref n :: st) := by
  intro ad H locs ls hH hS hl ho
  obtain ⟨h0, hcl, hz, h00, dl, hnd, hdl, hP, hD⟩ := id hH
  have hdm : S.1 n = true := (ho.t.t.h).elim (fun e9 => by rw [e9, X.2.2.2.2.2.2.2.1] at hkd; exact absurd (congrArg Prod.fst (Sum.inr.inj hkd)) ht9) id
  obtain ⟨i, hi⟩ := List.getElem?_of_mem ((hdl n).mpr hdm)
  have hq9 : zAr ad S t len n = (len, .inr (.inr (.inr (.inr (fun j => (S.2.2.1 n j).map ad))))) := by unfold zAr; rw [if_neg ht0, if_neg ht1]
  exact va_astqN (cA := dA t) (f := fun j => (S.2.2.1 n j).map ad) X.1 X.2.1 X.2.2.2.2.2.1 hP hD hS i t0  (by rw [zW_at hi, zC_a hkd, hq9]) ht (vp_in_nI hj hlen) hd (fun H1 locs1 hP1 hD1 hS1 => kk ad H1 locs1 ls (zH_wr (S' := (zsp S n j9 none)) hH rfl hdm (fun a9 k9 x9 h9 => by
    by_cases e9 : a9 = n ∧ k9 = j9
    · have h8 : (none : Option Nat) = some x9 := by rw [← h9]; show (none : Option Nat) = z2 S.2.2.1 n j9 (none : Option Nat) a9 k9; rw [e9.1, e9.2, z2_s]
      cases h8
    · exact hcl a9 k9 x9 (by rw [← h9]; show _ = z2 S.2.2.1 n j9 (none : Option Nat) a9 k9; unfold z2; rw [if_neg e9])) (fun q hq => ⟨rfl, (z2_o hq).symm, rfl⟩) hnd hdl hi (by
    rw [zC_a hkd, nI_clamp (Nat.lt_trans hj hlen)]
    unfold zAr
    rw [if_neg ht0, if_neg ht1]
    refine congrArg (fun z => Sum.inl (dA t, len, Sum.inr (Sum.inr (Sum.inr (Sum.inr z))))) ?_
    funext j
    by_cases hj : j = j9
    · subst hj; simp [va_up, zsp, z2]
    · simp [va_up, zsp, z2, hj]) hP1 hD1) hS1 hl (show zok (zsp S n j9 none) L st from ho.t.t.t))
theorem z_alen (X : zX p s m args c D cl K A cc nL own Ts tys G) {n len t0 t : Nat} {ty : FieldType} {v : Int32} (hkd : K.1 n = .inr (t, len)) (ht9 : ¬ 999 = t) (ht : tys[t0]? = some (dA t, ty)) (hv : Int32.ofNat len = v) (hd : decode cc pc = .ok (.arraylength, 1)) (kk : AW p l e R s m args below meth c D cl K dA A O nL S kc ks Q (pc + 1) L (.int v :: st)) : AW p l e R s m args below meth c D cl K dA A O nL S kc ks Q pc L (.ref n :: st) := by
  intro ad H locs ls hH hS hl ho
  obtain ⟨h0, hcl, hz, h00, dl, hnd, hdl, hP, hD⟩ := id hH
  have hdm : S.1 n = true := (ho.h).elim (fun e9 => by rw [e9, X.2.2.2.2.2.2.2.1] at hkd; exact absurd (congrArg Prod.fst (Sum.inr.inj hkd)) ht9) id
  obtain ⟨i, hi⟩ := List.getElem?_of_mem ((hdl n).mpr hdm)
  exact va_alen (cA := dA t) (x := zAr ad S t len n) X.1 X.2.1 X.2.2.2.2.2.1 hP i t0 (by rw [zW_at hi, zC_a hkd]) ht hv hd (kk ad H locs ls hH hS hl (ho.t.c trivial))
theorem z_new (X : zX p s m args c D cl K A cc nL own Ts tys G) {C : String} {T : u_T} {N ci index n : Nat} (hin : ∀ w ∈ u_ws C T N, w ∈ Ts) (hc : cl[ci]? = some (C, T, N)) (hN : K.2.2 ci = N) (hkd : K.1 n = .inl ci) (hnf : S.1 n = false) (hn0 : n ≠ 0) (ty : Nat → FieldType) (hty : ∀ k, k < N → parseFieldDescriptor (T k).2.2.1 = some (ty k)) (hdf : ∀ k, k < N → defaultValue (ty k) = if K.2.1 ci k = true then .null else .int 0) (hcl0 : Cond.classLink own index C ∈ Ts) (hins : Cond.instantiable C N ∈ Ts) (hini : Cond.initialized C ∈ Ts) (hcells : kc + 1 ≤ R.cells) (hslots : ks + N ≤ R.slots) (hd : decode cc pc = .ok (.new index, 3)) (kk : AW p l e R s m args below meth c D cl K dA A O nL (zadd S n) (kc + 1) (ks + N) Q (pc + 3) L (.ref n :: st)) : AW p l e R s m args below meth c D cl K dA A O nL S kc ks Q pc L (st) := by
  intro ad H locs ls hH hS hl ho
  obtain ⟨h0, hcl, hz, h00, dl, hnd, hdl, hP, hD⟩ := id hH
  have zx0 : ∀ q : Nat, zup ad n q 0 = ad 0 := fun q => zup_n (Ne.symm hn0)
  have zx1 : ∀ q n9 : Nat, S.1 n9 = true → zup ad n q n9 = ad n9 := fun q n9 h9 => zup_n (fun e9 => by rw [e9, hnf] at h9; cases h9)
  have zI : ∀ k9, S.2.1 n k9 = 0 ∧ S.2.2.1 n k9 = none ∧ S.2.2.2 n k9 = 0 := hz n hnf
  refine va_new (fs := zF K ad S ci n) X.1 X.2.1 X.2.2.2.2.1 hin ty hty X.2.2.2.1 (X.2.2.2.2.1 _ hcl0) (X.2.2.2.2.1 _ hins) (X.2.2.2.2.1 _ hini) X.2.2.2.2.2.1 hP hD hS X.2.2.2.2.2.2.1 hc (fun j hj => ?_) hcells hslots hd (fun q H1 hP1 hD1 hS1 => ?_)
  · rw [hdf j hj]
    unfold vp_V
    rw [List.getD_eq_getElem?_getD]
    cases hr : K.2.1 ci j with
    | false => rw [zF_i (by rw [hN]; exact hj) hr, (zI j).1]; rfl
    | true => rw [zF_r (by rw [hN]; exact hj) hr, (zI j).2.1]; rfl
  · exact (by
    have e9 := zq_ext (ho) (zx0 q) (zx1 q)
    have w9 := kk (zup ad n q) H1 locs ls (zH_new hH hnf hn0 hnd hdl ((zC_o hkd).symm) hP1 hD1) hS1 (by rw [e9.1]; exact hl) ((zok_mono (fun q9 h9 => zadd_t h9) (ho)).c (Or.inr zadd_s))
    rw [List.map_cons, e9.2, show zv (zup ad n q) (.ref n) = .ref q from congrArg Value.ref zup_s] at w9
    exact w9)
theorem z_newi (X : zX p s m args c D cl K A cc nL own Ts tys G) {n len t0 : Nat} {i9 : Int32} (hkd : K.1 n = .inr (0, len)) (ht : tys[t0]? = some (dA 0, .int)) (hnf : S.1 n = false) (hn0 : n ≠ 0) (hi9 : ¬ i9 < 0) (hlen : i9.toNatClampNeg = len) (hby : len * 4 ≤ 536870912) (hac : Cond.arrayClass .int ∈ Ts) (hcells : kc + 1 ≤ R.cells) (hslots : ks + len ≤ R.slots) (hd : decode cc pc = .ok (.newarray .int, 2)) (kk : AW p l e R s m args below meth c D cl K dA A O nL (zadd S n) (kc + 1) (ks + len) Q (pc + 2) L (.ref n :: st)) : AW p l e R s m args below meth c D cl K dA A O nL S kc ks Q pc L (.int i9 :: st) := by
  intro ad H locs ls hH hS hl ho
  obtain ⟨h0, hcl, hz, h00, dl, hnd, hdl, hP, hD⟩ := id hH
  have zx0 : ∀ q : Nat, zup ad n q 0 = ad 0 := fun q => zup_n (Ne.symm hn0)
  have zx1 : ∀ q n9 : Nat, S.1 n9 = true → zup ad n q n9 = ad n9 := fun q n9 h9 => zup_n (fun e9 => by rw [e9, hnf] at h9; cases h9)
  have zI : ∀ k9, S.2.1 n k9 = 0 ∧ S.2.2.1 n k9 = none ∧ S.2.2.2 n k9 = 0 := hz n hnf
  refine va_newa (atype := .int) (ty := .int) (a0 := zAr ad S 0 len n) X.1 X.2.1 (X.2.2.2.2.1 _ hac) rfl X.2.2.2.2.2.1 hP hD hS X.2.2.2.2.2.2.1 (fun cA => ?_) hi9 hlen hby hcells hslots hd (fun q cA H1 hK1 hP1 hD1 hS1 => ?_)
  · show arrV cA len (fun j => Value.int (S.2.1 n j)) = _
    congr 1
    funext j
    rw [(zI j).1]
    rfl
  · have hcA : cA = dA 0 := by
      have r1 : va_RA s cA .int := (hK1.2 tys.length (cA, .int) (by rw [List.getElem?_append_right (Nat.le_refl _), Nat.sub_self]; rfl)).2
      have r2 : va_RA s (dA 0) .int := (X.2.2.2.2.2.1.2 t0 _ ht).2
      exact Option.some.inj (r1.symm.trans r2)
    subst hcA
    exact (by
    have e9 := zq_ext (ho.t) (zx0 q) (zx1 q)
    have w9 := kk (zup ad n q) H1 locs ls (zH_new hH hnf hn0 hnd hdl ((zC_a hkd).symm) hP1 hD1) hS1 (by rw [e9.1]; exact hl) ((zok_mono (fun q9 h9 => zadd_t h9) (ho.t)).c (Or.inr zadd_s))
    rw [List.map_cons, e9.2, show zv (zup ad n q) (.ref n) = .ref q from congrArg Value.ref zup_s] at w9
    exact w9)
theorem z_newz (X : zX p s m args c D cl K A cc nL own Ts tys G) {n len t0 : Nat} {i9 : Int32} (hkd : K.1 n = .inr (1, len)) (ht : tys[t0]? = some (dA 1, .boolean)) (hnf : S.1 n = false) (hn0 : n ≠ 0) (hi9 : ¬ i9 < 0) (hlen : i9.toNatClampNeg = len) (hby : len * 1 ≤ 536870912) (hac : Cond.arrayClass .boolean ∈ Ts) (hcells : kc + 1 ≤ R.cells) (hslots : ks + len ≤ R.slots) (hd : decode cc pc = .ok (.newarray .boolean, 2)) (kk : AW p l e R s m args below meth c D cl K dA A O nL (zadd S n) (kc + 1) (ks + len) Q (pc + 2) L (.ref n :: st)) : AW p l e R s m args below meth c D cl K dA A O nL S kc ks Q pc L (.int i9 :: st) := by
  intro ad H locs ls hH hS hl ho
  obtain ⟨h0, hcl, hz, h00, dl, hnd, hdl, hP, hD⟩ := id hH
  have zx0 : ∀ q : Nat, zup ad n q 0 = ad 0 := fun q => zup_n (Ne.symm hn0)
  have zx1 : ∀ q n9 : Nat, S.1 n9 = true → zup ad n q n9 = ad n9 := fun q n9 h9 => zup_n (fun e9 => by rw [e9, hnf] at h9; cases h9)
  have zI : ∀ k9, S.2.1 n k9 = 0 ∧ S.2.2.1 n k9 = none ∧ S.2.2.2 n k9 = 0 := hz n hnf
  refine va_newa (atype := .boolean) (ty := .boolean) (a0 := zAr ad S 1 len n) X.1 X.2.1 (X.2.2.2.2.1 _ hac) rfl X.2.2.2.2.2.1 hP hD hS X.2.2.2.2.2.2.1 (fun cA => ?_) hi9 hlen hby hcells hslots hd (fun q cA H1 hK1 hP1 hD1 hS1 => ?_)
  · show arrV cA len (fun j => Value.int (S.2.1 n j)) = _
    congr 1
    funext j
    rw [(zI j).1]
    rfl
  · have hcA : cA = dA 1 := by
      have r1 : va_RA s cA .boolean := (hK1.2 tys.length (cA, .boolean) (by rw [List.getElem?_append_right (Nat.le_refl _), Nat.sub_self]; rfl)).2
      have r2 : va_RA s (dA 1) .boolean := (X.2.2.2.2.2.1.2 t0 _ ht).2
      exact Option.some.inj (r1.symm.trans r2)
    subst hcA
    exact (by
    have e9 := zq_ext (ho.t) (zx0 q) (zx1 q)
    have w9 := kk (zup ad n q) H1 locs ls (zH_new hH hnf hn0 hnd hdl ((zC_a hkd).symm) hP1 hD1) hS1 (by rw [e9.1]; exact hl) ((zok_mono (fun q9 h9 => zadd_t h9) (ho.t)).c (Or.inr zadd_s))
    rw [List.map_cons, e9.2, show zv (zup ad n q) (.ref n) = .ref q from congrArg Value.ref zup_s] at w9
    exact w9)
theorem z_newl (X : zX p s m args c D cl K A cc nL own Ts tys G) {n len t0 : Nat} {i9 : Int32} (hkd : K.1 n = .inr (2, len)) (ht : tys[t0]? = some (dA 2, .long)) (hnf : S.1 n = false) (hn0 : n ≠ 0) (hi9 : ¬ i9 < 0) (hlen : i9.toNatClampNeg = len) (hby : len * 8 ≤ 536870912) (hac : Cond.arrayClass .long ∈ Ts) (hcells : kc + 1 ≤ R.cells) (hslots : ks + len ≤ R.slots) (hd : decode cc pc = .ok (.newarray .long, 2)) (kk : AW p l e R s m args below meth c D cl K dA A O nL (zadd S n) (kc + 1) (ks + len) Q (pc + 2) L (.ref n :: st)) : AW p l e R s m args below meth c D cl K dA A O nL S kc ks Q pc L (.int i9 :: st) := by
  intro ad H locs ls hH hS hl ho
  obtain ⟨h0, hcl, hz, h00, dl, hnd, hdl, hP, hD⟩ := id hH
  have zx0 : ∀ q : Nat, zup ad n q 0 = ad 0 := fun q => zup_n (Ne.symm hn0)
  have zx1 : ∀ q n9 : Nat, S.1 n9 = true → zup ad n q n9 = ad n9 := fun q n9 h9 => zup_n (fun e9 => by rw [e9, hnf] at h9; cases h9)
  have zI : ∀ k9, S.2.1 n k9 = 0 ∧ S.2.2.1 n k9 = none ∧ S.2.2.2 n k9 = 0 := hz n hnf
  refine va_newa (atype := .long) (ty := .long) (a0 := zAr ad S 2 len n) X.1 X.2.1 (X.2.2.2.2.1 _ hac) rfl X.2.2.2.2.2.1 hP hD hS X.2.2.2.2.2.2.1 (fun cA => ?_) hi9 hlen hby hcells hslots hd (fun q cA H1 hK1 hP1 hD1 hS1 => ?_)
  · show arrV cA len (fun j => Value.long (S.2.2.2 n j)) = _
    congr 1
    funext j
    rw [(zI j).2.2]
    rfl
  · have hcA : cA = dA 2 := by
      have r1 : va_RA s cA .long := (hK1.2 tys.length (cA, .long) (by rw [List.getElem?_append_right (Nat.le_refl _), Nat.sub_self]; rfl)).2
      have r2 : va_RA s (dA 2) .long := (X.2.2.2.2.2.1.2 t0 _ ht).2
      exact Option.some.inj (r1.symm.trans r2)
    subst hcA
    exact (by
    have e9 := zq_ext (ho.t) (zx0 q) (zx1 q)
    have w9 := kk (zup ad n q) H1 locs ls (zH_new hH hnf hn0 hnd hdl ((zC_a hkd).symm) hP1 hD1) hS1 (by rw [e9.1]; exact hl) ((zok_mono (fun q9 h9 => zadd_t h9) (ho.t)).c (Or.inr zadd_s))
    rw [List.map_cons, e9.2, show zv (zup ad n q) (.ref n) = .ref q from congrArg Value.ref zup_s] at w9
    exact w9)
theorem z_anew (X : zX p s m args c D cl K A cc nL own Ts tys G) {n len t0 t index : Nat} {i9 : Int32} {C : String} (hkd : K.1 n = .inr (t, len)) (ht0 : ¬ t < 2) (ht1 : ¬ t = 2) (ht : tys[t0]? = some (dA t, .object C)) (hnf : S.1 n = false) (hn0 : n ≠ 0) (hi9 : ¬ i9 < 0) (hlen : i9.toNatClampNeg = len) (hby : len * 4 ≤ 536870912) (hcl0 : Cond.classLink own index C ∈ Ts) (hao : va_AO C s) (hcells : kc + 1 ≤ R.cells) (hslots : ks + len ≤ R.slots) (hd : decode cc pc = .ok (.anewarray index, 3)) (kk : AW p l e R s m args below meth c D cl K dA A O nL (zadd S n) (kc + 1) (ks + len) Q (pc + 3) L (.ref n :: st)) : AW p l e R s m args below meth c D cl K dA A O nL S kc ks Q pc L (.int i9 :: st) := by
  intro ad H locs ls hH hS hl ho
  obtain ⟨h0, hcl, hz, h00, dl, hnd, hdl, hP, hD⟩ := id hH
  have zx0 : ∀ q : Nat, zup ad n q 0 = ad 0 := fun q => zup_n (Ne.symm hn0)
  have zx1 : ∀ q n9 : Nat, S.1 n9 = true → zup ad n q n9 = ad n9 := fun q n9 h9 => zup_n (fun e9 => by rw [e9, hnf] at h9; cases h9)
  have zI : ∀ k9, S.2.1 n k9 = 0 ∧ S.2.2.1 n k9 = none ∧ S.2.2.2 n k9 = 0 := hz n hnf
  have hq9 : zAr ad S t len n = (len, .inr (.inr (.inr (.inr (fun _ => none))))) := by
    unfold zAr
    rw [if_neg ht0, if_neg ht1]
    refine congrArg (fun z => (len, Sum.inr (Sum.inr (Sum.inr (Sum.inr z))))) ?_
    funext j
    rw [(zI j).2.1]; rfl
  refine va_newq X.1 X.2.1 X.2.2.2.1 (X.2.2.2.2.1 _ hcl0) hao X.2.2.2.2.2.1 hP hD hS X.2.2.2.2.2.2.1 hi9 hlen hby hcells hslots hd (fun q cA H1 hK1 hP1 hD1 hS1 => ?_)
  have hcA : cA = dA t := by
    have r1 : va_RA s cA (.object C) := (hK1.2 tys.length (cA, .object C) (by rw [List.getElem?_append_right (Nat.le_refl _), Nat.sub_self]; rfl)).2
    have r2 : va_RA s (dA t) (.object C) := (X.2.2.2.2.2.1.2 t0 _ ht).2
    obtain ⟨_, _, _, _, _, r1⟩ := r1
    obtain ⟨_, _, _, _, _, r2⟩ := r2
    exact Option.some.inj (r1.symm.trans r2)
  subst hcA
  exact (by
    have e9 := zq_ext (ho.t) (zx0 q) (zx1 q)
    have w9 := kk (zup ad n q) H1 locs ls (zH_new hH hnf hn0 hnd hdl (by rw [zC_a hkd, hq9]) hP1 hD1) hS1 (by rw [e9.1]; exact hl) ((zok_mono (fun q9 h9 => zadd_t h9) (ho.t)).c (Or.inr zadd_s))
    rw [List.map_cons, e9.2, show zv (zup ad n q) (.ref n) = .ref q from congrArg Value.ref zup_s] at w9
    exact w9)
theorem z_icmp_eqN (X : zX p s m args c D cl K A cc nL own Ts tys G) {a b : Nat} {off : Int} {tgt : Nat} (hd : decode cc pc = .ok (.if_icmp .eq off, 3)) (ht : (pc : Int) + off = (tgt : Int)) (ha : a < 2 ^ 31) (hb : b < 2 ^ 31) (kt : a = b → AW p l e R s m args below meth c D cl K dA A O nL S kc ks Q tgt L (st)) (kf : ¬ a = b → AW p l e R s m args below meth c D cl K dA A O nL S kc ks Q (pc + 3) L (st)) : AW p l e R s m args below meth c D cl K dA A O nL S kc ks Q pc L (.int (nI b) :: .int (nI a) :: st) := z_icmp_eq X hd ht (fun h => kt ((nI_eq ha hb).mp h)) (fun h => kf (fun q => h ((nI_eq ha hb).mpr q)))
theorem z_icmp_ltN (X : zX p s m args c D cl K A cc nL own Ts tys G) {a b : Nat} {off : Int} {tgt : Nat} (hd : decode cc pc = .ok (.if_icmp .lt off, 3)) (ht : (pc : Int) + off = (tgt : Int)) (ha : a < 2 ^ 31) (hb : b < 2 ^ 31) (kt : a < b → AW p l e R s m args below meth c D cl K dA A O nL S kc ks Q tgt L (st)) (kf : ¬ a < b → AW p l e R s m args below meth c D cl K dA A O nL S kc ks Q (pc + 3) L (st)) : AW p l e R s m args below meth c D cl K dA A O nL S kc ks Q pc L (.int (nI b) :: .int (nI a) :: st) := z_icmp_lt X hd ht (fun h => kt ((nI_ltI ha hb).mp h)) (fun h => kf (fun q => h ((nI_ltI ha hb).mpr q)))
theorem z_icmp_leN (X : zX p s m args c D cl K A cc nL own Ts tys G) {a b : Nat} {off : Int} {tgt : Nat} (hd : decode cc pc = .ok (.if_icmp .le off, 3)) (ht : (pc : Int) + off = (tgt : Int)) (ha : a < 2 ^ 31) (hb : b < 2 ^ 31) (kt : a ≤ b → AW p l e R s m args below meth c D cl K dA A O nL S kc ks Q tgt L (st)) (kf : ¬ a ≤ b → AW p l e R s m args below meth c D cl K dA A O nL S kc ks Q (pc + 3) L (st)) : AW p l e R s m args below meth c D cl K dA A O nL S kc ks Q pc L (.int (nI b) :: .int (nI a) :: st) := z_icmp_le X hd ht (fun h => kt ((nI_leI ha hb).mp h)) (fun h => kf (fun q => h ((nI_leI ha hb).mpr q)))
theorem z_icmp_geN (X : zX p s m args c D cl K A cc nL own Ts tys G) {a b : Nat} {off : Int} {tgt : Nat} (hd : decode cc pc = .ok (.if_icmp .ge off, 3)) (ht : (pc : Int) + off = (tgt : Int)) (ha : a < 2 ^ 31) (hb : b < 2 ^ 31) (kt : b ≤ a → AW p l e R s m args below meth c D cl K dA A O nL S kc ks Q tgt L (st)) (kf : ¬ b ≤ a → AW p l e R s m args below meth c D cl K dA A O nL S kc ks Q (pc + 3) L (st)) : AW p l e R s m args below meth c D cl K dA A O nL S kc ks Q pc L (.int (nI b) :: .int (nI a) :: st) := z_icmp_ge X hd ht (fun h => kt ((nI_leI hb ha).mp h)) (fun h => kf (fun q => h ((nI_leI hb ha).mpr q)))
theorem z_icmp_gtN (X : zX p s m args c D cl K A cc nL own Ts tys G) {a b : Nat} {off : Int} {tgt : Nat} (hd : decode cc pc = .ok (.if_icmp .gt off, 3)) (ht : (pc : Int) + off = (tgt : Int)) (ha : a < 2 ^ 31) (hb : b < 2 ^ 31) (kt : b < a → AW p l e R s m args below meth c D cl K dA A O nL S kc ks Q tgt L (st)) (kf : ¬ b < a → AW p l e R s m args below meth c D cl K dA A O nL S kc ks Q (pc + 3) L (st)) : AW p l e R s m args below meth c D cl K dA A O nL S kc ks Q pc L (.int (nI b) :: .int (nI a) :: st) := z_icmp_gt X hd ht (fun h => kt ((nI_ltI hb ha).mp h)) (fun h => kf (fun q => h ((nI_ltI hb ha).mpr q)))
theorem z_icmp_neN (X : zX p s m args c D cl K A cc nL own Ts tys G) {a b : Nat} {off : Int} {tgt : Nat} (hd : decode cc pc = .ok (.if_icmp .ne off, 3)) (ht : (pc : Int) + off = (tgt : Int)) (ha : a < 2 ^ 31) (hb : b < 2 ^ 31) (kt : ¬ a = b → AW p l e R s m args below meth c D cl K dA A O nL S kc ks Q tgt L (st)) (kf : a = b → AW p l e R s m args below meth c D cl K dA A O nL S kc ks Q (pc + 3) L (st)) : AW p l e R s m args below meth c D cl K dA A O nL S kc ks Q pc L (.int (nI b) :: .int (nI a) :: st) := z_icmp_ne X hd ht (fun h => kt (fun q => h ((nI_eq ha hb).mpr q))) (fun h => kf ((nI_eq ha hb).mp h))
theorem z_top {x y : Int32} (h : x = y) (k : AW p l e R s m args below meth c D cl K dA A O nL S kc ks Q pc L (.int y :: st)) : AW p l e R s m args below meth c D cl K dA A O nL S kc ks Q pc L (.int x :: st) := h ▸ k
theorem z_sto {S' : zS} (h : S = S') (k : AW p l e R s m args below meth c D cl K dA A O nL S' kc ks Q pc L (st)) : AW p l e R s m args below meth c D cl K dA A O nL S kc ks Q pc L (st) := h ▸ k
theorem z_wide {kc9 ks9 : Nat} (h1 : kc ≤ kc9) (h2 : ks ≤ ks9) (k : AW p l e R s m args below meth c D cl K dA A O nL S kc9 ks9 Q pc L (st)) : AW p l e R s m args below meth c D cl K dA A O nL S kc ks Q pc L (st) := fun ad H locs ls hH hS hl ho => W.widen h1 h2 (k ad H locs ls hH hS hl ho)
theorem z_loc {L' : List (Nat × Value)} (ps : List Nat) (hp : lv_pick L ps = L') (k : AW p l e R s m args below meth c D cl K dA A O nL S kc ks Q pc L' (st)) : AW p l e R s m args below meth c D cl K dA A O nL S kc ks Q pc L (st) := fun ad H locs ls hH hS hl ho => k ad H locs ls hH hS ⟨hl.1, hl.2.1, fun q hq => by
  obtain ⟨q9, h9, e9⟩ := List.mem_map.mp hq
  subst e9
  rw [← hp] at h9
  obtain ⟨k9, -, hk9⟩ := List.mem_filterMap.mp h9
  exact hl.2.2 _ (List.mem_map.mpr ⟨q9, List.mem_of_getElem? hk9, rfl⟩)⟩ ⟨fun q hq => by
  rw [← hp] at hq
  obtain ⟨k9, -, hk9⟩ := List.mem_filterMap.mp hq
  exact ho.1 q (List.mem_of_getElem? hk9), ho.2⟩
end ZR
/-! CALLS AND CONTRACTS over the abstract store -/
def zPc (D : va_G) (cl : List vw_C) (K : zK) (dA : Nat → ClassId) (A : Nat → Prop) (ad : Nat → Nat) (S : zS) (G : (Nat → Prop) → State → Prop) (As : List Value) : Array Value → State → Prop := fun v U => v = (As.map (zv ad)).toArray ∧ zH D cl K dA A (ad, S) ad S U.heap ∧ (∀ q, U.heap.size ≤ q → A q) ∧ G A U
def zQc (D : va_G) (cl : List vw_C) (K : zK) (dA : Nat → ClassId) (A : Nat → Prop) (ad : Nat → Nat) (S : zS) (Post : Option Value → zS → Prop) : Array Value → State → Outcome → State → Prop := fun _ st o t => (∃ (v : Option Value) (ad' : Nat → Nat) (S' : zS), o = .returned (v.map (zv ad')) ∧ Post v S' ∧ zH D cl K dA A (ad, S) ad' S' t.heap ∧ ∀ w, v = some w → zo S' w) ∧ va_F A st t
def zXC (D : va_G) (cl : List vw_C) (K : zK) (dA : Nat → ClassId) (A : Nat → Prop) (ad : Nat → Nat) (S : zS) (PX : String → zS → Prop) : String → State → State → Prop := fun E st t => (∃ (ad' : Nat → Nat) (S' : zS), PX E S' ∧ zH D cl K dA A (ad, S) ad' S' t.heap) ∧ va_F A st t
/-- a method's contract: at these arguments, in this store, it returns with Post, or throws with PX -/
def zMet (l : Launch) (D : va_G) (cl : List vw_C) (K : zK) (dA : Nat → ClassId) (G : (Nat → Prop) → State → Prop) (y : MethodName) (ws : List Cond) (rm : Room) (mc ms : Nat) (As : List Value) (S : zS) (Post : Option Value → zS → Prop) (PX : String → zS → Prop) : Prop :=
  ∀ (A : Nat → Prop) (ad : Nat → Nat), (∀ v ∈ As, zo S v) → vx_Met l y ws rm (zPc D cl K dA A ad S G As) (zQc D cl K dA A ad S Post) (zXC D cl K dA A ad S PX) mc ms A
def zGm (G : (Nat → Prop) → State → Prop) : Prop := ∀ (A : Nat → Prop) (s t : State), s.WarmedH t.vm → s.heap.size ≤ t.heap.size → (∀ q : Nat, q < s.heap.size → ¬ A q → t.heap[q]? = s.heap[q]?) → G A s → G A t
/-- q is thrown over the frame -/
def AWX (p : Program) (l : Launch) (e : Env) (R : Room) (s : State) (m : MethodId) (args : Array Value) (below : List Frame) (meth : Method) (c : Code) (D : va_G) (cl : List vw_C) (K : zK) (dA : Nat → ClassId) (A : Nat → Prop) (O : (Nat → Nat) × zS) (nL : Nat) (S : zS) (kc ks : Nat) (Q : State → Prop) (pc : Nat) (L : List (Nat × Value)) (st : List Value) (E : String) : Prop :=
  ∀ (ad : Nat → Nat) (H : Heap) (locs : List Loc) (ls : Array Slot) (ce : Cell) (q : Addr), zH D cl K dA A O ad S H → va_S A s.heap H locs → lv_has ls nL (L.map (zq ad)) → zok S L st → H[q]? = some ce → ce.vm = .none → s.vm.findClass E = some ce.cls → vx_W p l e R s m args below meth c H locs kc ks Q (F0 m pc ls (st.map (zv ad))) q
theorem zPc_blind {D : va_G} {cl : List vw_C} {K : zK} {dA : Nat → ClassId} {A : Nat → Prop} {ad : Nat → Nat} {S : zS} {G : (Nat → Prop) → State → Prop} {As : List Value} (hG : zGm G) : FrameBlind (zPc D cl K dA A ad S G As) := by
  intro a U g mk h
  obtain ⟨h1, h2, h3, h4⟩ := h
  exact ⟨h1, h2, h3, hG A U (U.calling g mk a) (State.WarmedH.refl U) (Nat.le_refl _) (fun _ _ _ => rfl) h4⟩
/-- a method that never throws, as the kit's Met -/
theorem z_toMet {l : Launch} {y : MethodName} {ws : List Cond} {rm : Room} {Pc : Array Value → State → Prop} {Qc : Array Value → State → Outcome → State → Prop} {XC : String → State → State → Prop} {mc ms : Nat} {free : Addr → Prop} (hX : ∀ E st t, ¬ XC E st t) (h : vx_Met l y ws rm Pc Qc XC mc ms free) : Met l y ws rm Pc Qc mc ms free := by
  intro p e h1 h2 h3 s m args below h4 h5 h6 h7
  obtain ⟨n, o, a1, a2, a3, a4⟩ := h p e h1 h2 h3 s m args below h4 h5 h6 h7
  refine ⟨n, o, a1, a2, a3, ?_⟩
  rcases a4 with a4 | ⟨q, -, E, ce, L, hx, -⟩
  · exact a4
  · exact absurd hx (hX E _ _)
section ZC
variable {p : Program} {l : Launch} {e : Env} {R : Room} {s : State} {m : MethodId} {args : Array Value} {below : List Frame} {meth : Method} {c : Code} {kc ks : Nat} {Q : State → Prop}
variable {D : va_G} {cl : List vw_C} {K : zK} {dA : Nat → ClassId} {A : Nat → Prop} {O : (Nat → Nat) × zS} {cc : ByteArray} {nL : Nat} {own : String} {Ts : List Cond} {tys : List (ClassId × FieldType)} {G : (Nat → Prop) → State → Prop} {S : zS} {pc : Nat} {L : List (Nat × Value)} {st : List Value}
theorem z_run {ad : Nat → Nat} {H : Heap} {locs : List Loc} {ls : Array Slot} {st0 rest : List Value} {a : Array Value} {mc ms : Nat} {Post : Option Value → zS → Prop} {PX : String → zS → Prop}
    (hr : vx_Run p l e R s m args below meth c H locs kc ks mc ms (F0 m pc ls st0) (rest.map (zv ad)) (zQc D cl K dA A ad S Post a) (zXC D cl K dA A ad S PX) A)
    (hH : zH D cl K dA A O ad S H) (hS : va_S A s.heap H locs) (hl : lv_has ls nL (L.map (zq ad))) (ho : zok S L rest)
    (kk : ∀ (v : Option Value) (S' : zS), Post v S' → AW p l e R s m args below meth c D cl K dA A O nL S' (kc + mc) (ks + ms) Q (pc + 3) L (v.toList ++ rest))
    (kx : ∀ (E : String) (S' : zS), PX E S' → AWX p l e R s m args below meth c D cl K dA A O nL S' (kc + mc) (ks + ms) Q pc L rest E) : W p l e R s m args below meth c H locs kc ks Q (F0 m pc ls st0) := by
  intro T hT X
  rcases hr T hT X with ⟨v, st₀, t, T', L9, h0, X', hL, e1, e2, ⟨⟨v', ad', S', hv, hp, hH', hw⟩, hF⟩, st⟩ | ⟨q, st₀, t, T', L9, E, ce, h0, X', hL, e1, e2, ⟨⟨ad', S', hp, hH'⟩, hF⟩, hce, hcv, hcl, st⟩
  · have hx : zext ad S ad' S' := hH'.1
    have hH9 : zH D cl K dA A O ad' S' t.heap := ⟨hH.1.tr hx, hH'.2⟩
    obtain ⟨k1, k2, k3⟩ := vx_keep (A0 := A) (A1 := A) h0 e1 hS (fun q _ h => h) (fun q h => h) hL hF
    have hv' : v = v'.map (zv ad') := Outcome.returned.inj hv
    have e9 := zq_ext ho hx.2 (fun n h => (hx.1 n h).2)
    have ho' : zok S' L rest := zok_mono (fun n h => (hx.1 n h).1) ho
    have w := kk v' S' hp ad' T'.heap (locs ++ L9) ls (by rw [e1]; exact hH9) k3 (by rw [e9.1]; exact hl) ⟨ho'.1, fun z hz => by
      rcases List.mem_append.mp hz with h | h
      · exact hw z (by cases v' with
          | none => cases h
          | some y => rw [List.mem_singleton.mp h])
      · exact ho'.2 z h⟩
    rw [List.map_append, e9.2, show (v'.toList).map (zv ad') = v.toList by rw [hv']; cases v' <;> rfl] at w
    obtain ⟨t2, a1, b1⟩ := w T' rfl X'
    exact ⟨t2, st t2 a1, b1⟩
  · have hx : zext ad S ad' S' := hH'.1
    have hH9 : zH D cl K dA A O ad' S' t.heap := ⟨hH.1.tr hx, hH'.2⟩
    obtain ⟨k1, k2, k3⟩ := vx_keep (A0 := A) (A1 := A) h0 e1 hS (fun q _ h => h) (fun q h => h) hL hF
    have e9 := zq_ext ho hx.2 (fun n h => (hx.1 n h).2)
    have ho' : zok S' L rest := zok_mono (fun n h => (hx.1 n h).1) ho
    have w := kx E S' hp ad' T'.heap (locs ++ L9) ls ce q (by rw [e1]; exact hH9) k3 (by rw [e9.1]; exact hl) ho' (by rw [e1]; exact hce) hcv hcl
    rw [e9.2] at w
    obtain ⟨t2, a1, b1⟩ := w T' rfl X'
    exact ⟨t2, st.trans a1, b1⟩
theorem z_room {st : List Value} {ad : Nat → Nat} (h : (st.map fun v => v.category).sum ≤ 8) : ((st.map (zv ad)).map fun v => v.category).sum ≤ 8 := by
  rw [List.map_map, show ((fun v : Value => v.category) ∘ zv ad) = (fun v : Value => v.category) from funext fun v => zv_cat ad v]; exact h
theorem z_rev {As rest st0 : List Value} {b : Value} {ad : Nat → Nat} (h : As.reverse ++ b :: rest = st0) : st0.map (zv ad) = (As.map (zv ad)).reverse ++ zv ad b :: rest.map (zv ad) := by
  rw [← h, List.map_append, List.map_cons, List.map_reverse]
theorem z_rev0 {As rest st0 : List Value} {ad : Nat → Nat} (h : As.reverse ++ rest = st0) : st0.map (zv ad) = (As.map (zv ad)).reverse ++ rest.map (zv ad) := by
  rw [← h, List.map_append, List.map_reverse]
theorem z_callV (X : zX p s m args c D cl K A cc nL own Ts tys G) (hG : zGm G) {y : MethodName} {bytes : ByteArray} {maxL mc ms index nm ci n : Nat} {ret : Option FieldType} {ws : List Cond} {rm : Room} {C : String} {r : vw_C} {As rest st0 : List Value} {Post : Option Value → zS → Prop} {PX : String → zS → Prop}
    (hM : zMet l D cl K dA G y ws rm mc ms (.ref nm :: As) S Post PX) (cw : CallW R s args own C index y bytes maxL ret ws rm mc ms n) (hkd : K.1 nm = .inl ci) (hc : cl[ci]? = some r) (hC : r.1 = C) (hn : As.length = n) (hst : As.reverse ++ .ref nm :: rest = st0)
    (hw : (rest.map fun v => v.category).sum ≤ 8) (hd : decode cc pc = .ok (.invokevirtual index, 3)) (hf : kc + mc ≤ R.cells ∧ ks + ms ≤ R.slots)
    (kk : ∀ (v : Option Value) (S' : zS), Post v S' → AW p l e R s m args below meth c D cl K dA A O nL S' (kc + mc) (ks + ms) Q (pc + 3) L (v.toList ++ rest))
    (kx : ∀ (E : String) (S' : zS), PX E S' → AWX p l e R s m args below meth c D cl K dA A O nL S' (kc + mc) (ks + ms) Q pc L rest E) : AW p l e R s m args below meth c D cl K dA A O nL S kc ks Q pc L st0 := by
  intro ad H locs ls hH hS hl ho
  obtain ⟨h0, hcl, hz, h00, dl, hnd, hdl, hP, hD⟩ := id hH
  have hoA : ∀ v ∈ (Value.ref nm :: As), zo S v := fun v hv => ho.2 v (by
    rw [← hst]
    rcases List.mem_cons.mp hv with e9 | h9
    · rw [e9]; exact List.mem_append_right _ List.mem_cons_self
    · exact List.mem_append_left _ (List.mem_reverse.mpr h9))
  have hor : zok S L rest := ⟨ho.1, fun v hv => ho.2 v (by rw [← hst]; exact List.mem_append_right _ (List.mem_cons_of_mem _ hv))⟩
  have hdm : S.1 nm = true := (hoA _ List.mem_cons_self).elim (fun e9 => by rw [e9, X.2.2.2.2.2.2.2.1] at hkd; cases hkd) id
  obtain ⟨i, hi⟩ := List.getElem?_of_mem ((hdl nm).mpr hdm)
  have he : (zW K dA ad S dl)[i]? = some (ad nm, .inr (ci, zF K ad S ci nm)) := by rw [zW_at hi, zC_o hkd]
  refine z_run (a := (Value.ref (ad nm) :: As.map (zv ad)).toArray) (vx_runV (C := C) (As := As.map (zv ad)) (b := ad nm) ⟨X.1, X.2.1, X.2.2.1, X.2.2.2.1, X.2.2.2.2.1⟩ (hM A ad hoA) cw ⟨zPc_blind hG, by rw [← hC]; exact va_recv X.2.2.2.2.2.1 hP hc he, fun U hU hW => ⟨rfl, by rw [hU]; exact ⟨zext.rf, hH.2⟩, fun q hq => X.2.2.2.2.2.2.1 q (Nat.le_trans hS.1 (by rw [← hU]; exact hq)), hG A s U hW (by rw [hU]; exact hS.1) (fun q h1 h2 => by rw [hU]; exact hS.2.1 q h1 h2) X.2.2.2.2.2.2.2.2⟩⟩ rfl (by rw [List.length_map]; exact hn) hl.1 (z_rev hst) (lv_room (z_room hw)) hd hf) hH hS hl hor kk kx
theorem z_callS (X : zX p s m args c D cl K A cc nL own Ts tys G) (hG : zGm G) {y : MethodName} {bytes : ByteArray} {maxL mc ms index n : Nat} {ret : Option FieldType} {ws : List Cond} {rm : Room} {As rest st0 : List Value} {Post : Option Value → zS → Prop} {PX : String → zS → Prop}
    (hM : zMet l D cl K dA G y ws rm mc ms As S Post PX) (cw : CallB R s args own index y bytes maxL ret ws rm mc ms n ∧ (Cond.static y).before args s = true) (hn : As.length = n) (hst : As.reverse ++ rest = st0)
    (hw : (rest.map fun v => v.category).sum ≤ 8) (hd : decode cc pc = .ok (.invokestatic index, 3)) (hf : kc + mc ≤ R.cells ∧ ks + ms ≤ R.slots)
    (kk : ∀ (v : Option Value) (S' : zS), Post v S' → AW p l e R s m args below meth c D cl K dA A O nL S' (kc + mc) (ks + ms) Q (pc + 3) L (v.toList ++ rest))
    (kx : ∀ (E : String) (S' : zS), PX E S' → AWX p l e R s m args below meth c D cl K dA A O nL S' (kc + mc) (ks + ms) Q pc L rest E) : AW p l e R s m args below meth c D cl K dA A O nL S kc ks Q pc L st0 := by
  intro ad H locs ls hH hS hl ho
  have hoA : ∀ v ∈ As, zo S v := fun v hv => ho.2 v (by rw [← hst]; exact List.mem_append_left _ (List.mem_reverse.mpr hv))
  have hor : zok S L rest := ⟨ho.1, fun v hv => ho.2 v (by rw [← hst]; exact List.mem_append_right _ hv)⟩
  refine z_run (a := (As.map (zv ad)).toArray) (vx_runS (As := As.map (zv ad)) ⟨X.1, X.2.1, X.2.2.1, X.2.2.2.1, X.2.2.2.2.1⟩ (hM A ad hoA) cw ⟨zPc_blind hG, fun U hU hW => ⟨rfl, by rw [hU]; exact ⟨zext.rf, hH.2⟩, fun q hq => X.2.2.2.2.2.2.1 q (Nat.le_trans hS.1 (by rw [← hU]; exact hq)), hG A s U hW (by rw [hU]; exact hS.1) (fun q h1 h2 => by rw [hU]; exact hS.2.1 q h1 h2) X.2.2.2.2.2.2.2.2⟩⟩ rfl (by rw [List.length_map]; exact hn) hl.1 (z_rev0 hst) (lv_room (z_room hw)) hd hf) hH hS hl hor kk kx
theorem z_callI (X : zX p s m args c D cl K A cc nL own Ts tys G) (hG : zGm G) {y : MethodName} {bytes : ByteArray} {maxL mc ms index nm n : Nat} {ws : List Cond} {rm : Room} {As rest st0 : List Value} {Post : Option Value → zS → Prop} {PX : String → zS → Prop} (hPX : ∀ E S', ¬ PX E S')
    (hM : zMet l D cl K dA G y ws rm mc ms (.ref nm :: As) S Post PX) (cw : CallB R s args own index y bytes maxL none ws rm mc ms n ∧ y.name = "<init>" ∧ (Cond.instanceMethod y).before args s = true) (hn : As.length = n) (hst : As.reverse ++ .ref nm :: rest = st0)
    (hw : (rest.map fun v => v.category).sum ≤ 8) (hd : decode cc pc = .ok (.invokespecial index, 3)) (hf : kc + mc ≤ R.cells ∧ ks + ms ≤ R.slots)
    (kk : ∀ (v : Option Value) (S' : zS), Post v S' → AW p l e R s m args below meth c D cl K dA A O nL S' (kc + mc) (ks + ms) Q (pc + 3) L (v.toList ++ rest)) : AW p l e R s m args below meth c D cl K dA A O nL S kc ks Q pc L st0 := by
  intro ad H locs ls hH hS hl ho
  have hoA : ∀ v ∈ (Value.ref nm :: As), zo S v := fun v hv => ho.2 v (by
    rw [← hst]
    rcases List.mem_cons.mp hv with e9 | h9
    · rw [e9]; exact List.mem_append_right _ List.mem_cons_self
    · exact List.mem_append_left _ (List.mem_reverse.mpr h9))
  have hor : zok S L rest := ⟨ho.1, fun v hv => ho.2 v (by rw [← hst]; exact List.mem_append_right _ (List.mem_cons_of_mem _ hv))⟩
  have hr := va_runI (locs := locs) (cells := kc) (slots := ks) (e := e) (below := below) (meth := meth) (g := F0 m pc ls (st0.map (zv ad))) (rest := rest.map (zv ad)) (As := As.map (zv ad)) (b := ad nm) ⟨X.1, X.2.1, X.2.2.1, X.2.2.2.1, X.2.2.2.2.1⟩ (z_toMet (fun E st t h => h.1.elim fun a h => h.elim fun b h => hPX E b h.1) (hM A ad hoA)) cw ⟨zPc_blind hG, fun U hU hW => ⟨rfl, by rw [hU]; exact ⟨zext.rf, hH.2⟩, fun q hq => X.2.2.2.2.2.2.1 q (Nat.le_trans hS.1 (by rw [← hU]; exact hq)), hG A s U hW (by rw [hU]; exact hS.1) (fun q h1 h2 => by rw [hU]; exact hS.2.1 q h1 h2) X.2.2.2.2.2.2.2.2⟩⟩ rfl (by rw [List.length_map]; exact hn) hl.1 (z_rev hst) (lv_room (z_room hw)) hd hf
  exact z_run (PX := PX) (fun T hT X9 => Or.inl (hr T hT X9)) hH hS hl hor kk (fun E S' h => absurd h (hPX E S'))
/-- not caught in this method -/
theorem z_out {Post : Option Value → zS → Prop} {PX : String → zS → Prop} {mc ms : Nat} {E : String} (hout : ∀ x ∈ c.exceptionTable.toList, covers x pc = false) (hlocks : meth.locks = false) (hPX : PX E S) (hc : kc ≤ mc) (hs : ks ≤ ms) :
    AWX p l e R s m args below meth c D cl K dA A O nL S kc ks (vx_MQ below (zQc D cl K dA A O.1 O.2 Post) (zXC D cl K dA A O.1 O.2 PX) args s mc ms A) pc L st E := by
  intro ad H locs ls ce q hH hS hl ho h1 h2 h3
  exact vx_out hout hlocks h1 h2 h3 (fun t ht ha => ⟨⟨ad, S, hPX, by rw [ht]; exact hH⟩, hS.F ht⟩) hS.2.2 hc hs
end ZC
/-! ENDS, ENTRY, CATCHING, THROWING over the abstract store -/
theorem zargs (ad : Nat → Nat) : ∀ (vs : List Value) (i : Nat), lv_args i (vs.map (zv ad)) = (lv_args i vs).map (zq ad)
  | [], _ => rfl
  | v :: vs, i => by
    show (i, zv ad v) :: lv_args (if (zv ad v).category = 2 then i + 2 else i + 1) (vs.map (zv ad)) = (i, zv ad v) :: (lv_args (if v.category = 2 then i + 2 else i + 1) vs).map (zq ad)
    rw [zv_cat, zargs ad vs]
theorem zslen (ad : Nat → Nat) : ∀ (vs : List Value), (lg_sl (vs.map (zv ad))).length = (lg_sl vs).length
  | [] => rfl
  | v :: vs => by
    have h := zslen ad vs
    simp only [lg_sl, List.map_cons, List.flatMap_cons, List.length_append] at h ⊢
    rw [zv_cat]
    rw [h]
    by_cases hc : v.category = 2
    · simp [hc]
    · simp [hc]
theorem zargs_mem {vs : List Value} : ∀ {i : Nat} {q : Nat × Value}, q ∈ lv_args i vs → q.2 ∈ vs := by
  induction vs with
  | nil => intro i q h; cases h
  | cons v vs ih =>
    intro i q h
    rcases List.mem_cons.mp h with e | h
    · rw [e]; exact List.mem_cons_self
    · exact List.mem_cons_of_mem _ (ih h)
theorem zH_kept {D : va_G} {cl : List vw_C} {K : zK} {dA : Nat → ClassId} {A : Nat → Prop} {O : (Nat → Nat) × zS} {ad : Nat → Nat} {S : zS} {H H1 : Heap} (h : zH D cl K dA A O ad S H) (hk : ∀ q : Nat, q < H.size → H1[q]? = H[q]?) : zH D cl K dA A O ad S H1 := by
  obtain ⟨h0, hcl, hz, h00, dl, hnd, hdl, hP, hD⟩ := h
  exact ⟨h0, hcl, hz, h00, dl, hnd, hdl, hP.kept (fun k q hq => hk q.1 ((hP k q hq).lt)), hD⟩
section ZE
variable {p : Program} {l : Launch} {e : Env} {R : Room} {s : State} {m : MethodId} {args : Array Value} {below : List Frame} {meth : Method} {c : Code} {kc ks mc ms : Nat} {Q : State → Prop}
variable {D : va_G} {cl : List vw_C} {K : zK} {dA : Nat → ClassId} {A : Nat → Prop} {O : (Nat → Nat) × zS} {cc : ByteArray} {nL : Nat} {own : String} {Ts : List Cond} {tys : List (ClassId × FieldType)} {G : (Nat → Prop) → State → Prop} {S : zS} {pc : Nat} {L : List (Nat × Value)} {st : List Value} {Post : Option Value → zS → Prop} {PX : String → zS → Prop}
theorem z_iret (X : zX p s m args c D cl K A cc nL own Ts tys G) {v : Int32} (hlocks : meth.locks = false) (hr : meth.sig.returnType = some .int) (hd : decode cc pc = .ok (.ireturn, 1)) (hc : kc ≤ mc) (hs : ks ≤ ms) (hp : Post (some (.int v)) S) : AW p l e R s m args below meth c D cl K dA A O nL S kc ks (vx_MQ below (zQc D cl K dA A O.1 O.2 Post) (zXC D cl K dA A O.1 O.2 PX) args s mc ms A) pc L [.int v] :=
  fun ad H locs ls hH hS hl ho => W.widen hc hs (vx_ret (W.iret (v := v) X.1 X.2.1 hr (fun t ht hW => ⟨⟨some (.int v), ad, S, rfl, hp, by rw [ht]; exact hH, fun w hw => by cases hw; trivial⟩, hS.F ht⟩) hS.2.2 hd hlocks))
theorem z_zret (X : zX p s m args c D cl K A cc nL own Ts tys G) {v : Int32} (hlocks : meth.locks = false) (hr : meth.sig.returnType = some .boolean) (hd : decode cc pc = .ok (.ireturn, 1)) (hn : narrow .boolean (.int v) = .int v) (hc : kc ≤ mc) (hs : ks ≤ ms) (hp : Post (some (.int v)) S) : AW p l e R s m args below meth c D cl K dA A O nL S kc ks (vx_MQ below (zQc D cl K dA A O.1 O.2 Post) (zXC D cl K dA A O.1 O.2 PX) args s mc ms A) pc L [.int v] :=
  fun ad H locs ls hH hS hl ho => W.widen hc hs (vx_ret (W.zret (v := v) X.1 X.2.1 hr hn (fun t ht hW => ⟨⟨some (.int v), ad, S, rfl, hp, by rw [ht]; exact hH, fun w hw => by cases hw; trivial⟩, hS.F ht⟩) hS.2.2 hd hlocks))
theorem z_aret (X : zX p s m args c D cl K A cc nL own Ts tys G) {n : Nat} {rt : FieldType} (hlocks : meth.locks = false) (hr : meth.sig.returnType = some rt) (hrt : (∃ n, rt = .object n) ∨ ∃ t, rt = .array t) (hd : decode cc pc = .ok (.areturn, 1)) (hc : kc ≤ mc) (hs : ks ≤ ms) (hp : Post (some (.ref n)) S) : AW p l e R s m args below meth c D cl K dA A O nL S kc ks (vx_MQ below (zQc D cl K dA A O.1 O.2 Post) (zXC D cl K dA A O.1 O.2 PX) args s mc ms A) pc L [.ref n] :=
  fun ad H locs ls hH hS hl ho => W.widen hc hs (vx_ret (W.aret (v := .ref (ad n)) X.1 X.2.1 hr hrt (Or.inr ⟨_, rfl⟩) (fun t ht hW => ⟨⟨some (.ref n), ad, S, rfl, hp, by rw [ht]; exact hH, fun w hw => by cases hw; exact ho.h⟩, hS.F ht⟩) hS.2.2 hd hlocks))
theorem z_vret (X : zX p s m args c D cl K A cc nL own Ts tys G) (hlocks : meth.locks = false) (hr : meth.sig.returnType = none) (hd : decode cc pc = .ok (.return_, 1)) (hc : kc ≤ mc) (hs : ks ≤ ms) (hp : Post none S) : AW p l e R s m args below meth c D cl K dA A O nL S kc ks (vx_MQ below (zQc D cl K dA A O.1 O.2 Post) (zXC D cl K dA A O.1 O.2 PX) args s mc ms A) pc L [] :=
  fun ad H locs ls hH hS hl ho => W.widen hc hs (vx_ret (W.vret X.1 X.2.1 hr (fun t ht hW => ⟨⟨none, ad, S, rfl, hp, by rw [ht]; exact hH, fun w hw => by cases hw⟩, hS.F ht⟩) hS.2.2 hd hlocks))
theorem z_catch_n (X : zX p s m args c D cl K A cc nL own Ts tys G) {nm E : String} {k0 : Fin 4} {i : Nat} {L' : List (Nat × Value)} (pre : List ExceptionTableEntry) (x : ExceptionTableEntry) (suf : List ExceptionTableEntry) (hsplit : c.exceptionTable.toList = pre ++ x :: suf)
    (hpass : ∀ z ∈ pre, covers z pc = false ∨ (z.catchType ≠ 0 ∧ ∃ nm : String, (Cond.classLink own z.catchType nm).before args s = true ∧ va_Nc E nm s)) (hx : covers x pc = true) (h0 : x.catchType ≠ 0)
    (hlink : (Cond.classLink own x.catchType nm).before args s = true) (hcast : (Cond.castable E nm).before args s = true) (hd : decode cc x.handlerPc = .ok (.astore_n k0, 1)) (hi : (k0 : Nat) = i) (hn : i < nL) (hl9 : L.filter (zf i) = L')
    (k : AW p l e R s m args below meth c D cl K dA A O nL S kc ks Q (x.handlerPc + 1) L' []) : AWX p l e R s m args below meth c D cl K dA A O nL S kc ks Q pc L st E := by
  intro ad H locs ls ce q hH hS hl ho h1 h2 h3
  refine vx_catch X.2.2.2.1 pre x suf hsplit hpass hx h0 hlink hcast h1 h2 h3 (lv_astore_n (x := q) (lv' := (i, .ref q) :: L'.map (zq ad)) X.1 X.2.1 hd hi hl hn (by rw [zq_filter, hl9]) (fun ls' h' => k ad H locs ls' hH hS ⟨h'.1, h'.2.1, fun q9 hq9 => h'.2.2 q9 (List.mem_cons_of_mem _ hq9)⟩ ⟨fun q9 h9 => ho.1 q9 ?_, fun _ h => nomatch h⟩))
  rw [← hl9] at h9
  exact (List.mem_filter.mp h9).1
theorem z_catch (X : zX p s m args c D cl K A cc nL own Ts tys G) {nm E : String} {i : Nat} {L' : List (Nat × Value)} (pre : List ExceptionTableEntry) (x : ExceptionTableEntry) (suf : List ExceptionTableEntry) (hsplit : c.exceptionTable.toList = pre ++ x :: suf)
    (hpass : ∀ z ∈ pre, covers z pc = false ∨ (z.catchType ≠ 0 ∧ ∃ nm : String, (Cond.classLink own z.catchType nm).before args s = true ∧ va_Nc E nm s)) (hx : covers x pc = true) (h0 : x.catchType ≠ 0)
    (hlink : (Cond.classLink own x.catchType nm).before args s = true) (hcast : (Cond.castable E nm).before args s = true) (hd : decode cc x.handlerPc = .ok (.astore i, 2)) (hn : i < nL) (hl9 : L.filter (zf i) = L')
    (k : AW p l e R s m args below meth c D cl K dA A O nL S kc ks Q (x.handlerPc + 2) L' []) : AWX p l e R s m args below meth c D cl K dA A O nL S kc ks Q pc L st E := by
  intro ad H locs ls ce q hH hS hl ho h1 h2 h3
  refine vx_catch X.2.2.2.1 pre x suf hsplit hpass hx h0 hlink hcast h1 h2 h3 (lv_astore (x := q) (lv' := (i, .ref q) :: L'.map (zq ad)) X.1 X.2.1 hd hl hn (by rw [zq_filter, hl9]) (fun ls' h' => k ad H locs ls' hH hS ⟨h'.1, h'.2.1, fun q9 hq9 => h'.2.2 q9 (List.mem_cons_of_mem _ hq9)⟩ ⟨fun q9 h9 => ho.1 q9 ?_, fun _ h => nomatch h⟩))
  rw [← hl9] at h9
  exact (List.mem_filter.mp h9).1
end ZE
section ZM
variable {l : Launch} {D : va_G} {cl : List vw_C} {K : zK} {dA : Nat → ClassId} {G : (Nat → Prop) → State → Prop} {y : MethodName} {ws ws' : List Cond} {rm : Room} {mc ms maxL : Nat} {As : List Value} {S : zS} {Post : Option Value → zS → Prop} {PX : String → zS → Prop} {cc : ByteArray} {ret : Option FieldType} {tys : List (ClassId × FieldType)}
theorem z_met (hy : plainName y.cls = true) (hw : ws = Cond.code y cc maxL ret :: ws') (hGK : ∀ A s, G A s → va_K D cl tys s) (hK0 : K.1 0 = .inr (999, 0)) (hlen : (lg_sl As).length ≤ maxL)
    (body : ∀ (p : Program) (e : Env) (s : State) (m : MethodId) (args : Array Value) (below : List Frame) (meth : Method) (c : Code) (A : Nat → Prop) (ad : Nat → Nat), zX p s m args c D cl K A cc maxL y.cls ws tys G → meth.sig.returnType = ret → meth.locks = false → meth.name = y.name → (∀ x ∈ c.exceptionTable.toList, False) →
      AW p l e rm s m args below meth c D cl K dA A (ad, S) maxL S 0 0 (vx_MQ below (zQc D cl K dA A ad S Post) (zXC D cl K dA A ad S PX) args s mc ms A) 0 (lv_args 0 As) []) : zMet l D cl K dA G y ws rm mc ms As S Post PX := by
  intro A ad hoA
  refine vx_ofW (cc := cc) (maxL := maxL) (ret := ret) hy hw ?_
  intro p e s m args below meth c s₁ B hml hex hv
  obtain ⟨rfl, hH, hA, hG⟩ := hv
  have hl := lv_entry (As.map (zv ad)) (n := maxL) (by rw [zslen]; exact hlen)
  rw [lg_entry_eq]
  rw [zargs] at hl
  exact body p e s m _ below meth c A ad ⟨B.exec, B.bytes, hml, findClass_of_methodNamed B.named, atoms_spec (ws := ws) B.pre, hGK A s hG, hA, hK0, hG⟩ B.returns B.notSynchronized (name_of_methodNamed B.named B.method).1 hex ad s.heap [] _ hH va_S.rf hl ⟨fun q hq => hoA _ (zargs_mem hq), fun _ h => nomatch h⟩
theorem z_metH {hh : List (Nat × Nat × Nat × Nat)} (hy : plainName y.cls = true) (hw : ws = Cond.codeWith y cc maxL ret hh :: ws') (hGK : ∀ A s, G A s → va_K D cl tys s) (hK0 : K.1 0 = .inr (999, 0)) (hlen : (lg_sl As).length ≤ maxL)
    (body : ∀ (p : Program) (e : Env) (s : State) (m : MethodId) (args : Array Value) (below : List Frame) (meth : Method) (c : Code) (A : Nat → Prop) (ad : Nat → Nat), zX p s m args c D cl K A cc maxL y.cls ws tys G → meth.sig.returnType = ret → meth.locks = false → c.exceptionTable.toList = tableOf hh →
      AW p l e rm s m args below meth c D cl K dA A (ad, S) maxL S 0 0 (vx_MQ below (zQc D cl K dA A ad S Post) (zXC D cl K dA A ad S PX) args s mc ms A) 0 (lv_args 0 As) []) : zMet l D cl K dA G y ws rm mc ms As S Post PX := by
  intro A ad hoA
  refine vx_ofWH (cc := cc) (maxL := maxL) (ret := ret) (hh := hh) hy hw ?_
  intro p e s m args below meth c s₁ B hml hv
  obtain ⟨rfl, hH, hA, hG⟩ := hv
  have hl := lv_entry (As.map (zv ad)) (n := maxL) (by rw [zslen]; exact hlen)
  rw [lg_entry_eq]
  rw [zargs] at hl
  exact body p e s m _ below meth c A ad ⟨B.exec, B.bytes, hml, findClass_of_methodNamed B.named, atoms_spec (ws := ws) B.pre, hGK A s hG, hA, hK0, hG⟩ B.returns B.notSynchronized (vx_table (x := y) B (atoms_spec (ws := ws) B.pre _ (by rw [hw]; exact List.mem_cons_self))) ad s.heap [] _ hH va_S.rf hl ⟨fun q hq => hoA _ (zargs_mem hq), fun _ h => nomatch h⟩
end ZM
section ZT
variable {p : Program} {l : Launch} {e : Env} {R : Room} {s : State} {m : MethodId} {args : Array Value} {below : List Frame} {meth : Method} {c : Code} {kc ks mc ms : Nat}
variable {D : va_G} {cl : List vw_C} {K : zK} {dA : Nat → ClassId} {A : Nat → Prop} {O : (Nat → Nat) × zS} {cc : ByteArray} {nL : Nat} {own : String} {Ts : List Cond} {tys : List (ClassId × FieldType)} {G : (Nat → Prop) → State → Prop} {S : zS} {pc : Nat} {L : List (Nat × Value)} {Post : Option Value → zS → Prop} {PX : String → zS → Prop}
theorem z_throwS (X : zX p s m args c D cl K A cc nL own Ts tys G) (hl0 : l.stackTraces = false) {cls text : String} {names : List String} {ik is ic sa : Nat} (hcls : Bundle.fit cls = true) (hnames : ∀ n ∈ names, Bundle.fit n = true)
    (hk : (Cond.classLink own ik cls).before args s = true) (hini : (Cond.initialized cls).before args s = true) (hstr : vk_R own is text sa s) (hat : ∀ w ∈ vx_atS own ic cls names, w.before args s = true)
    (hgood : ∀ w ∈ Cond.classLink own ik cls :: Cond.initialized cls :: vx_atS own ic cls names, vx_ot w = true)
    (hU : vx_Zq Bundle.tN "UNASSIGNED_STACK" Bundle.steD A s s.heap) (hN : vx_Zq Bundle.tN "SUPPRESSED_SENTINEL" Bundle.listD A s s.heap)
    (d0 : decode cc pc = .ok (.new ik, 3)) (d3 : decode cc (pc + 3) = .ok (.dup, 1)) (d4 : decode cc (pc + 4) = .ok (.ldc is, 2)) (d6 : decode cc (pc + 6) = .ok (.invokespecial ic, 3)) (d9 : decode cc (pc + 9) = .ok (.athrow, 1))
    (hout : ∀ x ∈ c.exceptionTable.toList, covers x (pc + 9) = false)
    (hRf : names.length + 3 < R.frames) (hRl : 13 * (names.length + 1) + 43 ≤ R.locals) (hRc : kc + 1 ≤ R.cells) (hRs : ks + 6 ≤ R.slots) (hlocks : meth.locks = false) (hc : kc + 1 ≤ mc) (hs : ks + 6 ≤ ms) (hPX : PX cls S) :
    AW p l e R s m args below meth c D cl K dA A O nL S kc ks (vx_MQ below (zQc D cl K dA A O.1 O.2 Post) (zXC D cl K dA A O.1 O.2 PX) args s mc ms A) pc L [] :=
  fun ad H locs ls hH hS hl ho => vx_throwS X.1 X.2.1 hl0 X.2.2.2.1 hcls hnames hk hini hstr hat hgood hU hN hS (hl.1.trans X.2.2.1.symm) d0 d3 d4 d6 d9 hout hRf (by show 0 + _ ≤ _; omega) hRc hRs hlocks (fun t ha h1 h2 => ⟨⟨ad, S, hPX, zH_kept hH h2⟩, ⟨Nat.le_trans hS.1 h1, fun q q1 q2 => (h2 q (Nat.lt_of_lt_of_le q1 hS.1)).trans (hS.2.1 q q1 q2)⟩⟩) hS.2.2 hc hs
theorem z_throwSW (X : zX p s m args c D cl K A cc nL own Ts tys G) (hl0 : l.stackTraces = false) {cls text : String} {names : List String} {ik is ic sa : Nat} (hcls : Bundle.fit cls = true) (hnames : ∀ n ∈ names, Bundle.fit n = true)
    (hk : (Cond.classLink own ik cls).before args s = true) (hini : (Cond.initialized cls).before args s = true) (hstr : vk_R own is text sa s) (hat : ∀ w ∈ vx_atS own ic cls names, w.before args s = true)
    (hgood : ∀ w ∈ Cond.classLink own ik cls :: Cond.initialized cls :: vx_atS own ic cls names, vx_ot w = true)
    (hU : vx_Zq Bundle.tN "UNASSIGNED_STACK" Bundle.steD A s s.heap) (hN : vx_Zq Bundle.tN "SUPPRESSED_SENTINEL" Bundle.listD A s s.heap)
    (d0 : decode cc pc = .ok (.new ik, 3)) (d3 : decode cc (pc + 3) = .ok (.dup, 1)) (d4 : decode cc (pc + 4) = .ok (.ldc_w is, 3)) (d7 : decode cc (pc + 7) = .ok (.invokespecial ic, 3)) (d10 : decode cc (pc + 10) = .ok (.athrow, 1))
    (hout : ∀ x ∈ c.exceptionTable.toList, covers x (pc + 10) = false)
    (hRf : names.length + 3 < R.frames) (hRl : 13 * (names.length + 1) + 43 ≤ R.locals) (hRc : kc + 1 ≤ R.cells) (hRs : ks + 6 ≤ R.slots) (hlocks : meth.locks = false) (hc : kc + 1 ≤ mc) (hs : ks + 6 ≤ ms) (hPX : PX cls S) :
    AW p l e R s m args below meth c D cl K dA A O nL S kc ks (vx_MQ below (zQc D cl K dA A O.1 O.2 Post) (zXC D cl K dA A O.1 O.2 PX) args s mc ms A) pc L [] :=
  fun ad H locs ls hH hS hl ho => vx_throwSW X.1 X.2.1 hl0 X.2.2.2.1 hcls hnames hk hini hstr hat hgood hU hN hS (hl.1.trans X.2.2.1.symm) d0 d3 d4 d7 d10 hout hRf (by show 0 + _ ≤ _; omega) hRc hRs hlocks (fun t ha h1 h2 => ⟨⟨ad, S, hPX, zH_kept hH h2⟩, ⟨Nat.le_trans hS.1 h1, fun q q1 q2 => (h2 q (Nat.lt_of_lt_of_le q1 hS.1)).trans (hS.2.1 q q1 q2)⟩⟩) hS.2.2 hc hs
end ZT
/-! what stands all along outside the store: tables, statics of Throwable, texts, castings -/
def zG (D : va_G) (cl : List vw_C) (tys : List (ClassId × FieldType)) (cast : List (String × String)) (decl : List MethodName) (texts : List (String × Nat × String)) (over : List String) (nc : List (String × String)) : (Nat → Prop) → State → Prop := fun A U =>
  va_K D cl tys U ∧ vx_Zq Bundle.tN "UNASSIGNED_STACK" Bundle.steD A U U.heap ∧ vx_Zq Bundle.tN "SUPPRESSED_SENTINEL" Bundle.listD A U U.heap ∧ (∀ q ∈ cast, va_Nw (.castable q.1 q.2) U) ∧ (∀ y ∈ decl, va_Nw (.declares y) U) ∧ (∀ q ∈ texts, ∃ sa, vk_R q.1 q.2.1 q.2.2 sa U) ∧ (∀ C ∈ over, va_AO C U) ∧ ∀ q ∈ nc, va_Nc q.1 q.2 U
theorem zG_m {D : va_G} {cl : List vw_C} {tys : List (ClassId × FieldType)} {cast : List (String × String)} {decl : List MethodName} {texts : List (String × Nat × String)} {over : List String} {nc : List (String × String)} : zGm (zG D cl tys cast decl texts over nc) := by
  intro A s t hW hz hk h
  obtain ⟨h1, h2, h3, h4, h5, h6, h7, h8⟩ := h
  refine ⟨va_K.moved hW.alike h1, vx_Zq.moved hW.alike (h2.kept hk), vx_Zq.moved hW.alike (h3.kept hk), fun q hq => va_Nw.warmC hW (h4 q hq), fun y hy => va_Nw.warmD hW (h5 y hy), fun q hq => ?_, fun C hC => va_AO.moved hW.alike (h7 C hC), fun q hq => va_Nc.moved hW.alike (h8 q hq)⟩
  obtain ⟨sa, h9⟩ := h6 q hq
  exact ⟨sa, vk_R.warm hW h9⟩
