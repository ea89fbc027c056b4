/-! the object newly made -/
theorem zcp_out {S : zS} {a b len x y : Nat} (h : x ≠ b) : (zcp S a b len).2.1 x y = S.2.1 x y := if_neg (fun q => h q.1)
theorem zcp_in {S : zS} {a b len y : Nat} (h : y < len) : (zcp S a b len).2.1 b y = S.2.1 a y := if_pos ⟨rfl, h⟩
theorem zfr.cp {own : Nat → Prop} {S : zS} {a b len : Nat} (h : own b) : zfr own S (zcp S a b len) := ⟨fun _ _ => rfl, fun n hn => ⟨by
  funext y
  exact zcp_out (fun e => hn (by rw [e]; exact h)), rfl, rfl⟩⟩
theorem zfr.add {own : Nat → Prop} {S : zS} {n : Nat} (h : own n) : zfr own S (zadd S n) := ⟨fun q hq => zadd_n (fun e => hq (by rw [e]; exact h)), fun _ _ => ⟨rfl, rfl, rfl⟩⟩
theorem zBrA_H {S S' : zS} {b : zBr} {i : Nat} {u : zGr} (hB : zBrA S b) (hW : zBrW b) (hi : i < 2) (hA : zGrA S' i u) (hf : zfr (zOwnH i) S S') : zBrA S' (bH b i u) := by
  refine zBrA_upd hB hW hf (zTop_fr hB.1 (fun n h1 h2 => hf.ag (fun h => by unfold zOwnH at h; omega))) rfl (fun t2 h2 => Or.inr ⟨rfl, fun n h9 h => by unfold zOwnH at h; unfold zOwnG at h9; have := h2.1; omega⟩) (fun j hj => Or.inr ⟨rfl, fun n h9 h => by unfold zOwnH at h; unfold zOwnS at h9; omega⟩) (fun j hj => ?_) (fun t2 h12 h2 n h9 h => by unfold zOwnH at h; unfold zOwnG at h9; omega)
  by_cases e9 : j = i
  · subst e9
    have e8 : (bH b j u).2.2.2.2.2.1 j = u := if_pos rfl
    exact Or.inl (by rw [e8]; exact hA)
  · exact Or.inr ⟨if_neg e9, fun n h9 h => by unfold zOwnH at h9 h; omega⟩
def zSn0 : zSn := (-1, nI 0, (fun _ => 0), fun _ => 0)
def zGr0 : zGr := (0, (fun _ => -1), (fun _ => -1), (fun _ => 0), fun _ => 0)
def zBr0 : zBr := ((fun _ => 0), (fun _ => zLg0), (fun _ => zSn0), (fun _ => -1), (fun _ => 0), (fun _ => zGr0), 0, 0, 0, 0, 0)
/-- a sessions and c groups are made -/
def zIni (S : zS) (a c : Nat) : Prop := (∀ n, 1 ≤ n → n < 8 → S.1 n = true) ∧ S.2.2.1 1 0 = some 2 ∧ S.2.2.1 1 1 = some 3 ∧ S.2.2.1 1 2 = some 4 ∧ S.2.2.1 1 3 = some 5 ∧ S.2.2.1 1 4 = some 6 ∧ S.2.2.1 1 5 = some 7 ∧
  (∀ k, 6 ≤ k → S.2.1 1 k = 0) ∧ (∀ t, S.2.1 2 t = 0) ∧ (∀ t, S.2.2.1 3 t = none) ∧ (∀ i, i < a → S.2.2.1 4 i = some (10 + i) ∧ zSsA S i zSn0) ∧ (∀ q, S.2.1 6 q = 0) ∧ (∀ i, i < c → S.2.2.1 7 i = some (40 + i) ∧ zGrA S i zGr0) ∧
  (∀ i, a ≤ i → i < 6 → S.1 (10 + i) = false ∧ S.1 (20 + i) = false ∧ S.1 (30 + i) = false) ∧ (∀ i, c ≤ i → i < 2 → ∀ n, zOwnH i n → S.1 n = false) ∧ ∀ n, 60 ≤ n → n < 1000 → S.1 n = false
/-- what is kept when other names change -/
theorem zIni_fr {S S2 : zS} {a c : Nat} {own : Nat → Prop} (h : zIni S a c) (hf : zfr own S S2) (h4 : ∀ i, i < a → S2.2.2.1 4 i = S.2.2.1 4 i) (h7 : ∀ i, i < c → S2.2.2.1 7 i = S.2.2.1 7 i) (hd : ∀ n, n < 8 → S2.1 n = S.1 n)
    (ho : ∀ n, own n → n = 4 ∨ n = 5 ∨ n = 7 ∨ (8 ≤ n ∧ n < 60)) (hs : ∀ i, i < a → ∀ n, zOwnS i n → ¬ own n) (hg : ∀ i, i < c → ∀ n, zOwnH i n → ¬ own n) {a2 c2 : Nat} (ha : a ≤ a2) (hc : c ≤ c2)
    (hs2 : ∀ i, a ≤ i → i < a2 → S2.2.2.1 4 i = some (10 + i) ∧ zSsA S2 i zSn0) (hg2 : ∀ i, c ≤ i → i < c2 → S2.2.2.1 7 i = some (40 + i) ∧ zGrA S2 i zGr0) (hs3 : ∀ i, a2 ≤ i → i < 6 → ∀ n, zOwnS i n → ¬ own n) (hg3 : ∀ i, c2 ≤ i → i < 2 → ∀ n, zOwnH i n → ¬ own n) : zIni S2 a2 c2 := by
  obtain ⟨i1, i2, i3, i4, i5, i6, i7, i8, i9, i10, i11, i12, i13, i14, i15, i16⟩ := h
  have a1 : zAg S S2 1 := hf.ag (fun h => by have := ho _ h; omega)
  have a2' : zAg S S2 2 := hf.ag (fun h => by have := ho _ h; omega)
  have a3 : zAg S S2 3 := hf.ag (fun h => by have := ho _ h; omega)
  have a6 : zAg S S2 6 := hf.ag (fun h => by have := ho _ h; omega)
  refine ⟨fun n h1 h2 => (hd n h2).trans (i1 n h1 h2), a1.p i2, a1.p i3, a1.p i4, a1.p i5, a1.p i6, a1.p i7, fun k hk => a1.i (i8 k hk), fun t => a2'.i (i9 t), fun t => a3.p (i10 t), fun i hi => ?_, fun q => a6.i (i12 q), fun i hi => ?_, fun i h1 h2 => ?_, fun i h1 h2 n h3 => ?_, fun n h1 h2 => ?_⟩
  · rcases Nat.lt_or_ge i a with h | h
    · exact ⟨(h4 i h).trans (i11 i h).1, zSsA_fr (i11 i h).2 (fun n hn => hf.ag (hs i h n hn))⟩
    · exact hs2 i h hi
  · rcases Nat.lt_or_ge i c with h | h
    · exact ⟨(h7 i h).trans (i13 i h).1, zGrA_fr (i13 i h).2 (fun n hn => hf.ag (hg i h n hn))⟩
    · exact hg2 i h hi
  · obtain ⟨j1, j2, j3⟩ := i14 i (by omega) h2
    exact ⟨(hf.1 _ (hs3 i h1 h2 _ (Or.inl rfl))).trans j1, (hf.1 _ (hs3 i h1 h2 _ (Or.inr (Or.inl rfl)))).trans j2, (hf.1 _ (hs3 i h1 h2 _ (Or.inr (Or.inr rfl)))).trans j3⟩
  · exact (hf.1 _ (hg3 i h1 h2 n h3)).trans (i15 i (by omega) h2 n h3)
  · exact (hf.1 _ (fun h => by have := ho _ h; omega)).trans (i16 n h1 h2)
theorem zIni_s {S S2 : zS} {k c : Nat} (h : zIni S k c) (hk : k < 6) (hz : ∀ n, S.1 n = false → ∀ k, S.2.1 n k = 0 ∧ S.2.2.1 n k = none ∧ S.2.2.2 n k = 0)
    (hS2 : S2 = zsp (zsp (zadd (zsp (zadd (zsi (zadd S (10 + k)) (10 + k) 0 (-1)) (20 + k)) (10 + k) 2 (some (20 + k))) (30 + k)) (10 + k) 3 (some (30 + k))) 4 k (some (10 + k))) : zIni S2 (k + 1) c ∧ zfr zOwnB S S2 := by
  obtain ⟨n1, n2, n3⟩ := h.2.2.2.2.2.2.2.2.2.2.2.2.2.1 k (Nat.le_refl _) hk
  have hf : zfr (fun n => n = 4 ∨ zOwnS k n) S S2 := by
    rw [hS2]
    have p1 : (fun n => n = 4 ∨ zOwnS k n) (10 + k) := Or.inr (Or.inl rfl)
    have p2 : (fun n => n = 4 ∨ zOwnS k n) (20 + k) := Or.inr (Or.inr (Or.inl rfl))
    have p3 : (fun n => n = 4 ∨ zOwnS k n) (30 + k) := Or.inr (Or.inr (Or.inr rfl))
    exact ((((((zfr.add p1).tr (zfr.i p1)).tr (zfr.add p2)).tr (zfr.p p1)).tr (zfr.add p3)).tr (zfr.p p1)).tr (zfr.p (Or.inl rfl))
  refine ⟨zIni_fr h hf (fun i hi => ?_) (fun i hi => (hf.ag (by unfold zOwnS; omega)).p rfl) (fun n hn => ?_) (fun n h => ?_) (fun i hi n h1 h2 => ?_) (fun i hi n h1 h2 => ?_) (Nat.le_succ _) (Nat.le_refl _) (fun i h1 h2 => ?_) (fun i h1 h2 => by omega) (fun i h1 h2 n h3 h4 => ?_) (fun i h1 h2 n h3 h4 => ?_), hf.ownB (fun n h => by unfold zOwnS at h; omega)⟩
  · rw [hS2]; exact rp_p (Or.inr (by omega)) (rp_p (Or.inl (by omega)) (rp_p (Or.inl (by omega)) rfl))
  · rw [hS2]; exact (zadd_n (by omega)).trans ((zadd_n (by omega)).trans (zadd_n (by omega)))
  · unfold zOwnS at h; omega
  · unfold zOwnS at h1 h2; omega
  · unfold zOwnH at h1; unfold zOwnS at h2; omega
  · have e : i = k := by omega
    subst e
    refine ⟨by rw [hS2]; exact rp_s, ?_⟩
    refine ⟨?_, ?_, ?_, ?_, ?_, ?_, ?_, fun t ht => ?_, fun t ht => ?_⟩
    · rw [hS2]; exact zadd_t (zadd_t zadd_s)
    · rw [hS2]; exact zadd_t zadd_s
    · rw [hS2]; exact zadd_s
    · rw [hS2]; exact rd_ip (rd_ip (rd_ip rd_s))
    · rw [hS2]; exact rd_ip (rd_ip (rd_ip (rd_i (Or.inr (by decide)) ((hz _ n1 1).1.trans nI_0.symm))))
    · rw [hS2]; exact rp_p (Or.inl (by omega)) (rp_p (Or.inr (by decide)) rp_s)
    · rw [hS2]; exact rp_p (Or.inl (by omega)) rp_s
    · rw [hS2]; exact rd_ip (rd_ip (rd_ip (rd_i (Or.inl (by omega)) ((hz _ n2 t).1.trans nI_0.symm))))
    · rw [hS2]; exact rd_ip (rd_ip (rd_ip (rd_i (Or.inl (by omega)) ((hz _ n3 t).1))))
  · unfold zOwnS at h3 h4; omega
  · unfold zOwnH at h3; unfold zOwnS at h4; omega
theorem zIni_g {S S2 : zS} {a k : Nat} (h : zIni S a k) (ha : a ≤ 6) (hk : k < 2) (hz : ∀ n, S.1 n = false → ∀ k, S.2.1 n k = 0 ∧ S.2.2.1 n k = none ∧ S.2.2.2 n k = 0)
    (hS2 : S2 = zsp (zfil (zfil (zsp (zadd (zsp (zadd (zsp (zadd (zsp (zadd (zadd S (40 + k)) (42 + k)) (40 + k) 1 (some (42 + k))) (44 + k)) (40 + k) 2 (some (44 + k))) (46 + k)) (40 + k) 3 (some (46 + k))) (48 + k)) (40 + k) 4 (some (48 + k))) (42 + k) 4 (-1)) (44 + k) 12 (-1)) 7 k (some (40 + k))) : zIni S2 a (k + 1) ∧ zfr zOwnB S S2 := by
  have hn := h.2.2.2.2.2.2.2.2.2.2.2.2.2.2.1 k (Nat.le_refl _) hk
  have n0 := hn _ (Or.inl rfl)
  have n1 := hn _ (Or.inr (Or.inl rfl))
  have n2 := hn _ (Or.inr (Or.inr (Or.inl rfl)))
  have n3 := hn _ (Or.inr (Or.inr (Or.inr (Or.inl rfl))))
  have n4 := hn _ (Or.inr (Or.inr (Or.inr (Or.inr rfl))))
  have p1 : (fun n => n = 7 ∨ zOwnH k n) (40 + k) := Or.inr (Or.inl rfl)
  have p2 : (fun n => n = 7 ∨ zOwnH k n) (42 + k) := Or.inr (Or.inr (Or.inl rfl))
  have p3 : (fun n => n = 7 ∨ zOwnH k n) (44 + k) := Or.inr (Or.inr (Or.inr (Or.inl rfl)))
  have p4 : (fun n => n = 7 ∨ zOwnH k n) (46 + k) := Or.inr (Or.inr (Or.inr (Or.inr (Or.inl rfl))))
  have p5 : (fun n => n = 7 ∨ zOwnH k n) (48 + k) := Or.inr (Or.inr (Or.inr (Or.inr (Or.inr rfl))))
  have hf : zfr (fun n => n = 7 ∨ zOwnH k n) S S2 := by
    rw [hS2]
    exact (((((((((((zfr.add p1).tr (zfr.add p2)).tr (zfr.p p1)).tr (zfr.add p3)).tr (zfr.p p1)).tr (zfr.add p4)).tr (zfr.p p1)).tr (zfr.add p5)).tr (zfr.p p1)).tr (zfr.fil p2)).tr (zfr.fil p3)).tr (zfr.p (Or.inl rfl))
  refine ⟨zIni_fr h hf (fun i hi => (hf.ag (by unfold zOwnH; omega)).p rfl) (fun i hi => ?_) (fun n hn => ?_) (fun n h => ?_) (fun i hi n h1 h2 => ?_) (fun i hi n h1 h2 => ?_) (Nat.le_refl _) (Nat.le_succ _) (fun i h1 h2 => by omega) (fun i h1 h2 => ?_) (fun i h1 h2 n h3 h4 => ?_) (fun i h1 h2 n h3 h4 => ?_), hf.ownB (fun n h => by unfold zOwnH at h; omega)⟩
  · rw [hS2]; exact rp_p (Or.inr (by omega)) (rp_p (Or.inl (by omega)) (rp_p (Or.inl (by omega)) (rp_p (Or.inl (by omega)) (rp_p (Or.inl (by omega)) rfl))))
  · rw [hS2]; exact (zadd_n (by omega)).trans ((zadd_n (by omega)).trans ((zadd_n (by omega)).trans ((zadd_n (by omega)).trans (zadd_n (by omega)))))
  · unfold zOwnH at h; omega
  · unfold zOwnS at h1; unfold zOwnH at h2; omega
  · unfold zOwnH at h1 h2; omega
  · have e : i = k := by omega
    subst e
    refine ⟨by rw [hS2]; exact rp_s, ?_⟩
    refine ⟨?_, ?_, ?_, ?_, ?_, ?_, ?_, ?_, ?_, ?_, fun t ht => ?_, fun t ht => ?_, fun t ht => ?_, fun t ht => ?_⟩
    · rw [hS2]; exact zadd_t (zadd_t (zadd_t (zadd_t zadd_s)))
    · rw [hS2]; exact zadd_t (zadd_t (zadd_t zadd_s))
    · rw [hS2]; exact zadd_t (zadd_t zadd_s)
    · rw [hS2]; exact zadd_t zadd_s
    · rw [hS2]; exact zadd_s
    · rw [hS2]; exact rd_ip ((zfil_out (Or.inl (by omega))).trans ((zfil_out (Or.inl (by omega))).trans (rd_ip (rd_ip (rd_ip (rd_ip (hz _ n0 0).1))))))
    · rw [hS2]; exact rp_p (Or.inl (by omega)) (rp_p (Or.inr (by decide)) (rp_p (Or.inr (by decide)) (rp_p (Or.inr (by decide)) rp_s)))
    · rw [hS2]; exact rp_p (Or.inl (by omega)) (rp_p (Or.inr (by decide)) (rp_p (Or.inr (by decide)) rp_s))
    · rw [hS2]; exact rp_p (Or.inl (by omega)) (rp_p (Or.inr (by decide)) rp_s)
    · rw [hS2]; exact rp_p (Or.inl (by omega)) rp_s
    · rw [hS2]; exact rd_ip ((zfil_out (Or.inl (by omega))).trans (zfil_in ht))
    · rw [hS2]; exact rd_ip (zfil_in ht)
    · rw [hS2]; exact rd_ip ((zfil_out (Or.inl (by omega))).trans ((zfil_out (Or.inl (by omega))).trans (rd_ip (rd_ip (rd_ip (rd_ip ((hz _ n3 t).1.trans nI_0.symm)))))))
    · rw [hS2]; exact rd_ip ((zfil_out (Or.inl (by omega))).trans ((zfil_out (Or.inl (by omega))).trans (rd_ip (rd_ip (rd_ip (rd_ip ((hz _ n4 t).1.trans nI_0.symm)))))))
  · unfold zOwnS at h3; unfold zOwnH at h4; omega
  · unfold zOwnH at h3 h4; omega
theorem zIni_end {S : zS} (h : zIni S 6 2) : zBrA (zfil S 5 4 (-1)) zBr0 ∧ zfr zOwnB S (zfil S 5 4 (-1)) := by
  have hf : zfr (fun n => n = 5) S (zfil S 5 4 (-1)) := zfr.fil rfl
  obtain ⟨i1, i2, i3, i4, i5, i6, i7, i8, i9, i10, i11, i12, i13, i14, i15, i16⟩ := zIni_fr h hf (fun _ _ => rfl) (fun _ _ => rfl) (fun _ _ => rfl) (fun n h => by omega) (fun i hi n h1 h2 => by unfold zOwnS at h1; omega) (fun i hi n h1 h2 => by unfold zOwnH at h1; omega) (Nat.le_refl _) (Nat.le_refl _) (fun i h1 h2 => by omega) (fun i h1 h2 => by omega) (fun i h1 h2 => by omega) (fun i h1 h2 => by omega)
  have hx : ∀ t, ¬ zEx zBr0 t := fun t h => Nat.not_lt_zero _ h.2
  refine ⟨⟨⟨i1, i2, i3, i4, i5, i6, i7, i8 6 (by omega), i8 7 (by omega), i8 8 (by omega), i8 9 (by omega), i8 10 (by omega), fun t ht => (i9 t).trans nI_0.symm, fun t ht => (i10 t).trans (if_neg (Nat.not_lt_zero _)).symm, fun i hi => (i11 i hi).1, fun q hq => zfil_in hq, fun q hq => i12 q, fun i hi => (i13 i hi).1⟩, fun t ht => absurd ht (hx t), fun i hi => (i11 i hi).2, fun i hi => (i13 i hi).2, fun t ht _ => ⟨i16 _ (by omega) (by omega), i16 _ (by omega) (by omega), fun o ho => i16 _ (by omega) (by omega)⟩, fun t ht => absurd ht (hx t)⟩, hf.ownB (fun n h => by omega)⟩
theorem zMet_g {l : Launch} {D : va_G} {cl : List vw_C} {K : zK} {dA : Nat → ClassId} {G G2 : (Nat → Prop) → State → Prop} {y : MethodName} {ws : List Cond} {rm : Room} {mc ms : Nat} {As : List Value} {S : zS} {Post : Option Value → zS → Prop} {PX : String → zS → Prop} (hG : ∀ A s, G2 A s → G A s) (h : zMet l D cl K dA G y ws rm mc ms As S Post PX) : zMet l D cl K dA G2 y ws rm mc ms As S Post PX :=
  fun A ad hoA p e h1 h2 h3 s m args below h4 h5 h6 h7 => h A ad hoA p e h1 h2 h3 s m args below h4 h5 ⟨h6.1, h6.2.1, h6.2.2.1, hG _ _ h6.2.2.2⟩ h7
/-- the broker's link to its session's constructor, a nest mate's -/
def zNest : Cond := .methodLinkNest "LogBroker" 37 yS_init "LogBroker"
def zG1 (D : va_G) (dA : Nat → ClassId) : (Nat → Prop) → State → Prop := fun A s => zG0 D dA A s ∧ va_Nw zNest s
theorem zG1_m {D : va_G} {dA : Nat → ClassId} : zGm (zG1 D dA) := fun A s t hW hz hk h => ⟨zG0_m A s t hW hz hk h.1, va_Nw.warmM hW h.2⟩
theorem zG1_K {D : va_G} {dA : Nat → ClassId} (A : Nat → Prop) (s : State) (h : zG1 D dA A s) : va_K D vwCl (ztys dA) s := h.1.1
theorem zG1_0 {D : va_G} {dA : Nat → ClassId} (A : Nat → Prop) (s : State) (h : zG1 D dA A s) : zG0 D dA A s := h.1
section ZN
variable {p : Program} {l : Launch} {e : Env} {R : Room} {s : State} {m : MethodId} {args : Array Value} {below : List Frame} {meth : Method} {c : Code} {kc ks : Nat} {Q : State → Prop}
variable {D : va_G} {cl : List vw_C} {K : zK} {dA : Nat → ClassId} {A : Nat → Prop} {O : (Nat → Nat) × zS} {cc : ByteArray} {nL : Nat} {own : String} {Ts : List Cond} {tys : List (ClassId × FieldType)} {G : (Nat → Prop) → State → Prop} {S : zS} {pc : Nat} {L : List (Nat × Value)} {st : List Value}
theorem z_callIN (X : zX p s m args c D cl K A cc nL own Ts tys G) (hG : zGm G) {y : MethodName} {host : String} {bytes : ByteArray} {maxL mc ms index nm n : Nat} {ws : List Cond} {rm : Room} {As rest st0 : List Value} {Post : Option Value → zS → Prop} {PX : String → zS → Prop} (hPX : ∀ E S', ¬ PX E S')
    (hM : zMet l D cl K dA G y ws rm mc ms (.ref nm :: As) S Post PX) (cw : va_CN R s args own index y host bytes maxL none ws rm mc ms n ∧ y.name = "<init>" ∧ (Cond.instanceMethod y).before args s = true) (hn : As.length = n) (hst : As.reverse ++ .ref nm :: rest = st0)
    (hw : (rest.map fun v => v.category).sum ≤ 8) (hd : decode cc pc = .ok (.invokespecial index, 3)) (hf : kc + mc ≤ R.cells ∧ ks + ms ≤ R.slots)
    (kk : ∀ (v : Option Value) (S' : zS), Post v S' → AW p l e R s m args below meth c D cl K dA A O nL S' (kc + mc) (ks + ms) Q (pc + 3) L (v.toList ++ rest)) : AW p l e R s m args below meth c D cl K dA A O nL S kc ks Q pc L st0 := by
  intro ad H locs ls hH hS hl ho
  have hoA : ∀ v ∈ (Value.ref nm :: As), zo S v := fun v hv => ho.2 v (by
    rw [← hst]
    rcases List.mem_cons.mp hv with e9 | h9
    · rw [e9]; exact List.mem_append_right _ List.mem_cons_self
    · exact List.mem_append_left _ (List.mem_reverse.mpr h9))
  have hor : zok S L rest := ⟨ho.1, fun v hv => ho.2 v (by rw [← hst]; exact List.mem_append_right _ (List.mem_cons_of_mem _ hv))⟩
  have hr := va_runIN (locs := locs) (cells := kc) (slots := ks) (e := e) (below := below) (meth := meth) (g := F0 m pc ls (st0.map (zv ad))) (rest := rest.map (zv ad)) (As := As.map (zv ad)) (b := ad nm) ⟨X.1, X.2.1, X.2.2.1, X.2.2.2.1, X.2.2.2.2.1⟩ (z_toMet (fun E st t h => h.1.elim fun a h => h.elim fun b h => hPX E b h.1) (hM A ad hoA)) cw ⟨zPc_blind hG, fun U hU hW => ⟨rfl, by rw [hU]; exact ⟨zext.rf, hH.2⟩, fun q hq => X.2.2.2.2.2.2.1 q (Nat.le_trans hS.1 (by rw [← hU]; exact hq)), hG A s U hW (by rw [hU]; exact hS.1) (fun q h1 h2 => by rw [hU]; exact hS.2.1 q h1 h2) X.2.2.2.2.2.2.2.2⟩⟩ rfl (by rw [List.length_map]; exact hn) hl.1 (z_rev hst) (lv_room (z_room hw)) hd hf
  exact z_run (PX := PX) (fun T hT X9 => Or.inl (hr T hT X9)) hH hS hl hor kk (fun E S' h => absurd h (hPX E S'))
end ZN
theorem w_IN {R : Room} {s : State} {args : Array Value} {own host : String} {index maxL mc ms n : Nat} {y : MethodName} {bytes : ByteArray} {rm : Room} {c0 : Cond} (hts : ∀ w ∈ c0 :: zTs, w.before args s = true) (h1 : va_Nw (.methodLinkNest own index y host) s) (h2 : Cond.instanceMethod y ∈ zTs) (h4 : Cond.initialized y.cls ∈ zTs) (h5 : Cond.code y bytes maxL none ∈ zTs) (hrc : rm.cells = mc) (hrs : rm.slots = ms) (hy : y.name = "<init>")
    (hd : y.cls ≠ "java/lang/invoke/MethodHandle" ∧ y.cls ≠ "java/lang/invoke/VarHandle" ∧ (parseMethodDescriptor y.desc).map (fun d => d.parameters.length) = some n) (hR : rm.frames + 1 ≤ R.frames ∧ 8 + (maxL + 11) + rm.locals ≤ R.locals) : va_CN R s args own index y host bytes maxL none (Cond.code y bytes maxL none :: zTs) rm mc ms n ∧ y.name = "<init>" ∧ (Cond.instanceMethod y).before args s = true :=
  ⟨va_cnB n hts (w_good (fun w hw => by
    rcases List.mem_cons.mp hw with e | h
    · rw [e]; exact h5
    · exact h)) rfl hrc hrs h1 (hts _ (List.mem_cons_of_mem _ h4)) hd hR, hy, hts _ (List.mem_cons_of_mem _ h2)⟩
