/-! KINDS of the names; what stands outside the store; helpers (by program) -/
def zkd (n : Nat) : Nat ⊕ (Nat × Nat) :=
  if n < 1 then .inr (999, 0) else
  if n < 2 then .inl 4 else
  if n < 3 then .inr (0, 3) else
  if n < 4 then .inr (3, 12) else
  if n < 5 then .inr (4, 6) else
  if n < 7 then .inr (0, 4) else
  if n < 8 then .inr (5, 2) else
  if n < 10 then .inr (999, 0) else
  if n < 16 then .inl 2 else
  if n < 20 then .inr (999, 0) else
  if n < 26 then .inr (0, 12) else
  if n < 30 then .inr (999, 0) else
  if n < 36 then .inr (0, 36) else
  if n < 40 then .inr (999, 0) else
  if n < 42 then .inl 3 else
  if n < 44 then .inr (0, 4) else
  if n < 50 then .inr (0, 12) else
  if n < 60 then .inr (999, 0) else
  if n < 72 then .inl 1 else
  if n < 80 then .inr (999, 0) else
  if n < 92 then .inr (6, 60) else
  if n < 200 then .inr (999, 0) else
  if n < 920 then .inl 0 else
  if n < 1000 then .inr (999, 0) else
  if n < 1001 then .inl 5 else
  if n < 1002 then .inr (0, 3) else
  if n < 1003 then .inr (0, 3) else
  if n < 1004 then .inr (0, 3) else
  if n < 1005 then .inr (1, 3) else
  if n < 1006 then .inr (0, 12) else
  if n < 1007 then .inr (0, 12) else
  if n < 1008 then .inr (0, 720) else
  if n < 1009 then .inr (0, 720) else
  if n < 1010 then .inr (0, 720) else
  if n < 1011 then .inr (0, 720) else
  if n < 1012 then .inr (0, 720) else
  if n < 1013 then .inr (0, 720) else
  if n < 1014 then .inr (0, 6) else
  if n < 1015 then .inr (0, 72) else
  if n < 1016 then .inr (0, 216) else
  if n < 1017 then .inr (1, 6) else
  if n < 1018 then .inr (0, 4) else
  if n < 1019 then .inr (0, 4) else
  if n < 1020 then .inr (0, 8) else
  if n < 1021 then .inr (0, 2) else
  if n < 1022 then .inr (0, 24) else
  if n < 1023 then .inr (0, 24) else
  if n < 2000 then .inr (999, 0) else
  if n < 2001 then .inr (2, 1) else .inr (999, 0)
def zft (c k : Nat) : Bool := match c, k with
  | 1, 3 => true
  | 2, 2 => true
  | 2, 3 => true
  | 3, 1 => true
  | 3, 2 => true
  | 3, 3 => true
  | 3, 4 => true
  | 4, 0 => true
  | 4, 1 => true
  | 4, 2 => true
  | 4, 3 => true
  | 4, 4 => true
  | 4, 5 => true
  | 5, 0 => true
  | 5, 1 => true
  | 5, 2 => true
  | 5, 3 => true
  | 5, 4 => true
  | 5, 5 => true
  | 5, 6 => true
  | 5, 7 => true
  | 5, 8 => true
  | 5, 9 => true
  | 5, 10 => true
  | 5, 11 => true
  | 5, 12 => true
  | 5, 13 => true
  | 5, 14 => true
  | 5, 15 => true
  | 5, 16 => true
  | 5, 17 => true
  | 5, 18 => true
  | 5, 19 => true
  | 5, 20 => true
  | 5, 21 => true
  | _, _ => false
def znf (c : Nat) : Nat := match c with
  | 0 => 5
  | 1 => 9
  | 2 => 4
  | 3 => 5
  | 4 => 11
  | 5 => 28
  | _ => 0
abbrev zKK : zK := (zkd, zft, znf)
def ztys (dA : Nat → ClassId) : List (ClassId × FieldType) := [(dA 0, .int), (dA 1, .boolean), (dA 2, .long), (dA 3, .object "LogBroker$Log"), (dA 4, .object "LogBroker$Session"), (dA 5, .object "LogBroker$Group"), (dA 6, .object "LogBroker$Entry")]
theorem kd_G {tp : Nat} (h : tp < 12) : zKK.1 (60 + tp) = .inl 1 := by
  show zkd (60 + tp) = _
  unfold zkd
  repeat (first | rw [if_pos (by omega)] | rw [if_neg (by omega)])
theorem kd_GA {tp : Nat} (h : tp < 12) : zKK.1 (80 + tp) = .inr (6, 60) := by
  show zkd (80 + tp) = _
  unfold zkd
  repeat (first | rw [if_pos (by omega)] | rw [if_neg (by omega)])
theorem kd_E {tp o : Nat} (h : tp < 12) (h2 : o < 60) : zKK.1 (200 + 60 * tp + o) = .inl 0 := by
  show zkd (200 + 60 * tp + o) = _
  unfold zkd
  repeat (first | rw [if_pos (by omega)] | rw [if_neg (by omega)])
theorem kd_S {s : Nat} (h : s < 6) : zKK.1 (10 + s) = .inl 2 := by
  show zkd (10 + s) = _
  unfold zkd
  repeat (first | rw [if_pos (by omega)] | rw [if_neg (by omega)])
theorem kd_SE {s : Nat} (h : s < 6) : zKK.1 (20 + s) = .inr (0, 12) := by
  show zkd (20 + s) = _
  unfold zkd
  repeat (first | rw [if_pos (by omega)] | rw [if_neg (by omega)])
theorem kd_SO {s : Nat} (h : s < 6) : zKK.1 (30 + s) = .inr (0, 36) := by
  show zkd (30 + s) = _
  unfold zkd
  repeat (first | rw [if_pos (by omega)] | rw [if_neg (by omega)])
theorem kd_H {g : Nat} (h : g < 2) : zKK.1 (40 + g) = .inl 3 := by
  show zkd (40 + g) = _
  unfold zkd
  repeat (first | rw [if_pos (by omega)] | rw [if_neg (by omega)])
theorem kd_HT {g : Nat} (h : g < 2) : zKK.1 (42 + g) = .inr (0, 4) := by
  show zkd (42 + g) = _
  unfold zkd
  repeat (first | rw [if_pos (by omega)] | rw [if_neg (by omega)])
theorem kd_HO {g : Nat} (h : g < 2) : zKK.1 (44 + g) = .inr (0, 12) := by
  show zkd (44 + g) = _
  unfold zkd
  repeat (first | rw [if_pos (by omega)] | rw [if_neg (by omega)])
theorem kd_HP {g : Nat} (h : g < 2) : zKK.1 (46 + g) = .inr (0, 12) := by
  show zkd (46 + g) = _
  unfold zkd
  repeat (first | rw [if_pos (by omega)] | rw [if_neg (by omega)])
theorem kd_HK {g : Nat} (h : g < 2) : zKK.1 (48 + g) = .inr (0, 12) := by
  show zkd (48 + g) = _
  unfold zkd
  repeat (first | rw [if_pos (by omega)] | rw [if_neg (by omega)])
def zcast : List (String × String) := [("java/lang/IllegalArgumentException", "java/lang/IllegalArgumentException"), ("java/lang/IllegalStateException", "java/lang/IllegalStateException"), ("java/lang/UnsupportedOperationException", "java/lang/UnsupportedOperationException"), ("java/util/NoSuchElementException", "java/util/NoSuchElementException"), ("java/lang/IndexOutOfBoundsException", "java/lang/IndexOutOfBoundsException")]
def zdecl : List MethodName := [⟨"java/lang/RuntimeException", "<init>", "(Ljava/lang/String;)V"⟩, ⟨"java/lang/Exception", "<init>", "(Ljava/lang/String;)V"⟩, ⟨"java/lang/Throwable", "<init>", "(Ljava/lang/String;)V"⟩]
def ztexts : List (String × Nat × String) := [("LogBroker", 51, "the topic is there"), ("LogBroker", 67, "it has an open transaction for another producer"), ("LogBroker", 86, "the number is below 0"), ("LogBroker", 100, "the number is neither expected nor remembered"), ("LogBroker", 118, "no room in the log"), ("LogBroker", 134, "a transaction is open"), ("LogBroker", 136, "no transaction is open"), ("LogBroker", 153, "the offset is out of the log"), ("LogBroker", 170, "the record is gone"), ("LogBroker", 189, "the topic is not compacted"), ("LogBroker", 198, "the topic is none"), ("LogBroker", 207, "the member is not in the group"), ("LogBroker", 251, "a number is out of range"), ("LogBroker", 253, "the partition is not there"), ("LogBroker", 255, "no such session"), ("LogBroker", 257, "the session is fenced"), ("LogBroker", 259, "there is none"), ("LogBroker", 261, "another generation, or not the member's partition"), ("LogBroker", 266, "no room for a marker")]
def zover : List String := ["LogBroker$Log", "LogBroker$Session", "LogBroker$Group", "LogBroker$Entry"]
def znc : List (String × String) := [("java/lang/IllegalArgumentException", "java/lang/IllegalStateException"), ("java/lang/IllegalArgumentException", "java/lang/UnsupportedOperationException"), ("java/lang/IllegalArgumentException", "java/util/NoSuchElementException"), ("java/lang/IllegalArgumentException", "java/lang/IndexOutOfBoundsException"), ("java/lang/IllegalStateException", "java/lang/IllegalArgumentException"), ("java/lang/IllegalStateException", "java/lang/UnsupportedOperationException"), ("java/lang/IllegalStateException", "java/util/NoSuchElementException"), ("java/lang/IllegalStateException", "java/lang/IndexOutOfBoundsException"), ("java/lang/UnsupportedOperationException", "java/lang/IllegalArgumentException"), ("java/lang/UnsupportedOperationException", "java/lang/IllegalStateException"), ("java/lang/UnsupportedOperationException", "java/util/NoSuchElementException"), ("java/lang/UnsupportedOperationException", "java/lang/IndexOutOfBoundsException"), ("java/util/NoSuchElementException", "java/lang/IllegalArgumentException"), ("java/util/NoSuchElementException", "java/lang/IllegalStateException"), ("java/util/NoSuchElementException", "java/lang/UnsupportedOperationException"), ("java/util/NoSuchElementException", "java/lang/IndexOutOfBoundsException"), ("java/lang/IndexOutOfBoundsException", "java/lang/IllegalArgumentException"), ("java/lang/IndexOutOfBoundsException", "java/lang/IllegalStateException"), ("java/lang/IndexOutOfBoundsException", "java/lang/UnsupportedOperationException"), ("java/lang/IndexOutOfBoundsException", "java/util/NoSuchElementException")]
def zG0 (D : va_G) (dA : Nat → ClassId) : (Nat → Prop) → State → Prop := zG D vwCl (ztys dA) zcast zdecl ztexts zover znc
theorem zG0_m {D : va_G} {dA : Nat → ClassId} : zGm (zG0 D dA) := zG_m
theorem zG0_K {D : va_G} {dA : Nat → ClassId} (A : Nat → Prop) (s : State) (h : zG0 D dA A s) : va_K D vwCl (ztys dA) s := h.1
theorem w_m {c0 w : Cond} (h : w ∈ zTs) : w ∈ c0 :: zTs := List.mem_cons_of_mem _ h
theorem w_in {c0 : Cond} {ws : List Cond} (h : ∀ w ∈ ws, w ∈ zTs) : ∀ w ∈ ws, w ∈ c0 :: zTs := fun w hw => List.mem_cons_of_mem _ (h w hw)
theorem w_good {c0 : Cond} {ws : List Cond} (h : ∀ w ∈ ws, w ∈ zTs) : GoodIn (c0 :: zTs) ws := fun w hw => ⟨List.mem_cons_of_mem _ (h w hw), zTs_good (h w hw)⟩
theorem w_V {R : Room} {s : State} {args : Array Value} {own C : String} {index maxL mc ms n : Nat} {y : MethodName} {bytes : ByteArray} {ret : Option FieldType} {rm : Room} {c0 : Cond} (hts : ∀ w ∈ c0 :: zTs, w.before args s = true) (h1 : Cond.methodLink own index y ∈ zTs) (h2 : Cond.instanceMethod y ∈ zTs) (h3 : Cond.selects C y y ∈ zTs) (h4 : Cond.initialized C ∈ zTs) (h5 : Cond.code y bytes maxL ret ∈ zTs) (hrc : rm.cells = mc) (hrs : rm.slots = ms)
    (hd : y.cls = C ∧ y.cls ≠ "java/lang/invoke/MethodHandle" ∧ y.cls ≠ "java/lang/invoke/VarHandle" ∧ (parseMethodDescriptor y.desc).map (fun d => d.parameters.length) = some n) (hR : rm.frames + 1 ≤ R.frames ∧ 8 + (maxL + 11) + rm.locals ≤ R.locals) : CallW R s args own C index y bytes maxL ret (Cond.code y bytes maxL ret :: zTs) rm mc ms n :=
  cwV n hts (w_good (fun w hw => by
    rcases List.mem_append.mp hw with h | h
    · simp only [List.mem_cons, List.not_mem_nil, or_false] at h
      rcases h with e | e | e | e <;> rw [e] <;> assumption
    · rcases List.mem_cons.mp h with e | h
      · rw [e]; exact h5
      · exact h)) rfl hrc hrs hd hR
theorem w_S {R : Room} {s : State} {args : Array Value} {own : String} {index maxL mc ms n : Nat} {y : MethodName} {bytes : ByteArray} {ret : Option FieldType} {rm : Room} {c0 : Cond} (hts : ∀ w ∈ c0 :: zTs, w.before args s = true) (h1 : Cond.methodLink own index y ∈ zTs) (h2 : Cond.static y ∈ zTs) (h4 : Cond.initialized y.cls ∈ zTs) (h5 : Cond.code y bytes maxL ret ∈ zTs) (hrc : rm.cells = mc) (hrs : rm.slots = ms)
    (hd : y.cls ≠ "java/lang/invoke/MethodHandle" ∧ y.cls ≠ "java/lang/invoke/VarHandle" ∧ (parseMethodDescriptor y.desc).map (fun d => d.parameters.length) = some n) (hR : rm.frames + 1 ≤ R.frames ∧ 8 + (maxL + 11) + rm.locals ≤ R.locals) : CallB R s args own index y bytes maxL ret (Cond.code y bytes maxL ret :: zTs) rm mc ms n ∧ (Cond.static y).before args s = true :=
  va_cwS n hts (w_good (fun w hw => by
    rcases List.mem_append.mp hw with h | h
    · simp only [List.mem_cons, List.not_mem_nil, or_false] at h
      rcases h with e | e | e <;> rw [e] <;> assumption
    · rcases List.mem_cons.mp h with e | h
      · rw [e]; exact h5
      · exact h)) rfl hrc hrs hd hR
theorem w_I {R : Room} {s : State} {args : Array Value} {own : String} {index maxL mc ms n : Nat} {y : MethodName} {bytes : ByteArray} {rm : Room} {c0 : Cond} (hts : ∀ w ∈ c0 :: zTs, w.before args s = true) (h1 : Cond.methodLink own index y ∈ zTs) (h2 : Cond.instanceMethod y ∈ zTs) (h4 : Cond.initialized y.cls ∈ zTs) (h5 : Cond.code y bytes maxL none ∈ zTs) (hrc : rm.cells = mc) (hrs : rm.slots = ms) (hy : y.name = "<init>")
    (hd : y.cls ≠ "java/lang/invoke/MethodHandle" ∧ y.cls ≠ "java/lang/invoke/VarHandle" ∧ (parseMethodDescriptor y.desc).map (fun d => d.parameters.length) = some n) (hR : rm.frames + 1 ≤ R.frames ∧ 8 + (maxL + 11) + rm.locals ≤ R.locals) : CallB R s args own index y bytes maxL none (Cond.code y bytes maxL none :: zTs) rm mc ms n ∧ y.name = "<init>" ∧ (Cond.instanceMethod y).before args s = true :=
  cwI n hts (w_good (fun w hw => by
    rcases List.mem_cons.mp hw with e | h
    · rw [e]; exact h5
    · exact h)) rfl hrc hrs (hts _ (w_m h4)) (hts _ (w_m h1)) (hts _ (w_m h2)) hy hd hR
/-- reading behind a write -/
theorem rd_s {S : zS} {n k : Nat} {x : Int32} : (zsi S n k x).2.1 n k = x := z2_s
theorem rd_i {S : zS} {n k a b : Nat} {x v : Int32} (h : a ≠ n ∨ b ≠ k) (hv : S.2.1 a b = v) : (zsi S n k x).2.1 a b = v := (z2_n h).trans hv
theorem rd_ip {S : zS} {n k a b : Nat} {r : Option Nat} {v : Int32} (hv : S.2.1 a b = v) : (zsp S n k r).2.1 a b = v := hv
theorem rp_s {S : zS} {n k : Nat} {r : Option Nat} : (zsp S n k r).2.2.1 n k = r := z2_s
theorem rp_p {S : zS} {n k a b : Nat} {r v : Option Nat} (h : a ≠ n ∨ b ≠ k) (hv : S.2.2.1 a b = v) : (zsp S n k r).2.2.1 a b = v := (z2_n h).trans hv
theorem rp_i {S : zS} {n k a b : Nat} {x : Int32} {v : Option Nat} (hv : S.2.2.1 a b = v) : (zsi S n k x).2.2.1 a b = v := hv
