/-! sessions -/
/-- a session: its producer, whether a transaction is open, the numbers expected, the offsets remembered -/
abbrev zSn : Type := Int32 × Int32 × (Nat → Nat) × (Nat → Int32)
def zSsA (S : zS) (i : Nat) (u : zSn) : Prop := S.1 (10 + i) = true ∧ S.1 (20 + i) = true ∧ S.1 (30 + i) = true ∧ S.2.1 (10 + i) 0 = u.1 ∧ S.2.1 (10 + i) 1 = u.2.1 ∧ S.2.2.1 (10 + i) 2 = some (20 + i) ∧ S.2.2.1 (10 + i) 3 = some (30 + i) ∧ (∀ t, t < 12 → S.2.1 (20 + i) t = nI (u.2.2.1 t)) ∧ ∀ k, k < 36 → S.2.1 (30 + i) k = u.2.2.2 k
def zOwnS (i n : Nat) : Prop := n = 10 + i ∨ n = 20 + i ∨ n = 30 + i
/-- an array of ints, filled -/
def zfil (S : zS) (n len : Nat) (v : Int32) : zS := (S.1, fun a b => if a = n ∧ b < len then v else S.2.1 a b, S.2.2)
theorem zfil_in {S : zS} {n len b : Nat} {v : Int32} (h : b < len) : (zfil S n len v).2.1 n b = v := if_pos ⟨rfl, h⟩
theorem zfil_out {S : zS} {n len a b : Nat} {v : Int32} (h : a ≠ n ∨ len ≤ b) : (zfil S n len v).2.1 a b = S.2.1 a b := if_neg (fun q => h.elim (fun h => h q.1) (fun h => by omega))
theorem zfr.fil {own : Nat → Prop} {S : zS} {n len : Nat} {v : Int32} (h : own n) : zfr own S (zfil S n len v) := ⟨fun _ _ => rfl, fun a ha => ⟨by
  funext b
  exact zfil_out (Or.inl (fun e => ha (by rw [e]; exact h))), rfl, rfl⟩⟩
theorem zlt3 {k x : Nat} (hk : k < 2 ^ 31) (hx : x < 2 ^ 30) : nI k < nI x - nI 3 ↔ k + 3 < x := by
  rw [Int32.lt_iff_toInt_lt, nI_toInt hk, pk_sub_toInt hx (by decide)]
  omega
