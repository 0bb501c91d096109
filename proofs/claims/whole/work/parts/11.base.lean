/-! ===== numbers and truth values ===== -/
noncomputable def bP (p : Prop) : Int32 := @ite _ p (Classical.propDecidable p) 1 0
theorem bP_t {p : Prop} (h : p) : bP p = 1 := if_pos h
theorem bP_f {p : Prop} (h : ¬ p) : bP p = 0 := if_neg h
theorem bP_0 {p : Prop} : bP p = 0 ↔ ¬ p := by
  by_cases h : p
  · rw [bP_t h]; simp [h]
  · rw [bP_f h]; simp [h]
theorem bP_1 {p : Prop} : bP p = 1 ↔ p := by
  by_cases h : p
  · rw [bP_t h]; simp [h]
  · rw [bP_f h]; simp [h]
theorem bP_n {p : Prop} : ¬ bP p = 0 ↔ p := by rw [bP_0]; exact Classical.not_not
theorem bP_or (p : Prop) : bP p = 0 ∨ bP p = 1 := by
  by_cases h : p
  · exact Or.inr (bP_t h)
  · exact Or.inl (bP_f h)
theorem bP_c {p q : Prop} (h : p ↔ q) : bP p = bP q := by rw [propext h]
/-- an answer's claim -/
theorem qi {K : Int32 → zI → zL → zP → Prop} {r : Int32} {I : zI} {L : zL} {P : zP} (h : K r I L P) : (205 : Nat) = 205 ∧ ∃ r', some (Value.int r) = some (Value.int r') ∧ K r' I L P := ⟨rfl, r, rfl, h⟩
theorem ql {K : Int64 → zI → zL → zP → Prop} {r : Int64} {I : zI} {L : zL} {P : zP} (h : K r I L P) : (205 : Nat) = 205 ∧ ∃ r', some (Value.long r) = some (Value.long r') ∧ K r' I L P := ⟨rfl, r, rfl, h⟩
theorem qr {K : Nat → zI → zL → zP → Prop} {r : Nat} {I : zI} {L : zL} {P : zP} (h : K r I L P) : (205 : Nat) = 205 ∧ ∃ r', some (Value.ref r) = some (Value.ref r') ∧ K r' I L P := ⟨rfl, r, rfl, h⟩
theorem qv {K : zI → zL → zP → Prop} {I : zI} {L : zL} {P : zP} (h : K I L P) : (205 : Nat) = 205 ∧ (none : Option Value) = none ∧ K I L P := ⟨rfl, rfl, h⟩
theorem nx_and (a b : Nat) : nI a &&& nI b = nI (a &&& b) := by
  apply Int32.toBitVec_inj.1
  show BitVec.ofNat 32 a &&& BitVec.ofNat 32 b = BitVec.ofNat 32 (a &&& b)
  apply BitVec.eq_of_getLsbD_eq
  intro i hi
  simp [hi]
theorem nx_or (a b : Nat) : nI a ||| nI b = nI (a ||| b) := by
  apply Int32.toBitVec_inj.1
  show BitVec.ofNat 32 a ||| BitVec.ofNat 32 b = BitVec.ofNat 32 (a ||| b)
  apply BitVec.eq_of_getLsbD_eq
  intro i hi
  simp [hi]
theorem nx_xor (a b : Nat) : nI a ^^^ nI b = nI (a ^^^ b) := by
  apply Int32.toBitVec_inj.1
  show BitVec.ofNat 32 a ^^^ BitVec.ofNat 32 b = BitVec.ofNat 32 (a ^^^ b)
  apply BitVec.eq_of_getLsbD_eq
  intro i hi
  simp [hi]
theorem nx_s : ∀ n, n < 32 → ((nI n &&& 31).toBitVec.smod 32).toNat = n := by decide +kernel
theorem nx_mask (n k : Nat) : nI n &&& nI (2 ^ k - 1) = nI (n % 2 ^ k) := by rw [nx_and, Nat.and_two_pow_sub_one_eq_mod]
theorem nx_shl {p k : Nat} (hk : k < 32) (h : p * 2 ^ k < 2 ^ 32) : nI p <<< (nI k &&& 31) = nI (p * 2 ^ k) := pk_shlN _ k (nx_s k hk) h
theorem nx_shr {p k : Nat} (hk : k < 32) (h : p < 2 ^ 31) : nI p >>> (nI k &&& 31) = nI (p / 2 ^ k) := pk_shrN h _ k (nx_s k hk)
theorem nI_zero {a : Nat} (h : a < 2 ^ 31) : nI a = 0 ↔ a = 0 := by
  rw [← nI_0, nI_eq h (by decide)]
theorem nI_one {a : Nat} (h : a < 2 ^ 31) : nI a = 1 ↔ a = 1 := by
  rw [show (1 : Int32) = nI 1 from rfl, nI_eq h (by decide)]
/-- a bit of a number -/
theorem nx_bit {m k : Nat} (hm : m < 2 ^ 31) (hk : k < 31) : ((nI m >>> (nI k &&& 31) : Int32) &&& 1 : Int32) = bP (m.testBit k = true) := by
  rw [nx_shr (by omega) hm, show (1 : Int32) = nI (2 ^ 1 - 1) from rfl, nx_mask]
  have h1 : m.testBit k = decide (m / 2 ^ k % 2 = 1) := Nat.testBit_eq_decide_div_mod_eq
  rw [h1]
  by_cases h : m / 2 ^ k % 2 = 1
  · rw [bP_t (by simpa using h)]
    show nI (m / 2 ^ k % 2) = 1
    rw [h]; rfl
  · rw [bP_f (by simpa using h)]
    show nI (m / 2 ^ k % 2) = 0
    rw [show m / 2 ^ k % 2 = 0 by omega]; rfl
theorem nI_cl {a : Nat} (h : a < 2 ^ 31) : (nI a).toNatClampNeg = a := nI_clamp h
theorem nx_in {a n : Nat} (h : a < n) (hn : n < 2 ^ 31) : vp_in (nI a) n := vp_in_nI h hn
theorem pw8 {k : Nat} (h : k ≤ 8) : 2 ^ k ≤ 256 := Nat.pow_le_pow_right (by decide) h
theorem pw0 (k : Nat) : 0 < 2 ^ k := Nat.pow_pos (by decide)
