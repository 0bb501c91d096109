/-! ===== guesses: nights in four bits each ===== -/
theorem p2m {a b : Nat} (h : a ≤ b) : 2 ^ a ≤ 2 ^ b := Nat.pow_le_pow_right (by decide) h
def wd (f : Nat → Nat) : Nat → Nat
  | 0 => 0
  | n + 1 => 2 ^ (4 * n) * f n + wd f n
theorem wd_lt {f : Nat → Nat} (h : ∀ p, f p < 16) : ∀ n, wd f n < 2 ^ (4 * n)
  | 0 => by show 0 < 1; decide
  | n + 1 => by
    have ih := wd_lt h n
    have e : 2 ^ (4 * (n + 1)) = 2 ^ (4 * n) * 16 := by rw [show 4 * (n + 1) = 4 * n + 4 by omega, Nat.pow_add]
    have : 2 ^ (4 * n) * f n ≤ 2 ^ (4 * n) * 15 := Nat.mul_le_mul_left _ (by have := h n; omega)
    show 2 ^ (4 * n) * f n + wd f n < _
    rw [e]
    omega
theorem wd_bit {f : Nat → Nat} (h : ∀ p, f p < 16) : ∀ n i, (wd f n).testBit i = (decide (i < 4 * n) && (f (i / 4)).testBit (i % 4))
  | 0, i => by simp [wd]
  | n + 1, i => by
    show (2 ^ (4 * n) * f n + wd f n).testBit i = _
    rw [Nat.testBit_two_pow_mul_add _ (wd_lt h n)]
    by_cases c : i < 4 * n
    · rw [if_pos c, wd_bit h n i, decide_eq_true c, decide_eq_true (show i < 4 * (n + 1) by omega)]
    · rw [if_neg c]
      by_cases c2 : i < 4 * (n + 1)
      · rw [decide_eq_true c2, show i / 4 = n by omega, show i - 4 * n = i % 4 by omega]; rfl
      · rw [decide_eq_false c2, Bool.false_and]
        have : f n < 2 ^ (i - 4 * n) := Nat.lt_of_lt_of_le (h n) (p2m (a := 4) (b := i - 4 * n) (by omega))
        exact Nat.testBit_lt_two_pow this
theorem wd_c {f f' : Nat → Nat} : ∀ {n : Nat}, (∀ p, p < n → f p = f' p) → wd f n = wd f' n
  | 0, _ => rfl
  | n + 1, h => by unfold wd; rw [h n (by omega), wd_c (fun p hp => h p (by omega))]
theorem wd_up {f : Nat → Nat} (h : ∀ p, f p < 16) {n p v : Nat} (hp : p < n) (h0 : f p = 0) (hv : v < 16) : wd f n ||| v * 2 ^ (4 * p) = wd (fun q => if q = p then v else f q) n := by
  have h' : ∀ q, (fun q => if q = p then v else f q) q < 16 := fun q => by show (if q = p then v else f q) < 16; split; exact hv; exact h q
  apply Nat.eq_of_testBit_eq
  intro i
  rw [Nat.testBit_or, wd_bit h, wd_bit h', Nat.testBit_mul_two_pow]
  show _ = (decide (i < 4 * n) && (if i / 4 = p then v else f (i / 4)).testBit (i % 4))
  by_cases e : i / 4 = p
  · rw [if_pos e, e, h0, decide_eq_true (show i < 4 * n by omega), decide_eq_true (show 4 * p ≤ i by omega), show i - 4 * p = i % 4 by omega]
    simp
  · rw [if_neg e]
    by_cases c : 4 * p ≤ i
    · have : v < 2 ^ (i - 4 * p) := Nat.lt_of_lt_of_le hv (p2m (a := 4) (b := i - 4 * p) (by omega))
      rw [Nat.testBit_lt_two_pow this]; simp
    · rw [decide_eq_false c]; simp
theorem wd_ni {f : Nat → Nat} (h : ∀ p, f p < 16) {n p : Nat} (hp : p < n) : wd f n / 2 ^ (4 * p) % 2 ^ 4 = f p := by
  apply Nat.eq_of_testBit_eq
  intro i
  rw [Nat.testBit_mod_two_pow, Nat.testBit_div_two_pow, wd_bit h]
  by_cases c : i < 4
  · rw [decide_eq_true c, decide_eq_true (show i + 4 * p < 4 * n by omega), show (i + 4 * p) / 4 = p by omega, show (i + 4 * p) % 4 = i by omega]
    simp
  · rw [decide_eq_false c, Bool.false_and]
    exact (Nat.testBit_lt_two_pow (Nat.lt_of_lt_of_le (h p) (p2m (a := 4) (b := i) (by omega)))).symm
/-- what goers have, and gone have not -/
theorem andn {G ga : Nat} (hG : G < 256) : (nI G &&& (nI ga ^^^ (-1) : Int32) : Int32) = nI (G &&& (255 ^^^ ga)) := by
  apply Int32.toBitVec_inj.1
  show BitVec.ofNat 32 G &&& (BitVec.ofNat 32 ga ^^^ BitVec.allOnes 32) = BitVec.ofNat 32 (G &&& (255 ^^^ ga))
  apply BitVec.eq_of_getLsbD_eq
  intro i hi
  simp only [BitVec.getLsbD_and, BitVec.getLsbD_xor, BitVec.getLsbD_ofNat, BitVec.getLsbD_allOnes, Nat.testBit_and, Nat.testBit_xor, hi, decide_true, Bool.true_and]
  by_cases h8 : i < 8
  · have : (255 : Nat).testBit i = true := by
      rw [show (255 : Nat) = 2 ^ 8 - 1 from rfl, Nat.testBit_two_pow_sub_one, decide_eq_true h8]
    rw [this]
    cases G.testBit i <;> cases ga.testBit i <;> rfl
  · have : G.testBit i = false := Nat.testBit_lt_two_pow (Nat.lt_of_lt_of_le hG (p2m (a := 8) (b := i) (by omega)))
    rw [this]; rfl
theorem andn_bit {G ga p : Nat} (hG : G < 256) (hp : p < 8) : (((nI G &&& (nI ga ^^^ (-1) : Int32) : Int32) >>> (nI p &&& 31) : Int32) &&& 1 : Int32) = bP (G.testBit p = true ∧ ¬ ga.testBit p = true) := by
  rw [andn hG, nx_bit (Nat.lt_of_le_of_lt Nat.and_le_left (by omega)) (by omega)]
  refine bP_c ?_
  have : (255 : Nat).testBit p = true := by rw [show (255 : Nat) = 2 ^ 8 - 1 from rfl, Nat.testBit_two_pow_sub_one, decide_eq_true hp]
  rw [Nat.testBit_and, Nat.testBit_xor, this]
  cases G.testBit p <;> cases ga.testBit p <;> decide
/-! nights of the reference -/
section NB
variable {M : zI} {inn : Nat → Prop}
theorem fNN_in : ∀ n v w, (fNN M inn n).1 v w → inn v
  | 0, _, _, h => h
  | n + 1, v, w, h => fNN_in n v w h.1
theorem fNN_ga : ∀ n w p, (((fNN M inn n).2 w).testBit p = true ↔ ∃ j, j < n ∧ (fGj M inn j w).testBit p = true)
  | 0, w, p => by
    show (0 : Nat).testBit p = true ↔ _
    rw [Nat.zero_testBit]
    exact ⟨fun h => (by cases h), fun ⟨j, hj, _⟩ => absurd hj (Nat.not_lt_zero j)⟩
  | n + 1, w, p => by
    show ((fNN M inn n).2 w ||| fGj M inn n w).testBit p = true ↔ _
    rw [Nat.testBit_or, Bool.or_eq_true, fNN_ga n w p]
    constructor
    · rintro (⟨j, h1, h2⟩ | h)
      · exact ⟨j, by omega, h2⟩
      · exact ⟨n, by omega, h⟩
    · rintro ⟨j, h1, h2⟩
      rcases Nat.lt_succ_iff_lt_or_eq.mp h1 with z | z
      · exact Or.inl ⟨j, z, h2⟩
      · subst z; exact Or.inr h2
theorem fGj_bit {n w p : Nat} (h : (fGj M inn n w).testBit p = true) : p < vNp M ∧ inn w ∧ ¬ ((fNN M inn n).2 w).testBit p = true := by
  unfold fGj fGe at h
  by_cases q : inn w
  · rw [if_pos q, bset_bit] at h
    exact ⟨h.1, q, h.2.1⟩
  · rw [if_neg q, Nat.zero_testBit] at h; cases h
/-- the night on which p goes in w, of the first n; 0: none -/
noncomputable def nbF (M : zI) (inn : Nat → Prop) (w p : Nat) : Nat → Nat
  | 0 => 0
  | n + 1 => if (fGj M inn n w).testBit p = true then n + 1 else nbF M inn w p n
theorem nbF_0 {w p n : Nat} (h : ¬ ∃ j, j < n ∧ (fGj M inn j w).testBit p = true) : nbF M inn w p n = 0 := by
  induction n with
  | zero => rfl
  | succ n ih =>
    unfold nbF
    rw [if_neg (fun z => h ⟨n, by omega, z⟩)]
    exact ih (fun ⟨j, h1, h2⟩ => h ⟨j, by omega, h2⟩)
theorem nbF_le (w p : Nat) : ∀ n, nbF M inn w p n ≤ n
  | 0 => Nat.le_refl _
  | n + 1 => by
    have := nbF_le w p n
    unfold nbF
    split <;> omega
theorem nbF_go {w p n : Nat} (h : (fGj M inn n w).testBit p = true) : nbF M inn w p n = 0 := nbF_0 (fun z => (fGj_bit h).2.2 ((fNN_ga n w p).mpr z))
theorem nbF_iff {w p : Nat} : ∀ n j, j < n → (nbF M inn w p n = j + 1 ↔ (fGj M inn j w).testBit p = true)
  | 0, j, h => absurd h (Nat.not_lt_zero j)
  | n + 1, j, h => by
    have e : nbF M inn w p (n + 1) = if (fGj M inn n w).testBit p = true then n + 1 else nbF M inn w p n := rfl
    rw [e]
    by_cases c : (fGj M inn n w).testBit p = true
    · rw [if_pos c]
      constructor
      · intro z; rw [show j = n by omega]; exact c
      · intro z
        rcases Nat.lt_succ_iff_lt_or_eq.mp h with y | y
        · exact absurd ((fNN_ga n w p).mpr ⟨j, y, z⟩) (fGj_bit c).2.2
        · rw [y]
    · rw [if_neg c]
      rcases Nat.lt_succ_iff_lt_or_eq.mp h with y | y
      · exact nbF_iff n j y
      · subst y
        have := nbF_le (M := M) (inn := inn) w p j
        exact ⟨fun z => by omega, fun z => absurd z c⟩
end NB
