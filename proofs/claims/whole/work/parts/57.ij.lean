/-! ===== the lines of an island ===== -/
section LNS
variable {T : Nat → Int32} {n : Nat}
theorem tE_ge {e : Nat} (he : e ≤ n) : e ≤ tE T n e ∧ tE T n e ≤ n := by
  have a := tA_le (T := T) he
  have b := tE_le (T := T) he
  omega
theorem skF_ge {k e : Nat} (he : e ≤ n) : e ≤ skF T n k e ∧ skF T n k e ≤ n := by
  unfold skF
  by_cases h : tK T n e = k
  · rw [if_pos h]; exact tE_ge he
  · rw [if_neg h]; exact ⟨Nat.le_refl _, he⟩
/-- all that a part of a line comes to lies behind -/
def lB (n lo : Nat) (l : Ln) : Prop := ∀ e A, l = .inr (e, A) → lo ≤ e ∧ e ≤ n
theorem lB_f (lo : Nat) (q : Nat × Nat) : lB n lo (.inl q) := fun _ _ h => by cases h
theorem lB_o {lo e : Nat} {A : Ai} (h : lo ≤ e) (h2 : e ≤ n) : lB n lo (.inr (e, A)) := by
  intro e' A' z
  have z := Sum.inr.inj z
  injection z with z1 z2
  subst z1
  exact ⟨h, h2⟩
theorem lOne_B {A : Ai} {e : Nat} (he : e ≤ n) : lB n e (lOne T n A e) := by
  unfold lOne
  by_cases h : tK T n e = 273
  · rw [if_pos h]
    cases aNm A (tV T n e) with
    | some a => exact lB_f _ _
    | none =>
      have a := tE_ge (T := T) he
      have b := skF_ge (T := T) (k := 257) a.2
      have c := skF_ge (T := T) (k := 258) b.2
      have d := skF_ge (T := T) (k := 259) c.2
      exact lB_o (by omega) d.2
  · rw [if_neg h]; exact lB_f _ _
theorem lBl_B {A : Ai} {e : Nat} (he : e ≤ n) : lB n e (lBl T n A e) := by
  unfold lBl
  by_cases h : tK T n e = 273
  · rw [if_pos h]
    cases aNm A (tV T n e) with
    | none => exact lB_f _ _
    | some a =>
      show lB n e (@ite _ (tK T n (tE T n e) = 273) (Classical.propDecidable _) _ (lBad T n (tE T n e)))
      by_cases h2 : tK T n (tE T n e) = 273
      · rw [if_pos h2]
        cases aNm A (tV T n (tE T n e)) with
        | none => exact lB_f _ _
        | some b =>
          show lB n e (@ite _ (a = b ∨ (A.1 (10 + a)).testBit b = false) (Classical.propDecidable _) _ _)
          by_cases h3 : a = b ∨ (A.1 (10 + a)).testBit b = false
          · rw [if_pos h3]; exact lB_f _ _
          · rw [if_neg h3]
            have a' := tE_ge (T := T) he
            have b' := tE_ge (T := T) a'.2
            exact lB_o (by omega) b'.2
      · rw [if_neg h2]; exact lB_f _ _
  · rw [if_neg h]; exact lB_f _ _
theorem lLaw_B {A : Ai} {e : Nat} (he : e ≤ n) : lB n e (lLaw T n A e) := by
  unfold lLaw
  by_cases h : tK T n e = 262 ∨ tK T n e = 263
  · rw [if_pos h]; have a := tE_ge (T := T) he; exact lB_o a.1 a.2
  · rw [if_neg h]; exact lB_f _ _
theorem lSay_B {A : Ai} {e : Nat} (he : e ≤ n) : lB n e (lSay T n A e) := by
  have h := (fRd_e (T := T) (n := n) (nm := aNm A) (lim := 60) (e := e) (u := A.1 4) he).2
  unfold lSay
  revert h
  match fRd T n (aNm A) 60 e (A.1 4) with
  | .inl q => exact fun _ => lB_f _ _
  | .inr (e', u', c') =>
    intro h
    have z := h e' u' c' rfl
    show lB n e (@ite _ (rkH (tK T n e') = 4) (Classical.propDecidable _) (lBad T n e') _)
    by_cases h4 : rkH (tK T n e') = 4
    · rw [if_pos h4]; exact lB_f _ _
    · rw [if_neg h4]; exact lB_o (by omega) z.2
theorem lSem_B {l : Ln} {lo : Nat} (h : lB n lo l) : lB n (lo + 1) (lSem T n l) := by
  match l with
  | .inl q => exact lB_f _ _
  | .inr (e, A) =>
    have z := h e A rfl
    show lB n (lo + 1) (@ite _ (tK T n e = 59) (Classical.propDecidable _) (.inr (tE T n e, A)) (lBad T n e))
    by_cases h59 : tK T n e = 59
    · rw [if_pos h59]
      have := tE_gt (T := T) z.2 (by rw [h59]; decide)
      exact lB_o (by omega) (tE_ge z.2).2
    · rw [if_neg h59]; exact lB_f _ _
/-- a line takes a token at least -/
theorem rLn_B {A : Ai} {e : Nat} (he : e ≤ n) : lB n (e + 1) (rLn T n A e) := by
  have a := tE_ge (T := T) he
  have w : ∀ l, lB n (tE T n e) l → lB n (e + 1) (lSem T n l) := fun l h e' A' z => by
    have := lSem_B (T := T) h e' A' z
    omega
  unfold rLn
  by_cases h : 256 ≤ tK T n e ∧ tK T n e < 273 ∧ ¬ aFull A (tK T n e)
  · rw [if_pos h]
    refine w _ ?_
    by_cases h0 : tK T n e = 256
    · rw [if_pos h0]; exact lOne_B a.2
    · rw [if_neg h0]
      by_cases h4 : tK T n e = 260
      · rw [if_pos h4]; exact lBl_B a.2
      · rw [if_neg h4]
        by_cases h5 : tK T n e = 261
        · rw [if_pos h5]; exact lLaw_B a.2
        · rw [if_neg h5]; exact lSay_B a.2
  · rw [if_neg h]; exact lB_f _ _
/-- all lines from the token e on -/
noncomputable def rIs (T : Nat → Int32) (n : Nat) : Nat → Ai → Nat → Sum (Nat × Nat) Ai
  | 0, _, _ => .inl (0, 0)
  | f + 1, A, e => @ite _ (tK T n e = 275) (Classical.propDecidable _) (.inr A)
      (match rLn T n A e with
        | .inl q => .inl q
        | .inr (e', A') => rIs T n f A' e')
end LNS
