/-! ===== the pure machine that reads a formula ===== -/
abbrev Ent := Nat × Nat × Int32
abbrev mS := Sum (Nat × Nat) (Bool × List Ent × Nat × Nat × Nat × List (Int32 × Int32))
abbrev mF (k p : Nat) : mS := .inl (k, p)
abbrev mT (b : Bool) (S : List Ent) (w e u : Nat) (c : List (Int32 × Int32)) : mS := .inr (b, S, w, e, u, c)
def eTop : List Ent → Nat
  | [] => 8
  | q :: _ => q.1
def uOp (h : Nat) : Prop := h = 40 ∨ h = 107 ∨ h = 97 ∨ h = 99
def uNm (h : Nat) : Prop := h = 104 ∨ h = 103 ∨ h = 107
section MACH
variable (T : Nat → Int32) (n : Nat) (nm : Int64 → Option Nat) (lim : Nat)
noncomputable def mBad (e : Nat) : mS := mF (mis T n e) (tA T n e)
/-- behind the first token of a unit, and its name -/
noncomputable def uCon (h : Nat) (v : Int32) (S : List Ent) (w e u : Nat) (c : List (Int32 × Int32)) : mS :=
  @ite _ (uOp h) (Classical.propDecidable _)
    (@ite _ (h = 40) (Classical.propDecidable _) (mT true ((7, h, v) :: S) (w + 1) e u c)
      (@ite _ (tK T n e = 40) (Classical.propDecidable _) (mT true ((7, h, v) :: S) (w + 1) (tE T n e) u c) (mBad T n e)))
    (mT false S w e u (c ++ [(nI h, v)]))
noncomputable def uNam (h : Nat) (S : List Ent) (w e u : Nat) (c : List (Int32 × Int32)) : mS :=
  @ite _ (tK T n e = 273) (Classical.propDecidable _)
    (match nm (tV T n e) with
      | none => mF 4 (tA T n e)
      | some k => uCon T n h (nI k) S w (tE T n e) u c)
    (mBad T n e)
noncomputable def uStep (S : List Ent) (w e u : Nat) (c : List (Int32 × Int32)) : mS :=
  @ite _ ((eTop S ≤ 3 ∨ 7 ≤ eTop S) ∧ tK T n e = 267) (Classical.propDecidable _)
    (@ite _ (w = 7) (Classical.propDecidable _) (mBad T n e) (mT true ((3, 126, 0) :: S) (w + 1) (tE T n e) u c))
    (@ite _ (uH (tK T n e) = 0 ∨ u = lim ∨ (uOp (uH (tK T n e)) ∧ w = 7)) (Classical.propDecidable _) (mBad T n e)
      (@ite _ (uNm (uH (tK T n e))) (Classical.propDecidable _) (uNam T n nm (uH (tK T n e)) S w (tE T n e) (u + 1) c)
        (uCon T n (uH (tK T n e)) (if uH (tK T n e) = 110 then tN T n e else 0) S w (tE T n e) (u + 1) c)))
/-- what binds as strongly as r, or more, is done -/
def bPop (r : Nat) : List Ent → Nat → List (Int32 × Int32) → List Ent × Nat × List (Int32 × Int32)
  | [], w, c => ([], w, c)
  | q :: S, w, c => if q.1 ≤ 6 ∧ r ≤ q.1 then bPop r S (if q.1 = 3 then w - 1 else w) (c ++ [(nI q.2.1, 0)]) else (q :: S, w, c)
def bCmp : List Ent → Prop
  | [] => False
  | q :: S => (q.1 = 4) ∨ ((q.1 = 5 ∨ q.1 = 6) ∧ bCmp S)
def bChr (r k : Nat) : Nat := if r = 2 then 38 else if r = 1 then 124 else k
noncomputable def bEnd (e u : Nat) : List Ent → Nat → List (Int32 × Int32) → mS
  | [], w, c => mT false [] w e u c
  | q :: S, w, c => if q.1 = 7 then (@ite _ (tK T n e = 41) (Classical.propDecidable _) (mT false S (w - 1) (tE T n e) u (if q.2.1 = 40 then c else c ++ [(nI q.2.1, q.2.2)])) (mBad T n e)) else mT false S w e u c
noncomputable def bRest (r : Nat) (S : List Ent) (w e u : Nat) (c : List (Int32 × Int32)) : mS :=
  if 0 < r then mT true ((r, bChr r (tK T n e), 0) :: S) w (tE T n e) u c else bEnd T n e u S w c
noncomputable def bStep (S : List Ent) (w e u : Nat) (c : List (Int32 × Int32)) : mS :=
  @ite _ (rkH (tK T n e) = 4 ∧ bCmp S) (Classical.propDecidable _) (mBad T n e)
    (bRest T n (rkH (tK T n e)) (bPop (rkH (tK T n e)) S w c).1 (bPop (rkH (tK T n e)) S w c).2.1 e u (bPop (rkH (tK T n e)) S w c).2.2)
noncomputable def mRun : Nat → mS → Option mS
  | 0, _ => none
  | _ + 1, .inl q => some (.inl q)
  | _ + 1, .inr (b, [], t) => some (.inr (b, [], t))
  | f + 1, .inr (true, q :: S, w, e, u, c) => mRun f (uStep T n nm lim (q :: S) w e u c)
  | f + 1, .inr (false, q :: S, w, e, u, c) => mRun f (bStep T n (q :: S) w e u c)
/-- what the machine comes to -/
def mEv (s r : mS) : Prop := ∃ f, mRun T n nm lim f s = some r
end MACH
/-! what keeps the piles small -/
def sOk : List Ent → Nat → Prop
  | [], w => w = 0
  | q :: S, w => (q.1 = 8 ∧ S = [] ∧ w = 0) ∨ (q.1 = 7 ∧ S ≠ [] ∧ 1 ≤ w ∧ sOk S (w - 1)) ∨ (q.1 = 3 ∧ S ≠ [] ∧ 1 ≤ w ∧ sOk S (w - 1)) ∨ ((q.1 = 1 ∨ q.1 = 2 ∨ q.1 = 4 ∨ q.1 = 5 ∨ q.1 = 6) ∧ S ≠ [] ∧ (eTop S < q.1 ∨ 7 ≤ eTop S) ∧ sOk S w)
def eT6 (S : List Ent) : Nat := if eTop S ≤ 6 then eTop S else 0
theorem eT6_le (S : List Ent) : eT6 S ≤ 6 := by unfold eT6; split <;> omega
theorem sOk_len : ∀ {S : List Ent} {w : Nat}, sOk S w → S.length ≤ 7 * w + eT6 S + 1
  | [], w, h => by show 0 ≤ _; omega
  | q :: S, w, h => by
    have e6 := eT6_le S
    have eq : eT6 (q :: S) = if q.1 ≤ 6 then q.1 else 0 := rfl
    rw [eq, List.length_cons]
    rcases h with ⟨h1, h2, h3⟩ | ⟨h1, h2, h3, h4⟩ | ⟨h1, h2, h3, h4⟩ | ⟨h1, h2, h3, h4⟩
    · subst h2; show 0 + 1 ≤ _; omega
    · have := sOk_len h4; omega
    · have := sOk_len h4; omega
    · have := sOk_len h4
      have : eT6 S < q.1 := by unfold eT6; split <;> omega
      split <;> omega
/-- how many nots stand on top -/
def eNt : List Ent → Nat
  | [] => 0
  | q :: S => if q.1 = 3 then eNt S + 1 else 0
theorem sOk_nt : ∀ {S : List Ent} {w : Nat}, sOk S w → eNt S ≤ w
  | [], w, _ => Nat.zero_le _
  | q :: S, w, h => by
    unfold eNt
    by_cases h3 : q.1 = 3
    · rw [if_pos h3]
      rcases h with ⟨h1, h2, h4⟩ | ⟨h1, h2, h4, h5⟩ | ⟨h1, h2, h4, h5⟩ | ⟨h1, h2, h4, h5⟩
      · omega
      · omega
      · have := sOk_nt h5; omega
      · omega
    · rw [if_neg h3]; omega
/-- all is within its bounds -/
def mW (u0 lim : Nat) (b : Bool) (S : List Ent) (w u : Nat) (c : List (Int32 × Int32)) : Prop :=
  sOk S w ∧ w ≤ 7 ∧ u0 ≤ u ∧ u ≤ lim ∧ c.length + S.length ≤ 9 * (u - u0) + (if b = true then 1 + eNt S else 0) ∧ (b = true → S ≠ [])
theorem mW_st {u0 lim w u : Nat} {b : Bool} {S : List Ent} {c : List (Int32 × Int32)} (h : mW u0 lim b S w u c) : S.length ≤ 56 := by
  have := sOk_len h.1
  have := eT6_le S
  have := h.2.1
  omega
