/-! ===== descent: the class's way to read, and the machine comes to the same ===== -/
abbrev Cd := List (Nat × Int32)
abbrev Rs := Sum (Nat × Nat) (Nat × Nat × Cd)
abbrev Md := Sum (Nat × Nat × Nat × Nat) (Sum (Nat × Nat × Nat × Nat × Nat × Cd) (Nat × Nat × Nat))
abbrev dPt (t w e u : Nat) : Md := .inl (t, w, e, u)
abbrev dLp (t hi w e u : Nat) (c : Cd) : Md := .inr (.inl (t, hi, w, e, u, c))
abbrev dUn (w e u : Nat) : Md := .inr (.inr (w, e, u))
abbrev rF (k p : Nat) : Rs := .inl (k, p)
abbrev rO (e u : Nat) (c : Cd) : Rs := .inr (e, u, c)
/-- go on unless there is a fault -/
def dTh (a : Option Rs) (g : Nat → Nat → Cd → Option Rs) : Option Rs :=
  match a with
  | none => none
  | some (.inl q) => some (.inl q)
  | some (.inr (e, u, c)) => g e u c
section DESC
variable (T : Nat → Int32) (n : Nat) (nm : Int64 → Option Nat) (lim : Nat)
noncomputable def dBad (e : Nat) : Rs := rF (mis T n e) (tA T n e)
/-- the bracket of a unit of the kind k -/
noncomputable def dBr (k : Nat) (v : Int32) (a : Option Rs) : Option Rs :=
  dTh a (fun e u c => some (@ite _ (tK T n e = 41) (Classical.propDecidable _) (rO (tE T n e) u (if k = 40 then c else c ++ [(k, v)])) (dBad T n e)))
noncomputable def dCon (k : Nat) (v : Int32) (w e u : Nat) (rec : Md → Option Rs) : Option Rs :=
  @ite _ (uOp (uH k)) (Classical.propDecidable _)
    (@ite _ (k = 40) (Classical.propDecidable _) (dBr T n k v (rec (dPt 0 (w + 1) e u)))
      (@ite _ (tK T n e = 40) (Classical.propDecidable _) (dBr T n k v (rec (dPt 0 (w + 1) (tE T n e) u))) (some (dBad T n e))))
    (some (rO e u [(k, v)]))
noncomputable def dR : Nat → Md → Option Rs
  | 0, _ => none
  | f + 1, .inl (t, w, e, u) =>
    @ite _ (tK T n e = 267 ∧ t ≤ 3 ∧ w ≤ 6) (Classical.propDecidable _)
      (dTh (dR f (dPt 2 (w + 1) (tE T n e) u)) (fun e' u' c => dR f (dLp t 2 w e' u' (c ++ [(267, 0)]))))
      (dTh (dR f (dUn w e u)) (fun e' u' c => dR f (dLp t 6 w e' u' c)))
  | f + 1, .inr (.inl (t, hi, w, e, u, c)) =>
    @ite _ (t < rkH (tK T n e) ∧ rkH (tK T n e) ≤ hi) (Classical.propDecidable _)
      (dTh (dR f (dPt (rkH (tK T n e)) w (tE T n e) u)) (fun e' u' c' => dR f (dLp t (if rkH (tK T n e) = 4 then 2 else rkH (tK T n e)) w e' u' (c ++ c' ++ [(tK T n e, 0)]))))
      (some (rO e u c))
  | f + 1, .inr (.inr (w, e, u)) =>
    @ite _ (uH (tK T n e) = 0 ∨ lim ≤ u ∨ (uOp (uH (tK T n e)) ∧ 6 < w)) (Classical.propDecidable _) (some (dBad T n e))
      (@ite _ (uNm (uH (tK T n e))) (Classical.propDecidable _)
        (@ite _ (tK T n (tE T n e) = 273) (Classical.propDecidable _)
          (match nm (tV T n (tE T n e)) with
            | none => some (rF 4 (tA T n (tE T n e)))
            | some k => dCon T n (tK T n e) (nI k) w (tE T n (tE T n e)) (u + 1) (dR f))
          (some (dBad T n (tE T n e))))
        (dCon T n (tK T n e) (if tK T n e = 274 then tN T n e else 0) w (tE T n e) (u + 1) (dR f)))
end DESC
/-- the model's letter -/
def mcK (k : Nat) : Nat := if k = 267 then 126 else if rkH k = 0 then uH k else bChr (rkH k) k
def cMp (c : Cd) : List (Int32 × Int32) := c.map (fun x => (nI (mcK x.1), x.2))
theorem cMp_app (a b : Cd) : cMp (a ++ b) = cMp a ++ cMp b := List.map_append ..
theorem rkH_u {k : Nat} (h : uH k ≠ 0) : rkH k = 0 ∧ k ≠ 267 ∧ k ≠ 41 := by
  have : k = 274 ∨ k = 40 ∨ k = 268 ∨ k = 262 ∨ k = 269 ∨ k = 270 ∨ k = 271 ∨ k = 272 := by
    unfold uH at h
    repeat' split at h
    all_goals omega
  rcases this with rfl | rfl | rfl | rfl | rfl | rfl | rfl | rfl <;> decide
theorem mcK_u {k : Nat} (h : uH k ≠ 0) : mcK k = uH k := by
  obtain ⟨h1, h2, -⟩ := rkH_u h
  unfold mcK
  rw [if_neg h2, if_pos h1]
theorem mcK_j {k : Nat} (h : rkH k ≠ 0) : mcK k = bChr (rkH k) k := by
  have : k ≠ 267 := fun z => h (by rw [z]; rfl)
  unfold mcK
  rw [if_neg this, if_neg h]
theorem uH_40 {k : Nat} : uH k = 40 ↔ k = 40 := by
  constructor
  · intro h
    unfold uH at h
    repeat' split at h
    all_goals omega
  · intro h; rw [h]; rfl
theorem uH_110 {k : Nat} : uH k = 110 ↔ k = 274 := by
  constructor
  · intro h
    unfold uH at h
    repeat' split at h
    all_goals omega
  · intro h; rw [h]; rfl
section EV
variable {T : Nat → Int32} {n : Nat} {nm : Int64 → Option Nat} {lim : Nat}
theorem mEv_f (k p : Nat) : mEv T n nm lim (mF k p) (mF k p) := ⟨1, rfl⟩
theorem mEv_d (w e u : Nat) (c : List (Int32 × Int32)) : mEv T n nm lim (mT false [] w e u c) (mT false [] w e u c) := ⟨1, rfl⟩
theorem mEv_u {q : Ent} {S : List Ent} {w e u : Nat} {c : List (Int32 × Int32)} {r : mS} (h : mEv T n nm lim (uStep T n nm lim (q :: S) w e u c) r) : mEv T n nm lim (mT true (q :: S) w e u c) r := by
  obtain ⟨f, h⟩ := h
  exact ⟨f + 1, h⟩
theorem mEv_b {q : Ent} {S : List Ent} {w e u : Nat} {c : List (Int32 × Int32)} {r : mS} (h : mEv T n nm lim (bStep T n (q :: S) w e u c) r) : mEv T n nm lim (mT false (q :: S) w e u c) r := by
  obtain ⟨f, h⟩ := h
  exact ⟨f + 1, h⟩
theorem mEv_bi {q : Ent} {S : List Ent} {w e u : Nat} {c : List (Int32 × Int32)} {r : mS} (h : mEv T n nm lim (mT false (q :: S) w e u c) r) : mEv T n nm lim (bStep T n (q :: S) w e u c) r := by
  obtain ⟨f, h⟩ := h
  cases f with
  | zero => cases h
  | succ f => exact ⟨f, h⟩
/-- the top of the pile under which a part of the rank t stands -/
def mt (S : List Ent) (t : Nat) : Prop := S ≠ [] ∧ ((t = 0 ∧ 7 ≤ eTop S) ∨ (t = 2 ∧ (eTop S = 2 ∨ eTop S = 3)) ∨ ((t = 1 ∨ t = 4 ∨ t = 5 ∨ t = 6) ∧ eTop S = t))
theorem mt_c {S : List Ent} {t : Nat} (h : mt S t) (ht : t ≤ 3) : ¬ bCmp S := by
  obtain ⟨h1, h2⟩ := h
  cases S with
  | nil => exact fun z => z
  | cons q S =>
    have e : eTop (q :: S) = q.1 := rfl
    rw [e] at h2
    intro z
    rcases z with z | ⟨z, -⟩ <;> omega
/-- a joint that is done is taken away first -/
theorem b_pop {p q : Ent} {S : List Ent} {w w' e u : Nat} {c : List (Int32 × Int32)} (h6 : p.1 ≤ 6) (hr : rkH (tK T n e) ≤ p.1) (h4 : rkH (tK T n e) = 4 → p.1 = 5 ∨ p.1 = 6) (hw : w = if p.1 = 3 then w' - 1 else w') :
    bStep T n (p :: q :: S) w' e u c = bStep T n (q :: S) w e u (c ++ [(nI p.2.1, 0)]) := by
  have ep : bPop (rkH (tK T n e)) (p :: q :: S) w' c = bPop (rkH (tK T n e)) (q :: S) w (c ++ [(nI p.2.1, 0)]) := by rw [hw]; exact if_pos ⟨h6, hr⟩
  unfold bStep
  rw [ep]
  by_cases hk : rkH (tK T n e) = 4
  · have : bCmp (p :: q :: S) ↔ bCmp (q :: S) := by
      have h5 := h4 hk
      exact ⟨fun z => z.elim (fun y => by omega) (fun y => y.2), fun z => Or.inr ⟨h5, z⟩⟩
    by_cases hb : bCmp (q :: S)
    · rw [if_pos ⟨hk, this.mpr hb⟩, if_pos ⟨hk, hb⟩]
    · rw [if_neg (fun z => hb (this.mp z.2)), if_neg (fun z => hb z.2)]
  · rw [if_neg (fun z => hk z.1), if_neg (fun z => hk z.1)]
/-- a joint that binds more than what is below is put on top -/
theorem b_push {q : Ent} {S : List Ent} {t w e u : Nat} {c : List (Int32 × Int32)} (hm : mt (q :: S) t) (ht : t < rkH (tK T n e)) : bStep T n (q :: S) w e u c = mT true ((rkH (tK T n e), bChr (rkH (tK T n e)) (tK T n e), 0) :: q :: S) w (tE T n e) u c := by
  have h7 := rkH_lt (tK T n e)
  have ho := rkH_or (k := tK T n e) (by omega)
  have e1 : eTop (q :: S) = q.1 := rfl
  have hm2 := hm.2
  rw [e1] at hm2
  have ep : bPop (rkH (tK T n e)) (q :: S) w c = (q :: S, w, c) := if_neg (fun z => by omega)
  unfold bStep
  rw [ep, if_neg (fun z => ?_)]
  · unfold bRest
    rw [if_pos (by omega)]
  · by_cases t3 : t ≤ 3
    · exact mt_c hm t3 z.2
    · omega
end EV
