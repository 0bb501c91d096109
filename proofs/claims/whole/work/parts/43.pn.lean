/-! ===== the descent always comes to an end ===== -/
section TOT
variable {T : Nat → Int32} {n : Nat} {nm : Int64 → Option Nat} {lim : Nat}
theorem tE_gt {e : Nat} (he : e ≤ n) (hk : tK T n e ≠ 275) : e < tE T n e := by
  obtain ⟨a1, a2⟩ := tA_le (T := T) he
  by_cases h0 : n ≤ tA T n e
  · exact absurd (tE_0 h0).2 hk
  · by_cases h1 : isLt (T (tA T n e))
    · rw [(tE_l h0 h1).1, rn_s (p := fun k => isLt (T k)) (by omega) h1]
      have := rn_ge (fun k => isLt (T k)) n (tA T n e + 1)
      omega
    · by_cases h2 : isDg (T (tA T n e))
      · rw [(tE_d h0 h1 h2).1, rn_s (p := fun k => isDg (T k)) (by omega) h2]
        have := rn_ge (fun k => isDg (T k)) n (tA T n e + 1)
        omega
      · rw [(tE_s h0 h1 h2).1]; omega
theorem tK_n {e : Nat} (h : n ≤ e) : tK T n e = 275 := by
  have := rn_ge (fun k => isBl (T k)) n e
  exact (tE_0 (T := T) (n := n) (e := e) (by show n ≤ rn _ _ _; omega)).2
def eB (n lo : Nat) (res : Rs) : Prop := ∀ e' u' c, res = rO e' u' c → lo ≤ e' ∧ e' ≤ n
def wPt (T : Nat → Int32) (n : Nat) (nm : Int64 → Option Nat) (lim f e : Nat) : Prop := ∀ t w u, ∃ res, dR T n nm lim f (dPt t w e u) = some res ∧ eB n (e + 1) res
def wLp (T : Nat → Int32) (n : Nat) (nm : Int64 → Option Nat) (lim f e : Nat) : Prop := ∀ t hi w u c, ∃ res, dR T n nm lim f (dLp t hi w e u c) = some res ∧ eB n e res
def wUn (T : Nat → Int32) (n : Nat) (nm : Int64 → Option Nat) (lim f e : Nat) : Prop := ∀ w u, ∃ res, dR T n nm lim f (dUn w e u) = some res ∧ eB n (e + 1) res
theorem eB_f (lo : Nat) (q : Nat × Nat) : eB n lo (.inl q) := fun _ _ _ h => by cases h
theorem eB_o {lo e u : Nat} {c : Cd} (h : lo ≤ e) (h2 : e ≤ n) : eB n lo (rO e u c) := by
  intro e' u' c' z
  have z := Sum.inr.inj z
  injection z with z1 z2
  subst z1
  exact ⟨h, h2⟩
theorem eB_w {lo lo' : Nat} {res : Rs} (h : eB n lo res) (hl : lo' ≤ lo) : eB n lo' res := fun e' u' c z => ⟨by have := (h e' u' c z).1; omega, (h e' u' c z).2⟩
/-- then, by what comes next -/
theorem dTh_t {a : Option Rs} {g : Nat → Nat → Cd → Option Rs} {lo lo' : Nat} (ha : ∃ r, a = some r ∧ eB n lo r) (hg : ∀ e u c, lo ≤ e → e ≤ n → ∃ r, g e u c = some r ∧ eB n lo' r) : ∃ r, dTh a g = some r ∧ eB n lo' r := by
  obtain ⟨r, h1, h2⟩ := ha
  subst h1
  match r with
  | .inl q => exact ⟨.inl q, rfl, eB_f _ _⟩
  | .inr (e, u, c) =>
    obtain ⟨z1, z2⟩ := h2 e u c rfl
    exact hg e u c z1 z2
theorem wUn_s {f e : Nat} (he : e ≤ n) (h : ∀ e', e < e' → e' ≤ n → wPt T n nm lim f e') : wUn T n nm lim (f + 1) e := by
  intro w u
  show ∃ res, @ite _ (uH (tK T n e) = 0 ∨ lim ≤ u ∨ (uOp (uH (tK T n e)) ∧ 6 < w)) (Classical.propDecidable _) (some (dBad T n e)) (@ite _ (uNm (uH (tK T n e))) (Classical.propDecidable _) (@ite _ (tK T n (tE T n e) = 273) (Classical.propDecidable _) (match nm (tV T n (tE T n e)) with | none => some (rF 4 (tA T n (tE T n e))) | some k => dCon T n (tK T n e) (nI k) w (tE T n (tE T n e)) (u + 1) (dR T n nm lim f)) (some (dBad T n (tE T n e)))) (dCon T n (tK T n e) (if tK T n e = 274 then tN T n e else 0) w (tE T n e) (u + 1) (dR T n nm lim f))) = some res ∧ eB n (e + 1) res
  have con : ∀ k v e2 u2, e < e2 → e2 ≤ n → ∃ res, dCon T n k v w e2 u2 (dR T n nm lim f) = some res ∧ eB n (e + 1) res := by
    intro k v e2 u2 h1 h2
    have br : ∀ e3, e < e3 → e3 ≤ n → ∃ res, dBr T n k v (dR T n nm lim f (dPt 0 (w + 1) e3 u2)) = some res ∧ eB n (e + 1) res := by
      intro e3 g1 g2
      refine dTh_t (h e3 g1 g2 0 (w + 1) u2) (fun e4 u4 c4 g3 g4 => ?_)
      by_cases h41 : tK T n e4 = 41
      · refine ⟨_, rfl, ?_⟩
        rw [if_pos h41]
        obtain ⟨t1, t2⟩ := tE_le (T := T) g4
        have := tA_le (T := T) g4
        exact eB_o (by omega) t2
      · refine ⟨_, rfl, ?_⟩
        rw [if_neg h41]
        exact eB_f _ _
    unfold dCon
    by_cases ho : uOp (uH k)
    · rw [if_pos ho]
      by_cases h40 : k = 40
      · rw [if_pos h40]; exact br e2 h1 h2
      · rw [if_neg h40]
        by_cases hb : tK T n e2 = 40
        · rw [if_pos hb]
          have := tE_gt (T := T) h2 (by rw [hb]; decide)
          exact br _ (by omega) (tE_le h2).2
        · rw [if_neg hb]; exact ⟨_, rfl, eB_f _ _⟩
    · rw [if_neg ho]
      exact ⟨_, rfl, eB_o (by omega) h2⟩
  by_cases hb : uH (tK T n e) = 0 ∨ lim ≤ u ∨ (uOp (uH (tK T n e)) ∧ 6 < w)
  · rw [if_pos hb]; exact ⟨_, rfl, eB_f _ _⟩
  · rw [if_neg hb]
    have hk : tK T n e ≠ 275 := fun z => hb (Or.inl (by rw [z]; rfl))
    have g1 := tE_gt (T := T) he hk
    have g2 := (tE_le (T := T) he).2
    by_cases hn : uNm (uH (tK T n e))
    · rw [if_pos hn]
      by_cases h273 : tK T n (tE T n e) = 273
      · rw [if_pos h273]
        have g3 := tE_gt (T := T) g2 (by rw [h273]; decide)
        cases ho : nm (tV T n (tE T n e)) with
        | none => exact ⟨_, rfl, eB_f _ _⟩
        | some k => exact con _ _ _ _ (by omega) (tE_le g2).2
      · rw [if_neg h273]; exact ⟨_, rfl, eB_f _ _⟩
    · rw [if_neg hn]; exact con _ _ _ _ g1 g2
theorem wLp_s {f e : Nat} (he : e ≤ n) (h : ∀ e', e < e' → e' ≤ n → wPt T n nm lim f e') (h2 : ∀ e', e < e' → e' ≤ n → wLp T n nm lim f e') : wLp T n nm lim (f + 1) e := by
  intro t hi w u c
  show ∃ res, @ite _ (t < rkH (tK T n e) ∧ rkH (tK T n e) ≤ hi) (Classical.propDecidable _) (dTh (dR T n nm lim f (dPt (rkH (tK T n e)) w (tE T n e) u)) (fun e' u' c' => dR T n nm lim f (dLp t (if rkH (tK T n e) = 4 then 2 else rkH (tK T n e)) w e' u' (c ++ c' ++ [(tK T n e, 0)])))) (some (rO e u c)) = some res ∧ eB n e res
  by_cases hc : t < rkH (tK T n e) ∧ rkH (tK T n e) ≤ hi
  · rw [if_pos hc]
    have hk : tK T n e ≠ 275 := fun z => by rw [z] at hc; exact absurd hc.1 (Nat.not_lt_zero _)
    have g1 := tE_gt (T := T) he hk
    refine dTh_t (h _ g1 (tE_le he).2 _ w u) (fun e1 u1 c1 a b => ?_)
    obtain ⟨r, r1, r2⟩ := h2 e1 (by omega) b t _ w u1 (c ++ c1 ++ [(tK T n e, 0)])
    exact ⟨r, r1, eB_w r2 (by omega)⟩
  · rw [if_neg hc]; exact ⟨_, rfl, eB_o (Nat.le_refl _) he⟩
theorem wPt_s {f e : Nat} (he : e ≤ n) (h : ∀ e', e < e' → e' ≤ n → wPt T n nm lim f e') (h2 : ∀ e', e < e' → e' ≤ n → wLp T n nm lim f e') (h3 : wUn T n nm lim f e) : wPt T n nm lim (f + 1) e := by
  intro t w u
  show ∃ res, @ite _ (tK T n e = 267 ∧ t ≤ 3 ∧ w ≤ 6) (Classical.propDecidable _) (dTh (dR T n nm lim f (dPt 2 (w + 1) (tE T n e) u)) (fun e' u' c => dR T n nm lim f (dLp t 2 w e' u' (c ++ [(267, 0)])))) (dTh (dR T n nm lim f (dUn w e u)) (fun e' u' c => dR T n nm lim f (dLp t 6 w e' u' c))) = some res ∧ eB n (e + 1) res
  by_cases hn : tK T n e = 267 ∧ t ≤ 3 ∧ w ≤ 6
  · rw [if_pos hn]
    have g1 := tE_gt (T := T) he (by rw [hn.1]; decide)
    refine dTh_t (h _ g1 (tE_le he).2 2 (w + 1) u) (fun e1 u1 c1 a b => ?_)
    obtain ⟨r, r1, r2⟩ := h2 e1 (by omega) b t 2 w u1 (c1 ++ [(267, 0)])
    exact ⟨r, r1, eB_w r2 (by omega)⟩
  · rw [if_neg hn]
    refine dTh_t (h3 w u) (fun e1 u1 c1 a b => ?_)
    obtain ⟨r, r1, r2⟩ := h2 e1 (by omega) b t 6 w u1 c1
    exact ⟨r, r1, eB_w r2 (by omega)⟩
theorem desc_t : ∀ N e, e ≤ n → n - e ≤ N → (∀ f, 2 * N + 3 ≤ f → wPt T n nm lim f e) ∧ (∀ f, 2 * N + 2 ≤ f → wLp T n nm lim f e) ∧ (∀ f, 2 * N + 2 ≤ f → wUn T n nm lim f e) := by
  intro N
  induction N with
  | zero =>
    intro e he hN
    have up : ∀ e', e < e' → e' ≤ n → False := fun e' a b => by omega
    have hu : ∀ f, 2 * 0 + 2 ≤ f → wUn T n nm lim f e := fun f hf => by
      obtain ⟨g, rfl⟩ : ∃ g, f = g + 1 := ⟨f - 1, by omega⟩
      exact wUn_s he (fun e' a b => (up e' a b).elim)
    refine ⟨fun f hf => ?_, fun f hf => ?_, hu⟩
    · obtain ⟨g, rfl⟩ : ∃ g, f = g + 1 := ⟨f - 1, by omega⟩
      exact wPt_s he (fun e' a b => (up e' a b).elim) (fun e' a b => (up e' a b).elim) (hu g (by omega))
    · obtain ⟨g, rfl⟩ : ∃ g, f = g + 1 := ⟨f - 1, by omega⟩
      exact wLp_s he (fun e' a b => (up e' a b).elim) (fun e' a b => (up e' a b).elim)
  | succ N ih =>
    intro e he hN
    have hp : ∀ f, 2 * N + 3 ≤ f → ∀ e', e < e' → e' ≤ n → wPt T n nm lim f e' := fun f hf e' a b => (ih e' b (by omega)).1 f hf
    have hl : ∀ f, 2 * N + 2 ≤ f → ∀ e', e < e' → e' ≤ n → wLp T n nm lim f e' := fun f hf e' a b => (ih e' b (by omega)).2.1 f hf
    have hu : ∀ f, 2 * (N + 1) + 2 ≤ f → wUn T n nm lim f e := fun f hf => by
      obtain ⟨g, rfl⟩ : ∃ g, f = g + 1 := ⟨f - 1, by omega⟩
      exact wUn_s he (hp g (by omega))
    refine ⟨fun f hf => ?_, fun f hf => ?_, hu⟩
    · obtain ⟨g, rfl⟩ : ∃ g, f = g + 1 := ⟨f - 1, by omega⟩
      exact wPt_s he (hp g (by omega)) (hl g (by omega)) (hu g (by omega))
    · obtain ⟨g, rfl⟩ : ∃ g, f = g + 1 := ⟨f - 1, by omega⟩
      exact wLp_s he (hp g (by omega)) (hl g (by omega))
/-- a formula from the token e on: a fault, or its end, units and code -/
noncomputable def fRd (T : Nat → Int32) (n : Nat) (nm : Int64 → Option Nat) (lim e u : Nat) : Rs :=
  match dR T n nm lim (2 * n + 3) (dPt 0 0 e u) with
  | none => rF 0 0
  | some r => r
theorem fRd_e {e u : Nat} (he : e ≤ n) : dR T n nm lim (2 * n + 3) (dPt 0 0 e u) = some (fRd T n nm lim e u) ∧ eB n (e + 1) (fRd T n nm lim e u) := by
  obtain ⟨r, r1, r2⟩ := (desc_t (T := T) (nm := nm) (lim := lim) n e he (by omega)).1 (2 * n + 3) (Nat.le_refl _) 0 0 u
  unfold fRd
  rw [r1]
  exact ⟨rfl, r2⟩
end TOT
