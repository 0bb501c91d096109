/-! ===== what the descent always comes to ===== -/
theorem eHs_app : ∀ (a b : List (Int32 × Int32)) (h : Nat), eHs (a ++ b) h = eHs b (eHs a h)
  | [], _, _ => rfl
  | q :: a, b, h => eHs_app a b (eHt q.1 h)
theorem eOk_app (np : Nat) : ∀ (a b : List (Int32 × Int32)) (h : Nat), eOk np (a ++ b) h ↔ eOk np a h ∧ eOk np b (eHs a h)
  | [], _, _ => ⟨fun z => ⟨trivial, z⟩, fun z => z.2⟩
  | q :: a, b, h => by
    show (eNd np q.1 q.2 h ∧ eOk np (a ++ b) (eHt q.1 h)) ↔ ((eNd np q.1 q.2 h ∧ eOk np a (eHt q.1 h)) ∧ eOk np b (eHs a (eHt q.1 h)))
    rw [eOk_app np a b (eHt q.1 h), and_assoc]
def lv (t : Nat) : Nat := if t ≤ 2 then t else if t = 3 then 2 else t - 1
/-- how many rows a part needs -/
def hB (t w : Nat) : Nat := (5 - lv t) + 5 * (7 - w) + 1
/-- an entry of the code as it should be -/
def cE (np : Nat) (x : Nat × Int32) : Prop := (x.1 = 274 ∧ ∃ m, m < 10000 ∧ x.2 = nI m) ∨ ((x.1 = 262 ∨ x.1 = 269 ∨ x.1 = 270) ∧ ∃ p, p < np ∧ x.2 = nI p) ∨ ((x.1 = 268 ∨ x.1 = 271 ∨ x.1 = 272 ∨ x.1 = 267 ∨ rkH x.1 ≠ 0) ∧ x.2 = 0)
/-- a part's code as it should be -/
def cQ (np t w du : Nat) (c : Cd) : Prop := (0 < du ∧ c.length + 1 + w ≤ 9 * du) ∧ (∀ h, h + hB t w ≤ 44 → eOk np (cMp c) h ∧ eHs (cMp c) h = h + 1) ∧ ∀ x ∈ c, cE np x
section DC
variable {T : Nat → Int32} {n : Nat} {nm : Int64 → Option Nat} {lim np : Nat}
def qPt (T : Nat → Int32) (n : Nat) (nm : Int64 → Option Nat) (lim np f : Nat) : Prop := ∀ t w e u e' u' c, dR T n nm lim f (dPt t w e u) = some (rO e' u' c) → t ≤ 6 → w ≤ 7 → u ≤ u' ∧ cQ np t w (u' - u) c
def qLp (T : Nat → Int32) (n : Nat) (nm : Int64 → Option Nat) (lim np f : Nat) : Prop := ∀ t hi w e u c1 e' u' c, dR T n nm lim f (dLp t hi w e u c1) = some (rO e' u' c) → t ≤ 6 → w ≤ 7 → ∀ u0, u0 ≤ u → cQ np t w (u - u0) c1 → u ≤ u' ∧ cQ np t w (u' - u0) c
def qUn (T : Nat → Int32) (n : Nat) (nm : Int64 → Option Nat) (lim np f : Nat) : Prop := ∀ w e u e' u' c, dR T n nm lim f (dUn w e u) = some (rO e' u' c) → w ≤ 7 → u ≤ u' ∧ cQ np 6 w (u' - u) c
theorem hB_le {t t' w : Nat} (h : t' ≤ t) (h6 : t ≤ 6) : hB t w ≤ hB t' w := by
  unfold hB lv
  repeat' split
  all_goals omega
theorem hB_lt {t m w : Nat} (h : t < m) (hm : m = 1 ∨ m = 2 ∨ m = 4 ∨ m = 5 ∨ m = 6) : hB m w + 1 ≤ hB t w := by
  unfold hB lv
  repeat' split
  all_goals omega
theorem cQ_le {t t' w du : Nat} {c : Cd} (h : t' ≤ t) (h6 : t ≤ 6) (hq : cQ np t w du c) : cQ np t' w du c := by
  refine ⟨hq.1, fun x hx => hq.2.1 x ?_, hq.2.2⟩
  have := hB_le (w := w) h h6
  omega
theorem mcK_c : (mcK 274 = 110 ∧ mcK 268 = 109 ∧ mcK 262 = 104 ∧ mcK 269 = 103 ∧ mcK 270 = 107 ∧ mcK 271 = 97 ∧ mcK 272 = 99 ∧ mcK 267 = 126) := by decide
theorem rkH_k {k : Nat} (h : rkH k ≠ 0) : k = 266 ∨ k = 265 ∨ k = 60 ∨ k = 62 ∨ k = 61 ∨ k = 43 ∨ k = 45 ∨ k = 42 ∨ k = 47 := by
  unfold rkH at h
  repeat' split at h
  all_goals omega
/-- a joint takes two rows and leaves one -/
theorem eJ {k : Nat} (h : rkH k ≠ 0) (x : Nat) : eNd np (nI (mcK k)) 0 (x + 2) ∧ eHt (nI (mcK k)) (x + 2) = x + 1 := by
  rcases rkH_k h with rfl | rfl | rfl | rfl | rfl | rfl | rfl | rfl | rfl <;>
  · unfold eNd eHt
    exact ⟨by rw [if_neg (by decide), if_neg (by decide), if_neg (by decide)]; omega, by rw [if_neg (by decide), if_neg (by decide)]; omega⟩
theorem qPt_s {f : Nat} (h1 : qPt T n nm lim np f) (h2 : qLp T n nm lim np f) (h3 : qUn T n nm lim np f) : qPt T n nm lim np (f + 1) := by
  intro t w e u e' u' c hr ht hw
  have hr : @ite _ (tK T n e = 267 ∧ t ≤ 3 ∧ w ≤ 6) (Classical.propDecidable _) (dTh (dR T n nm lim f (dPt 2 (w + 1) (tE T n e) u)) (fun e' u' c => dR T n nm lim f (dLp t 2 w e' u' (c ++ [(267, 0)])))) (dTh (dR T n nm lim f (dUn w e u)) (fun e' u' c => dR T n nm lim f (dLp t 6 w e' u' c))) = some (rO e' u' c) := hr
  by_cases hn : tK T n e = 267 ∧ t ≤ 3 ∧ w ≤ 6
  · rw [if_pos hn] at hr
    rcases dTh_s hr with ⟨x, a1, a2⟩ | ⟨e1, u1, c1, a1, a2⟩
    · cases a2
    · obtain ⟨b0, ⟨b1, b2⟩, b3, b4⟩ := h1 2 (w + 1) _ _ _ _ _ a1 (by decide) (by omega)
      have := h2 t 2 w e1 u1 _ e' u' c a2 ht hw u b0 ⟨⟨b1, by rw [List.length_append, List.length_singleton]; omega⟩, fun x hx => ?_, fun x hx => ?_⟩
      · exact ⟨by omega, this.2⟩
      · have hb : x + hB 2 (w + 1) ≤ 44 := by
          have : hB 2 (w + 1) ≤ hB t w := by
            unfold hB lv
            repeat' split
            all_goals omega
          omega
        obtain ⟨d1, d2⟩ := b3 x hb
        rw [cMp_app, eOk_app, eHs_app, d2]
        refine ⟨⟨d1, ?_, trivial⟩, ?_⟩
        · show eNd np 126 0 (x + 1)
          unfold eNd
          rw [if_neg (by decide), if_neg (by decide), if_pos (Or.inl rfl)]; omega
        · show eHt 126 (x + 1) = x + 1
          unfold eHt
          rw [if_neg (by decide), if_pos (Or.inl rfl)]
      · rcases List.mem_append.mp hx with z | z
        · exact b4 x z
        · rw [List.mem_singleton.mp z]; exact Or.inr (Or.inr ⟨by decide, rfl⟩)
  · rw [if_neg hn] at hr
    rcases dTh_s hr with ⟨x, a1, a2⟩ | ⟨e1, u1, c1, a1, a2⟩
    · cases a2
    · obtain ⟨b0, b1⟩ := h3 w e u e1 u1 c1 a1 hw
      have := h2 t 6 w e1 u1 c1 e' u' c a2 ht hw u b0 (cQ_le ht (by decide) b1)
      exact ⟨by omega, this.2⟩
theorem qLp_s {f : Nat} (h1 : qPt T n nm lim np f) (h2 : qLp T n nm lim np f) : qLp T n nm lim np (f + 1) := by
  intro t hi w e u c1 e' u' c hr ht hw u0 hu hq
  by_cases hc : t < rkH (tK T n e) ∧ rkH (tK T n e) ≤ hi
  · have hr : @ite _ (t < rkH (tK T n e) ∧ rkH (tK T n e) ≤ hi) (Classical.propDecidable _) (dTh (dR T n nm lim f (dPt (rkH (tK T n e)) w (tE T n e) u)) (fun e' u' c' => dR T n nm lim f (dLp t (if rkH (tK T n e) = 4 then 2 else rkH (tK T n e)) w e' u' (c1 ++ c' ++ [(tK T n e, 0)])))) (some (rO e u c1)) = some (rO e' u' c) := hr
    rw [if_pos hc] at hr
    have h7 := rkH_lt (tK T n e)
    have ho := rkH_or (k := tK T n e) (by omega)
    rcases dTh_s hr with ⟨x, a1, a2⟩ | ⟨e1, u1, c2, a1, a2⟩
    · cases a2
    · obtain ⟨b0, ⟨b1, b2⟩, b3, b4⟩ := h1 _ w _ u _ _ _ a1 (by omega) hw
      obtain ⟨⟨q1, q2⟩, q3, q4⟩ := hq
      have := h2 t _ w e1 u1 _ e' u' c a2 ht hw u0 (by omega) ⟨⟨by omega, by rw [List.length_append, List.length_append, List.length_singleton]; omega⟩, fun x hx => ?_, fun x hx => ?_⟩
      · exact ⟨by omega, this.2⟩
      · obtain ⟨d1, d2⟩ := q3 x hx
        have hl := hB_lt (w := w) hc.1 ho
        obtain ⟨d3, d4⟩ := b3 (x + 1) (by omega)
        obtain ⟨d5, d6⟩ := eJ (np := np) (k := tK T n e) (by omega) x
        have e12 : eHs (cMp c1 ++ cMp c2) x = x + 2 := by rw [eHs_app, d2, d4]
        rw [cMp_app, cMp_app, eOk_app, eHs_app (cMp c1 ++ cMp c2), e12, eOk_app, d2]
        exact ⟨⟨⟨d1, d3⟩, d5, trivial⟩, d6⟩
      · rcases List.mem_append.mp hx with z | z
        · rcases List.mem_append.mp z with z | z
          · exact q4 x z
          · exact b4 x z
        · rw [List.mem_singleton.mp z]; exact Or.inr (Or.inr ⟨Or.inr (Or.inr (Or.inr (Or.inr (by show rkH (tK T n e) ≠ 0; omega)))), rfl⟩)
  · have := dLp_0 hr hc
    have := Sum.inr.inj this
    injection this with z1 z2
    injection z2 with z2 z3
    subst z1
    subst z2
    subst z3
    exact ⟨Nat.le_refl _, hq⟩
theorem uH_k {k : Nat} (h : uH k ≠ 0) : k = 274 ∨ k = 40 ∨ k = 268 ∨ k = 262 ∨ k = 269 ∨ k = 270 ∨ k = 271 ∨ k = 272 := by
  unfold uH at h
  repeat' split at h
  all_goals omega
theorem dg_n {x : Int32} (h : isDg x) : ∃ d, d < 10 ∧ x = nI (48 + d) := by
  obtain ⟨k, h1, h2, rfl⟩ := (rg_iff (v := x) (lo := 48) (hi := 57) (by decide) (by decide)).mp h
  exact ⟨k - 48, by omega, nIe (by omega)⟩
theorem dV_lt {T : Nat → Int32} {a : Nat} : ∀ m, m ≤ 4 → (∀ k, k < m → isDg (T (a + k))) → ∃ v, v < 10 ^ m ∧ dV T a m = nI v
  | 0, _, _ => ⟨0, by decide, rfl⟩
  | m + 1, hm, h => by
    obtain ⟨v, v1, v2⟩ := dV_lt m (by omega) (fun k hk => h k (by omega))
    obtain ⟨d, d1, d2⟩ := dg_n (h m (by omega))
    refine ⟨10 * v + d, by rw [Nat.pow_succ]; omega, ?_⟩
    show (10 * dV T a m + T (a + m)) - 48 = _
    rw [v2, d2, show (10 : Int32) = nI 10 from rfl, pk_mul, nI_add, show (48 : Int32) = nI 48 from rfl, pk_sub (by omega)]
    exact nIe (by omega)
theorem tN_lt {e : Nat} (h : tK T n e = 274) : ∃ m, m < 10000 ∧ tN T n e = nI m := by
  by_cases h0 : n ≤ tA T n e
  · rw [(tE_0 h0).2] at h; cases h
  · by_cases h1 : isLt (T (tA T n e))
    · by_cases q : 8 < tE T n e - tA T n e
      · rw [(tE_l h0 h1).2.1 q] at h; cases h
      · rw [(tE_l h0 h1).2.2 q] at h
        have := wIx_rg (tV T n e)
        omega
    · by_cases h2 : isDg (T (tA T n e))
      · obtain ⟨t1, t2, t3⟩ := tE_d h0 h1 h2
        have hl : ¬ 4 < tE T n e - tA T n e := fun z => by rw [t2 (Or.inl z)] at h; cases h
        obtain ⟨v, v1, v2⟩ := dV_lt (T := T) (a := tA T n e) (tE T n e - tA T n e) (by omega) (fun k hk => by
          have := (rn_all (p := fun k => isDg (T k)) (n := n) _ (tA T n e) rfl).2.2.1 (tA T n e + k) (by omega) (by rw [← t1]; omega)
          exact this.2)
        have : 10 ^ (tE T n e - tA T n e) ≤ 10 ^ 4 := Nat.pow_le_pow_right (by decide) (by omega)
        exact ⟨v, by omega, v2⟩
      · by_cases q : T (tA T n e) ∈ sgL
        · rw [(tE_s h0 h1 h2).2.1 q] at h
          have := (sg_cd q).2.1
          omega
        · rw [(tE_s h0 h1 h2).2.2 q] at h; cases h
theorem con_q {f k w e u e' u' : Nat} {v : Int32} {c : Cd} (h1 : qPt T n nm lim np f) (hk : uH k ≠ 0) (hw : uOp (uH k) → w ≤ 6) (hw7 : w ≤ 7) (hv : k ≠ 40 → cE np (k, v)) (hr : dCon T n k v w e (u + 1) (dR T n nm lim f) = some (rO e' u' c)) : u ≤ u' ∧ cQ np 6 w (u' - u) c := by
  have br : ∀ e2, uOp (uH k) → dBr T n k v (dR T n nm lim f (dPt 0 (w + 1) e2 (u + 1))) = some (rO e' u' c) → u ≤ u' ∧ cQ np 6 w (u' - u) c := by
    intro e2 ho hr
    have w6 := hw ho
    rcases dTh_s hr with ⟨x, a1, a2⟩ | ⟨e1, u1, c1, a1, a2⟩
    · cases a2
    · obtain ⟨b0, ⟨b1, b2⟩, b3, b4⟩ := h1 0 (w + 1) _ _ _ _ _ a1 (by decide) (by omega)
      have a2 := Option.some.inj a2
      by_cases h41 : tK T n e1 = 41
      · rw [if_pos h41] at a2
        have a2 := Sum.inr.inj a2
        injection a2 with z1 z2
        injection z2 with z2 z3
        subst z2
        have hh : ∀ h, h + hB 6 w ≤ 44 → eOk np (cMp c1) h ∧ eHs (cMp c1) h = h + 1 := by
          intro h hx
          refine b3 h ?_
          have : hB 0 (w + 1) ≤ hB 6 w := by
            show (5 - 0) + 5 * (7 - (w + 1)) + 1 ≤ (5 - 5) + 5 * (7 - w) + 1
            omega
          omega
        by_cases h40 : k = 40
        · rw [if_pos h40] at z3
          subst z3
          exact ⟨by omega, ⟨by omega, by omega⟩, hh, b4⟩
        · rw [if_neg h40] at z3
          subst z3
          refine ⟨by omega, ⟨by omega, by rw [List.length_append, List.length_singleton]; omega⟩, fun h hx => ?_, fun x hx => ?_⟩
          · obtain ⟨d1, d2⟩ := hh h hx
            rw [cMp_app, eOk_app, eHs_app, d2]
            have hcE := hv h40
            have : k = 270 ∨ k = 271 ∨ k = 272 := by
              rcases uH_k hk with rfl | rfl | rfl | rfl | rfl | rfl | rfl | rfl
              · exact absurd ho (by unfold uOp; decide)
              · exact absurd rfl h40
              · exact absurd ho (by unfold uOp; decide)
              · exact absurd ho (by unfold uOp; decide)
              · exact absurd ho (by unfold uOp; decide)
              · omega
              · omega
              · omega
            rcases this with rfl | rfl | rfl
            · have hp : ∃ p, p < np ∧ v = nI p := by
                rcases hcE with z | z | z
                · exact absurd z.1 (by show ¬ 270 = 274; decide)
                · exact z.2
                · exact absurd z.1 (by show ¬ (270 = 268 ∨ 270 = 271 ∨ 270 = 272 ∨ 270 = 267 ∨ rkH 270 ≠ 0); decide)
              refine ⟨⟨d1, ?_, trivial⟩, ?_⟩
              · show eNd np 107 v (h + 1)
                unfold eNd
                rw [if_neg (by decide), if_pos rfl]; exact ⟨by omega, hp⟩
              · show eHt 107 (h + 1) = h + 1
                unfold eHt
                rw [if_neg (by decide), if_pos (by decide)]
            · refine ⟨⟨d1, ?_, trivial⟩, ?_⟩
              · show eNd np 97 v (h + 1)
                unfold eNd
                rw [if_neg (by decide), if_neg (by decide), if_pos (by decide)]; omega
              · show eHt 97 (h + 1) = h + 1
                unfold eHt
                rw [if_neg (by decide), if_pos (by decide)]
            · refine ⟨⟨d1, ?_, trivial⟩, ?_⟩
              · show eNd np 99 v (h + 1)
                unfold eNd
                rw [if_neg (by decide), if_neg (by decide), if_pos (by decide)]; omega
              · show eHt 99 (h + 1) = h + 1
                unfold eHt
                rw [if_neg (by decide), if_pos (by decide)]
          · rcases List.mem_append.mp hx with z | z
            · exact b4 x z
            · rw [List.mem_singleton.mp z]; exact hv h40
      · rw [if_neg h41] at a2; cases a2
  unfold dCon at hr
  by_cases ho : uOp (uH k)
  · rw [if_pos ho] at hr
    by_cases h40 : k = 40
    · rw [if_pos h40] at hr; exact br _ ho hr
    · rw [if_neg h40] at hr
      by_cases hb : tK T n e = 40
      · rw [if_pos hb] at hr; exact br _ ho hr
      · rw [if_neg hb] at hr; cases hr
  · rw [if_neg ho] at hr
    have a2 := Sum.inr.inj (Option.some.inj hr)
    injection a2 with z1 z2
    injection z2 with z2 z3
    subst z2
    subst z3
    have h40 : k ≠ 40 := fun z => ho (Or.inl (uH_40.mpr z))
    refine ⟨by omega, ⟨by omega, by show 1 + 1 + w ≤ _; omega⟩, fun h hx => ?_, fun x hx => by rw [List.mem_singleton.mp hx]; exact hv h40⟩
    have hb1 : 1 ≤ hB 6 w := by unfold hB; omega
    have : k = 274 ∨ k = 268 ∨ k = 262 ∨ k = 269 := by
      rcases uH_k hk with rfl | rfl | rfl | rfl | rfl | rfl | rfl | rfl
      · omega
      · exact absurd rfl h40
      · omega
      · omega
      · omega
      · exact absurd (by unfold uOp; decide) ho
      · exact absurd (by unfold uOp; decide) ho
      · exact absurd (by unfold uOp; decide) ho
    rcases this with rfl | rfl | rfl | rfl
    · refine ⟨⟨?_, trivial⟩, ?_⟩
      · show eNd np 110 v h
        unfold eNd; rw [if_pos (by decide)]; omega
      · show eHt 110 h = h + 1
        unfold eHt; rw [if_pos (by decide)]
    · refine ⟨⟨?_, trivial⟩, ?_⟩
      · show eNd np 109 v h
        unfold eNd; rw [if_pos (by decide)]; omega
      · show eHt 109 h = h + 1
        unfold eHt; rw [if_pos (by decide)]
    · refine ⟨⟨?_, trivial⟩, ?_⟩
      · show eNd np 104 v h
        unfold eNd; rw [if_pos (by decide)]; omega
      · show eHt 104 h = h + 1
        unfold eHt; rw [if_pos (by decide)]
    · refine ⟨⟨?_, trivial⟩, ?_⟩
      · show eNd np 103 v h
        unfold eNd; rw [if_pos (by decide)]; omega
      · show eHt 103 h = h + 1
        unfold eHt; rw [if_pos (by decide)]
theorem uNm_k {k : Nat} (hk : uH k ≠ 0) : (uNm (uH k) ↔ (k = 262 ∨ k = 269 ∨ k = 270)) := by
  rcases uH_k hk with rfl | rfl | rfl | rfl | rfl | rfl | rfl | rfl <;> (unfold uNm; decide)
theorem qUn_s {f : Nat} (hnm : ∀ v k, nm v = some k → k < np) (h1 : qPt T n nm lim np f) : qUn T n nm lim np (f + 1) := by
  intro w e u e' u' c hr hw
  have hr : @ite _ (uH (tK T n e) = 0 ∨ lim ≤ u ∨ (uOp (uH (tK T n e)) ∧ 6 < w)) (Classical.propDecidable _) (some (dBad T n e)) (@ite _ (uNm (uH (tK T n e))) (Classical.propDecidable _) (@ite _ (tK T n (tE T n e) = 273) (Classical.propDecidable _) (match nm (tV T n (tE T n e)) with | none => some (rF 4 (tA T n (tE T n e))) | some k => dCon T n (tK T n e) (nI k) w (tE T n (tE T n e)) (u + 1) (dR T n nm lim f)) (some (dBad T n (tE T n e)))) (dCon T n (tK T n e) (if tK T n e = 274 then tN T n e else 0) w (tE T n e) (u + 1) (dR T n nm lim f))) = some (rO e' u' c) := hr
  by_cases hb : uH (tK T n e) = 0 ∨ lim ≤ u ∨ (uOp (uH (tK T n e)) ∧ 6 < w)
  · rw [if_pos hb] at hr; cases hr
  · rw [if_neg hb] at hr
    have hk : uH (tK T n e) ≠ 0 := fun x => hb (Or.inl x)
    have how : uOp (uH (tK T n e)) → w ≤ 6 := fun x => by
      by_cases y : 6 < w
      · exact absurd (Or.inr (Or.inr ⟨x, y⟩)) hb
      · omega
    by_cases hn : uNm (uH (tK T n e))
    · rw [if_pos hn] at hr
      by_cases h273 : tK T n (tE T n e) = 273
      · rw [if_pos h273] at hr
        cases ho : nm (tV T n (tE T n e)) with
        | none => rw [ho] at hr; cases hr
        | some k =>
          rw [ho] at hr
          exact con_q h1 hk how hw (fun _ => Or.inr (Or.inl ⟨(uNm_k hk).mp hn, k, hnm _ _ ho, rfl⟩)) hr
      · rw [if_neg h273] at hr; cases hr
    · rw [if_neg hn] at hr
      refine con_q h1 hk how hw (fun h40 => ?_) hr
      by_cases h274 : tK T n e = 274
      · rw [if_pos h274]; exact Or.inl ⟨h274, tN_lt h274⟩
      · rw [if_neg h274]
        have hn' : ¬ (tK T n e = 262 ∨ tK T n e = 269 ∨ tK T n e = 270) := fun z => hn ((uNm_k hk).mpr z)
        have h40' : tK T n e ≠ 40 := h40
        have := uH_k hk
        exact Or.inr (Or.inr ⟨by show tK T n e = 268 ∨ tK T n e = 271 ∨ tK T n e = 272 ∨ _ ∨ _; omega, rfl⟩)
theorem desc_q (hnm : ∀ v k, nm v = some k → k < np) : ∀ f, qPt T n nm lim np f ∧ qLp T n nm lim np f ∧ qUn T n nm lim np f
  | 0 => ⟨fun _ _ _ _ _ _ _ h => (by cases h), fun _ _ _ _ _ _ _ _ _ h => (by cases h), fun _ _ _ _ _ _ h => (by cases h)⟩
  | f + 1 => by
    obtain ⟨h1, h2, h3⟩ := desc_q hnm f
    exact ⟨qPt_s h1 h2 h3, qLp_s h1 h2, qUn_s hnm h1⟩
end DC
