/-! ===== the class: parts and units of a formula ===== -/
section RP
variable {T : Nat → Int32} {n lim np t cc : Nat} {L : zL} {P : zP}
theorem rB_c {k p : Nat} {I I' : zI} (h : rB k p I) (e : I' 17 = I 17) : rB k p I' := by unfold rB; rw [e]; exact h
theorem dTh_m {a a' : Option Rs} {g g' : Nat → Nat → Cd → Option Rs} {r : Rs} (ha : ∀ r, a = some r → a' = some r) (hg : ∀ e u c r, g e u c = some r → g' e u c = some r) (h : dTh a g = some r) : dTh a' g' = some r := by
  rcases dTh_s h with ⟨q, h1, h2⟩ | ⟨e, u, c, h1, h2⟩
  · rw [ha _ h1, h2]; rfl
  · rw [ha _ h1]; exact hg e u c r h2
theorem dBr_m {nm : Int64 → Option Nat} {k : Nat} {v : Int32} {a a' : Option Rs} {r : Rs} (ha : ∀ r, a = some r → a' = some r) (h : dBr T n k v a = some r) : dBr T n k v a' = some r := dTh_m ha (fun _ _ _ _ h => h) h
/-- more fuel, the same -/
theorem dR_m {nm : Int64 → Option Nat} : ∀ f x r, dR T n nm lim f x = some r → dR T n nm lim (f + 1) x = some r := by
  intro f
  induction f with
  | zero => intro x r h; cases h
  | succ f ih =>
    intro x r h
    match x with
    | .inl (t, w, e, u) =>
      have h : @ite _ (tK T n e = 267 ∧ t ≤ 3 ∧ w ≤ 6) (Classical.propDecidable _) (dTh (dR T n nm lim f (dPt 2 (w + 1) (tE T n e) u)) (fun e' u' c => dR T n nm lim f (dLp t 2 w e' u' (c ++ [(267, 0)])))) (dTh (dR T n nm lim f (dUn w e u)) (fun e' u' c => dR T n nm lim f (dLp t 6 w e' u' c))) = some r := h
      show @ite _ (tK T n e = 267 ∧ t ≤ 3 ∧ w ≤ 6) (Classical.propDecidable _) (dTh (dR T n nm lim (f + 1) (dPt 2 (w + 1) (tE T n e) u)) (fun e' u' c => dR T n nm lim (f + 1) (dLp t 2 w e' u' (c ++ [(267, 0)])))) (dTh (dR T n nm lim (f + 1) (dUn w e u)) (fun e' u' c => dR T n nm lim (f + 1) (dLp t 6 w e' u' c))) = some r
      by_cases c : tK T n e = 267 ∧ t ≤ 3 ∧ w ≤ 6
      · rw [if_pos c] at h ⊢; exact dTh_m (ih _) (fun _ _ _ => ih _) h
      · rw [if_neg c] at h ⊢; exact dTh_m (ih _) (fun _ _ _ => ih _) h
    | .inr (.inl (t, hi, w, e, u, c)) =>
      have h : @ite _ (t < rkH (tK T n e) ∧ rkH (tK T n e) ≤ hi) (Classical.propDecidable _) (dTh (dR T n nm lim f (dPt (rkH (tK T n e)) w (tE T n e) u)) (fun e' u' c' => dR T n nm lim f (dLp t (if rkH (tK T n e) = 4 then 2 else rkH (tK T n e)) w e' u' (c ++ c' ++ [(tK T n e, 0)])))) (some (rO e u c)) = some r := h
      show @ite _ (t < rkH (tK T n e) ∧ rkH (tK T n e) ≤ hi) (Classical.propDecidable _) (dTh (dR T n nm lim (f + 1) (dPt (rkH (tK T n e)) w (tE T n e) u)) (fun e' u' c' => dR T n nm lim (f + 1) (dLp t (if rkH (tK T n e) = 4 then 2 else rkH (tK T n e)) w e' u' (c ++ c' ++ [(tK T n e, 0)])))) (some (rO e u c)) = some r
      by_cases cc : t < rkH (tK T n e) ∧ rkH (tK T n e) ≤ hi
      · rw [if_pos cc] at h ⊢; exact dTh_m (ih _) (fun _ _ _ => ih _) h
      · rw [if_neg cc] at h ⊢; exact h
    | .inr (.inr (w, e, u)) =>
      have con : ∀ k v e2 u2, dCon T n k v w e2 u2 (dR T n nm lim f) = some r → dCon T n k v w e2 u2 (dR T n nm lim (f + 1)) = some r := by
        intro k v e2 u2 h
        unfold dCon at h ⊢
        by_cases c1 : uOp (uH k)
        · rw [if_pos c1] at h ⊢
          by_cases c2 : k = 40
          · rw [if_pos c2] at h ⊢; exact dBr_m (nm := nm) (ih _) h
          · rw [if_neg c2] at h ⊢
            by_cases c3 : tK T n e2 = 40
            · rw [if_pos c3] at h ⊢; exact dBr_m (nm := nm) (ih _) h
            · rw [if_neg c3] at h ⊢; exact h
        · rw [if_neg c1] at h ⊢; exact h
      unfold dR at h ⊢
      by_cases c1 : uH (tK T n e) = 0 ∨ lim ≤ u ∨ (uOp (uH (tK T n e)) ∧ 6 < w)
      · rw [if_pos c1] at h ⊢; exact h
      · rw [if_neg c1] at h ⊢
        by_cases c2 : uNm (uH (tK T n e))
        · rw [if_pos c2] at h ⊢
          by_cases c3 : tK T n (tE T n e) = 273
          · rw [if_pos c3] at h ⊢
            cases ho : nm (tV T n (tE T n e)) with
            | none => rw [ho] at h; exact h
            | some k => rw [ho] at h; exact con _ _ _ _ h
          · rw [if_neg c3] at h ⊢; exact h
        · rw [if_neg c2] at h ⊢; exact con _ _ _ _ h
theorem rd_gt {nm : Int64 → Option Nat} {f t' w e0 u e1 u1 : Nat} {c1 : Cd} (h : dR T n nm lim f (dPt t' w e0 u) = some (rO e1 u1 c1)) (he : e0 ≤ n) : e0 < e1 := by
  have up : ∀ k, dR T n nm lim (f + k) (dPt t' w e0 u) = some (rO e1 u1 c1) := by
    intro k
    induction k with
    | zero => exact h
    | succ k ih => exact dR_m _ _ _ ih
  obtain ⟨res, h1, h2⟩ := (desc_t (T := T) (nm := nm) (lim := lim) n e0 he (by omega)).1 (f + (2 * n + 3)) (by omega) t' w u
  rw [up] at h1
  have := h2 e1 u1 c1 (Option.some.inj h1).symm
  omega
/-- a step is added -/
theorem rd_add {I : zI} {e u m k : Nat} {c : Cd} {v : Int32} (hX : rX P t np cc lim I) (hG : rG T n I L e) (hu : I 17 6 = nI u) (hn : I cc 1 = nI (m + c.length)) (hT : cT cc I m c) :
    rX P t np cc lim (zuI (zuI I (cc + 1) (m + c.length) (enc (k, v))) cc 1 (nI (m + c.length + 1))) ∧ rG T n (zuI (zuI I (cc + 1) (m + c.length) (enc (k, v))) cc 1 (nI (m + c.length + 1))) L e ∧ (zuI (zuI I (cc + 1) (m + c.length) (enc (k, v))) cc 1 (nI (m + c.length + 1))) 17 6 = nI u ∧ (zuI (zuI I (cc + 1) (m + c.length) (enc (k, v))) cc 1 (nI (m + c.length + 1))) 17 5 = I 17 5 ∧ (zuI (zuI I (cc + 1) (m + c.length) (enc (k, v))) cc 1 (nI (m + c.length + 1))) cc 1 = nI (m + (c ++ [(k, v)]).length) ∧ cT cc (zuI (zuI I (cc + 1) (m + c.length) (enc (k, v))) cc 1 (nI (m + c.length + 1))) m (c ++ [(k, v)]) ∧ cFr [17, cc, cc + 1] I (zuI (zuI I (cc + 1) (m + c.length) (enc (k, v))) cc 1 (nI (m + c.length + 1))) ∧ ∀ j, j < m + c.length → (zuI (zuI I (cc + 1) (m + c.length) (enc (k, v))) cc 1 (nI (m + c.length + 1))) (cc + 1) j = I (cc + 1) j := by
  have hco := hX.2.2.2.1
  unfold co at hco
  have hf : cFr [17, cc, cc + 1] I (zuI (zuI I (cc + 1) (m + c.length) (enc (k, v))) cc 1 (nI (m + c.length + 1))) := cFr_c (cFr_c (cFr_rf _ _) (by simp)) (by simp)
  have e17 : (zuI (zuI I (cc + 1) (m + c.length) (enc (k, v))) cc 1 (nI (m + c.length + 1))) 17 = I 17 := by rw [zuI_ne (by omega), zuI_ne (by omega)]
  have pre : ∀ j, j < m + c.length → (zuI (zuI I (cc + 1) (m + c.length) (enc (k, v))) cc 1 (nI (m + c.length + 1))) (cc + 1) j = I (cc + 1) j := fun j hj => by rw [zuI_ne (by omega), zuI_o (by omega)]
  refine ⟨rX_c hX hf (by rw [e17]), rG_c hG (fun q _ => by rw [e17]) ?_ ?_ ?_ rfl, by rw [e17]; exact hu, by rw [e17], ?_, cT_app (cT_c hT pre) (cT_one ?_), hf, pre⟩
  · rw [zuI_ne (by omega), zuI_ne (by omega)]
  · rw [zuI_ne (by omega), zuI_ne (by omega)]
  · rw [zuI_ne (by omega), zuI_ne (by omega)]
  · rw [zuI_v, List.length_append, List.length_singleton]; rfl
  · rw [zuI_ne (by omega), zuI_v]
abbrev cnm (L : zL) (t np : Nat) : Int64 → Option Nat := fun v => nfD (L (t + 1)) v np 0
def sPt (T : Nat → Int32) (n lim np t cc : Nat) (L : zL) (P : zP) (f : Nat) : Prop := ∀ r w e u res (I : zI) m d (K : zI → zL → zP → Prop), dR T n (cnm L t np) lim f (dPt (tO r) w e u) = some res → r < 6 → w ≤ 7 → u ≤ lim → m + 9 * (lim - u) ≤ 600 → rX P t np cc lim I → rG T n I L e → I 17 6 = nI u → I cc 1 = nI m → 8 * (7 - w) + (6 - r) + 6 ≤ d → rQ T n L lim cc m I (fun I' => K I' L P) res → zMv zm_X5_readPart d [.ref 17, .int (nI r), .int (nI w)] I L P K
def sUn (T : Nat → Int32) (n lim np t cc : Nat) (L : zL) (P : zP) (f : Nat) : Prop := ∀ w e u res (I : zI) m d (K : zI → zL → zP → Prop), dR T n (cnm L t np) lim f (dUn w e u) = some res → w ≤ 7 → u ≤ lim → m + 9 * (lim - u) ≤ 600 → rX P t np cc lim I → rG T n I L e → I 17 6 = nI u → I cc 1 = nI m → 8 * (7 - w) + 6 ≤ d → rQ T n L lim cc m I (fun I' => K I' L P) res → zMv zm_X5_readUnit d [.ref 17, .int (nI w)] I L P K
def sLp (T : Nat → Int32) (n lim np t cc : Nat) (L : zL) (P : zP) (f : Nat) : Prop := ∀ r h w e u c res (I0 I : zI) m i d (Q : zQt), dR T n (cnm L t np) lim f (dLp (tO r) (mRk h) w e u c) = some res → r < 6 → h < 5 → w ≤ 7 → u ≤ lim → m + c.length + 9 * (lim - u) ≤ 600 → rX P t np cc lim I → rG T n I L e → I 17 6 = nI u → I cc 1 = nI (m + c.length) → cT cc I m c → cFr [17, cc, cc + 1] I0 I → I 17 5 = I0 17 5 → (∀ j, j < m → I (cc + 1) j = I0 (cc + 1) j) → i ≤ e → 8 * (7 - w) + (6 - r) + 5 ≤ d → rQ T n L lim cc m I0 (fun I' => Q none I' L P 205) res → gw_X5_readPart (d + 1) Q 59 [some (.ref 17), some (.int (nI r)), some (.int (nI w)), some (.int (nI h)), some (.int (nI i)), none, none] [] I L P
/-- behind a fault what is added doesn't matter -/
theorem bad_add {I0 I : zI} {d k p m : Nat} {x y : Int32} (hP : zPk P) (hX : rX P t np cc lim I0) (hf : cFr [17, cc, cc + 1] I0 I) (hb : rB k p I) (hm : ∃ m', m' ≤ 600 ∧ I cc 1 = nI m') {K : zI → zL → zP → Prop} (kk : ∀ I', cFr [17, cc, cc + 1] I0 I' → rB k p I' → (∃ m', m' ≤ 600 ∧ I' cc 1 = nI m') → K I' L P) : zMv zm_X0_add d [.ref cc, .int x, .int y] I L P K := by
  obtain ⟨m', h1, h2⟩ := hm
  have hco := hX.2.2.2.1
  have h3 := hco
  unfold co at h3
  exact sp_X0_addF hP hco h2 h1 (fun I' f1 f2 => kk I' (cFr_tr hf (cFr_wk f1 (by simp))) (rB_c hb (f1 17 (by simp only [List.mem_cons, List.not_mem_nil, or_false]; omega))) f2)
theorem sPt_s {f : Nat} (hP : zPk P) (hlim : lim ≤ 60) (h1 : sPt T n lim np t cc L P f) (h2 : sLp T n lim np t cc L P f) (h3 : sUn T n lim np t cc L P f) : sPt T n lim np t cc L P (f + 1) := by
  have hq := desc_q (T := T) (n := n) (nm := cnm L t np) (lim := lim) (np := np) (fun v k h => by have := (nfD_lt h).2; omega) f
  intro r w e u res I m d K hr hr6 hw hu hm hX hG hU hM hd hQ
  obtain ⟨d, rfl⟩ : ∃ e, d = e + 1 := ⟨d - 1, by omega⟩
  have hco := hX.2.2.2.1
  have hco2 := hco
  unfold co at hco2
  have ht6 := (tO_le r hr6).1
  have ht := (tO_le r hr6).2
  have h8 := rG_w hG (w := 267) (by decide)
  have hr : @ite _ (tK T n e = 267 ∧ tO r ≤ 3 ∧ w ≤ 6) (Classical.propDecidable _) (dTh (dR T n (cnm L t np) lim f (dPt 2 (w + 1) (tE T n e) u)) (fun e' u' c => dR T n (cnm L t np) lim f (dLp (tO r) 2 w e' u' (c ++ [(267, 0)])))) (dTh (dR T n (cnm L t np) lim f (dUn w e u)) (fun e' u' c => dR T n (cnm L t np) lim f (dLp (tO r) 6 w e' u' c))) = some res := hr
  -- a unit, and what is behind it
  have unit : ¬ (tK T n e = 267 ∧ tO r ≤ 3 ∧ w ≤ 6) → zMv zm_X5_readUnit d [.ref 17, .int (nI w)] I L P (fun I' L' P' => gw_X5_readPart (d + 1) (fun v I' L' P' nx' => nx' = 205 ∧ v = none ∧ K I' L' P') 59 [some (.ref 17), some (.int (nI r)), some (.int (nI w)), some (.int 4), some (.int 0), none, none] [] I' L' P') := by
    intro hn
    rw [if_neg hn] at hr
    rcases dTh_s hr with ⟨q, a1, a2⟩ | ⟨e1, u1, c1, a1, a2⟩
    · subst a2
      exact h3 w e u _ I m d _ a1 hw hu hm hX hG hU hM (by omega) (fun I' f1 f2 f3 => lp_X5_readPartB (i := 0) hP f2 (nI_pos (by omega)) (qv (hQ I' f1 f2 f3)))
    · have hq3 := hq.2.2 w e u e1 u1 c1 a1 hw
      refine h3 w e u _ I m d _ a1 hw hu hm hX hG hU hM (by omega) (fun I' f1 f2 f3 f4 f5 f6 f7 f8 => ?_)
      have hl := hq3.2.1.2
      refine h2 r 4 w e1 u1 c1 res I I' m 0 d _ a2 hr6 (by decide) hw f5 (by omega) (rX_c hX f1 f2) f3 f4 f6 f8 f1 f2 f7 (Nat.zero_le _) (by omega) ?_
      revert hQ
      match res with
      | .inl q => exact fun hQ I' a b c => qv (hQ I' a b c)
      | .inr (e', u', c) => exact fun hQ I' a b c d e f g h => qv (hQ I' a b c d e f g h)
  refine g_X5_readPart hP ⟨fun q => unit (fun z => q (h8.mpr z.1)), fun q => ⟨fun q2 => unit (fun z => ?_), fun q2 => ⟨fun q3 => unit (fun z => ?_), fun q3 => ?_⟩⟩⟩
  · rw [show (2 : Int32) = nI 2 from rfl, nI_ltI (by decide) (by omega)] at q2
    have := ht6.mp z.2.1
    omega
  · rw [show (6 : Int32) = nI 6 from rfl, nI_ltI (by decide) (by omega)] at q3
    omega
  · have k267 := h8.mp q
    have r2 : r ≤ 2 := by
      rw [show (2 : Int32) = nI 2 from rfl, nI_ltI (by decide) (by omega)] at q2
      omega
    have w6 : w ≤ 6 := by
      rw [show (6 : Int32) = nI 6 from rfl, nI_ltI (by decide) (by omega)] at q3
      omega
    rw [if_pos ⟨k267, ht6.mpr r2, w6⟩] at hr
    refine sp_X5_advance hP hG (by omega) (by omega) (fun I1 f1 f2 => ?_)
    have cf1 : cFr [17, cc, cc + 1] I I1 := cFr_wk f1.1 (by simp)
    have hX1 := rX_c hX cf1 f1.2.1
    have hU1 : I1 17 6 = nI u := by rw [f1.2.2]; exact hU
    have hM1 : I1 cc 1 = nI m := by rw [f1.1 cc (by simp only [List.mem_cons, List.not_mem_nil, or_false]; omega)]; exact hM
    have hb := (co_P hco hP).1
    rw [nI_1]
    rcases dTh_s hr with ⟨q, a1, a2⟩ | ⟨e1, u1, c1, a1, a2⟩
    · subst a2
      refine h1 2 (w + 1) _ u _ I1 m d _ a1 (by decide) (by omega) hu hm hX1 f2 hU1 hM1 (by omega) (fun I2 g1 g2 g3 => ⟨cc, hX.2.1, hb, bad_add hP hX (cFr_tr cf1 g1) g2 g3 (m := m) (fun I3 b1 b2 b3 => lp_X5_readPartB (i := 0) hP b2 (nI_pos (by omega)) (qv (hQ I3 b1 b2 b3)))⟩)
    · have hq1 := hq.1 2 (w + 1) _ u e1 u1 c1 a1 (by decide) (by omega)
      have hl := hq1.2.1.2
      refine h1 2 (w + 1) _ u _ I1 m d _ a1 (by decide) (by omega) hu hm hX1 f2 hU1 hM1 (by omega) (fun I2 g1 g2 g3 g4 g5 g6 g7 g8 => ⟨cc, hX.2.1, hb, ?_⟩)
      obtain ⟨y1, y2, y3, y4, y5, y6, y7, y8⟩ := rd_add (k := 267) (v := 0) (rX_c hX1 g1 g2) g3 g4 g6 g8
      refine sp_X0_add (k := 267) hP hco g6 (by omega) ?_
      refine h2 r 1 w e1 u1 (c1 ++ [(267, 0)]) res I _ m 0 d _ a2 hr6 (by decide) hw g5 (by rw [List.length_append, List.length_singleton]; omega) y1 y2 y3 y5 y6 (cFr_tr cf1 (cFr_tr g1 y7)) (by rw [y4, g2, f1.2.1]) (fun j hj => by rw [y8 j (by omega), g7 j hj, f1.1 (cc + 1) (by simp only [List.mem_cons, List.not_mem_nil, or_false]; omega)]) (Nat.zero_le _) (by omega) ?_
      revert hQ
      match res with
      | .inl q => exact fun hQ I' a b c => qv (hQ I' a b c)
      | .inr (e', u', c) => exact fun hQ I' a b c d e f g h => qv (hQ I' a b c d e f g h)
theorem sLp_s {f : Nat} (hP : zPk P) (hlim : lim ≤ 60) (hn16 : n ≤ 1600) (h1 : sPt T n lim np t cc L P f) (h2 : sLp T n lim np t cc L P f) : sLp T n lim np t cc L P (f + 1) := by
  have hq := desc_q (T := T) (n := n) (nm := cnm L t np) (lim := lim) (np := np) (fun v k h => by have := (nfD_lt h).2; omega) f
  intro r h w e u c res I0 I m i d Q hr hr6 hh hw hu hm hX hG hU hM hT hf h5 hpre hi hd hQ
  have hco := hX.2.2.2.1
  have hco2 := hco
  unfold co at hco2
  have ht := (tO_le r hr6).2
  have he := rG_e hG
  have hk := tK_lt (T := T) (n := n) e
  have h8 := rG_k hG
  have hr : @ite _ (tO r < rkH (tK T n e) ∧ rkH (tK T n e) ≤ mRk h) (Classical.propDecidable _) (dTh (dR T n (cnm L t np) lim f (dPt (rkH (tK T n e)) w (tE T n e) u)) (fun e' u' c' => dR T n (cnm L t np) lim f (dLp (tO r) (if rkH (tK T n e) = 4 then 2 else rkH (tK T n e)) w e' u' (c ++ c' ++ [(tK T n e, 0)])))) (some (rO e u c)) = some res := hr
  have stop : ¬ (tO r < rkH (tK T n e) ∧ rkH (tK T n e) ≤ mRk h) → Q none I L P 205 := by
    intro hn
    rw [if_neg hn] at hr
    cases hr
    exact hQ I hf h5 hG hU hu hM hpre hT
  by_cases hz : rkH (tK T n e) = 0
  · have hs := stop (fun z => by omega)
    refine g_X5_readPart_59 hP ⟨fun _ => hs, fun _ => ⟨fun _ => hs, fun q => absurd ?_ q⟩⟩
    rw [h8, rk_0 hz (by omega), Int32.lt_iff_toInt_lt, nI_toInt (by omega)]
    have h1 : (-1 : Int32).toInt = -1 := by decide
    omega
  · obtain ⟨q, hq4, eq, em⟩ := rk_1 hz
    have ne275 : tK T n e ≠ 275 ∧ tK T n e ≠ 276 := by
      rcases rkH_k hz with z | z | z | z | z | z | z | z | z <;> omega
    have hgt := tE_gt (T := T) he ne275.1
    have hen : e < n := by
      have := (tE_le (T := T) he).2
      omega
    have hb := (co_P hco hP).1
    refine g_X5_readPart_59 hP ⟨fun z => absurd z (by rw [show (1600 : Int32) = nI 1600 from rfl]; exact nI_ge (by omega) (by decide)), fun _ => ?_⟩
    rw [h8, eq]
    refine ⟨fun z => stop (fun y => ?_), fun z => ⟨fun z2 => ?_, fun z2 => stop (fun y => ?_)⟩⟩
    · rw [nI_ltI (by omega) (by omega)] at z
      rw [← em, tO_lt r hr6 q (by omega)] at y
      omega
    · rw [nI_ltI (by omega) (by omega)] at z
      rw [nI_leI (by omega) (by omega)] at z2
      have c1 : tO r < rkH (tK T n e) ∧ rkH (tK T n e) ≤ mRk h := by
        rw [← em]
        exact ⟨(tO_lt r hr6 q (by omega)).mpr (by omega), (mRk_le h hh q (by omega)).mpr z2⟩
      rw [if_pos c1] at hr
      have etq : tO (q + 1) = rkH (tK T n e) := by rw [← em]; rfl
      have ehi : (if rkH (tK T n e) = 4 then 2 else rkH (tK T n e)) = mRk (if q = 2 then 1 else q) := by
        rw [← em]
        have : ∀ q, q < 5 → (if mRk q = 4 then 2 else mRk q) = mRk (if q = 2 then 1 else q) := by decide
        exact this q (by omega)
      rw [ehi, ← etq] at hr
      refine sp_X5_advance hP hG ne275 (by omega) (fun I1 f1 f2 => ?_)
      have cf1 : cFr [17, cc, cc + 1] I I1 := cFr_wk f1.1 (by simp)
      have hX1 := rX_c hX cf1 f1.2.1
      have hU1 : I1 17 6 = nI u := by rw [f1.2.2]; exact hU
      have hM1 : I1 cc 1 = nI (m + c.length) := by rw [f1.1 cc (by simp only [List.mem_cons, List.not_mem_nil, or_false]; omega)]; exact hM
      have e1cc : I1 (cc + 1) = I (cc + 1) := f1.1 (cc + 1) (by simp only [List.mem_cons, List.not_mem_nil, or_false]; omega)
      rw [nI_1, nI_1]
      have nxt : ∀ J, gw_X5_readPart (d + 1) Q 59 [some (.ref 17), some (.int (nI r)), some (.int (nI w)), some (.int (nI (if q = 2 then 1 else q))), some (.int (nI (i + 1))), none, none] [] J L P → ((¬ nI q = 2 → gw_X5_readPart (d + 1) Q 59 [some (.ref 17), some (.int (nI r)), some (.int (nI w)), some (.int (nI q)), some (.int (nI (i + 1))), none, none] [] J L P) ∧ (nI q = 2 → gw_X5_readPart (d + 1) Q 59 [some (.ref 17), some (.int (nI r)), some (.int (nI w)), some (.int (nI q - 1)), some (.int (nI (i + 1))), none, none] [] J L P)) := by
        intro J hJ
        have e2 : nI q = 2 ↔ q = 2 := nI_eq (b := 2) (by omega) (by decide)
        rw [e2]
        refine ⟨fun y => by rw [if_neg y] at hJ; exact hJ, fun y => ?_⟩
        rw [if_pos y] at hJ
        rw [y]
        exact hJ
      rcases dTh_s hr with ⟨q', a1, a2⟩ | ⟨e1, u1, c1', a1, a2⟩
      · subst a2
        refine h1 (q + 1) w _ u _ I1 (m + c.length) d _ a1 (by omega) hw hu hm hX1 f2 hU1 hM1 (by omega) (fun I2 g1 g2 g3 => ⟨cc, hX.2.1, hb, bad_add hP hX (cFr_tr cf1 g1) g2 g3 (m := m) (fun I3 b1 b2 b3 => nxt I3 (lp_X5_readPartB (i := i + 1) hP b2 (nI_pos (by omega)) (hQ I3 (cFr_tr hf b1) b2 b3)))⟩)
      · have hq1 := hq.1 (tO (q + 1)) w _ u e1 u1 c1' a1 (tO_le (q + 1) (by omega)).2 hw
        have hl := hq1.2.1.2
        refine h1 (q + 1) w _ u _ I1 (m + c.length) d _ a1 (by omega) hw hu hm hX1 f2 hU1 hM1 (by omega) (fun I2 g1 g2 g3 g4 g5 g6 g7 g8 => ⟨cc, hX.2.1, hb, ?_⟩)
        have e2cc : ∀ j, j < m + c.length → I2 (cc + 1) j = I (cc + 1) j := fun j hj => by rw [g7 j hj, e1cc]
        have hT2 : cT cc I2 m (c ++ c1') := cT_app (cT_c hT e2cc) g8
        have g6' : I2 cc 1 = nI (m + (c ++ c1').length) := by rw [g6, List.length_append, Nat.add_assoc]
        obtain ⟨y1, y2, y3, y4, y5, y6, y7, y8⟩ := rd_add (k := tK T n e) (v := 0) (rX_c hX1 g1 g2) g3 g4 g6' hT2
        have hlen : (c ++ c1').length = c.length + c1'.length := List.length_append
        refine sp_X0_add (k := tK T n e) hP hco g6' (by omega) (nxt _ ?_)
        have hle1 := rG_e g3
        refine h2 r (if q = 2 then 1 else q) w e1 u1 (c ++ c1' ++ [(tK T n e, 0)]) res I0 _ m (i + 1) d Q a2 hr6 (by split <;> omega) hw g5 (by rw [List.length_append, List.length_singleton]; omega) y1 y2 y3 y5 y6 (cFr_tr hf (cFr_tr cf1 (cFr_tr g1 y7))) (by rw [y4, g2, f1.2.1, h5]) (fun j hj => by rw [y8 j (by omega), e2cc j (by omega)]; exact hpre j hj) ?_ (by omega) hQ
        have := rd_gt a1 (tE_le (T := T) he).2
        omega
    · rw [nI_leI (by omega) (by omega)] at z2
      rw [← em, mRk_le h hh q (by omega)] at y
      exact z2 y.2
end RP
