/-! ===== the class: units of a formula ===== -/
theorem uTab : ∀ k, k < 512 → (((nI k = 274 ∨ nI k = 268 ∨ nI k = 262 ∨ nI k = 269) ∨ (nI k = 270 ∨ nI k = 271 ∨ nI k = 272 ∨ nI k = 40)) ↔ uH k ≠ 0) ∧ ((nI k = 270 ∨ nI k = 271 ∨ nI k = 272 ∨ nI k = 40) ↔ (uH k = 40 ∨ uH k = 107 ∨ uH k = 97 ∨ uH k = 99)) ∧ ((nI k = 262 ∨ nI k = 269 ∨ nI k = 270) ↔ (uH k = 104 ∨ uH k = 103 ∨ uH k = 107)) := by decide +kernel
theorem uT_1 {k : Nat} (hk : k < 512) : (kLf (nI k) ∨ kOp (nI k)) ↔ uH k ≠ 0 := (uTab k hk).1
theorem uT_2 {k : Nat} (hk : k < 512) : kOp (nI k) ↔ uOp (uH k) := (uTab k hk).2.1
theorem uT_3 {k : Nat} (hk : k < 512) : (nI k = 262 ∨ nI k = 269 ∨ nI k = 270) ↔ uNm (uH k) := (uTab k hk).2.2
theorem l2i_i2l (x : Int32) : (x.toInt64).toInt32 = x := by simp
section RU
variable {T : Nat → Int32} {n lim np t cc : Nat} {L : zL} {P : zP}
/-- behind a fault the rest of a unit -/
theorem un118B {Q : zQt} {I0 I : zI} {d k p : Nat} {x1 x2 x3 x4 : Int32} (hP : zPk P) (hX : rX P t np cc lim I0) (hf : cFr [17, cc, cc + 1] I0 I) (hb : rB k p I) (hm : ∃ m', m' ≤ 600 ∧ I cc 1 = nI m') (hd : 3 ≤ d) (kk : ∀ I', cFr [17, cc, cc + 1] I0 I' → rB k p I' → (∃ m', m' ≤ 600 ∧ I' cc 1 = nI m') → Q none I' L P 205) :
    gw_X5_readUnit (d + 1) Q 118 [some (.ref 17), some (.int x1), some (.int x2), some (.int x3), some (.int x4)] [] I L P := by
  have hc := (co_P hX.2.2.2.1 hP).1
  refine g_X5_readUnit_118 hP (by omega) ⟨fun _ => ⟨fun _ => kk I hf hb hm, fun _ => ⟨cc, hX.2.1, hc, bad_add (m := 0) hP hX hf hb hm (fun I' a b c => kk I' a b c)⟩⟩, fun _ => ⟨fun _ => ?_, fun _ => ?_⟩⟩
  · exact sp_X5_readPartB (r := 0) hP hb (by decide) (by omega) (sp_X5_expectB (w := 41) hP hb (by decide) (by omega) (kk I hf hb hm))
  · exact sp_X5_expectB (w := 40) hP hb (by decide) (by omega) (sp_X5_readPartB (r := 0) hP hb (by decide) (by omega) (sp_X5_expectB (w := 41) hP hb (by decide) (by omega) ⟨cc, hX.2.1, hc, bad_add (m := 0) hP hX hf hb hm (fun I' a b c => kk I' a b c)⟩))
theorem sUn_s {f : Nat} (hP : zPk P) (hlim : lim ≤ 60) (h1 : sPt T n lim np t cc L P f) : sUn T n lim np t cc L P (f + 1) := by
  have hq := desc_q (T := T) (n := n) (nm := cnm L t np) (lim := lim) (np := np) (fun v k h => by have := (nfD_lt h).2; omega) f
  intro w e u res I m d K hr hw hu hm hX hG hU hM hd hQ
  obtain ⟨d, rfl⟩ : ∃ e, d = e + 1 := ⟨d - 1, by omega⟩
  have hco := hX.2.2.2.1
  have hco2 := hco
  unfold co at hco2
  have hb := (co_P hco hP).1
  have hk := tK_lt (T := T) (n := n) e
  have h8 := rG_k hG
  have he := rG_e hG
  have h5 := hX.2.2.2.2.1
  unfold dR at hr
  have bad : dBad T n e = res → zMv zm_X5_fail d [.ref 17, .int 2] I L P (fun I' L' P' => (205 : Nat) = 205 ∧ (none : Option Value) = none ∧ K I' L' P') := by
    intro hres
    subst hres
    exact sp_X5_fail (k := 2) hP hG (by decide) (by omega) (fun I' a b => qv (hQ I' (cFr_wk a.1 (by simp)) b ⟨m, by omega, by rw [a.1 cc (by simp only [List.mem_cons, List.not_mem_nil, or_false]; omega)]; exact hM⟩))
  by_cases c1 : uH (tK T n e) = 0 ∨ lim ≤ u ∨ (uOp (uH (tK T n e)) ∧ 6 < w)
  · rw [if_pos c1] at hr
    have hres := Option.some.inj hr
    refine g_X5_readUnit hP (by omega) ⟨fun _ => bad hres, fun q => ⟨fun _ => bad hres, fun q2 => ⟨fun q3 => ?_, fun q3 => ⟨fun q4 => ?_, fun _ => bad hres⟩⟩⟩⟩
    · rw [h8, bP_n, uT_1 (by omega)] at q
      rw [h5, hU, nI_leI (by omega) (by omega)] at q2
      rw [h8, bP_0, uT_2 (by omega)] at q3
      rcases c1 with z | z | z
      · exact absurd z q
      · exact absurd z q2
      · exact absurd z.1 q3
    · rw [h8, bP_n, uT_1 (by omega)] at q
      rw [h5, hU, nI_leI (by omega) (by omega)] at q2
      rw [show (6 : Int32) = nI 6 from rfl, nI_leI (by omega) (by decide)] at q4
      rcases c1 with z | z | z
      · exact absurd z q
      · exact absurd z q2
      · omega
  · rw [if_neg c1] at hr
    have cu : uH (tK T n e) ≠ 0 := fun z => c1 (Or.inl z)
    have cl : u < lim := by
      rcases Nat.lt_or_ge u lim with z | z
      · exact z
      · exact absurd (Or.inr (Or.inl z)) c1
    have cw : uOp (uH (tK T n e)) → w ≤ 6 := fun z => by
      rcases Nat.lt_or_ge 6 w with y | y
      · exact absurd (Or.inr (Or.inr ⟨z, y⟩)) c1
      · exact y
    have ne275 : tK T n e ≠ 275 ∧ tK T n e ≠ 276 := by
      constructor <;> intro z <;> rw [z] at cu <;> exact absurd rfl cu
    -- the rest of a unit of the kind k with the number v, when the token at e2 stands here
    have rest : ∀ (v : Int32) e2 J, dCon T n (tK T n e) v w e2 (u + 1) (dR T n (cnm L t np) lim f) = some res → cFr [17, cc, cc + 1] I J → J 17 5 = I 17 5 → rG T n J L e2 → J 17 6 = nI (u + 1) → (J cc = I cc ∧ J (cc + 1) = I (cc + 1)) → gw_X5_readUnit (d + 1) (fun v I' L' P' nx' => nx' = 205 ∧ v = none ∧ K I' L' P') 118 [some (.ref 17), some (.int (nI w)), some (.int (nI (tK T n e))), some (.int (bP (kOp (nI (tK T n e))))), some (.int v)] [] J L P := by
      intro v e2 J hr hf hJ5 hG2 hU2 hcc
      have hX2 := rX_c hX hf hJ5
      have hM2 : J cc 1 = nI m := by rw [hcc.1]; exact hM
      unfold dCon at hr
      by_cases co1 : uOp (uH (tK T n e))
      · rw [if_pos co1] at hr
        have w6 := cw co1
        -- the bracket's part, from e3 on
        have brk : ∀ e3 J3, dBr T n (tK T n e) v (dR T n (cnm L t np) lim f (dPt 0 (w + 1) e3 (u + 1))) = some res → cFr [17, cc, cc + 1] I J3 → J3 17 5 = I 17 5 → rG T n J3 L e3 → J3 17 6 = nI (u + 1) → (J3 cc = I cc ∧ J3 (cc + 1) = I (cc + 1)) → ∀ K2 : zI → zL → zP → Prop, (∀ I66, (match res with
            | .inl q => cFr [17, cc, cc + 1] I I66 ∧ rB q.1 q.2 I66 ∧ ∃ m', m' ≤ 600 ∧ I66 cc 1 = nI m'
            | .inr (e', u', c) => ∃ c0, (c = if tK T n e = 40 then c0 else c0 ++ [(tK T n e, v)]) ∧ cFr [17, cc, cc + 1] I I66 ∧ I66 17 5 = I 17 5 ∧ rG T n I66 L e' ∧ I66 17 6 = nI u' ∧ u' ≤ lim ∧ I66 cc 1 = nI (m + c0.length) ∧ m + c0.length < 600 ∧ (∀ j, j < m → I66 (cc + 1) j = I (cc + 1) j) ∧ cT cc I66 m c0) → K2 I66 L P) → zMv zm_X5_readPart d [.ref 17, .int 0, .int (nI w + 1)] J3 L P (fun I61 L62 P63 => zMv zm_X5_expect d [.ref 17, .int 41] I61 L62 P63 K2) := by
          intro e3 J3 hr hf3 h53 hG3 hU3 hcc3 K2 hK2
          have hX3 := rX_c hX hf3 h53
          have hM3 : J3 cc 1 = nI m := by rw [hcc3.1]; exact hM
          rw [nI_1]
          rcases dTh_s hr with ⟨q, a1, a2⟩ | ⟨e4, u4, c4, a1, a2⟩
          · subst a2
            refine h1 0 (w + 1) e3 (u + 1) _ J3 m d _ a1 (by decide) (by omega) (by omega) (by omega) hX3 hG3 hU3 hM3 (by omega) (fun I2 g1 g2 g3 => sp_X5_expectB (w := 41) hP g2 (by decide) (by omega) (hK2 I2 ⟨cFr_tr hf3 g1, g2, g3⟩))
          · have hq1 := hq.1 0 (w + 1) e3 (u + 1) e4 u4 c4 a1 (by decide) (by omega)
            have hl := hq1.2.1.2
            refine h1 0 (w + 1) e3 (u + 1) _ J3 m d _ a1 (by decide) (by omega) (by omega) (by omega) hX3 hG3 hU3 hM3 (by omega) (fun I2 g1 g2 g3 g4 g5 g6 g7 g8 => ?_)
            have a2 := Option.some.inj a2
            refine sp_X5_expect (w := 41) hP g3 (by decide) (by omega) (fun z I3 b1 b2 => ?_) (fun z I3 b1 b2 => ?_)
            · rw [if_neg z] at a2
              subst a2
              exact hK2 I3 ⟨cFr_tr hf3 (cFr_tr g1 (cFr_wk b1.1 (by simp))), b2, m + c4.length, by omega, by rw [b1.1 cc (by simp only [List.mem_cons, List.not_mem_nil, or_false]; omega)]; exact g6⟩
            · rw [if_pos z] at a2
              subst a2
              refine hK2 I3 ⟨c4, rfl, cFr_tr hf3 (cFr_tr g1 (cFr_wk b1.1 (by simp))), by rw [b1.2.1, g2, h53], b2, by rw [b1.2.2]; exact g4, g5, by rw [b1.1 cc (by simp only [List.mem_cons, List.not_mem_nil, or_false]; omega)]; exact g6, by omega, fun j hj => ?_, cT_c g8 (fun j hj => by rw [b1.1 (cc + 1) (by simp only [List.mem_cons, List.not_mem_nil, or_false]; omega)])⟩
              rw [b1.1 (cc + 1) (by simp only [List.mem_cons, List.not_mem_nil, or_false]; omega), g7 j hj, hcc3.2]
        have fin : ∀ I66, (match res with
            | .inl q => cFr [17, cc, cc + 1] I I66 ∧ rB q.1 q.2 I66 ∧ ∃ m', m' ≤ 600 ∧ I66 cc 1 = nI m'
            | .inr (e', u', c) => ∃ c0, (c = if tK T n e = 40 then c0 else c0 ++ [(tK T n e, v)]) ∧ cFr [17, cc, cc + 1] I I66 ∧ I66 17 5 = I 17 5 ∧ rG T n I66 L e' ∧ I66 17 6 = nI u' ∧ u' ≤ lim ∧ I66 cc 1 = nI (m + c0.length) ∧ m + c0.length < 600 ∧ (∀ j, j < m → I66 (cc + 1) j = I (cc + 1) j) ∧ cT cc I66 m c0) → (tK T n e = 40 → K I66 L P) ∧ (¬ tK T n e = 40 → zMv zm_X0_add d [.ref cc, .int (nI (tK T n e)), .int v] I66 L P (fun I' L' P' => (205 : Nat) = 205 ∧ (none : Option Value) = none ∧ K I' L' P')) := by
          intro I66
          revert hQ
          match res with
          | .inl q =>
            rintro hQ ⟨b1, b2, b3⟩
            exact ⟨fun _ => hQ I66 b1 b2 b3, fun _ => bad_add (m := m) hP hX b1 b2 b3 (fun I' a b c => qv (hQ I' a b c))⟩
          | .inr (e', u', c) =>
            rintro hQ ⟨c0, ec, b1, b2, b3, b4, b5, b6, b7, b8, b9⟩
            refine ⟨fun z => ?_, fun z => ?_⟩
            · rw [if_pos z] at ec
              subst ec
              exact hQ I66 b1 b2 b3 b4 b5 b6 b8 b9
            · rw [if_neg z] at ec
              subst ec
              obtain ⟨y1, y2, y3, y4, y5, y6, y7, y8⟩ := rd_add (k := tK T n e) (v := v) (rX_c hX b1 b2) b3 b4 b6 b9
              exact sp_X0_add (k := tK T n e) hP hco b6 b7 (qv (hQ _ (cFr_tr b1 y7) (by rw [y4, b2]) y2 y3 b5 y5 (fun j hj => by rw [y8 j (by omega)]; exact b8 j hj) y6))
        have k40 : nI (tK T n e) = 40 ↔ tK T n e = 40 := nI_eq (b := 40) (by omega) (by decide)
        refine g_X5_readUnit_118 hP (by omega) ⟨fun z => absurd ((uT_2 (by omega)).mpr co1) (bP_0.mp z), fun _ => ⟨fun z => ?_, fun z => ?_⟩⟩
        · rw [k40] at z
          rw [if_pos z] at hr
          exact brk e2 J hr hf hJ5 hG2 hU2 hcc _ (fun I66 h => qv ((fin I66 h).1 z))
        · rw [k40] at z
          rw [if_neg z] at hr
          refine sp_X5_expect (w := 40) hP hG2 (by decide) (by omega) (fun y I3 b1 b2 => ?_) (fun y I3 b1 b2 => ?_)
          · rw [if_neg y] at hr
            have hres := Option.some.inj hr
            subst hres
            have cf : cFr [17, cc, cc + 1] I I3 := cFr_tr hf (cFr_wk b1.1 (by simp))
            refine sp_X5_readPartB (r := 0) hP b2 (by decide) (by omega) (sp_X5_expectB (w := 41) hP b2 (by decide) (by omega) ⟨cc, hX.2.1, hb, bad_add (m := m) hP hX cf b2 ⟨m, by omega, by rw [b1.1 cc (by simp only [List.mem_cons, List.not_mem_nil, or_false]; omega)]; exact hM2⟩ (fun I' a b c => qv (hQ I' a b c))⟩)
          · rw [if_pos y] at hr
            exact brk _ I3 hr (cFr_tr hf (cFr_wk b1.1 (by simp))) (by rw [b1.2.1, hJ5]) b2 (by rw [b1.2.2]; exact hU2) ⟨by rw [b1.1 cc (by simp only [List.mem_cons, List.not_mem_nil, or_false]; omega)]; exact hcc.1, by rw [b1.1 (cc + 1) (by simp only [List.mem_cons, List.not_mem_nil, or_false]; omega)]; exact hcc.2⟩ _ (fun I66 h => ⟨cc, hX.2.1, hb, (fin I66 h).2 z⟩)
      · rw [if_neg co1] at hr
        have hres := Option.some.inj hr
        subst hres
        have k40 : ¬ nI (tK T n e) = 40 := fun z => co1 ((uT_2 (by omega)).mp (Or.inr (Or.inr (Or.inr z))))
        refine g_X5_readUnit_118 hP (by omega) ⟨fun _ => ⟨fun z => absurd z k40, fun _ => ⟨cc, hX.2.1, hb, ?_⟩⟩, fun z => absurd ((uT_2 (by omega)).mp (bP_n.mp z)) co1⟩
        obtain ⟨y1, y2, y3, y4, y5, y6, y7, y8⟩ := rd_add (c := []) (m := m) (k := tK T n e) (v := v) hX2 hG2 hU2 hM2 cT_nil
        exact sp_X0_add (k := tK T n e) hP hco hM2 (by omega) (qv (hQ _ (cFr_tr hf y7) (y4.trans hJ5) y2 y3 (by omega) y5 (fun j hj => (y8 j (by rw [List.length_nil]; omega)).trans (by rw [hcc.2])) y6))
    -- behind the first token
    have go79 : ∀ (v : Int32) J, (¬ uNm (uH (tK T n e)) → v = if tK T n e = 274 then tN T n e else 0) → cFr [17, cc, cc + 1] I J → J 17 5 = I 17 5 → rG T n J L e → J 17 6 = nI (u + 1) → (J cc = I cc ∧ J (cc + 1) = I (cc + 1)) → gw_X5_readUnit (d + 1) (fun v I' L' P' nx' => nx' = 205 ∧ v = none ∧ K I' L' P') 79 [some (.ref 17), some (.int (nI w)), some (.int (nI (tK T n e))), some (.int (bP (kOp (nI (tK T n e))))), some (.int v)] [] J L P := by
      intro v J hv hf hJ5 hG2 hU2 hcc
      refine g_X5_readUnit_79 hP (by omega) (sp_X5_advance hP hG2 ne275 (by omega) (fun J2 b1 b2 => ?_))
      have cf : cFr [17, cc, cc + 1] I J2 := cFr_tr hf (cFr_wk b1.1 (by simp))
      have hJ52 : J2 17 5 = I 17 5 := by rw [b1.2.1, hJ5]
      have hU3 : J2 17 6 = nI (u + 1) := by rw [b1.2.2]; exact hU2
      have hcc2 : J2 cc = I cc ∧ J2 (cc + 1) = I (cc + 1) := ⟨by rw [b1.1 cc (by simp only [List.mem_cons, List.not_mem_nil, or_false]; omega)]; exact hcc.1, by rw [b1.1 (cc + 1) (by simp only [List.mem_cons, List.not_mem_nil, or_false]; omega)]; exact hcc.2⟩
      by_cases cn : uNm (uH (tK T n e))
      · rw [if_pos cn] at hr
        have name : gw_X5_readUnit (d + 1) (fun v I' L' P' nx' => nx' = 205 ∧ v = none ∧ K I' L' P') 104 [some (.ref 17), some (.int (nI w)), some (.int (nI (tK T n e))), some (.int (bP (kOp (nI (tK T n e))))), none] [] J2 L P := by
          have hX3 := rX_c hX cf hJ52
          have badn : ∀ q, res = .inl q → ∀ J3, rF0 J2 J3 → rB q.1 q.2 J3 → zMv zm_X5_advance d [.ref 17] J3 L P (fun I45 L46 P47 => gw_X5_readUnit (d + 1) (fun v I' L' P' nx' => nx' = 205 ∧ v = none ∧ K I' L' P') 118 [some (.ref 17), some (.int (nI w)), some (.int (nI (tK T n e))), some (.int (bP (kOp (nI (tK T n e))))), some (.int (if (-1 : Int32) < 0 then 0 else (-1 : Int32)))] [] I45 L46 P47) := by
            intro q hres J3 g1 g2
            subst hres
            exact sp_X5_advanceB hP g2 (by omega) (un118B hP hX (cFr_tr cf (cFr_wk g1.1 (by simp))) g2 ⟨m, by omega, by rw [g1.1 cc (by simp only [List.mem_cons, List.not_mem_nil, or_false]; omega), hcc2.1]; exact hM⟩ (by omega) (fun I' a b c => qv (hQ I' a b c)))
          refine g_X5_readUnit_104 hP (by omega) (sp_X5_readName hP b2 hX.1 hX3.2.2.1 (by omega) (fun z J3 g1 g2 => ?_) (fun z z2 J3 g1 g2 => ?_) (fun z k z2 z3 => ?_))
          · rw [if_neg z] at hr
            exact badn _ (Option.some.inj hr).symm J3 g1 g2
          · rw [if_pos z] at hr
            have e0 : cnm L t np (tV T n (tE T n e)) = none := z2
            rw [e0] at hr
            exact badn _ (Option.some.inj hr).symm J3 g1 g2
          · rw [if_pos z] at hr
            have e0 : cnm L t np (tV T n (tE T n e)) = some k := z2
            rw [e0] at hr
            have hnp := hX.2.2.1.2.1
            have emax : (if nI k < 0 then (0 : Int32) else nI k) = nI k := if_neg (nI_pos (by omega))
            rw [emax]
            refine sp_X5_advance hP b2 (by omega) (by omega) (fun J3 g1 g2 => ?_)
            exact rest (nI k) _ J3 hr (cFr_tr cf (cFr_wk g1.1 (by simp))) (by rw [g1.2.1, hJ52]) g2 (by rw [g1.2.2]; exact hU3) ⟨by rw [g1.1 cc (by simp only [List.mem_cons, List.not_mem_nil, or_false]; omega)]; exact hcc2.1, by rw [g1.1 (cc + 1) (by simp only [List.mem_cons, List.not_mem_nil, or_false]; omega)]; exact hcc2.2⟩
        refine ⟨fun _ => name, fun z1 => ⟨fun _ => name, fun z2 => ⟨fun z3 => ?_, fun _ => name⟩⟩⟩
        rcases (uT_3 (by omega)).mpr cn with y | y | y
        · exact absurd y z1
        · exact absurd y z2
        · exact absurd y z3
      · rw [if_neg cn] at hr
        have nn := fun z => cn ((uT_3 (k := tK T n e) (by omega)).mp z)
        rw [← hv cn] at hr
        exact ⟨fun z => absurd (Or.inl z) nn, fun _ => ⟨fun z => absurd (Or.inr (Or.inl z)) nn, fun _ => ⟨fun _ => rest v _ J2 hr cf hJ52 b2 hU3 hcc2, fun z => absurd (Or.inr (Or.inr z)) nn⟩⟩⟩
    have go44 : gw_X5_readUnit (d + 1) (fun v I' L' P' nx' => nx' = 205 ∧ v = none ∧ K I' L' P') 44 [some (.ref 17), some (.int (nI w)), some (.int (I 17 8)), some (.int (bP (kOp (I 17 8)))), none] [] I L P := by
      rw [h8]
      refine g_X5_readUnit_44 hP (by omega) (fun J eJ => ?_)
      rw [hU, nI_1] at eJ
      have cf : cFr [17, cc, cc + 1] I J := by rw [eJ]; exact cFr_c (cFr_rf _ _) (by simp)
      have j5 : J 17 5 = I 17 5 := by rw [eJ, zuI_o (by decide)]
      have j6 : J 17 6 = nI (u + 1) := by rw [eJ, zuI_v]
      have jg : rG T n J L e := rG_c hG (fun q hq => by rw [eJ, zuI_o hq]) (by rw [eJ, zuI_ne (by decide)]) (by rw [eJ, zuI_ne (by decide)]) (by rw [eJ, zuI_ne (by decide)]) rfl
      have jc : J cc = I cc ∧ J (cc + 1) = I (cc + 1) := by rw [eJ, zuI_ne (by omega), zuI_ne (by omega)]; exact ⟨rfl, rfl⟩
      have k274 : nI (tK T n e) = 274 ↔ tK T n e = 274 := nI_eq (b := 274) (by omega) (by decide)
      rw [k274]
      refine ⟨fun z => go79 0 J (fun _ => by rw [if_neg z]) cf j5 jg j6 jc, fun z => ?_⟩
      obtain ⟨c, i, t1, t2, t3, t4, -⟩ := jg
      have jg : rG T n J L e := rG_c hG (fun q hq => by rw [eJ, zuI_o hq]) (by rw [eJ, zuI_ne (by decide)]) (by rw [eJ, zuI_ne (by decide)]) (by rw [eJ, zuI_ne (by decide)]) rfl
      rw [t4]
      refine sp_X9_valueOf (T := T) (n := n) (c := c) hP t1 t2 ?_
      have ev : L 22 i = (tN T n e).toInt64 := by
        have := (t1.2.1 i (by omega)).2.2.2
        rw [t3] at this
        exact this z
      rw [ev, l2i_i2l]
      exact go79 _ J (fun _ => by rw [if_pos z]) cf j5 jg j6 jc
    refine g_X5_readUnit hP (by omega) ⟨fun q => absurd ((uT_1 (by omega)).mpr cu) (by rw [← h8]; exact bP_0.mp q), fun _ => ⟨fun q => absurd q (by rw [h5, hU]; exact nI_ge cl (by omega)), fun _ => ⟨fun _ => go44, fun q => ⟨fun _ => go44, fun q2 => absurd ?_ q2⟩⟩⟩⟩
    rw [h8, bP_n, uT_2 (by omega)] at q
    rw [show (6 : Int32) = nI 6 from rfl]
    exact nI_le (cw q) (by decide)
theorem s_all (hP : zPk P) (hlim : lim ≤ 60) (hn : n ≤ 1600) : ∀ f, sPt T n lim np t cc L P f ∧ sLp T n lim np t cc L P f ∧ sUn T n lim np t cc L P f
  | 0 => ⟨fun _ _ _ _ _ _ _ _ _ h => (by cases h), fun _ _ _ _ _ _ _ _ _ _ _ _ _ h => (by cases h), fun _ _ _ _ _ _ _ _ h => (by cases h)⟩
  | f + 1 => by
    obtain ⟨a, b, c⟩ := s_all hP hlim hn f
    exact ⟨sPt_s hP hlim a b c, sLp_s hP hlim hn a b, sUn_s hP hlim a⟩
/-- a whole formula is read -/
theorem sp_X5_readPart {I : zI} {e u m d : Nat} (hP : zPk P) (hlim : lim ≤ 60) (hn : n ≤ 1600) (hu : u ≤ lim) (hm : m + 9 * (lim - u) ≤ 600) (hX : rX P t np cc lim I) (hG : rG T n I L e) (hU : I 17 6 = nI u) (hM : I cc 1 = nI m) (hd : 68 ≤ d) {K : zI → zL → zP → Prop} (kk : rQ T n L lim cc m I (fun I' => K I' L P) (fRd T n (cnm L t np) lim e u)) : zMv zm_X5_readPart d [.ref 17, .int 0, .int 0] I L P K :=
  (s_all hP hlim hn (2 * n + 3)).1 0 0 e u _ I m d K (fRd_e (rG_e hG)).1 (by decide) (by omega) hu hm hX hG hU hM (by omega) kk
end RU
