/-! ===== the model: a line, whole ===== -/
theorem sp_X12_readLine {d : Nat} {T : Nat → Int32} {n rb e : Nat} {I : zI} {L : zL} {P : zP} {A : Ai} (hP : zPk P) (hM : iM rb I L A) (hp : pS T n I L e) (h4 : I 160 4 = 0) (hd : 7 ≤ d) {K : zI → zL → zP → Prop}
    (kk : lQ T n rb I L (fun I' L' => K I' L' P) (rLn T n A e)) : zMv zm_X12_readLine d [.ref 160] I L P K := by
  obtain ⟨d, rfl⟩ : ∃ e, d = e + 1 := ⟨d - 1, by omega⟩
  have m := mis_nz T n e
  have k3 := (pS_k hp).2.2.2.2
  have pP : pSg (pFt I (mis T n e) (tA T n e)) (pFt I (mis T n e) (tA T n e) 160 6) := pS_p (pS_fr hp (pFt_fr _ _ _) (by decide) (by decide) (by decide) (by decide) (by decide) (by decide) rfl)
  have v := pFt_v I (mis T n e) (tA T n e)
  have hz : ¬ pFt I (mis T n e) (tA T n e) 160 4 = 0 := by rw [v.1, nI_zero (by omega)]; exact m.1
  have kb : ¬ (256 ≤ tK T n e ∧ tK T n e < 273 ∧ ¬ aFull A (tK T n e)) → K (pFt I (mis T n e) (tA T n e)) L P := by
    intro hn
    unfold rLn at kk
    rw [if_neg hn] at kk
    exact kk _ L m (iFr_ft (iFr_rf _ _ _)) v.1 v.2 pP
  refine g_X12_readLine hP (by omega) ⟨fun q => ?_, fun q => ?_⟩
  · rw [k3] at q
    exact sp_X12_misplaced hP h4 hp (by omega) ⟨hP, fun z => absurd (bP_n.mp z) hz, fun _ => qv (kb (fun y => q ⟨y.1, y.2.1⟩))⟩
  · refine sp_X12_isFull hP hM hp (by omega) ⟨fun q2 => ⟨hP, fun _ => ?_, fun z => absurd h4 (bP_0.mp z)⟩, fun q2 => ?_⟩
    · have q8 := q
      rw [k3] at q
      rw [bP_0] at q2
      unfold rLn at kk
      rw [if_pos ⟨q.1, q.2, q2⟩] at kk
      refine pS_go hP hp (by omega) (fun I1 L1 f1 f2 f3 => ?_)
      have hM1 := iM_go hM f1 f2
      have h41 : I1 160 4 = 0 := by rw [f1.2 4 (by decide)]; exact h4
      have h51 : I1 160 5 = I 160 5 := f1.2 5 (by decide)
      have hr1 : iFr rb I L I1 L1 := iFr_go (iFr_rf _ _ _) f1 f2
      have pf : ∀ k p, pSg (pFt I1 k p) (pFt I1 k p 160 6) := fun k p => pS_p (pS_fr f3 (pFt_fr _ _ _) (by decide) (by decide) (by decide) (by decide) (by decide) (by decide) rfl)
      have kk84 : ∀ l, lQ T n rb I L (fun I' L' => K I' L' P) (lSem T n l) → lQ T n rb I L (fun I' L' => gw_X12_readLine (d + 1) (fun v I' L' P' nx' => nx' = 205 ∧ v = none ∧ K I' L' P') 84 [some (.ref 160), none, none] [] I' L' P) l := by
        intro l hl
        refine to84 hP (by omega) ?_
        revert hl
        match lSem T n l with
        | .inl x => exact fun hl I' L' a b c e f => qv (hl I' L' a b c e f)
        | .inr (e', A') => exact fun hl I' L' a b c e f => qv (hl I' L' a b c e f)
      by_cases c0 : tK T n e = 256
      · rw [if_pos c0] at kk
        have kk := kk84 _ kk
        have hx := ((pS_w hp (i := 0) (by decide) (x := 7302757) rfl).mpr c0).2
        rw [hx]
        unfold aFull at q2
        rw [if_pos c0] at q2
        have hb : ¬ aBeh A := fun z => q2 (Or.inr z)
        have h8 : A.1 0 < 8 := by
          have := hM.2.1.1
          have : A.1 0 ≠ 8 := fun z => q2 (Or.inl z)
          omega
        have hns : A.1 3 = 0 := by
          by_cases z : 0 < A.1 3
          · exact absurd (Or.inr (Or.inr z)) hb
          · omega
        have ps : ∀ I' L', gw_X12_readLine (d + 1) (fun v I' L' P' nx' => nx' = 205 ∧ v = none ∧ K I' L' P') 84 [some (.ref 160), none, none] [] I' L' P → gw_X12_readLine (d + 1) (fun v I' L' P' nx' => nx' = 205 ∧ v = none ∧ K I' L' P') 48 [some (.ref 160), some (.long 7302757), none] [] I' L' P := fun I' L' h => pass48 hP (by omega) (by decide) (pass60 hP (by omega) (by decide) (pass72 hP (by omega) (by decide) h))
        unfold lOne at kk
        refine ⟨fun z => absurd (lg_cmp_eq _ _ |>.mpr rfl) z, fun _ => sp_X12_readOne hP hM1 f3 h41 h8 hns (by omega) (fun z => ps _ _ ?_) (fun z z2 => ps _ _ ?_) (fun z z2 I2 L2 g1 g2 g3 g4 g5 => ps _ _ ?_)⟩
        · rw [if_neg z] at kk
          have w := pFt_v I1 (mis T n (tE T n e)) (tA T n (tE T n e))
          exact kk _ L1 (mis_nz T n _) (iFr_ft hr1) w.1 w.2 (pf _ _)
        · rw [if_pos z] at kk
          have w := pFt_v I1 3 (tA T n (tE T n e))
          cases ho : aNm A (tV T n (tE T n e)) with
          | none => exact absurd ho z2
          | some a => rw [ho] at kk; exact kk _ L1 ⟨by show 3 ≠ 0; decide, by show 3 < 100; decide⟩ (iFr_ft hr1) w.1 w.2 (pf _ _)
        · rw [if_pos z, z2] at kk
          exact kk I2 L2 g1 g2 g3 (by rw [g4]; exact h51) (iFr_tr hr1 g5)
      · rw [if_neg c0] at kk
        by_cases c4 : tK T n e = 260
        · rw [if_pos c4] at kk
          have kk := kk84 _ kk
          have hx := ((pS_w hp (i := 4) (by decide) (x := 422725643876) rfl).mpr c4).2
          rw [hx]
          have hb : A.1 2 < 30 := by
            have := hM.2.2.2.1.1
            have : A.1 2 ≠ 30 := fun z => q2 (by rw [c4]; exact z)
            omega
          have ps : ∀ I' L', gw_X12_readLine (d + 1) (fun v I' L' P' nx' => nx' = 205 ∧ v = none ∧ K I' L' P') 84 [some (.ref 160), none, none] [] I' L' P → gw_X12_readLine (d + 1) (fun v I' L' P' nx' => nx' = 205 ∧ v = none ∧ K I' L' P') 60 [some (.ref 160), some (.long 422725643876), none] [] I' L' P := fun I' L' h => pass60 hP (by omega) (by decide) (pass72 hP (by omega) (by decide) h)
          unfold lBl at kk
          refine ⟨fun _ => g_X12_readLine_48 hP (by omega) ⟨fun z => absurd (lg_cmp_eq _ _ |>.mpr rfl) z, fun _ => ?_⟩, fun z => absurd (lg_cmp_eq _ _ |>.mp z) (by decide)⟩
          refine sp_X12_readBlind hP hM1 f3 h41 hb (by omega) (fun k p I2 L2 hk g1 g2 g3 g4 hc => ps _ _ ?_) (fun a b y1 y2 y3 y4 y5 y6 I2 L2 g1 g2 g3 g4 g5 => ps _ _ ?_)
          · rcases hc with ⟨y1, rfl, rfl⟩ | ⟨y1, y2, rfl, rfl⟩ | ⟨a, y1, y2, hc⟩
            · rw [if_neg y1] at kk
              exact kk I2 L2 hk (iFr_tr hr1 g1) g2 g3 g4
            · rw [if_pos y1, y2] at kk
              exact kk I2 L2 hk (iFr_tr hr1 g1) g2 g3 g4
            · rw [if_pos y1, y2] at kk
              have kk : lQ T n rb I L _ (@ite _ (tK T n (tE T n (tE T n e)) = 273) (Classical.propDecidable _) _ (lBad T n (tE T n (tE T n e)))) := kk
              rcases hc with ⟨y3, rfl, rfl⟩ | ⟨y3, y4, rfl, rfl⟩ | ⟨b, y3, y4, y5, rfl, rfl⟩
              · rw [if_neg y3] at kk
                exact kk I2 L2 hk (iFr_tr hr1 g1) g2 g3 g4
              · rw [if_pos y3, y4] at kk
                exact kk I2 L2 hk (iFr_tr hr1 g1) g2 g3 g4
              · rw [if_pos y3, y4] at kk
                have kk : lQ T n rb I L _ (@ite _ (a = b ∨ (A.1 (10 + a)).testBit b = false) (Classical.propDecidable _) _ _) := kk
                rw [if_pos y5] at kk
                exact kk I2 L2 hk (iFr_tr hr1 g1) g2 g3 g4
          · rw [if_pos y1, y2] at kk
            have kk : lQ T n rb I L _ (@ite _ (tK T n (tE T n (tE T n e)) = 273) (Classical.propDecidable _) _ (lBad T n (tE T n (tE T n e)))) := kk
            rw [if_pos y3, y4] at kk
            have kk : lQ T n rb I L _ (@ite _ (a = b ∨ (A.1 (10 + a)).testBit b = false) (Classical.propDecidable _) _ _) := kk
            rw [if_neg (fun z => z.elim y5 (fun z => by rw [y6] at z; cases z))] at kk
            exact kk I2 L2 g1 g2 g3 (by rw [g4]; exact h51) (iFr_tr hr1 g5)
        · rw [if_neg c4] at kk
          by_cases c5 : tK T n e = 261
          · rw [if_pos c5] at kk
            have kk := kk84 _ kk
            have hx := ((pS_w hp (i := 5) (by decide) (x := 7102839) rfl).mpr c5).2
            rw [hx]
            unfold lLaw at kk
            refine ⟨fun _ => pass48 hP (by omega) (by decide) (g_X12_readLine_60 hP (by omega) ⟨fun z => absurd (lg_cmp_eq _ _ |>.mpr rfl) z, fun _ => ?_⟩), fun z => absurd (lg_cmp_eq _ _ |>.mp z) (by decide)⟩
            refine sp_X12_readLaw hP hM1 f3 h41 (by omega) (fun z I2 L2 g1 g2 g3 g4 => pass72 hP (by omega) (by decide) ?_) (fun z I2 L2 g1 g2 g3 g4 g5 => pass72 hP (by omega) (by decide) ?_)
            · rw [if_neg z] at kk
              exact kk I2 L2 (mis_nz T n _) (iFr_tr hr1 g1) g2 g3 g4
            · rw [if_pos z] at kk
              exact kk I2 L2 g1 g2 g3 (by rw [g4]; exact h51) (iFr_tr hr1 g5)
          · rw [if_neg c5] at kk
            have kk := kk84 _ kk
            have c8 : tK T n e = 264 := Classical.byContradiction (fun z => q2 (by unfold aFull; rw [if_neg c0, if_neg c4, if_neg c5, if_neg z]; trivial))
            have hx := ((pS_w hp (i := 8) (by decide) (x := 126862485974631) rfl).mpr c8).2
            rw [hx]
            have hs : A.1 3 < 6 := by
              have := hM.2.2.2.2.1.1
              have : A.1 3 ≠ 6 := fun z => q2 (by rw [c8]; exact z)
              omega
            unfold lSay at kk
            refine ⟨fun _ => pass48 hP (by omega) (by decide) (pass60 hP (by omega) (by decide) (g_X12_readLine_72 hP (by omega) ⟨fun z => absurd (lg_cmp_eq _ _ |>.mpr rfl) z, fun _ => ?_⟩)), fun z => absurd (lg_cmp_eq _ _ |>.mp z) (by decide)⟩
            refine sp_X12_readSaying hP hM1 f3 h41 hs (by omega) (fun k p I2 L2 hk hc g1 g2 g3 g4 => ?_) (fun e' u' c' y1 y2 I2 L2 g1 g2 g3 g4 g5 => ?_)
            · rcases hc with y1 | ⟨e', u', c', y1, y2, rfl, rfl⟩
              · rw [y1] at kk
                exact kk I2 L2 hk (iFr_tr hr1 g1) g2 g3 g4
              · rw [y1] at kk
                have kk : lQ T n rb I L _ (@ite _ (rkH (tK T n e') = 4) (Classical.propDecidable _) (lBad T n e') _) := kk
                rw [if_pos y2] at kk
                exact kk I2 L2 hk (iFr_tr hr1 g1) g2 g3 g4
            · rw [y1] at kk
              have kk : lQ T n rb I L _ (@ite _ (rkH (tK T n e') = 4) (Classical.propDecidable _) (lBad T n e') _) := kk
              rw [if_neg (by omega)] at kk
              exact kk I2 L2 g1 g2 g3 (by rw [g4]; exact h51) (iFr_tr hr1 g5)
    · rw [bP_n] at q2
      exact sp_X12_misplaced hP h4 hp (by omega) ⟨hP, fun z => absurd (bP_n.mp z) hz, fun _ => qv (kb (fun y => y.2.2 q2))⟩
