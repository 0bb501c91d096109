/-! ===== the class: a whole island is read ===== -/
section LN4
variable {d : Nat} {Q : zQt} {T : Nat → Int32} {n t e : Nat} {I I0 : zI} {L L0 : zL} {P : zP} {A : Ai}
theorem cW_sem {K : zI → zL → zP → Prop} (hP : zPk P) (hR : cPr P t) (hd : 2 ≤ d) : ∀ l : Ln, cW T n t I0 L0 (fun I' L' => K I' L' P) (lSem T n l) → cW T n t I0 L0 (fun I' L' => zMv zm_X5_expect d [.ref 17, .int 59] I' L' P K) l
  | .inl q, kk => fun I' L' a b c => sp_X5_expectB (w := 59) hP c (by decide) hd (kk I' L' a b c)
  | .inr (e, A), kk => fun I' L' h => by
    have kk : cW T n t I0 L0 (fun I' L' => K I' L' P) (@ite _ (tK T n e = 59) (Classical.propDecidable _) (.inr (tE T n e, A)) (lBad T n e)) := kk
    refine sp_X5_expect (w := 59) hP h.2.1 (by decide) hd (fun z I2 g1 g2 => ?_) (fun z I2 g1 g2 => ?_)
    · rw [if_neg z] at kk
      exact cLs_bad (q := (mis T n e, tA T n e)) h g1 g2 kk
    · rw [if_pos z] at kk
      exact kk I2 L' (cLs_m hR.2.2 h g1 g2)
theorem cI_5 {x : Int32} (ht : il t) (h : cI t I L A) : cI t (zuI I t 5 x) L A := by
  unfold il at ht
  have e1 : ∀ j, j ≠ 5 → (zuI I t 5 x) t j = I t j := fun j hj => zuI_o hj
  have e2 : ∀ a, a ≠ t → (zuI I t 5 x) a = I a := fun a ha => zuI_ne ha
  unfold cI cT
  rw [e1 0 (by decide), e1 1 (by decide), e1 2 (by decide), e1 3 (by decide), e1 4 (by decide), e1 6 (by decide), e1 7 (by decide), e2 17 (by omega), e2 (t + 2) (by omega), e2 (t + 3) (by omega), e2 (t + 5) (by omega), e2 (t + 3 + 1) (by omega)]
  exact h
theorem rLn_256 (h : tK T n e = 256) : rLn T n A e = lSem T n (@ite _ (aFull A 256) (Classical.propDecidable _) (lBad T n e) (lOne T n A (tE T n e))) := by
  unfold rLn
  rw [h]
  by_cases c : aFull A 256
  · rw [if_neg (fun z => z.2.2 c), if_pos c]; rfl
  · rw [if_pos ⟨by decide, by decide, c⟩, if_neg c, if_pos rfl]
theorem rLn_260 (h : tK T n e = 260) : rLn T n A e = lSem T n (@ite _ (aFull A 260) (Classical.propDecidable _) (lBad T n e) (lBl T n A (tE T n e))) := by
  unfold rLn
  rw [h]
  by_cases c : aFull A 260
  · rw [if_neg (fun z => z.2.2 c), if_pos c]; rfl
  · rw [if_pos ⟨by decide, by decide, c⟩, if_neg c, if_neg (by decide), if_pos rfl]
theorem rLn_261 (h : tK T n e = 261) : rLn T n A e = lSem T n (@ite _ (aFull A 261) (Classical.propDecidable _) (lBad T n e) (lLaw T n A (tE T n e))) := by
  unfold rLn
  rw [h]
  by_cases c : aFull A 261
  · rw [if_neg (fun z => z.2.2 c), if_pos c]; rfl
  · rw [if_pos ⟨by decide, by decide, c⟩, if_neg c, if_neg (by decide), if_neg (by decide), if_pos rfl]
theorem rLn_264 (h : tK T n e = 264) : rLn T n A e = lSem T n (@ite _ (aFull A 264) (Classical.propDecidable _) (lBad T n e) (lSa T n A (tE T n e))) := by
  unfold rLn
  rw [h]
  by_cases c : aFull A 264
  · rw [if_neg (fun z => z.2.2 c), if_pos c]; rfl
  · rw [if_pos ⟨by decide, by decide, c⟩, if_neg c, if_neg (by decide), if_neg (by decide), if_neg (by decide)]; exact lSa_e.symm
theorem rLn_o (h0 : tK T n e ≠ 256) (h4 : tK T n e ≠ 260) (h1 : tK T n e ≠ 261) (h6 : tK T n e ≠ 264) : rLn T n A e = lSem T n (lBad T n e) := by
  unfold rLn
  have : aFull A (tK T n e) := by
    unfold aFull
    rw [if_neg h0, if_neg h4, if_neg h1, if_neg h6]
    trivial
  rw [if_neg (fun z => z.2.2 this)]
  rfl
abbrev gw_X5_readIsland (d : Nat) (Q : zQt) (pc : Nat) (lv : zV) (st : List Value) (I : zI) (L : zL) (P : zP) : Prop := zW zm_X5_readIsland (zRm d 0 0) 0 0 Q pc lv st I L P 205 0 0
abbrev v_X5_readIsland_17 (d : Nat) (Q : zQt) (p1 : Nat) (x2 : Int32) (I : zI) (L : zL) (P : zP) : Prop :=
  ((1600 ≤ x2 →
    (p1 < 205 ∧ (zsh p1).1 = 2) ∧
    ∀ I16 : zI, I16 = zuI I p1 5 (I 17 6) →
    ((¬ (I16 17 0) = 0 →
      Q (some (.int 0)) I16 L P 205
    ) ∧ ((I16 17 0) = 0 →
      Q (some (.int 1)) I16 L P 205
    ))
  ) ∧ (¬ 1600 ≤ x2 →
    (((I 17 8) = 275 →
      (p1 < 205 ∧ (zsh p1).1 = 2) ∧
      ∀ I21 : zI, I21 = zuI I p1 5 (I 17 6) →
      ((¬ (I21 17 0) = 0 →
        Q (some (.int 0)) I21 L P 205
      ) ∧ ((I21 17 0) = 0 →
        Q (some (.int 1)) I21 L P 205
      ))
    ) ∧ (¬ (I 17 8) = 275 →
      ((¬ (I 17 0) = 0 →
        (p1 < 205 ∧ (zsh p1).1 = 2) ∧
        ∀ I26 : zI, I26 = zuI I p1 5 (I 17 6) →
        ((¬ (I26 17 0) = 0 →
          Q (some (.int 0)) I26 L P 205
        ) ∧ ((I26 17 0) = 0 →
          Q (some (.int 1)) I26 L P 205
        ))
      ) ∧ ((I 17 0) = 0 →
        ((I 17 8) = 256 →
          zMv zm_X5_readPerson d [.ref 17] I L P (fun I29 L30 P31 =>
            zMv zm_X5_expect d [.ref 17, .int 59] I29 L30 P31 (fun I34 L35 P36 =>
              gw_X5_readIsland (d + 1) Q 17 [some (.ref 17), some (.ref p1), some (.int (x2 + 1))] [] I34 L35 P36
            )
          )
        ) ∧
        ((I 17 8) = 260 →
          zMv zm_X5_readBlind d [.ref 17] I L P (fun I39 L40 P41 =>
            zMv zm_X5_expect d [.ref 17, .int 59] I39 L40 P41 (fun I44 L45 P46 =>
              gw_X5_readIsland (d + 1) Q 17 [some (.ref 17), some (.ref p1), some (.int (x2 + 1))] [] I44 L45 P46
            )
          )
        ) ∧
        ((I 17 8) = 261 →
          zMv zm_X5_readLaw d [.ref 17] I L P (fun I49 L50 P51 =>
            zMv zm_X5_expect d [.ref 17, .int 59] I49 L50 P51 (fun I54 L55 P56 =>
              gw_X5_readIsland (d + 1) Q 17 [some (.ref 17), some (.ref p1), some (.int (x2 + 1))] [] I54 L55 P56
            )
          )
        ) ∧
        ((I 17 8) = 264 →
          zMv zm_X5_readSaying d [.ref 17] I L P (fun I59 L60 P61 =>
            zMv zm_X5_expect d [.ref 17, .int 59] I59 L60 P61 (fun I64 L65 P66 =>
              gw_X5_readIsland (d + 1) Q 17 [some (.ref 17), some (.ref p1), some (.int (x2 + 1))] [] I64 L65 P66
            )
          )
        ) ∧
        (¬ (I 17 8) = 256 → ¬ (I 17 8) = 260 → ¬ (I 17 8) = 261 → ¬ (I 17 8) = 264 →
          zMv zm_X5_fail d [.ref 17, .int 2] I L P (fun I69 L70 P71 =>
            zMv zm_X5_expect d [.ref 17, .int 59] I69 L70 P71 (fun I74 L75 P76 =>
              gw_X5_readIsland (d + 1) Q 17 [some (.ref 17), some (.ref p1), some (.int (x2 + 1))] [] I74 L75 P76
            )
          )
        )
      ))
    ))
  ))
set_option maxRecDepth 20000 in
theorem g_X5_readIsland_17 {d : Nat} {Q : zQt} {p1 : Nat} {x2 : Int32} {I : zI} {L : zL} {P : zP} (hP : zPk P) (hv : v_X5_readIsland_17 d Q p1 x2 I L P) : gw_X5_readIsland (d + 1) Q 17 [some (.ref 17), some (.ref p1), some (.int x2)] [] I L P := by
  unfold v_X5_readIsland_17 at hv
  refine z_iload_n dX5_readIsland_17 rfl ?_
  refine z_sipush (v := 1600) dX5_readIsland_18 (by decide) ?_
  refine z_icmp_ge (tgt := 141) dX5_readIsland_21 (by decide) (fun q14 => ?_) (fun q14 => ?_)
  · have hv := hv.1 q14
    refine z_aload_n dX5_readIsland_141 rfl ?_
    refine z_aload_n dX5_readIsland_142 rfl ?_
    refine z_getI dX5_readIsland_143 zf_X5_21 zn_17 zo_17 (fun _ _ _ _ _ => rfl) ?_
    obtain ⟨h15, hv⟩ := hv
    refine z_putI dX5_readIsland_146 zf_X5_80 h15.1 h15.2 (Or.inl rfl) (fun _ _ _ _ _ => rfl) rfl rfl (z_nmI (fun I16 e17 => ?_))
    have hv := hv I16 e17
    refine z_aload_n dX5_readIsland_149 rfl ?_
    refine z_getI dX5_readIsland_150 zf_X5_9 zn_17 zo_17 (fun _ _ _ _ _ => rfl) ?_
    refine z_if_ne (tgt := 160) dX5_readIsland_153 (by decide) (fun q18 => ?_) (fun q18 => ?_)
    · have hv := hv.1 q18
      refine z_iconst (v := 0) dX5_readIsland_160 (by decide) ?_
      exact z_ireturn dX5_readIsland_161 rfl (by decide) (Nat.le_refl _) (Nat.le_refl _) hv
    · have hv := hv.2 q18
      refine z_iconst (v := 1) dX5_readIsland_156 (by decide) ?_
      refine z_goto (tgt := 161) dX5_readIsland_157 (by decide) ?_
      exact z_ireturn dX5_readIsland_161 rfl (by decide) (Nat.le_refl _) (Nat.le_refl _) hv
  · have hv := hv.2 q14
    refine z_aload_n dX5_readIsland_24 rfl ?_
    refine z_getI dX5_readIsland_25 zf_X5_29 zn_17 zo_17 (fun _ _ _ _ _ => rfl) ?_
    refine z_sipush (v := 275) dX5_readIsland_28 (by decide) ?_
    refine z_icmp_eq (tgt := 141) dX5_readIsland_31 (by decide) (fun q19 => ?_) (fun q19 => ?_)
    · have hv := hv.1 q19
      refine z_aload_n dX5_readIsland_141 rfl ?_
      refine z_aload_n dX5_readIsland_142 rfl ?_
      refine z_getI dX5_readIsland_143 zf_X5_21 zn_17 zo_17 (fun _ _ _ _ _ => rfl) ?_
      obtain ⟨h20, hv⟩ := hv
      refine z_putI dX5_readIsland_146 zf_X5_80 h20.1 h20.2 (Or.inl rfl) (fun _ _ _ _ _ => rfl) rfl rfl (z_nmI (fun I21 e22 => ?_))
      have hv := hv I21 e22
      refine z_aload_n dX5_readIsland_149 rfl ?_
      refine z_getI dX5_readIsland_150 zf_X5_9 zn_17 zo_17 (fun _ _ _ _ _ => rfl) ?_
      refine z_if_ne (tgt := 160) dX5_readIsland_153 (by decide) (fun q23 => ?_) (fun q23 => ?_)
      · have hv := hv.1 q23
        refine z_iconst (v := 0) dX5_readIsland_160 (by decide) ?_
        exact z_ireturn dX5_readIsland_161 rfl (by decide) (Nat.le_refl _) (Nat.le_refl _) hv
      · have hv := hv.2 q23
        refine z_iconst (v := 1) dX5_readIsland_156 (by decide) ?_
        refine z_goto (tgt := 161) dX5_readIsland_157 (by decide) ?_
        exact z_ireturn dX5_readIsland_161 rfl (by decide) (Nat.le_refl _) (Nat.le_refl _) hv
    · have hv := hv.2 q19
      refine z_aload_n dX5_readIsland_34 rfl ?_
      refine z_getI dX5_readIsland_35 zf_X5_9 zn_17 zo_17 (fun _ _ _ _ _ => rfl) ?_
      refine z_if_ne (tgt := 141) dX5_readIsland_38 (by decide) (fun q24 => ?_) (fun q24 => ?_)
      · have hv := hv.1 q24
        refine z_aload_n dX5_readIsland_141 rfl ?_
        refine z_aload_n dX5_readIsland_142 rfl ?_
        refine z_getI dX5_readIsland_143 zf_X5_21 zn_17 zo_17 (fun _ _ _ _ _ => rfl) ?_
        obtain ⟨h25, hv⟩ := hv
        refine z_putI dX5_readIsland_146 zf_X5_80 h25.1 h25.2 (Or.inl rfl) (fun _ _ _ _ _ => rfl) rfl rfl (z_nmI (fun I26 e27 => ?_))
        have hv := hv I26 e27
        refine z_aload_n dX5_readIsland_149 rfl ?_
        refine z_getI dX5_readIsland_150 zf_X5_9 zn_17 zo_17 (fun _ _ _ _ _ => rfl) ?_
        refine z_if_ne (tgt := 160) dX5_readIsland_153 (by decide) (fun q28 => ?_) (fun q28 => ?_)
        · have hv := hv.1 q28
          refine z_iconst (v := 0) dX5_readIsland_160 (by decide) ?_
          exact z_ireturn dX5_readIsland_161 rfl (by decide) (Nat.le_refl _) (Nat.le_refl _) hv
        · have hv := hv.2 q28
          refine z_iconst (v := 1) dX5_readIsland_156 (by decide) ?_
          refine z_goto (tgt := 161) dX5_readIsland_157 (by decide) ?_
          exact z_ireturn dX5_readIsland_161 rfl (by decide) (Nat.le_refl _) (Nat.le_refl _) hv
      · have hv := hv.2 q24
        refine z_aload_n dX5_readIsland_41 rfl ?_
        refine z_getI dX5_readIsland_42 zf_X5_29 zn_17 zo_17 (fun _ _ _ _ _ => rfl) ?_
        by_cases q79 : (I 17 8) = 256
        · have hv := hv.1 q79
          refine z_tableIn (off := 51) (tgt := 96) dX5_readIsland_45 (by rw [q79]; decide) (by rw [q79]; decide) (by rw [q79]; decide) (by decide) ?_
          refine z_aload_n dX5_readIsland_96 rfl ?_
          refine z_callV (As := []) (st := []) dX5_readIsland_97 zl_X5_61 zv_X5_readPerson (by decide) rfl zn_17 zo_17 rfl rfl (Nat.le_of_ble_eq_true rfl) ⟨Nat.le_refl _, Nat.le_refl _⟩ ⟨Nat.le_refl _, Nat.le_refl _⟩ hv (fun v1 I29 L30 P31 nx1 q32 => ?_)
          obtain ⟨rfl, rfl, hv⟩ := q32
          refine z_goto (tgt := 129) dX5_readIsland_100 (by decide) ?_
          refine z_aload_n dX5_readIsland_129 rfl ?_
          refine z_bipush (v := 59) dX5_readIsland_130 (by decide) ?_
          refine z_callV (As := [.int 59]) (st := []) dX5_readIsland_132 zl_X5_77 zv_X5_expect (by decide) rfl zn_17 zo_17 rfl rfl (Nat.le_of_ble_eq_true rfl) ⟨Nat.le_refl _, Nat.le_refl _⟩ ⟨Nat.le_refl _, Nat.le_refl _⟩ hv (fun v1 I34 L35 P36 nx1 q37 => ?_)
          obtain ⟨rfl, rfl, hv⟩ := q37
          refine z_iinc (v2 := x2 + 1) (lv2 := [some (.ref 17), some (.ref p1), some (.int (x2 + 1))]) dX5_readIsland_135 rfl (by rfl) (by decide) rfl rfl ?_
          refine z_goto (tgt := 17) dX5_readIsland_138 (by decide) ?_
          exact hv
        by_cases q80 : (I 17 8) = 257
        · have hv := hv.2.2.2.2 (by rw [q80]; decide) (by rw [q80]; decide) (by rw [q80]; decide) (by rw [q80]; decide)
          refine z_tableIn (off := 79) (tgt := 124) dX5_readIsland_45 (by rw [q80]; decide) (by rw [q80]; decide) (by rw [q80]; decide) (by decide) ?_
          refine z_aload_n dX5_readIsland_124 rfl ?_
          refine z_iconst (v := 2) dX5_readIsland_125 (by decide) ?_
          refine z_callV (As := [.int 2]) (st := []) dX5_readIsland_126 zl_X5_73 zv_X5_fail (by decide) rfl zn_17 zo_17 rfl rfl (Nat.le_of_ble_eq_true rfl) ⟨Nat.le_refl _, Nat.le_refl _⟩ ⟨Nat.le_refl _, Nat.le_refl _⟩ hv (fun v1 I69 L70 P71 nx1 q72 => ?_)
          obtain ⟨rfl, rfl, hv⟩ := q72
          refine z_aload_n dX5_readIsland_129 rfl ?_
          refine z_bipush (v := 59) dX5_readIsland_130 (by decide) ?_
          refine z_callV (As := [.int 59]) (st := []) dX5_readIsland_132 zl_X5_77 zv_X5_expect (by decide) rfl zn_17 zo_17 rfl rfl (Nat.le_of_ble_eq_true rfl) ⟨Nat.le_refl _, Nat.le_refl _⟩ ⟨Nat.le_refl _, Nat.le_refl _⟩ hv (fun v1 I74 L75 P76 nx1 q77 => ?_)
          obtain ⟨rfl, rfl, hv⟩ := q77
          refine z_iinc (v2 := x2 + 1) (lv2 := [some (.ref 17), some (.ref p1), some (.int (x2 + 1))]) dX5_readIsland_135 rfl (by rfl) (by decide) rfl rfl ?_
          refine z_goto (tgt := 17) dX5_readIsland_138 (by decide) ?_
          exact hv
        by_cases q81 : (I 17 8) = 258
        · have hv := hv.2.2.2.2 (by rw [q81]; decide) (by rw [q81]; decide) (by rw [q81]; decide) (by rw [q81]; decide)
          refine z_tableIn (off := 79) (tgt := 124) dX5_readIsland_45 (by rw [q81]; decide) (by rw [q81]; decide) (by rw [q81]; decide) (by decide) ?_
          refine z_aload_n dX5_readIsland_124 rfl ?_
          refine z_iconst (v := 2) dX5_readIsland_125 (by decide) ?_
          refine z_callV (As := [.int 2]) (st := []) dX5_readIsland_126 zl_X5_73 zv_X5_fail (by decide) rfl zn_17 zo_17 rfl rfl (Nat.le_of_ble_eq_true rfl) ⟨Nat.le_refl _, Nat.le_refl _⟩ ⟨Nat.le_refl _, Nat.le_refl _⟩ hv (fun v1 I69 L70 P71 nx1 q72 => ?_)
          obtain ⟨rfl, rfl, hv⟩ := q72
          refine z_aload_n dX5_readIsland_129 rfl ?_
          refine z_bipush (v := 59) dX5_readIsland_130 (by decide) ?_
          refine z_callV (As := [.int 59]) (st := []) dX5_readIsland_132 zl_X5_77 zv_X5_expect (by decide) rfl zn_17 zo_17 rfl rfl (Nat.le_of_ble_eq_true rfl) ⟨Nat.le_refl _, Nat.le_refl _⟩ ⟨Nat.le_refl _, Nat.le_refl _⟩ hv (fun v1 I74 L75 P76 nx1 q77 => ?_)
          obtain ⟨rfl, rfl, hv⟩ := q77
          refine z_iinc (v2 := x2 + 1) (lv2 := [some (.ref 17), some (.ref p1), some (.int (x2 + 1))]) dX5_readIsland_135 rfl (by rfl) (by decide) rfl rfl ?_
          refine z_goto (tgt := 17) dX5_readIsland_138 (by decide) ?_
          exact hv
        by_cases q82 : (I 17 8) = 259
        · have hv := hv.2.2.2.2 (by rw [q82]; decide) (by rw [q82]; decide) (by rw [q82]; decide) (by rw [q82]; decide)
          refine z_tableIn (off := 79) (tgt := 124) dX5_readIsland_45 (by rw [q82]; decide) (by rw [q82]; decide) (by rw [q82]; decide) (by decide) ?_
          refine z_aload_n dX5_readIsland_124 rfl ?_
          refine z_iconst (v := 2) dX5_readIsland_125 (by decide) ?_
          refine z_callV (As := [.int 2]) (st := []) dX5_readIsland_126 zl_X5_73 zv_X5_fail (by decide) rfl zn_17 zo_17 rfl rfl (Nat.le_of_ble_eq_true rfl) ⟨Nat.le_refl _, Nat.le_refl _⟩ ⟨Nat.le_refl _, Nat.le_refl _⟩ hv (fun v1 I69 L70 P71 nx1 q72 => ?_)
          obtain ⟨rfl, rfl, hv⟩ := q72
          refine z_aload_n dX5_readIsland_129 rfl ?_
          refine z_bipush (v := 59) dX5_readIsland_130 (by decide) ?_
          refine z_callV (As := [.int 59]) (st := []) dX5_readIsland_132 zl_X5_77 zv_X5_expect (by decide) rfl zn_17 zo_17 rfl rfl (Nat.le_of_ble_eq_true rfl) ⟨Nat.le_refl _, Nat.le_refl _⟩ ⟨Nat.le_refl _, Nat.le_refl _⟩ hv (fun v1 I74 L75 P76 nx1 q77 => ?_)
          obtain ⟨rfl, rfl, hv⟩ := q77
          refine z_iinc (v2 := x2 + 1) (lv2 := [some (.ref 17), some (.ref p1), some (.int (x2 + 1))]) dX5_readIsland_135 rfl (by rfl) (by decide) rfl rfl ?_
          refine z_goto (tgt := 17) dX5_readIsland_138 (by decide) ?_
          exact hv
        by_cases q83 : (I 17 8) = 260
        · have hv := hv.2.1 q83
          refine z_tableIn (off := 58) (tgt := 103) dX5_readIsland_45 (by rw [q83]; decide) (by rw [q83]; decide) (by rw [q83]; decide) (by decide) ?_
          refine z_aload_n dX5_readIsland_103 rfl ?_
          refine z_callV (As := []) (st := []) dX5_readIsland_104 zl_X5_64 zv_X5_readBlind (by decide) rfl zn_17 zo_17 rfl rfl (Nat.le_of_ble_eq_true rfl) ⟨Nat.le_refl _, Nat.le_refl _⟩ ⟨Nat.le_refl _, Nat.le_refl _⟩ hv (fun v1 I39 L40 P41 nx1 q42 => ?_)
          obtain ⟨rfl, rfl, hv⟩ := q42
          refine z_goto (tgt := 129) dX5_readIsland_107 (by decide) ?_
          refine z_aload_n dX5_readIsland_129 rfl ?_
          refine z_bipush (v := 59) dX5_readIsland_130 (by decide) ?_
          refine z_callV (As := [.int 59]) (st := []) dX5_readIsland_132 zl_X5_77 zv_X5_expect (by decide) rfl zn_17 zo_17 rfl rfl (Nat.le_of_ble_eq_true rfl) ⟨Nat.le_refl _, Nat.le_refl _⟩ ⟨Nat.le_refl _, Nat.le_refl _⟩ hv (fun v1 I44 L45 P46 nx1 q47 => ?_)
          obtain ⟨rfl, rfl, hv⟩ := q47
          refine z_iinc (v2 := x2 + 1) (lv2 := [some (.ref 17), some (.ref p1), some (.int (x2 + 1))]) dX5_readIsland_135 rfl (by rfl) (by decide) rfl rfl ?_
          refine z_goto (tgt := 17) dX5_readIsland_138 (by decide) ?_
          exact hv
        by_cases q84 : (I 17 8) = 261
        · have hv := hv.2.2.1 q84
          refine z_tableIn (off := 65) (tgt := 110) dX5_readIsland_45 (by rw [q84]; decide) (by rw [q84]; decide) (by rw [q84]; decide) (by decide) ?_
          refine z_aload_n dX5_readIsland_110 rfl ?_
          refine z_callV (As := []) (st := []) dX5_readIsland_111 zl_X5_67 zv_X5_readLaw (by decide) rfl zn_17 zo_17 rfl rfl (Nat.le_of_ble_eq_true rfl) ⟨Nat.le_refl _, Nat.le_refl _⟩ ⟨Nat.le_refl _, Nat.le_refl _⟩ hv (fun v1 I49 L50 P51 nx1 q52 => ?_)
          obtain ⟨rfl, rfl, hv⟩ := q52
          refine z_goto (tgt := 129) dX5_readIsland_114 (by decide) ?_
          refine z_aload_n dX5_readIsland_129 rfl ?_
          refine z_bipush (v := 59) dX5_readIsland_130 (by decide) ?_
          refine z_callV (As := [.int 59]) (st := []) dX5_readIsland_132 zl_X5_77 zv_X5_expect (by decide) rfl zn_17 zo_17 rfl rfl (Nat.le_of_ble_eq_true rfl) ⟨Nat.le_refl _, Nat.le_refl _⟩ ⟨Nat.le_refl _, Nat.le_refl _⟩ hv (fun v1 I54 L55 P56 nx1 q57 => ?_)
          obtain ⟨rfl, rfl, hv⟩ := q57
          refine z_iinc (v2 := x2 + 1) (lv2 := [some (.ref 17), some (.ref p1), some (.int (x2 + 1))]) dX5_readIsland_135 rfl (by rfl) (by decide) rfl rfl ?_
          refine z_goto (tgt := 17) dX5_readIsland_138 (by decide) ?_
          exact hv
        by_cases q85 : (I 17 8) = 262
        · have hv := hv.2.2.2.2 (by rw [q85]; decide) (by rw [q85]; decide) (by rw [q85]; decide) (by rw [q85]; decide)
          refine z_tableIn (off := 79) (tgt := 124) dX5_readIsland_45 (by rw [q85]; decide) (by rw [q85]; decide) (by rw [q85]; decide) (by decide) ?_
          refine z_aload_n dX5_readIsland_124 rfl ?_
          refine z_iconst (v := 2) dX5_readIsland_125 (by decide) ?_
          refine z_callV (As := [.int 2]) (st := []) dX5_readIsland_126 zl_X5_73 zv_X5_fail (by decide) rfl zn_17 zo_17 rfl rfl (Nat.le_of_ble_eq_true rfl) ⟨Nat.le_refl _, Nat.le_refl _⟩ ⟨Nat.le_refl _, Nat.le_refl _⟩ hv (fun v1 I69 L70 P71 nx1 q72 => ?_)
          obtain ⟨rfl, rfl, hv⟩ := q72
          refine z_aload_n dX5_readIsland_129 rfl ?_
          refine z_bipush (v := 59) dX5_readIsland_130 (by decide) ?_
          refine z_callV (As := [.int 59]) (st := []) dX5_readIsland_132 zl_X5_77 zv_X5_expect (by decide) rfl zn_17 zo_17 rfl rfl (Nat.le_of_ble_eq_true rfl) ⟨Nat.le_refl _, Nat.le_refl _⟩ ⟨Nat.le_refl _, Nat.le_refl _⟩ hv (fun v1 I74 L75 P76 nx1 q77 => ?_)
          obtain ⟨rfl, rfl, hv⟩ := q77
          refine z_iinc (v2 := x2 + 1) (lv2 := [some (.ref 17), some (.ref p1), some (.int (x2 + 1))]) dX5_readIsland_135 rfl (by rfl) (by decide) rfl rfl ?_
          refine z_goto (tgt := 17) dX5_readIsland_138 (by decide) ?_
          exact hv
        by_cases q86 : (I 17 8) = 263
        · have hv := hv.2.2.2.2 (by rw [q86]; decide) (by rw [q86]; decide) (by rw [q86]; decide) (by rw [q86]; decide)
          refine z_tableIn (off := 79) (tgt := 124) dX5_readIsland_45 (by rw [q86]; decide) (by rw [q86]; decide) (by rw [q86]; decide) (by decide) ?_
          refine z_aload_n dX5_readIsland_124 rfl ?_
          refine z_iconst (v := 2) dX5_readIsland_125 (by decide) ?_
          refine z_callV (As := [.int 2]) (st := []) dX5_readIsland_126 zl_X5_73 zv_X5_fail (by decide) rfl zn_17 zo_17 rfl rfl (Nat.le_of_ble_eq_true rfl) ⟨Nat.le_refl _, Nat.le_refl _⟩ ⟨Nat.le_refl _, Nat.le_refl _⟩ hv (fun v1 I69 L70 P71 nx1 q72 => ?_)
          obtain ⟨rfl, rfl, hv⟩ := q72
          refine z_aload_n dX5_readIsland_129 rfl ?_
          refine z_bipush (v := 59) dX5_readIsland_130 (by decide) ?_
          refine z_callV (As := [.int 59]) (st := []) dX5_readIsland_132 zl_X5_77 zv_X5_expect (by decide) rfl zn_17 zo_17 rfl rfl (Nat.le_of_ble_eq_true rfl) ⟨Nat.le_refl _, Nat.le_refl _⟩ ⟨Nat.le_refl _, Nat.le_refl _⟩ hv (fun v1 I74 L75 P76 nx1 q77 => ?_)
          obtain ⟨rfl, rfl, hv⟩ := q77
          refine z_iinc (v2 := x2 + 1) (lv2 := [some (.ref 17), some (.ref p1), some (.int (x2 + 1))]) dX5_readIsland_135 rfl (by rfl) (by decide) rfl rfl ?_
          refine z_goto (tgt := 17) dX5_readIsland_138 (by decide) ?_
          exact hv
        by_cases q87 : (I 17 8) = 264
        · have hv := hv.2.2.2.1 q87
          refine z_tableIn (off := 72) (tgt := 117) dX5_readIsland_45 (by rw [q87]; decide) (by rw [q87]; decide) (by rw [q87]; decide) (by decide) ?_
          refine z_aload_n dX5_readIsland_117 rfl ?_
          refine z_callV (As := []) (st := []) dX5_readIsland_118 zl_X5_70 zv_X5_readSaying (by decide) rfl zn_17 zo_17 rfl rfl (Nat.le_of_ble_eq_true rfl) ⟨Nat.le_refl _, Nat.le_refl _⟩ ⟨Nat.le_refl _, Nat.le_refl _⟩ hv (fun v1 I59 L60 P61 nx1 q62 => ?_)
          obtain ⟨rfl, rfl, hv⟩ := q62
          refine z_goto (tgt := 129) dX5_readIsland_121 (by decide) ?_
          refine z_aload_n dX5_readIsland_129 rfl ?_
          refine z_bipush (v := 59) dX5_readIsland_130 (by decide) ?_
          refine z_callV (As := [.int 59]) (st := []) dX5_readIsland_132 zl_X5_77 zv_X5_expect (by decide) rfl zn_17 zo_17 rfl rfl (Nat.le_of_ble_eq_true rfl) ⟨Nat.le_refl _, Nat.le_refl _⟩ ⟨Nat.le_refl _, Nat.le_refl _⟩ hv (fun v1 I64 L65 P66 nx1 q67 => ?_)
          obtain ⟨rfl, rfl, hv⟩ := q67
          refine z_iinc (v2 := x2 + 1) (lv2 := [some (.ref 17), some (.ref p1), some (.int (x2 + 1))]) dX5_readIsland_135 rfl (by rfl) (by decide) rfl rfl ?_
          refine z_goto (tgt := 17) dX5_readIsland_138 (by decide) ?_
          exact hv
        have hv := hv.2.2.2.2 q79 q83 q84 q87
        have tq79 := lv_neT q79 (show (256 : Int32).toInt = 256 by decide)
        have tq80 := lv_neT q80 (show (257 : Int32).toInt = 257 by decide)
        have tq81 := lv_neT q81 (show (258 : Int32).toInt = 258 by decide)
        have tq82 := lv_neT q82 (show (259 : Int32).toInt = 259 by decide)
        have tq83 := lv_neT q83 (show (260 : Int32).toInt = 260 by decide)
        have tq84 := lv_neT q84 (show (261 : Int32).toInt = 261 by decide)
        have tq85 := lv_neT q85 (show (262 : Int32).toInt = 262 by decide)
        have tq86 := lv_neT q86 (show (263 : Int32).toInt = 263 by decide)
        have tq87 := lv_neT q87 (show (264 : Int32).toInt = 264 by decide)
        refine z_tableOut (tgt := 124) dX5_readIsland_45 (by omega) (by decide) ?_
        refine z_aload_n dX5_readIsland_124 rfl ?_
        refine z_iconst (v := 2) dX5_readIsland_125 (by decide) ?_
        refine z_callV (As := [.int 2]) (st := []) dX5_readIsland_126 zl_X5_73 zv_X5_fail (by decide) rfl zn_17 zo_17 rfl rfl (Nat.le_of_ble_eq_true rfl) ⟨Nat.le_refl _, Nat.le_refl _⟩ ⟨Nat.le_refl _, Nat.le_refl _⟩ hv (fun v1 I69 L70 P71 nx1 q72 => ?_)
        obtain ⟨rfl, rfl, hv⟩ := q72
        refine z_aload_n dX5_readIsland_129 rfl ?_
        refine z_bipush (v := 59) dX5_readIsland_130 (by decide) ?_
        refine z_callV (As := [.int 59]) (st := []) dX5_readIsland_132 zl_X5_77 zv_X5_expect (by decide) rfl zn_17 zo_17 rfl rfl (Nat.le_of_ble_eq_true rfl) ⟨Nat.le_refl _, Nat.le_refl _⟩ ⟨Nat.le_refl _, Nat.le_refl _⟩ hv (fun v1 I74 L75 P76 nx1 q77 => ?_)
        obtain ⟨rfl, rfl, hv⟩ := q77
        refine z_iinc (v2 := x2 + 1) (lv2 := [some (.ref 17), some (.ref p1), some (.int (x2 + 1))]) dX5_readIsland_135 rfl (by rfl) (by decide) rfl rfl ?_
        refine z_goto (tgt := 17) dX5_readIsland_138 (by decide) ?_
        exact hv
abbrev v_X5_readIsland (d : Nat) (Q : zQt) (p1 : Nat) (I : zI) (L : zL) (P : zP) : Prop :=
  (p1 < 205 ∧ (zsh p1).1 = 2) ∧
  zMv zm_X2_clear d [.ref p1] I L P (fun I2 L3 P4 =>
    ∃ b7 : Nat, P4 p1 10 = some b7 ∧
    zMv zm_X5_begin d [.ref 17, .ref p1, .ref b7, .int 60] I2 L3 P4 (fun I9 L10 P11 =>
      gw_X5_readIsland (d + 1) Q 17 [some (.ref 17), some (.ref p1), some (.int 0)] [] I9 L10 P11
    )
  )
set_option maxRecDepth 20000 in
theorem g_X5_readIsland {d : Nat} {Q : zQt} {p1 : Nat} {I : zI} {L : zL} {P : zP} (hP : zPk P) (hv : v_X5_readIsland d Q p1 I L P) : zM zm_X5_readIsland (d + 1) 0 0 [.ref 17, .ref p1] I L P 205 Q := by
  unfold v_X5_readIsland at hv
  refine zM_of (lv0 := [some (.ref 17), some (.ref p1), none]) (by decide +kernel) (Nat.le_of_ble_eq_true rfl) rfl ?_
  refine z_aload_n dX5_readIsland_0 rfl ?_
  obtain ⟨h1, hv⟩ := hv
  refine z_callV (As := []) (st := []) dX5_readIsland_1 zl_X5_49 zv_X2_clear (by decide) rfl h1.1 h1.2 rfl rfl (Nat.le_of_ble_eq_true rfl) ⟨Nat.le_refl _, Nat.le_refl _⟩ ⟨Nat.le_refl _, Nat.le_refl _⟩ hv (fun v1 I2 L3 P4 nx1 q5 => ?_)
  obtain ⟨rfl, rfl, hv⟩ := q5
  refine z_aload_n dX5_readIsland_4 rfl ?_
  refine z_aload_n dX5_readIsland_5 rfl ?_
  refine z_aload_n dX5_readIsland_6 rfl ?_
  obtain ⟨b7, h8, hv⟩ := hv
  refine z_getP dX5_readIsland_7 zf_X5_54 h1.1 h1.2 (fun _ _ _ _ _ => rfl) h8 ?_
  refine z_bipush (v := 60) dX5_readIsland_10 (by decide) ?_
  refine z_callV (As := [.ref p1, .ref b7, .int 60]) (st := []) dX5_readIsland_12 zl_X5_55 zv_X5_begin (by decide) rfl zn_17 zo_17 rfl rfl (Nat.le_of_ble_eq_true rfl) ⟨Nat.le_refl _, Nat.le_refl _⟩ ⟨Nat.le_refl _, Nat.le_refl _⟩ hv (fun v1 I9 L10 P11 nx1 q12 => ?_)
  obtain ⟨rfl, rfl, hv⟩ := q12
  refine z_iconst (v := 0) dX5_readIsland_15 (by decide) ?_
  refine z_istore_n (lv2 := [some (.ref 17), some (.ref p1), some (.int 0)]) dX5_readIsland_16 (by decide) rfl rfl ?_
  exact hv
/-- what is wanted behind an island -/
def cWi (t : Nat) (I0 : zI) (L0 : zL) (K : Int32 → zI → zL → Prop) : Sum (Nat × Nat) Ai → Prop
  | .inl q => ∀ I' L', cFi t I0 I' → (∀ x, x ≠ t + 1 → L' x = L0 x) → I' 17 0 = nI q.1 → I' 17 1 = nI q.2 → K 0 I' L'
  | .inr A => ∀ I' L', cFi t I0 I' → (∀ x, x ≠ t + 1 → L' x = L0 x) → cI t I' L' A → I' t 5 = nI (A.1 4) → I' 17 0 = 0 → I' 17 1 = -1 → K 1 I' L'
theorem lp_X5_readIsland {K : Int32 → zI → zL → zP → Prop} (hP : zPk P) (hR : cPr P t) (hn : n ≤ 1600) (hd : 71 ≤ d) {res : Sum (Nat × Nat) Ai} (kk : cWi t I0 L0 (fun r I' L' => K r I' L' P) res) :
    ∀ f A e i I L, n - e < f → i ≤ e → rIs T n f A e = res → cLs T n t I0 L0 I L A e → gw_X5_readIsland (d + 1) (fun v I' L' P' nx' => nx' = 205 ∧ ∃ r, v = some (.int r) ∧ K r I' L' P') 17 [some (.ref 17), some (.ref t), some (.int (nI i))] [] I L P := by
  have ht := hR.2.2
  have b1 := (il_P ht hP).1
  have hil := ht
  unfold il at hil
  intro f
  induction f with
  | zero => intro A e i I L h; exact absurd h (Nat.not_lt_zero _)
  | succ f ih =>
    intro A e i I L hf hi hr h
    have he := rG_e h.2.1
    have h0 := rG_0 h.2.1
    have h8 := fun w hw => rG_w (w := w) h.2.1 hw
    have hB := rLn_B (T := T) (n := n) (A := A) he
    have hr : @ite _ (tK T n e = 275) (Classical.propDecidable _) (.inr A) (match rLn T n A e with | .inl q => .inl q | .inr (e', A') => rIs T n f A' e') = res := hr
    -- the end
    have fin : tK T n e = 275 → ∀ J : zI, J = zuI I t 5 (I 17 6) → (¬ J 17 0 = 0 → (205 : Nat) = 205 ∧ ∃ r, some (Value.int 0) = some (.int r) ∧ K r J L P) ∧ (J 17 0 = 0 → (205 : Nat) = 205 ∧ ∃ r, some (Value.int 1) = some (.int r) ∧ K r J L P) := by
      intro z J eJ
      rw [if_pos z] at hr
      subst hr
      have j17 : J 17 = I 17 := by rw [eJ, zuI_ne (by omega)]
      refine ⟨fun y => absurd (by rw [j17]; exact h0) y, fun _ => qi (kk J L ?_ h.2.2.2.2 ?_ ?_ (by rw [j17]; exact h0) ?_)⟩
      · rw [eJ]; exact cFi_u h.2.2.2.1 (by simp)
      · rw [eJ]; exact cI_5 ht h.1
      · rw [eJ, zuI_v]; exact h.1.2.2.2.2.2.2.2.2.1.1.2
      · rw [j17]
        obtain ⟨_, _, _, _, _, _, _, _, y⟩ := h.2.1
        exact y
    -- behind a fault
    have badE : ∀ (q : Nat × Nat) x J L2, cFi t I0 J → (∀ x, x ≠ t + 1 → L2 x = L0 x) → rB q.1 q.2 J → res = .inl q → gw_X5_readIsland (d + 1) (fun v I' L' P' nx' => nx' = 205 ∧ ∃ r, v = some (.int r) ∧ K r I' L' P') 17 [some (.ref 17), some (.ref t), some (.int x)] [] J L2 P := by
      intro q x J L2 g1 g2 g3 hres
      subst hres
      have fin2 : ∀ J2 : zI, J2 = zuI J t 5 (J 17 6) → (¬ J2 17 0 = 0 → (205 : Nat) = 205 ∧ ∃ r, some (Value.int 0) = some (.int r) ∧ K r J2 L2 P) ∧ (J2 17 0 = 0 → (205 : Nat) = 205 ∧ ∃ r, some (Value.int 1) = some (.int r) ∧ K r J2 L2 P) := by
        intro J2 e2
        have j17 : J2 17 = J 17 := by rw [e2, zuI_ne (by omega)]
        refine ⟨fun _ => qi (kk J2 L2 (by rw [e2]; exact cFi_u g1 (by simp)) g2 (by rw [j17]; exact g3.2.1) (by rw [j17]; exact g3.2.2.1)), fun y => absurd (by rw [← j17]; exact y) (rB_n g3)⟩
      exact g_X5_readIsland_17 hP ⟨fun _ => ⟨b1, fin2⟩, fun _ => ⟨fun z => absurd z (rB_w (w := 275) g3 (by decide)), fun _ => ⟨fun _ => ⟨b1, fin2⟩, fun z => absurd z (rB_n g3)⟩⟩⟩
    refine g_X5_readIsland_17 hP ⟨fun q => ⟨b1, fin ?_⟩, fun q => ⟨fun z => ⟨b1, fin ((h8 275 (by decide)).mp z)⟩, fun z => ⟨fun y => absurd h0 y, fun _ => ?_⟩⟩⟩
    · rw [show (1600 : Int32) = nI 1600 from rfl, nI_leI (by decide) (by omega)] at q
      have : n ≤ tA T n e := by
        have := rn_ge (fun k => isBl (T k)) n e
        unfold tA
        omega
      exact (tE_0 this).2
    · have hz : ¬ tK T n e = 275 := fun y => z ((h8 275 (by decide)).mpr y)
      rw [if_neg hz] at hr
      -- all lines go on so
      have go : ∀ l, lSem T n l = rLn T n A e → cW T n t I0 L0 (fun I' L' => zMv zm_X5_expect d [.ref 17, .int 59] I' L' P (fun I34 L35 P36 => gw_X5_readIsland (d + 1) (fun v I' L' P' nx' => nx' = 205 ∧ ∃ r, v = some (.int r) ∧ K r I' L' P') 17 [some (.ref 17), some (.ref t), some (.int (nI i + 1))] [] I34 L35 P36)) l := by
        intro l hl
        refine cW_sem hP hR (by omega) l ?_
        rw [hl]
        revert hr hB
        match rLn T n A e with
        | .inl q =>
          intro hB hr I' L' g1 g2 g3
          exact badE q _ I' L' g1 g2 g3 hr.symm
        | .inr (e', A') =>
          intro hB hr I' L' g
          have := hB e' A' rfl
          rw [nI_1]
          exact ih A' e' (i + 1) I' L' (by omega) (by omega) hr g
      refine ⟨fun y => ?_, fun y => ?_, fun y => ?_, fun y => ?_, fun y0 y4 y1 y6 => ?_⟩
      · have y := (h8 256 (by decide)).mp y
        exact sp_X5_readPerson hP hR h y (by omega) (go _ (rLn_256 y).symm)
      · have y := (h8 260 (by decide)).mp y
        exact sp_X5_readBlind hP hR h y (by omega) (go _ (rLn_260 y).symm)
      · have y := (h8 261 (by decide)).mp y
        exact sp_X5_readLaw hP hR h y (by omega) (go _ (rLn_261 y).symm)
      · have y := (h8 264 (by decide)).mp y
        exact sp_X5_readSaying hP hR h hn y (by omega) (go _ (rLn_264 y).symm)
      · have := go (lBad T n e) (rLn_o (fun w => y0 ((h8 256 (by decide)).mpr w)) (fun w => y4 ((h8 260 (by decide)).mpr w)) (fun w => y1 ((h8 261 (by decide)).mpr w)) (fun w => y6 ((h8 264 (by decide)).mpr w))).symm
        exact sp_X5_fail (k := 2) hP h.2.1 (by decide) (by omega) (fun I2 g1 g2 => cLs_bad (q := (mis T n e, tA T n e)) h g1 g2 this)
theorem sp_X5_readIsland (hP : zPk P) (hT : tpR I T n) (hw : wdR L) (ht : il t) (hz : I (t + 5) 0 = 0) (hd : 72 ≤ d) {K : Int32 → zI → zL → zP → Prop}
    (kk : ∀ I1 L1, zPk (pRd P t (t + 3)) → cFr [17, 18, 20, 21, t, t + 2, t + 3, t + 4, t + 5] I I1 → (∀ x, x ≠ 22 → L1 x = L x) → cWi t I1 L1 (fun r I' L' => K r I' L' (pRd P t (t + 3))) (rIs T n (n + 1) A0 0)) : zMi zm_X5_readIsland d [.ref 17, .ref t] I L P K := by
  obtain ⟨d, rfl⟩ : ∃ e, d = e + 1 := ⟨d - 1, by omega⟩
  obtain ⟨b1, b2, b3, b4, b5, b6⟩ := il_P ht hP
  have hil := ht
  unfold il at hil
  refine g_X5_readIsland hP ⟨b1, sp_X2_clear hP ht (fun I2 f2 c2 => ⟨t + 3, b4.1, ?_⟩)⟩
  have h0 : I2 t 0 = nI 0 := (c2 (zuI I2 17 6 0) L (by rw [zuI_ne (by omega)]) (by rw [zuI_ne (by omega)]) (by rw [zuI_v]; rfl)).1.2 ▸ (by rw [zuI_ne (by omega)])
  have co3 : co (t + 3) := by unfold co; omega
  refine sp_X5_begin (T := T) (n := n) (np := 0) (lim := 60) hP (tpR_c hT (f2 1 (by simp only [List.mem_cons, List.not_mem_nil, or_false]; omega)) (f2 2 (by simp only [List.mem_cons, List.not_mem_nil, or_false]; omega))) hw ⟨ht, by decide, h0⟩ co3 (by decide) (by omega) (fun I4 L4 hP4 x4 g4 u4 c4 l4 => ?_)
  have hci : cI t I4 L4 A0 := c2 I4 L4 (c4 t (by simp only [List.mem_cons, List.not_mem_nil, or_false]; omega)) (c4 (t + 3) (by simp only [List.mem_cons, List.not_mem_nil, or_false]; omega)) u4
  have k := kk I4 L4 hP4 (cFr_tr (cFr_wk f2 (by simp)) (cFr_wk c4 (by simp))) l4
  exact lp_X5_readIsland hP4 ⟨x4.1, x4.2.1, ht⟩ hT.1 (by omega) k (n + 1) A0 0 0 I4 L4 (by omega) (Nat.le_refl _) rfl ⟨hci, g4, x4.2.2.2.2.1, ⟨cFr_rf _ _, ht, by rw [c4 (t + 5) (by simp only [List.mem_cons, List.not_mem_nil, or_false]; omega), f2 (t + 5) (by simp only [List.mem_cons, List.not_mem_nil, or_false]; omega)]; exact hz⟩, fun _ _ => rfl⟩
end LN4
