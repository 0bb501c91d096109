/-! ===== the model: a line is read ===== -/
abbrev Ln := Sum (Nat × Nat) (Nat × Ai)
section PL
variable (T : Nat → Int32) (n : Nat)
noncomputable def lBad (e : Nat) : Ln := .inl (mis T n e, tA T n e)
noncomputable def lOne (A : Ai) (e : Nat) : Ln :=
  @ite _ (tK T n e = 273) (Classical.propDecidable _)
    (match aNm A (tV T n e) with
      | some _ => .inl (3, tA T n e)
      | none => .inr (skF T n 259 (skF T n 258 (skF T n 257 (tE T n e))), aOne T n e A))
    (lBad T n e)
noncomputable def lBl (A : Ai) (e : Nat) : Ln :=
  @ite _ (tK T n e = 273) (Classical.propDecidable _)
    (match aNm A (tV T n e) with
      | none => .inl (4, tA T n e)
      | some a => @ite _ (tK T n (tE T n e) = 273) (Classical.propDecidable _)
          (match aNm A (tV T n (tE T n e)) with
            | none => .inl (4, tA T n (tE T n e))
            | some b => @ite _ (a = b ∨ (A.1 (10 + a)).testBit b = false) (Classical.propDecidable _) (.inl (3, tA T n (tE T n e))) (.inr (tE T n (tE T n e), aBl A a b)))
          (lBad T n (tE T n e)))
    (lBad T n e)
noncomputable def lLaw (A : Ai) (e : Nat) : Ln :=
  @ite _ (tK T n e = 262 ∨ tK T n e = 263) (Classical.propDecidable _) (.inr (tE T n e, aU (aU A 6 (@ite _ (tK T n e = 263) (Classical.propDecidable _) 1 0)) 5 1)) (lBad T n e)
noncomputable def lSay (A : Ai) (e : Nat) : Ln :=
  match fRd T n (aNm A) 60 e (A.1 4) with
  | .inl q => .inl q
  | .inr (e', u', c') => @ite _ (rkH (tK T n e') = 4) (Classical.propDecidable _) (lBad T n e') (.inr (e', aSay A u' c'))
/-- behind the line's own words a semicolon -/
noncomputable def lSem : Ln → Ln
  | .inl q => .inl q
  | .inr (e, A) => @ite _ (tK T n e = 59) (Classical.propDecidable _) (.inr (tE T n e, A)) (lBad T n e)
/-- one line of an island -/
noncomputable def rLn (A : Ai) (e : Nat) : Ln :=
  @ite _ (256 ≤ tK T n e ∧ tK T n e < 273 ∧ ¬ aFull A (tK T n e)) (Classical.propDecidable _)
    (lSem T n (if tK T n e = 256 then lOne T n A (tE T n e) else if tK T n e = 260 then lBl T n A (tE T n e) else if tK T n e = 261 then lLaw T n A (tE T n e) else lSay T n A (tE T n e)))
    (lBad T n e)
end PL
/-- what is wanted behind a line, or a part of it -/
def lQ (T : Nat → Int32) (n rb : Nat) (I0 : zI) (L0 : zL) (K : zI → zL → Prop) : Ln → Prop
  | .inl q => ∀ I' L', (q.1 ≠ 0 ∧ q.1 < 100) → iFr rb I0 L0 I' L' → I' 160 4 = nI q.1 → I' 160 5 = nI q.2 → pSg I' (I' 160 6) → K I' L'
  | .inr (e, A) => ∀ I' L', iM rb I' L' A → pS T n I' L' e → I' 160 4 = 0 → I' 160 5 = I0 160 5 → iFr rb I0 L0 I' L' → K I' L'
abbrev gw_X12_readLine (d : Nat) (Q : zQt) (pc : Nat) (lv : zV) (st : List Value) (I : zI) (L : zL) (P : zP) : Prop := zW zm_X12_readLine (zRm d 0 0) 0 0 Q pc lv st I L P 205 0 0
abbrev v_X12_readLine_84 (d : Nat) (Q : zQt)  (I : zI) (L : zL) (P : zP) : Prop :=
  (I 160 8 = 5 → pSg I (I 160 6)) ∧
  zMv zm_X12_must d [.ref 160, .int (bP (I 160 8 = 5 ∧ sSg I (I 160 6) = 59))] I L P (fun I84 L85 P86 =>
    Q none I84 L85 P86 205
  )
set_option maxRecDepth 20000 in
theorem g_X12_readLine_84 {d : Nat} {Q : zQt}  {I : zI} {L : zL} {P : zP} (hP : zPk P) (hd : 1 ≤ d) (hv : v_X12_readLine_84 d Q  I L P) : gw_X12_readLine (d + 1) Q 84 [some (.ref 160), none, none] [] I L P := by
  unfold v_X12_readLine_84 at hv
  refine z_aload_n dX12_readLine_84 rfl ?_
  refine z_aload_n dX12_readLine_85 rfl ?_
  refine z_bipush (v := 59) dX12_readLine_86 (by decide) ?_
  obtain ⟨h81, hv⟩ := hv
  refine z_callV (As := [.int 59]) (st := [.ref 160]) dX12_readLine_88 zl_X12_291 zv_X12_stands (by decide) rfl zn_160 zo_160 rfl rfl (Nat.le_of_ble_eq_true rfl) ⟨Nat.le_refl _, Nat.le_refl _⟩ ⟨Nat.le_refl _, Nat.le_refl _⟩ (sp_X12_stands hP h81 (by omega) (K := fun r I' L' P' => bP (I 160 8 = 5 ∧ sSg I (I 160 6) = 59) = r ∧ I = I' ∧ L = L' ∧ P = P') ⟨rfl, rfl, rfl, rfl⟩) (fun v1 I2 L2 P2 nx1 q83 => ?_)
  obtain ⟨rfl, r82, rfl, rfl, rfl, rfl, rfl⟩ := q83
  refine z_callV (As := [.int (bP (I 160 8 = 5 ∧ sSg I (I 160 6) = 59))]) (st := []) dX12_readLine_91 zl_X12_294 zv_X12_must (by decide) rfl zn_160 zo_160 rfl rfl (Nat.le_of_ble_eq_true rfl) ⟨Nat.le_refl _, Nat.le_refl _⟩ ⟨Nat.le_refl _, Nat.le_refl _⟩ hv (fun v1 I84 L85 P86 nx1 q87 => ?_)
  obtain ⟨rfl, rfl, hv⟩ := q87
  exact z_return dX12_readLine_94 rfl (Nat.le_refl _) (Nat.le_refl _) hv
abbrev v_X12_readLine_72 (d : Nat) (Q : zQt) (x1 : Int64) (I : zI) (L : zL) (P : zP) : Prop :=
  ((¬ (lg_cmp x1 126862485974631) = 0 →
    gw_X12_readLine (d + 1) Q 84 [some (.ref 160), none, none] [] I L P
  ) ∧ ((lg_cmp x1 126862485974631) = 0 →
    zMv zm_X12_readSaying d [.ref 160] I L P (fun I76 L77 P78 =>
      gw_X12_readLine (d + 1) Q 84 [some (.ref 160), none, none] [] I76 L77 P78
    )
  ))
set_option maxRecDepth 20000 in
theorem g_X12_readLine_72 {d : Nat} {Q : zQt} {x1 : Int64} {I : zI} {L : zL} {P : zP} (hP : zPk P) (hd : 1 ≤ d) (hv : v_X12_readLine_72 d Q x1 I L P) : gw_X12_readLine (d + 1) Q 72 [some (.ref 160), some (.long x1), none] [] I L P := by
  unfold v_X12_readLine_72 at hv
  refine z_lload_n dX12_readLine_72 rfl ?_
  refine z_ldc2 (v := 126862485974631) dX12_readLine_73 zj_X12_177 ?_
  refine z_lcmp dX12_readLine_76 ?_
  refine z_if_ne (tgt := 84) dX12_readLine_77 (by decide) (fun q75 => ?_) (fun q75 => ?_)
  · have hv := hv.1 q75
    exact z_sub (by exact ⟨rfl, trivial⟩) hv
  · have hv := hv.2 q75
    refine z_aload_n dX12_readLine_80 rfl ?_
    refine z_callV (As := []) (st := []) dX12_readLine_81 zl_X12_288 zv_X12_readSaying (by decide) rfl zn_160 zo_160 rfl rfl (Nat.le_of_ble_eq_true rfl) ⟨Nat.le_refl _, Nat.le_refl _⟩ ⟨Nat.le_refl _, Nat.le_refl _⟩ hv (fun v1 I76 L77 P78 nx1 q79 => ?_)
    obtain ⟨rfl, rfl, hv⟩ := q79
    exact z_sub (by exact ⟨rfl, trivial⟩) hv
abbrev v_X12_readLine_60 (d : Nat) (Q : zQt) (x1 : Int64) (I : zI) (L : zL) (P : zP) : Prop :=
  ((¬ (lg_cmp x1 7102839) = 0 →
    gw_X12_readLine (d + 1) Q 72 [some (.ref 160), some (.long x1), none] [] I L P
  ) ∧ ((lg_cmp x1 7102839) = 0 →
    zMv zm_X12_readLaw d [.ref 160] I L P (fun I70 L71 P72 =>
      gw_X12_readLine (d + 1) Q 72 [some (.ref 160), some (.long x1), none] [] I70 L71 P72
    )
  ))
set_option maxRecDepth 20000 in
theorem g_X12_readLine_60 {d : Nat} {Q : zQt} {x1 : Int64} {I : zI} {L : zL} {P : zP} (hP : zPk P) (hd : 1 ≤ d) (hv : v_X12_readLine_60 d Q x1 I L P) : gw_X12_readLine (d + 1) Q 60 [some (.ref 160), some (.long x1), none] [] I L P := by
  unfold v_X12_readLine_60 at hv
  refine z_lload_n dX12_readLine_60 rfl ?_
  refine z_ldc2 (v := 7102839) dX12_readLine_61 zj_X12_171 ?_
  refine z_lcmp dX12_readLine_64 ?_
  refine z_if_ne (tgt := 72) dX12_readLine_65 (by decide) (fun q69 => ?_) (fun q69 => ?_)
  · have hv := hv.1 q69
    exact hv
  · have hv := hv.2 q69
    refine z_aload_n dX12_readLine_68 rfl ?_
    refine z_callV (As := []) (st := []) dX12_readLine_69 zl_X12_285 zv_X12_readLaw (by decide) rfl zn_160 zo_160 rfl rfl (Nat.le_of_ble_eq_true rfl) ⟨Nat.le_refl _, Nat.le_refl _⟩ ⟨Nat.le_refl _, Nat.le_refl _⟩ hv (fun v1 I70 L71 P72 nx1 q73 => ?_)
    obtain ⟨rfl, rfl, hv⟩ := q73
    exact hv
abbrev v_X12_readLine_48 (d : Nat) (Q : zQt) (x1 : Int64) (I : zI) (L : zL) (P : zP) : Prop :=
  ((¬ (lg_cmp x1 422725643876) = 0 →
    gw_X12_readLine (d + 1) Q 60 [some (.ref 160), some (.long x1), none] [] I L P
  ) ∧ ((lg_cmp x1 422725643876) = 0 →
    zMv zm_X12_readBlind d [.ref 160] I L P (fun I64 L65 P66 =>
      gw_X12_readLine (d + 1) Q 60 [some (.ref 160), some (.long x1), none] [] I64 L65 P66
    )
  ))
set_option maxRecDepth 20000 in
theorem g_X12_readLine_48 {d : Nat} {Q : zQt} {x1 : Int64} {I : zI} {L : zL} {P : zP} (hP : zPk P) (hd : 1 ≤ d) (hv : v_X12_readLine_48 d Q x1 I L P) : gw_X12_readLine (d + 1) Q 48 [some (.ref 160), some (.long x1), none] [] I L P := by
  unfold v_X12_readLine_48 at hv
  refine z_lload_n dX12_readLine_48 rfl ?_
  refine z_ldc2 (v := 422725643876) dX12_readLine_49 zj_X12_169 ?_
  refine z_lcmp dX12_readLine_52 ?_
  refine z_if_ne (tgt := 60) dX12_readLine_53 (by decide) (fun q63 => ?_) (fun q63 => ?_)
  · have hv := hv.1 q63
    exact hv
  · have hv := hv.2 q63
    refine z_aload_n dX12_readLine_56 rfl ?_
    refine z_callV (As := []) (st := []) dX12_readLine_57 zl_X12_282 zv_X12_readBlind (by decide) rfl zn_160 zo_160 rfl rfl (Nat.le_of_ble_eq_true rfl) ⟨Nat.le_refl _, Nat.le_refl _⟩ ⟨Nat.le_refl _, Nat.le_refl _⟩ hv (fun v1 I64 L65 P66 nx1 q67 => ?_)
    obtain ⟨rfl, rfl, hv⟩ := q67
    exact hv
abbrev v_X12_readLine (d : Nat) (Q : zQt)  (I : zI) (L : zL) (P : zP) : Prop :=
  ((¬ (I 160 8) = 3 →
    zMv zm_X12_misplaced d [.ref 160] I L P (fun I2 L3 P4 =>
      zPk P4 ∧
      ((¬ (bP (I2 160 4 = 0)) = 0 →
        zMv zm_X12_goOn d [.ref 160] I2 L3 P4 (fun I11 L12 P13 =>
          ((¬ (lg_cmp (L 160 10) 7302757) = 0 →
            gw_X12_readLine (d + 1) Q 48 [some (.ref 160), some (.long (L 160 10)), none] [] I11 L12 P13
          ) ∧ ((lg_cmp (L 160 10) 7302757) = 0 →
            zMv zm_X12_readOne d [.ref 160] I11 L12 P13 (fun I17 L18 P19 =>
              gw_X12_readLine (d + 1) Q 48 [some (.ref 160), some (.long (L 160 10)), none] [] I17 L18 P19
            )
          ))
        )
      ) ∧ ((bP (I2 160 4 = 0)) = 0 →
        Q none I2 L3 P4 205
      ))
    )
  ) ∧ ((I 160 8) = 3 →
    zMi zm_X12_isFull d [.ref 160] I L P (fun r26 I22 L23 P24 =>
      ((r26 = 0 →
        zPk P24 ∧
        ((¬ (bP (I22 160 4 = 0)) = 0 →
          zMv zm_X12_goOn d [.ref 160] I22 L23 P24 (fun I32 L33 P34 =>
            ((¬ (lg_cmp (L 160 10) 7302757) = 0 →
              gw_X12_readLine (d + 1) Q 48 [some (.ref 160), some (.long (L 160 10)), none] [] I32 L33 P34
            ) ∧ ((lg_cmp (L 160 10) 7302757) = 0 →
              zMv zm_X12_readOne d [.ref 160] I32 L33 P34 (fun I38 L39 P40 =>
                gw_X12_readLine (d + 1) Q 48 [some (.ref 160), some (.long (L 160 10)), none] [] I38 L39 P40
              )
            ))
          )
        ) ∧ ((bP (I22 160 4 = 0)) = 0 →
          Q none I22 L23 P24 205
        ))
      ) ∧ (¬ r26 = 0 →
        zMv zm_X12_misplaced d [.ref 160] I22 L23 P24 (fun I43 L44 P45 =>
          zPk P45 ∧
          ((¬ (bP (I43 160 4 = 0)) = 0 →
            zMv zm_X12_goOn d [.ref 160] I43 L44 P45 (fun I52 L53 P54 =>
              ((¬ (lg_cmp (L 160 10) 7302757) = 0 →
                gw_X12_readLine (d + 1) Q 48 [some (.ref 160), some (.long (L 160 10)), none] [] I52 L53 P54
              ) ∧ ((lg_cmp (L 160 10) 7302757) = 0 →
                zMv zm_X12_readOne d [.ref 160] I52 L53 P54 (fun I58 L59 P60 =>
                  gw_X12_readLine (d + 1) Q 48 [some (.ref 160), some (.long (L 160 10)), none] [] I58 L59 P60
                )
              ))
            )
          ) ∧ ((bP (I43 160 4 = 0)) = 0 →
            Q none I43 L44 P45 205
          ))
        )
      ))
    )
  ))
set_option maxRecDepth 20000 in
theorem g_X12_readLine {d : Nat} {Q : zQt}  {I : zI} {L : zL} {P : zP} (hP : zPk P) (hd : 1 ≤ d) (hv : v_X12_readLine d Q  I L P) : zM zm_X12_readLine (d + 1) 0 0 [.ref 160] I L P 205 Q := by
  unfold v_X12_readLine at hv
  refine zM_of (lv0 := [some (.ref 160), none, none]) (by decide +kernel) (Nat.le_of_ble_eq_true rfl) rfl ?_
  refine z_aload_n dX12_readLine_0 rfl ?_
  refine z_getL dX12_readLine_1 zf_X12_212 zn_160 zo_160 (fun _ _ _ _ _ => rfl) ?_
  refine z_lstore_n (lv2 := [some (.ref 160), some (.long (L 160 10)), none]) dX12_readLine_4 (by decide) rfl rfl ?_
  refine z_aload_n dX12_readLine_5 rfl ?_
  refine z_getI dX12_readLine_6 zf_X12_205 zn_160 zo_160 (fun _ _ _ _ _ => rfl) ?_
  refine z_iconst (v := 3) dX12_readLine_9 (by decide) ?_
  refine z_icmp_ne (tgt := 20) dX12_readLine_10 (by decide) (fun q1 => ?_) (fun q1 => ?_)
  · have hv := hv.1 q1
    refine z_aload_n dX12_readLine_20 rfl ?_
    refine z_callV (As := []) (st := []) dX12_readLine_21 zl_X12_240 zv_X12_misplaced (by decide) rfl zn_160 zo_160 rfl rfl (Nat.le_of_ble_eq_true rfl) ⟨Nat.le_refl _, Nat.le_refl _⟩ ⟨Nat.le_refl _, Nat.le_refl _⟩ hv (fun v1 I2 L3 P4 nx1 q5 => ?_)
    obtain ⟨rfl, rfl, hv⟩ := q5
    refine z_aload_n dX12_readLine_24 rfl ?_
    obtain ⟨h7, hv⟩ := hv
    refine z_callV (As := []) (st := []) dX12_readLine_25 zl_X12_233 zv_X12_isGood (by decide) rfl zn_160 zo_160 rfl rfl (Nat.le_of_ble_eq_true rfl) ⟨Nat.le_refl _, Nat.le_refl _⟩ ⟨Nat.le_refl _, Nat.le_refl _⟩ (sp_X12_isGood h7 (K := fun r I' L' P' => bP (I2 160 4 = 0) = r ∧ I2 = I' ∧ L3 = L' ∧ P4 = P') ⟨rfl, rfl, rfl, rfl⟩) (fun v1 I2 L2 P2 nx1 q9 => ?_)
    obtain ⟨rfl, r8, rfl, rfl, rfl, rfl, rfl⟩ := q9
    refine z_if_ne (tgt := 32) dX12_readLine_28 (by decide) (fun q10 => ?_) (fun q10 => ?_)
    · have hv := hv.1 q10
      refine z_aload_n dX12_readLine_32 rfl ?_
      refine z_callV (As := []) (st := []) dX12_readLine_33 zl_X12_237 zv_X12_goOn (by decide) rfl zn_160 zo_160 rfl rfl (Nat.le_of_ble_eq_true rfl) ⟨Nat.le_refl _, Nat.le_refl _⟩ ⟨Nat.le_refl _, Nat.le_refl _⟩ hv (fun v1 I11 L12 P13 nx1 q14 => ?_)
      obtain ⟨rfl, rfl, hv⟩ := q14
      refine z_lload_n dX12_readLine_36 rfl ?_
      refine z_ldc2 (v := 7302757) dX12_readLine_37 zj_X12_161 ?_
      refine z_lcmp dX12_readLine_40 ?_
      refine z_if_ne (tgt := 48) dX12_readLine_41 (by decide) (fun q16 => ?_) (fun q16 => ?_)
      · have hv := hv.1 q16
        exact hv
      · have hv := hv.2 q16
        refine z_aload_n dX12_readLine_44 rfl ?_
        refine z_callV (As := []) (st := []) dX12_readLine_45 zl_X12_279 zv_X12_readOne (by decide) rfl zn_160 zo_160 rfl rfl (Nat.le_of_ble_eq_true rfl) ⟨Nat.le_refl _, Nat.le_refl _⟩ ⟨Nat.le_refl _, Nat.le_refl _⟩ hv (fun v1 I17 L18 P19 nx1 q20 => ?_)
        obtain ⟨rfl, rfl, hv⟩ := q20
        exact hv
    · have hv := hv.2 q10
      exact z_return dX12_readLine_31 rfl (Nat.le_refl _) (Nat.le_refl _) hv
  · have hv := hv.2 q1
    refine z_aload_n dX12_readLine_13 rfl ?_
    refine z_callV (As := []) (st := []) dX12_readLine_14 zl_X12_276 zv_X12_isFull (by decide) rfl zn_160 zo_160 rfl rfl (Nat.le_of_ble_eq_true rfl) ⟨Nat.le_refl _, Nat.le_refl _⟩ ⟨Nat.le_refl _, Nat.le_refl _⟩ hv (fun v1 I22 L23 P24 nx1 q25 => ?_)
    obtain ⟨rfl, r26, rfl, hv⟩ := q25
    refine z_if_eq (tgt := 24) dX12_readLine_17 (by decide) (fun q27 => ?_) (fun q27 => ?_)
    · have hv := hv.1 q27
      refine z_aload_n dX12_readLine_24 rfl ?_
      obtain ⟨h28, hv⟩ := hv
      refine z_callV (As := []) (st := []) dX12_readLine_25 zl_X12_233 zv_X12_isGood (by decide) rfl zn_160 zo_160 rfl rfl (Nat.le_of_ble_eq_true rfl) ⟨Nat.le_refl _, Nat.le_refl _⟩ ⟨Nat.le_refl _, Nat.le_refl _⟩ (sp_X12_isGood h28 (K := fun r I' L' P' => bP (I22 160 4 = 0) = r ∧ I22 = I' ∧ L23 = L' ∧ P24 = P') ⟨rfl, rfl, rfl, rfl⟩) (fun v1 I2 L2 P2 nx1 q30 => ?_)
      obtain ⟨rfl, r29, rfl, rfl, rfl, rfl, rfl⟩ := q30
      refine z_if_ne (tgt := 32) dX12_readLine_28 (by decide) (fun q31 => ?_) (fun q31 => ?_)
      · have hv := hv.1 q31
        refine z_aload_n dX12_readLine_32 rfl ?_
        refine z_callV (As := []) (st := []) dX12_readLine_33 zl_X12_237 zv_X12_goOn (by decide) rfl zn_160 zo_160 rfl rfl (Nat.le_of_ble_eq_true rfl) ⟨Nat.le_refl _, Nat.le_refl _⟩ ⟨Nat.le_refl _, Nat.le_refl _⟩ hv (fun v1 I32 L33 P34 nx1 q35 => ?_)
        obtain ⟨rfl, rfl, hv⟩ := q35
        refine z_lload_n dX12_readLine_36 rfl ?_
        refine z_ldc2 (v := 7302757) dX12_readLine_37 zj_X12_161 ?_
        refine z_lcmp dX12_readLine_40 ?_
        refine z_if_ne (tgt := 48) dX12_readLine_41 (by decide) (fun q37 => ?_) (fun q37 => ?_)
        · have hv := hv.1 q37
          exact hv
        · have hv := hv.2 q37
          refine z_aload_n dX12_readLine_44 rfl ?_
          refine z_callV (As := []) (st := []) dX12_readLine_45 zl_X12_279 zv_X12_readOne (by decide) rfl zn_160 zo_160 rfl rfl (Nat.le_of_ble_eq_true rfl) ⟨Nat.le_refl _, Nat.le_refl _⟩ ⟨Nat.le_refl _, Nat.le_refl _⟩ hv (fun v1 I38 L39 P40 nx1 q41 => ?_)
          obtain ⟨rfl, rfl, hv⟩ := q41
          exact hv
      · have hv := hv.2 q31
        exact z_return dX12_readLine_31 rfl (Nat.le_refl _) (Nat.le_refl _) hv
    · have hv := hv.2 q27
      refine z_aload_n dX12_readLine_20 rfl ?_
      refine z_callV (As := []) (st := []) dX12_readLine_21 zl_X12_240 zv_X12_misplaced (by decide) rfl zn_160 zo_160 rfl rfl (Nat.le_of_ble_eq_true rfl) ⟨Nat.le_refl _, Nat.le_refl _⟩ ⟨Nat.le_refl _, Nat.le_refl _⟩ hv (fun v1 I43 L44 P45 nx1 q46 => ?_)
      obtain ⟨rfl, rfl, hv⟩ := q46
      refine z_aload_n dX12_readLine_24 rfl ?_
      obtain ⟨h48, hv⟩ := hv
      refine z_callV (As := []) (st := []) dX12_readLine_25 zl_X12_233 zv_X12_isGood (by decide) rfl zn_160 zo_160 rfl rfl (Nat.le_of_ble_eq_true rfl) ⟨Nat.le_refl _, Nat.le_refl _⟩ ⟨Nat.le_refl _, Nat.le_refl _⟩ (sp_X12_isGood h48 (K := fun r I' L' P' => bP (I43 160 4 = 0) = r ∧ I43 = I' ∧ L44 = L' ∧ P45 = P') ⟨rfl, rfl, rfl, rfl⟩) (fun v1 I2 L2 P2 nx1 q50 => ?_)
      obtain ⟨rfl, r49, rfl, rfl, rfl, rfl, rfl⟩ := q50
      refine z_if_ne (tgt := 32) dX12_readLine_28 (by decide) (fun q51 => ?_) (fun q51 => ?_)
      · have hv := hv.1 q51
        refine z_aload_n dX12_readLine_32 rfl ?_
        refine z_callV (As := []) (st := []) dX12_readLine_33 zl_X12_237 zv_X12_goOn (by decide) rfl zn_160 zo_160 rfl rfl (Nat.le_of_ble_eq_true rfl) ⟨Nat.le_refl _, Nat.le_refl _⟩ ⟨Nat.le_refl _, Nat.le_refl _⟩ hv (fun v1 I52 L53 P54 nx1 q55 => ?_)
        obtain ⟨rfl, rfl, hv⟩ := q55
        refine z_lload_n dX12_readLine_36 rfl ?_
        refine z_ldc2 (v := 7302757) dX12_readLine_37 zj_X12_161 ?_
        refine z_lcmp dX12_readLine_40 ?_
        refine z_if_ne (tgt := 48) dX12_readLine_41 (by decide) (fun q57 => ?_) (fun q57 => ?_)
        · have hv := hv.1 q57
          exact hv
        · have hv := hv.2 q57
          refine z_aload_n dX12_readLine_44 rfl ?_
          refine z_callV (As := []) (st := []) dX12_readLine_45 zl_X12_279 zv_X12_readOne (by decide) rfl zn_160 zo_160 rfl rfl (Nat.le_of_ble_eq_true rfl) ⟨Nat.le_refl _, Nat.le_refl _⟩ ⟨Nat.le_refl _, Nat.le_refl _⟩ hv (fun v1 I58 L59 P60 nx1 q61 => ?_)
          obtain ⟨rfl, rfl, hv⟩ := q61
          exact hv
      · have hv := hv.2 q51
        exact z_return dX12_readLine_31 rfl (Nat.le_refl _) (Nat.le_refl _) hv
section RL
variable {d : Nat} {Q : zQt} {T : Nat → Int32} {n rb e : Nat} {I I0 : zI} {L L0 : zL} {P : zP} {A : Ai}
theorem lp_X12_readLine_84 (hP : zPk P) (hM : iM rb I L A) (hp : pS T n I L e) (h4 : I 160 4 = 0) (h5 : I 160 5 = I0 160 5) (hf : iFr rb I0 L0 I L) (hd : 2 ≤ d) (kk : lQ T n rb I0 L0 (fun I' L' => Q none I' L' P 205) (lSem T n (.inr (e, A)))) : gw_X12_readLine (d + 1) Q 84 [some (.ref 160), none, none] [] I L P := by
  obtain ⟨g1, g2⟩ := pS_g hp
  have a59 : (I 160 8 = 5 ∧ sSg I (I 160 6) = 59) ↔ tK T n e = 59 := g2 59 (by decide) (by decide)
  unfold lSem at kk
  refine g_X12_readLine_84 hP (by omega) ⟨g1, ?_⟩
  rw [bP_c a59]
  refine sp_X12_must hP h4 hp hd (fun z => ?_) (fun z I' L' f1 f2 f3 => ?_)
  · have kk : lQ T n rb I0 L0 (fun I' L' => Q none I' L' P 205) (@ite _ (tK T n e = 59) (Classical.propDecidable _) (.inr (tE T n e, A)) (lBad T n e)) := kk
    rw [if_neg z] at kk
    have v := pFt_v I (mis T n e) (tA T n e)
    exact kk _ L (mis_nz T n e) (iFr_ft hf) v.1 v.2 (pS_p (pS_fr hp (pFt_fr _ _ _) (by decide) (by decide) (by decide) (by decide) (by decide) (by decide) rfl))
  · have kk : lQ T n rb I0 L0 (fun I' L' => Q none I' L' P 205) (@ite _ (tK T n e = 59) (Classical.propDecidable _) (.inr (tE T n e, A)) (lBad T n e)) := kk
    rw [if_pos z] at kk
    exact kk I' L' (iM_go hM f1 f2) f3 (by rw [f1.2 4 (by decide)]; exact h4) (by rw [f1.2 5 (by decide)]; exact h5) (iFr_go hf f1 f2)
theorem lp_X12_readLine_84b {k q : Nat} (hP : zPk P) (hp : pSg I (I 160 6)) (hk : k ≠ 0 ∧ k < 100) (h4 : I 160 4 = nI k) (h5 : I 160 5 = nI q) (hf : iFr rb I0 L0 I L) (hd : 2 ≤ d) (kk : lQ T n rb I0 L0 (fun I' L' => Q none I' L' P 205) (.inl (k, q))) : gw_X12_readLine (d + 1) Q 84 [some (.ref 160), none, none] [] I L P := by
  have hz : ¬ I 160 4 = 0 := by rw [h4, nI_zero (by omega)]; exact hk.1
  exact g_X12_readLine_84 hP (by omega) ⟨fun _ => hp, sp_X12_mustB hP hz hd (kk I L hk hf h4 h5 hp)⟩
/-- what is wanted at 84 of a part's answer -/
theorem to84 (hP : zPk P) (hd : 2 ≤ d) {l : Ln} (kk : lQ T n rb I0 L0 (fun I' L' => Q none I' L' P 205) (lSem T n l)) : lQ T n rb I0 L0 (fun I' L' => gw_X12_readLine (d + 1) Q 84 [some (.ref 160), none, none] [] I' L' P) l := by
  match l with
  | .inl (k, q) => exact fun I' L' hk hf h4 h5 h6 => lp_X12_readLine_84b hP h6 hk h4 h5 hf hd kk
  | .inr (e, A) => exact fun I' L' hM hp h4 h5 hf => lp_X12_readLine_84 hP hM hp h4 h5 hf hd kk
theorem pass72 {x : Int64} (hP : zPk P) (hd : 1 ≤ d) (hx : x ≠ 126862485974631) (k : gw_X12_readLine (d + 1) Q 84 [some (.ref 160), none, none] [] I L P) : gw_X12_readLine (d + 1) Q 72 [some (.ref 160), some (.long x), none] [] I L P := by
  refine g_X12_readLine_72 hP (by omega) ⟨fun _ => k, fun q => absurd (lg_cmp_eq _ _ |>.mp q) hx⟩
theorem pass60 {x : Int64} (hP : zPk P) (hd : 1 ≤ d) (hx : x ≠ 7102839) (k : gw_X12_readLine (d + 1) Q 72 [some (.ref 160), some (.long x), none] [] I L P) : gw_X12_readLine (d + 1) Q 60 [some (.ref 160), some (.long x), none] [] I L P := by
  refine g_X12_readLine_60 hP (by omega) ⟨fun _ => k, fun q => absurd (lg_cmp_eq _ _ |>.mp q) hx⟩
theorem pass48 {x : Int64} (hP : zPk P) (hd : 1 ≤ d) (hx : x ≠ 422725643876) (k : gw_X12_readLine (d + 1) Q 60 [some (.ref 160), some (.long x), none] [] I L P) : gw_X12_readLine (d + 1) Q 48 [some (.ref 160), some (.long x), none] [] I L P := by
  refine g_X12_readLine_48 hP (by omega) ⟨fun _ => k, fun q => absurd (lg_cmp_eq _ _ |>.mp q) hx⟩
end RL
