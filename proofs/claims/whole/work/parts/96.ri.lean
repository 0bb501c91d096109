/-! ===== the class: blinds, law, sayings ===== -/
section LN2
variable {d : Nat} {Q : zQt} {T : Nat → Int32} {n t e : Nat} {I I0 : zI} {L L0 : zL} {P : zP} {A : Ai}
abbrev gw_X5_readBlind (d : Nat) (Q : zQt) (pc : Nat) (lv : zV) (st : List Value) (I : zI) (L : zL) (P : zP) : Prop := zW zm_X5_readBlind (zRm d 0 0) 0 0 Q pc lv st I L P 205 0 0
abbrev v_X5_readBlind_75 (d : Nat) (Q : zQt)  (I : zI) (L : zL) (P : zP) : Prop :=
  zMv zm_X5_advance d [.ref 17] I L P (fun I118 L119 P120 =>
    Q none I118 L119 P120 205
  )
set_option maxRecDepth 20000 in
theorem g_X5_readBlind_75 {d : Nat} {Q : zQt}  {I : zI} {L : zL} {P : zP} (hP : zPk P) (hv : v_X5_readBlind_75 d Q  I L P) : gw_X5_readBlind (d + 1) Q 75 [some (.ref 17), none, none] [] I L P := by
  unfold v_X5_readBlind_75 at hv
  refine z_aload_n dX5_readBlind_75 rfl ?_
  refine z_callV (As := []) (st := []) dX5_readBlind_76 zl_X5_101 zv_X5_advance (by decide) rfl zn_17 zo_17 rfl rfl (Nat.le_of_ble_eq_true rfl) ⟨Nat.le_refl _, Nat.le_refl _⟩ ⟨Nat.le_refl _, Nat.le_refl _⟩ hv (fun v1 I118 L119 P120 nx1 q121 => ?_)
  obtain ⟨rfl, rfl, hv⟩ := q121
  exact z_return dX5_readBlind_79 rfl (Nat.le_refl _) (Nat.le_refl _) hv
abbrev v_X5_readBlind (d : Nat) (Q : zQt)  (I : zI) (L : zL) (P : zP) : Prop :=
  ∃ b1 : Nat, P 17 3 = some b1 ∧
  (b1 < 205 ∧ (zsh b1).1 = 2) ∧
  (((I b1 3) < 30 →
    zMv zm_X5_advance d [.ref 17] I L P (fun I5 L6 P7 =>
      zMi zm_X5_readName d [.ref 17] I5 L6 P7 (fun r14 I10 L11 P12 =>
        zMv zm_X5_advance d [.ref 17] I10 L11 P12 (fun I15 L16 P17 =>
          zMi zm_X5_readName d [.ref 17] I15 L16 P17 (fun r24 I20 L21 P22 =>
            ((¬ (I20 17 0) = 0 →
              gw_X5_readBlind (d + 1) Q 75 [some (.ref 17), none, none] [] I20 L21 P22
            ) ∧ ((I20 17 0) = 0 →
              ∃ b27 : Nat, P22 17 3 = some b27 ∧
              (b27 < 205 ∧ (zsh b27).1 = 2) ∧
              zMi zm_X2_canBlind d [.ref b27, .int r14, .int r24] I20 L21 P22 (fun r34 I30 L31 P32 =>
                ((¬ r34 = 0 →
                  ((¬ (I30 17 0) = 0 →
                    gw_X5_readBlind (d + 1) Q 75 [some (.ref 17), none, none] [] I30 L31 P32
                  ) ∧ ((I30 17 0) = 0 →
                    ∃ b37 : Nat, P32 17 3 = some b37 ∧
                    (b37 < 205 ∧ (zsh b37).1 = 2) ∧
                    zMv zm_X2_addBlind d [.ref b37, .int r14, .int r24] I30 L31 P32 (fun I40 L41 P42 =>
                      gw_X5_readBlind (d + 1) Q 75 [some (.ref 17), none, none] [] I40 L41 P42
                    )
                  ))
                ) ∧ (r34 = 0 →
                  zMv zm_X5_fail d [.ref 17, .int 3] I30 L31 P32 (fun I45 L46 P47 =>
                    ((¬ (I45 17 0) = 0 →
                      gw_X5_readBlind (d + 1) Q 75 [some (.ref 17), none, none] [] I45 L46 P47
                    ) ∧ ((I45 17 0) = 0 →
                      ∃ b51 : Nat, P47 17 3 = some b51 ∧
                      (b51 < 205 ∧ (zsh b51).1 = 2) ∧
                      zMv zm_X2_addBlind d [.ref b51, .int r14, .int r24] I45 L46 P47 (fun I54 L55 P56 =>
                        gw_X5_readBlind (d + 1) Q 75 [some (.ref 17), none, none] [] I54 L55 P56
                      )
                    ))
                  )
                ))
              )
            ))
          )
        )
      )
    )
  ) ∧ (¬ (I b1 3) < 30 →
    zMv zm_X5_fail d [.ref 17, .int 2] I L P (fun I59 L60 P61 =>
      zMv zm_X5_advance d [.ref 17] I59 L60 P61 (fun I64 L65 P66 =>
        zMi zm_X5_readName d [.ref 17] I64 L65 P66 (fun r73 I69 L70 P71 =>
          zMv zm_X5_advance d [.ref 17] I69 L70 P71 (fun I74 L75 P76 =>
            zMi zm_X5_readName d [.ref 17] I74 L75 P76 (fun r83 I79 L80 P81 =>
              ((¬ (I79 17 0) = 0 →
                gw_X5_readBlind (d + 1) Q 75 [some (.ref 17), none, none] [] I79 L80 P81
              ) ∧ ((I79 17 0) = 0 →
                ∃ b86 : Nat, P81 17 3 = some b86 ∧
                (b86 < 205 ∧ (zsh b86).1 = 2) ∧
                zMi zm_X2_canBlind d [.ref b86, .int r73, .int r83] I79 L80 P81 (fun r93 I89 L90 P91 =>
                  ((¬ r93 = 0 →
                    ((¬ (I89 17 0) = 0 →
                      gw_X5_readBlind (d + 1) Q 75 [some (.ref 17), none, none] [] I89 L90 P91
                    ) ∧ ((I89 17 0) = 0 →
                      ∃ b96 : Nat, P91 17 3 = some b96 ∧
                      (b96 < 205 ∧ (zsh b96).1 = 2) ∧
                      zMv zm_X2_addBlind d [.ref b96, .int r73, .int r83] I89 L90 P91 (fun I99 L100 P101 =>
                        gw_X5_readBlind (d + 1) Q 75 [some (.ref 17), none, none] [] I99 L100 P101
                      )
                    ))
                  ) ∧ (r93 = 0 →
                    zMv zm_X5_fail d [.ref 17, .int 3] I89 L90 P91 (fun I104 L105 P106 =>
                      ((¬ (I104 17 0) = 0 →
                        gw_X5_readBlind (d + 1) Q 75 [some (.ref 17), none, none] [] I104 L105 P106
                      ) ∧ ((I104 17 0) = 0 →
                        ∃ b110 : Nat, P106 17 3 = some b110 ∧
                        (b110 < 205 ∧ (zsh b110).1 = 2) ∧
                        zMv zm_X2_addBlind d [.ref b110, .int r73, .int r83] I104 L105 P106 (fun I113 L114 P115 =>
                          gw_X5_readBlind (d + 1) Q 75 [some (.ref 17), none, none] [] I113 L114 P115
                        )
                      ))
                    )
                  ))
                )
              ))
            )
          )
        )
      )
    )
  ))
set_option maxRecDepth 20000 in
theorem g_X5_readBlind {d : Nat} {Q : zQt}  {I : zI} {L : zL} {P : zP} (hP : zPk P) (hv : v_X5_readBlind d Q  I L P) : zM zm_X5_readBlind (d + 1) 0 0 [.ref 17] I L P 205 Q := by
  unfold v_X5_readBlind at hv
  refine zM_of (lv0 := [some (.ref 17), none, none]) (by decide +kernel) (Nat.le_of_ble_eq_true rfl) rfl ?_
  refine z_aload_n dX5_readBlind_0 rfl ?_
  obtain ⟨b1, h2, hv⟩ := hv
  refine z_getP dX5_readBlind_1 zf_X5_41 zn_17 zo_17 (fun _ _ _ _ _ => rfl) h2 ?_
  obtain ⟨h3, hv⟩ := hv
  refine z_getI dX5_readBlind_4 zf_X5_132 h3.1 h3.2 (fun _ _ _ _ _ => rfl) ?_
  refine z_bipush (v := 30) dX5_readBlind_7 (by decide) ?_
  refine z_icmp_lt (tgt := 17) dX5_readBlind_9 (by decide) (fun q4 => ?_) (fun q4 => ?_)
  · have hv := hv.1 q4
    refine z_aload_n dX5_readBlind_17 rfl ?_
    refine z_callV (As := []) (st := []) dX5_readBlind_18 zl_X5_101 zv_X5_advance (by decide) rfl zn_17 zo_17 rfl rfl (Nat.le_of_ble_eq_true rfl) ⟨Nat.le_refl _, Nat.le_refl _⟩ ⟨Nat.le_refl _, Nat.le_refl _⟩ hv (fun v1 I5 L6 P7 nx1 q8 => ?_)
    obtain ⟨rfl, rfl, hv⟩ := q8
    refine z_aload_n dX5_readBlind_21 rfl ?_
    refine z_callV (As := []) (st := []) dX5_readBlind_22 zl_X5_135 zv_X5_readName (by decide) rfl zn_17 zo_17 rfl rfl (Nat.le_of_ble_eq_true rfl) ⟨Nat.le_refl _, Nat.le_refl _⟩ ⟨Nat.le_refl _, Nat.le_refl _⟩ hv (fun v1 I10 L11 P12 nx1 q13 => ?_)
    obtain ⟨rfl, r14, rfl, hv⟩ := q13
    refine z_istore_n (lv2 := [some (.ref 17), some (.int r14), none]) dX5_readBlind_25 (by decide) rfl rfl ?_
    refine z_aload_n dX5_readBlind_26 rfl ?_
    refine z_callV (As := []) (st := []) dX5_readBlind_27 zl_X5_101 zv_X5_advance (by decide) rfl zn_17 zo_17 rfl rfl (Nat.le_of_ble_eq_true rfl) ⟨Nat.le_refl _, Nat.le_refl _⟩ ⟨Nat.le_refl _, Nat.le_refl _⟩ hv (fun v1 I15 L16 P17 nx1 q18 => ?_)
    obtain ⟨rfl, rfl, hv⟩ := q18
    refine z_aload_n dX5_readBlind_30 rfl ?_
    refine z_callV (As := []) (st := []) dX5_readBlind_31 zl_X5_135 zv_X5_readName (by decide) rfl zn_17 zo_17 rfl rfl (Nat.le_of_ble_eq_true rfl) ⟨Nat.le_refl _, Nat.le_refl _⟩ ⟨Nat.le_refl _, Nat.le_refl _⟩ hv (fun v1 I20 L21 P22 nx1 q23 => ?_)
    obtain ⟨rfl, r24, rfl, hv⟩ := q23
    refine z_istore_n (lv2 := [some (.ref 17), some (.int r14), some (.int r24)]) dX5_readBlind_34 (by decide) rfl rfl ?_
    refine z_aload_n dX5_readBlind_35 rfl ?_
    refine z_getI dX5_readBlind_36 zf_X5_9 zn_17 zo_17 (fun _ _ _ _ _ => rfl) ?_
    refine z_if_ne (tgt := 59) dX5_readBlind_39 (by decide) (fun q25 => ?_) (fun q25 => ?_)
    · have hv := hv.1 q25
      refine z_aload_n dX5_readBlind_59 rfl ?_
      refine z_getI dX5_readBlind_60 zf_X5_9 zn_17 zo_17 (fun _ _ _ _ _ => rfl) ?_
      refine z_if_ne (tgt := 75) dX5_readBlind_63 (by decide) (fun q26 => ?_) (fun q26 => ?_)
      · skip
        exact z_sub (by exact ⟨rfl, trivial⟩) hv
      · exact absurd q26 q25
    · have hv := hv.2 q25
      refine z_aload_n dX5_readBlind_42 rfl ?_
      obtain ⟨b27, h28, hv⟩ := hv
      refine z_getP dX5_readBlind_43 zf_X5_41 zn_17 zo_17 (fun _ _ _ _ _ => rfl) h28 ?_
      refine z_iload_n dX5_readBlind_46 rfl ?_
      refine z_iload_n dX5_readBlind_47 rfl ?_
      obtain ⟨h29, hv⟩ := hv
      refine z_callV (As := [.int r14, .int r24]) (st := []) dX5_readBlind_48 zl_X5_139 zv_X2_canBlind (by decide) rfl h29.1 h29.2 rfl rfl (Nat.le_of_ble_eq_true rfl) ⟨Nat.le_refl _, Nat.le_refl _⟩ ⟨Nat.le_refl _, Nat.le_refl _⟩ hv (fun v1 I30 L31 P32 nx1 q33 => ?_)
      obtain ⟨rfl, r34, rfl, hv⟩ := q33
      refine z_if_ne (tgt := 59) dX5_readBlind_51 (by decide) (fun q35 => ?_) (fun q35 => ?_)
      · have hv := hv.1 q35
        refine z_aload_n dX5_readBlind_59 rfl ?_
        refine z_getI dX5_readBlind_60 zf_X5_9 zn_17 zo_17 (fun _ _ _ _ _ => rfl) ?_
        refine z_if_ne (tgt := 75) dX5_readBlind_63 (by decide) (fun q36 => ?_) (fun q36 => ?_)
        · have hv := hv.1 q36
          exact z_sub (by exact ⟨rfl, trivial⟩) hv
        · have hv := hv.2 q36
          refine z_aload_n dX5_readBlind_66 rfl ?_
          obtain ⟨b37, h38, hv⟩ := hv
          refine z_getP dX5_readBlind_67 zf_X5_41 zn_17 zo_17 (fun _ _ _ _ _ => rfl) h38 ?_
          refine z_iload_n dX5_readBlind_70 rfl ?_
          refine z_iload_n dX5_readBlind_71 rfl ?_
          obtain ⟨h39, hv⟩ := hv
          refine z_callV (As := [.int r14, .int r24]) (st := []) dX5_readBlind_72 zl_X5_143 zv_X2_addBlind (by decide) rfl h39.1 h39.2 rfl rfl (Nat.le_of_ble_eq_true rfl) ⟨Nat.le_refl _, Nat.le_refl _⟩ ⟨Nat.le_refl _, Nat.le_refl _⟩ hv (fun v1 I40 L41 P42 nx1 q43 => ?_)
          obtain ⟨rfl, rfl, hv⟩ := q43
          exact z_sub (by exact ⟨rfl, trivial⟩) hv
      · have hv := hv.2 q35
        refine z_aload_n dX5_readBlind_54 rfl ?_
        refine z_iconst (v := 3) dX5_readBlind_55 (by decide) ?_
        refine z_callV (As := [.int 3]) (st := []) dX5_readBlind_56 zl_X5_73 zv_X5_fail (by decide) rfl zn_17 zo_17 rfl rfl (Nat.le_of_ble_eq_true rfl) ⟨Nat.le_refl _, Nat.le_refl _⟩ ⟨Nat.le_refl _, Nat.le_refl _⟩ hv (fun v1 I45 L46 P47 nx1 q48 => ?_)
        obtain ⟨rfl, rfl, hv⟩ := q48
        refine z_aload_n dX5_readBlind_59 rfl ?_
        refine z_getI dX5_readBlind_60 zf_X5_9 zn_17 zo_17 (fun _ _ _ _ _ => rfl) ?_
        refine z_if_ne (tgt := 75) dX5_readBlind_63 (by decide) (fun q50 => ?_) (fun q50 => ?_)
        · have hv := hv.1 q50
          exact z_sub (by exact ⟨rfl, trivial⟩) hv
        · have hv := hv.2 q50
          refine z_aload_n dX5_readBlind_66 rfl ?_
          obtain ⟨b51, h52, hv⟩ := hv
          refine z_getP dX5_readBlind_67 zf_X5_41 zn_17 zo_17 (fun _ _ _ _ _ => rfl) h52 ?_
          refine z_iload_n dX5_readBlind_70 rfl ?_
          refine z_iload_n dX5_readBlind_71 rfl ?_
          obtain ⟨h53, hv⟩ := hv
          refine z_callV (As := [.int r14, .int r24]) (st := []) dX5_readBlind_72 zl_X5_143 zv_X2_addBlind (by decide) rfl h53.1 h53.2 rfl rfl (Nat.le_of_ble_eq_true rfl) ⟨Nat.le_refl _, Nat.le_refl _⟩ ⟨Nat.le_refl _, Nat.le_refl _⟩ hv (fun v1 I54 L55 P56 nx1 q57 => ?_)
          obtain ⟨rfl, rfl, hv⟩ := q57
          exact z_sub (by exact ⟨rfl, trivial⟩) hv
  · have hv := hv.2 q4
    refine z_aload_n dX5_readBlind_12 rfl ?_
    refine z_iconst (v := 2) dX5_readBlind_13 (by decide) ?_
    refine z_callV (As := [.int 2]) (st := []) dX5_readBlind_14 zl_X5_73 zv_X5_fail (by decide) rfl zn_17 zo_17 rfl rfl (Nat.le_of_ble_eq_true rfl) ⟨Nat.le_refl _, Nat.le_refl _⟩ ⟨Nat.le_refl _, Nat.le_refl _⟩ hv (fun v1 I59 L60 P61 nx1 q62 => ?_)
    obtain ⟨rfl, rfl, hv⟩ := q62
    refine z_aload_n dX5_readBlind_17 rfl ?_
    refine z_callV (As := []) (st := []) dX5_readBlind_18 zl_X5_101 zv_X5_advance (by decide) rfl zn_17 zo_17 rfl rfl (Nat.le_of_ble_eq_true rfl) ⟨Nat.le_refl _, Nat.le_refl _⟩ ⟨Nat.le_refl _, Nat.le_refl _⟩ hv (fun v1 I64 L65 P66 nx1 q67 => ?_)
    obtain ⟨rfl, rfl, hv⟩ := q67
    refine z_aload_n dX5_readBlind_21 rfl ?_
    refine z_callV (As := []) (st := []) dX5_readBlind_22 zl_X5_135 zv_X5_readName (by decide) rfl zn_17 zo_17 rfl rfl (Nat.le_of_ble_eq_true rfl) ⟨Nat.le_refl _, Nat.le_refl _⟩ ⟨Nat.le_refl _, Nat.le_refl _⟩ hv (fun v1 I69 L70 P71 nx1 q72 => ?_)
    obtain ⟨rfl, r73, rfl, hv⟩ := q72
    refine z_istore_n (lv2 := [some (.ref 17), some (.int r73), none]) dX5_readBlind_25 (by decide) rfl rfl ?_
    refine z_aload_n dX5_readBlind_26 rfl ?_
    refine z_callV (As := []) (st := []) dX5_readBlind_27 zl_X5_101 zv_X5_advance (by decide) rfl zn_17 zo_17 rfl rfl (Nat.le_of_ble_eq_true rfl) ⟨Nat.le_refl _, Nat.le_refl _⟩ ⟨Nat.le_refl _, Nat.le_refl _⟩ hv (fun v1 I74 L75 P76 nx1 q77 => ?_)
    obtain ⟨rfl, rfl, hv⟩ := q77
    refine z_aload_n dX5_readBlind_30 rfl ?_
    refine z_callV (As := []) (st := []) dX5_readBlind_31 zl_X5_135 zv_X5_readName (by decide) rfl zn_17 zo_17 rfl rfl (Nat.le_of_ble_eq_true rfl) ⟨Nat.le_refl _, Nat.le_refl _⟩ ⟨Nat.le_refl _, Nat.le_refl _⟩ hv (fun v1 I79 L80 P81 nx1 q82 => ?_)
    obtain ⟨rfl, r83, rfl, hv⟩ := q82
    refine z_istore_n (lv2 := [some (.ref 17), some (.int r73), some (.int r83)]) dX5_readBlind_34 (by decide) rfl rfl ?_
    refine z_aload_n dX5_readBlind_35 rfl ?_
    refine z_getI dX5_readBlind_36 zf_X5_9 zn_17 zo_17 (fun _ _ _ _ _ => rfl) ?_
    refine z_if_ne (tgt := 59) dX5_readBlind_39 (by decide) (fun q84 => ?_) (fun q84 => ?_)
    · have hv := hv.1 q84
      refine z_aload_n dX5_readBlind_59 rfl ?_
      refine z_getI dX5_readBlind_60 zf_X5_9 zn_17 zo_17 (fun _ _ _ _ _ => rfl) ?_
      refine z_if_ne (tgt := 75) dX5_readBlind_63 (by decide) (fun q85 => ?_) (fun q85 => ?_)
      · skip
        exact z_sub (by exact ⟨rfl, trivial⟩) hv
      · exact absurd q85 q84
    · have hv := hv.2 q84
      refine z_aload_n dX5_readBlind_42 rfl ?_
      obtain ⟨b86, h87, hv⟩ := hv
      refine z_getP dX5_readBlind_43 zf_X5_41 zn_17 zo_17 (fun _ _ _ _ _ => rfl) h87 ?_
      refine z_iload_n dX5_readBlind_46 rfl ?_
      refine z_iload_n dX5_readBlind_47 rfl ?_
      obtain ⟨h88, hv⟩ := hv
      refine z_callV (As := [.int r73, .int r83]) (st := []) dX5_readBlind_48 zl_X5_139 zv_X2_canBlind (by decide) rfl h88.1 h88.2 rfl rfl (Nat.le_of_ble_eq_true rfl) ⟨Nat.le_refl _, Nat.le_refl _⟩ ⟨Nat.le_refl _, Nat.le_refl _⟩ hv (fun v1 I89 L90 P91 nx1 q92 => ?_)
      obtain ⟨rfl, r93, rfl, hv⟩ := q92
      refine z_if_ne (tgt := 59) dX5_readBlind_51 (by decide) (fun q94 => ?_) (fun q94 => ?_)
      · have hv := hv.1 q94
        refine z_aload_n dX5_readBlind_59 rfl ?_
        refine z_getI dX5_readBlind_60 zf_X5_9 zn_17 zo_17 (fun _ _ _ _ _ => rfl) ?_
        refine z_if_ne (tgt := 75) dX5_readBlind_63 (by decide) (fun q95 => ?_) (fun q95 => ?_)
        · have hv := hv.1 q95
          exact z_sub (by exact ⟨rfl, trivial⟩) hv
        · have hv := hv.2 q95
          refine z_aload_n dX5_readBlind_66 rfl ?_
          obtain ⟨b96, h97, hv⟩ := hv
          refine z_getP dX5_readBlind_67 zf_X5_41 zn_17 zo_17 (fun _ _ _ _ _ => rfl) h97 ?_
          refine z_iload_n dX5_readBlind_70 rfl ?_
          refine z_iload_n dX5_readBlind_71 rfl ?_
          obtain ⟨h98, hv⟩ := hv
          refine z_callV (As := [.int r73, .int r83]) (st := []) dX5_readBlind_72 zl_X5_143 zv_X2_addBlind (by decide) rfl h98.1 h98.2 rfl rfl (Nat.le_of_ble_eq_true rfl) ⟨Nat.le_refl _, Nat.le_refl _⟩ ⟨Nat.le_refl _, Nat.le_refl _⟩ hv (fun v1 I99 L100 P101 nx1 q102 => ?_)
          obtain ⟨rfl, rfl, hv⟩ := q102
          exact z_sub (by exact ⟨rfl, trivial⟩) hv
      · have hv := hv.2 q94
        refine z_aload_n dX5_readBlind_54 rfl ?_
        refine z_iconst (v := 3) dX5_readBlind_55 (by decide) ?_
        refine z_callV (As := [.int 3]) (st := []) dX5_readBlind_56 zl_X5_73 zv_X5_fail (by decide) rfl zn_17 zo_17 rfl rfl (Nat.le_of_ble_eq_true rfl) ⟨Nat.le_refl _, Nat.le_refl _⟩ ⟨Nat.le_refl _, Nat.le_refl _⟩ hv (fun v1 I104 L105 P106 nx1 q107 => ?_)
        obtain ⟨rfl, rfl, hv⟩ := q107
        refine z_aload_n dX5_readBlind_59 rfl ?_
        refine z_getI dX5_readBlind_60 zf_X5_9 zn_17 zo_17 (fun _ _ _ _ _ => rfl) ?_
        refine z_if_ne (tgt := 75) dX5_readBlind_63 (by decide) (fun q109 => ?_) (fun q109 => ?_)
        · have hv := hv.1 q109
          exact z_sub (by exact ⟨rfl, trivial⟩) hv
        · have hv := hv.2 q109
          refine z_aload_n dX5_readBlind_66 rfl ?_
          obtain ⟨b110, h111, hv⟩ := hv
          refine z_getP dX5_readBlind_67 zf_X5_41 zn_17 zo_17 (fun _ _ _ _ _ => rfl) h111 ?_
          refine z_iload_n dX5_readBlind_70 rfl ?_
          refine z_iload_n dX5_readBlind_71 rfl ?_
          obtain ⟨h112, hv⟩ := hv
          refine z_callV (As := [.int r73, .int r83]) (st := []) dX5_readBlind_72 zl_X5_143 zv_X2_addBlind (by decide) rfl h112.1 h112.2 rfl rfl (Nat.le_of_ble_eq_true rfl) ⟨Nat.le_refl _, Nat.le_refl _⟩ ⟨Nat.le_refl _, Nat.le_refl _⟩ hv (fun v1 I113 L114 P115 nx1 q116 => ?_)
          obtain ⟨rfl, rfl, hv⟩ := q116
          exact z_sub (by exact ⟨rfl, trivial⟩) hv
theorem bl75 {A' : Ai} (hP : zPk P) (hR : cPr P t) (h : cLs T n t I0 L0 I L A' e) (hk : tK T n e = 273) (hd : 1 ≤ d) (kk : cW T n t I0 L0 (fun I' L' => Q none I' L' P 205) (.inr (tE T n e, A'))) : gw_X5_readBlind (d + 1) Q 75 [some (.ref 17), none, none] [] I L P :=
  g_X5_readBlind_75 hP (sp_X5_advance hP h.2.1 (by omega) hd (fun I' a b => kk I' L (cLs_m hR.2.2 h a b)))
theorem bl75B {k p : Nat} (hP : zPk P) (h : rB k p I) (hd : 1 ≤ d) (kk : Q none I L P 205) : gw_X5_readBlind (d + 1) Q 75 [some (.ref 17), none, none] [] I L P :=
  g_X5_readBlind_75 hP (sp_X5_advanceB hP h hd kk)
theorem sp_X5_readBlind (hP : zPk P) (hR : cPr P t) (h : cLs T n t I0 L0 I L A e) (hk : tK T n e = 260) (hd : 3 ≤ d) {K : zI → zL → zP → Prop}
    (kk : cW T n t I0 L0 (fun I' L' => K I' L' P) (@ite _ (aFull A 260) (Classical.propDecidable _) (lBad T n e) (lBl T n A (tE T n e)))) : zMv zm_X5_readBlind d [.ref 17] I L P K := by
  obtain ⟨d, rfl⟩ : ∃ e, d = e + 1 := ⟨d - 1, by omega⟩
  have ht := hR.2.2
  have r1 := hR.1
  have b1 := (il_P ht hP).1
  have h3 := h.1.2.2.2.1
  have ef : aFull A 260 ↔ A.1 2 = 30 := Iff.rfl
  have en := cI_nm h.1
  have nmE : ∀ v, nfD (L (t + 1)) v (A.1 0) 0 = aNm A v := fun v => congrFun en v
  refine g_X5_readBlind hP ⟨t, r1, b1, fun q => ?_, fun q => ?_⟩
  · rw [h3.2, show (30 : Int32) = nI 30 from rfl, nI_ltI (by omega) (by decide)] at q
    rw [if_neg (by rw [ef]; omega)] at kk
    refine sp_X5_advance hP h.2.1 (by omega) (by omega) (fun I1 f1 f2 => ?_)
    have h1 := cLs_m ht h f1 f2
    unfold lBl at kk
    -- a fault at the first name
    have bad1 : ∀ q : Nat × Nat, cW T n t I0 L0 (fun I' L' => K I' L' P) (.inl q) → ∀ I2, rF0 I1 I2 → rB q.1 q.2 I2 → (∀ (x : Int32) (R : Int32 → zI → zL → zP → Prop), (∀ y, R y I2 L P) → zMv zm_X5_advance d [.ref 17] I2 L P (fun I15 L16 P17 => zMi zm_X5_readName d [.ref 17] I15 L16 P17 R)) := fun q _ I2 _ g2 x R hR => sp_X5_advanceB hP g2 (by omega) (sp_X5_readNameB hP g2 (by omega) (hR _))
    refine sp_X5_readName hP f2 r1 (cI_H ht h1.1) (by omega) (fun z I2 g1 g2 => ?_) (fun z z2 I2 g1 g2 => ?_) (fun z a z2 z3 => ?_)
    · rw [if_neg z] at kk
      refine sp_X5_advanceB hP g2 (by omega) (sp_X5_readNameB hP g2 (by omega) ⟨fun _ => bl75B hP g2 (by omega) (qv (cLs_bad (q := (mis T n (tE T n e), tA T n (tE T n e))) h1 g1 g2 kk)), fun y => absurd y (rB_n g2)⟩)
    · rw [nmE] at z2
      rw [if_pos z, z2] at kk
      refine sp_X5_advanceB hP g2 (by omega) (sp_X5_readNameB hP g2 (by omega) ⟨fun _ => bl75B hP g2 (by omega) (qv (cLs_bad (q := (4, tA T n (tE T n e))) h1 g1 g2 kk)), fun y => absurd y (rB_n g2)⟩)
    · rw [nmE] at z2
      rw [if_pos z, z2] at kk
      refine sp_X5_advance hP f2 (by omega) (by omega) (fun I2 f3 f4 => ?_)
      have h2 := cLs_m ht h1 f3 f4
      have kk : cW T n t I0 L0 (fun I' L' => K I' L' P) (@ite _ (tK T n (tE T n (tE T n e)) = 273) (Classical.propDecidable _)
          (match aNm A (tV T n (tE T n (tE T n e))) with
            | none => .inl (4, tA T n (tE T n (tE T n e)))
            | some b => @ite _ (a = b ∨ (A.1 (10 + a)).testBit b = false) (Classical.propDecidable _) (.inl (3, tA T n (tE T n (tE T n e)))) (.inr (tE T n (tE T n (tE T n e)), aBl A a b)))
          (lBad T n (tE T n (tE T n e)))) := kk
      refine sp_X5_readName hP f4 r1 (cI_H ht h2.1) (by omega) (fun y I3 g1 g2 => ?_) (fun y y2 I3 g1 g2 => ?_) (fun y b y2 y3 => ?_)
      · rw [if_neg y] at kk
        exact ⟨fun _ => bl75B hP g2 (by omega) (qv (cLs_bad (q := (mis T n (tE T n (tE T n e)), tA T n (tE T n (tE T n e)))) h2 g1 g2 kk)), fun y => absurd y (rB_n g2)⟩
      · rw [nmE] at y2
        rw [if_pos y, y2] at kk
        exact ⟨fun _ => bl75B hP g2 (by omega) (qv (cLs_bad (q := (4, tA T n (tE T n (tE T n e)))) h2 g1 g2 kk)), fun y => absurd y (rB_n g2)⟩
      · rw [nmE] at y2
        rw [if_pos y, y2] at kk
        have kk : cW T n t I0 L0 (fun I' L' => K I' L' P) (@ite _ (a = b ∨ (A.1 (10 + a)).testBit b = false) (Classical.propDecidable _) (.inl (3, tA T n (tE T n (tE T n e)))) (.inr (tE T n (tE T n (tE T n e)), aBl A a b))) := kk
        have e0 := rG_0 f4
        refine ⟨fun x => absurd e0 x, fun _ => ⟨t, r1, b1, sp_X2_canBlind hP ht h2.1 z3 y3 (by omega) (fun x => ⟨fun w => absurd rfl w, fun _ => ?_⟩) (fun x => ⟨fun _ => ⟨fun w => absurd e0 w, fun _ => ⟨t, r1, b1, ?_⟩⟩, fun w => absurd w (by decide)⟩)⟩⟩
        · rw [if_pos x] at kk
          refine sp_X5_fail (k := 3) hP f4 (by decide) (by omega) (fun I3 g1 g2 => ?_)
          have e3 : fk T n (tE T n (tE T n e)) 3 = 3 := if_neg (by omega)
          rw [e3] at g2
          exact ⟨fun _ => bl75B hP g2 (by omega) (qv (cLs_bad (q := (3, tA T n (tE T n (tE T n e)))) h2 g1 g2 kk)), fun w => absurd w (rB_n g2)⟩
        · rw [if_neg x] at kk
          refine sp_X2_addBlind hP ht h2.1 z3 y3 (by omega) (by omega) (fun I3 g1 g2 => ?_)
          exact bl75 hP hR (cLs_i ht h2 g1 (cFr_wk g2 (by simp)) (fun _ _ => rfl)) y (by omega) (fun I' L' hh => qv (kk I' L' hh))
  · rw [h3.2, show (30 : Int32) = nI 30 from rfl, nI_ltI (by omega) (by decide)] at q
    rw [if_pos (by rw [ef]; omega)] at kk
    refine sp_X5_fail (k := 2) hP h.2.1 (by decide) (by omega) (fun I2 g1 g2 => sp_X5_advanceB hP g2 (by omega) (sp_X5_readNameB hP g2 (by omega) (sp_X5_advanceB hP g2 (by omega) (sp_X5_readNameB hP g2 (by omega) ⟨fun _ => bl75B hP g2 (by omega) (qv (cLs_bad (q := (mis T n e, tA T n e)) h g1 g2 kk)), fun y => absurd y (rB_n g2)⟩))))
/-- the law is told -/
theorem cI_lw (ht : il t) (h : cI t I L A) (h5 : A.1 5 = 0) : cI t (zuI I t 6 1) L (aU (aU A 6 0) 5 1) := by
  obtain ⟨h0, h1, h2, h3, h4, h5', h6, hk, hc, hs⟩ := h
  unfold il at ht
  have o : ∀ j, j ≠ 5 → j ≠ 6 → (aU (aU A 6 0) 5 1).1 j = A.1 j := fun j hj hj' => by rw [aU_o hj, aU_o hj']
  have o6 : (aU (aU A 6 0) 5 1).1 6 = 0 := by rw [aU_o (by decide), aU_v]
  have e1 : ∀ j, j ≠ 6 → (zuI I t 6 1) t j = I t j := fun j hj => zuI_o hj
  have e2 : ∀ a, a ≠ t → (zuI I t 6 1) a = I a := fun a ha => zuI_ne ha
  unfold cI
  rw [o 0 (by decide) (by decide), o 1 (by decide) (by decide), o 2 (by decide) (by decide), o 3 (by decide) (by decide), o 4 (by decide) (by decide), aU_v, o6, zuI_v, e1 0 (by decide), e1 1 (by decide), e1 2 (by decide), e1 3 (by decide), e1 4 (by decide), e1 7 (by decide), e2 17 (by omega), e2 (t + 2) (by omega), e2 (t + 3) (by omega), e2 (t + 5) (by omega), o (30 + A.1 3) (by omega) (by omega), o 30 (by omega) (by omega)]
  refine ⟨h0, h1, ?_, h3, h4, ⟨by decide, rfl⟩, ⟨by decide, by rw [h6.2.1, h6.2.2 h5], fun _ => rfl⟩, fun k hk' => ?_, hc, fun i hi => ?_⟩
  · obtain ⟨s, a, b, c⟩ := h2
    exact ⟨s, a, b, fun k hk' => by rw [o _ (by omega) (by omega)]; exact c k hk'⟩
  · rw [o _ (by omega) (by omega)]; exact hk k hk'
  · rw [o _ (by omega) (by omega), o _ (by omega) (by omega)]
    obtain ⟨a, b, c, d', f⟩ := hs i hi
    exact ⟨a, b, c, d', cT_c f (fun j _ => by rw [e2 (t + 3 + 1) (by omega)])⟩
theorem cI_ow (ht : il t) (h : cI t I L (aU (aU A 6 0) 5 1)) : cI t (zuI I t 7 1) L (aU (aU A 6 1) 5 1) := by
  obtain ⟨h0, h1, h2, h3, h4, h5', h6, hk, hc, hs⟩ := h
  unfold il at ht
  have o : ∀ j, j ≠ 6 → (aU (aU A 6 1) 5 1).1 j = (aU (aU A 6 0) 5 1).1 j := fun j hj => by
    by_cases c : j = 5
    · rw [c, aU_v, aU_v]
    · rw [aU_o c, aU_o hj, aU_o c, aU_o hj]
  have o6 : (aU (aU A 6 1) 5 1).1 6 = 1 := by rw [aU_o (by decide), aU_v]
  have e1 : ∀ j, j ≠ 7 → (zuI I t 7 1) t j = I t j := fun j hj => zuI_o hj
  have e2 : ∀ a, a ≠ t → (zuI I t 7 1) a = I a := fun a ha => zuI_ne ha
  unfold cI
  rw [o 0 (by decide), o 1 (by decide), o 2 (by decide), o 3 (by decide), o 4 (by decide), o 5 (by decide), o6, zuI_v, e1 0 (by decide), e1 1 (by decide), e1 2 (by decide), e1 3 (by decide), e1 4 (by decide), e1 6 (by decide), e2 17 (by omega), e2 (t + 2) (by omega), e2 (t + 3) (by omega), e2 (t + 5) (by omega)]
  refine ⟨h0, h1, ?_, h3, h4, h5', ⟨by decide, rfl, fun z => ?_⟩, fun k hk' => ?_, ?_, fun i hi => ?_⟩
  · obtain ⟨s, a, b, c⟩ := h2
    exact ⟨s, a, b, fun k hk' => by rw [o _ (by omega)]; exact c k hk'⟩
  · rw [aU_v] at z; cases z
  · rw [o _ (by omega)]; exact hk k hk'
  · rw [o _ (by omega), o 30 (by decide)]; exact hc
  · rw [o _ (by omega), o _ (by omega), o _ (by omega)]
    obtain ⟨a, b, c, d', f⟩ := hs i hi
    exact ⟨a, b, c, d', cT_c f (fun j _ => by rw [e2 (t + 3 + 1) (by omega)])⟩
abbrev gw_X5_readLaw (d : Nat) (Q : zQt) (pc : Nat) (lv : zV) (st : List Value) (I : zI) (L : zL) (P : zP) : Prop := zW zm_X5_readLaw (zRm d 0 0) 0 0 Q pc lv st I L P 205 0 0
abbrev v_X5_readLaw (d : Nat) (Q : zQt)  (I : zI) (L : zL) (P : zP) : Prop :=
  ∃ b1 : Nat, P 17 3 = some b1 ∧
  (b1 < 205 ∧ (zsh b1).1 = 2) ∧
  (((I b1 6) = 0 →
    ∀ I5 : zI, I5 = zuI I b1 6 1 →
    zMv zm_X5_advance d [.ref 17] I5 L P (fun I7 L8 P9 =>
      zMi zm_X5_accept d [.ref 17, .int 263] I7 L8 P9 (fun r16 I12 L13 P14 =>
        ((r16 = 0 →
          zMv zm_X5_expect d [.ref 17, .int 262] I12 L13 P14 (fun I18 L19 P20 =>
            Q none I18 L19 P20 205
          )
        ) ∧ (¬ r16 = 0 →
          ∃ b23 : Nat, P14 17 3 = some b23 ∧
          (b23 < 205 ∧ (zsh b23).1 = 2) ∧
          ∀ I26 : zI, I26 = zuI I12 b23 7 1 →
          Q none I26 L13 P14 205
        ))
      )
    )
  ) ∧ (¬ (I b1 6) = 0 →
    zMv zm_X5_fail d [.ref 17, .int 2] I L P (fun I28 L29 P30 =>
      ∃ b33 : Nat, P30 17 3 = some b33 ∧
      (b33 < 205 ∧ (zsh b33).1 = 2) ∧
      ∀ I36 : zI, I36 = zuI I28 b33 6 1 →
      zMv zm_X5_advance d [.ref 17] I36 L29 P30 (fun I38 L39 P40 =>
        zMi zm_X5_accept d [.ref 17, .int 263] I38 L39 P40 (fun r47 I43 L44 P45 =>
          ((r47 = 0 →
            zMv zm_X5_expect d [.ref 17, .int 262] I43 L44 P45 (fun I49 L50 P51 =>
              Q none I49 L50 P51 205
            )
          ) ∧ (¬ r47 = 0 →
            ∃ b54 : Nat, P45 17 3 = some b54 ∧
            (b54 < 205 ∧ (zsh b54).1 = 2) ∧
            ∀ I57 : zI, I57 = zuI I43 b54 7 1 →
            Q none I57 L44 P45 205
          ))
        )
      )
    )
  ))
set_option maxRecDepth 20000 in
theorem g_X5_readLaw {d : Nat} {Q : zQt}  {I : zI} {L : zL} {P : zP} (hP : zPk P) (hv : v_X5_readLaw d Q  I L P) : zM zm_X5_readLaw (d + 1) 0 0 [.ref 17] I L P 205 Q := by
  unfold v_X5_readLaw at hv
  refine zM_of (lv0 := [some (.ref 17)]) (by decide +kernel) (Nat.le_of_ble_eq_true rfl) rfl ?_
  refine z_aload_n dX5_readLaw_0 rfl ?_
  obtain ⟨b1, h2, hv⟩ := hv
  refine z_getP dX5_readLaw_1 zf_X5_41 zn_17 zo_17 (fun _ _ _ _ _ => rfl) h2 ?_
  obtain ⟨h3, hv⟩ := hv
  refine z_getI dX5_readLaw_4 zf_X5_146 h3.1 h3.2 (fun _ _ _ _ _ => rfl) ?_
  refine z_if_eq (tgt := 15) dX5_readLaw_7 (by decide) (fun q4 => ?_) (fun q4 => ?_)
  · have hv := hv.1 q4
    refine z_aload_n dX5_readLaw_15 rfl ?_
    refine z_getP dX5_readLaw_16 zf_X5_41 zn_17 zo_17 (fun _ _ _ _ _ => rfl) h2 ?_
    refine z_iconst (v := 1) dX5_readLaw_19 (by decide) ?_
    refine z_putI dX5_readLaw_20 zf_X5_146 h3.1 h3.2 (Or.inl rfl) (fun _ _ _ _ _ => rfl) (by decide) (by decide) (z_nmI (fun I5 e6 => ?_))
    have hv := hv I5 e6
    refine z_aload_n dX5_readLaw_23 rfl ?_
    refine z_callV (As := []) (st := []) dX5_readLaw_24 zl_X5_101 zv_X5_advance (by decide) rfl zn_17 zo_17 rfl rfl (Nat.le_of_ble_eq_true rfl) ⟨Nat.le_refl _, Nat.le_refl _⟩ ⟨Nat.le_refl _, Nat.le_refl _⟩ hv (fun v1 I7 L8 P9 nx1 q10 => ?_)
    obtain ⟨rfl, rfl, hv⟩ := q10
    refine z_aload_n dX5_readLaw_27 rfl ?_
    refine z_sipush (v := 263) dX5_readLaw_28 (by decide) ?_
    refine z_callV (As := [.int 263]) (st := []) dX5_readLaw_31 zl_X5_119 zv_X5_accept (by decide) rfl zn_17 zo_17 rfl rfl (Nat.le_of_ble_eq_true rfl) ⟨Nat.le_refl _, Nat.le_refl _⟩ ⟨Nat.le_refl _, Nat.le_refl _⟩ hv (fun v1 I12 L13 P14 nx1 q15 => ?_)
    obtain ⟨rfl, r16, rfl, hv⟩ := q15
    refine z_if_eq (tgt := 48) dX5_readLaw_34 (by decide) (fun q17 => ?_) (fun q17 => ?_)
    · have hv := hv.1 q17
      refine z_aload_n dX5_readLaw_48 rfl ?_
      refine z_sipush (v := 262) dX5_readLaw_49 (by decide) ?_
      refine z_callV (As := [.int 262]) (st := []) dX5_readLaw_52 zl_X5_77 zv_X5_expect (by decide) rfl zn_17 zo_17 rfl rfl (Nat.le_of_ble_eq_true rfl) ⟨Nat.le_refl _, Nat.le_refl _⟩ ⟨Nat.le_refl _, Nat.le_refl _⟩ hv (fun v1 I18 L19 P20 nx1 q21 => ?_)
      obtain ⟨rfl, rfl, hv⟩ := q21
      exact z_return dX5_readLaw_55 rfl (Nat.le_refl _) (Nat.le_refl _) hv
    · have hv := hv.2 q17
      refine z_aload_n dX5_readLaw_37 rfl ?_
      obtain ⟨b23, h24, hv⟩ := hv
      refine z_getP dX5_readLaw_38 zf_X5_41 zn_17 zo_17 (fun _ _ _ _ _ => rfl) h24 ?_
      refine z_iconst (v := 1) dX5_readLaw_41 (by decide) ?_
      obtain ⟨h25, hv⟩ := hv
      refine z_putI dX5_readLaw_42 zf_X5_150 h25.1 h25.2 (Or.inl rfl) (fun _ _ _ _ _ => rfl) (by decide) (by decide) (z_nmI (fun I26 e27 => ?_))
      have hv := hv I26 e27
      refine z_goto (tgt := 55) dX5_readLaw_45 (by decide) ?_
      exact z_return dX5_readLaw_55 rfl (Nat.le_refl _) (Nat.le_refl _) hv
  · have hv := hv.2 q4
    refine z_aload_n dX5_readLaw_10 rfl ?_
    refine z_iconst (v := 2) dX5_readLaw_11 (by decide) ?_
    refine z_callV (As := [.int 2]) (st := []) dX5_readLaw_12 zl_X5_73 zv_X5_fail (by decide) rfl zn_17 zo_17 rfl rfl (Nat.le_of_ble_eq_true rfl) ⟨Nat.le_refl _, Nat.le_refl _⟩ ⟨Nat.le_refl _, Nat.le_refl _⟩ hv (fun v1 I28 L29 P30 nx1 q31 => ?_)
    obtain ⟨rfl, rfl, hv⟩ := q31
    refine z_aload_n dX5_readLaw_15 rfl ?_
    obtain ⟨b33, h34, hv⟩ := hv
    refine z_getP dX5_readLaw_16 zf_X5_41 zn_17 zo_17 (fun _ _ _ _ _ => rfl) h34 ?_
    refine z_iconst (v := 1) dX5_readLaw_19 (by decide) ?_
    obtain ⟨h35, hv⟩ := hv
    refine z_putI dX5_readLaw_20 zf_X5_146 h35.1 h35.2 (Or.inl rfl) (fun _ _ _ _ _ => rfl) (by decide) (by decide) (z_nmI (fun I36 e37 => ?_))
    have hv := hv I36 e37
    refine z_aload_n dX5_readLaw_23 rfl ?_
    refine z_callV (As := []) (st := []) dX5_readLaw_24 zl_X5_101 zv_X5_advance (by decide) rfl zn_17 zo_17 rfl rfl (Nat.le_of_ble_eq_true rfl) ⟨Nat.le_refl _, Nat.le_refl _⟩ ⟨Nat.le_refl _, Nat.le_refl _⟩ hv (fun v1 I38 L39 P40 nx1 q41 => ?_)
    obtain ⟨rfl, rfl, hv⟩ := q41
    refine z_aload_n dX5_readLaw_27 rfl ?_
    refine z_sipush (v := 263) dX5_readLaw_28 (by decide) ?_
    refine z_callV (As := [.int 263]) (st := []) dX5_readLaw_31 zl_X5_119 zv_X5_accept (by decide) rfl zn_17 zo_17 rfl rfl (Nat.le_of_ble_eq_true rfl) ⟨Nat.le_refl _, Nat.le_refl _⟩ ⟨Nat.le_refl _, Nat.le_refl _⟩ hv (fun v1 I43 L44 P45 nx1 q46 => ?_)
    obtain ⟨rfl, r47, rfl, hv⟩ := q46
    refine z_if_eq (tgt := 48) dX5_readLaw_34 (by decide) (fun q48 => ?_) (fun q48 => ?_)
    · have hv := hv.1 q48
      refine z_aload_n dX5_readLaw_48 rfl ?_
      refine z_sipush (v := 262) dX5_readLaw_49 (by decide) ?_
      refine z_callV (As := [.int 262]) (st := []) dX5_readLaw_52 zl_X5_77 zv_X5_expect (by decide) rfl zn_17 zo_17 rfl rfl (Nat.le_of_ble_eq_true rfl) ⟨Nat.le_refl _, Nat.le_refl _⟩ ⟨Nat.le_refl _, Nat.le_refl _⟩ hv (fun v1 I49 L50 P51 nx1 q52 => ?_)
      obtain ⟨rfl, rfl, hv⟩ := q52
      exact z_return dX5_readLaw_55 rfl (Nat.le_refl _) (Nat.le_refl _) hv
    · have hv := hv.2 q48
      refine z_aload_n dX5_readLaw_37 rfl ?_
      obtain ⟨b54, h55, hv⟩ := hv
      refine z_getP dX5_readLaw_38 zf_X5_41 zn_17 zo_17 (fun _ _ _ _ _ => rfl) h55 ?_
      refine z_iconst (v := 1) dX5_readLaw_41 (by decide) ?_
      obtain ⟨h56, hv⟩ := hv
      refine z_putI dX5_readLaw_42 zf_X5_150 h56.1 h56.2 (Or.inl rfl) (fun _ _ _ _ _ => rfl) (by decide) (by decide) (z_nmI (fun I57 e58 => ?_))
      have hv := hv I57 e58
      refine z_goto (tgt := 55) dX5_readLaw_45 (by decide) ?_
      exact z_return dX5_readLaw_55 rfl (Nat.le_refl _) (Nat.le_refl _) hv
theorem sp_X5_readLaw (hP : zPk P) (hR : cPr P t) (h : cLs T n t I0 L0 I L A e) (hk : tK T n e = 261) (hd : 3 ≤ d) {K : zI → zL → zP → Prop}
    (kk : cW T n t I0 L0 (fun I' L' => K I' L' P) (@ite _ (aFull A 261) (Classical.propDecidable _) (lBad T n e) (lLaw T n A (tE T n e)))) : zMv zm_X5_readLaw d [.ref 17] I L P K := by
  obtain ⟨d, rfl⟩ : ∃ e, d = e + 1 := ⟨d - 1, by omega⟩
  have ht := hR.2.2
  have r1 := hR.1
  have b1 := (il_P ht hP).1
  have hil := ht
  unfold il at hil
  have h5 := h.1.2.2.2.2.2.1
  have ef : aFull A 261 ↔ A.1 5 ≠ 0 := Iff.rfl
  refine g_X5_readLaw hP ⟨t, r1, b1, fun q I5 e5 => ?_, fun q => ?_⟩
  · rw [h5.2, nI_zero (by omega)] at q
    rw [if_neg (fun z => (ef.mp z) q)] at kk
    have h1 : cLs T n t I0 L0 I5 L (aU (aU A 6 0) 5 1) e := cLs_i ht h (by rw [e5]; exact cI_lw ht h.1 q) (by rw [e5]; exact cFr_c (cFr_rf _ _) (by simp)) (fun _ _ => rfl)
    refine sp_X5_advance hP h1.2.1 (by omega) (by omega) (fun I1 f1 f2 => ?_)
    have h2 := cLs_m ht h1 f1 f2
    unfold lLaw at kk
    refine sp_X5_accept (w := 263) hP f2 (by decide) (by omega) (fun z => ⟨fun _ => ?_, fun y => absurd rfl y⟩) (fun z I2 g1 g2 => ⟨fun y => absurd y (by decide), fun _ => ⟨t, r1, b1, fun I3 e3 => qv ?_⟩⟩)
    · refine sp_X5_expect (w := 262) hP f2 (by decide) (by omega) (fun y I2 g1 g2 => ?_) (fun y I2 g1 g2 => ?_)
      · rw [if_neg (by omega)] at kk
        exact qv (cLs_bad (q := (mis T n (tE T n e), tA T n (tE T n e))) h2 g1 g2 kk)
      · rw [if_pos (Or.inl y), if_neg z] at kk
        exact qv (kk I2 L (cLs_m ht h2 g1 g2))
    · rw [if_pos (Or.inr z), if_pos z] at kk
      have h3 := cLs_m ht h2 g1 g2
      exact kk I3 L (cLs_i ht h3 (by rw [e3]; exact cI_ow ht h3.1) (by rw [e3]; exact cFr_c (cFr_rf _ _) (by simp)) (fun _ _ => rfl))
  · rw [h5.2, nI_zero (by omega)] at q
    rw [if_pos (ef.mpr q)] at kk
    refine sp_X5_fail (k := 2) hP h.2.1 (by decide) (by omega) (fun I2 g1 g2 => ⟨t, r1, b1, fun I3 e3 => ?_⟩)
    have g3 : rB (mis T n e) (tA T n e) I3 := rB_c g2 (by rw [e3, zuI_ne (by omega)])
    refine sp_X5_advanceB hP g3 (by omega) (sp_X5_acceptB (w := 263) hP g3 (by decide) (by omega) ⟨fun _ => sp_X5_expectB (w := 262) hP g3 (by decide) (by omega) (qv (kk I3 L ?_ h.2.2.2.2 g3)), fun y => absurd rfl y⟩)
    rw [e3]
    exact cFi_u (cFi_m h.2.2.2.1 g1.1 (by simp)) (by simp)
end LN2
