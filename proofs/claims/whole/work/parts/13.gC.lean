abbrev gw_X5_readIsland (d : Nat) (Q : zQt) (pc : Nat) (lv : zV) (st : List Value) (I : zI) (L : zL) (P : zP) : Prop := zW zm_X5_readIsland (zRm d 0 0) 0 0 Q pc lv st I L P 205 0 0
def v_X5_readIsland_17 (d : Nat) (Q : zQt) (p1 : Nat) (x2 : Int32) (I : zI) (L : zL) (P : zP) : Prop :=
  ((1600 ≤ x2 →
    (p1 < 205 ∧ (zsh p1).1 = 2) ∧
    ∀ I15 : zI, I15 = zuI I p1 5 (I 17 6) →
    ((¬ (I15 17 0) = 0 →
      Q (some (.int 0)) I15 L P 205
    ) ∧ ((I15 17 0) = 0 →
      Q (some (.int 1)) I15 L P 205
    ))
  ) ∧ (¬ 1600 ≤ x2 →
    (((I 17 8) = 275 →
      (p1 < 205 ∧ (zsh p1).1 = 2) ∧
      ∀ I19 : zI, I19 = zuI I p1 5 (I 17 6) →
      ((¬ (I19 17 0) = 0 →
        Q (some (.int 0)) I19 L P 205
      ) ∧ ((I19 17 0) = 0 →
        Q (some (.int 1)) I19 L P 205
      ))
    ) ∧ (¬ (I 17 8) = 275 →
      ((¬ (I 17 0) = 0 →
        (p1 < 205 ∧ (zsh p1).1 = 2) ∧
        ∀ I23 : zI, I23 = zuI I p1 5 (I 17 6) →
        ((¬ (I23 17 0) = 0 →
          Q (some (.int 0)) I23 L P 205
        ) ∧ ((I23 17 0) = 0 →
          Q (some (.int 1)) I23 L P 205
        ))
      ) ∧ ((I 17 0) = 0 →
        ((I 17 8) = 256 →
          zMv zm_X5_readPerson d [.ref 17] I L P (fun I26 L27 P28 =>
            zMv zm_X5_expect d [.ref 17, .int 59] I26 L27 P28 (fun I31 L32 P33 =>
              gw_X5_readIsland (d + 1) Q 17 [some (.ref 17), some (.ref p1), some (.int (x2 + 1))] [] I31 L32 P33
            )
          )
        ) ∧
        ((I 17 8) = 260 →
          zMv zm_X5_readBlind d [.ref 17] I L P (fun I36 L37 P38 =>
            zMv zm_X5_expect d [.ref 17, .int 59] I36 L37 P38 (fun I41 L42 P43 =>
              gw_X5_readIsland (d + 1) Q 17 [some (.ref 17), some (.ref p1), some (.int (x2 + 1))] [] I41 L42 P43
            )
          )
        ) ∧
        ((I 17 8) = 261 →
          zMv zm_X5_readLaw d [.ref 17] I L P (fun I46 L47 P48 =>
            zMv zm_X5_expect d [.ref 17, .int 59] I46 L47 P48 (fun I51 L52 P53 =>
              gw_X5_readIsland (d + 1) Q 17 [some (.ref 17), some (.ref p1), some (.int (x2 + 1))] [] I51 L52 P53
            )
          )
        ) ∧
        ((I 17 8) = 264 →
          zMv zm_X5_readSaying d [.ref 17] I L P (fun I56 L57 P58 =>
            zMv zm_X5_expect d [.ref 17, .int 59] I56 L57 P58 (fun I61 L62 P63 =>
              gw_X5_readIsland (d + 1) Q 17 [some (.ref 17), some (.ref p1), some (.int (x2 + 1))] [] I61 L62 P63
            )
          )
        ) ∧
        (¬ (I 17 8) = 256 → ¬ (I 17 8) = 260 → ¬ (I 17 8) = 261 → ¬ (I 17 8) = 264 →
          zMv zm_X5_fail d [.ref 17, .int 2] I L P (fun I66 L67 P68 =>
            zMv zm_X5_expect d [.ref 17, .int 59] I66 L67 P68 (fun I71 L72 P73 =>
              gw_X5_readIsland (d + 1) Q 17 [some (.ref 17), some (.ref p1), some (.int (x2 + 1))] [] I71 L72 P73
            )
          )
        )
      ))
    ))
  ))
set_option maxRecDepth 20000 in
theorem g_X5_readIsland_17 {d : Nat} {Q : zQt} {p1 : Nat} {x2 : Int32} {I : zI} {L : zL} {P : zP} (hP : zPk P) (hv : v_X5_readIsland_17 d Q p1 x2 I L P) : gw_X5_readIsland (d + 1) Q 17 [some (.ref 17), some (.ref p1), some (.int x2)] [] I L P := by
  unfold v_X5_readIsland_17 at hv
  refine z_iload_n dX5_readIsland_17 rfl ?_
  refine z_sipush (v := 1600) dX5_readIsland_18 (by decide) ?_
  refine z_icmp_ge (tgt := 141) dX5_readIsland_21 (by decide) (fun q87 => ?_) (fun q87 => ?_)
  · have hv := hv.1 q87
    refine z_aload_n dX5_readIsland_141 rfl ?_
    refine z_aload_n dX5_readIsland_142 rfl ?_
    refine z_getI dX5_readIsland_143 zf_X5_21 zn_17 zo_17 (fun _ _ _ _ _ => rfl) ?_
    obtain ⟨h14, hv⟩ := hv
    refine z_putI dX5_readIsland_146 zf_X5_80 h14.1 h14.2 (Or.inl rfl) (fun _ _ _ _ _ => rfl) rfl rfl (z_nmI (fun I15 e16 => ?_))
    have hv := hv I15 e16
    refine z_aload_n dX5_readIsland_149 rfl ?_
    refine z_getI dX5_readIsland_150 zf_X5_9 zn_17 zo_17 (fun _ _ _ _ _ => rfl) ?_
    refine z_if_ne (tgt := 160) dX5_readIsland_153 (by decide) (fun q17 => ?_) (fun q17 => ?_)
    · have hv := hv.1 q17
      refine z_iconst (v := 0) dX5_readIsland_160 (by decide) ?_
      exact z_ireturn dX5_readIsland_161 rfl (by decide) (Nat.le_refl _) (Nat.le_refl _) hv
    · have hv := hv.2 q17
      refine z_iconst (v := 1) dX5_readIsland_156 (by decide) ?_
      refine z_goto (tgt := 161) dX5_readIsland_157 (by decide) ?_
      exact z_ireturn dX5_readIsland_161 rfl (by decide) (Nat.le_refl _) (Nat.le_refl _) hv
  · have hv := hv.2 q87
    refine z_aload_n dX5_readIsland_24 rfl ?_
    refine z_getI dX5_readIsland_25 zf_X5_29 zn_17 zo_17 (fun _ _ _ _ _ => rfl) ?_
    refine z_sipush (v := 275) dX5_readIsland_28 (by decide) ?_
    refine z_icmp_eq (tgt := 141) dX5_readIsland_31 (by decide) (fun q86 => ?_) (fun q86 => ?_)
    · have hv := hv.1 q86
      refine z_aload_n dX5_readIsland_141 rfl ?_
      refine z_aload_n dX5_readIsland_142 rfl ?_
      refine z_getI dX5_readIsland_143 zf_X5_21 zn_17 zo_17 (fun _ _ _ _ _ => rfl) ?_
      obtain ⟨h18, hv⟩ := hv
      refine z_putI dX5_readIsland_146 zf_X5_80 h18.1 h18.2 (Or.inl rfl) (fun _ _ _ _ _ => rfl) rfl rfl (z_nmI (fun I19 e20 => ?_))
      have hv := hv I19 e20
      refine z_aload_n dX5_readIsland_149 rfl ?_
      refine z_getI dX5_readIsland_150 zf_X5_9 zn_17 zo_17 (fun _ _ _ _ _ => rfl) ?_
      refine z_if_ne (tgt := 160) dX5_readIsland_153 (by decide) (fun q21 => ?_) (fun q21 => ?_)
      · have hv := hv.1 q21
        refine z_iconst (v := 0) dX5_readIsland_160 (by decide) ?_
        exact z_ireturn dX5_readIsland_161 rfl (by decide) (Nat.le_refl _) (Nat.le_refl _) hv
      · have hv := hv.2 q21
        refine z_iconst (v := 1) dX5_readIsland_156 (by decide) ?_
        refine z_goto (tgt := 161) dX5_readIsland_157 (by decide) ?_
        exact z_ireturn dX5_readIsland_161 rfl (by decide) (Nat.le_refl _) (Nat.le_refl _) hv
    · have hv := hv.2 q86
      refine z_aload_n dX5_readIsland_34 rfl ?_
      refine z_getI dX5_readIsland_35 zf_X5_9 zn_17 zo_17 (fun _ _ _ _ _ => rfl) ?_
      refine z_if_ne (tgt := 141) dX5_readIsland_38 (by decide) (fun q85 => ?_) (fun q85 => ?_)
      · have hv := hv.1 q85
        refine z_aload_n dX5_readIsland_141 rfl ?_
        refine z_aload_n dX5_readIsland_142 rfl ?_
        refine z_getI dX5_readIsland_143 zf_X5_21 zn_17 zo_17 (fun _ _ _ _ _ => rfl) ?_
        obtain ⟨h22, hv⟩ := hv
        refine z_putI dX5_readIsland_146 zf_X5_80 h22.1 h22.2 (Or.inl rfl) (fun _ _ _ _ _ => rfl) rfl rfl (z_nmI (fun I23 e24 => ?_))
        have hv := hv I23 e24
        refine z_aload_n dX5_readIsland_149 rfl ?_
        refine z_getI dX5_readIsland_150 zf_X5_9 zn_17 zo_17 (fun _ _ _ _ _ => rfl) ?_
        refine z_if_ne (tgt := 160) dX5_readIsland_153 (by decide) (fun q25 => ?_) (fun q25 => ?_)
        · have hv := hv.1 q25
          refine z_iconst (v := 0) dX5_readIsland_160 (by decide) ?_
          exact z_ireturn dX5_readIsland_161 rfl (by decide) (Nat.le_refl _) (Nat.le_refl _) hv
        · have hv := hv.2 q25
          refine z_iconst (v := 1) dX5_readIsland_156 (by decide) ?_
          refine z_goto (tgt := 161) dX5_readIsland_157 (by decide) ?_
          exact z_ireturn dX5_readIsland_161 rfl (by decide) (Nat.le_refl _) (Nat.le_refl _) hv
      · have hv := hv.2 q85
        refine z_aload_n dX5_readIsland_41 rfl ?_
        refine z_getI dX5_readIsland_42 zf_X5_29 zn_17 zo_17 (fun _ _ _ _ _ => rfl) ?_
        by_cases q76 : (I 17 8) = 256
        · have hv := hv.1 q76
          refine z_tableIn (off := 51) (tgt := 96) dX5_readIsland_45 (by rw [q76]; decide) (by rw [q76]; decide) (by rw [q76]; decide) (by decide) ?_
          refine z_aload_n dX5_readIsland_96 rfl ?_
          refine z_callV (As := []) (st := []) dX5_readIsland_97 zl_X5_61 zv_X5_readPerson (by decide) rfl zn_17 zo_17 rfl rfl (Nat.le_of_ble_eq_true rfl) ⟨Nat.le_refl _, Nat.le_refl _⟩ ⟨Nat.le_refl _, Nat.le_refl _⟩ hv (fun v1 I26 L27 P28 nx1 q29 => ?_)
          obtain ⟨rfl, rfl, hv⟩ := q29
          refine z_goto (tgt := 129) dX5_readIsland_100 (by decide) ?_
          refine z_aload_n dX5_readIsland_129 rfl ?_
          refine z_bipush (v := 59) dX5_readIsland_130 (by decide) ?_
          refine z_callV (As := [.int 59]) (st := []) dX5_readIsland_132 zl_X5_77 zv_X5_expect (by decide) rfl zn_17 zo_17 rfl rfl (Nat.le_of_ble_eq_true rfl) ⟨Nat.le_refl _, Nat.le_refl _⟩ ⟨Nat.le_refl _, Nat.le_refl _⟩ hv (fun v1 I31 L32 P33 nx1 q34 => ?_)
          obtain ⟨rfl, rfl, hv⟩ := q34
          refine z_iinc (v2 := x2 + 1) (lv2 := [some (.ref 17), some (.ref p1), some (.int (x2 + 1))]) dX5_readIsland_135 rfl (by rfl) (by decide) rfl rfl ?_
          refine z_goto (tgt := 17) dX5_readIsland_138 (by decide) ?_
          exact hv
        by_cases q77 : (I 17 8) = 257
        · have hv := hv.2.2.2.2 (by rw [q77]; decide) (by rw [q77]; decide) (by rw [q77]; decide) (by rw [q77]; decide)
          refine z_tableIn (off := 79) (tgt := 124) dX5_readIsland_45 (by rw [q77]; decide) (by rw [q77]; decide) (by rw [q77]; decide) (by decide) ?_
          refine z_aload_n dX5_readIsland_124 rfl ?_
          refine z_iconst (v := 2) dX5_readIsland_125 (by decide) ?_
          refine z_callV (As := [.int 2]) (st := []) dX5_readIsland_126 zl_X5_73 zv_X5_fail (by decide) rfl zn_17 zo_17 rfl rfl (Nat.le_of_ble_eq_true rfl) ⟨Nat.le_refl _, Nat.le_refl _⟩ ⟨Nat.le_refl _, Nat.le_refl _⟩ hv (fun v1 I66 L67 P68 nx1 q69 => ?_)
          obtain ⟨rfl, rfl, hv⟩ := q69
          refine z_aload_n dX5_readIsland_129 rfl ?_
          refine z_bipush (v := 59) dX5_readIsland_130 (by decide) ?_
          refine z_callV (As := [.int 59]) (st := []) dX5_readIsland_132 zl_X5_77 zv_X5_expect (by decide) rfl zn_17 zo_17 rfl rfl (Nat.le_of_ble_eq_true rfl) ⟨Nat.le_refl _, Nat.le_refl _⟩ ⟨Nat.le_refl _, Nat.le_refl _⟩ hv (fun v1 I71 L72 P73 nx1 q74 => ?_)
          obtain ⟨rfl, rfl, hv⟩ := q74
          refine z_iinc (v2 := x2 + 1) (lv2 := [some (.ref 17), some (.ref p1), some (.int (x2 + 1))]) dX5_readIsland_135 rfl (by rfl) (by decide) rfl rfl ?_
          refine z_goto (tgt := 17) dX5_readIsland_138 (by decide) ?_
          exact hv
        by_cases q78 : (I 17 8) = 258
        · have hv := hv.2.2.2.2 (by rw [q78]; decide) (by rw [q78]; decide) (by rw [q78]; decide) (by rw [q78]; decide)
          refine z_tableIn (off := 79) (tgt := 124) dX5_readIsland_45 (by rw [q78]; decide) (by rw [q78]; decide) (by rw [q78]; decide) (by decide) ?_
          refine z_aload_n dX5_readIsland_124 rfl ?_
          refine z_iconst (v := 2) dX5_readIsland_125 (by decide) ?_
          refine z_callV (As := [.int 2]) (st := []) dX5_readIsland_126 zl_X5_73 zv_X5_fail (by decide) rfl zn_17 zo_17 rfl rfl (Nat.le_of_ble_eq_true rfl) ⟨Nat.le_refl _, Nat.le_refl _⟩ ⟨Nat.le_refl _, Nat.le_refl _⟩ hv (fun v1 I66 L67 P68 nx1 q69 => ?_)
          obtain ⟨rfl, rfl, hv⟩ := q69
          refine z_aload_n dX5_readIsland_129 rfl ?_
          refine z_bipush (v := 59) dX5_readIsland_130 (by decide) ?_
          refine z_callV (As := [.int 59]) (st := []) dX5_readIsland_132 zl_X5_77 zv_X5_expect (by decide) rfl zn_17 zo_17 rfl rfl (Nat.le_of_ble_eq_true rfl) ⟨Nat.le_refl _, Nat.le_refl _⟩ ⟨Nat.le_refl _, Nat.le_refl _⟩ hv (fun v1 I71 L72 P73 nx1 q74 => ?_)
          obtain ⟨rfl, rfl, hv⟩ := q74
          refine z_iinc (v2 := x2 + 1) (lv2 := [some (.ref 17), some (.ref p1), some (.int (x2 + 1))]) dX5_readIsland_135 rfl (by rfl) (by decide) rfl rfl ?_
          refine z_goto (tgt := 17) dX5_readIsland_138 (by decide) ?_
          exact hv
        by_cases q79 : (I 17 8) = 259
        · have hv := hv.2.2.2.2 (by rw [q79]; decide) (by rw [q79]; decide) (by rw [q79]; decide) (by rw [q79]; decide)
          refine z_tableIn (off := 79) (tgt := 124) dX5_readIsland_45 (by rw [q79]; decide) (by rw [q79]; decide) (by rw [q79]; decide) (by decide) ?_
          refine z_aload_n dX5_readIsland_124 rfl ?_
          refine z_iconst (v := 2) dX5_readIsland_125 (by decide) ?_
          refine z_callV (As := [.int 2]) (st := []) dX5_readIsland_126 zl_X5_73 zv_X5_fail (by decide) rfl zn_17 zo_17 rfl rfl (Nat.le_of_ble_eq_true rfl) ⟨Nat.le_refl _, Nat.le_refl _⟩ ⟨Nat.le_refl _, Nat.le_refl _⟩ hv (fun v1 I66 L67 P68 nx1 q69 => ?_)
          obtain ⟨rfl, rfl, hv⟩ := q69
          refine z_aload_n dX5_readIsland_129 rfl ?_
          refine z_bipush (v := 59) dX5_readIsland_130 (by decide) ?_
          refine z_callV (As := [.int 59]) (st := []) dX5_readIsland_132 zl_X5_77 zv_X5_expect (by decide) rfl zn_17 zo_17 rfl rfl (Nat.le_of_ble_eq_true rfl) ⟨Nat.le_refl _, Nat.le_refl _⟩ ⟨Nat.le_refl _, Nat.le_refl _⟩ hv (fun v1 I71 L72 P73 nx1 q74 => ?_)
          obtain ⟨rfl, rfl, hv⟩ := q74
          refine z_iinc (v2 := x2 + 1) (lv2 := [some (.ref 17), some (.ref p1), some (.int (x2 + 1))]) dX5_readIsland_135 rfl (by rfl) (by decide) rfl rfl ?_
          refine z_goto (tgt := 17) dX5_readIsland_138 (by decide) ?_
          exact hv
        by_cases q80 : (I 17 8) = 260
        · have hv := hv.2.1 q80
          refine z_tableIn (off := 58) (tgt := 103) dX5_readIsland_45 (by rw [q80]; decide) (by rw [q80]; decide) (by rw [q80]; decide) (by decide) ?_
          refine z_aload_n dX5_readIsland_103 rfl ?_
          refine z_callV (As := []) (st := []) dX5_readIsland_104 zl_X5_64 zv_X5_readBlind (by decide) rfl zn_17 zo_17 rfl rfl (Nat.le_of_ble_eq_true rfl) ⟨Nat.le_refl _, Nat.le_refl _⟩ ⟨Nat.le_refl _, Nat.le_refl _⟩ hv (fun v1 I36 L37 P38 nx1 q39 => ?_)
          obtain ⟨rfl, rfl, hv⟩ := q39
          refine z_goto (tgt := 129) dX5_readIsland_107 (by decide) ?_
          refine z_aload_n dX5_readIsland_129 rfl ?_
          refine z_bipush (v := 59) dX5_readIsland_130 (by decide) ?_
          refine z_callV (As := [.int 59]) (st := []) dX5_readIsland_132 zl_X5_77 zv_X5_expect (by decide) rfl zn_17 zo_17 rfl rfl (Nat.le_of_ble_eq_true rfl) ⟨Nat.le_refl _, Nat.le_refl _⟩ ⟨Nat.le_refl _, Nat.le_refl _⟩ hv (fun v1 I41 L42 P43 nx1 q44 => ?_)
          obtain ⟨rfl, rfl, hv⟩ := q44
          refine z_iinc (v2 := x2 + 1) (lv2 := [some (.ref 17), some (.ref p1), some (.int (x2 + 1))]) dX5_readIsland_135 rfl (by rfl) (by decide) rfl rfl ?_
          refine z_goto (tgt := 17) dX5_readIsland_138 (by decide) ?_
          exact hv
        by_cases q81 : (I 17 8) = 261
        · have hv := hv.2.2.1 q81
          refine z_tableIn (off := 65) (tgt := 110) dX5_readIsland_45 (by rw [q81]; decide) (by rw [q81]; decide) (by rw [q81]; decide) (by decide) ?_
          refine z_aload_n dX5_readIsland_110 rfl ?_
          refine z_callV (As := []) (st := []) dX5_readIsland_111 zl_X5_67 zv_X5_readLaw (by decide) rfl zn_17 zo_17 rfl rfl (Nat.le_of_ble_eq_true rfl) ⟨Nat.le_refl _, Nat.le_refl _⟩ ⟨Nat.le_refl _, Nat.le_refl _⟩ hv (fun v1 I46 L47 P48 nx1 q49 => ?_)
          obtain ⟨rfl, rfl, hv⟩ := q49
          refine z_goto (tgt := 129) dX5_readIsland_114 (by decide) ?_
          refine z_aload_n dX5_readIsland_129 rfl ?_
          refine z_bipush (v := 59) dX5_readIsland_130 (by decide) ?_
          refine z_callV (As := [.int 59]) (st := []) dX5_readIsland_132 zl_X5_77 zv_X5_expect (by decide) rfl zn_17 zo_17 rfl rfl (Nat.le_of_ble_eq_true rfl) ⟨Nat.le_refl _, Nat.le_refl _⟩ ⟨Nat.le_refl _, Nat.le_refl _⟩ hv (fun v1 I51 L52 P53 nx1 q54 => ?_)
          obtain ⟨rfl, rfl, hv⟩ := q54
          refine z_iinc (v2 := x2 + 1) (lv2 := [some (.ref 17), some (.ref p1), some (.int (x2 + 1))]) dX5_readIsland_135 rfl (by rfl) (by decide) rfl rfl ?_
          refine z_goto (tgt := 17) dX5_readIsland_138 (by decide) ?_
          exact hv
        by_cases q82 : (I 17 8) = 262
        · have hv := hv.2.2.2.2 (by rw [q82]; decide) (by rw [q82]; decide) (by rw [q82]; decide) (by rw [q82]; decide)
          refine z_tableIn (off := 79) (tgt := 124) dX5_readIsland_45 (by rw [q82]; decide) (by rw [q82]; decide) (by rw [q82]; decide) (by decide) ?_
          refine z_aload_n dX5_readIsland_124 rfl ?_
          refine z_iconst (v := 2) dX5_readIsland_125 (by decide) ?_
          refine z_callV (As := [.int 2]) (st := []) dX5_readIsland_126 zl_X5_73 zv_X5_fail (by decide) rfl zn_17 zo_17 rfl rfl (Nat.le_of_ble_eq_true rfl) ⟨Nat.le_refl _, Nat.le_refl _⟩ ⟨Nat.le_refl _, Nat.le_refl _⟩ hv (fun v1 I66 L67 P68 nx1 q69 => ?_)
          obtain ⟨rfl, rfl, hv⟩ := q69
          refine z_aload_n dX5_readIsland_129 rfl ?_
          refine z_bipush (v := 59) dX5_readIsland_130 (by decide) ?_
          refine z_callV (As := [.int 59]) (st := []) dX5_readIsland_132 zl_X5_77 zv_X5_expect (by decide) rfl zn_17 zo_17 rfl rfl (Nat.le_of_ble_eq_true rfl) ⟨Nat.le_refl _, Nat.le_refl _⟩ ⟨Nat.le_refl _, Nat.le_refl _⟩ hv (fun v1 I71 L72 P73 nx1 q74 => ?_)
          obtain ⟨rfl, rfl, hv⟩ := q74
          refine z_iinc (v2 := x2 + 1) (lv2 := [some (.ref 17), some (.ref p1), some (.int (x2 + 1))]) dX5_readIsland_135 rfl (by rfl) (by decide) rfl rfl ?_
          refine z_goto (tgt := 17) dX5_readIsland_138 (by decide) ?_
          exact hv
        by_cases q83 : (I 17 8) = 263
        · have hv := hv.2.2.2.2 (by rw [q83]; decide) (by rw [q83]; decide) (by rw [q83]; decide) (by rw [q83]; decide)
          refine z_tableIn (off := 79) (tgt := 124) dX5_readIsland_45 (by rw [q83]; decide) (by rw [q83]; decide) (by rw [q83]; decide) (by decide) ?_
          refine z_aload_n dX5_readIsland_124 rfl ?_
          refine z_iconst (v := 2) dX5_readIsland_125 (by decide) ?_
          refine z_callV (As := [.int 2]) (st := []) dX5_readIsland_126 zl_X5_73 zv_X5_fail (by decide) rfl zn_17 zo_17 rfl rfl (Nat.le_of_ble_eq_true rfl) ⟨Nat.le_refl _, Nat.le_refl _⟩ ⟨Nat.le_refl _, Nat.le_refl _⟩ hv (fun v1 I66 L67 P68 nx1 q69 => ?_)
          obtain ⟨rfl, rfl, hv⟩ := q69
          refine z_aload_n dX5_readIsland_129 rfl ?_
          refine z_bipush (v := 59) dX5_readIsland_130 (by decide) ?_
          refine z_callV (As := [.int 59]) (st := []) dX5_readIsland_132 zl_X5_77 zv_X5_expect (by decide) rfl zn_17 zo_17 rfl rfl (Nat.le_of_ble_eq_true rfl) ⟨Nat.le_refl _, Nat.le_refl _⟩ ⟨Nat.le_refl _, Nat.le_refl _⟩ hv (fun v1 I71 L72 P73 nx1 q74 => ?_)
          obtain ⟨rfl, rfl, hv⟩ := q74
          refine z_iinc (v2 := x2 + 1) (lv2 := [some (.ref 17), some (.ref p1), some (.int (x2 + 1))]) dX5_readIsland_135 rfl (by rfl) (by decide) rfl rfl ?_
          refine z_goto (tgt := 17) dX5_readIsland_138 (by decide) ?_
          exact hv
        by_cases q84 : (I 17 8) = 264
        · have hv := hv.2.2.2.1 q84
          refine z_tableIn (off := 72) (tgt := 117) dX5_readIsland_45 (by rw [q84]; decide) (by rw [q84]; decide) (by rw [q84]; decide) (by decide) ?_
          refine z_aload_n dX5_readIsland_117 rfl ?_
          refine z_callV (As := []) (st := []) dX5_readIsland_118 zl_X5_70 zv_X5_readSaying (by decide) rfl zn_17 zo_17 rfl rfl (Nat.le_of_ble_eq_true rfl) ⟨Nat.le_refl _, Nat.le_refl _⟩ ⟨Nat.le_refl _, Nat.le_refl _⟩ hv (fun v1 I56 L57 P58 nx1 q59 => ?_)
          obtain ⟨rfl, rfl, hv⟩ := q59
          refine z_goto (tgt := 129) dX5_readIsland_121 (by decide) ?_
          refine z_aload_n dX5_readIsland_129 rfl ?_
          refine z_bipush (v := 59) dX5_readIsland_130 (by decide) ?_
          refine z_callV (As := [.int 59]) (st := []) dX5_readIsland_132 zl_X5_77 zv_X5_expect (by decide) rfl zn_17 zo_17 rfl rfl (Nat.le_of_ble_eq_true rfl) ⟨Nat.le_refl _, Nat.le_refl _⟩ ⟨Nat.le_refl _, Nat.le_refl _⟩ hv (fun v1 I61 L62 P63 nx1 q64 => ?_)
          obtain ⟨rfl, rfl, hv⟩ := q64
          refine z_iinc (v2 := x2 + 1) (lv2 := [some (.ref 17), some (.ref p1), some (.int (x2 + 1))]) dX5_readIsland_135 rfl (by rfl) (by decide) rfl rfl ?_
          refine z_goto (tgt := 17) dX5_readIsland_138 (by decide) ?_
          exact hv
        have hv := hv.2.2.2.2 q76 q80 q81 q84
        have tq76 := lv_neT q76 (show (256 : Int32).toInt = 256 by decide)
        have tq77 := lv_neT q77 (show (257 : Int32).toInt = 257 by decide)
        have tq78 := lv_neT q78 (show (258 : Int32).toInt = 258 by decide)
        have tq79 := lv_neT q79 (show (259 : Int32).toInt = 259 by decide)
        have tq80 := lv_neT q80 (show (260 : Int32).toInt = 260 by decide)
        have tq81 := lv_neT q81 (show (261 : Int32).toInt = 261 by decide)
        have tq82 := lv_neT q82 (show (262 : Int32).toInt = 262 by decide)
        have tq83 := lv_neT q83 (show (263 : Int32).toInt = 263 by decide)
        have tq84 := lv_neT q84 (show (264 : Int32).toInt = 264 by decide)
        refine z_tableOut (tgt := 124) dX5_readIsland_45 (by omega) (by decide) ?_
        refine z_aload_n dX5_readIsland_124 rfl ?_
        refine z_iconst (v := 2) dX5_readIsland_125 (by decide) ?_
        refine z_callV (As := [.int 2]) (st := []) dX5_readIsland_126 zl_X5_73 zv_X5_fail (by decide) rfl zn_17 zo_17 rfl rfl (Nat.le_of_ble_eq_true rfl) ⟨Nat.le_refl _, Nat.le_refl _⟩ ⟨Nat.le_refl _, Nat.le_refl _⟩ hv (fun v1 I66 L67 P68 nx1 q69 => ?_)
        obtain ⟨rfl, rfl, hv⟩ := q69
        refine z_aload_n dX5_readIsland_129 rfl ?_
        refine z_bipush (v := 59) dX5_readIsland_130 (by decide) ?_
        refine z_callV (As := [.int 59]) (st := []) dX5_readIsland_132 zl_X5_77 zv_X5_expect (by decide) rfl zn_17 zo_17 rfl rfl (Nat.le_of_ble_eq_true rfl) ⟨Nat.le_refl _, Nat.le_refl _⟩ ⟨Nat.le_refl _, Nat.le_refl _⟩ hv (fun v1 I71 L72 P73 nx1 q74 => ?_)
        obtain ⟨rfl, rfl, hv⟩ := q74
        refine z_iinc (v2 := x2 + 1) (lv2 := [some (.ref 17), some (.ref p1), some (.int (x2 + 1))]) dX5_readIsland_135 rfl (by rfl) (by decide) rfl rfl ?_
        refine z_goto (tgt := 17) dX5_readIsland_138 (by decide) ?_
        exact hv
def v_X5_readIsland (d : Nat) (Q : zQt) (p1 : Nat) (I : zI) (L : zL) (P : zP) : Prop :=
  (p1 < 205 ∧ (zsh p1).1 = 2) ∧
  zMv zm_X2_clear d [.ref p1] I L P (fun I2 L3 P4 =>
    ∃ b7 : Nat, P4 p1 10 = some b7 ∧
    zMv zm_X5_begin d [.ref 17, .ref p1, .ref b7, .int 60] I2 L3 P4 (fun I9 L10 P11 =>
      gw_X5_readIsland (d + 1) Q 17 [some (.ref 17), some (.ref p1), some (.int 0)] [] I9 L10 P11
    )
  )
set_option maxRecDepth 20000 in
theorem g_X5_readIsland {d : Nat} {Q : zQt} {p1 : Nat} {I : zI} {L : zL} {P : zP} (hP : zPk P) (hv : v_X5_readIsland d Q p1 I L P) : zM zm_X5_readIsland (d + 1) 0 0 [.ref 17, .ref p1] I L P 205 Q := by
  unfold v_X5_readIsland at hv
  refine zM_of (lv0 := [some (.ref 17), some (.ref p1), none]) (by decide +kernel) (Nat.le_of_ble_eq_true rfl) rfl ?_
  refine z_aload_n dX5_readIsland_0 rfl ?_
  obtain ⟨h1, hv⟩ := hv
  refine z_callV (As := []) (st := []) dX5_readIsland_1 zl_X5_49 zv_X2_clear (by decide) rfl h1.1 h1.2 rfl rfl (Nat.le_of_ble_eq_true rfl) ⟨Nat.le_refl _, Nat.le_refl _⟩ ⟨Nat.le_refl _, Nat.le_refl _⟩ hv (fun v1 I2 L3 P4 nx1 q5 => ?_)
  obtain ⟨rfl, rfl, hv⟩ := q5
  refine z_aload_n dX5_readIsland_4 rfl ?_
  refine z_aload_n dX5_readIsland_5 rfl ?_
  refine z_aload_n dX5_readIsland_6 rfl ?_
  obtain ⟨b7, h8, hv⟩ := hv
  refine z_getP dX5_readIsland_7 zf_X5_54 h1.1 h1.2 (fun _ _ _ _ _ => rfl) h8 ?_
  refine z_bipush (v := 60) dX5_readIsland_10 (by decide) ?_
  refine z_callV (As := [.ref p1, .ref b7, .int 60]) (st := []) dX5_readIsland_12 zl_X5_55 zv_X5_begin (by decide) rfl zn_17 zo_17 rfl rfl (Nat.le_of_ble_eq_true rfl) ⟨Nat.le_refl _, Nat.le_refl _⟩ ⟨Nat.le_refl _, Nat.le_refl _⟩ hv (fun v1 I9 L10 P11 nx1 q12 => ?_)
  obtain ⟨rfl, rfl, hv⟩ := q12
  refine z_iconst (v := 0) dX5_readIsland_15 (by decide) ?_
  refine z_istore_n (lv2 := [some (.ref 17), some (.ref p1), some (.int 0)]) dX5_readIsland_16 (by decide) rfl rfl ?_
  exact hv
abbrev gw_X5_readFormula (d : Nat) (Q : zQt) (pc : Nat) (lv : zV) (st : List Value) (I : zI) (L : zL) (P : zP) : Prop := zW zm_X5_readFormula (zRm d 0 0) 0 0 Q pc lv st I L P 205 0 0
def v_X5_readFormula (d : Nat) (Q : zQt) (p1 : Nat) (p2 : Nat) (I : zI) (L : zL) (P : zP) : Prop :=
  (p2 < 205 ∧ (zsh p2).1 = 0) ∧
  ∀ I2 : zI, I2 = zuI I p2 1 0 →
  zMv zm_X5_begin d [.ref 17, .ref p1, .ref p2, .int 30] I2 L P (fun I4 L5 P6 =>
    zMv zm_X5_readPart d [.ref 17, .int 0, .int 0] I4 L5 P6 (fun I9 L10 P11 =>
      (((I9 17 8) = 275 →
        ((¬ (I9 17 0) = 0 →
          Q (some (.int 0)) I9 L10 P11 205
        ) ∧ ((I9 17 0) = 0 →
          Q (some (.int 1)) I9 L10 P11 205
        ))
      ) ∧ (¬ (I9 17 8) = 275 →
        zMv zm_X5_fail d [.ref 17, .int 2] I9 L10 P11 (fun I15 L16 P17 =>
          ((¬ (I15 17 0) = 0 →
            Q (some (.int 0)) I15 L16 P17 205
          ) ∧ ((I15 17 0) = 0 →
            Q (some (.int 1)) I15 L16 P17 205
          ))
        )
      ))
    )
  )
set_option maxRecDepth 20000 in
theorem g_X5_readFormula {d : Nat} {Q : zQt} {p1 : Nat} {p2 : Nat} {I : zI} {L : zL} {P : zP} (hP : zPk P) (hv : v_X5_readFormula d Q p1 p2 I L P) : zM zm_X5_readFormula (d + 1) 0 0 [.ref 17, .ref p1, .ref p2] I L P 205 Q := by
  unfold v_X5_readFormula at hv
  refine zM_of (lv0 := [some (.ref 17), some (.ref p1), some (.ref p2)]) (by decide +kernel) (Nat.le_of_ble_eq_true rfl) rfl ?_
  refine z_aload_n dX5_readFormula_0 rfl ?_
  refine z_iconst (v := 0) dX5_readFormula_1 (by decide) ?_
  obtain ⟨h1, hv⟩ := hv
  refine z_putI dX5_readFormula_2 zf_X5_81 h1.1 h1.2 (Or.inl rfl) (fun _ _ _ _ _ => rfl) rfl rfl (z_nmI (fun I2 e3 => ?_))
  have hv := hv I2 e3
  refine z_aload_n dX5_readFormula_5 rfl ?_
  refine z_aload_n dX5_readFormula_6 rfl ?_
  refine z_aload_n dX5_readFormula_7 rfl ?_
  refine z_bipush (v := 30) dX5_readFormula_8 (by decide) ?_
  refine z_callV (As := [.ref p1, .ref p2, .int 30]) (st := []) dX5_readFormula_10 zl_X5_55 zv_X5_begin (by decide) rfl zn_17 zo_17 rfl rfl (Nat.le_of_ble_eq_true rfl) ⟨Nat.le_refl _, Nat.le_refl _⟩ ⟨Nat.le_refl _, Nat.le_refl _⟩ hv (fun v1 I4 L5 P6 nx1 q7 => ?_)
  obtain ⟨rfl, rfl, hv⟩ := q7
  refine z_aload_n dX5_readFormula_13 rfl ?_
  refine z_iconst (v := 0) dX5_readFormula_14 (by decide) ?_
  refine z_iconst (v := 0) dX5_readFormula_15 (by decide) ?_
  refine z_callV (As := [.int 0, .int 0]) (st := []) dX5_readFormula_16 zl_X5_86 zv_X5_readPart (by decide) rfl zn_17 zo_17 rfl rfl (Nat.le_of_ble_eq_true rfl) ⟨Nat.le_refl _, Nat.le_refl _⟩ ⟨Nat.le_refl _, Nat.le_refl _⟩ hv (fun v1 I9 L10 P11 nx1 q12 => ?_)
  obtain ⟨rfl, rfl, hv⟩ := q12
  refine z_aload_n dX5_readFormula_19 rfl ?_
  refine z_getI dX5_readFormula_20 zf_X5_29 zn_17 zo_17 (fun _ _ _ _ _ => rfl) ?_
  refine z_sipush (v := 275) dX5_readFormula_23 (by decide) ?_
  refine z_icmp_eq (tgt := 34) dX5_readFormula_26 (by decide) (fun q21 => ?_) (fun q21 => ?_)
  · have hv := hv.1 q21
    refine z_aload_n dX5_readFormula_34 rfl ?_
    refine z_getI dX5_readFormula_35 zf_X5_9 zn_17 zo_17 (fun _ _ _ _ _ => rfl) ?_
    refine z_if_ne (tgt := 45) dX5_readFormula_38 (by decide) (fun q14 => ?_) (fun q14 => ?_)
    · have hv := hv.1 q14
      refine z_iconst (v := 0) dX5_readFormula_45 (by decide) ?_
      exact z_ireturn dX5_readFormula_46 rfl (by decide) (Nat.le_refl _) (Nat.le_refl _) hv
    · have hv := hv.2 q14
      refine z_iconst (v := 1) dX5_readFormula_41 (by decide) ?_
      refine z_goto (tgt := 46) dX5_readFormula_42 (by decide) ?_
      exact z_ireturn dX5_readFormula_46 rfl (by decide) (Nat.le_refl _) (Nat.le_refl _) hv
  · have hv := hv.2 q21
    refine z_aload_n dX5_readFormula_29 rfl ?_
    refine z_iconst (v := 2) dX5_readFormula_30 (by decide) ?_
    refine z_callV (As := [.int 2]) (st := []) dX5_readFormula_31 zl_X5_73 zv_X5_fail (by decide) rfl zn_17 zo_17 rfl rfl (Nat.le_of_ble_eq_true rfl) ⟨Nat.le_refl _, Nat.le_refl _⟩ ⟨Nat.le_refl _, Nat.le_refl _⟩ hv (fun v1 I15 L16 P17 nx1 q18 => ?_)
    obtain ⟨rfl, rfl, hv⟩ := q18
    refine z_aload_n dX5_readFormula_34 rfl ?_
    refine z_getI dX5_readFormula_35 zf_X5_9 zn_17 zo_17 (fun _ _ _ _ _ => rfl) ?_
    refine z_if_ne (tgt := 45) dX5_readFormula_38 (by decide) (fun q20 => ?_) (fun q20 => ?_)
    · have hv := hv.1 q20
      refine z_iconst (v := 0) dX5_readFormula_45 (by decide) ?_
      exact z_ireturn dX5_readFormula_46 rfl (by decide) (Nat.le_refl _) (Nat.le_refl _) hv
    · have hv := hv.2 q20
      refine z_iconst (v := 1) dX5_readFormula_41 (by decide) ?_
      refine z_goto (tgt := 46) dX5_readFormula_42 (by decide) ?_
      exact z_ireturn dX5_readFormula_46 rfl (by decide) (Nat.le_refl _) (Nat.le_refl _) hv
abbrev gw_X5_begin (d : Nat) (Q : zQt) (pc : Nat) (lv : zV) (st : List Value) (I : zI) (L : zL) (P : zP) : Prop := zW zm_X5_begin (zRm d 0 0) 0 0 Q pc lv st I L P 205 0 0
def v_X5_begin (d : Nat) (Q : zQt) (p1 : Nat) (p2 : Nat) (p3 : Int32) (I : zI) (L : zL) (P : zP) : Prop :=
  ∀ P1 : zP, P1 = zuP P 17 3 (some p1) →
  ∀ P3 : zP, P3 = zuP P1 17 4 (some p2) →
  ∀ I5 : zI, I5 = zuI I 17 5 p3 →
  ∀ I7 : zI, I7 = zuI I5 17 6 0 →
  ∀ I9 : zI, I9 = zuI I7 17 0 0 →
  ∀ I11 : zI, I11 = zuI I9 17 1 (-1) →
  zPk P3 ∧
  zMv zm_X9_scan d [.ref 18] I11 L P3 (fun I14 L15 P16 =>
    ∀ I19 : zI, I19 = zuI I14 17 7 0 →
    zPk P16 ∧
    zMi zm_X9_kindOf d [.ref 18, .int 0] I19 L15 P16 (fun r26 I22 L23 P24 =>
      ∀ I27 : zI, I27 = zuI I22 17 8 r26 →
      Q none I27 L23 P24 205
    )
  )
set_option maxRecDepth 20000 in
theorem g_X5_begin {d : Nat} {Q : zQt} {p1 : Nat} {p2 : Nat} {p3 : Int32} {I : zI} {L : zL} {P : zP} (hP : zPk P) (hv : v_X5_begin d Q p1 p2 p3 I L P) : zM zm_X5_begin (d + 1) 0 0 [.ref 17, .ref p1, .ref p2, .int p3] I L P 205 Q := by
  unfold v_X5_begin at hv
  refine zM_of (lv0 := [some (.ref 17), some (.ref p1), some (.ref p2), some (.int p3)]) (by decide +kernel) (Nat.le_of_ble_eq_true rfl) rfl ?_
  refine z_aload_n dX5_begin_0 rfl ?_
  refine z_aload_n dX5_begin_1 rfl ?_
  refine z_putP dX5_begin_2 zf_X5_41 zn_17 zo_17 (Or.inl rfl) (fun _ _ _ _ _ => rfl) (fun _ => rfl) (fun _ => rfl) (z_nmP (fun P1 e2 => ?_))
  have hv := hv P1 e2
  refine z_aload_n dX5_begin_5 rfl ?_
  refine z_aload_n dX5_begin_6 rfl ?_
  refine z_putP dX5_begin_7 zf_X5_45 zn_17 zo_17 (Or.inl rfl) (fun _ _ _ _ _ => rfl) (fun _ => rfl) (fun _ => rfl) (z_nmP (fun P3 e4 => ?_))
  have hv := hv P3 e4
  refine z_aload_n dX5_begin_10 rfl ?_
  refine z_iload_n dX5_begin_11 rfl ?_
  refine z_putI dX5_begin_12 zf_X5_18 zn_17 zo_17 (Or.inl rfl) (fun _ _ _ _ _ => rfl) rfl rfl (z_nmI (fun I5 e6 => ?_))
  have hv := hv I5 e6
  refine z_aload_n dX5_begin_15 rfl ?_
  refine z_iconst (v := 0) dX5_begin_16 (by decide) ?_
  refine z_putI dX5_begin_17 zf_X5_21 zn_17 zo_17 (Or.inl rfl) (fun _ _ _ _ _ => rfl) rfl rfl (z_nmI (fun I7 e8 => ?_))
  have hv := hv I7 e8
  refine z_aload_n dX5_begin_20 rfl ?_
  refine z_iconst (v := 0) dX5_begin_21 (by decide) ?_
  refine z_putI dX5_begin_22 zf_X5_9 zn_17 zo_17 (Or.inl rfl) (fun _ _ _ _ _ => rfl) rfl rfl (z_nmI (fun I9 e10 => ?_))
  have hv := hv I9 e10
  refine z_aload_n dX5_begin_25 rfl ?_
  refine z_iconst (v := (-1)) dX5_begin_26 (by decide) ?_
  refine z_putI dX5_begin_27 zf_X5_15 zn_17 zo_17 (Or.inl rfl) (fun _ _ _ _ _ => rfl) rfl rfl (z_nmI (fun I11 e12 => ?_))
  have hv := hv I11 e12
  refine z_aload_n dX5_begin_30 rfl ?_
  obtain ⟨h13, hv⟩ := hv
  refine z_getP dX5_begin_31 zf_X5_37 zn_17 zo_17 (fun _ _ _ _ _ => rfl) (h13 17 2 18 zp_17_2) ?_
  refine z_callV (As := []) (st := []) dX5_begin_34 zl_X5_90 zv_X9_scan (by decide) rfl zn_18 zo_18 rfl rfl (Nat.le_of_ble_eq_true rfl) ⟨Nat.le_refl _, Nat.le_refl _⟩ ⟨Nat.le_refl _, Nat.le_refl _⟩ hv (fun v1 I14 L15 P16 nx1 q17 => ?_)
  obtain ⟨rfl, rfl, hv⟩ := q17
  refine z_aload_n dX5_begin_37 rfl ?_
  refine z_iconst (v := 0) dX5_begin_38 (by decide) ?_
  refine z_putI dX5_begin_39 zf_X5_24 zn_17 zo_17 (Or.inl rfl) (fun _ _ _ _ _ => rfl) rfl rfl (z_nmI (fun I19 e20 => ?_))
  have hv := hv I19 e20
  refine z_aload_n dX5_begin_42 rfl ?_
  refine z_aload_n dX5_begin_43 rfl ?_
  obtain ⟨h21, hv⟩ := hv
  refine z_getP dX5_begin_44 zf_X5_37 zn_17 zo_17 (fun _ _ _ _ _ => rfl) (h21 17 2 18 zp_17_2) ?_
  refine z_iconst (v := 0) dX5_begin_47 (by decide) ?_
  refine z_callV (As := [.int 0]) (st := [.ref 17]) dX5_begin_48 zl_X5_93 zv_X9_kindOf (by decide) rfl zn_18 zo_18 rfl rfl (Nat.le_of_ble_eq_true rfl) ⟨Nat.le_refl _, Nat.le_refl _⟩ ⟨Nat.le_refl _, Nat.le_refl _⟩ hv (fun v1 I22 L23 P24 nx1 q25 => ?_)
  obtain ⟨rfl, r26, rfl, hv⟩ := q25
  refine z_putI dX5_begin_51 zf_X5_29 zn_17 zo_17 (Or.inl rfl) (fun _ _ _ _ _ => rfl) rfl rfl (z_nmI (fun I27 e28 => ?_))
  have hv := hv I27 e28
  exact z_return dX5_begin_54 rfl (Nat.le_refl _) (Nat.le_refl _) hv
abbrev gw_X5_readPerson (d : Nat) (Q : zQt) (pc : Nat) (lv : zV) (st : List Value) (I : zI) (L : zL) (P : zP) : Prop := zW zm_X5_readPerson (zRm d 0 0) 0 0 Q pc lv st I L P 205 0 0
def v_X5_readPerson_157 (d : Nat) (Q : zQt)  (I : zI) (L : zL) (P : zP) : Prop :=
  Q none I L P 205
set_option maxRecDepth 20000 in
theorem g_X5_readPerson_157 {d : Nat} {Q : zQt}  {I : zI} {L : zL} {P : zP} (hP : zPk P) (hv : v_X5_readPerson_157 d Q  I L P) : gw_X5_readPerson (d + 1) Q 157 [none, none, none, none] [] I L P := by
  unfold v_X5_readPerson_157 at hv
  exact z_return dX5_readPerson_157 rfl (Nat.le_refl _) (Nat.le_refl _) hv
def v_X5_readPerson_132 (d : Nat) (Q : zQt) (x3 : Int32) (I : zI) (L : zL) (P : zP) : Prop :=
  zMi zm_X5_accept d [.ref 17, .int 259] I L P (fun r187 I183 L184 P185 =>
    ((r187 = 0 →
      gw_X5_readPerson (d + 1) Q 157 [none, none, none, none] [] I183 L184 P185
    ) ∧ (¬ r187 = 0 →
      ∃ b188 : Nat, P185 17 3 = some b188 ∧
      (b188 < 205 ∧ (zsh b188).1 = 2) ∧
      ∀ I191 : zI, I191 = zuI I183 b188 2 ((I183 b188 2) ||| ((1 : Int32) <<< (x3 &&& 31) : Int32) : Int32) →
      gw_X5_readPerson (d + 1) Q 157 [none, none, none, none] [] I191 L184 P185
    ))
  )
set_option maxRecDepth 20000 in
theorem g_X5_readPerson_132 {d : Nat} {Q : zQt} {x3 : Int32} {I : zI} {L : zL} {P : zP} (hP : zPk P) (hv : v_X5_readPerson_132 d Q x3 I L P) : gw_X5_readPerson (d + 1) Q 132 [some (.ref 17), none, none, some (.int x3)] [] I L P := by
  unfold v_X5_readPerson_132 at hv
  refine z_aload_n dX5_readPerson_132 rfl ?_
  refine z_sipush (v := 259) dX5_readPerson_133 (by decide) ?_
  refine z_callV (As := [.int 259]) (st := []) dX5_readPerson_136 zl_X5_119 zv_X5_accept (by decide) rfl zn_17 zo_17 rfl rfl (Nat.le_of_ble_eq_true rfl) ⟨Nat.le_refl _, Nat.le_refl _⟩ ⟨Nat.le_refl _, Nat.le_refl _⟩ hv (fun v1 I183 L184 P185 nx1 q186 => ?_)
  obtain ⟨rfl, r187, rfl, hv⟩ := q186
  refine z_if_eq (tgt := 157) dX5_readPerson_139 (by decide) (fun q193 => ?_) (fun q193 => ?_)
  · have hv := hv.1 q193
    exact z_sub (by exact trivial) hv
  · have hv := hv.2 q193
    refine z_aload_n dX5_readPerson_142 rfl ?_
    obtain ⟨b188, h189, hv⟩ := hv
    refine z_getP dX5_readPerson_143 zf_X5_41 zn_17 zo_17 (fun _ _ _ _ _ => rfl) h189 ?_
    refine z_dup dX5_readPerson_146 rfl ?_
    obtain ⟨h190, hv⟩ := hv
    refine z_getI dX5_readPerson_147 zf_X5_129 h190.1 h190.2 (fun _ _ _ _ _ => rfl) ?_
    refine z_iconst (v := 1) dX5_readPerson_150 (by decide) ?_
    refine z_iload_n dX5_readPerson_151 rfl ?_
    refine z_ishl dX5_readPerson_152 ?_
    refine z_ior dX5_readPerson_153 ?_
    refine z_putI dX5_readPerson_154 zf_X5_129 h190.1 h190.2 (Or.inl rfl) (fun _ _ _ _ _ => rfl) rfl rfl (z_nmI (fun I191 e192 => ?_))
    have hv := hv I191 e192
    exact z_sub (by exact trivial) hv
def v_X5_readPerson_114 (d : Nat) (Q : zQt) (x3 : Int32) (I : zI) (L : zL) (P : zP) : Prop :=
  zMi zm_X5_accept d [.ref 17, .int 258] I L P (fun r173 I169 L170 P171 =>
    ((r173 = 0 →
      gw_X5_readPerson (d + 1) Q 132 [some (.ref 17), none, none, some (.int x3)] [] I169 L170 P171
    ) ∧ (¬ r173 = 0 →
      ∃ b174 : Nat, P171 17 3 = some b174 ∧
      (b174 < 205 ∧ (zsh b174).1 = 2) ∧
      zMv zm_X2_giveMirror d [.ref b174, .int x3] I169 L170 P171 (fun I177 L178 P179 =>
        gw_X5_readPerson (d + 1) Q 132 [some (.ref 17), none, none, some (.int x3)] [] I177 L178 P179
      )
    ))
  )
set_option maxRecDepth 20000 in
theorem g_X5_readPerson_114 {d : Nat} {Q : zQt} {x3 : Int32} {I : zI} {L : zL} {P : zP} (hP : zPk P) (hv : v_X5_readPerson_114 d Q x3 I L P) : gw_X5_readPerson (d + 1) Q 114 [some (.ref 17), none, none, some (.int x3)] [] I L P := by
  unfold v_X5_readPerson_114 at hv
  refine z_aload_n dX5_readPerson_114 rfl ?_
  refine z_sipush (v := 258) dX5_readPerson_115 (by decide) ?_
  refine z_callV (As := [.int 258]) (st := []) dX5_readPerson_118 zl_X5_119 zv_X5_accept (by decide) rfl zn_17 zo_17 rfl rfl (Nat.le_of_ble_eq_true rfl) ⟨Nat.le_refl _, Nat.le_refl _⟩ ⟨Nat.le_refl _, Nat.le_refl _⟩ hv (fun v1 I169 L170 P171 nx1 q172 => ?_)
  obtain ⟨rfl, r173, rfl, hv⟩ := q172
  refine z_if_eq (tgt := 132) dX5_readPerson_121 (by decide) (fun q182 => ?_) (fun q182 => ?_)
  · have hv := hv.1 q182
    exact hv
  · have hv := hv.2 q182
    refine z_aload_n dX5_readPerson_124 rfl ?_
    obtain ⟨b174, h175, hv⟩ := hv
    refine z_getP dX5_readPerson_125 zf_X5_41 zn_17 zo_17 (fun _ _ _ _ _ => rfl) h175 ?_
    refine z_iload_n dX5_readPerson_128 rfl ?_
    obtain ⟨h176, hv⟩ := hv
    refine z_callV (As := [.int x3]) (st := []) dX5_readPerson_129 zl_X5_126 zv_X2_giveMirror (by decide) rfl h176.1 h176.2 rfl rfl (Nat.le_of_ble_eq_true rfl) ⟨Nat.le_refl _, Nat.le_refl _⟩ ⟨Nat.le_refl _, Nat.le_refl _⟩ hv (fun v1 I177 L178 P179 nx1 q180 => ?_)
    obtain ⟨rfl, rfl, hv⟩ := q180
    exact hv
def v_X5_readPerson (d : Nat) (Q : zQt)  (I : zI) (L : zL) (P : zP) : Prop :=
  ∃ b1 : Nat, P 17 3 = some b1 ∧
  (b1 < 205 ∧ (zsh b1).1 = 2) ∧
  zMi zm_X2_takesPeople d [.ref b1] I L P (fun r8 I4 L5 P6 =>
    ((¬ r8 = 0 →
      zMv zm_X5_advance d [.ref 17] I4 L5 P6 (fun I9 L10 P11 =>
        zPk P11 ∧
        zMl zm_X9_valueOf d [.ref 18, .int (I9 17 7)] I9 L10 P11 (fun r19 I15 L16 P17 =>
          ∃ b20 : Nat, P17 17 3 = some b20 ∧
          (b20 < 205 ∧ (zsh b20).1 = 2) ∧
          (((I15 17 8) = 273 →
            zMi zm_X2_find d [.ref b20, .long r19] I15 L16 P17 (fun r27 I23 L24 P25 =>
              ((r27 = (-1) →
                ∃ b28 : Nat, P25 17 3 = some b28 ∧
                (b28 < 205 ∧ (zsh b28).1 = 2) ∧
                zMv zm_X2_addPerson d [.ref b28, .long r19] I23 L24 P25 (fun I31 L32 P33 =>
                  zMv zm_X5_advance d [.ref 17] I31 L32 P33 (fun I36 L37 P38 =>
                    zMi zm_X5_accept d [.ref 17, .int 257] I36 L37 P38 (fun r45 I41 L42 P43 =>
                      ((r45 = 0 →
                        gw_X5_readPerson (d + 1) Q 114 [some (.ref 17), none, none, some (.int (I15 b20 0))] [] I41 L42 P43
                      ) ∧ (¬ r45 = 0 →
                        ∃ b46 : Nat, P43 17 3 = some b46 ∧
                        (b46 < 205 ∧ (zsh b46).1 = 2) ∧
                        ∀ I49 : zI, I49 = zuI I41 b46 1 ((I41 b46 1) ||| ((1 : Int32) <<< ((I15 b20 0) &&& 31) : Int32) : Int32) →
                        gw_X5_readPerson (d + 1) Q 114 [some (.ref 17), none, none, some (.int (I15 b20 0))] [] I49 L42 P43
                      ))
                    )
                  )
                )
              ) ∧ (¬ r27 = (-1) →
                zMv zm_X5_fail d [.ref 17, .int 3] I23 L24 P25 (fun I52 L53 P54 =>
                  zMi zm_X5_accept d [.ref 17, .int 257] I52 L53 P54 (fun r61 I57 L58 P59 =>
                    ((r61 = 0 →
                      gw_X5_readPerson (d + 1) Q 114 [some (.ref 17), none, none, some (.int (I15 b20 0))] [] I57 L58 P59
                    ) ∧ (¬ r61 = 0 →
                      ∃ b62 : Nat, P59 17 3 = some b62 ∧
                      (b62 < 205 ∧ (zsh b62).1 = 2) ∧
                      ∀ I65 : zI, I65 = zuI I57 b62 1 ((I57 b62 1) ||| ((1 : Int32) <<< ((I15 b20 0) &&& 31) : Int32) : Int32) →
                      gw_X5_readPerson (d + 1) Q 114 [some (.ref 17), none, none, some (.int (I15 b20 0))] [] I65 L58 P59
                    ))
                  )
                )
              ))
            )
          ) ∧ (¬ (I15 17 8) = 273 →
            zMv zm_X5_fail d [.ref 17, .int 2] I15 L16 P17 (fun I69 L70 P71 =>
              zMi zm_X5_accept d [.ref 17, .int 257] I69 L70 P71 (fun r78 I74 L75 P76 =>
                ((r78 = 0 →
                  gw_X5_readPerson (d + 1) Q 114 [some (.ref 17), none, none, some (.int (I15 b20 0))] [] I74 L75 P76
                ) ∧ (¬ r78 = 0 →
                  ∃ b79 : Nat, P76 17 3 = some b79 ∧
                  (b79 < 205 ∧ (zsh b79).1 = 2) ∧
                  ∀ I82 : zI, I82 = zuI I74 b79 1 ((I74 b79 1) ||| ((1 : Int32) <<< ((I15 b20 0) &&& 31) : Int32) : Int32) →
                  gw_X5_readPerson (d + 1) Q 114 [some (.ref 17), none, none, some (.int (I15 b20 0))] [] I82 L75 P76
                ))
              )
            )
          ))
        )
      )
    ) ∧ (r8 = 0 →
      zMv zm_X5_fail d [.ref 17, .int 2] I4 L5 P6 (fun I86 L87 P88 =>
        zMv zm_X5_advance d [.ref 17] I86 L87 P88 (fun I91 L92 P93 =>
          zPk P93 ∧
          zMl zm_X9_valueOf d [.ref 18, .int (I91 17 7)] I91 L92 P93 (fun r101 I97 L98 P99 =>
            ∃ b102 : Nat, P99 17 3 = some b102 ∧
            (b102 < 205 ∧ (zsh b102).1 = 2) ∧
            (((I97 17 8) = 273 →
              zMi zm_X2_find d [.ref b102, .long r101] I97 L98 P99 (fun r109 I105 L106 P107 =>
                ((r109 = (-1) →
                  ∃ b110 : Nat, P107 17 3 = some b110 ∧
                  (b110 < 205 ∧ (zsh b110).1 = 2) ∧
                  zMv zm_X2_addPerson d [.ref b110, .long r101] I105 L106 P107 (fun I113 L114 P115 =>
                    zMv zm_X5_advance d [.ref 17] I113 L114 P115 (fun I118 L119 P120 =>
                      zMi zm_X5_accept d [.ref 17, .int 257] I118 L119 P120 (fun r127 I123 L124 P125 =>
                        ((r127 = 0 →
                          gw_X5_readPerson (d + 1) Q 114 [some (.ref 17), none, none, some (.int (I97 b102 0))] [] I123 L124 P125
                        ) ∧ (¬ r127 = 0 →
                          ∃ b128 : Nat, P125 17 3 = some b128 ∧
                          (b128 < 205 ∧ (zsh b128).1 = 2) ∧
                          ∀ I131 : zI, I131 = zuI I123 b128 1 ((I123 b128 1) ||| ((1 : Int32) <<< ((I97 b102 0) &&& 31) : Int32) : Int32) →
                          gw_X5_readPerson (d + 1) Q 114 [some (.ref 17), none, none, some (.int (I97 b102 0))] [] I131 L124 P125
                        ))
                      )
                    )
                  )
                ) ∧ (¬ r109 = (-1) →
                  zMv zm_X5_fail d [.ref 17, .int 3] I105 L106 P107 (fun I134 L135 P136 =>
                    zMi zm_X5_accept d [.ref 17, .int 257] I134 L135 P136 (fun r143 I139 L140 P141 =>
                      ((r143 = 0 →
                        gw_X5_readPerson (d + 1) Q 114 [some (.ref 17), none, none, some (.int (I97 b102 0))] [] I139 L140 P141
                      ) ∧ (¬ r143 = 0 →
                        ∃ b144 : Nat, P141 17 3 = some b144 ∧
                        (b144 < 205 ∧ (zsh b144).1 = 2) ∧
                        ∀ I147 : zI, I147 = zuI I139 b144 1 ((I139 b144 1) ||| ((1 : Int32) <<< ((I97 b102 0) &&& 31) : Int32) : Int32) →
                        gw_X5_readPerson (d + 1) Q 114 [some (.ref 17), none, none, some (.int (I97 b102 0))] [] I147 L140 P141
                      ))
                    )
                  )
                ))
              )
            ) ∧ (¬ (I97 17 8) = 273 →
              zMv zm_X5_fail d [.ref 17, .int 2] I97 L98 P99 (fun I151 L152 P153 =>
                zMi zm_X5_accept d [.ref 17, .int 257] I151 L152 P153 (fun r160 I156 L157 P158 =>
                  ((r160 = 0 →
                    gw_X5_readPerson (d + 1) Q 114 [some (.ref 17), none, none, some (.int (I97 b102 0))] [] I156 L157 P158
                  ) ∧ (¬ r160 = 0 →
                    ∃ b161 : Nat, P158 17 3 = some b161 ∧
                    (b161 < 205 ∧ (zsh b161).1 = 2) ∧
                    ∀ I164 : zI, I164 = zuI I156 b161 1 ((I156 b161 1) ||| ((1 : Int32) <<< ((I97 b102 0) &&& 31) : Int32) : Int32) →
                    gw_X5_readPerson (d + 1) Q 114 [some (.ref 17), none, none, some (.int (I97 b102 0))] [] I164 L157 P158
                  ))
                )
              )
            ))
          )
        )
      )
    ))
  )
set_option maxRecDepth 20000 in
theorem g_X5_readPerson {d : Nat} {Q : zQt}  {I : zI} {L : zL} {P : zP} (hP : zPk P) (hv : v_X5_readPerson d Q  I L P) : zM zm_X5_readPerson (d + 1) 0 0 [.ref 17] I L P 205 Q := by
  unfold v_X5_readPerson at hv
  refine zM_of (lv0 := [some (.ref 17), none, none, none]) (by decide +kernel) (Nat.le_of_ble_eq_true rfl) rfl ?_
  refine z_aload_n dX5_readPerson_0 rfl ?_
  obtain ⟨b1, h2, hv⟩ := hv
  refine z_getP dX5_readPerson_1 zf_X5_41 zn_17 zo_17 (fun _ _ _ _ _ => rfl) h2 ?_
  obtain ⟨h3, hv⟩ := hv
  refine z_callV (As := []) (st := []) dX5_readPerson_4 zl_X5_97 zv_X2_takesPeople (by decide) rfl h3.1 h3.2 rfl rfl (Nat.le_of_ble_eq_true rfl) ⟨Nat.le_refl _, Nat.le_refl _⟩ ⟨Nat.le_refl _, Nat.le_refl _⟩ hv (fun v1 I4 L5 P6 nx1 q7 => ?_)
  obtain ⟨rfl, r8, rfl, hv⟩ := q7
  refine z_if_ne (tgt := 15) dX5_readPerson_7 (by decide) (fun q168 => ?_) (fun q168 => ?_)
  · have hv := hv.1 q168
    refine z_aload_n dX5_readPerson_15 rfl ?_
    refine z_callV (As := []) (st := []) dX5_readPerson_16 zl_X5_101 zv_X5_advance (by decide) rfl zn_17 zo_17 rfl rfl (Nat.le_of_ble_eq_true rfl) ⟨Nat.le_refl _, Nat.le_refl _⟩ ⟨Nat.le_refl _, Nat.le_refl _⟩ hv (fun v1 I9 L10 P11 nx1 q12 => ?_)
    obtain ⟨rfl, rfl, hv⟩ := q12
    refine z_aload_n dX5_readPerson_19 rfl ?_
    obtain ⟨h14, hv⟩ := hv
    refine z_getP dX5_readPerson_20 zf_X5_37 zn_17 zo_17 (fun _ _ _ _ _ => rfl) (h14 17 2 18 zp_17_2) ?_
    refine z_aload_n dX5_readPerson_23 rfl ?_
    refine z_getI dX5_readPerson_24 zf_X5_24 zn_17 zo_17 (fun _ _ _ _ _ => rfl) ?_
    refine z_callV (As := [.int (I9 17 7)]) (st := []) dX5_readPerson_27 zl_X5_104 zv_X9_valueOf (by decide) rfl zn_18 zo_18 rfl rfl (Nat.le_of_ble_eq_true rfl) ⟨Nat.le_refl _, Nat.le_refl _⟩ ⟨Nat.le_refl _, Nat.le_refl _⟩ hv (fun v1 I15 L16 P17 nx1 q18 => ?_)
    obtain ⟨rfl, r19, rfl, hv⟩ := q18
    refine z_lstore_n (lv2 := [some (.ref 17), some (.long r19), none, none]) dX5_readPerson_30 (by decide) rfl rfl ?_
    refine z_aload_n dX5_readPerson_31 rfl ?_
    obtain ⟨b20, h21, hv⟩ := hv
    refine z_getP dX5_readPerson_32 zf_X5_41 zn_17 zo_17 (fun _ _ _ _ _ => rfl) h21 ?_
    obtain ⟨h22, hv⟩ := hv
    refine z_getI dX5_readPerson_35 zf_X5_108 h22.1 h22.2 (fun _ _ _ _ _ => rfl) ?_
    refine z_istore_n (lv2 := [some (.ref 17), some (.long r19), none, some (.int (I15 b20 0))]) dX5_readPerson_38 (by decide) rfl rfl ?_
    refine z_aload_n dX5_readPerson_39 rfl ?_
    refine z_getI dX5_readPerson_40 zf_X5_29 zn_17 zo_17 (fun _ _ _ _ _ => rfl) ?_
    refine z_sipush (v := 273) dX5_readPerson_43 (by decide) ?_
    refine z_icmp_eq (tgt := 57) dX5_readPerson_46 (by decide) (fun q85 => ?_) (fun q85 => ?_)
    · have hv := hv.1 q85
      refine z_aload_n dX5_readPerson_57 rfl ?_
      refine z_getP dX5_readPerson_58 zf_X5_41 zn_17 zo_17 (fun _ _ _ _ _ => rfl) h21 ?_
      refine z_lload_n dX5_readPerson_61 rfl ?_
      refine z_callV (As := [.long r19]) (st := []) dX5_readPerson_62 zl_X5_111 zv_X2_find (by decide) rfl h22.1 h22.2 rfl rfl (Nat.le_of_ble_eq_true rfl) ⟨Nat.le_refl _, Nat.le_refl _⟩ ⟨Nat.le_refl _, Nat.le_refl _⟩ hv (fun v1 I23 L24 P25 nx1 q26 => ?_)
      obtain ⟨rfl, r27, rfl, hv⟩ := q26
      refine z_iconst (v := (-1)) dX5_readPerson_65 (by decide) ?_
      refine z_icmp_eq (tgt := 77) dX5_readPerson_66 (by decide) (fun q68 => ?_) (fun q68 => ?_)
      · have hv := hv.1 q68
        refine z_aload_n dX5_readPerson_77 rfl ?_
        obtain ⟨b28, h29, hv⟩ := hv
        refine z_getP dX5_readPerson_78 zf_X5_41 zn_17 zo_17 (fun _ _ _ _ _ => rfl) h29 ?_
        refine z_lload_n dX5_readPerson_81 rfl ?_
        obtain ⟨h30, hv⟩ := hv
        refine z_callV (As := [.long r19]) (st := []) dX5_readPerson_82 zl_X5_115 zv_X2_addPerson (by decide) rfl h30.1 h30.2 rfl rfl (Nat.le_of_ble_eq_true rfl) ⟨Nat.le_refl _, Nat.le_refl _⟩ ⟨Nat.le_refl _, Nat.le_refl _⟩ hv (fun v1 I31 L32 P33 nx1 q34 => ?_)
        obtain ⟨rfl, rfl, hv⟩ := q34
        refine z_aload_n dX5_readPerson_85 rfl ?_
        refine z_callV (As := []) (st := []) dX5_readPerson_86 zl_X5_101 zv_X5_advance (by decide) rfl zn_17 zo_17 rfl rfl (Nat.le_of_ble_eq_true rfl) ⟨Nat.le_refl _, Nat.le_refl _⟩ ⟨Nat.le_refl _, Nat.le_refl _⟩ hv (fun v1 I36 L37 P38 nx1 q39 => ?_)
        obtain ⟨rfl, rfl, hv⟩ := q39
        refine z_aload_n dX5_readPerson_89 rfl ?_
        refine z_sipush (v := 257) dX5_readPerson_90 (by decide) ?_
        refine z_callV (As := [.int 257]) (st := []) dX5_readPerson_93 zl_X5_119 zv_X5_accept (by decide) rfl zn_17 zo_17 rfl rfl (Nat.le_of_ble_eq_true rfl) ⟨Nat.le_refl _, Nat.le_refl _⟩ ⟨Nat.le_refl _, Nat.le_refl _⟩ hv (fun v1 I41 L42 P43 nx1 q44 => ?_)
        obtain ⟨rfl, r45, rfl, hv⟩ := q44
        refine z_if_eq (tgt := 114) dX5_readPerson_96 (by decide) (fun q51 => ?_) (fun q51 => ?_)
        · have hv := hv.1 q51
          exact z_sub (by exact ⟨rfl, ⟨rfl, trivial⟩⟩) hv
        · have hv := hv.2 q51
          refine z_aload_n dX5_readPerson_99 rfl ?_
          obtain ⟨b46, h47, hv⟩ := hv
          refine z_getP dX5_readPerson_100 zf_X5_41 zn_17 zo_17 (fun _ _ _ _ _ => rfl) h47 ?_
          refine z_dup dX5_readPerson_103 rfl ?_
          obtain ⟨h48, hv⟩ := hv
          refine z_getI dX5_readPerson_104 zf_X5_123 h48.1 h48.2 (fun _ _ _ _ _ => rfl) ?_
          refine z_iconst (v := 1) dX5_readPerson_107 (by decide) ?_
          refine z_iload_n dX5_readPerson_108 rfl ?_
          refine z_ishl dX5_readPerson_109 ?_
          refine z_ior dX5_readPerson_110 ?_
          refine z_putI dX5_readPerson_111 zf_X5_123 h48.1 h48.2 (Or.inl rfl) (fun _ _ _ _ _ => rfl) rfl rfl (z_nmI (fun I49 e50 => ?_))
          have hv := hv I49 e50
          exact z_sub (by exact ⟨rfl, ⟨rfl, trivial⟩⟩) hv
      · have hv := hv.2 q68
        refine z_aload_n dX5_readPerson_69 rfl ?_
        refine z_iconst (v := 3) dX5_readPerson_70 (by decide) ?_
        refine z_callV (As := [.int 3]) (st := []) dX5_readPerson_71 zl_X5_73 zv_X5_fail (by decide) rfl zn_17 zo_17 rfl rfl (Nat.le_of_ble_eq_true rfl) ⟨Nat.le_refl _, Nat.le_refl _⟩ ⟨Nat.le_refl _, Nat.le_refl _⟩ hv (fun v1 I52 L53 P54 nx1 q55 => ?_)
        obtain ⟨rfl, rfl, hv⟩ := q55
        refine z_goto (tgt := 89) dX5_readPerson_74 (by decide) ?_
        refine z_aload_n dX5_readPerson_89 rfl ?_
        refine z_sipush (v := 257) dX5_readPerson_90 (by decide) ?_
        refine z_callV (As := [.int 257]) (st := []) dX5_readPerson_93 zl_X5_119 zv_X5_accept (by decide) rfl zn_17 zo_17 rfl rfl (Nat.le_of_ble_eq_true rfl) ⟨Nat.le_refl _, Nat.le_refl _⟩ ⟨Nat.le_refl _, Nat.le_refl _⟩ hv (fun v1 I57 L58 P59 nx1 q60 => ?_)
        obtain ⟨rfl, r61, rfl, hv⟩ := q60
        refine z_if_eq (tgt := 114) dX5_readPerson_96 (by decide) (fun q67 => ?_) (fun q67 => ?_)
        · have hv := hv.1 q67
          exact z_sub (by exact ⟨rfl, ⟨rfl, trivial⟩⟩) hv
        · have hv := hv.2 q67
          refine z_aload_n dX5_readPerson_99 rfl ?_
          obtain ⟨b62, h63, hv⟩ := hv
          refine z_getP dX5_readPerson_100 zf_X5_41 zn_17 zo_17 (fun _ _ _ _ _ => rfl) h63 ?_
          refine z_dup dX5_readPerson_103 rfl ?_
          obtain ⟨h64, hv⟩ := hv
          refine z_getI dX5_readPerson_104 zf_X5_123 h64.1 h64.2 (fun _ _ _ _ _ => rfl) ?_
          refine z_iconst (v := 1) dX5_readPerson_107 (by decide) ?_
          refine z_iload_n dX5_readPerson_108 rfl ?_
          refine z_ishl dX5_readPerson_109 ?_
          refine z_ior dX5_readPerson_110 ?_
          refine z_putI dX5_readPerson_111 zf_X5_123 h64.1 h64.2 (Or.inl rfl) (fun _ _ _ _ _ => rfl) rfl rfl (z_nmI (fun I65 e66 => ?_))
          have hv := hv I65 e66
          exact z_sub (by exact ⟨rfl, ⟨rfl, trivial⟩⟩) hv
    · have hv := hv.2 q85
      refine z_aload_n dX5_readPerson_49 rfl ?_
      refine z_iconst (v := 2) dX5_readPerson_50 (by decide) ?_
      refine z_callV (As := [.int 2]) (st := []) dX5_readPerson_51 zl_X5_73 zv_X5_fail (by decide) rfl zn_17 zo_17 rfl rfl (Nat.le_of_ble_eq_true rfl) ⟨Nat.le_refl _, Nat.le_refl _⟩ ⟨Nat.le_refl _, Nat.le_refl _⟩ hv (fun v1 I69 L70 P71 nx1 q72 => ?_)
      obtain ⟨rfl, rfl, hv⟩ := q72
      refine z_goto (tgt := 89) dX5_readPerson_54 (by decide) ?_
      refine z_aload_n dX5_readPerson_89 rfl ?_
      refine z_sipush (v := 257) dX5_readPerson_90 (by decide) ?_
      refine z_callV (As := [.int 257]) (st := []) dX5_readPerson_93 zl_X5_119 zv_X5_accept (by decide) rfl zn_17 zo_17 rfl rfl (Nat.le_of_ble_eq_true rfl) ⟨Nat.le_refl _, Nat.le_refl _⟩ ⟨Nat.le_refl _, Nat.le_refl _⟩ hv (fun v1 I74 L75 P76 nx1 q77 => ?_)
      obtain ⟨rfl, r78, rfl, hv⟩ := q77
      refine z_if_eq (tgt := 114) dX5_readPerson_96 (by decide) (fun q84 => ?_) (fun q84 => ?_)
      · have hv := hv.1 q84
        exact z_sub (by exact ⟨rfl, ⟨rfl, trivial⟩⟩) hv
      · have hv := hv.2 q84
        refine z_aload_n dX5_readPerson_99 rfl ?_
        obtain ⟨b79, h80, hv⟩ := hv
        refine z_getP dX5_readPerson_100 zf_X5_41 zn_17 zo_17 (fun _ _ _ _ _ => rfl) h80 ?_
        refine z_dup dX5_readPerson_103 rfl ?_
        obtain ⟨h81, hv⟩ := hv
        refine z_getI dX5_readPerson_104 zf_X5_123 h81.1 h81.2 (fun _ _ _ _ _ => rfl) ?_
        refine z_iconst (v := 1) dX5_readPerson_107 (by decide) ?_
        refine z_iload_n dX5_readPerson_108 rfl ?_
        refine z_ishl dX5_readPerson_109 ?_
        refine z_ior dX5_readPerson_110 ?_
        refine z_putI dX5_readPerson_111 zf_X5_123 h81.1 h81.2 (Or.inl rfl) (fun _ _ _ _ _ => rfl) rfl rfl (z_nmI (fun I82 e83 => ?_))
        have hv := hv I82 e83
        exact z_sub (by exact ⟨rfl, ⟨rfl, trivial⟩⟩) hv
  · have hv := hv.2 q168
    refine z_aload_n dX5_readPerson_10 rfl ?_
    refine z_iconst (v := 2) dX5_readPerson_11 (by decide) ?_
    refine z_callV (As := [.int 2]) (st := []) dX5_readPerson_12 zl_X5_73 zv_X5_fail (by decide) rfl zn_17 zo_17 rfl rfl (Nat.le_of_ble_eq_true rfl) ⟨Nat.le_refl _, Nat.le_refl _⟩ ⟨Nat.le_refl _, Nat.le_refl _⟩ hv (fun v1 I86 L87 P88 nx1 q89 => ?_)
    obtain ⟨rfl, rfl, hv⟩ := q89
    refine z_aload_n dX5_readPerson_15 rfl ?_
    refine z_callV (As := []) (st := []) dX5_readPerson_16 zl_X5_101 zv_X5_advance (by decide) rfl zn_17 zo_17 rfl rfl (Nat.le_of_ble_eq_true rfl) ⟨Nat.le_refl _, Nat.le_refl _⟩ ⟨Nat.le_refl _, Nat.le_refl _⟩ hv (fun v1 I91 L92 P93 nx1 q94 => ?_)
    obtain ⟨rfl, rfl, hv⟩ := q94
    refine z_aload_n dX5_readPerson_19 rfl ?_
    obtain ⟨h96, hv⟩ := hv
    refine z_getP dX5_readPerson_20 zf_X5_37 zn_17 zo_17 (fun _ _ _ _ _ => rfl) (h96 17 2 18 zp_17_2) ?_
    refine z_aload_n dX5_readPerson_23 rfl ?_
    refine z_getI dX5_readPerson_24 zf_X5_24 zn_17 zo_17 (fun _ _ _ _ _ => rfl) ?_
    refine z_callV (As := [.int (I91 17 7)]) (st := []) dX5_readPerson_27 zl_X5_104 zv_X9_valueOf (by decide) rfl zn_18 zo_18 rfl rfl (Nat.le_of_ble_eq_true rfl) ⟨Nat.le_refl _, Nat.le_refl _⟩ ⟨Nat.le_refl _, Nat.le_refl _⟩ hv (fun v1 I97 L98 P99 nx1 q100 => ?_)
    obtain ⟨rfl, r101, rfl, hv⟩ := q100
    refine z_lstore_n (lv2 := [some (.ref 17), some (.long r101), none, none]) dX5_readPerson_30 (by decide) rfl rfl ?_
    refine z_aload_n dX5_readPerson_31 rfl ?_
    obtain ⟨b102, h103, hv⟩ := hv
    refine z_getP dX5_readPerson_32 zf_X5_41 zn_17 zo_17 (fun _ _ _ _ _ => rfl) h103 ?_
    obtain ⟨h104, hv⟩ := hv
    refine z_getI dX5_readPerson_35 zf_X5_108 h104.1 h104.2 (fun _ _ _ _ _ => rfl) ?_
    refine z_istore_n (lv2 := [some (.ref 17), some (.long r101), none, some (.int (I97 b102 0))]) dX5_readPerson_38 (by decide) rfl rfl ?_
    refine z_aload_n dX5_readPerson_39 rfl ?_
    refine z_getI dX5_readPerson_40 zf_X5_29 zn_17 zo_17 (fun _ _ _ _ _ => rfl) ?_
    refine z_sipush (v := 273) dX5_readPerson_43 (by decide) ?_
    refine z_icmp_eq (tgt := 57) dX5_readPerson_46 (by decide) (fun q167 => ?_) (fun q167 => ?_)
    · have hv := hv.1 q167
      refine z_aload_n dX5_readPerson_57 rfl ?_
      refine z_getP dX5_readPerson_58 zf_X5_41 zn_17 zo_17 (fun _ _ _ _ _ => rfl) h103 ?_
      refine z_lload_n dX5_readPerson_61 rfl ?_
      refine z_callV (As := [.long r101]) (st := []) dX5_readPerson_62 zl_X5_111 zv_X2_find (by decide) rfl h104.1 h104.2 rfl rfl (Nat.le_of_ble_eq_true rfl) ⟨Nat.le_refl _, Nat.le_refl _⟩ ⟨Nat.le_refl _, Nat.le_refl _⟩ hv (fun v1 I105 L106 P107 nx1 q108 => ?_)
      obtain ⟨rfl, r109, rfl, hv⟩ := q108
      refine z_iconst (v := (-1)) dX5_readPerson_65 (by decide) ?_
      refine z_icmp_eq (tgt := 77) dX5_readPerson_66 (by decide) (fun q150 => ?_) (fun q150 => ?_)
      · have hv := hv.1 q150
        refine z_aload_n dX5_readPerson_77 rfl ?_
        obtain ⟨b110, h111, hv⟩ := hv
        refine z_getP dX5_readPerson_78 zf_X5_41 zn_17 zo_17 (fun _ _ _ _ _ => rfl) h111 ?_
        refine z_lload_n dX5_readPerson_81 rfl ?_
        obtain ⟨h112, hv⟩ := hv
        refine z_callV (As := [.long r101]) (st := []) dX5_readPerson_82 zl_X5_115 zv_X2_addPerson (by decide) rfl h112.1 h112.2 rfl rfl (Nat.le_of_ble_eq_true rfl) ⟨Nat.le_refl _, Nat.le_refl _⟩ ⟨Nat.le_refl _, Nat.le_refl _⟩ hv (fun v1 I113 L114 P115 nx1 q116 => ?_)
        obtain ⟨rfl, rfl, hv⟩ := q116
        refine z_aload_n dX5_readPerson_85 rfl ?_
        refine z_callV (As := []) (st := []) dX5_readPerson_86 zl_X5_101 zv_X5_advance (by decide) rfl zn_17 zo_17 rfl rfl (Nat.le_of_ble_eq_true rfl) ⟨Nat.le_refl _, Nat.le_refl _⟩ ⟨Nat.le_refl _, Nat.le_refl _⟩ hv (fun v1 I118 L119 P120 nx1 q121 => ?_)
        obtain ⟨rfl, rfl, hv⟩ := q121
        refine z_aload_n dX5_readPerson_89 rfl ?_
        refine z_sipush (v := 257) dX5_readPerson_90 (by decide) ?_
        refine z_callV (As := [.int 257]) (st := []) dX5_readPerson_93 zl_X5_119 zv_X5_accept (by decide) rfl zn_17 zo_17 rfl rfl (Nat.le_of_ble_eq_true rfl) ⟨Nat.le_refl _, Nat.le_refl _⟩ ⟨Nat.le_refl _, Nat.le_refl _⟩ hv (fun v1 I123 L124 P125 nx1 q126 => ?_)
        obtain ⟨rfl, r127, rfl, hv⟩ := q126
        refine z_if_eq (tgt := 114) dX5_readPerson_96 (by decide) (fun q133 => ?_) (fun q133 => ?_)
        · have hv := hv.1 q133
          exact z_sub (by exact ⟨rfl, ⟨rfl, trivial⟩⟩) hv
        · have hv := hv.2 q133
          refine z_aload_n dX5_readPerson_99 rfl ?_
          obtain ⟨b128, h129, hv⟩ := hv
          refine z_getP dX5_readPerson_100 zf_X5_41 zn_17 zo_17 (fun _ _ _ _ _ => rfl) h129 ?_
          refine z_dup dX5_readPerson_103 rfl ?_
          obtain ⟨h130, hv⟩ := hv
          refine z_getI dX5_readPerson_104 zf_X5_123 h130.1 h130.2 (fun _ _ _ _ _ => rfl) ?_
          refine z_iconst (v := 1) dX5_readPerson_107 (by decide) ?_
          refine z_iload_n dX5_readPerson_108 rfl ?_
          refine z_ishl dX5_readPerson_109 ?_
          refine z_ior dX5_readPerson_110 ?_
          refine z_putI dX5_readPerson_111 zf_X5_123 h130.1 h130.2 (Or.inl rfl) (fun _ _ _ _ _ => rfl) rfl rfl (z_nmI (fun I131 e132 => ?_))
          have hv := hv I131 e132
          exact z_sub (by exact ⟨rfl, ⟨rfl, trivial⟩⟩) hv
      · have hv := hv.2 q150
        refine z_aload_n dX5_readPerson_69 rfl ?_
        refine z_iconst (v := 3) dX5_readPerson_70 (by decide) ?_
        refine z_callV (As := [.int 3]) (st := []) dX5_readPerson_71 zl_X5_73 zv_X5_fail (by decide) rfl zn_17 zo_17 rfl rfl (Nat.le_of_ble_eq_true rfl) ⟨Nat.le_refl _, Nat.le_refl _⟩ ⟨Nat.le_refl _, Nat.le_refl _⟩ hv (fun v1 I134 L135 P136 nx1 q137 => ?_)
        obtain ⟨rfl, rfl, hv⟩ := q137
        refine z_goto (tgt := 89) dX5_readPerson_74 (by decide) ?_
        refine z_aload_n dX5_readPerson_89 rfl ?_
        refine z_sipush (v := 257) dX5_readPerson_90 (by decide) ?_
        refine z_callV (As := [.int 257]) (st := []) dX5_readPerson_93 zl_X5_119 zv_X5_accept (by decide) rfl zn_17 zo_17 rfl rfl (Nat.le_of_ble_eq_true rfl) ⟨Nat.le_refl _, Nat.le_refl _⟩ ⟨Nat.le_refl _, Nat.le_refl _⟩ hv (fun v1 I139 L140 P141 nx1 q142 => ?_)
        obtain ⟨rfl, r143, rfl, hv⟩ := q142
        refine z_if_eq (tgt := 114) dX5_readPerson_96 (by decide) (fun q149 => ?_) (fun q149 => ?_)
        · have hv := hv.1 q149
          exact z_sub (by exact ⟨rfl, ⟨rfl, trivial⟩⟩) hv
        · have hv := hv.2 q149
          refine z_aload_n dX5_readPerson_99 rfl ?_
          obtain ⟨b144, h145, hv⟩ := hv
          refine z_getP dX5_readPerson_100 zf_X5_41 zn_17 zo_17 (fun _ _ _ _ _ => rfl) h145 ?_
          refine z_dup dX5_readPerson_103 rfl ?_
          obtain ⟨h146, hv⟩ := hv
          refine z_getI dX5_readPerson_104 zf_X5_123 h146.1 h146.2 (fun _ _ _ _ _ => rfl) ?_
          refine z_iconst (v := 1) dX5_readPerson_107 (by decide) ?_
          refine z_iload_n dX5_readPerson_108 rfl ?_
          refine z_ishl dX5_readPerson_109 ?_
          refine z_ior dX5_readPerson_110 ?_
          refine z_putI dX5_readPerson_111 zf_X5_123 h146.1 h146.2 (Or.inl rfl) (fun _ _ _ _ _ => rfl) rfl rfl (z_nmI (fun I147 e148 => ?_))
          have hv := hv I147 e148
          exact z_sub (by exact ⟨rfl, ⟨rfl, trivial⟩⟩) hv
    · have hv := hv.2 q167
      refine z_aload_n dX5_readPerson_49 rfl ?_
      refine z_iconst (v := 2) dX5_readPerson_50 (by decide) ?_
      refine z_callV (As := [.int 2]) (st := []) dX5_readPerson_51 zl_X5_73 zv_X5_fail (by decide) rfl zn_17 zo_17 rfl rfl (Nat.le_of_ble_eq_true rfl) ⟨Nat.le_refl _, Nat.le_refl _⟩ ⟨Nat.le_refl _, Nat.le_refl _⟩ hv (fun v1 I151 L152 P153 nx1 q154 => ?_)
      obtain ⟨rfl, rfl, hv⟩ := q154
      refine z_goto (tgt := 89) dX5_readPerson_54 (by decide) ?_
      refine z_aload_n dX5_readPerson_89 rfl ?_
      refine z_sipush (v := 257) dX5_readPerson_90 (by decide) ?_
      refine z_callV (As := [.int 257]) (st := []) dX5_readPerson_93 zl_X5_119 zv_X5_accept (by decide) rfl zn_17 zo_17 rfl rfl (Nat.le_of_ble_eq_true rfl) ⟨Nat.le_refl _, Nat.le_refl _⟩ ⟨Nat.le_refl _, Nat.le_refl _⟩ hv (fun v1 I156 L157 P158 nx1 q159 => ?_)
      obtain ⟨rfl, r160, rfl, hv⟩ := q159
      refine z_if_eq (tgt := 114) dX5_readPerson_96 (by decide) (fun q166 => ?_) (fun q166 => ?_)
      · have hv := hv.1 q166
        exact z_sub (by exact ⟨rfl, ⟨rfl, trivial⟩⟩) hv
      · have hv := hv.2 q166
        refine z_aload_n dX5_readPerson_99 rfl ?_
        obtain ⟨b161, h162, hv⟩ := hv
        refine z_getP dX5_readPerson_100 zf_X5_41 zn_17 zo_17 (fun _ _ _ _ _ => rfl) h162 ?_
        refine z_dup dX5_readPerson_103 rfl ?_
        obtain ⟨h163, hv⟩ := hv
        refine z_getI dX5_readPerson_104 zf_X5_123 h163.1 h163.2 (fun _ _ _ _ _ => rfl) ?_
        refine z_iconst (v := 1) dX5_readPerson_107 (by decide) ?_
        refine z_iload_n dX5_readPerson_108 rfl ?_
        refine z_ishl dX5_readPerson_109 ?_
        refine z_ior dX5_readPerson_110 ?_
        refine z_putI dX5_readPerson_111 zf_X5_123 h163.1 h163.2 (Or.inl rfl) (fun _ _ _ _ _ => rfl) rfl rfl (z_nmI (fun I164 e165 => ?_))
        have hv := hv I164 e165
        exact z_sub (by exact ⟨rfl, ⟨rfl, trivial⟩⟩) hv
abbrev gw_X5_readBlind (d : Nat) (Q : zQt) (pc : Nat) (lv : zV) (st : List Value) (I : zI) (L : zL) (P : zP) : Prop := zW zm_X5_readBlind (zRm d 0 0) 0 0 Q pc lv st I L P 205 0 0
def v_X5_readBlind_75 (d : Nat) (Q : zQt)  (I : zI) (L : zL) (P : zP) : Prop :=
  zMv zm_X5_advance d [.ref 17] I L P (fun I89 L90 P91 =>
    Q none I89 L90 P91 205
  )
set_option maxRecDepth 20000 in
theorem g_X5_readBlind_75 {d : Nat} {Q : zQt}  {I : zI} {L : zL} {P : zP} (hP : zPk P) (hv : v_X5_readBlind_75 d Q  I L P) : gw_X5_readBlind (d + 1) Q 75 [some (.ref 17), none, none] [] I L P := by
  unfold v_X5_readBlind_75 at hv
  refine z_aload_n dX5_readBlind_75 rfl ?_
  refine z_callV (As := []) (st := []) dX5_readBlind_76 zl_X5_101 zv_X5_advance (by decide) rfl zn_17 zo_17 rfl rfl (Nat.le_of_ble_eq_true rfl) ⟨Nat.le_refl _, Nat.le_refl _⟩ ⟨Nat.le_refl _, Nat.le_refl _⟩ hv (fun v1 I89 L90 P91 nx1 q92 => ?_)
  obtain ⟨rfl, rfl, hv⟩ := q92
  exact z_return dX5_readBlind_79 rfl (Nat.le_refl _) (Nat.le_refl _) hv
def v_X5_readBlind_59 (d : Nat) (Q : zQt) (x1 : Int32) (x2 : Int32) (I : zI) (L : zL) (P : zP) : Prop :=
  ((¬ (I 17 0) = 0 →
    gw_X5_readBlind (d + 1) Q 75 [some (.ref 17), none, none] [] I L P
  ) ∧ ((I 17 0) = 0 →
    ∃ b80 : Nat, P 17 3 = some b80 ∧
    (b80 < 205 ∧ (zsh b80).1 = 2) ∧
    zMv zm_X2_addBlind d [.ref b80, .int x1, .int x2] I L P (fun I83 L84 P85 =>
      gw_X5_readBlind (d + 1) Q 75 [some (.ref 17), none, none] [] I83 L84 P85
    )
  ))
set_option maxRecDepth 20000 in
theorem g_X5_readBlind_59 {d : Nat} {Q : zQt} {x1 : Int32} {x2 : Int32} {I : zI} {L : zL} {P : zP} (hP : zPk P) (hv : v_X5_readBlind_59 d Q x1 x2 I L P) : gw_X5_readBlind (d + 1) Q 59 [some (.ref 17), some (.int x1), some (.int x2)] [] I L P := by
  unfold v_X5_readBlind_59 at hv
  refine z_aload_n dX5_readBlind_59 rfl ?_
  refine z_getI dX5_readBlind_60 zf_X5_9 zn_17 zo_17 (fun _ _ _ _ _ => rfl) ?_
  refine z_if_ne (tgt := 75) dX5_readBlind_63 (by decide) (fun q88 => ?_) (fun q88 => ?_)
  · have hv := hv.1 q88
    exact z_sub (by exact ⟨rfl, trivial⟩) hv
  · have hv := hv.2 q88
    refine z_aload_n dX5_readBlind_66 rfl ?_
    obtain ⟨b80, h81, hv⟩ := hv
    refine z_getP dX5_readBlind_67 zf_X5_41 zn_17 zo_17 (fun _ _ _ _ _ => rfl) h81 ?_
    refine z_iload_n dX5_readBlind_70 rfl ?_
    refine z_iload_n dX5_readBlind_71 rfl ?_
    obtain ⟨h82, hv⟩ := hv
    refine z_callV (As := [.int x1, .int x2]) (st := []) dX5_readBlind_72 zl_X5_143 zv_X2_addBlind (by decide) rfl h82.1 h82.2 rfl rfl (Nat.le_of_ble_eq_true rfl) ⟨Nat.le_refl _, Nat.le_refl _⟩ ⟨Nat.le_refl _, Nat.le_refl _⟩ hv (fun v1 I83 L84 P85 nx1 q86 => ?_)
    obtain ⟨rfl, rfl, hv⟩ := q86
    exact z_sub (by exact ⟨rfl, trivial⟩) hv
def v_X5_readBlind (d : Nat) (Q : zQt)  (I : zI) (L : zL) (P : zP) : Prop :=
  ∃ b1 : Nat, P 17 3 = some b1 ∧
  (b1 < 205 ∧ (zsh b1).1 = 2) ∧
  (((I b1 3) < 30 →
    zMv zm_X5_advance d [.ref 17] I L P (fun I4 L5 P6 =>
      zMi zm_X5_readName d [.ref 17] I4 L5 P6 (fun r13 I9 L10 P11 =>
        zMv zm_X5_advance d [.ref 17] I9 L10 P11 (fun I14 L15 P16 =>
          zMi zm_X5_readName d [.ref 17] I14 L15 P16 (fun r23 I19 L20 P21 =>
            ((¬ (I19 17 0) = 0 →
              gw_X5_readBlind (d + 1) Q 59 [some (.ref 17), some (.int r13), some (.int r23)] [] I19 L20 P21
            ) ∧ ((I19 17 0) = 0 →
              ∃ b24 : Nat, P21 17 3 = some b24 ∧
              (b24 < 205 ∧ (zsh b24).1 = 2) ∧
              zMi zm_X2_canBlind d [.ref b24, .int r13, .int r23] I19 L20 P21 (fun r31 I27 L28 P29 =>
                ((¬ r31 = 0 →
                  gw_X5_readBlind (d + 1) Q 59 [some (.ref 17), some (.int r13), some (.int r23)] [] I27 L28 P29
                ) ∧ (r31 = 0 →
                  zMv zm_X5_fail d [.ref 17, .int 3] I27 L28 P29 (fun I32 L33 P34 =>
                    gw_X5_readBlind (d + 1) Q 59 [some (.ref 17), some (.int r13), some (.int r23)] [] I32 L33 P34
                  )
                ))
              )
            ))
          )
        )
      )
    )
  ) ∧ (¬ (I b1 3) < 30 →
    zMv zm_X5_fail d [.ref 17, .int 2] I L P (fun I39 L40 P41 =>
      zMv zm_X5_advance d [.ref 17] I39 L40 P41 (fun I44 L45 P46 =>
        zMi zm_X5_readName d [.ref 17] I44 L45 P46 (fun r53 I49 L50 P51 =>
          zMv zm_X5_advance d [.ref 17] I49 L50 P51 (fun I54 L55 P56 =>
            zMi zm_X5_readName d [.ref 17] I54 L55 P56 (fun r63 I59 L60 P61 =>
              ((¬ (I59 17 0) = 0 →
                gw_X5_readBlind (d + 1) Q 59 [some (.ref 17), some (.int r53), some (.int r63)] [] I59 L60 P61
              ) ∧ ((I59 17 0) = 0 →
                ∃ b64 : Nat, P61 17 3 = some b64 ∧
                (b64 < 205 ∧ (zsh b64).1 = 2) ∧
                zMi zm_X2_canBlind d [.ref b64, .int r53, .int r63] I59 L60 P61 (fun r71 I67 L68 P69 =>
                  ((¬ r71 = 0 →
                    gw_X5_readBlind (d + 1) Q 59 [some (.ref 17), some (.int r53), some (.int r63)] [] I67 L68 P69
                  ) ∧ (r71 = 0 →
                    zMv zm_X5_fail d [.ref 17, .int 3] I67 L68 P69 (fun I72 L73 P74 =>
                      gw_X5_readBlind (d + 1) Q 59 [some (.ref 17), some (.int r53), some (.int r63)] [] I72 L73 P74
                    )
                  ))
                )
              ))
            )
          )
        )
      )
    )
  ))
set_option maxRecDepth 20000 in
theorem g_X5_readBlind {d : Nat} {Q : zQt}  {I : zI} {L : zL} {P : zP} (hP : zPk P) (hv : v_X5_readBlind d Q  I L P) : zM zm_X5_readBlind (d + 1) 0 0 [.ref 17] I L P 205 Q := by
  unfold v_X5_readBlind at hv
  refine zM_of (lv0 := [some (.ref 17), none, none]) (by decide +kernel) (Nat.le_of_ble_eq_true rfl) rfl ?_
  refine z_aload_n dX5_readBlind_0 rfl ?_
  obtain ⟨b1, h2, hv⟩ := hv
  refine z_getP dX5_readBlind_1 zf_X5_41 zn_17 zo_17 (fun _ _ _ _ _ => rfl) h2 ?_
  obtain ⟨h3, hv⟩ := hv
  refine z_getI dX5_readBlind_4 zf_X5_132 h3.1 h3.2 (fun _ _ _ _ _ => rfl) ?_
  refine z_bipush (v := 30) dX5_readBlind_7 (by decide) ?_
  refine z_icmp_lt (tgt := 17) dX5_readBlind_9 (by decide) (fun q79 => ?_) (fun q79 => ?_)
  · have hv := hv.1 q79
    refine z_aload_n dX5_readBlind_17 rfl ?_
    refine z_callV (As := []) (st := []) dX5_readBlind_18 zl_X5_101 zv_X5_advance (by decide) rfl zn_17 zo_17 rfl rfl (Nat.le_of_ble_eq_true rfl) ⟨Nat.le_refl _, Nat.le_refl _⟩ ⟨Nat.le_refl _, Nat.le_refl _⟩ hv (fun v1 I4 L5 P6 nx1 q7 => ?_)
    obtain ⟨rfl, rfl, hv⟩ := q7
    refine z_aload_n dX5_readBlind_21 rfl ?_
    refine z_callV (As := []) (st := []) dX5_readBlind_22 zl_X5_135 zv_X5_readName (by decide) rfl zn_17 zo_17 rfl rfl (Nat.le_of_ble_eq_true rfl) ⟨Nat.le_refl _, Nat.le_refl _⟩ ⟨Nat.le_refl _, Nat.le_refl _⟩ hv (fun v1 I9 L10 P11 nx1 q12 => ?_)
    obtain ⟨rfl, r13, rfl, hv⟩ := q12
    refine z_istore_n (lv2 := [some (.ref 17), some (.int r13), none]) dX5_readBlind_25 (by decide) rfl rfl ?_
    refine z_aload_n dX5_readBlind_26 rfl ?_
    refine z_callV (As := []) (st := []) dX5_readBlind_27 zl_X5_101 zv_X5_advance (by decide) rfl zn_17 zo_17 rfl rfl (Nat.le_of_ble_eq_true rfl) ⟨Nat.le_refl _, Nat.le_refl _⟩ ⟨Nat.le_refl _, Nat.le_refl _⟩ hv (fun v1 I14 L15 P16 nx1 q17 => ?_)
    obtain ⟨rfl, rfl, hv⟩ := q17
    refine z_aload_n dX5_readBlind_30 rfl ?_
    refine z_callV (As := []) (st := []) dX5_readBlind_31 zl_X5_135 zv_X5_readName (by decide) rfl zn_17 zo_17 rfl rfl (Nat.le_of_ble_eq_true rfl) ⟨Nat.le_refl _, Nat.le_refl _⟩ ⟨Nat.le_refl _, Nat.le_refl _⟩ hv (fun v1 I19 L20 P21 nx1 q22 => ?_)
    obtain ⟨rfl, r23, rfl, hv⟩ := q22
    refine z_istore_n (lv2 := [some (.ref 17), some (.int r13), some (.int r23)]) dX5_readBlind_34 (by decide) rfl rfl ?_
    refine z_aload_n dX5_readBlind_35 rfl ?_
    refine z_getI dX5_readBlind_36 zf_X5_9 zn_17 zo_17 (fun _ _ _ _ _ => rfl) ?_
    refine z_if_ne (tgt := 59) dX5_readBlind_39 (by decide) (fun q38 => ?_) (fun q38 => ?_)
    · have hv := hv.1 q38
      exact hv
    · have hv := hv.2 q38
      refine z_aload_n dX5_readBlind_42 rfl ?_
      obtain ⟨b24, h25, hv⟩ := hv
      refine z_getP dX5_readBlind_43 zf_X5_41 zn_17 zo_17 (fun _ _ _ _ _ => rfl) h25 ?_
      refine z_iload_n dX5_readBlind_46 rfl ?_
      refine z_iload_n dX5_readBlind_47 rfl ?_
      obtain ⟨h26, hv⟩ := hv
      refine z_callV (As := [.int r13, .int r23]) (st := []) dX5_readBlind_48 zl_X5_139 zv_X2_canBlind (by decide) rfl h26.1 h26.2 rfl rfl (Nat.le_of_ble_eq_true rfl) ⟨Nat.le_refl _, Nat.le_refl _⟩ ⟨Nat.le_refl _, Nat.le_refl _⟩ hv (fun v1 I27 L28 P29 nx1 q30 => ?_)
      obtain ⟨rfl, r31, rfl, hv⟩ := q30
      refine z_if_ne (tgt := 59) dX5_readBlind_51 (by decide) (fun q37 => ?_) (fun q37 => ?_)
      · have hv := hv.1 q37
        exact hv
      · have hv := hv.2 q37
        refine z_aload_n dX5_readBlind_54 rfl ?_
        refine z_iconst (v := 3) dX5_readBlind_55 (by decide) ?_
        refine z_callV (As := [.int 3]) (st := []) dX5_readBlind_56 zl_X5_73 zv_X5_fail (by decide) rfl zn_17 zo_17 rfl rfl (Nat.le_of_ble_eq_true rfl) ⟨Nat.le_refl _, Nat.le_refl _⟩ ⟨Nat.le_refl _, Nat.le_refl _⟩ hv (fun v1 I32 L33 P34 nx1 q35 => ?_)
        obtain ⟨rfl, rfl, hv⟩ := q35
        exact hv
  · have hv := hv.2 q79
    refine z_aload_n dX5_readBlind_12 rfl ?_
    refine z_iconst (v := 2) dX5_readBlind_13 (by decide) ?_
    refine z_callV (As := [.int 2]) (st := []) dX5_readBlind_14 zl_X5_73 zv_X5_fail (by decide) rfl zn_17 zo_17 rfl rfl (Nat.le_of_ble_eq_true rfl) ⟨Nat.le_refl _, Nat.le_refl _⟩ ⟨Nat.le_refl _, Nat.le_refl _⟩ hv (fun v1 I39 L40 P41 nx1 q42 => ?_)
    obtain ⟨rfl, rfl, hv⟩ := q42
    refine z_aload_n dX5_readBlind_17 rfl ?_
    refine z_callV (As := []) (st := []) dX5_readBlind_18 zl_X5_101 zv_X5_advance (by decide) rfl zn_17 zo_17 rfl rfl (Nat.le_of_ble_eq_true rfl) ⟨Nat.le_refl _, Nat.le_refl _⟩ ⟨Nat.le_refl _, Nat.le_refl _⟩ hv (fun v1 I44 L45 P46 nx1 q47 => ?_)
    obtain ⟨rfl, rfl, hv⟩ := q47
    refine z_aload_n dX5_readBlind_21 rfl ?_
    refine z_callV (As := []) (st := []) dX5_readBlind_22 zl_X5_135 zv_X5_readName (by decide) rfl zn_17 zo_17 rfl rfl (Nat.le_of_ble_eq_true rfl) ⟨Nat.le_refl _, Nat.le_refl _⟩ ⟨Nat.le_refl _, Nat.le_refl _⟩ hv (fun v1 I49 L50 P51 nx1 q52 => ?_)
    obtain ⟨rfl, r53, rfl, hv⟩ := q52
    refine z_istore_n (lv2 := [some (.ref 17), some (.int r53), none]) dX5_readBlind_25 (by decide) rfl rfl ?_
    refine z_aload_n dX5_readBlind_26 rfl ?_
    refine z_callV (As := []) (st := []) dX5_readBlind_27 zl_X5_101 zv_X5_advance (by decide) rfl zn_17 zo_17 rfl rfl (Nat.le_of_ble_eq_true rfl) ⟨Nat.le_refl _, Nat.le_refl _⟩ ⟨Nat.le_refl _, Nat.le_refl _⟩ hv (fun v1 I54 L55 P56 nx1 q57 => ?_)
    obtain ⟨rfl, rfl, hv⟩ := q57
    refine z_aload_n dX5_readBlind_30 rfl ?_
    refine z_callV (As := []) (st := []) dX5_readBlind_31 zl_X5_135 zv_X5_readName (by decide) rfl zn_17 zo_17 rfl rfl (Nat.le_of_ble_eq_true rfl) ⟨Nat.le_refl _, Nat.le_refl _⟩ ⟨Nat.le_refl _, Nat.le_refl _⟩ hv (fun v1 I59 L60 P61 nx1 q62 => ?_)
    obtain ⟨rfl, r63, rfl, hv⟩ := q62
    refine z_istore_n (lv2 := [some (.ref 17), some (.int r53), some (.int r63)]) dX5_readBlind_34 (by decide) rfl rfl ?_
    refine z_aload_n dX5_readBlind_35 rfl ?_
    refine z_getI dX5_readBlind_36 zf_X5_9 zn_17 zo_17 (fun _ _ _ _ _ => rfl) ?_
    refine z_if_ne (tgt := 59) dX5_readBlind_39 (by decide) (fun q78 => ?_) (fun q78 => ?_)
    · have hv := hv.1 q78
      exact hv
    · have hv := hv.2 q78
      refine z_aload_n dX5_readBlind_42 rfl ?_
      obtain ⟨b64, h65, hv⟩ := hv
      refine z_getP dX5_readBlind_43 zf_X5_41 zn_17 zo_17 (fun _ _ _ _ _ => rfl) h65 ?_
      refine z_iload_n dX5_readBlind_46 rfl ?_
      refine z_iload_n dX5_readBlind_47 rfl ?_
      obtain ⟨h66, hv⟩ := hv
      refine z_callV (As := [.int r53, .int r63]) (st := []) dX5_readBlind_48 zl_X5_139 zv_X2_canBlind (by decide) rfl h66.1 h66.2 rfl rfl (Nat.le_of_ble_eq_true rfl) ⟨Nat.le_refl _, Nat.le_refl _⟩ ⟨Nat.le_refl _, Nat.le_refl _⟩ hv (fun v1 I67 L68 P69 nx1 q70 => ?_)
      obtain ⟨rfl, r71, rfl, hv⟩ := q70
      refine z_if_ne (tgt := 59) dX5_readBlind_51 (by decide) (fun q77 => ?_) (fun q77 => ?_)
      · have hv := hv.1 q77
        exact hv
      · have hv := hv.2 q77
        refine z_aload_n dX5_readBlind_54 rfl ?_
        refine z_iconst (v := 3) dX5_readBlind_55 (by decide) ?_
        refine z_callV (As := [.int 3]) (st := []) dX5_readBlind_56 zl_X5_73 zv_X5_fail (by decide) rfl zn_17 zo_17 rfl rfl (Nat.le_of_ble_eq_true rfl) ⟨Nat.le_refl _, Nat.le_refl _⟩ ⟨Nat.le_refl _, Nat.le_refl _⟩ hv (fun v1 I72 L73 P74 nx1 q75 => ?_)
        obtain ⟨rfl, rfl, hv⟩ := q75
        exact hv
abbrev gw_X5_readLaw (d : Nat) (Q : zQt) (pc : Nat) (lv : zV) (st : List Value) (I : zI) (L : zL) (P : zP) : Prop := zW zm_X5_readLaw (zRm d 0 0) 0 0 Q pc lv st I L P 205 0 0
def v_X5_readLaw (d : Nat) (Q : zQt)  (I : zI) (L : zL) (P : zP) : Prop :=
  ∃ b1 : Nat, P 17 3 = some b1 ∧
  (b1 < 205 ∧ (zsh b1).1 = 2) ∧
  (((I b1 6) = 0 →
    ∀ I4 : zI, I4 = zuI I b1 6 1 →
    zMv zm_X5_advance d [.ref 17] I4 L P (fun I6 L7 P8 =>
      zMi zm_X5_accept d [.ref 17, .int 263] I6 L7 P8 (fun r15 I11 L12 P13 =>
        ((r15 = 0 →
          zMv zm_X5_expect d [.ref 17, .int 262] I11 L12 P13 (fun I16 L17 P18 =>
            Q none I16 L17 P18 205
          )
        ) ∧ (¬ r15 = 0 →
          ∃ b21 : Nat, P13 17 3 = some b21 ∧
          (b21 < 205 ∧ (zsh b21).1 = 2) ∧
          ∀ I24 : zI, I24 = zuI I11 b21 7 1 →
          Q none I24 L12 P13 205
        ))
      )
    )
  ) ∧ (¬ (I b1 6) = 0 →
    zMv zm_X5_fail d [.ref 17, .int 2] I L P (fun I27 L28 P29 =>
      ∃ b32 : Nat, P29 17 3 = some b32 ∧
      (b32 < 205 ∧ (zsh b32).1 = 2) ∧
      ∀ I35 : zI, I35 = zuI I27 b32 6 1 →
      zMv zm_X5_advance d [.ref 17] I35 L28 P29 (fun I37 L38 P39 =>
        zMi zm_X5_accept d [.ref 17, .int 263] I37 L38 P39 (fun r46 I42 L43 P44 =>
          ((r46 = 0 →
            zMv zm_X5_expect d [.ref 17, .int 262] I42 L43 P44 (fun I47 L48 P49 =>
              Q none I47 L48 P49 205
            )
          ) ∧ (¬ r46 = 0 →
            ∃ b52 : Nat, P44 17 3 = some b52 ∧
            (b52 < 205 ∧ (zsh b52).1 = 2) ∧
            ∀ I55 : zI, I55 = zuI I42 b52 7 1 →
            Q none I55 L43 P44 205
          ))
        )
      )
    )
  ))
set_option maxRecDepth 20000 in
theorem g_X5_readLaw {d : Nat} {Q : zQt}  {I : zI} {L : zL} {P : zP} (hP : zPk P) (hv : v_X5_readLaw d Q  I L P) : zM zm_X5_readLaw (d + 1) 0 0 [.ref 17] I L P 205 Q := by
  unfold v_X5_readLaw at hv
  refine zM_of (lv0 := [some (.ref 17)]) (by decide +kernel) (Nat.le_of_ble_eq_true rfl) rfl ?_
  refine z_aload_n dX5_readLaw_0 rfl ?_
  obtain ⟨b1, h2, hv⟩ := hv
  refine z_getP dX5_readLaw_1 zf_X5_41 zn_17 zo_17 (fun _ _ _ _ _ => rfl) h2 ?_
  obtain ⟨h3, hv⟩ := hv
  refine z_getI dX5_readLaw_4 zf_X5_146 h3.1 h3.2 (fun _ _ _ _ _ => rfl) ?_
  refine z_if_eq (tgt := 15) dX5_readLaw_7 (by decide) (fun q58 => ?_) (fun q58 => ?_)
  · have hv := hv.1 q58
    refine z_aload_n dX5_readLaw_15 rfl ?_
    refine z_getP dX5_readLaw_16 zf_X5_41 zn_17 zo_17 (fun _ _ _ _ _ => rfl) h2 ?_
    refine z_iconst (v := 1) dX5_readLaw_19 (by decide) ?_
    refine z_putI dX5_readLaw_20 zf_X5_146 h3.1 h3.2 (Or.inl rfl) (fun _ _ _ _ _ => rfl) (by decide) (by decide) (z_nmI (fun I4 e5 => ?_))
    have hv := hv I4 e5
    refine z_aload_n dX5_readLaw_23 rfl ?_
    refine z_callV (As := []) (st := []) dX5_readLaw_24 zl_X5_101 zv_X5_advance (by decide) rfl zn_17 zo_17 rfl rfl (Nat.le_of_ble_eq_true rfl) ⟨Nat.le_refl _, Nat.le_refl _⟩ ⟨Nat.le_refl _, Nat.le_refl _⟩ hv (fun v1 I6 L7 P8 nx1 q9 => ?_)
    obtain ⟨rfl, rfl, hv⟩ := q9
    refine z_aload_n dX5_readLaw_27 rfl ?_
    refine z_sipush (v := 263) dX5_readLaw_28 (by decide) ?_
    refine z_callV (As := [.int 263]) (st := []) dX5_readLaw_31 zl_X5_119 zv_X5_accept (by decide) rfl zn_17 zo_17 rfl rfl (Nat.le_of_ble_eq_true rfl) ⟨Nat.le_refl _, Nat.le_refl _⟩ ⟨Nat.le_refl _, Nat.le_refl _⟩ hv (fun v1 I11 L12 P13 nx1 q14 => ?_)
    obtain ⟨rfl, r15, rfl, hv⟩ := q14
    refine z_if_eq (tgt := 48) dX5_readLaw_34 (by decide) (fun q26 => ?_) (fun q26 => ?_)
    · have hv := hv.1 q26
      refine z_aload_n dX5_readLaw_48 rfl ?_
      refine z_sipush (v := 262) dX5_readLaw_49 (by decide) ?_
      refine z_callV (As := [.int 262]) (st := []) dX5_readLaw_52 zl_X5_77 zv_X5_expect (by decide) rfl zn_17 zo_17 rfl rfl (Nat.le_of_ble_eq_true rfl) ⟨Nat.le_refl _, Nat.le_refl _⟩ ⟨Nat.le_refl _, Nat.le_refl _⟩ hv (fun v1 I16 L17 P18 nx1 q19 => ?_)
      obtain ⟨rfl, rfl, hv⟩ := q19
      exact z_return dX5_readLaw_55 rfl (Nat.le_refl _) (Nat.le_refl _) hv
    · have hv := hv.2 q26
      refine z_aload_n dX5_readLaw_37 rfl ?_
      obtain ⟨b21, h22, hv⟩ := hv
      refine z_getP dX5_readLaw_38 zf_X5_41 zn_17 zo_17 (fun _ _ _ _ _ => rfl) h22 ?_
      refine z_iconst (v := 1) dX5_readLaw_41 (by decide) ?_
      obtain ⟨h23, hv⟩ := hv
      refine z_putI dX5_readLaw_42 zf_X5_150 h23.1 h23.2 (Or.inl rfl) (fun _ _ _ _ _ => rfl) (by decide) (by decide) (z_nmI (fun I24 e25 => ?_))
      have hv := hv I24 e25
      refine z_goto (tgt := 55) dX5_readLaw_45 (by decide) ?_
      exact z_return dX5_readLaw_55 rfl (Nat.le_refl _) (Nat.le_refl _) hv
  · have hv := hv.2 q58
    refine z_aload_n dX5_readLaw_10 rfl ?_
    refine z_iconst (v := 2) dX5_readLaw_11 (by decide) ?_
    refine z_callV (As := [.int 2]) (st := []) dX5_readLaw_12 zl_X5_73 zv_X5_fail (by decide) rfl zn_17 zo_17 rfl rfl (Nat.le_of_ble_eq_true rfl) ⟨Nat.le_refl _, Nat.le_refl _⟩ ⟨Nat.le_refl _, Nat.le_refl _⟩ hv (fun v1 I27 L28 P29 nx1 q30 => ?_)
    obtain ⟨rfl, rfl, hv⟩ := q30
    refine z_aload_n dX5_readLaw_15 rfl ?_
    obtain ⟨b32, h33, hv⟩ := hv
    refine z_getP dX5_readLaw_16 zf_X5_41 zn_17 zo_17 (fun _ _ _ _ _ => rfl) h33 ?_
    refine z_iconst (v := 1) dX5_readLaw_19 (by decide) ?_
    obtain ⟨h34, hv⟩ := hv
    refine z_putI dX5_readLaw_20 zf_X5_146 h34.1 h34.2 (Or.inl rfl) (fun _ _ _ _ _ => rfl) (by decide) (by decide) (z_nmI (fun I35 e36 => ?_))
    have hv := hv I35 e36
    refine z_aload_n dX5_readLaw_23 rfl ?_
    refine z_callV (As := []) (st := []) dX5_readLaw_24 zl_X5_101 zv_X5_advance (by decide) rfl zn_17 zo_17 rfl rfl (Nat.le_of_ble_eq_true rfl) ⟨Nat.le_refl _, Nat.le_refl _⟩ ⟨Nat.le_refl _, Nat.le_refl _⟩ hv (fun v1 I37 L38 P39 nx1 q40 => ?_)
    obtain ⟨rfl, rfl, hv⟩ := q40
    refine z_aload_n dX5_readLaw_27 rfl ?_
    refine z_sipush (v := 263) dX5_readLaw_28 (by decide) ?_
    refine z_callV (As := [.int 263]) (st := []) dX5_readLaw_31 zl_X5_119 zv_X5_accept (by decide) rfl zn_17 zo_17 rfl rfl (Nat.le_of_ble_eq_true rfl) ⟨Nat.le_refl _, Nat.le_refl _⟩ ⟨Nat.le_refl _, Nat.le_refl _⟩ hv (fun v1 I42 L43 P44 nx1 q45 => ?_)
    obtain ⟨rfl, r46, rfl, hv⟩ := q45
    refine z_if_eq (tgt := 48) dX5_readLaw_34 (by decide) (fun q57 => ?_) (fun q57 => ?_)
    · have hv := hv.1 q57
      refine z_aload_n dX5_readLaw_48 rfl ?_
      refine z_sipush (v := 262) dX5_readLaw_49 (by decide) ?_
      refine z_callV (As := [.int 262]) (st := []) dX5_readLaw_52 zl_X5_77 zv_X5_expect (by decide) rfl zn_17 zo_17 rfl rfl (Nat.le_of_ble_eq_true rfl) ⟨Nat.le_refl _, Nat.le_refl _⟩ ⟨Nat.le_refl _, Nat.le_refl _⟩ hv (fun v1 I47 L48 P49 nx1 q50 => ?_)
      obtain ⟨rfl, rfl, hv⟩ := q50
      exact z_return dX5_readLaw_55 rfl (Nat.le_refl _) (Nat.le_refl _) hv
    · have hv := hv.2 q57
      refine z_aload_n dX5_readLaw_37 rfl ?_
      obtain ⟨b52, h53, hv⟩ := hv
      refine z_getP dX5_readLaw_38 zf_X5_41 zn_17 zo_17 (fun _ _ _ _ _ => rfl) h53 ?_
      refine z_iconst (v := 1) dX5_readLaw_41 (by decide) ?_
      obtain ⟨h54, hv⟩ := hv
      refine z_putI dX5_readLaw_42 zf_X5_150 h54.1 h54.2 (Or.inl rfl) (fun _ _ _ _ _ => rfl) (by decide) (by decide) (z_nmI (fun I55 e56 => ?_))
      have hv := hv I55 e56
      refine z_goto (tgt := 55) dX5_readLaw_45 (by decide) ?_
      exact z_return dX5_readLaw_55 rfl (Nat.le_refl _) (Nat.le_refl _) hv
abbrev gw_X5_readSaying (d : Nat) (Q : zQt) (pc : Nat) (lv : zV) (st : List Value) (I : zI) (L : zL) (P : zP) : Prop := zW zm_X5_readSaying (zRm d 0 0) 0 0 Q pc lv st I L P 205 0 0
def v_X5_readSaying (d : Nat) (Q : zQt)  (I : zI) (L : zL) (P : zP) : Prop :=
  ∃ b1 : Nat, P 17 3 = some b1 ∧
  (b1 < 205 ∧ (zsh b1).1 = 2) ∧
  (((I b1 4) < 6 →
    zMv zm_X5_advance d [.ref 17] I L P (fun I4 L5 P6 =>
      ∃ b9 : Nat, P6 17 3 = some b9 ∧
      (b9 < 205 ∧ (zsh b9).1 = 2) ∧
      zMv zm_X2_startSaying d [.ref b9] I4 L5 P6 (fun I12 L13 P14 =>
        zMv zm_X5_readPart d [.ref 17, .int 0, .int 0] I12 L13 P14 (fun I17 L18 P19 =>
          ∃ b22 : Nat, P19 17 3 = some b22 ∧
          (b22 < 205 ∧ (zsh b22).1 = 2) ∧
          zMv zm_X2_endSaying d [.ref b22] I17 L18 P19 (fun I25 L26 P27 =>
            Q none I25 L26 P27 205
          )
        )
      )
    )
  ) ∧ (¬ (I b1 4) < 6 →
    zMv zm_X5_fail d [.ref 17, .int 2] I L P (fun I30 L31 P32 =>
      zMv zm_X5_advance d [.ref 17] I30 L31 P32 (fun I35 L36 P37 =>
        ∃ b40 : Nat, P37 17 3 = some b40 ∧
        (b40 < 205 ∧ (zsh b40).1 = 2) ∧
        zMv zm_X2_startSaying d [.ref b40] I35 L36 P37 (fun I43 L44 P45 =>
          zMv zm_X5_readPart d [.ref 17, .int 0, .int 0] I43 L44 P45 (fun I48 L49 P50 =>
            ∃ b53 : Nat, P50 17 3 = some b53 ∧
            (b53 < 205 ∧ (zsh b53).1 = 2) ∧
            zMv zm_X2_endSaying d [.ref b53] I48 L49 P50 (fun I56 L57 P58 =>
              Q none I56 L57 P58 205
            )
          )
        )
      )
    )
  ))
set_option maxRecDepth 20000 in
theorem g_X5_readSaying {d : Nat} {Q : zQt}  {I : zI} {L : zL} {P : zP} (hP : zPk P) (hv : v_X5_readSaying d Q  I L P) : zM zm_X5_readSaying (d + 1) 0 0 [.ref 17] I L P 205 Q := by
  unfold v_X5_readSaying at hv
  refine zM_of (lv0 := [some (.ref 17)]) (by decide +kernel) (Nat.le_of_ble_eq_true rfl) rfl ?_
  refine z_aload_n dX5_readSaying_0 rfl ?_
  obtain ⟨b1, h2, hv⟩ := hv
  refine z_getP dX5_readSaying_1 zf_X5_41 zn_17 zo_17 (fun _ _ _ _ _ => rfl) h2 ?_
  obtain ⟨h3, hv⟩ := hv
  refine z_getI dX5_readSaying_4 zf_X5_153 h3.1 h3.2 (fun _ _ _ _ _ => rfl) ?_
  refine z_bipush (v := 6) dX5_readSaying_7 (by decide) ?_
  refine z_icmp_lt (tgt := 17) dX5_readSaying_9 (by decide) (fun q61 => ?_) (fun q61 => ?_)
  · have hv := hv.1 q61
    refine z_aload_n dX5_readSaying_17 rfl ?_
    refine z_callV (As := []) (st := []) dX5_readSaying_18 zl_X5_101 zv_X5_advance (by decide) rfl zn_17 zo_17 rfl rfl (Nat.le_of_ble_eq_true rfl) ⟨Nat.le_refl _, Nat.le_refl _⟩ ⟨Nat.le_refl _, Nat.le_refl _⟩ hv (fun v1 I4 L5 P6 nx1 q7 => ?_)
    obtain ⟨rfl, rfl, hv⟩ := q7
    refine z_aload_n dX5_readSaying_21 rfl ?_
    obtain ⟨b9, h10, hv⟩ := hv
    refine z_getP dX5_readSaying_22 zf_X5_41 zn_17 zo_17 (fun _ _ _ _ _ => rfl) h10 ?_
    obtain ⟨h11, hv⟩ := hv
    refine z_callV (As := []) (st := []) dX5_readSaying_25 zl_X5_156 zv_X2_startSaying (by decide) rfl h11.1 h11.2 rfl rfl (Nat.le_of_ble_eq_true rfl) ⟨Nat.le_refl _, Nat.le_refl _⟩ ⟨Nat.le_refl _, Nat.le_refl _⟩ hv (fun v1 I12 L13 P14 nx1 q15 => ?_)
    obtain ⟨rfl, rfl, hv⟩ := q15
    refine z_aload_n dX5_readSaying_28 rfl ?_
    refine z_iconst (v := 0) dX5_readSaying_29 (by decide) ?_
    refine z_iconst (v := 0) dX5_readSaying_30 (by decide) ?_
    refine z_callV (As := [.int 0, .int 0]) (st := []) dX5_readSaying_31 zl_X5_86 zv_X5_readPart (by decide) rfl zn_17 zo_17 rfl rfl (Nat.le_of_ble_eq_true rfl) ⟨Nat.le_refl _, Nat.le_refl _⟩ ⟨Nat.le_refl _, Nat.le_refl _⟩ hv (fun v1 I17 L18 P19 nx1 q20 => ?_)
    obtain ⟨rfl, rfl, hv⟩ := q20
    refine z_aload_n dX5_readSaying_34 rfl ?_
    obtain ⟨b22, h23, hv⟩ := hv
    refine z_getP dX5_readSaying_35 zf_X5_41 zn_17 zo_17 (fun _ _ _ _ _ => rfl) h23 ?_
    obtain ⟨h24, hv⟩ := hv
    refine z_callV (As := []) (st := []) dX5_readSaying_38 zl_X5_159 zv_X2_endSaying (by decide) rfl h24.1 h24.2 rfl rfl (Nat.le_of_ble_eq_true rfl) ⟨Nat.le_refl _, Nat.le_refl _⟩ ⟨Nat.le_refl _, Nat.le_refl _⟩ hv (fun v1 I25 L26 P27 nx1 q28 => ?_)
    obtain ⟨rfl, rfl, hv⟩ := q28
    exact z_return dX5_readSaying_41 rfl (Nat.le_refl _) (Nat.le_refl _) hv
  · have hv := hv.2 q61
    refine z_aload_n dX5_readSaying_12 rfl ?_
    refine z_iconst (v := 2) dX5_readSaying_13 (by decide) ?_
    refine z_callV (As := [.int 2]) (st := []) dX5_readSaying_14 zl_X5_73 zv_X5_fail (by decide) rfl zn_17 zo_17 rfl rfl (Nat.le_of_ble_eq_true rfl) ⟨Nat.le_refl _, Nat.le_refl _⟩ ⟨Nat.le_refl _, Nat.le_refl _⟩ hv (fun v1 I30 L31 P32 nx1 q33 => ?_)
    obtain ⟨rfl, rfl, hv⟩ := q33
    refine z_aload_n dX5_readSaying_17 rfl ?_
    refine z_callV (As := []) (st := []) dX5_readSaying_18 zl_X5_101 zv_X5_advance (by decide) rfl zn_17 zo_17 rfl rfl (Nat.le_of_ble_eq_true rfl) ⟨Nat.le_refl _, Nat.le_refl _⟩ ⟨Nat.le_refl _, Nat.le_refl _⟩ hv (fun v1 I35 L36 P37 nx1 q38 => ?_)
    obtain ⟨rfl, rfl, hv⟩ := q38
    refine z_aload_n dX5_readSaying_21 rfl ?_
    obtain ⟨b40, h41, hv⟩ := hv
    refine z_getP dX5_readSaying_22 zf_X5_41 zn_17 zo_17 (fun _ _ _ _ _ => rfl) h41 ?_
    obtain ⟨h42, hv⟩ := hv
    refine z_callV (As := []) (st := []) dX5_readSaying_25 zl_X5_156 zv_X2_startSaying (by decide) rfl h42.1 h42.2 rfl rfl (Nat.le_of_ble_eq_true rfl) ⟨Nat.le_refl _, Nat.le_refl _⟩ ⟨Nat.le_refl _, Nat.le_refl _⟩ hv (fun v1 I43 L44 P45 nx1 q46 => ?_)
    obtain ⟨rfl, rfl, hv⟩ := q46
    refine z_aload_n dX5_readSaying_28 rfl ?_
    refine z_iconst (v := 0) dX5_readSaying_29 (by decide) ?_
    refine z_iconst (v := 0) dX5_readSaying_30 (by decide) ?_
    refine z_callV (As := [.int 0, .int 0]) (st := []) dX5_readSaying_31 zl_X5_86 zv_X5_readPart (by decide) rfl zn_17 zo_17 rfl rfl (Nat.le_of_ble_eq_true rfl) ⟨Nat.le_refl _, Nat.le_refl _⟩ ⟨Nat.le_refl _, Nat.le_refl _⟩ hv (fun v1 I48 L49 P50 nx1 q51 => ?_)
    obtain ⟨rfl, rfl, hv⟩ := q51
    refine z_aload_n dX5_readSaying_34 rfl ?_
    obtain ⟨b53, h54, hv⟩ := hv
    refine z_getP dX5_readSaying_35 zf_X5_41 zn_17 zo_17 (fun _ _ _ _ _ => rfl) h54 ?_
    obtain ⟨h55, hv⟩ := hv
    refine z_callV (As := []) (st := []) dX5_readSaying_38 zl_X5_159 zv_X2_endSaying (by decide) rfl h55.1 h55.2 rfl rfl (Nat.le_of_ble_eq_true rfl) ⟨Nat.le_refl _, Nat.le_refl _⟩ ⟨Nat.le_refl _, Nat.le_refl _⟩ hv (fun v1 I56 L57 P58 nx1 q59 => ?_)
    obtain ⟨rfl, rfl, hv⟩ := q59
    exact z_return dX5_readSaying_41 rfl (Nat.le_refl _) (Nat.le_refl _) hv
abbrev gw_X5_readPart (d : Nat) (Q : zQt) (pc : Nat) (lv : zV) (st : List Value) (I : zI) (L : zL) (P : zP) : Prop := zW zm_X5_readPart (zRm d 0 0) 0 0 Q pc lv st I L P 205 0 0
def v_X5_readPart_59 (d : Nat) (Q : zQt) (p1 : Int32) (p2 : Int32) (x3 : Int32) (x4 : Int32) (I : zI) (L : zL) (P : zP) : Prop :=
  ((1600 ≤ x4 →
    Q none I L P 205
  ) ∧ (¬ 1600 ≤ x4 →
    zMi zm_X3_rankOf d [.int (I 17 8)] I L P (fun r41 I37 L38 P39 =>
      ((r41 < p1 →
        Q none I37 L38 P39 205
      ) ∧ (¬ r41 < p1 →
        ((r41 ≤ x3 →
          zMv zm_X5_advance d [.ref 17] I37 L38 P39 (fun I42 L43 P44 =>
            zMv zm_X5_readPart d [.ref 17, .int (r41 + 1), .int p2] I42 L43 P44 (fun I47 L48 P49 =>
              ∃ b52 : Nat, P49 17 4 = some b52 ∧
              (b52 < 205 ∧ (zsh b52).1 = 0) ∧
              zMv zm_X0_add d [.ref b52, .int (I 17 8), .int 0] I47 L48 P49 (fun I55 L56 P57 =>
                ((¬ r41 = 2 →
                  gw_X5_readPart (d + 1) Q 59 [some (.ref 17), some (.int p1), some (.int p2), some (.int r41), some (.int (x4 + 1)), none, none] [] I55 L56 P57
                ) ∧ (r41 = 2 →
                  gw_X5_readPart (d + 1) Q 59 [some (.ref 17), some (.int p1), some (.int p2), some (.int (r41 - 1)), some (.int (x4 + 1)), none, none] [] I55 L56 P57
                ))
              )
            )
          )
        ) ∧ (¬ r41 ≤ x3 →
          Q none I37 L38 P39 205
        ))
      ))
    )
  ))
set_option maxRecDepth 20000 in
theorem g_X5_readPart_59 {d : Nat} {Q : zQt} {p1 : Int32} {p2 : Int32} {x3 : Int32} {x4 : Int32} {I : zI} {L : zL} {P : zP} (hP : zPk P) (hv : v_X5_readPart_59 d Q p1 p2 x3 x4 I L P) : gw_X5_readPart (d + 1) Q 59 [some (.ref 17), some (.int p1), some (.int p2), some (.int x3), some (.int x4), none, none] [] I L P := by
  unfold v_X5_readPart_59 at hv
  refine z_iload dX5_readPart_59 rfl ?_
  refine z_sipush (v := 1600) dX5_readPart_61 (by decide) ?_
  refine z_icmp_ge (tgt := 140) dX5_readPart_64 (by decide) (fun q63 => ?_) (fun q63 => ?_)
  · have hv := hv.1 q63
    exact z_return dX5_readPart_140 rfl (Nat.le_refl _) (Nat.le_refl _) hv
  · have hv := hv.2 q63
    refine z_aload_n dX5_readPart_67 rfl ?_
    refine z_getI dX5_readPart_68 zf_X5_29 zn_17 zo_17 (fun _ _ _ _ _ => rfl) ?_
    refine z_istore (lv2 := [some (.ref 17), some (.int p1), some (.int p2), some (.int x3), some (.int x4), some (.int (I 17 8)), none]) dX5_readPart_71 (by decide) rfl rfl ?_
    refine z_iload dX5_readPart_73 rfl ?_
    refine z_callS (As := [.int (I 17 8)]) (st := []) dX5_readPart_75 zl_X5_168 zs_X3_rankOf rfl rfl (Nat.le_of_ble_eq_true rfl) ⟨Nat.le_refl _, Nat.le_refl _⟩ ⟨Nat.le_refl _, Nat.le_refl _⟩ hv (fun v1 I37 L38 P39 nx1 q40 => ?_)
    obtain ⟨rfl, r41, rfl, hv⟩ := q40
    refine z_istore (lv2 := [some (.ref 17), some (.int p1), some (.int p2), some (.int x3), some (.int x4), some (.int (I 17 8)), some (.int r41)]) dX5_readPart_78 (by decide) rfl rfl ?_
    refine z_iload dX5_readPart_80 rfl ?_
    refine z_iload_n dX5_readPart_82 rfl ?_
    refine z_icmp_lt (tgt := 140) dX5_readPart_83 (by decide) (fun q62 => ?_) (fun q62 => ?_)
    · have hv := hv.1 q62
      exact z_return dX5_readPart_140 rfl (Nat.le_refl _) (Nat.le_refl _) hv
    · have hv := hv.2 q62
      refine z_iload dX5_readPart_86 rfl ?_
      refine z_iload_n dX5_readPart_88 rfl ?_
      refine z_icmp_le (tgt := 95) dX5_readPart_89 (by decide) (fun q61 => ?_) (fun q61 => ?_)
      · have hv := hv.1 q61
        refine z_aload_n dX5_readPart_95 rfl ?_
        refine z_callV (As := []) (st := []) dX5_readPart_96 zl_X5_101 zv_X5_advance (by decide) rfl zn_17 zo_17 rfl rfl (Nat.le_of_ble_eq_true rfl) ⟨Nat.le_refl _, Nat.le_refl _⟩ ⟨Nat.le_refl _, Nat.le_refl _⟩ hv (fun v1 I42 L43 P44 nx1 q45 => ?_)
        obtain ⟨rfl, rfl, hv⟩ := q45
        refine z_aload_n dX5_readPart_99 rfl ?_
        refine z_iload dX5_readPart_100 rfl ?_
        refine z_iconst (v := 1) dX5_readPart_102 (by decide) ?_
        refine z_iadd dX5_readPart_103 ?_
        refine z_iload_n dX5_readPart_104 rfl ?_
        refine z_callV (As := [.int (r41 + 1), .int p2]) (st := []) dX5_readPart_105 zl_X5_86 zv_X5_readPart (by decide) rfl zn_17 zo_17 rfl rfl (Nat.le_of_ble_eq_true rfl) ⟨Nat.le_refl _, Nat.le_refl _⟩ ⟨Nat.le_refl _, Nat.le_refl _⟩ hv (fun v1 I47 L48 P49 nx1 q50 => ?_)
        obtain ⟨rfl, rfl, hv⟩ := q50
        refine z_aload_n dX5_readPart_108 rfl ?_
        obtain ⟨b52, h53, hv⟩ := hv
        refine z_getP dX5_readPart_109 zf_X5_45 zn_17 zo_17 (fun _ _ _ _ _ => rfl) h53 ?_
        refine z_iload dX5_readPart_112 rfl ?_
        refine z_iconst (v := 0) dX5_readPart_114 (by decide) ?_
        obtain ⟨h54, hv⟩ := hv
        refine z_callV (As := [.int (I 17 8), .int 0]) (st := []) dX5_readPart_115 zl_X5_162 zv_X0_add (by decide) rfl h54.1 h54.2 rfl rfl (Nat.le_of_ble_eq_true rfl) ⟨Nat.le_refl _, Nat.le_refl _⟩ ⟨Nat.le_refl _, Nat.le_refl _⟩ hv (fun v1 I55 L56 P57 nx1 q58 => ?_)
        obtain ⟨rfl, rfl, hv⟩ := q58
        refine z_iload dX5_readPart_118 rfl ?_
        refine z_iconst (v := 2) dX5_readPart_120 (by decide) ?_
        refine z_icmp_ne (tgt := 131) dX5_readPart_121 (by decide) (fun q60 => ?_) (fun q60 => ?_)
        · have hv := hv.1 q60
          refine z_iload dX5_readPart_131 rfl ?_
          refine z_istore_n (lv2 := [some (.ref 17), some (.int p1), some (.int p2), some (.int r41), some (.int x4), some (.int (I 17 8)), some (.int r41)]) dX5_readPart_133 (by decide) rfl rfl ?_
          refine z_iinc (v2 := x4 + 1) (lv2 := [some (.ref 17), some (.int p1), some (.int p2), some (.int r41), some (.int (x4 + 1)), some (.int (I 17 8)), some (.int r41)]) dX5_readPart_134 rfl (by rfl) (by decide) rfl rfl ?_
          refine z_goto (tgt := 59) dX5_readPart_137 (by decide) ?_
          exact z_sub (by exact ⟨rfl, ⟨rfl, ⟨rfl, ⟨rfl, ⟨rfl, trivial⟩⟩⟩⟩⟩) hv
        · have hv := hv.2 q60
          refine z_iload dX5_readPart_124 rfl ?_
          refine z_iconst (v := 1) dX5_readPart_126 (by decide) ?_
          refine z_isub dX5_readPart_127 ?_
          refine z_goto (tgt := 133) dX5_readPart_128 (by decide) ?_
          refine z_istore_n (lv2 := [some (.ref 17), some (.int p1), some (.int p2), some (.int (r41 - 1)), some (.int x4), some (.int (I 17 8)), some (.int r41)]) dX5_readPart_133 (by decide) rfl rfl ?_
          refine z_iinc (v2 := x4 + 1) (lv2 := [some (.ref 17), some (.int p1), some (.int p2), some (.int (r41 - 1)), some (.int (x4 + 1)), some (.int (I 17 8)), some (.int r41)]) dX5_readPart_134 rfl (by rfl) (by decide) rfl rfl ?_
          refine z_goto (tgt := 59) dX5_readPart_137 (by decide) ?_
          exact z_sub (by exact ⟨rfl, ⟨rfl, ⟨rfl, ⟨rfl, ⟨rfl, trivial⟩⟩⟩⟩⟩) hv
      · have hv := hv.2 q61
        refine z_goto (tgt := 140) dX5_readPart_92 (by decide) ?_
        exact z_return dX5_readPart_140 rfl (Nat.le_refl _) (Nat.le_refl _) hv
def v_X5_readPart (d : Nat) (Q : zQt) (p1 : Int32) (p2 : Int32) (I : zI) (L : zL) (P : zP) : Prop :=
  ((¬ (I 17 8) = 267 →
    zMv zm_X5_readUnit d [.ref 17, .int p2] I L P (fun I1 L2 P3 =>
      gw_X5_readPart (d + 1) Q 59 [some (.ref 17), some (.int p1), some (.int p2), some (.int 4), some (.int 0), none, none] [] I1 L2 P3
    )
  ) ∧ ((I 17 8) = 267 →
    ((2 < p1 →
      zMv zm_X5_readUnit d [.ref 17, .int p2] I L P (fun I6 L7 P8 =>
        gw_X5_readPart (d + 1) Q 59 [some (.ref 17), some (.int p1), some (.int p2), some (.int 4), some (.int 0), none, none] [] I6 L7 P8
      )
    ) ∧ (¬ 2 < p1 →
      ((6 < p2 →
        zMv zm_X5_readUnit d [.ref 17, .int p2] I L P (fun I11 L12 P13 =>
          gw_X5_readPart (d + 1) Q 59 [some (.ref 17), some (.int p1), some (.int p2), some (.int 4), some (.int 0), none, none] [] I11 L12 P13
        )
      ) ∧ (¬ 6 < p2 →
        zMv zm_X5_advance d [.ref 17] I L P (fun I16 L17 P18 =>
          zMv zm_X5_readPart d [.ref 17, .int 2, .int (p2 + 1)] I16 L17 P18 (fun I21 L22 P23 =>
            ∃ b26 : Nat, P23 17 4 = some b26 ∧
            (b26 < 205 ∧ (zsh b26).1 = 0) ∧
            zMv zm_X0_add d [.ref b26, .int 267, .int 0] I21 L22 P23 (fun I29 L30 P31 =>
              gw_X5_readPart (d + 1) Q 59 [some (.ref 17), some (.int p1), some (.int p2), some (.int 1), some (.int 0), none, none] [] I29 L30 P31
            )
          )
        )
      ))
    ))
  ))
set_option maxRecDepth 20000 in
theorem g_X5_readPart {d : Nat} {Q : zQt} {p1 : Int32} {p2 : Int32} {I : zI} {L : zL} {P : zP} (hP : zPk P) (hv : v_X5_readPart d Q p1 p2 I L P) : zM zm_X5_readPart (d + 1) 0 0 [.ref 17, .int p1, .int p2] I L P 205 Q := by
  unfold v_X5_readPart at hv
  refine zM_of (lv0 := [some (.ref 17), some (.int p1), some (.int p2), none, none, none, none]) (by decide +kernel) (Nat.le_of_ble_eq_true rfl) rfl ?_
  refine z_iconst (v := 4) dX5_readPart_0 (by decide) ?_
  refine z_istore_n (lv2 := [some (.ref 17), some (.int p1), some (.int p2), some (.int 4), none, none, none]) dX5_readPart_1 (by decide) rfl rfl ?_
  refine z_aload_n dX5_readPart_2 rfl ?_
  refine z_getI dX5_readPart_3 zf_X5_29 zn_17 zo_17 (fun _ _ _ _ _ => rfl) ?_
  refine z_sipush (v := 267) dX5_readPart_6 (by decide) ?_
  refine z_icmp_ne (tgt := 51) dX5_readPart_9 (by decide) (fun q36 => ?_) (fun q36 => ?_)
  · have hv := hv.1 q36
    refine z_aload_n dX5_readPart_51 rfl ?_
    refine z_iload_n dX5_readPart_52 rfl ?_
    refine z_callV (As := [.int p2]) (st := []) dX5_readPart_53 zl_X5_165 zv_X5_readUnit (by decide) rfl zn_17 zo_17 rfl rfl (Nat.le_of_ble_eq_true rfl) ⟨Nat.le_refl _, Nat.le_refl _⟩ ⟨Nat.le_refl _, Nat.le_refl _⟩ hv (fun v1 I1 L2 P3 nx1 q4 => ?_)
    obtain ⟨rfl, rfl, hv⟩ := q4
    refine z_iconst (v := 0) dX5_readPart_56 (by decide) ?_
    refine z_istore (lv2 := [some (.ref 17), some (.int p1), some (.int p2), some (.int 4), some (.int 0), none, none]) dX5_readPart_57 (by decide) rfl rfl ?_
    exact hv
  · have hv := hv.2 q36
    refine z_iload_n dX5_readPart_12 rfl ?_
    refine z_iconst (v := 2) dX5_readPart_13 (by decide) ?_
    refine z_icmp_gt (tgt := 51) dX5_readPart_14 (by decide) (fun q35 => ?_) (fun q35 => ?_)
    · have hv := hv.1 q35
      refine z_aload_n dX5_readPart_51 rfl ?_
      refine z_iload_n dX5_readPart_52 rfl ?_
      refine z_callV (As := [.int p2]) (st := []) dX5_readPart_53 zl_X5_165 zv_X5_readUnit (by decide) rfl zn_17 zo_17 rfl rfl (Nat.le_of_ble_eq_true rfl) ⟨Nat.le_refl _, Nat.le_refl _⟩ ⟨Nat.le_refl _, Nat.le_refl _⟩ hv (fun v1 I6 L7 P8 nx1 q9 => ?_)
      obtain ⟨rfl, rfl, hv⟩ := q9
      refine z_iconst (v := 0) dX5_readPart_56 (by decide) ?_
      refine z_istore (lv2 := [some (.ref 17), some (.int p1), some (.int p2), some (.int 4), some (.int 0), none, none]) dX5_readPart_57 (by decide) rfl rfl ?_
      exact hv
    · have hv := hv.2 q35
      refine z_iload_n dX5_readPart_17 rfl ?_
      refine z_bipush (v := 6) dX5_readPart_18 (by decide) ?_
      refine z_icmp_gt (tgt := 51) dX5_readPart_20 (by decide) (fun q34 => ?_) (fun q34 => ?_)
      · have hv := hv.1 q34
        refine z_aload_n dX5_readPart_51 rfl ?_
        refine z_iload_n dX5_readPart_52 rfl ?_
        refine z_callV (As := [.int p2]) (st := []) dX5_readPart_53 zl_X5_165 zv_X5_readUnit (by decide) rfl zn_17 zo_17 rfl rfl (Nat.le_of_ble_eq_true rfl) ⟨Nat.le_refl _, Nat.le_refl _⟩ ⟨Nat.le_refl _, Nat.le_refl _⟩ hv (fun v1 I11 L12 P13 nx1 q14 => ?_)
        obtain ⟨rfl, rfl, hv⟩ := q14
        refine z_iconst (v := 0) dX5_readPart_56 (by decide) ?_
        refine z_istore (lv2 := [some (.ref 17), some (.int p1), some (.int p2), some (.int 4), some (.int 0), none, none]) dX5_readPart_57 (by decide) rfl rfl ?_
        exact hv
      · have hv := hv.2 q34
        refine z_aload_n dX5_readPart_23 rfl ?_
        refine z_callV (As := []) (st := []) dX5_readPart_24 zl_X5_101 zv_X5_advance (by decide) rfl zn_17 zo_17 rfl rfl (Nat.le_of_ble_eq_true rfl) ⟨Nat.le_refl _, Nat.le_refl _⟩ ⟨Nat.le_refl _, Nat.le_refl _⟩ hv (fun v1 I16 L17 P18 nx1 q19 => ?_)
        obtain ⟨rfl, rfl, hv⟩ := q19
        refine z_aload_n dX5_readPart_27 rfl ?_
        refine z_iconst (v := 2) dX5_readPart_28 (by decide) ?_
        refine z_iload_n dX5_readPart_29 rfl ?_
        refine z_iconst (v := 1) dX5_readPart_30 (by decide) ?_
        refine z_iadd dX5_readPart_31 ?_
        refine z_callV (As := [.int 2, .int (p2 + 1)]) (st := []) dX5_readPart_32 zl_X5_86 zv_X5_readPart (by decide) rfl zn_17 zo_17 rfl rfl (Nat.le_of_ble_eq_true rfl) ⟨Nat.le_refl _, Nat.le_refl _⟩ ⟨Nat.le_refl _, Nat.le_refl _⟩ hv (fun v1 I21 L22 P23 nx1 q24 => ?_)
        obtain ⟨rfl, rfl, hv⟩ := q24
        refine z_aload_n dX5_readPart_35 rfl ?_
        obtain ⟨b26, h27, hv⟩ := hv
        refine z_getP dX5_readPart_36 zf_X5_45 zn_17 zo_17 (fun _ _ _ _ _ => rfl) h27 ?_
        refine z_sipush (v := 267) dX5_readPart_39 (by decide) ?_
        refine z_iconst (v := 0) dX5_readPart_42 (by decide) ?_
        obtain ⟨h28, hv⟩ := hv
        refine z_callV (As := [.int 267, .int 0]) (st := []) dX5_readPart_43 zl_X5_162 zv_X0_add (by decide) rfl h28.1 h28.2 rfl rfl (Nat.le_of_ble_eq_true rfl) ⟨Nat.le_refl _, Nat.le_refl _⟩ ⟨Nat.le_refl _, Nat.le_refl _⟩ hv (fun v1 I29 L30 P31 nx1 q32 => ?_)
        obtain ⟨rfl, rfl, hv⟩ := q32
        refine z_iconst (v := 1) dX5_readPart_46 (by decide) ?_
        refine z_istore_n (lv2 := [some (.ref 17), some (.int p1), some (.int p2), some (.int 1), none, none, none]) dX5_readPart_47 (by decide) rfl rfl ?_
        refine z_goto (tgt := 56) dX5_readPart_48 (by decide) ?_
        refine z_iconst (v := 0) dX5_readPart_56 (by decide) ?_
        refine z_istore (lv2 := [some (.ref 17), some (.int p1), some (.int p2), some (.int 1), some (.int 0), none, none]) dX5_readPart_57 (by decide) rfl rfl ?_
        exact hv
abbrev gw_X5_readUnit (d : Nat) (Q : zQt) (pc : Nat) (lv : zV) (st : List Value) (I : zI) (L : zL) (P : zP) : Prop := zW zm_X5_readUnit (zRm d 0 0) 0 0 Q pc lv st I L P 205 0 0
def v_X5_readUnit_164 (d : Nat) (Q : zQt)  (I : zI) (L : zL) (P : zP) : Prop :=
  Q none I L P 205
set_option maxRecDepth 20000 in
theorem g_X5_readUnit_164 {d : Nat} {Q : zQt}  {I : zI} {L : zL} {P : zP} (hP : zPk P) (hv : v_X5_readUnit_164 d Q  I L P) : gw_X5_readUnit (d + 1) Q 164 [none, none, none, none, none] [] I L P := by
  unfold v_X5_readUnit_164 at hv
  exact z_return dX5_readUnit_164 rfl (Nat.le_refl _) (Nat.le_refl _) hv
def v_X5_readUnit_148 (d : Nat) (Q : zQt) (x2 : Int32) (x4 : Int32) (I : zI) (L : zL) (P : zP) : Prop :=
  ((x2 = 40 →
    gw_X5_readUnit (d + 1) Q 164 [none, none, none, none, none] [] I L P
  ) ∧ (¬ x2 = 40 →
    ∃ b97 : Nat, P 17 4 = some b97 ∧
    (b97 < 205 ∧ (zsh b97).1 = 0) ∧
    zMv zm_X0_add d [.ref b97, .int x2, .int x4] I L P (fun I100 L101 P102 =>
      gw_X5_readUnit (d + 1) Q 164 [none, none, none, none, none] [] I100 L101 P102
    )
  ))
set_option maxRecDepth 20000 in
theorem g_X5_readUnit_148 {d : Nat} {Q : zQt} {x2 : Int32} {x4 : Int32} {I : zI} {L : zL} {P : zP} (hP : zPk P) (hv : v_X5_readUnit_148 d Q x2 x4 I L P) : gw_X5_readUnit (d + 1) Q 148 [some (.ref 17), none, some (.int x2), none, some (.int x4)] [] I L P := by
  unfold v_X5_readUnit_148 at hv
  refine z_iload_n dX5_readUnit_148 rfl ?_
  refine z_bipush (v := 40) dX5_readUnit_149 (by decide) ?_
  refine z_icmp_eq (tgt := 164) dX5_readUnit_151 (by decide) (fun q105 => ?_) (fun q105 => ?_)
  · have hv := hv.1 q105
    exact z_sub (by exact trivial) hv
  · have hv := hv.2 q105
    refine z_aload_n dX5_readUnit_154 rfl ?_
    obtain ⟨b97, h98, hv⟩ := hv
    refine z_getP dX5_readUnit_155 zf_X5_45 zn_17 zo_17 (fun _ _ _ _ _ => rfl) h98 ?_
    refine z_iload_n dX5_readUnit_158 rfl ?_
    refine z_iload dX5_readUnit_159 rfl ?_
    obtain ⟨h99, hv⟩ := hv
    refine z_callV (As := [.int x2, .int x4]) (st := []) dX5_readUnit_161 zl_X5_162 zv_X0_add (by decide) rfl h99.1 h99.2 rfl rfl (Nat.le_of_ble_eq_true rfl) ⟨Nat.le_refl _, Nat.le_refl _⟩ ⟨Nat.le_refl _, Nat.le_refl _⟩ hv (fun v1 I100 L101 P102 nx1 q103 => ?_)
    obtain ⟨rfl, rfl, hv⟩ := q103
    exact z_sub (by exact trivial) hv
def v_X5_readUnit_134 (d : Nat) (Q : zQt) (p1 : Int32) (x2 : Int32) (x4 : Int32) (I : zI) (L : zL) (P : zP) : Prop :=
  zMv zm_X5_readPart d [.ref 17, .int 0, .int (p1 + 1)] I L P (fun I106 L107 P108 =>
    zMv zm_X5_expect d [.ref 17, .int 41] I106 L107 P108 (fun I111 L112 P113 =>
      gw_X5_readUnit (d + 1) Q 148 [some (.ref 17), none, some (.int x2), none, some (.int x4)] [] I111 L112 P113
    )
  )
set_option maxRecDepth 20000 in
theorem g_X5_readUnit_134 {d : Nat} {Q : zQt} {p1 : Int32} {x2 : Int32} {x4 : Int32} {I : zI} {L : zL} {P : zP} (hP : zPk P) (hv : v_X5_readUnit_134 d Q p1 x2 x4 I L P) : gw_X5_readUnit (d + 1) Q 134 [some (.ref 17), some (.int p1), some (.int x2), none, some (.int x4)] [] I L P := by
  unfold v_X5_readUnit_134 at hv
  refine z_aload_n dX5_readUnit_134 rfl ?_
  refine z_iconst (v := 0) dX5_readUnit_135 (by decide) ?_
  refine z_iload_n dX5_readUnit_136 rfl ?_
  refine z_iconst (v := 1) dX5_readUnit_137 (by decide) ?_
  refine z_iadd dX5_readUnit_138 ?_
  refine z_callV (As := [.int 0, .int (p1 + 1)]) (st := []) dX5_readUnit_139 zl_X5_86 zv_X5_readPart (by decide) rfl zn_17 zo_17 rfl rfl (Nat.le_of_ble_eq_true rfl) ⟨Nat.le_refl _, Nat.le_refl _⟩ ⟨Nat.le_refl _, Nat.le_refl _⟩ hv (fun v1 I106 L107 P108 nx1 q109 => ?_)
  obtain ⟨rfl, rfl, hv⟩ := q109
  refine z_aload_n dX5_readUnit_142 rfl ?_
  refine z_bipush (v := 41) dX5_readUnit_143 (by decide) ?_
  refine z_callV (As := [.int 41]) (st := []) dX5_readUnit_145 zl_X5_77 zv_X5_expect (by decide) rfl zn_17 zo_17 rfl rfl (Nat.le_of_ble_eq_true rfl) ⟨Nat.le_refl _, Nat.le_refl _⟩ ⟨Nat.le_refl _, Nat.le_refl _⟩ hv (fun v1 I111 L112 P113 nx1 q114 => ?_)
  obtain ⟨rfl, rfl, hv⟩ := q114
  exact z_sub (by exact ⟨rfl, ⟨rfl, ⟨rfl, trivial⟩⟩⟩) hv
def v_X5_readUnit_118 (d : Nat) (Q : zQt) (p1 : Int32) (x2 : Int32) (x3 : Int32) (x4 : Int32) (I : zI) (L : zL) (P : zP) : Prop :=
  ((x3 = 0 →
    gw_X5_readUnit (d + 1) Q 148 [some (.ref 17), none, some (.int x2), none, some (.int x4)] [] I L P
  ) ∧ (¬ x3 = 0 →
    ((x2 = 40 →
      gw_X5_readUnit (d + 1) Q 134 [some (.ref 17), some (.int p1), some (.int x2), none, some (.int x4)] [] I L P
    ) ∧ (¬ x2 = 40 →
      zMv zm_X5_expect d [.ref 17, .int 40] I L P (fun I90 L91 P92 =>
        gw_X5_readUnit (d + 1) Q 134 [some (.ref 17), some (.int p1), some (.int x2), none, some (.int x4)] [] I90 L91 P92
      )
    ))
  ))
set_option maxRecDepth 20000 in
theorem g_X5_readUnit_118 {d : Nat} {Q : zQt} {p1 : Int32} {x2 : Int32} {x3 : Int32} {x4 : Int32} {I : zI} {L : zL} {P : zP} (hP : zPk P) (hv : v_X5_readUnit_118 d Q p1 x2 x3 x4 I L P) : gw_X5_readUnit (d + 1) Q 118 [some (.ref 17), some (.int p1), some (.int x2), some (.int x3), some (.int x4)] [] I L P := by
  unfold v_X5_readUnit_118 at hv
  refine z_iload_n dX5_readUnit_118 rfl ?_
  refine z_if_eq (tgt := 148) dX5_readUnit_119 (by decide) (fun q96 => ?_) (fun q96 => ?_)
  · have hv := hv.1 q96
    exact z_sub (by exact ⟨rfl, ⟨rfl, ⟨rfl, trivial⟩⟩⟩) hv
  · have hv := hv.2 q96
    refine z_iload_n dX5_readUnit_122 rfl ?_
    refine z_bipush (v := 40) dX5_readUnit_123 (by decide) ?_
    refine z_icmp_eq (tgt := 134) dX5_readUnit_125 (by decide) (fun q95 => ?_) (fun q95 => ?_)
    · have hv := hv.1 q95
      exact z_sub (by exact ⟨rfl, ⟨rfl, ⟨rfl, ⟨rfl, trivial⟩⟩⟩⟩) hv
    · have hv := hv.2 q95
      refine z_aload_n dX5_readUnit_128 rfl ?_
      refine z_bipush (v := 40) dX5_readUnit_129 (by decide) ?_
      refine z_callV (As := [.int 40]) (st := []) dX5_readUnit_131 zl_X5_77 zv_X5_expect (by decide) rfl zn_17 zo_17 rfl rfl (Nat.le_of_ble_eq_true rfl) ⟨Nat.le_refl _, Nat.le_refl _⟩ ⟨Nat.le_refl _, Nat.le_refl _⟩ hv (fun v1 I90 L91 P92 nx1 q93 => ?_)
      obtain ⟨rfl, rfl, hv⟩ := q93
      exact z_sub (by exact ⟨rfl, ⟨rfl, ⟨rfl, ⟨rfl, trivial⟩⟩⟩⟩) hv
def v_X5_readUnit_104 (d : Nat) (Q : zQt) (p1 : Int32) (x2 : Int32) (x3 : Int32) (I : zI) (L : zL) (P : zP) : Prop :=
  zMi zm_X5_readName d [.ref 17] I L P (fun r84 I80 L81 P82 =>
    zMv zm_X5_advance d [.ref 17] I80 L81 P82 (fun I85 L86 P87 =>
      gw_X5_readUnit (d + 1) Q 118 [some (.ref 17), some (.int p1), some (.int x2), some (.int x3), some (.int (if r84 < 0 then 0 else r84))] [] I85 L86 P87
    )
  )
set_option maxRecDepth 20000 in
theorem g_X5_readUnit_104 {d : Nat} {Q : zQt} {p1 : Int32} {x2 : Int32} {x3 : Int32} {I : zI} {L : zL} {P : zP} (hP : zPk P) (hv : v_X5_readUnit_104 d Q p1 x2 x3 I L P) : gw_X5_readUnit (d + 1) Q 104 [some (.ref 17), some (.int p1), some (.int x2), some (.int x3), none] [] I L P := by
  unfold v_X5_readUnit_104 at hv
  refine z_aload_n dX5_readUnit_104 rfl ?_
  refine z_callV (As := []) (st := []) dX5_readUnit_105 zl_X5_135 zv_X5_readName (by decide) rfl zn_17 zo_17 rfl rfl (Nat.le_of_ble_eq_true rfl) ⟨Nat.le_refl _, Nat.le_refl _⟩ ⟨Nat.le_refl _, Nat.le_refl _⟩ hv (fun v1 I80 L81 P82 nx1 q83 => ?_)
  obtain ⟨rfl, r84, rfl, hv⟩ := q83
  refine z_iconst (v := 0) dX5_readUnit_108 (by decide) ?_
  refine z_mmax dX5_readUnit_109 zl_X5_177 (Nat.le_of_ble_eq_true rfl) ⟨Nat.le_add_left _ _, zr64 _⟩ (Nat.zero_le _) (Nat.zero_le _) ?_
  refine z_istore (lv2 := [some (.ref 17), some (.int p1), some (.int x2), some (.int x3), some (.int (if r84 < 0 then 0 else r84))]) dX5_readUnit_112 (by decide) rfl rfl ?_
  refine z_aload_n dX5_readUnit_114 rfl ?_
  refine z_callV (As := []) (st := []) dX5_readUnit_115 zl_X5_101 zv_X5_advance (by decide) rfl zn_17 zo_17 rfl rfl (Nat.le_of_ble_eq_true rfl) ⟨Nat.le_refl _, Nat.le_refl _⟩ ⟨Nat.le_refl _, Nat.le_refl _⟩ hv (fun v1 I85 L86 P87 nx1 q88 => ?_)
  obtain ⟨rfl, rfl, hv⟩ := q88
  exact hv
def v_X5_readUnit (d : Nat) (Q : zQt) (p1 : Int32) (I : zI) (L : zL) (P : zP) : Prop :=
  zMi zm_X3_opens d [.int (I 17 8)] I L P (fun r5 I1 L2 P3 =>
    zMi zm_X3_startsUnit d [.int (I 17 8)] I1 L2 P3 (fun r10 I6 L7 P8 =>
      ((r10 = 0 →
        zMv zm_X5_fail d [.ref 17, .int 2] I6 L7 P8 (fun I11 L12 P13 =>
          Q none I11 L12 P13 205
        )
      ) ∧ (¬ r10 = 0 →
        (((I6 17 5) ≤ (I6 17 6) →
          zMv zm_X5_fail d [.ref 17, .int 2] I6 L7 P8 (fun I16 L17 P18 =>
            Q none I16 L17 P18 205
          )
        ) ∧ (¬ (I6 17 5) ≤ (I6 17 6) →
          ((r5 = 0 →
            ∀ I21 : zI, I21 = zuI I6 17 6 ((I6 17 6) + 1) →
            ((¬ (I 17 8) = 274 →
              zMv zm_X5_advance d [.ref 17] I21 L7 P8 (fun I23 L24 P25 =>
                (((I 17 8) = 262 →
                  gw_X5_readUnit (d + 1) Q 104 [some (.ref 17), some (.int p1), some (.int (I 17 8)), some (.int r5), none] [] I23 L24 P25
                ) ∧ (¬ (I 17 8) = 262 →
                  (((I 17 8) = 269 →
                    gw_X5_readUnit (d + 1) Q 104 [some (.ref 17), some (.int p1), some (.int (I 17 8)), some (.int r5), none] [] I23 L24 P25
                  ) ∧ (¬ (I 17 8) = 269 →
                    ((¬ (I 17 8) = 270 →
                      gw_X5_readUnit (d + 1) Q 118 [some (.ref 17), some (.int p1), some (.int (I 17 8)), some (.int r5), some (.int 0)] [] I23 L24 P25
                    ) ∧ ((I 17 8) = 270 →
                      gw_X5_readUnit (d + 1) Q 104 [some (.ref 17), some (.int p1), some (.int (I 17 8)), some (.int r5), none] [] I23 L24 P25
                    ))
                  ))
                ))
              )
            ) ∧ ((I 17 8) = 274 →
              zPk P8 ∧
              zMl zm_X9_valueOf d [.ref 18, .int (I21 17 7)] I21 L7 P8 (fun r36 I32 L33 P34 =>
                zMv zm_X5_advance d [.ref 17] I32 L33 P34 (fun I37 L38 P39 =>
                  (((I 17 8) = 262 →
                    gw_X5_readUnit (d + 1) Q 104 [some (.ref 17), some (.int p1), some (.int (I 17 8)), some (.int r5), none] [] I37 L38 P39
                  ) ∧ (¬ (I 17 8) = 262 →
                    (((I 17 8) = 269 →
                      gw_X5_readUnit (d + 1) Q 104 [some (.ref 17), some (.int p1), some (.int (I 17 8)), some (.int r5), none] [] I37 L38 P39
                    ) ∧ (¬ (I 17 8) = 269 →
                      ((¬ (I 17 8) = 270 →
                        gw_X5_readUnit (d + 1) Q 118 [some (.ref 17), some (.int p1), some (.int (I 17 8)), some (.int r5), some (.int ((r36 : Int64).toInt32))] [] I37 L38 P39
                      ) ∧ ((I 17 8) = 270 →
                        gw_X5_readUnit (d + 1) Q 104 [some (.ref 17), some (.int p1), some (.int (I 17 8)), some (.int r5), none] [] I37 L38 P39
                      ))
                    ))
                  ))
                )
              )
            ))
          ) ∧ (¬ r5 = 0 →
            ((p1 ≤ 6 →
              ∀ I46 : zI, I46 = zuI I6 17 6 ((I6 17 6) + 1) →
              ((¬ (I 17 8) = 274 →
                zMv zm_X5_advance d [.ref 17] I46 L7 P8 (fun I48 L49 P50 =>
                  (((I 17 8) = 262 →
                    gw_X5_readUnit (d + 1) Q 104 [some (.ref 17), some (.int p1), some (.int (I 17 8)), some (.int r5), none] [] I48 L49 P50
                  ) ∧ (¬ (I 17 8) = 262 →
                    (((I 17 8) = 269 →
                      gw_X5_readUnit (d + 1) Q 104 [some (.ref 17), some (.int p1), some (.int (I 17 8)), some (.int r5), none] [] I48 L49 P50
                    ) ∧ (¬ (I 17 8) = 269 →
                      ((¬ (I 17 8) = 270 →
                        gw_X5_readUnit (d + 1) Q 118 [some (.ref 17), some (.int p1), some (.int (I 17 8)), some (.int r5), some (.int 0)] [] I48 L49 P50
                      ) ∧ ((I 17 8) = 270 →
                        gw_X5_readUnit (d + 1) Q 104 [some (.ref 17), some (.int p1), some (.int (I 17 8)), some (.int r5), none] [] I48 L49 P50
                      ))
                    ))
                  ))
                )
              ) ∧ ((I 17 8) = 274 →
                zPk P8 ∧
                zMl zm_X9_valueOf d [.ref 18, .int (I46 17 7)] I46 L7 P8 (fun r61 I57 L58 P59 =>
                  zMv zm_X5_advance d [.ref 17] I57 L58 P59 (fun I62 L63 P64 =>
                    (((I 17 8) = 262 →
                      gw_X5_readUnit (d + 1) Q 104 [some (.ref 17), some (.int p1), some (.int (I 17 8)), some (.int r5), none] [] I62 L63 P64
                    ) ∧ (¬ (I 17 8) = 262 →
                      (((I 17 8) = 269 →
                        gw_X5_readUnit (d + 1) Q 104 [some (.ref 17), some (.int p1), some (.int (I 17 8)), some (.int r5), none] [] I62 L63 P64
                      ) ∧ (¬ (I 17 8) = 269 →
                        ((¬ (I 17 8) = 270 →
                          gw_X5_readUnit (d + 1) Q 118 [some (.ref 17), some (.int p1), some (.int (I 17 8)), some (.int r5), some (.int ((r61 : Int64).toInt32))] [] I62 L63 P64
                        ) ∧ ((I 17 8) = 270 →
                          gw_X5_readUnit (d + 1) Q 104 [some (.ref 17), some (.int p1), some (.int (I 17 8)), some (.int r5), none] [] I62 L63 P64
                        ))
                      ))
                    ))
                  )
                )
              ))
            ) ∧ (¬ p1 ≤ 6 →
              zMv zm_X5_fail d [.ref 17, .int 2] I6 L7 P8 (fun I71 L72 P73 =>
                Q none I71 L72 P73 205
              )
            ))
          ))
        ))
      ))
    )
  )
set_option maxRecDepth 20000 in
theorem g_X5_readUnit {d : Nat} {Q : zQt} {p1 : Int32} {I : zI} {L : zL} {P : zP} (hP : zPk P) (hv : v_X5_readUnit d Q p1 I L P) : zM zm_X5_readUnit (d + 1) 0 0 [.ref 17, .int p1] I L P 205 Q := by
  unfold v_X5_readUnit at hv
  refine zM_of (lv0 := [some (.ref 17), some (.int p1), none, none, none]) (by decide +kernel) (Nat.le_of_ble_eq_true rfl) rfl ?_
  refine z_aload_n dX5_readUnit_0 rfl ?_
  refine z_getI dX5_readUnit_1 zf_X5_29 zn_17 zo_17 (fun _ _ _ _ _ => rfl) ?_
  refine z_istore_n (lv2 := [some (.ref 17), some (.int p1), some (.int (I 17 8)), none, none]) dX5_readUnit_4 (by decide) rfl rfl ?_
  refine z_iload_n dX5_readUnit_5 rfl ?_
  refine z_callS (As := [.int (I 17 8)]) (st := []) dX5_readUnit_6 zl_X5_171 zs_X3_opens rfl rfl (Nat.le_of_ble_eq_true rfl) ⟨Nat.le_refl _, Nat.le_refl _⟩ ⟨Nat.le_refl _, Nat.le_refl _⟩ hv (fun v1 I1 L2 P3 nx1 q4 => ?_)
  obtain ⟨rfl, r5, rfl, hv⟩ := q4
  refine z_istore_n (lv2 := [some (.ref 17), some (.int p1), some (.int (I 17 8)), some (.int r5), none]) dX5_readUnit_9 (by decide) rfl rfl ?_
  refine z_iload_n dX5_readUnit_10 rfl ?_
  refine z_callS (As := [.int (I 17 8)]) (st := []) dX5_readUnit_11 zl_X5_174 zs_X3_startsUnit rfl rfl (Nat.le_of_ble_eq_true rfl) ⟨Nat.le_refl _, Nat.le_refl _⟩ ⟨Nat.le_refl _, Nat.le_refl _⟩ hv (fun v1 I6 L7 P8 nx1 q9 => ?_)
  obtain ⟨rfl, r10, rfl, hv⟩ := q9
  refine z_if_eq (tgt := 38) dX5_readUnit_14 (by decide) (fun q79 => ?_) (fun q79 => ?_)
  · have hv := hv.1 q79
    refine z_aload_n dX5_readUnit_38 rfl ?_
    refine z_iconst (v := 2) dX5_readUnit_39 (by decide) ?_
    refine z_callV (As := [.int 2]) (st := []) dX5_readUnit_40 zl_X5_73 zv_X5_fail (by decide) rfl zn_17 zo_17 rfl rfl (Nat.le_of_ble_eq_true rfl) ⟨Nat.le_refl _, Nat.le_refl _⟩ ⟨Nat.le_refl _, Nat.le_refl _⟩ hv (fun v1 I11 L12 P13 nx1 q14 => ?_)
    obtain ⟨rfl, rfl, hv⟩ := q14
    exact z_return dX5_readUnit_43 rfl (Nat.le_refl _) (Nat.le_refl _) hv
  · have hv := hv.2 q79
    refine z_aload_n dX5_readUnit_17 rfl ?_
    refine z_getI dX5_readUnit_18 zf_X5_21 zn_17 zo_17 (fun _ _ _ _ _ => rfl) ?_
    refine z_aload_n dX5_readUnit_21 rfl ?_
    refine z_getI dX5_readUnit_22 zf_X5_18 zn_17 zo_17 (fun _ _ _ _ _ => rfl) ?_
    refine z_icmp_ge (tgt := 38) dX5_readUnit_25 (by decide) (fun q78 => ?_) (fun q78 => ?_)
    · have hv := hv.1 q78
      refine z_aload_n dX5_readUnit_38 rfl ?_
      refine z_iconst (v := 2) dX5_readUnit_39 (by decide) ?_
      refine z_callV (As := [.int 2]) (st := []) dX5_readUnit_40 zl_X5_73 zv_X5_fail (by decide) rfl zn_17 zo_17 rfl rfl (Nat.le_of_ble_eq_true rfl) ⟨Nat.le_refl _, Nat.le_refl _⟩ ⟨Nat.le_refl _, Nat.le_refl _⟩ hv (fun v1 I16 L17 P18 nx1 q19 => ?_)
      obtain ⟨rfl, rfl, hv⟩ := q19
      exact z_return dX5_readUnit_43 rfl (Nat.le_refl _) (Nat.le_refl _) hv
    · have hv := hv.2 q78
      refine z_iload_n dX5_readUnit_28 rfl ?_
      refine z_if_eq (tgt := 44) dX5_readUnit_29 (by decide) (fun q77 => ?_) (fun q77 => ?_)
      · have hv := hv.1 q77
        refine z_aload_n dX5_readUnit_44 rfl ?_
        refine z_dup dX5_readUnit_45 rfl ?_
        refine z_getI dX5_readUnit_46 zf_X5_21 zn_17 zo_17 (fun _ _ _ _ _ => rfl) ?_
        refine z_iconst (v := 1) dX5_readUnit_49 (by decide) ?_
        refine z_iadd dX5_readUnit_50 ?_
        refine z_putI dX5_readUnit_51 zf_X5_21 zn_17 zo_17 (Or.inl rfl) (fun _ _ _ _ _ => rfl) rfl rfl (z_nmI (fun I21 e22 => ?_))
        have hv := hv I21 e22
        refine z_iload_n dX5_readUnit_54 rfl ?_
        refine z_sipush (v := 274) dX5_readUnit_55 (by decide) ?_
        refine z_icmp_ne (tgt := 76) dX5_readUnit_58 (by decide) (fun q45 => ?_) (fun q45 => ?_)
        · have hv := hv.1 q45
          refine z_iconst (v := 0) dX5_readUnit_76 (by decide) ?_
          refine z_istore (lv2 := [some (.ref 17), some (.int p1), some (.int (I 17 8)), some (.int r5), some (.int 0)]) dX5_readUnit_77 (by decide) rfl rfl ?_
          refine z_aload_n dX5_readUnit_79 rfl ?_
          refine z_callV (As := []) (st := []) dX5_readUnit_80 zl_X5_101 zv_X5_advance (by decide) rfl zn_17 zo_17 rfl rfl (Nat.le_of_ble_eq_true rfl) ⟨Nat.le_refl _, Nat.le_refl _⟩ ⟨Nat.le_refl _, Nat.le_refl _⟩ hv (fun v1 I23 L24 P25 nx1 q26 => ?_)
          obtain ⟨rfl, rfl, hv⟩ := q26
          refine z_iload_n dX5_readUnit_83 rfl ?_
          refine z_sipush (v := 262) dX5_readUnit_84 (by decide) ?_
          refine z_icmp_eq (tgt := 104) dX5_readUnit_87 (by decide) (fun q30 => ?_) (fun q30 => ?_)
          · have hv := hv.1 q30
            exact z_sub (by exact ⟨rfl, ⟨rfl, ⟨rfl, ⟨rfl, trivial⟩⟩⟩⟩) hv
          · have hv := hv.2 q30
            refine z_iload_n dX5_readUnit_90 rfl ?_
            refine z_sipush (v := 269) dX5_readUnit_91 (by decide) ?_
            refine z_icmp_eq (tgt := 104) dX5_readUnit_94 (by decide) (fun q29 => ?_) (fun q29 => ?_)
            · have hv := hv.1 q29
              exact z_sub (by exact ⟨rfl, ⟨rfl, ⟨rfl, ⟨rfl, trivial⟩⟩⟩⟩) hv
            · have hv := hv.2 q29
              refine z_iload_n dX5_readUnit_97 rfl ?_
              refine z_sipush (v := 270) dX5_readUnit_98 (by decide) ?_
              refine z_icmp_ne (tgt := 118) dX5_readUnit_101 (by decide) (fun q28 => ?_) (fun q28 => ?_)
              · have hv := hv.1 q28
                exact hv
              · have hv := hv.2 q28
                exact z_sub (by exact ⟨rfl, ⟨rfl, ⟨rfl, ⟨rfl, trivial⟩⟩⟩⟩) hv
        · have hv := hv.2 q45
          refine z_aload_n dX5_readUnit_61 rfl ?_
          obtain ⟨h31, hv⟩ := hv
          refine z_getP dX5_readUnit_62 zf_X5_37 zn_17 zo_17 (fun _ _ _ _ _ => rfl) (h31 17 2 18 zp_17_2) ?_
          refine z_aload_n dX5_readUnit_65 rfl ?_
          refine z_getI dX5_readUnit_66 zf_X5_24 zn_17 zo_17 (fun _ _ _ _ _ => rfl) ?_
          refine z_callV (As := [.int (I21 17 7)]) (st := []) dX5_readUnit_69 zl_X5_104 zv_X9_valueOf (by decide) rfl zn_18 zo_18 rfl rfl (Nat.le_of_ble_eq_true rfl) ⟨Nat.le_refl _, Nat.le_refl _⟩ ⟨Nat.le_refl _, Nat.le_refl _⟩ hv (fun v1 I32 L33 P34 nx1 q35 => ?_)
          obtain ⟨rfl, r36, rfl, hv⟩ := q35
          refine z_l2i dX5_readUnit_72 ?_
          refine z_goto (tgt := 77) dX5_readUnit_73 (by decide) ?_
          refine z_istore (lv2 := [some (.ref 17), some (.int p1), some (.int (I 17 8)), some (.int r5), some (.int ((r36 : Int64).toInt32))]) dX5_readUnit_77 (by decide) rfl rfl ?_
          refine z_aload_n dX5_readUnit_79 rfl ?_
          refine z_callV (As := []) (st := []) dX5_readUnit_80 zl_X5_101 zv_X5_advance (by decide) rfl zn_17 zo_17 rfl rfl (Nat.le_of_ble_eq_true rfl) ⟨Nat.le_refl _, Nat.le_refl _⟩ ⟨Nat.le_refl _, Nat.le_refl _⟩ hv (fun v1 I37 L38 P39 nx1 q40 => ?_)
          obtain ⟨rfl, rfl, hv⟩ := q40
          refine z_iload_n dX5_readUnit_83 rfl ?_
          refine z_sipush (v := 262) dX5_readUnit_84 (by decide) ?_
          refine z_icmp_eq (tgt := 104) dX5_readUnit_87 (by decide) (fun q44 => ?_) (fun q44 => ?_)
          · have hv := hv.1 q44
            exact z_sub (by exact ⟨rfl, ⟨rfl, ⟨rfl, ⟨rfl, trivial⟩⟩⟩⟩) hv
          · have hv := hv.2 q44
            refine z_iload_n dX5_readUnit_90 rfl ?_
            refine z_sipush (v := 269) dX5_readUnit_91 (by decide) ?_
            refine z_icmp_eq (tgt := 104) dX5_readUnit_94 (by decide) (fun q43 => ?_) (fun q43 => ?_)
            · have hv := hv.1 q43
              exact z_sub (by exact ⟨rfl, ⟨rfl, ⟨rfl, ⟨rfl, trivial⟩⟩⟩⟩) hv
            · have hv := hv.2 q43
              refine z_iload_n dX5_readUnit_97 rfl ?_
              refine z_sipush (v := 270) dX5_readUnit_98 (by decide) ?_
              refine z_icmp_ne (tgt := 118) dX5_readUnit_101 (by decide) (fun q42 => ?_) (fun q42 => ?_)
              · have hv := hv.1 q42
                exact hv
              · have hv := hv.2 q42
                exact z_sub (by exact ⟨rfl, ⟨rfl, ⟨rfl, ⟨rfl, trivial⟩⟩⟩⟩) hv
      · have hv := hv.2 q77
        refine z_iload_n dX5_readUnit_32 rfl ?_
        refine z_bipush (v := 6) dX5_readUnit_33 (by decide) ?_
        refine z_icmp_le (tgt := 44) dX5_readUnit_35 (by decide) (fun q76 => ?_) (fun q76 => ?_)
        · have hv := hv.1 q76
          refine z_aload_n dX5_readUnit_44 rfl ?_
          refine z_dup dX5_readUnit_45 rfl ?_
          refine z_getI dX5_readUnit_46 zf_X5_21 zn_17 zo_17 (fun _ _ _ _ _ => rfl) ?_
          refine z_iconst (v := 1) dX5_readUnit_49 (by decide) ?_
          refine z_iadd dX5_readUnit_50 ?_
          refine z_putI dX5_readUnit_51 zf_X5_21 zn_17 zo_17 (Or.inl rfl) (fun _ _ _ _ _ => rfl) rfl rfl (z_nmI (fun I46 e47 => ?_))
          have hv := hv I46 e47
          refine z_iload_n dX5_readUnit_54 rfl ?_
          refine z_sipush (v := 274) dX5_readUnit_55 (by decide) ?_
          refine z_icmp_ne (tgt := 76) dX5_readUnit_58 (by decide) (fun q70 => ?_) (fun q70 => ?_)
          · have hv := hv.1 q70
            refine z_iconst (v := 0) dX5_readUnit_76 (by decide) ?_
            refine z_istore (lv2 := [some (.ref 17), some (.int p1), some (.int (I 17 8)), some (.int r5), some (.int 0)]) dX5_readUnit_77 (by decide) rfl rfl ?_
            refine z_aload_n dX5_readUnit_79 rfl ?_
            refine z_callV (As := []) (st := []) dX5_readUnit_80 zl_X5_101 zv_X5_advance (by decide) rfl zn_17 zo_17 rfl rfl (Nat.le_of_ble_eq_true rfl) ⟨Nat.le_refl _, Nat.le_refl _⟩ ⟨Nat.le_refl _, Nat.le_refl _⟩ hv (fun v1 I48 L49 P50 nx1 q51 => ?_)
            obtain ⟨rfl, rfl, hv⟩ := q51
            refine z_iload_n dX5_readUnit_83 rfl ?_
            refine z_sipush (v := 262) dX5_readUnit_84 (by decide) ?_
            refine z_icmp_eq (tgt := 104) dX5_readUnit_87 (by decide) (fun q55 => ?_) (fun q55 => ?_)
            · have hv := hv.1 q55
              exact z_sub (by exact ⟨rfl, ⟨rfl, ⟨rfl, ⟨rfl, trivial⟩⟩⟩⟩) hv
            · have hv := hv.2 q55
              refine z_iload_n dX5_readUnit_90 rfl ?_
              refine z_sipush (v := 269) dX5_readUnit_91 (by decide) ?_
              refine z_icmp_eq (tgt := 104) dX5_readUnit_94 (by decide) (fun q54 => ?_) (fun q54 => ?_)
              · have hv := hv.1 q54
                exact z_sub (by exact ⟨rfl, ⟨rfl, ⟨rfl, ⟨rfl, trivial⟩⟩⟩⟩) hv
              · have hv := hv.2 q54
                refine z_iload_n dX5_readUnit_97 rfl ?_
                refine z_sipush (v := 270) dX5_readUnit_98 (by decide) ?_
                refine z_icmp_ne (tgt := 118) dX5_readUnit_101 (by decide) (fun q53 => ?_) (fun q53 => ?_)
                · have hv := hv.1 q53
                  exact hv
                · have hv := hv.2 q53
                  exact z_sub (by exact ⟨rfl, ⟨rfl, ⟨rfl, ⟨rfl, trivial⟩⟩⟩⟩) hv
          · have hv := hv.2 q70
            refine z_aload_n dX5_readUnit_61 rfl ?_
            obtain ⟨h56, hv⟩ := hv
            refine z_getP dX5_readUnit_62 zf_X5_37 zn_17 zo_17 (fun _ _ _ _ _ => rfl) (h56 17 2 18 zp_17_2) ?_
            refine z_aload_n dX5_readUnit_65 rfl ?_
            refine z_getI dX5_readUnit_66 zf_X5_24 zn_17 zo_17 (fun _ _ _ _ _ => rfl) ?_
            refine z_callV (As := [.int (I46 17 7)]) (st := []) dX5_readUnit_69 zl_X5_104 zv_X9_valueOf (by decide) rfl zn_18 zo_18 rfl rfl (Nat.le_of_ble_eq_true rfl) ⟨Nat.le_refl _, Nat.le_refl _⟩ ⟨Nat.le_refl _, Nat.le_refl _⟩ hv (fun v1 I57 L58 P59 nx1 q60 => ?_)
            obtain ⟨rfl, r61, rfl, hv⟩ := q60
            refine z_l2i dX5_readUnit_72 ?_
            refine z_goto (tgt := 77) dX5_readUnit_73 (by decide) ?_
            refine z_istore (lv2 := [some (.ref 17), some (.int p1), some (.int (I 17 8)), some (.int r5), some (.int ((r61 : Int64).toInt32))]) dX5_readUnit_77 (by decide) rfl rfl ?_
            refine z_aload_n dX5_readUnit_79 rfl ?_
            refine z_callV (As := []) (st := []) dX5_readUnit_80 zl_X5_101 zv_X5_advance (by decide) rfl zn_17 zo_17 rfl rfl (Nat.le_of_ble_eq_true rfl) ⟨Nat.le_refl _, Nat.le_refl _⟩ ⟨Nat.le_refl _, Nat.le_refl _⟩ hv (fun v1 I62 L63 P64 nx1 q65 => ?_)
            obtain ⟨rfl, rfl, hv⟩ := q65
            refine z_iload_n dX5_readUnit_83 rfl ?_
            refine z_sipush (v := 262) dX5_readUnit_84 (by decide) ?_
            refine z_icmp_eq (tgt := 104) dX5_readUnit_87 (by decide) (fun q69 => ?_) (fun q69 => ?_)
            · have hv := hv.1 q69
              exact z_sub (by exact ⟨rfl, ⟨rfl, ⟨rfl, ⟨rfl, trivial⟩⟩⟩⟩) hv
            · have hv := hv.2 q69
              refine z_iload_n dX5_readUnit_90 rfl ?_
              refine z_sipush (v := 269) dX5_readUnit_91 (by decide) ?_
              refine z_icmp_eq (tgt := 104) dX5_readUnit_94 (by decide) (fun q68 => ?_) (fun q68 => ?_)
              · have hv := hv.1 q68
                exact z_sub (by exact ⟨rfl, ⟨rfl, ⟨rfl, ⟨rfl, trivial⟩⟩⟩⟩) hv
              · have hv := hv.2 q68
                refine z_iload_n dX5_readUnit_97 rfl ?_
                refine z_sipush (v := 270) dX5_readUnit_98 (by decide) ?_
                refine z_icmp_ne (tgt := 118) dX5_readUnit_101 (by decide) (fun q67 => ?_) (fun q67 => ?_)
                · have hv := hv.1 q67
                  exact hv
                · have hv := hv.2 q67
                  exact z_sub (by exact ⟨rfl, ⟨rfl, ⟨rfl, ⟨rfl, trivial⟩⟩⟩⟩) hv
        · have hv := hv.2 q76
          refine z_aload_n dX5_readUnit_38 rfl ?_
          refine z_iconst (v := 2) dX5_readUnit_39 (by decide) ?_
          refine z_callV (As := [.int 2]) (st := []) dX5_readUnit_40 zl_X5_73 zv_X5_fail (by decide) rfl zn_17 zo_17 rfl rfl (Nat.le_of_ble_eq_true rfl) ⟨Nat.le_refl _, Nat.le_refl _⟩ ⟨Nat.le_refl _, Nat.le_refl _⟩ hv (fun v1 I71 L72 P73 nx1 q74 => ?_)
          obtain ⟨rfl, rfl, hv⟩ := q74
          exact z_return dX5_readUnit_43 rfl (Nat.le_refl _) (Nat.le_refl _) hv
abbrev gw_X5_readName (d : Nat) (Q : zQt) (pc : Nat) (lv : zV) (st : List Value) (I : zI) (L : zL) (P : zP) : Prop := zW zm_X5_readName (zRm d 0 0) 0 0 Q pc lv st I L P 205 0 0
def v_X5_readName (d : Nat) (Q : zQt)  (I : zI) (L : zL) (P : zP) : Prop :=
  (((I 17 8) = 273 →
    ∃ b1 : Nat, P 17 3 = some b1 ∧
    zMl zm_X9_valueOf d [.ref 18, .int (I 17 7)] I L P (fun r7 I3 L4 P5 =>
      (b1 < 205 ∧ (zsh b1).1 = 2) ∧
      zMi zm_X2_find d [.ref b1, .long r7] I3 L4 P5 (fun r13 I9 L10 P11 =>
        ((¬ r13 = (-1) →
          Q (some (.int r13)) I9 L10 P11 205
        ) ∧ (r13 = (-1) →
          zMv zm_X5_fail d [.ref 17, .int 4] I9 L10 P11 (fun I14 L15 P16 =>
            Q (some (.int r13)) I14 L15 P16 205
          )
        ))
      )
    )
  ) ∧ (¬ (I 17 8) = 273 →
    zMv zm_X5_fail d [.ref 17, .int 2] I L P (fun I20 L21 P22 =>
      Q (some (.int (-1))) I20 L21 P22 205
    )
  ))
set_option maxRecDepth 20000 in
theorem g_X5_readName {d : Nat} {Q : zQt}  {I : zI} {L : zL} {P : zP} (hP : zPk P) (hv : v_X5_readName d Q  I L P) : zM zm_X5_readName (d + 1) 0 0 [.ref 17] I L P 205 Q := by
  unfold v_X5_readName at hv
  refine zM_of (lv0 := [some (.ref 17), none]) (by decide +kernel) (Nat.le_of_ble_eq_true rfl) rfl ?_
  refine z_aload_n dX5_readName_0 rfl ?_
  refine z_getI dX5_readName_1 zf_X5_29 zn_17 zo_17 (fun _ _ _ _ _ => rfl) ?_
  refine z_sipush (v := 273) dX5_readName_4 (by decide) ?_
  refine z_icmp_eq (tgt := 17) dX5_readName_7 (by decide) (fun q25 => ?_) (fun q25 => ?_)
  · have hv := hv.1 q25
    refine z_aload_n dX5_readName_17 rfl ?_
    obtain ⟨b1, h2, hv⟩ := hv
    refine z_getP dX5_readName_18 zf_X5_41 zn_17 zo_17 (fun _ _ _ _ _ => rfl) h2 ?_
    refine z_aload_n dX5_readName_21 rfl ?_
    refine z_getP dX5_readName_22 zf_X5_37 zn_17 zo_17 (fun _ _ _ _ _ => rfl) (hP 17 2 18 zp_17_2) ?_
    refine z_aload_n dX5_readName_25 rfl ?_
    refine z_getI dX5_readName_26 zf_X5_24 zn_17 zo_17 (fun _ _ _ _ _ => rfl) ?_
    refine z_callV (As := [.int (I 17 7)]) (st := [.ref b1]) dX5_readName_29 zl_X5_104 zv_X9_valueOf (by decide) rfl zn_18 zo_18 rfl rfl (Nat.le_of_ble_eq_true rfl) ⟨Nat.le_refl _, Nat.le_refl _⟩ ⟨Nat.le_refl _, Nat.le_refl _⟩ hv (fun v1 I3 L4 P5 nx1 q6 => ?_)
    obtain ⟨rfl, r7, rfl, hv⟩ := q6
    obtain ⟨h8, hv⟩ := hv
    refine z_callV (As := [.long r7]) (st := []) dX5_readName_32 zl_X5_111 zv_X2_find (by decide) rfl h8.1 h8.2 rfl rfl (Nat.le_of_ble_eq_true rfl) ⟨Nat.le_refl _, Nat.le_refl _⟩ ⟨Nat.le_refl _, Nat.le_refl _⟩ hv (fun v1 I9 L10 P11 nx1 q12 => ?_)
    obtain ⟨rfl, r13, rfl, hv⟩ := q12
    refine z_istore_n (lv2 := [some (.ref 17), some (.int r13)]) dX5_readName_35 (by decide) rfl rfl ?_
    refine z_iload_n dX5_readName_36 rfl ?_
    refine z_iconst (v := (-1)) dX5_readName_37 (by decide) ?_
    refine z_icmp_ne (tgt := 46) dX5_readName_38 (by decide) (fun q19 => ?_) (fun q19 => ?_)
    · have hv := hv.1 q19
      refine z_iload_n dX5_readName_46 rfl ?_
      exact z_ireturn dX5_readName_47 rfl rfl (Nat.le_refl _) (Nat.le_refl _) hv
    · have hv := hv.2 q19
      refine z_aload_n dX5_readName_41 rfl ?_
      refine z_iconst (v := 4) dX5_readName_42 (by decide) ?_
      refine z_callV (As := [.int 4]) (st := []) dX5_readName_43 zl_X5_73 zv_X5_fail (by decide) rfl zn_17 zo_17 rfl rfl (Nat.le_of_ble_eq_true rfl) ⟨Nat.le_refl _, Nat.le_refl _⟩ ⟨Nat.le_refl _, Nat.le_refl _⟩ hv (fun v1 I14 L15 P16 nx1 q17 => ?_)
      obtain ⟨rfl, rfl, hv⟩ := q17
      refine z_iload_n dX5_readName_46 rfl ?_
      exact z_ireturn dX5_readName_47 rfl rfl (Nat.le_refl _) (Nat.le_refl _) hv
  · have hv := hv.2 q25
    refine z_aload_n dX5_readName_10 rfl ?_
    refine z_iconst (v := 2) dX5_readName_11 (by decide) ?_
    refine z_callV (As := [.int 2]) (st := []) dX5_readName_12 zl_X5_73 zv_X5_fail (by decide) rfl zn_17 zo_17 rfl rfl (Nat.le_of_ble_eq_true rfl) ⟨Nat.le_refl _, Nat.le_refl _⟩ ⟨Nat.le_refl _, Nat.le_refl _⟩ hv (fun v1 I20 L21 P22 nx1 q23 => ?_)
    obtain ⟨rfl, rfl, hv⟩ := q23
    refine z_iconst (v := (-1)) dX5_readName_15 (by decide) ?_
    exact z_ireturn dX5_readName_16 rfl rfl (Nat.le_refl _) (Nat.le_refl _) hv
abbrev gw_X5_accept (d : Nat) (Q : zQt) (pc : Nat) (lv : zV) (st : List Value) (I : zI) (L : zL) (P : zP) : Prop := zW zm_X5_accept (zRm d 0 0) 0 0 Q pc lv st I L P 205 0 0
def v_X5_accept (d : Nat) (Q : zQt) (p1 : Int32) (I : zI) (L : zL) (P : zP) : Prop :=
  ((¬ (I 17 8) = p1 →
    (((0 : Int32) = 0 →
      Q (some (.int 0)) I L P 205
    ) ∧ (¬ (0 : Int32) = 0 →
      zMv zm_X5_advance d [.ref 17] I L P (fun I1 L2 P3 =>
        Q (some (.int 0)) I1 L2 P3 205
      )
    ))
  ) ∧ ((I 17 8) = p1 →
    (((1 : Int32) = 0 →
      Q (some (.int 1)) I L P 205
    ) ∧ (¬ (1 : Int32) = 0 →
      zMv zm_X5_advance d [.ref 17] I L P (fun I7 L8 P9 =>
        Q (some (.int 1)) I7 L8 P9 205
      )
    ))
  ))
set_option maxRecDepth 20000 in
theorem g_X5_accept {d : Nat} {Q : zQt} {p1 : Int32} {I : zI} {L : zL} {P : zP} (hP : zPk P) (hv : v_X5_accept d Q p1 I L P) : zM zm_X5_accept (d + 1) 0 0 [.ref 17, .int p1] I L P 205 Q := by
  unfold v_X5_accept at hv
  refine zM_of (lv0 := [some (.ref 17), some (.int p1), none]) (by decide +kernel) (Nat.le_of_ble_eq_true rfl) rfl ?_
  refine z_aload_n dX5_accept_0 rfl ?_
  refine z_getI dX5_accept_1 zf_X5_29 zn_17 zo_17 (fun _ _ _ _ _ => rfl) ?_
  refine z_iload_n dX5_accept_4 rfl ?_
  refine z_icmp_ne (tgt := 12) dX5_accept_5 (by decide) (fun q13 => ?_) (fun q13 => ?_)
  · have hv := hv.1 q13
    refine z_iconst (v := 0) dX5_accept_12 (by decide) ?_
    refine z_istore_n (lv2 := [some (.ref 17), some (.int p1), some (.int 0)]) dX5_accept_13 (by decide) rfl rfl ?_
    refine z_iload_n dX5_accept_14 rfl ?_
    refine z_if_eq (tgt := 22) dX5_accept_15 (by decide) (fun q6 => ?_) (fun q6 => ?_)
    · have hv := hv.1 q6
      refine z_iload_n dX5_accept_22 rfl ?_
      exact z_ireturn dX5_accept_23 rfl (by decide) (Nat.le_refl _) (Nat.le_refl _) hv
    · have hv := hv.2 q6
      refine z_aload_n dX5_accept_18 rfl ?_
      refine z_callV (As := []) (st := []) dX5_accept_19 zl_X5_101 zv_X5_advance (by decide) rfl zn_17 zo_17 rfl rfl (Nat.le_of_ble_eq_true rfl) ⟨Nat.le_refl _, Nat.le_refl _⟩ ⟨Nat.le_refl _, Nat.le_refl _⟩ hv (fun v1 I1 L2 P3 nx1 q4 => ?_)
      obtain ⟨rfl, rfl, hv⟩ := q4
      refine z_iload_n dX5_accept_22 rfl ?_
      exact z_ireturn dX5_accept_23 rfl (by decide) (Nat.le_refl _) (Nat.le_refl _) hv
  · have hv := hv.2 q13
    refine z_iconst (v := 1) dX5_accept_8 (by decide) ?_
    refine z_goto (tgt := 13) dX5_accept_9 (by decide) ?_
    refine z_istore_n (lv2 := [some (.ref 17), some (.int p1), some (.int 1)]) dX5_accept_13 (by decide) rfl rfl ?_
    refine z_iload_n dX5_accept_14 rfl ?_
    refine z_if_eq (tgt := 22) dX5_accept_15 (by decide) (fun q12 => ?_) (fun q12 => ?_)
    · have hv := hv.1 q12
      refine z_iload_n dX5_accept_22 rfl ?_
      exact z_ireturn dX5_accept_23 rfl (by decide) (Nat.le_refl _) (Nat.le_refl _) hv
    · have hv := hv.2 q12
      refine z_aload_n dX5_accept_18 rfl ?_
      refine z_callV (As := []) (st := []) dX5_accept_19 zl_X5_101 zv_X5_advance (by decide) rfl zn_17 zo_17 rfl rfl (Nat.le_of_ble_eq_true rfl) ⟨Nat.le_refl _, Nat.le_refl _⟩ ⟨Nat.le_refl _, Nat.le_refl _⟩ hv (fun v1 I7 L8 P9 nx1 q10 => ?_)
      obtain ⟨rfl, rfl, hv⟩ := q10
      refine z_iload_n dX5_accept_22 rfl ?_
      exact z_ireturn dX5_accept_23 rfl (by decide) (Nat.le_refl _) (Nat.le_refl _) hv
abbrev gw_X5_expect (d : Nat) (Q : zQt) (pc : Nat) (lv : zV) (st : List Value) (I : zI) (L : zL) (P : zP) : Prop := zW zm_X5_expect (zRm d 0 0) 0 0 Q pc lv st I L P 205 0 0
def v_X5_expect (d : Nat) (Q : zQt) (p1 : Int32) (I : zI) (L : zL) (P : zP) : Prop :=
  ((¬ (I 17 8) = p1 →
    zMv zm_X5_fail d [.ref 17, .int 2] I L P (fun I1 L2 P3 =>
      Q none I1 L2 P3 205
    )
  ) ∧ ((I 17 8) = p1 →
    zMv zm_X5_advance d [.ref 17] I L P (fun I6 L7 P8 =>
      Q none I6 L7 P8 205
    )
  ))
set_option maxRecDepth 20000 in
theorem g_X5_expect {d : Nat} {Q : zQt} {p1 : Int32} {I : zI} {L : zL} {P : zP} (hP : zPk P) (hv : v_X5_expect d Q p1 I L P) : zM zm_X5_expect (d + 1) 0 0 [.ref 17, .int p1] I L P 205 Q := by
  unfold v_X5_expect at hv
  refine zM_of (lv0 := [some (.ref 17), some (.int p1)]) (by decide +kernel) (Nat.le_of_ble_eq_true rfl) rfl ?_
  refine z_aload_n dX5_expect_0 rfl ?_
  refine z_getI dX5_expect_1 zf_X5_29 zn_17 zo_17 (fun _ _ _ _ _ => rfl) ?_
  refine z_iload_n dX5_expect_4 rfl ?_
  refine z_icmp_ne (tgt := 15) dX5_expect_5 (by decide) (fun q11 => ?_) (fun q11 => ?_)
  · have hv := hv.1 q11
    refine z_aload_n dX5_expect_15 rfl ?_
    refine z_iconst (v := 2) dX5_expect_16 (by decide) ?_
    refine z_callV (As := [.int 2]) (st := []) dX5_expect_17 zl_X5_73 zv_X5_fail (by decide) rfl zn_17 zo_17 rfl rfl (Nat.le_of_ble_eq_true rfl) ⟨Nat.le_refl _, Nat.le_refl _⟩ ⟨Nat.le_refl _, Nat.le_refl _⟩ hv (fun v1 I1 L2 P3 nx1 q4 => ?_)
    obtain ⟨rfl, rfl, hv⟩ := q4
    exact z_return dX5_expect_20 rfl (Nat.le_refl _) (Nat.le_refl _) hv
  · have hv := hv.2 q11
    refine z_aload_n dX5_expect_8 rfl ?_
    refine z_callV (As := []) (st := []) dX5_expect_9 zl_X5_101 zv_X5_advance (by decide) rfl zn_17 zo_17 rfl rfl (Nat.le_of_ble_eq_true rfl) ⟨Nat.le_refl _, Nat.le_refl _⟩ ⟨Nat.le_refl _, Nat.le_refl _⟩ hv (fun v1 I6 L7 P8 nx1 q9 => ?_)
    obtain ⟨rfl, rfl, hv⟩ := q9
    refine z_goto (tgt := 20) dX5_expect_12 (by decide) ?_
    exact z_return dX5_expect_20 rfl (Nat.le_refl _) (Nat.le_refl _) hv
abbrev gw_X5_fail (d : Nat) (Q : zQt) (pc : Nat) (lv : zV) (st : List Value) (I : zI) (L : zL) (P : zP) : Prop := zW zm_X5_fail (zRm d 0 0) 0 0 Q pc lv st I L P 205 0 0
def v_X5_fail (d : Nat) (Q : zQt) (p1 : Int32) (I : zI) (L : zL) (P : zP) : Prop :=
  ((¬ (I 17 0) = 0 →
    Q none I L P 205
  ) ∧ ((I 17 0) = 0 →
    ((¬ (I 17 8) = 276 →
      ∀ I1 : zI, I1 = zuI I 17 0 p1 →
      zMi zm_X9_placeOf d [.ref 18, .int (I1 17 7)] I1 L P (fun r7 I3 L4 P5 =>
        ∀ I8 : zI, I8 = zuI I3 17 1 r7 →
        ∀ I10 : zI, I10 = zuI I8 17 8 277 →
        Q none I10 L4 P5 205
      )
    ) ∧ ((I 17 8) = 276 →
      ∀ I12 : zI, I12 = zuI I 17 0 1 →
      zMi zm_X9_placeOf d [.ref 18, .int (I12 17 7)] I12 L P (fun r18 I14 L15 P16 =>
        ∀ I19 : zI, I19 = zuI I14 17 1 r18 →
        ∀ I21 : zI, I21 = zuI I19 17 8 277 →
        Q none I21 L15 P16 205
      )
    ))
  ))
set_option maxRecDepth 20000 in
theorem g_X5_fail {d : Nat} {Q : zQt} {p1 : Int32} {I : zI} {L : zL} {P : zP} (hP : zPk P) (hv : v_X5_fail d Q p1 I L P) : zM zm_X5_fail (d + 1) 0 0 [.ref 17, .int p1] I L P 205 Q := by
  unfold v_X5_fail at hv
  refine zM_of (lv0 := [some (.ref 17), some (.int p1)]) (by decide +kernel) (Nat.le_of_ble_eq_true rfl) rfl ?_
  refine z_aload_n dX5_fail_0 rfl ?_
  refine z_getI dX5_fail_1 zf_X5_9 zn_17 zo_17 (fun _ _ _ _ _ => rfl) ?_
  refine z_if_ne (tgt := 48) dX5_fail_4 (by decide) (fun q24 => ?_) (fun q24 => ?_)
  · have hv := hv.1 q24
    exact z_return dX5_fail_48 rfl (Nat.le_refl _) (Nat.le_refl _) hv
  · have hv := hv.2 q24
    refine z_aload_n dX5_fail_7 rfl ?_
    refine z_aload_n dX5_fail_8 rfl ?_
    refine z_getI dX5_fail_9 zf_X5_29 zn_17 zo_17 (fun _ _ _ _ _ => rfl) ?_
    refine z_sipush (v := 276) dX5_fail_12 (by decide) ?_
    refine z_icmp_ne (tgt := 22) dX5_fail_15 (by decide) (fun q23 => ?_) (fun q23 => ?_)
    · have hv := hv.1 q23
      refine z_iload_n dX5_fail_22 rfl ?_
      refine z_putI dX5_fail_23 zf_X5_9 zn_17 zo_17 (Or.inl rfl) (fun _ _ _ _ _ => rfl) rfl rfl (z_nmI (fun I1 e2 => ?_))
      have hv := hv I1 e2
      refine z_aload_n dX5_fail_26 rfl ?_
      refine z_aload_n dX5_fail_27 rfl ?_
      refine z_getP dX5_fail_28 zf_X5_37 zn_17 zo_17 (fun _ _ _ _ _ => rfl) (hP 17 2 18 zp_17_2) ?_
      refine z_aload_n dX5_fail_31 rfl ?_
      refine z_getI dX5_fail_32 zf_X5_24 zn_17 zo_17 (fun _ _ _ _ _ => rfl) ?_
      refine z_callV (As := [.int (I1 17 7)]) (st := [.ref 17]) dX5_fail_35 zl_X5_183 zv_X9_placeOf (by decide) rfl zn_18 zo_18 rfl rfl (Nat.le_of_ble_eq_true rfl) ⟨Nat.le_refl _, Nat.le_refl _⟩ ⟨Nat.le_refl _, Nat.le_refl _⟩ hv (fun v1 I3 L4 P5 nx1 q6 => ?_)
      obtain ⟨rfl, r7, rfl, hv⟩ := q6
      refine z_putI dX5_fail_38 zf_X5_15 zn_17 zo_17 (Or.inl rfl) (fun _ _ _ _ _ => rfl) rfl rfl (z_nmI (fun I8 e9 => ?_))
      have hv := hv I8 e9
      refine z_aload_n dX5_fail_41 rfl ?_
      refine z_sipush (v := 277) dX5_fail_42 (by decide) ?_
      refine z_putI dX5_fail_45 zf_X5_29 zn_17 zo_17 (Or.inl rfl) (fun _ _ _ _ _ => rfl) rfl rfl (z_nmI (fun I10 e11 => ?_))
      have hv := hv I10 e11
      exact z_return dX5_fail_48 rfl (Nat.le_refl _) (Nat.le_refl _) hv
    · have hv := hv.2 q23
      refine z_iconst (v := 1) dX5_fail_18 (by decide) ?_
      refine z_goto (tgt := 23) dX5_fail_19 (by decide) ?_
      refine z_putI dX5_fail_23 zf_X5_9 zn_17 zo_17 (Or.inl rfl) (fun _ _ _ _ _ => rfl) rfl rfl (z_nmI (fun I12 e13 => ?_))
      have hv := hv I12 e13
      refine z_aload_n dX5_fail_26 rfl ?_
      refine z_aload_n dX5_fail_27 rfl ?_
      refine z_getP dX5_fail_28 zf_X5_37 zn_17 zo_17 (fun _ _ _ _ _ => rfl) (hP 17 2 18 zp_17_2) ?_
      refine z_aload_n dX5_fail_31 rfl ?_
      refine z_getI dX5_fail_32 zf_X5_24 zn_17 zo_17 (fun _ _ _ _ _ => rfl) ?_
      refine z_callV (As := [.int (I12 17 7)]) (st := [.ref 17]) dX5_fail_35 zl_X5_183 zv_X9_placeOf (by decide) rfl zn_18 zo_18 rfl rfl (Nat.le_of_ble_eq_true rfl) ⟨Nat.le_refl _, Nat.le_refl _⟩ ⟨Nat.le_refl _, Nat.le_refl _⟩ hv (fun v1 I14 L15 P16 nx1 q17 => ?_)
      obtain ⟨rfl, r18, rfl, hv⟩ := q17
      refine z_putI dX5_fail_38 zf_X5_15 zn_17 zo_17 (Or.inl rfl) (fun _ _ _ _ _ => rfl) rfl rfl (z_nmI (fun I19 e20 => ?_))
      have hv := hv I19 e20
      refine z_aload_n dX5_fail_41 rfl ?_
      refine z_sipush (v := 277) dX5_fail_42 (by decide) ?_
      refine z_putI dX5_fail_45 zf_X5_29 zn_17 zo_17 (Or.inl rfl) (fun _ _ _ _ _ => rfl) rfl rfl (z_nmI (fun I21 e22 => ?_))
      have hv := hv I21 e22
      exact z_return dX5_fail_48 rfl (Nat.le_refl _) (Nat.le_refl _) hv
abbrev gw_X5_advance (d : Nat) (Q : zQt) (pc : Nat) (lv : zV) (st : List Value) (I : zI) (L : zL) (P : zP) : Prop := zW zm_X5_advance (zRm d 0 0) 0 0 Q pc lv st I L P 205 0 0
def v_X5_advance (d : Nat) (Q : zQt)  (I : zI) (L : zL) (P : zP) : Prop :=
  ((¬ (I 17 0) = 0 →
    Q none I L P 205
  ) ∧ ((I 17 0) = 0 →
    ∀ I1 : zI, I1 = zuI I 17 7 ((I 17 7) + 1) →
    zMi zm_X9_kindOf d [.ref 18, .int (I1 17 7)] I1 L P (fun r7 I3 L4 P5 =>
      ∀ I8 : zI, I8 = zuI I3 17 8 r7 →
      Q none I8 L4 P5 205
    )
  ))
set_option maxRecDepth 20000 in
theorem g_X5_advance {d : Nat} {Q : zQt}  {I : zI} {L : zL} {P : zP} (hP : zPk P) (hv : v_X5_advance d Q  I L P) : zM zm_X5_advance (d + 1) 0 0 [.ref 17] I L P 205 Q := by
  unfold v_X5_advance at hv
  refine zM_of (lv0 := [some (.ref 17)]) (by decide +kernel) (Nat.le_of_ble_eq_true rfl) rfl ?_
  refine z_aload_n dX5_advance_0 rfl ?_
  refine z_getI dX5_advance_1 zf_X5_9 zn_17 zo_17 (fun _ _ _ _ _ => rfl) ?_
  refine z_if_ne (tgt := 32) dX5_advance_4 (by decide) (fun q10 => ?_) (fun q10 => ?_)
  · have hv := hv.1 q10
    exact z_return dX5_advance_32 rfl (Nat.le_refl _) (Nat.le_refl _) hv
  · have hv := hv.2 q10
    refine z_aload_n dX5_advance_7 rfl ?_
    refine z_dup dX5_advance_8 rfl ?_
    refine z_getI dX5_advance_9 zf_X5_24 zn_17 zo_17 (fun _ _ _ _ _ => rfl) ?_
    refine z_iconst (v := 1) dX5_advance_12 (by decide) ?_
    refine z_iadd dX5_advance_13 ?_
    refine z_putI dX5_advance_14 zf_X5_24 zn_17 zo_17 (Or.inl rfl) (fun _ _ _ _ _ => rfl) rfl rfl (z_nmI (fun I1 e2 => ?_))
    have hv := hv I1 e2
    refine z_aload_n dX5_advance_17 rfl ?_
    refine z_aload_n dX5_advance_18 rfl ?_
    refine z_getP dX5_advance_19 zf_X5_37 zn_17 zo_17 (fun _ _ _ _ _ => rfl) (hP 17 2 18 zp_17_2) ?_
    refine z_aload_n dX5_advance_22 rfl ?_
    refine z_getI dX5_advance_23 zf_X5_24 zn_17 zo_17 (fun _ _ _ _ _ => rfl) ?_
    refine z_callV (As := [.int (I1 17 7)]) (st := [.ref 17]) dX5_advance_26 zl_X5_93 zv_X9_kindOf (by decide) rfl zn_18 zo_18 rfl rfl (Nat.le_of_ble_eq_true rfl) ⟨Nat.le_refl _, Nat.le_refl _⟩ ⟨Nat.le_refl _, Nat.le_refl _⟩ hv (fun v1 I3 L4 P5 nx1 q6 => ?_)
    obtain ⟨rfl, r7, rfl, hv⟩ := q6
    refine z_putI dX5_advance_29 zf_X5_29 zn_17 zo_17 (Or.inl rfl) (fun _ _ _ _ _ => rfl) rfl rfl (z_nmI (fun I8 e9 => ?_))
    have hv := hv I8 e9
    exact z_return dX5_advance_32 rfl (Nat.le_refl _) (Nat.le_refl _) hv
abbrev gw_X9_scan (d : Nat) (Q : zQt) (pc : Nat) (lv : zV) (st : List Value) (I : zI) (L : zL) (P : zP) : Prop := zW zm_X9_scan (zRm d 0 0) 0 0 Q pc lv st I L P 205 0 0
def v_X9_scan_14 (d : Nat) (Q : zQt) (x1 : Int32) (I : zI) (L : zL) (P : zP) : Prop :=
  ((1600 < (I 18 5) →
    Q none I L P 205
  ) ∧ (¬ 1600 < (I 18 5) →
    ((x1 = 275 →
      Q none I L P 205
    ) ∧ (¬ x1 = 275 →
      ((x1 = 276 →
        Q none I L P 205
      ) ∧ (¬ x1 = 276 →
        zMv zm_X9_skipBlanks d [.ref 18] I L P (fun I5 L6 P7 =>
          zPk P7 ∧
          vp_in (I5 18 5) 1601 ∧
          ∀ I13 : zI, I13 = zuI I5 21 (I5 18 5).toNatClampNeg (I5 18 6) →
          vp_in (I13 18 5) 1601 ∧
          ∀ L16 : zL, L16 = zuL L6 22 (I13 18 5).toNatClampNeg 0 →
          zMi zm_X9_take d [.ref 18] I13 L16 P7 (fun r21 I17 L18 P19 =>
            zPk P19 ∧
            vp_in (I17 18 5) 1601 ∧
            ∀ I25 : zI, I25 = zuI I17 20 (I17 18 5).toNatClampNeg r21 →
            ∀ I26 : zI, I26 = zuI I25 18 5 ((I25 18 5) + 1) →
            gw_X9_scan (d + 1) Q 14 [some (.ref 18), some (.int r21)] [] I26 L18 P19
          )
        )
      ))
    ))
  ))
set_option maxRecDepth 20000 in
theorem g_X9_scan_14 {d : Nat} {Q : zQt} {x1 : Int32} {I : zI} {L : zL} {P : zP} (hP : zPk P) (hv : v_X9_scan_14 d Q x1 I L P) : gw_X9_scan (d + 1) Q 14 [some (.ref 18), some (.int x1)] [] I L P := by
  unfold v_X9_scan_14 at hv
  refine z_aload_n dX9_scan_14 rfl ?_
  refine z_getI dX9_scan_15 zf_X9_29 zn_18 zo_18 (fun _ _ _ _ _ => rfl) ?_
  refine z_sipush (v := 1600) dX9_scan_18 (by decide) ?_
  refine z_icmp_gt (tgt := 93) dX9_scan_21 (by decide) (fun q30 => ?_) (fun q30 => ?_)
  · have hv := hv.1 q30
    exact z_return dX9_scan_93 rfl (Nat.le_refl _) (Nat.le_refl _) hv
  · have hv := hv.2 q30
    refine z_iload_n dX9_scan_24 rfl ?_
    refine z_sipush (v := 275) dX9_scan_25 (by decide) ?_
    refine z_icmp_eq (tgt := 93) dX9_scan_28 (by decide) (fun q29 => ?_) (fun q29 => ?_)
    · have hv := hv.1 q29
      exact z_return dX9_scan_93 rfl (Nat.le_refl _) (Nat.le_refl _) hv
    · have hv := hv.2 q29
      refine z_iload_n dX9_scan_31 rfl ?_
      refine z_sipush (v := 276) dX9_scan_32 (by decide) ?_
      refine z_icmp_eq (tgt := 93) dX9_scan_35 (by decide) (fun q28 => ?_) (fun q28 => ?_)
      · have hv := hv.1 q28
        exact z_return dX9_scan_93 rfl (Nat.le_refl _) (Nat.le_refl _) hv
      · have hv := hv.2 q28
        refine z_aload_n dX9_scan_38 rfl ?_
        refine z_callV (As := []) (st := []) dX9_scan_39 zl_X9_52 zv_X9_skipBlanks (by decide) rfl zn_18 zo_18 rfl rfl (Nat.le_of_ble_eq_true rfl) ⟨Nat.le_refl _, Nat.le_refl _⟩ ⟨Nat.le_refl _, Nat.le_refl _⟩ hv (fun v1 I5 L6 P7 nx1 q8 => ?_)
        obtain ⟨rfl, rfl, hv⟩ := q8
        refine z_aload_n dX9_scan_42 rfl ?_
        obtain ⟨h10, hv⟩ := hv
        refine z_getP dX9_scan_43 zf_X9_23 zn_18 zo_18 (fun _ _ _ _ _ => rfl) (h10 18 3 21 zp_18_3) ?_
        refine z_aload_n dX9_scan_46 rfl ?_
        refine z_getI dX9_scan_47 zf_X9_29 zn_18 zo_18 (fun _ _ _ _ _ => rfl) ?_
        refine z_aload_n dX9_scan_50 rfl ?_
        refine z_getI dX9_scan_51 zf_X9_33 zn_18 zo_18 (fun _ _ _ _ _ => rfl) ?_
        obtain ⟨h11, hv⟩ := hv
        refine z_iastore dX9_scan_54 zn_21 zh_21 h11 (z_nmI (fun I13 e12 => ?_))
        have hv := hv I13 e12
        refine z_aload_n dX9_scan_55 rfl ?_
        refine z_getP dX9_scan_56 zf_X9_26 zn_18 zo_18 (fun _ _ _ _ _ => rfl) (h10 18 4 22 zp_18_4) ?_
        refine z_aload_n dX9_scan_59 rfl ?_
        refine z_getI dX9_scan_60 zf_X9_29 zn_18 zo_18 (fun _ _ _ _ _ => rfl) ?_
        refine z_lconst (v := 0) dX9_scan_63 (by decide) ?_
        obtain ⟨h14, hv⟩ := hv
        refine z_lastore dX9_scan_64 zn_22 zh_22 h14 (z_nmL (fun L16 e15 => ?_))
        have hv := hv L16 e15
        refine z_aload_n dX9_scan_65 rfl ?_
        refine z_callV (As := []) (st := []) dX9_scan_66 zl_X9_55 zv_X9_take (by decide) rfl zn_18 zo_18 rfl rfl (Nat.le_of_ble_eq_true rfl) ⟨Nat.le_refl _, Nat.le_refl _⟩ ⟨Nat.le_refl _, Nat.le_refl _⟩ hv (fun v1 I17 L18 P19 nx1 q20 => ?_)
        obtain ⟨rfl, r21, rfl, hv⟩ := q20
        refine z_istore_n (lv2 := [some (.ref 18), some (.int r21)]) dX9_scan_69 (by decide) rfl rfl ?_
        refine z_aload_n dX9_scan_70 rfl ?_
        obtain ⟨h22, hv⟩ := hv
        refine z_getP dX9_scan_71 zf_X9_19 zn_18 zo_18 (fun _ _ _ _ _ => rfl) (h22 18 2 20 zp_18_2) ?_
        refine z_aload_n dX9_scan_74 rfl ?_
        refine z_getI dX9_scan_75 zf_X9_29 zn_18 zo_18 (fun _ _ _ _ _ => rfl) ?_
        refine z_iload_n dX9_scan_78 rfl ?_
        obtain ⟨h23, hv⟩ := hv
        refine z_iastore dX9_scan_79 zn_20 zh_20 h23 (z_nmI (fun I25 e24 => ?_))
        have hv := hv I25 e24
        refine z_aload_n dX9_scan_80 rfl ?_
        refine z_dup dX9_scan_81 rfl ?_
        refine z_getI dX9_scan_82 zf_X9_29 zn_18 zo_18 (fun _ _ _ _ _ => rfl) ?_
        refine z_iconst (v := 1) dX9_scan_85 (by decide) ?_
        refine z_iadd dX9_scan_86 ?_
        refine z_putI dX9_scan_87 zf_X9_29 zn_18 zo_18 (Or.inl rfl) (fun _ _ _ _ _ => rfl) rfl rfl (z_nmI (fun I26 e27 => ?_))
        have hv := hv I26 e27
        refine z_goto (tgt := 14) dX9_scan_90 (by decide) ?_
        exact hv
def v_X9_scan (d : Nat) (Q : zQt)  (I : zI) (L : zL) (P : zP) : Prop :=
  ∀ I1 : zI, I1 = zuI I 18 5 0 →
  ∀ I3 : zI, I3 = zuI I1 18 6 0 →
  gw_X9_scan (d + 1) Q 14 [some (.ref 18), some (.int 273)] [] I3 L P
set_option maxRecDepth 20000 in
theorem g_X9_scan {d : Nat} {Q : zQt}  {I : zI} {L : zL} {P : zP} (hP : zPk P) (hv : v_X9_scan d Q  I L P) : zM zm_X9_scan (d + 1) 0 0 [.ref 18] I L P 205 Q := by
  unfold v_X9_scan at hv
  refine zM_of (lv0 := [some (.ref 18), none]) (by decide +kernel) (Nat.le_of_ble_eq_true rfl) rfl ?_
  refine z_aload_n dX9_scan_0 rfl ?_
  refine z_iconst (v := 0) dX9_scan_1 (by decide) ?_
  refine z_putI dX9_scan_2 zf_X9_29 zn_18 zo_18 (Or.inl rfl) (fun _ _ _ _ _ => rfl) rfl rfl (z_nmI (fun I1 e2 => ?_))
  have hv := hv I1 e2
  refine z_aload_n dX9_scan_5 rfl ?_
  refine z_iconst (v := 0) dX9_scan_6 (by decide) ?_
  refine z_putI dX9_scan_7 zf_X9_33 zn_18 zo_18 (Or.inl rfl) (fun _ _ _ _ _ => rfl) rfl rfl (z_nmI (fun I3 e4 => ?_))
  have hv := hv I3 e4
  refine z_sipush (v := 273) dX9_scan_10 (by decide) ?_
  refine z_istore_n (lv2 := [some (.ref 18), some (.int 273)]) dX9_scan_13 (by decide) rfl rfl ?_
  exact hv
abbrev gw_X9_kindOf (d : Nat) (Q : zQt) (pc : Nat) (lv : zV) (st : List Value) (I : zI) (L : zL) (P : zP) : Prop := zW zm_X9_kindOf (zRm d 0 0) 0 0 Q pc lv st I L P 205 0 0
def v_X9_kindOf (d : Nat) (Q : zQt) (p1 : Int32) (I : zI) (L : zL) (P : zP) : Prop :=
  ((p1 < 0 →
    Q (some (.int 275)) I L P 205
  ) ∧ (¬ p1 < 0 →
    (((I 18 5) ≤ p1 →
      Q (some (.int 275)) I L P 205
    ) ∧ (¬ (I 18 5) ≤ p1 →
      vp_in p1 1601 ∧
      Q (some (.int (I 20 p1.toNatClampNeg))) I L P 205
    ))
  ))
set_option maxRecDepth 20000 in
theorem g_X9_kindOf {d : Nat} {Q : zQt} {p1 : Int32} {I : zI} {L : zL} {P : zP} (hP : zPk P) (hv : v_X9_kindOf d Q p1 I L P) : zM zm_X9_kindOf d 0 0 [.ref 18, .int p1] I L P 205 Q := by
  unfold v_X9_kindOf at hv
  refine zM_of (lv0 := [some (.ref 18), some (.int p1)]) (by decide +kernel) (Nat.le_of_ble_eq_true rfl) rfl ?_
  refine z_iload_n dX9_kindOf_0 rfl ?_
  refine z_if_lt (tgt := 21) dX9_kindOf_1 (by decide) (fun q3 => ?_) (fun q3 => ?_)
  · have hv := hv.1 q3
    refine z_sipush (v := 275) dX9_kindOf_21 (by decide) ?_
    exact z_ireturn dX9_kindOf_24 rfl rfl (Nat.le_refl _) (Nat.le_refl _) hv
  · have hv := hv.2 q3
    refine z_iload_n dX9_kindOf_4 rfl ?_
    refine z_aload_n dX9_kindOf_5 rfl ?_
    refine z_getI dX9_kindOf_6 zf_X9_29 zn_18 zo_18 (fun _ _ _ _ _ => rfl) ?_
    refine z_icmp_ge (tgt := 21) dX9_kindOf_9 (by decide) (fun q2 => ?_) (fun q2 => ?_)
    · have hv := hv.1 q2
      refine z_sipush (v := 275) dX9_kindOf_21 (by decide) ?_
      exact z_ireturn dX9_kindOf_24 rfl rfl (Nat.le_refl _) (Nat.le_refl _) hv
    · have hv := hv.2 q2
      refine z_aload_n dX9_kindOf_12 rfl ?_
      refine z_getP dX9_kindOf_13 zf_X9_19 zn_18 zo_18 (fun _ _ _ _ _ => rfl) (hP 18 2 20 zp_18_2) ?_
      refine z_iload_n dX9_kindOf_16 rfl ?_
      obtain ⟨h1, hv⟩ := hv
      refine z_iaload dX9_kindOf_17 zn_20 zh_20 h1 ?_
      refine z_goto (tgt := 24) dX9_kindOf_18 (by decide) ?_
      exact z_ireturn dX9_kindOf_24 rfl rfl (Nat.le_refl _) (Nat.le_refl _) hv
abbrev gw_X9_placeOf (d : Nat) (Q : zQt) (pc : Nat) (lv : zV) (st : List Value) (I : zI) (L : zL) (P : zP) : Prop := zW zm_X9_placeOf (zRm d 0 0) 0 0 Q pc lv st I L P 205 0 0
def v_X9_placeOf (d : Nat) (Q : zQt) (p1 : Int32) (I : zI) (L : zL) (P : zP) : Prop :=
  ((p1 < 0 →
    Q (some (.int (I 1 1))) I L P 205
  ) ∧ (¬ p1 < 0 →
    (((I 18 5) ≤ p1 →
      Q (some (.int (I 1 1))) I L P 205
    ) ∧ (¬ (I 18 5) ≤ p1 →
      vp_in p1 1601 ∧
      Q (some (.int (I 21 p1.toNatClampNeg))) I L P 205
    ))
  ))
set_option maxRecDepth 20000 in
theorem g_X9_placeOf {d : Nat} {Q : zQt} {p1 : Int32} {I : zI} {L : zL} {P : zP} (hP : zPk P) (hv : v_X9_placeOf d Q p1 I L P) : zM zm_X9_placeOf d 0 0 [.ref 18, .int p1] I L P 205 Q := by
  unfold v_X9_placeOf at hv
  refine zM_of (lv0 := [some (.ref 18), some (.int p1)]) (by decide +kernel) (Nat.le_of_ble_eq_true rfl) rfl ?_
  refine z_iload_n dX9_placeOf_0 rfl ?_
  refine z_if_lt (tgt := 21) dX9_placeOf_1 (by decide) (fun q3 => ?_) (fun q3 => ?_)
  · have hv := hv.1 q3
    refine z_aload_n dX9_placeOf_21 rfl ?_
    refine z_getP dX9_placeOf_22 zf_X9_36 zn_18 zo_18 (fun _ _ _ _ _ => rfl) (hP 18 0 1 zp_18_0) ?_
    refine z_getI dX9_placeOf_25 zf_X9_58 zn_1 zo_1 (fun _ _ _ _ _ => rfl) ?_
    exact z_ireturn dX9_placeOf_28 rfl rfl (Nat.le_refl _) (Nat.le_refl _) hv
  · have hv := hv.2 q3
    refine z_iload_n dX9_placeOf_4 rfl ?_
    refine z_aload_n dX9_placeOf_5 rfl ?_
    refine z_getI dX9_placeOf_6 zf_X9_29 zn_18 zo_18 (fun _ _ _ _ _ => rfl) ?_
    refine z_icmp_ge (tgt := 21) dX9_placeOf_9 (by decide) (fun q2 => ?_) (fun q2 => ?_)
    · have hv := hv.1 q2
      refine z_aload_n dX9_placeOf_21 rfl ?_
      refine z_getP dX9_placeOf_22 zf_X9_36 zn_18 zo_18 (fun _ _ _ _ _ => rfl) (hP 18 0 1 zp_18_0) ?_
      refine z_getI dX9_placeOf_25 zf_X9_58 zn_1 zo_1 (fun _ _ _ _ _ => rfl) ?_
      exact z_ireturn dX9_placeOf_28 rfl rfl (Nat.le_refl _) (Nat.le_refl _) hv
    · have hv := hv.2 q2
      refine z_aload_n dX9_placeOf_12 rfl ?_
      refine z_getP dX9_placeOf_13 zf_X9_23 zn_18 zo_18 (fun _ _ _ _ _ => rfl) (hP 18 3 21 zp_18_3) ?_
      refine z_iload_n dX9_placeOf_16 rfl ?_
      obtain ⟨h1, hv⟩ := hv
      refine z_iaload dX9_placeOf_17 zn_21 zh_21 h1 ?_
      refine z_goto (tgt := 28) dX9_placeOf_18 (by decide) ?_
      exact z_ireturn dX9_placeOf_28 rfl rfl (Nat.le_refl _) (Nat.le_refl _) hv
abbrev gw_X9_valueOf (d : Nat) (Q : zQt) (pc : Nat) (lv : zV) (st : List Value) (I : zI) (L : zL) (P : zP) : Prop := zW zm_X9_valueOf (zRm d 0 0) 0 0 Q pc lv st I L P 205 0 0
def v_X9_valueOf (d : Nat) (Q : zQt) (p1 : Int32) (I : zI) (L : zL) (P : zP) : Prop :=
  ((p1 < 0 →
    Q (some (.long 0)) I L P 205
  ) ∧ (¬ p1 < 0 →
    (((I 18 5) ≤ p1 →
      Q (some (.long 0)) I L P 205
    ) ∧ (¬ (I 18 5) ≤ p1 →
      vp_in p1 1601 ∧
      Q (some (.long (L 22 p1.toNatClampNeg))) I L P 205
    ))
  ))
set_option maxRecDepth 20000 in
theorem g_X9_valueOf {d : Nat} {Q : zQt} {p1 : Int32} {I : zI} {L : zL} {P : zP} (hP : zPk P) (hv : v_X9_valueOf d Q p1 I L P) : zM zm_X9_valueOf d 0 0 [.ref 18, .int p1] I L P 205 Q := by
  unfold v_X9_valueOf at hv
  refine zM_of (lv0 := [some (.ref 18), some (.int p1)]) (by decide +kernel) (Nat.le_of_ble_eq_true rfl) rfl ?_
  refine z_iload_n dX9_valueOf_0 rfl ?_
  refine z_if_lt (tgt := 21) dX9_valueOf_1 (by decide) (fun q3 => ?_) (fun q3 => ?_)
  · have hv := hv.1 q3
    refine z_lconst (v := 0) dX9_valueOf_21 (by decide) ?_
    exact z_lreturn dX9_valueOf_22 rfl (Nat.le_refl _) (Nat.le_refl _) hv
  · have hv := hv.2 q3
    refine z_iload_n dX9_valueOf_4 rfl ?_
    refine z_aload_n dX9_valueOf_5 rfl ?_
    refine z_getI dX9_valueOf_6 zf_X9_29 zn_18 zo_18 (fun _ _ _ _ _ => rfl) ?_
    refine z_icmp_ge (tgt := 21) dX9_valueOf_9 (by decide) (fun q2 => ?_) (fun q2 => ?_)
    · have hv := hv.1 q2
      refine z_lconst (v := 0) dX9_valueOf_21 (by decide) ?_
      exact z_lreturn dX9_valueOf_22 rfl (Nat.le_refl _) (Nat.le_refl _) hv
    · have hv := hv.2 q2
      refine z_aload_n dX9_valueOf_12 rfl ?_
      refine z_getP dX9_valueOf_13 zf_X9_26 zn_18 zo_18 (fun _ _ _ _ _ => rfl) (hP 18 4 22 zp_18_4) ?_
      refine z_iload_n dX9_valueOf_16 rfl ?_
      obtain ⟨h1, hv⟩ := hv
      refine z_laload dX9_valueOf_17 zn_22 zh_22 h1 ?_
      refine z_goto (tgt := 22) dX9_valueOf_18 (by decide) ?_
      exact z_lreturn dX9_valueOf_22 rfl (Nat.le_refl _) (Nat.le_refl _) hv
abbrev gw_X9_skipBlanks (d : Nat) (Q : zQt) (pc : Nat) (lv : zV) (st : List Value) (I : zI) (L : zL) (P : zP) : Prop := zW zm_X9_skipBlanks (zRm d 0 0) 0 0 Q pc lv st I L P 205 0 0
def v_X9_skipBlanks_0 (d : Nat) (Q : zQt)  (I : zI) (L : zL) (P : zP) : Prop :=
  (((I 1 1) ≤ (I 18 6) →
    Q none I L P 205
  ) ∧ (¬ (I 1 1) ≤ (I 18 6) →
    zMi zm_X8_at d [.ref 1, .int (I 18 6)] I L P (fun r5 I1 L2 P3 =>
      ((r5 = 32 →
        ∀ I6 : zI, I6 = zuI I1 18 6 ((I1 18 6) + 1) →
        gw_X9_skipBlanks (d + 1) Q 0 [some (.ref 18)] [] I6 L2 P3
      ) ∧ (¬ r5 = 32 →
        zPk P3 ∧
        zMi zm_X8_at d [.ref 1, .int (I1 18 6)] I1 L2 P3 (fun r13 I9 L10 P11 =>
          ((¬ r13 = 10 →
            Q none I9 L10 P11 205
          ) ∧ (r13 = 10 →
            ∀ I14 : zI, I14 = zuI I9 18 6 ((I9 18 6) + 1) →
            gw_X9_skipBlanks (d + 1) Q 0 [some (.ref 18)] [] I14 L10 P11
          ))
        )
      ))
    )
  ))
set_option maxRecDepth 20000 in
theorem g_X9_skipBlanks_0 {d : Nat} {Q : zQt}  {I : zI} {L : zL} {P : zP} (hP : zPk P) (hv : v_X9_skipBlanks_0 d Q  I L P) : gw_X9_skipBlanks (d + 1) Q 0 [some (.ref 18)] [] I L P := by
  unfold v_X9_skipBlanks_0 at hv
  refine z_aload_n dX9_skipBlanks_0 rfl ?_
  refine z_getI dX9_skipBlanks_1 zf_X9_33 zn_18 zo_18 (fun _ _ _ _ _ => rfl) ?_
  refine z_aload_n dX9_skipBlanks_4 rfl ?_
  refine z_getP dX9_skipBlanks_5 zf_X9_36 zn_18 zo_18 (fun _ _ _ _ _ => rfl) (hP 18 0 1 zp_18_0) ?_
  refine z_getI dX9_skipBlanks_8 zf_X9_58 zn_1 zo_1 (fun _ _ _ _ _ => rfl) ?_
  refine z_icmp_ge (tgt := 59) dX9_skipBlanks_11 (by decide) (fun q18 => ?_) (fun q18 => ?_)
  · have hv := hv.1 q18
    exact z_return dX9_skipBlanks_59 rfl (Nat.le_refl _) (Nat.le_refl _) hv
  · have hv := hv.2 q18
    refine z_aload_n dX9_skipBlanks_14 rfl ?_
    refine z_getP dX9_skipBlanks_15 zf_X9_36 zn_18 zo_18 (fun _ _ _ _ _ => rfl) (hP 18 0 1 zp_18_0) ?_
    refine z_aload_n dX9_skipBlanks_18 rfl ?_
    refine z_getI dX9_skipBlanks_19 zf_X9_33 zn_18 zo_18 (fun _ _ _ _ _ => rfl) ?_
    refine z_callV (As := [.int (I 18 6)]) (st := []) dX9_skipBlanks_22 zl_X9_60 zv_X8_at (by decide) rfl zn_1 zo_1 rfl rfl (Nat.le_of_ble_eq_true rfl) ⟨Nat.le_refl _, Nat.le_refl _⟩ ⟨Nat.le_refl _, Nat.le_refl _⟩ hv (fun v1 I1 L2 P3 nx1 q4 => ?_)
    obtain ⟨rfl, r5, rfl, hv⟩ := q4
    refine z_bipush (v := 32) dX9_skipBlanks_25 (by decide) ?_
    refine z_icmp_eq (tgt := 46) dX9_skipBlanks_27 (by decide) (fun q17 => ?_) (fun q17 => ?_)
    · have hv := hv.1 q17
      refine z_aload_n dX9_skipBlanks_46 rfl ?_
      refine z_dup dX9_skipBlanks_47 rfl ?_
      refine z_getI dX9_skipBlanks_48 zf_X9_33 zn_18 zo_18 (fun _ _ _ _ _ => rfl) ?_
      refine z_iconst (v := 1) dX9_skipBlanks_51 (by decide) ?_
      refine z_iadd dX9_skipBlanks_52 ?_
      refine z_putI dX9_skipBlanks_53 zf_X9_33 zn_18 zo_18 (Or.inl rfl) (fun _ _ _ _ _ => rfl) rfl rfl (z_nmI (fun I6 e7 => ?_))
      have hv := hv I6 e7
      refine z_goto (tgt := 0) dX9_skipBlanks_56 (by decide) ?_
      exact hv
    · have hv := hv.2 q17
      refine z_aload_n dX9_skipBlanks_30 rfl ?_
      obtain ⟨h8, hv⟩ := hv
      refine z_getP dX9_skipBlanks_31 zf_X9_36 zn_18 zo_18 (fun _ _ _ _ _ => rfl) (h8 18 0 1 zp_18_0) ?_
      refine z_aload_n dX9_skipBlanks_34 rfl ?_
      refine z_getI dX9_skipBlanks_35 zf_X9_33 zn_18 zo_18 (fun _ _ _ _ _ => rfl) ?_
      refine z_callV (As := [.int (I1 18 6)]) (st := []) dX9_skipBlanks_38 zl_X9_60 zv_X8_at (by decide) rfl zn_1 zo_1 rfl rfl (Nat.le_of_ble_eq_true rfl) ⟨Nat.le_refl _, Nat.le_refl _⟩ ⟨Nat.le_refl _, Nat.le_refl _⟩ hv (fun v1 I9 L10 P11 nx1 q12 => ?_)
      obtain ⟨rfl, r13, rfl, hv⟩ := q12
      refine z_bipush (v := 10) dX9_skipBlanks_41 (by decide) ?_
      refine z_icmp_ne (tgt := 59) dX9_skipBlanks_43 (by decide) (fun q16 => ?_) (fun q16 => ?_)
      · have hv := hv.1 q16
        exact z_return dX9_skipBlanks_59 rfl (Nat.le_refl _) (Nat.le_refl _) hv
      · have hv := hv.2 q16
        refine z_aload_n dX9_skipBlanks_46 rfl ?_
        refine z_dup dX9_skipBlanks_47 rfl ?_
        refine z_getI dX9_skipBlanks_48 zf_X9_33 zn_18 zo_18 (fun _ _ _ _ _ => rfl) ?_
        refine z_iconst (v := 1) dX9_skipBlanks_51 (by decide) ?_
        refine z_iadd dX9_skipBlanks_52 ?_
        refine z_putI dX9_skipBlanks_53 zf_X9_33 zn_18 zo_18 (Or.inl rfl) (fun _ _ _ _ _ => rfl) rfl rfl (z_nmI (fun I14 e15 => ?_))
        have hv := hv I14 e15
        refine z_goto (tgt := 0) dX9_skipBlanks_56 (by decide) ?_
        exact hv
def v_X9_skipBlanks (d : Nat) (Q : zQt)  (I : zI) (L : zL) (P : zP) : Prop :=
  gw_X9_skipBlanks (d + 1) Q 0 [some (.ref 18)] [] I L P
set_option maxRecDepth 20000 in
theorem g_X9_skipBlanks {d : Nat} {Q : zQt}  {I : zI} {L : zL} {P : zP} (hP : zPk P) (hv : v_X9_skipBlanks d Q  I L P) : zM zm_X9_skipBlanks (d + 1) 0 0 [.ref 18] I L P 205 Q := by
  unfold v_X9_skipBlanks at hv
  refine zM_of (lv0 := [some (.ref 18)]) (by decide +kernel) (Nat.le_of_ble_eq_true rfl) rfl ?_
  exact hv
abbrev gw_X9_takeWord (d : Nat) (Q : zQt) (pc : Nat) (lv : zV) (st : List Value) (I : zI) (L : zL) (P : zP) : Prop := zW zm_X9_takeWord (zRm d 0 0) 0 0 Q pc lv st I L P 205 0 0
def v_X9_takeWord_97 (d : Nat) (Q : zQt) (x2 : Int64) (x4 : Int32) (I : zI) (L : zL) (P : zP) : Prop :=
  ((17 ≤ x4 →
    Q (some (.int 273)) I L P 205
  ) ∧ (¬ 17 ≤ x4 →
    vp_in x4 17 ∧
    ((¬ (lg_cmp (L 19 x4.toNatClampNeg) x2) = 0 →
      gw_X9_takeWord (d + 1) Q 97 [some (.ref 18), none, some (.long x2), none, some (.int (x4 + 1))] [] I L P
    ) ∧ ((lg_cmp (L 19 x4.toNatClampNeg) x2) = 0 →
      Q (some (.int ((256 : Int32) + x4))) I L P 205
    ))
  ))
set_option maxRecDepth 20000 in
theorem g_X9_takeWord_97 {d : Nat} {Q : zQt} {x2 : Int64} {x4 : Int32} {I : zI} {L : zL} {P : zP} (hP : zPk P) (hv : v_X9_takeWord_97 d Q x2 x4 I L P) : gw_X9_takeWord (d + 1) Q 97 [some (.ref 18), none, some (.long x2), none, some (.int x4)] [] I L P := by
  unfold v_X9_takeWord_97 at hv
  refine z_iload dX9_takeWord_97 rfl ?_
  refine z_bipush (v := 17) dX9_takeWord_99 (by decide) ?_
  refine z_icmp_ge (tgt := 129) dX9_takeWord_101 (by decide) (fun q32 => ?_) (fun q32 => ?_)
  · have hv := hv.1 q32
    refine z_sipush (v := 273) dX9_takeWord_129 (by decide) ?_
    exact z_ireturn dX9_takeWord_132 rfl rfl (Nat.le_refl _) (Nat.le_refl _) hv
  · have hv := hv.2 q32
    refine z_aload_n dX9_takeWord_104 rfl ?_
    refine z_getP dX9_takeWord_105 zf_X9_11 zn_18 zo_18 (fun _ _ _ _ _ => rfl) (hP 18 1 19 zp_18_1) ?_
    refine z_iload dX9_takeWord_108 rfl ?_
    obtain ⟨h30, hv⟩ := hv
    refine z_laload dX9_takeWord_110 zn_19 zh_19 h30 ?_
    refine z_lload_n dX9_takeWord_111 rfl ?_
    refine z_lcmp dX9_takeWord_112 ?_
    refine z_if_ne (tgt := 123) dX9_takeWord_113 (by decide) (fun q31 => ?_) (fun q31 => ?_)
    · have hv := hv.1 q31
      refine z_iinc (v2 := x4 + 1) (lv2 := [some (.ref 18), none, some (.long x2), none, some (.int (x4 + 1))]) dX9_takeWord_123 rfl (by rfl) (by decide) rfl rfl ?_
      refine z_goto (tgt := 97) dX9_takeWord_126 (by decide) ?_
      exact hv
    · have hv := hv.2 q31
      refine z_sipush (v := 256) dX9_takeWord_116 (by decide) ?_
      refine z_iload dX9_takeWord_119 rfl ?_
      refine z_iadd dX9_takeWord_121 ?_
      exact z_ireturn dX9_takeWord_122 rfl rfl (Nat.le_refl _) (Nat.le_refl _) hv
def v_X9_takeWord_7 (d : Nat) (Q : zQt) (x1 : Int32) (x2 : Int64) (I : zI) (L : zL) (P : zP) : Prop :=
  (((I 1 1) ≤ (I 18 6) →
    ((((I 18 6) - x1) ≤ 8 →
      vp_in (I 18 5) 1601 ∧
      ∀ L3 : zL, L3 = zuL L 22 (I 18 5).toNatClampNeg x2 →
      gw_X9_takeWord (d + 1) Q 97 [some (.ref 18), none, some (.long x2), none, some (.int 0)] [] I L3 P
    ) ∧ (¬ ((I 18 6) - x1) ≤ 8 →
      Q (some (.int 276)) I L P 205
    ))
  ) ∧ (¬ (I 1 1) ≤ (I 18 6) →
    zMi zm_X8_at d [.ref 1, .int (I 18 6)] I L P (fun r9 I5 L6 P7 =>
      zMi zm_X9_isLetter d [.int r9] I5 L6 P7 (fun r14 I10 L11 P12 =>
        ((r14 = 0 →
          ((((I10 18 6) - x1) ≤ 8 →
            zPk P12 ∧
            vp_in (I10 18 5) 1601 ∧
            ∀ L18 : zL, L18 = zuL L11 22 (I10 18 5).toNatClampNeg x2 →
            gw_X9_takeWord (d + 1) Q 97 [some (.ref 18), none, some (.long x2), none, some (.int 0)] [] I10 L18 P12
          ) ∧ (¬ ((I10 18 6) - x1) ≤ 8 →
            Q (some (.int 276)) I10 L11 P12 205
          ))
        ) ∧ (¬ r14 = 0 →
          zPk P12 ∧
          zMi zm_X8_at d [.ref 1, .int (I10 18 6)] I10 L11 P12 (fun r25 I21 L22 P23 =>
            ∀ I26 : zI, I26 = zuI I21 18 6 ((I21 18 6) + 1) →
            gw_X9_takeWord (d + 1) Q 7 [some (.ref 18), some (.int x1), some (.long (((x2 : Int64) <<< ((8 : Int32).toInt64 &&& 63) : Int64) ||| ((r25 : Int32).toInt64) : Int64)), none, none] [] I26 L22 P23
          )
        ))
      )
    )
  ))
set_option maxRecDepth 20000 in
theorem g_X9_takeWord_7 {d : Nat} {Q : zQt} {x1 : Int32} {x2 : Int64} {I : zI} {L : zL} {P : zP} (hP : zPk P) (hv : v_X9_takeWord_7 d Q x1 x2 I L P) : gw_X9_takeWord (d + 1) Q 7 [some (.ref 18), some (.int x1), some (.long x2), none, none] [] I L P := by
  unfold v_X9_takeWord_7 at hv
  refine z_aload_n dX9_takeWord_7 rfl ?_
  refine z_getI dX9_takeWord_8 zf_X9_33 zn_18 zo_18 (fun _ _ _ _ _ => rfl) ?_
  refine z_aload_n dX9_takeWord_11 rfl ?_
  refine z_getP dX9_takeWord_12 zf_X9_36 zn_18 zo_18 (fun _ _ _ _ _ => rfl) (hP 18 0 1 zp_18_0) ?_
  refine z_getI dX9_takeWord_15 zf_X9_58 zn_1 zo_1 (fun _ _ _ _ _ => rfl) ?_
  refine z_icmp_ge (tgt := 69) dX9_takeWord_18 (by decide) (fun q29 => ?_) (fun q29 => ?_)
  · have hv := hv.1 q29
    refine z_aload_n dX9_takeWord_69 rfl ?_
    refine z_getI dX9_takeWord_70 zf_X9_33 zn_18 zo_18 (fun _ _ _ _ _ => rfl) ?_
    refine z_iload_n dX9_takeWord_73 rfl ?_
    refine z_isub dX9_takeWord_74 ?_
    refine z_bipush (v := 8) dX9_takeWord_75 (by decide) ?_
    refine z_icmp_le (tgt := 84) dX9_takeWord_77 (by decide) (fun q4 => ?_) (fun q4 => ?_)
    · have hv := hv.1 q4
      refine z_aload_n dX9_takeWord_84 rfl ?_
      refine z_getP dX9_takeWord_85 zf_X9_26 zn_18 zo_18 (fun _ _ _ _ _ => rfl) (hP 18 4 22 zp_18_4) ?_
      refine z_aload_n dX9_takeWord_88 rfl ?_
      refine z_getI dX9_takeWord_89 zf_X9_29 zn_18 zo_18 (fun _ _ _ _ _ => rfl) ?_
      refine z_lload_n dX9_takeWord_92 rfl ?_
      obtain ⟨h1, hv⟩ := hv
      refine z_lastore dX9_takeWord_93 zn_22 zh_22 h1 (z_nmL (fun L3 e2 => ?_))
      have hv := hv L3 e2
      refine z_iconst (v := 0) dX9_takeWord_94 (by decide) ?_
      refine z_istore (lv2 := [some (.ref 18), some (.int x1), some (.long x2), none, some (.int 0)]) dX9_takeWord_95 (by decide) rfl rfl ?_
      exact z_sub (by exact ⟨rfl, ⟨rfl, ⟨rfl, trivial⟩⟩⟩) hv
    · have hv := hv.2 q4
      refine z_sipush (v := 276) dX9_takeWord_80 (by decide) ?_
      exact z_ireturn dX9_takeWord_83 rfl rfl (Nat.le_refl _) (Nat.le_refl _) hv
  · have hv := hv.2 q29
    refine z_aload_n dX9_takeWord_21 rfl ?_
    refine z_getP dX9_takeWord_22 zf_X9_36 zn_18 zo_18 (fun _ _ _ _ _ => rfl) (hP 18 0 1 zp_18_0) ?_
    refine z_aload_n dX9_takeWord_25 rfl ?_
    refine z_getI dX9_takeWord_26 zf_X9_33 zn_18 zo_18 (fun _ _ _ _ _ => rfl) ?_
    refine z_callV (As := [.int (I 18 6)]) (st := []) dX9_takeWord_29 zl_X9_60 zv_X8_at (by decide) rfl zn_1 zo_1 rfl rfl (Nat.le_of_ble_eq_true rfl) ⟨Nat.le_refl _, Nat.le_refl _⟩ ⟨Nat.le_refl _, Nat.le_refl _⟩ hv (fun v1 I5 L6 P7 nx1 q8 => ?_)
    obtain ⟨rfl, r9, rfl, hv⟩ := q8
    refine z_callS (As := [.int r9]) (st := []) dX9_takeWord_32 zl_X9_63 zs_X9_isLetter rfl rfl (Nat.le_of_ble_eq_true rfl) ⟨Nat.le_refl _, Nat.le_refl _⟩ ⟨Nat.le_refl _, Nat.le_refl _⟩ hv (fun v1 I10 L11 P12 nx1 q13 => ?_)
    obtain ⟨rfl, r14, rfl, hv⟩ := q13
    refine z_if_eq (tgt := 69) dX9_takeWord_35 (by decide) (fun q28 => ?_) (fun q28 => ?_)
    · have hv := hv.1 q28
      refine z_aload_n dX9_takeWord_69 rfl ?_
      refine z_getI dX9_takeWord_70 zf_X9_33 zn_18 zo_18 (fun _ _ _ _ _ => rfl) ?_
      refine z_iload_n dX9_takeWord_73 rfl ?_
      refine z_isub dX9_takeWord_74 ?_
      refine z_bipush (v := 8) dX9_takeWord_75 (by decide) ?_
      refine z_icmp_le (tgt := 84) dX9_takeWord_77 (by decide) (fun q19 => ?_) (fun q19 => ?_)
      · have hv := hv.1 q19
        refine z_aload_n dX9_takeWord_84 rfl ?_
        obtain ⟨h15, hv⟩ := hv
        refine z_getP dX9_takeWord_85 zf_X9_26 zn_18 zo_18 (fun _ _ _ _ _ => rfl) (h15 18 4 22 zp_18_4) ?_
        refine z_aload_n dX9_takeWord_88 rfl ?_
        refine z_getI dX9_takeWord_89 zf_X9_29 zn_18 zo_18 (fun _ _ _ _ _ => rfl) ?_
        refine z_lload_n dX9_takeWord_92 rfl ?_
        obtain ⟨h16, hv⟩ := hv
        refine z_lastore dX9_takeWord_93 zn_22 zh_22 h16 (z_nmL (fun L18 e17 => ?_))
        have hv := hv L18 e17
        refine z_iconst (v := 0) dX9_takeWord_94 (by decide) ?_
        refine z_istore (lv2 := [some (.ref 18), some (.int x1), some (.long x2), none, some (.int 0)]) dX9_takeWord_95 (by decide) rfl rfl ?_
        exact z_sub (by exact ⟨rfl, ⟨rfl, ⟨rfl, trivial⟩⟩⟩) hv
      · have hv := hv.2 q19
        refine z_sipush (v := 276) dX9_takeWord_80 (by decide) ?_
        exact z_ireturn dX9_takeWord_83 rfl rfl (Nat.le_refl _) (Nat.le_refl _) hv
    · have hv := hv.2 q28
      refine z_lload_n dX9_takeWord_38 rfl ?_
      refine z_bipush (v := 8) dX9_takeWord_39 (by decide) ?_
      refine z_lshl dX9_takeWord_41 ?_
      refine z_aload_n dX9_takeWord_42 rfl ?_
      obtain ⟨h20, hv⟩ := hv
      refine z_getP dX9_takeWord_43 zf_X9_36 zn_18 zo_18 (fun _ _ _ _ _ => rfl) (h20 18 0 1 zp_18_0) ?_
      refine z_aload_n dX9_takeWord_46 rfl ?_
      refine z_getI dX9_takeWord_47 zf_X9_33 zn_18 zo_18 (fun _ _ _ _ _ => rfl) ?_
      refine z_callV (As := [.int (I10 18 6)]) (st := [.long ((x2 : Int64) <<< ((8 : Int32).toInt64 &&& 63) : Int64)]) dX9_takeWord_50 zl_X9_60 zv_X8_at (by decide) rfl zn_1 zo_1 rfl rfl (Nat.le_of_ble_eq_true rfl) ⟨Nat.le_refl _, Nat.le_refl _⟩ ⟨Nat.le_refl _, Nat.le_refl _⟩ hv (fun v1 I21 L22 P23 nx1 q24 => ?_)
      obtain ⟨rfl, r25, rfl, hv⟩ := q24
      refine z_i2l dX9_takeWord_53 ?_
      refine z_lor dX9_takeWord_54 ?_
      refine z_lstore_n (lv2 := [some (.ref 18), some (.int x1), some (.long (((x2 : Int64) <<< ((8 : Int32).toInt64 &&& 63) : Int64) ||| ((r25 : Int32).toInt64) : Int64)), none, none]) dX9_takeWord_55 (by decide) rfl rfl ?_
      refine z_aload_n dX9_takeWord_56 rfl ?_
      refine z_dup dX9_takeWord_57 rfl ?_
      refine z_getI dX9_takeWord_58 zf_X9_33 zn_18 zo_18 (fun _ _ _ _ _ => rfl) ?_
      refine z_iconst (v := 1) dX9_takeWord_61 (by decide) ?_
      refine z_iadd dX9_takeWord_62 ?_
      refine z_putI dX9_takeWord_63 zf_X9_33 zn_18 zo_18 (Or.inl rfl) (fun _ _ _ _ _ => rfl) rfl rfl (z_nmI (fun I26 e27 => ?_))
      have hv := hv I26 e27
      refine z_goto (tgt := 7) dX9_takeWord_66 (by decide) ?_
      exact hv
def v_X9_takeWord (d : Nat) (Q : zQt)  (I : zI) (L : zL) (P : zP) : Prop :=
  gw_X9_takeWord (d + 1) Q 7 [some (.ref 18), some (.int (I 18 6)), some (.long 0), none, none] [] I L P
set_option maxRecDepth 20000 in
theorem g_X9_takeWord {d : Nat} {Q : zQt}  {I : zI} {L : zL} {P : zP} (hP : zPk P) (hv : v_X9_takeWord d Q  I L P) : zM zm_X9_takeWord (d + 1) 0 0 [.ref 18] I L P 205 Q := by
  unfold v_X9_takeWord at hv
  refine zM_of (lv0 := [some (.ref 18), none, none, none, none]) (by decide +kernel) (Nat.le_of_ble_eq_true rfl) rfl ?_
  refine z_aload_n dX9_takeWord_0 rfl ?_
  refine z_getI dX9_takeWord_1 zf_X9_33 zn_18 zo_18 (fun _ _ _ _ _ => rfl) ?_
  refine z_istore_n (lv2 := [some (.ref 18), some (.int (I 18 6)), none, none, none]) dX9_takeWord_4 (by decide) rfl rfl ?_
  refine z_lconst (v := 0) dX9_takeWord_5 (by decide) ?_
  refine z_lstore_n (lv2 := [some (.ref 18), some (.int (I 18 6)), some (.long 0), none, none]) dX9_takeWord_6 (by decide) rfl rfl ?_
  exact hv
abbrev gw_X9_takeNumber (d : Nat) (Q : zQt) (pc : Nat) (lv : zV) (st : List Value) (I : zI) (L : zL) (P : zP) : Prop := zW zm_X9_takeNumber (zRm d 0 0) 0 0 Q pc lv st I L P 205 0 0
def v_X9_takeNumber_7 (d : Nat) (Q : zQt) (x1 : Int32) (x2 : Int32) (I : zI) (L : zL) (P : zP) : Prop :=
  (((I 1 1) ≤ (I 18 6) →
    vp_in (I 18 5) 1601 ∧
    ∀ L3 : zL, L3 = zuL L 22 (I 18 5).toNatClampNeg ((x2 : Int32).toInt64) →
    ((4 < ((I 18 6) - x1) →
      (((1 : Int32) = 0 →
        Q (some (.int 274)) I L3 P 205
      ) ∧ (¬ (1 : Int32) = 0 →
        Q (some (.int 276)) I L3 P 205
      ))
    ) ∧ (¬ 4 < ((I 18 6) - x1) →
      zMi zm_X8_at d [.ref 1, .int (I 18 6)] I L3 P (fun r9 I5 L6 P7 =>
        zMi zm_X9_isLetter d [.int r9] I5 L6 P7 (fun r14 I10 L11 P12 =>
          ((r14 = 0 →
            (((0 : Int32) = 0 →
              Q (some (.int 274)) I10 L11 P12 205
            ) ∧ (¬ (0 : Int32) = 0 →
              Q (some (.int 276)) I10 L11 P12 205
            ))
          ) ∧ (¬ r14 = 0 →
            (((1 : Int32) = 0 →
              Q (some (.int 274)) I10 L11 P12 205
            ) ∧ (¬ (1 : Int32) = 0 →
              Q (some (.int 276)) I10 L11 P12 205
            ))
          ))
        )
      )
    ))
  ) ∧ (¬ (I 1 1) ≤ (I 18 6) →
    zMi zm_X8_at d [.ref 1, .int (I 18 6)] I L P (fun r23 I19 L20 P21 =>
      zMi zm_X9_isDigit d [.int r23] I19 L20 P21 (fun r28 I24 L25 P26 =>
        ((r28 = 0 →
          zPk P26 ∧
          vp_in (I24 18 5) 1601 ∧
          ∀ L32 : zL, L32 = zuL L25 22 (I24 18 5).toNatClampNeg ((x2 : Int32).toInt64) →
          ((4 < ((I24 18 6) - x1) →
            (((1 : Int32) = 0 →
              Q (some (.int 274)) I24 L32 P26 205
            ) ∧ (¬ (1 : Int32) = 0 →
              Q (some (.int 276)) I24 L32 P26 205
            ))
          ) ∧ (¬ 4 < ((I24 18 6) - x1) →
            zMi zm_X8_at d [.ref 1, .int (I24 18 6)] I24 L32 P26 (fun r38 I34 L35 P36 =>
              zMi zm_X9_isLetter d [.int r38] I34 L35 P36 (fun r43 I39 L40 P41 =>
                ((r43 = 0 →
                  (((0 : Int32) = 0 →
                    Q (some (.int 274)) I39 L40 P41 205
                  ) ∧ (¬ (0 : Int32) = 0 →
                    Q (some (.int 276)) I39 L40 P41 205
                  ))
                ) ∧ (¬ r43 = 0 →
                  (((1 : Int32) = 0 →
                    Q (some (.int 274)) I39 L40 P41 205
                  ) ∧ (¬ (1 : Int32) = 0 →
                    Q (some (.int 276)) I39 L40 P41 205
                  ))
                ))
              )
            )
          ))
        ) ∧ (¬ r28 = 0 →
          zPk P26 ∧
          zMi zm_X8_at d [.ref 1, .int (I24 18 6)] I24 L25 P26 (fun r53 I49 L50 P51 =>
            ∀ I54 : zI, I54 = zuI I49 18 6 ((I49 18 6) + 1) →
            gw_X9_takeNumber (d + 1) Q 7 [some (.ref 18), some (.int x1), some (.int (((x2 * 10) + r53) - 48)), none] [] I54 L50 P51
          )
        ))
      )
    )
  ))
set_option maxRecDepth 20000 in
theorem g_X9_takeNumber_7 {d : Nat} {Q : zQt} {x1 : Int32} {x2 : Int32} {I : zI} {L : zL} {P : zP} (hP : zPk P) (hv : v_X9_takeNumber_7 d Q x1 x2 I L P) : gw_X9_takeNumber (d + 1) Q 7 [some (.ref 18), some (.int x1), some (.int x2), none] [] I L P := by
  unfold v_X9_takeNumber_7 at hv
  refine z_aload_n dX9_takeNumber_7 rfl ?_
  refine z_getI dX9_takeNumber_8 zf_X9_33 zn_18 zo_18 (fun _ _ _ _ _ => rfl) ?_
  refine z_aload_n dX9_takeNumber_11 rfl ?_
  refine z_getP dX9_takeNumber_12 zf_X9_36 zn_18 zo_18 (fun _ _ _ _ _ => rfl) (hP 18 0 1 zp_18_0) ?_
  refine z_getI dX9_takeNumber_15 zf_X9_58 zn_1 zo_1 (fun _ _ _ _ _ => rfl) ?_
  refine z_icmp_ge (tgt := 71) dX9_takeNumber_18 (by decide) (fun q57 => ?_) (fun q57 => ?_)
  · have hv := hv.1 q57
    refine z_aload_n dX9_takeNumber_71 rfl ?_
    refine z_getP dX9_takeNumber_72 zf_X9_26 zn_18 zo_18 (fun _ _ _ _ _ => rfl) (hP 18 4 22 zp_18_4) ?_
    refine z_aload_n dX9_takeNumber_75 rfl ?_
    refine z_getI dX9_takeNumber_76 zf_X9_29 zn_18 zo_18 (fun _ _ _ _ _ => rfl) ?_
    refine z_iload_n dX9_takeNumber_79 rfl ?_
    refine z_i2l dX9_takeNumber_80 ?_
    obtain ⟨h1, hv⟩ := hv
    refine z_lastore dX9_takeNumber_81 zn_22 zh_22 h1 (z_nmL (fun L3 e2 => ?_))
    have hv := hv L3 e2
    refine z_aload_n dX9_takeNumber_82 rfl ?_
    refine z_getI dX9_takeNumber_83 zf_X9_33 zn_18 zo_18 (fun _ _ _ _ _ => rfl) ?_
    refine z_iload_n dX9_takeNumber_86 rfl ?_
    refine z_isub dX9_takeNumber_87 ?_
    refine z_iconst (v := 4) dX9_takeNumber_88 (by decide) ?_
    refine z_icmp_gt (tgt := 109) dX9_takeNumber_89 (by decide) (fun q18 => ?_) (fun q18 => ?_)
    · have hv := hv.1 q18
      refine z_iconst (v := 1) dX9_takeNumber_109 (by decide) ?_
      refine z_goto (tgt := 114) dX9_takeNumber_110 (by decide) ?_
      refine z_istore_n (lv2 := [some (.ref 18), some (.int x1), some (.int x2), some (.int 1)]) dX9_takeNumber_114 (by decide) rfl rfl ?_
      refine z_iload_n dX9_takeNumber_115 rfl ?_
      refine z_if_eq (tgt := 125) dX9_takeNumber_116 (by decide) (fun q4 => ?_) (fun q4 => ?_)
      · have hv := hv.1 q4
        refine z_sipush (v := 274) dX9_takeNumber_125 (by decide) ?_
        exact z_ireturn dX9_takeNumber_128 rfl rfl (Nat.le_refl _) (Nat.le_refl _) hv
      · have hv := hv.2 q4
        refine z_sipush (v := 276) dX9_takeNumber_119 (by decide) ?_
        refine z_goto (tgt := 128) dX9_takeNumber_122 (by decide) ?_
        exact z_ireturn dX9_takeNumber_128 rfl rfl (Nat.le_refl _) (Nat.le_refl _) hv
    · have hv := hv.2 q18
      refine z_aload_n dX9_takeNumber_92 rfl ?_
      refine z_getP dX9_takeNumber_93 zf_X9_36 zn_18 zo_18 (fun _ _ _ _ _ => rfl) (hP 18 0 1 zp_18_0) ?_
      refine z_aload_n dX9_takeNumber_96 rfl ?_
      refine z_getI dX9_takeNumber_97 zf_X9_33 zn_18 zo_18 (fun _ _ _ _ _ => rfl) ?_
      refine z_callV (As := [.int (I 18 6)]) (st := []) dX9_takeNumber_100 zl_X9_60 zv_X8_at (by decide) rfl zn_1 zo_1 rfl rfl (Nat.le_of_ble_eq_true rfl) ⟨Nat.le_refl _, Nat.le_refl _⟩ ⟨Nat.le_refl _, Nat.le_refl _⟩ hv (fun v1 I5 L6 P7 nx1 q8 => ?_)
      obtain ⟨rfl, r9, rfl, hv⟩ := q8
      refine z_callS (As := [.int r9]) (st := []) dX9_takeNumber_103 zl_X9_63 zs_X9_isLetter rfl rfl (Nat.le_of_ble_eq_true rfl) ⟨Nat.le_refl _, Nat.le_refl _⟩ ⟨Nat.le_refl _, Nat.le_refl _⟩ hv (fun v1 I10 L11 P12 nx1 q13 => ?_)
      obtain ⟨rfl, r14, rfl, hv⟩ := q13
      refine z_if_eq (tgt := 113) dX9_takeNumber_106 (by decide) (fun q17 => ?_) (fun q17 => ?_)
      · have hv := hv.1 q17
        refine z_iconst (v := 0) dX9_takeNumber_113 (by decide) ?_
        refine z_istore_n (lv2 := [some (.ref 18), some (.int x1), some (.int x2), some (.int 0)]) dX9_takeNumber_114 (by decide) rfl rfl ?_
        refine z_iload_n dX9_takeNumber_115 rfl ?_
        refine z_if_eq (tgt := 125) dX9_takeNumber_116 (by decide) (fun q15 => ?_) (fun q15 => ?_)
        · have hv := hv.1 q15
          refine z_sipush (v := 274) dX9_takeNumber_125 (by decide) ?_
          exact z_ireturn dX9_takeNumber_128 rfl rfl (Nat.le_refl _) (Nat.le_refl _) hv
        · have hv := hv.2 q15
          refine z_sipush (v := 276) dX9_takeNumber_119 (by decide) ?_
          refine z_goto (tgt := 128) dX9_takeNumber_122 (by decide) ?_
          exact z_ireturn dX9_takeNumber_128 rfl rfl (Nat.le_refl _) (Nat.le_refl _) hv
      · have hv := hv.2 q17
        refine z_iconst (v := 1) dX9_takeNumber_109 (by decide) ?_
        refine z_goto (tgt := 114) dX9_takeNumber_110 (by decide) ?_
        refine z_istore_n (lv2 := [some (.ref 18), some (.int x1), some (.int x2), some (.int 1)]) dX9_takeNumber_114 (by decide) rfl rfl ?_
        refine z_iload_n dX9_takeNumber_115 rfl ?_
        refine z_if_eq (tgt := 125) dX9_takeNumber_116 (by decide) (fun q16 => ?_) (fun q16 => ?_)
        · have hv := hv.1 q16
          refine z_sipush (v := 274) dX9_takeNumber_125 (by decide) ?_
          exact z_ireturn dX9_takeNumber_128 rfl rfl (Nat.le_refl _) (Nat.le_refl _) hv
        · have hv := hv.2 q16
          refine z_sipush (v := 276) dX9_takeNumber_119 (by decide) ?_
          refine z_goto (tgt := 128) dX9_takeNumber_122 (by decide) ?_
          exact z_ireturn dX9_takeNumber_128 rfl rfl (Nat.le_refl _) (Nat.le_refl _) hv
  · have hv := hv.2 q57
    refine z_aload_n dX9_takeNumber_21 rfl ?_
    refine z_getP dX9_takeNumber_22 zf_X9_36 zn_18 zo_18 (fun _ _ _ _ _ => rfl) (hP 18 0 1 zp_18_0) ?_
    refine z_aload_n dX9_takeNumber_25 rfl ?_
    refine z_getI dX9_takeNumber_26 zf_X9_33 zn_18 zo_18 (fun _ _ _ _ _ => rfl) ?_
    refine z_callV (As := [.int (I 18 6)]) (st := []) dX9_takeNumber_29 zl_X9_60 zv_X8_at (by decide) rfl zn_1 zo_1 rfl rfl (Nat.le_of_ble_eq_true rfl) ⟨Nat.le_refl _, Nat.le_refl _⟩ ⟨Nat.le_refl _, Nat.le_refl _⟩ hv (fun v1 I19 L20 P21 nx1 q22 => ?_)
    obtain ⟨rfl, r23, rfl, hv⟩ := q22
    refine z_callS (As := [.int r23]) (st := []) dX9_takeNumber_32 zl_X9_70 zs_X9_isDigit rfl rfl (Nat.le_of_ble_eq_true rfl) ⟨Nat.le_refl _, Nat.le_refl _⟩ ⟨Nat.le_refl _, Nat.le_refl _⟩ hv (fun v1 I24 L25 P26 nx1 q27 => ?_)
    obtain ⟨rfl, r28, rfl, hv⟩ := q27
    refine z_if_eq (tgt := 71) dX9_takeNumber_35 (by decide) (fun q56 => ?_) (fun q56 => ?_)
    · have hv := hv.1 q56
      refine z_aload_n dX9_takeNumber_71 rfl ?_
      obtain ⟨h29, hv⟩ := hv
      refine z_getP dX9_takeNumber_72 zf_X9_26 zn_18 zo_18 (fun _ _ _ _ _ => rfl) (h29 18 4 22 zp_18_4) ?_
      refine z_aload_n dX9_takeNumber_75 rfl ?_
      refine z_getI dX9_takeNumber_76 zf_X9_29 zn_18 zo_18 (fun _ _ _ _ _ => rfl) ?_
      refine z_iload_n dX9_takeNumber_79 rfl ?_
      refine z_i2l dX9_takeNumber_80 ?_
      obtain ⟨h30, hv⟩ := hv
      refine z_lastore dX9_takeNumber_81 zn_22 zh_22 h30 (z_nmL (fun L32 e31 => ?_))
      have hv := hv L32 e31
      refine z_aload_n dX9_takeNumber_82 rfl ?_
      refine z_getI dX9_takeNumber_83 zf_X9_33 zn_18 zo_18 (fun _ _ _ _ _ => rfl) ?_
      refine z_iload_n dX9_takeNumber_86 rfl ?_
      refine z_isub dX9_takeNumber_87 ?_
      refine z_iconst (v := 4) dX9_takeNumber_88 (by decide) ?_
      refine z_icmp_gt (tgt := 109) dX9_takeNumber_89 (by decide) (fun q47 => ?_) (fun q47 => ?_)
      · have hv := hv.1 q47
        refine z_iconst (v := 1) dX9_takeNumber_109 (by decide) ?_
        refine z_goto (tgt := 114) dX9_takeNumber_110 (by decide) ?_
        refine z_istore_n (lv2 := [some (.ref 18), some (.int x1), some (.int x2), some (.int 1)]) dX9_takeNumber_114 (by decide) rfl rfl ?_
        refine z_iload_n dX9_takeNumber_115 rfl ?_
        refine z_if_eq (tgt := 125) dX9_takeNumber_116 (by decide) (fun q33 => ?_) (fun q33 => ?_)
        · have hv := hv.1 q33
          refine z_sipush (v := 274) dX9_takeNumber_125 (by decide) ?_
          exact z_ireturn dX9_takeNumber_128 rfl rfl (Nat.le_refl _) (Nat.le_refl _) hv
        · have hv := hv.2 q33
          refine z_sipush (v := 276) dX9_takeNumber_119 (by decide) ?_
          refine z_goto (tgt := 128) dX9_takeNumber_122 (by decide) ?_
          exact z_ireturn dX9_takeNumber_128 rfl rfl (Nat.le_refl _) (Nat.le_refl _) hv
      · have hv := hv.2 q47
        refine z_aload_n dX9_takeNumber_92 rfl ?_
        refine z_getP dX9_takeNumber_93 zf_X9_36 zn_18 zo_18 (fun _ _ _ _ _ => rfl) (h29 18 0 1 zp_18_0) ?_
        refine z_aload_n dX9_takeNumber_96 rfl ?_
        refine z_getI dX9_takeNumber_97 zf_X9_33 zn_18 zo_18 (fun _ _ _ _ _ => rfl) ?_
        refine z_callV (As := [.int (I24 18 6)]) (st := []) dX9_takeNumber_100 zl_X9_60 zv_X8_at (by decide) rfl zn_1 zo_1 rfl rfl (Nat.le_of_ble_eq_true rfl) ⟨Nat.le_refl _, Nat.le_refl _⟩ ⟨Nat.le_refl _, Nat.le_refl _⟩ hv (fun v1 I34 L35 P36 nx1 q37 => ?_)
        obtain ⟨rfl, r38, rfl, hv⟩ := q37
        refine z_callS (As := [.int r38]) (st := []) dX9_takeNumber_103 zl_X9_63 zs_X9_isLetter rfl rfl (Nat.le_of_ble_eq_true rfl) ⟨Nat.le_refl _, Nat.le_refl _⟩ ⟨Nat.le_refl _, Nat.le_refl _⟩ hv (fun v1 I39 L40 P41 nx1 q42 => ?_)
        obtain ⟨rfl, r43, rfl, hv⟩ := q42
        refine z_if_eq (tgt := 113) dX9_takeNumber_106 (by decide) (fun q46 => ?_) (fun q46 => ?_)
        · have hv := hv.1 q46
          refine z_iconst (v := 0) dX9_takeNumber_113 (by decide) ?_
          refine z_istore_n (lv2 := [some (.ref 18), some (.int x1), some (.int x2), some (.int 0)]) dX9_takeNumber_114 (by decide) rfl rfl ?_
          refine z_iload_n dX9_takeNumber_115 rfl ?_
          refine z_if_eq (tgt := 125) dX9_takeNumber_116 (by decide) (fun q44 => ?_) (fun q44 => ?_)
          · have hv := hv.1 q44
            refine z_sipush (v := 274) dX9_takeNumber_125 (by decide) ?_
            exact z_ireturn dX9_takeNumber_128 rfl rfl (Nat.le_refl _) (Nat.le_refl _) hv
          · have hv := hv.2 q44
            refine z_sipush (v := 276) dX9_takeNumber_119 (by decide) ?_
            refine z_goto (tgt := 128) dX9_takeNumber_122 (by decide) ?_
            exact z_ireturn dX9_takeNumber_128 rfl rfl (Nat.le_refl _) (Nat.le_refl _) hv
        · have hv := hv.2 q46
          refine z_iconst (v := 1) dX9_takeNumber_109 (by decide) ?_
          refine z_goto (tgt := 114) dX9_takeNumber_110 (by decide) ?_
          refine z_istore_n (lv2 := [some (.ref 18), some (.int x1), some (.int x2), some (.int 1)]) dX9_takeNumber_114 (by decide) rfl rfl ?_
          refine z_iload_n dX9_takeNumber_115 rfl ?_
          refine z_if_eq (tgt := 125) dX9_takeNumber_116 (by decide) (fun q45 => ?_) (fun q45 => ?_)
          · have hv := hv.1 q45
            refine z_sipush (v := 274) dX9_takeNumber_125 (by decide) ?_
            exact z_ireturn dX9_takeNumber_128 rfl rfl (Nat.le_refl _) (Nat.le_refl _) hv
          · have hv := hv.2 q45
            refine z_sipush (v := 276) dX9_takeNumber_119 (by decide) ?_
            refine z_goto (tgt := 128) dX9_takeNumber_122 (by decide) ?_
            exact z_ireturn dX9_takeNumber_128 rfl rfl (Nat.le_refl _) (Nat.le_refl _) hv
    · have hv := hv.2 q56
      refine z_iload_n dX9_takeNumber_38 rfl ?_
      refine z_bipush (v := 10) dX9_takeNumber_39 (by decide) ?_
      refine z_imul dX9_takeNumber_41 ?_
      refine z_aload_n dX9_takeNumber_42 rfl ?_
      obtain ⟨h48, hv⟩ := hv
      refine z_getP dX9_takeNumber_43 zf_X9_36 zn_18 zo_18 (fun _ _ _ _ _ => rfl) (h48 18 0 1 zp_18_0) ?_
      refine z_aload_n dX9_takeNumber_46 rfl ?_
      refine z_getI dX9_takeNumber_47 zf_X9_33 zn_18 zo_18 (fun _ _ _ _ _ => rfl) ?_
      refine z_callV (As := [.int (I24 18 6)]) (st := [.int (x2 * 10)]) dX9_takeNumber_50 zl_X9_60 zv_X8_at (by decide) rfl zn_1 zo_1 rfl rfl (Nat.le_of_ble_eq_true rfl) ⟨Nat.le_refl _, Nat.le_refl _⟩ ⟨Nat.le_refl _, Nat.le_refl _⟩ hv (fun v1 I49 L50 P51 nx1 q52 => ?_)
      obtain ⟨rfl, r53, rfl, hv⟩ := q52
      refine z_iadd dX9_takeNumber_53 ?_
      refine z_bipush (v := 48) dX9_takeNumber_54 (by decide) ?_
      refine z_isub dX9_takeNumber_56 ?_
      refine z_istore_n (lv2 := [some (.ref 18), some (.int x1), some (.int (((x2 * 10) + r53) - 48)), none]) dX9_takeNumber_57 (by decide) rfl rfl ?_
      refine z_aload_n dX9_takeNumber_58 rfl ?_
      refine z_dup dX9_takeNumber_59 rfl ?_
      refine z_getI dX9_takeNumber_60 zf_X9_33 zn_18 zo_18 (fun _ _ _ _ _ => rfl) ?_
      refine z_iconst (v := 1) dX9_takeNumber_63 (by decide) ?_
      refine z_iadd dX9_takeNumber_64 ?_
      refine z_putI dX9_takeNumber_65 zf_X9_33 zn_18 zo_18 (Or.inl rfl) (fun _ _ _ _ _ => rfl) rfl rfl (z_nmI (fun I54 e55 => ?_))
      have hv := hv I54 e55
      refine z_goto (tgt := 7) dX9_takeNumber_68 (by decide) ?_
      exact hv
def v_X9_takeNumber (d : Nat) (Q : zQt)  (I : zI) (L : zL) (P : zP) : Prop :=
  gw_X9_takeNumber (d + 1) Q 7 [some (.ref 18), some (.int (I 18 6)), some (.int 0), none] [] I L P
set_option maxRecDepth 20000 in
theorem g_X9_takeNumber {d : Nat} {Q : zQt}  {I : zI} {L : zL} {P : zP} (hP : zPk P) (hv : v_X9_takeNumber d Q  I L P) : zM zm_X9_takeNumber (d + 1) 0 0 [.ref 18] I L P 205 Q := by
  unfold v_X9_takeNumber at hv
  refine zM_of (lv0 := [some (.ref 18), none, none, none]) (by decide +kernel) (Nat.le_of_ble_eq_true rfl) rfl ?_
  refine z_aload_n dX9_takeNumber_0 rfl ?_
  refine z_getI dX9_takeNumber_1 zf_X9_33 zn_18 zo_18 (fun _ _ _ _ _ => rfl) ?_
  refine z_istore_n (lv2 := [some (.ref 18), some (.int (I 18 6)), none, none]) dX9_takeNumber_4 (by decide) rfl rfl ?_
  refine z_iconst (v := 0) dX9_takeNumber_5 (by decide) ?_
  refine z_istore_n (lv2 := [some (.ref 18), some (.int (I 18 6)), some (.int 0), none]) dX9_takeNumber_6 (by decide) rfl rfl ?_
  exact hv
abbrev gw_X9_isLetter (d : Nat) (Q : zQt) (pc : Nat) (lv : zV) (st : List Value) (I : zI) (L : zL) (P : zP) : Prop := zW zm_X9_isLetter (zRm d 0 0) 0 0 Q pc lv st I L P 205 0 0
def v_X9_isLetter (d : Nat) (Q : zQt) (p1 : Int32) (I : zI) (L : zL) (P : zP) : Prop :=
  ((p1 < 97 →
    Q (some (.int 0)) I L P 205
  ) ∧ (¬ p1 < 97 →
    ((122 < p1 →
      Q (some (.int 0)) I L P 205
    ) ∧ (¬ 122 < p1 →
      Q (some (.int 1)) I L P 205
    ))
  ))
set_option maxRecDepth 20000 in
theorem g_X9_isLetter {d : Nat} {Q : zQt} {p1 : Int32} {I : zI} {L : zL} {P : zP} (hP : zPk P) (hv : v_X9_isLetter d Q p1 I L P) : zM zm_X9_isLetter d 0 0 [.int p1] I L P 205 Q := by
  unfold v_X9_isLetter at hv
  refine zM_of (lv0 := [some (.int p1)]) (by decide +kernel) (Nat.le_of_ble_eq_true rfl) rfl ?_
  refine z_iload_n dX9_isLetter_0 rfl ?_
  refine z_bipush (v := 97) dX9_isLetter_1 (by decide) ?_
  refine z_icmp_lt (tgt := 16) dX9_isLetter_3 (by decide) (fun q2 => ?_) (fun q2 => ?_)
  · have hv := hv.1 q2
    refine z_iconst (v := 0) dX9_isLetter_16 (by decide) ?_
    exact z_ireturn dX9_isLetter_17 rfl (by decide) (Nat.le_refl _) (Nat.le_refl _) hv
  · have hv := hv.2 q2
    refine z_iload_n dX9_isLetter_6 rfl ?_
    refine z_bipush (v := 122) dX9_isLetter_7 (by decide) ?_
    refine z_icmp_gt (tgt := 16) dX9_isLetter_9 (by decide) (fun q1 => ?_) (fun q1 => ?_)
    · have hv := hv.1 q1
      refine z_iconst (v := 0) dX9_isLetter_16 (by decide) ?_
      exact z_ireturn dX9_isLetter_17 rfl (by decide) (Nat.le_refl _) (Nat.le_refl _) hv
    · have hv := hv.2 q1
      refine z_iconst (v := 1) dX9_isLetter_12 (by decide) ?_
      refine z_goto (tgt := 17) dX9_isLetter_13 (by decide) ?_
      exact z_ireturn dX9_isLetter_17 rfl (by decide) (Nat.le_refl _) (Nat.le_refl _) hv
abbrev gw_X9_isDigit (d : Nat) (Q : zQt) (pc : Nat) (lv : zV) (st : List Value) (I : zI) (L : zL) (P : zP) : Prop := zW zm_X9_isDigit (zRm d 0 0) 0 0 Q pc lv st I L P 205 0 0
def v_X9_isDigit (d : Nat) (Q : zQt) (p1 : Int32) (I : zI) (L : zL) (P : zP) : Prop :=
  ((p1 < 48 →
    Q (some (.int 0)) I L P 205
  ) ∧ (¬ p1 < 48 →
    ((57 < p1 →
      Q (some (.int 0)) I L P 205
    ) ∧ (¬ 57 < p1 →
      Q (some (.int 1)) I L P 205
    ))
  ))
set_option maxRecDepth 20000 in
theorem g_X9_isDigit {d : Nat} {Q : zQt} {p1 : Int32} {I : zI} {L : zL} {P : zP} (hP : zPk P) (hv : v_X9_isDigit d Q p1 I L P) : zM zm_X9_isDigit d 0 0 [.int p1] I L P 205 Q := by
  unfold v_X9_isDigit at hv
  refine zM_of (lv0 := [some (.int p1)]) (by decide +kernel) (Nat.le_of_ble_eq_true rfl) rfl ?_
  refine z_iload_n dX9_isDigit_0 rfl ?_
  refine z_bipush (v := 48) dX9_isDigit_1 (by decide) ?_
  refine z_icmp_lt (tgt := 16) dX9_isDigit_3 (by decide) (fun q2 => ?_) (fun q2 => ?_)
  · have hv := hv.1 q2
    refine z_iconst (v := 0) dX9_isDigit_16 (by decide) ?_
    exact z_ireturn dX9_isDigit_17 rfl (by decide) (Nat.le_refl _) (Nat.le_refl _) hv
  · have hv := hv.2 q2
    refine z_iload_n dX9_isDigit_6 rfl ?_
    refine z_bipush (v := 57) dX9_isDigit_7 (by decide) ?_
    refine z_icmp_gt (tgt := 16) dX9_isDigit_9 (by decide) (fun q1 => ?_) (fun q1 => ?_)
    · have hv := hv.1 q1
      refine z_iconst (v := 0) dX9_isDigit_16 (by decide) ?_
      exact z_ireturn dX9_isDigit_17 rfl (by decide) (Nat.le_refl _) (Nat.le_refl _) hv
    · have hv := hv.2 q1
      refine z_iconst (v := 1) dX9_isDigit_12 (by decide) ?_
      refine z_goto (tgt := 17) dX9_isDigit_13 (by decide) ?_
      exact z_ireturn dX9_isDigit_17 rfl (by decide) (Nat.le_refl _) (Nat.le_refl _) hv
