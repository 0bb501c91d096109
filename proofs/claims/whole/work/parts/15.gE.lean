abbrev gw_X12_sign (d : Nat) (Q : zQt) (pc : Nat) (lv : zV) (st : List Value) (I : zI) (L : zL) (P : zP) : Prop := zW zm_X12_sign (zRm d 0 0) 0 0 Q pc lv st I L P 205 0 0
def v_X12_sign (d : Nat) (Q : zQt) (p1 : Int32) (I : zI) (L : zL) (P : zP) : Prop :=
  (((I 160 3) ≤ p1 →
    Q (some (.int 0)) I L P 205
  ) ∧ (¬ (I 160 3) ≤ p1 →
    vp_in p1 1600 ∧
    Q (some (.int ((I 162 p1.toNatClampNeg) &&& 255 : Int32))) I L P 205
  ))
set_option maxRecDepth 20000 in
theorem g_X12_sign {d : Nat} {Q : zQt} {p1 : Int32} {I : zI} {L : zL} {P : zP} (hP : zPk P) (hv : v_X12_sign d Q p1 I L P) : zM zm_X12_sign d 0 0 [.ref 160, .int p1] I L P 205 Q := by
  unfold v_X12_sign at hv
  refine zM_of (lv0 := [some (.ref 160), some (.int p1)]) (by decide +kernel) (Nat.le_of_ble_eq_true rfl) rfl ?_
  refine z_iload_n dX12_sign_0 rfl ?_
  refine z_aload_n dX12_sign_1 rfl ?_
  refine z_getI dX12_sign_2 zf_X12_155 zn_160 zo_160 (fun _ _ _ _ _ => rfl) ?_
  refine z_icmp_ge (tgt := 21) dX12_sign_5 (by decide) (fun q2 => ?_) (fun q2 => ?_)
  · have hv := hv.1 q2
    refine z_iconst (v := 0) dX12_sign_21 (by decide) ?_
    exact z_ireturn dX12_sign_22 rfl rfl (Nat.le_refl _) (Nat.le_refl _) hv
  · have hv := hv.2 q2
    refine z_aload_n dX12_sign_8 rfl ?_
    refine z_getP dX12_sign_9 zf_X12_13 zn_160 zo_160 (fun _ _ _ _ _ => rfl) (hP 160 1 162 zp_160_1) ?_
    refine z_iload_n dX12_sign_12 rfl ?_
    obtain ⟨h1, hv⟩ := hv
    refine z_baload dX12_sign_13 zn_162 zh_162 h1 ?_
    refine z_sipush (v := 255) dX12_sign_14 (by decide) ?_
    refine z_iand dX12_sign_17 ?_
    refine z_goto (tgt := 22) dX12_sign_18 (by decide) ?_
    exact z_ireturn dX12_sign_22 rfl rfl (Nat.le_refl _) (Nat.le_refl _) hv
abbrev gw_X12_isLetter (d : Nat) (Q : zQt) (pc : Nat) (lv : zV) (st : List Value) (I : zI) (L : zL) (P : zP) : Prop := zW zm_X12_isLetter (zRm d 0 0) 0 0 Q pc lv st I L P 205 0 0
def v_X12_isLetter (d : Nat) (Q : zQt) (p1 : Int32) (I : zI) (L : zL) (P : zP) : Prop :=
  ((p1 < 97 →
    Q (some (.int 0)) I L P 205
  ) ∧ (¬ p1 < 97 →
    ((122 < p1 →
      Q (some (.int 0)) I L P 205
    ) ∧ (¬ 122 < p1 →
      Q (some (.int 1)) I L P 205
    ))
  ))
set_option maxRecDepth 20000 in
theorem g_X12_isLetter {d : Nat} {Q : zQt} {p1 : Int32} {I : zI} {L : zL} {P : zP} (hP : zPk P) (hv : v_X12_isLetter d Q p1 I L P) : zM zm_X12_isLetter d 0 0 [.int p1] I L P 205 Q := by
  unfold v_X12_isLetter at hv
  refine zM_of (lv0 := [some (.int p1)]) (by decide +kernel) (Nat.le_of_ble_eq_true rfl) rfl ?_
  refine z_iload_n dX12_isLetter_0 rfl ?_
  refine z_bipush (v := 97) dX12_isLetter_1 (by decide) ?_
  refine z_icmp_lt (tgt := 16) dX12_isLetter_3 (by decide) (fun q2 => ?_) (fun q2 => ?_)
  · have hv := hv.1 q2
    refine z_iconst (v := 0) dX12_isLetter_16 (by decide) ?_
    exact z_ireturn dX12_isLetter_17 rfl (by decide) (Nat.le_refl _) (Nat.le_refl _) hv
  · have hv := hv.2 q2
    refine z_iload_n dX12_isLetter_6 rfl ?_
    refine z_bipush (v := 122) dX12_isLetter_7 (by decide) ?_
    refine z_icmp_gt (tgt := 16) dX12_isLetter_9 (by decide) (fun q1 => ?_) (fun q1 => ?_)
    · have hv := hv.1 q1
      refine z_iconst (v := 0) dX12_isLetter_16 (by decide) ?_
      exact z_ireturn dX12_isLetter_17 rfl (by decide) (Nat.le_refl _) (Nat.le_refl _) hv
    · have hv := hv.2 q1
      refine z_iconst (v := 1) dX12_isLetter_12 (by decide) ?_
      refine z_goto (tgt := 17) dX12_isLetter_13 (by decide) ?_
      exact z_ireturn dX12_isLetter_17 rfl (by decide) (Nat.le_refl _) (Nat.le_refl _) hv
abbrev gw_X12_isDigit (d : Nat) (Q : zQt) (pc : Nat) (lv : zV) (st : List Value) (I : zI) (L : zL) (P : zP) : Prop := zW zm_X12_isDigit (zRm d 0 0) 0 0 Q pc lv st I L P 205 0 0
def v_X12_isDigit (d : Nat) (Q : zQt) (p1 : Int32) (I : zI) (L : zL) (P : zP) : Prop :=
  ((p1 < 48 →
    Q (some (.int 0)) I L P 205
  ) ∧ (¬ p1 < 48 →
    ((57 < p1 →
      Q (some (.int 0)) I L P 205
    ) ∧ (¬ 57 < p1 →
      Q (some (.int 1)) I L P 205
    ))
  ))
set_option maxRecDepth 20000 in
theorem g_X12_isDigit {d : Nat} {Q : zQt} {p1 : Int32} {I : zI} {L : zL} {P : zP} (hP : zPk P) (hv : v_X12_isDigit d Q p1 I L P) : zM zm_X12_isDigit d 0 0 [.int p1] I L P 205 Q := by
  unfold v_X12_isDigit at hv
  refine zM_of (lv0 := [some (.int p1)]) (by decide +kernel) (Nat.le_of_ble_eq_true rfl) rfl ?_
  refine z_iload_n dX12_isDigit_0 rfl ?_
  refine z_bipush (v := 48) dX12_isDigit_1 (by decide) ?_
  refine z_icmp_lt (tgt := 16) dX12_isDigit_3 (by decide) (fun q2 => ?_) (fun q2 => ?_)
  · have hv := hv.1 q2
    refine z_iconst (v := 0) dX12_isDigit_16 (by decide) ?_
    exact z_ireturn dX12_isDigit_17 rfl (by decide) (Nat.le_refl _) (Nat.le_refl _) hv
  · have hv := hv.2 q2
    refine z_iload_n dX12_isDigit_6 rfl ?_
    refine z_bipush (v := 57) dX12_isDigit_7 (by decide) ?_
    refine z_icmp_gt (tgt := 16) dX12_isDigit_9 (by decide) (fun q1 => ?_) (fun q1 => ?_)
    · have hv := hv.1 q1
      refine z_iconst (v := 0) dX12_isDigit_16 (by decide) ?_
      exact z_ireturn dX12_isDigit_17 rfl (by decide) (Nat.le_refl _) (Nat.le_refl _) hv
    · have hv := hv.2 q1
      refine z_iconst (v := 1) dX12_isDigit_12 (by decide) ?_
      refine z_goto (tgt := 17) dX12_isDigit_13 (by decide) ?_
      exact z_ireturn dX12_isDigit_17 rfl (by decide) (Nat.le_refl _) (Nat.le_refl _) hv
abbrev gw_X12_fails (d : Nat) (Q : zQt) (pc : Nat) (lv : zV) (st : List Value) (I : zI) (L : zL) (P : zP) : Prop := zW zm_X12_fails (zRm d 0 0) 0 0 Q pc lv st I L P 205 0 0
def v_X12_fails (d : Nat) (Q : zQt) (p1 : Int32) (p2 : Int32) (I : zI) (L : zL) (P : zP) : Prop :=
  (((I 160 4) ≤ 0 →
    ∀ I1 : zI, I1 = zuI I 160 4 p1 →
    ∀ I3 : zI, I3 = zuI I1 160 5 p2 →
    Q none I3 L P 205
  ) ∧ (¬ (I 160 4) ≤ 0 →
    Q none I L P 205
  ))
set_option maxRecDepth 20000 in
theorem g_X12_fails {d : Nat} {Q : zQt} {p1 : Int32} {p2 : Int32} {I : zI} {L : zL} {P : zP} (hP : zPk P) (hv : v_X12_fails d Q p1 p2 I L P) : zM zm_X12_fails d 0 0 [.ref 160, .int p1, .int p2] I L P 205 Q := by
  unfold v_X12_fails at hv
  refine zM_of (lv0 := [some (.ref 160), some (.int p1), some (.int p2)]) (by decide +kernel) (Nat.le_of_ble_eq_true rfl) rfl ?_
  refine z_aload_n dX12_fails_0 rfl ?_
  refine z_getI dX12_fails_1 zf_X12_158 zn_160 zo_160 (fun _ _ _ _ _ => rfl) ?_
  refine z_if_le (tgt := 8) dX12_fails_4 (by decide) (fun q5 => ?_) (fun q5 => ?_)
  · have hv := hv.1 q5
    refine z_aload_n dX12_fails_8 rfl ?_
    refine z_iload_n dX12_fails_9 rfl ?_
    refine z_putI dX12_fails_10 zf_X12_158 zn_160 zo_160 (Or.inl rfl) (fun _ _ _ _ _ => rfl) rfl rfl (z_nmI (fun I1 e2 => ?_))
    have hv := hv I1 e2
    refine z_aload_n dX12_fails_13 rfl ?_
    refine z_iload_n dX12_fails_14 rfl ?_
    refine z_putI dX12_fails_15 zf_X12_16 zn_160 zo_160 (Or.inl rfl) (fun _ _ _ _ _ => rfl) rfl rfl (z_nmI (fun I3 e4 => ?_))
    have hv := hv I3 e4
    exact z_return dX12_fails_18 rfl (Nat.le_refl _) (Nat.le_refl _) hv
  · have hv := hv.2 q5
    exact z_return dX12_fails_7 rfl (Nat.le_refl _) (Nat.le_refl _) hv
abbrev gw_X12_isGood (d : Nat) (Q : zQt) (pc : Nat) (lv : zV) (st : List Value) (I : zI) (L : zL) (P : zP) : Prop := zW zm_X12_isGood (zRm d 0 0) 0 0 Q pc lv st I L P 205 0 0
def v_X12_isGood (d : Nat) (Q : zQt)  (I : zI) (L : zL) (P : zP) : Prop :=
  ((¬ (I 160 4) = 0 →
    Q (some (.int 0)) I L P 205
  ) ∧ ((I 160 4) = 0 →
    Q (some (.int 1)) I L P 205
  ))
set_option maxRecDepth 20000 in
theorem g_X12_isGood {d : Nat} {Q : zQt}  {I : zI} {L : zL} {P : zP} (hP : zPk P) (hv : v_X12_isGood d Q  I L P) : zM zm_X12_isGood d 0 0 [.ref 160] I L P 205 Q := by
  unfold v_X12_isGood at hv
  refine zM_of (lv0 := [some (.ref 160)]) (by decide +kernel) (Nat.le_of_ble_eq_true rfl) rfl ?_
  refine z_aload_n dX12_isGood_0 rfl ?_
  refine z_getI dX12_isGood_1 zf_X12_158 zn_160 zo_160 (fun _ _ _ _ _ => rfl) ?_
  refine z_if_ne (tgt := 11) dX12_isGood_4 (by decide) (fun q1 => ?_) (fun q1 => ?_)
  · have hv := hv.1 q1
    refine z_iconst (v := 0) dX12_isGood_11 (by decide) ?_
    exact z_ireturn dX12_isGood_12 rfl (by decide) (Nat.le_refl _) (Nat.le_refl _) hv
  · have hv := hv.2 q1
    refine z_iconst (v := 1) dX12_isGood_7 (by decide) ?_
    refine z_goto (tgt := 12) dX12_isGood_8 (by decide) ?_
    exact z_ireturn dX12_isGood_12 rfl (by decide) (Nat.le_refl _) (Nat.le_refl _) hv
abbrev gw_X12_isKept (d : Nat) (Q : zQt) (pc : Nat) (lv : zV) (st : List Value) (I : zI) (L : zL) (P : zP) : Prop := zW zm_X12_isKept (zRm d 0 0) 0 0 Q pc lv st I L P 205 0 0
def v_X12_isKept_151 (d : Nat) (Q : zQt) (t0 : Int32) (I : zI) (L : zL) (P : zP) : Prop :=
  (t0 = 0 ∨ t0 = 1) ∧
  Q (some (.int t0)) I L P 205
set_option maxRecDepth 20000 in
theorem g_X12_isKept_151 {d : Nat} {Q : zQt} {t0 : Int32} {I : zI} {L : zL} {P : zP} (hP : zPk P) (hv : v_X12_isKept_151 d Q t0 I L P) : gw_X12_isKept d Q 151 [none, none, none] [.int t0] I L P := by
  unfold v_X12_isKept_151 at hv
  obtain ⟨h28, hv⟩ := hv
  exact z_ireturn dX12_isKept_151 rfl (zbn h28) (Nat.le_refl _) (Nat.le_refl _) hv
def v_X12_isKept_146 (d : Nat) (Q : zQt)  (I : zI) (L : zL) (P : zP) : Prop :=
  gw_X12_isKept d Q 151 [none, none, none] [.int 1] I L P
set_option maxRecDepth 20000 in
theorem g_X12_isKept_146 {d : Nat} {Q : zQt}  {I : zI} {L : zL} {P : zP} (hP : zPk P) (hv : v_X12_isKept_146 d Q  I L P) : gw_X12_isKept d Q 146 [none, none, none] [] I L P := by
  unfold v_X12_isKept_146 at hv
  refine z_iconst (v := 1) dX12_isKept_146 (by decide) ?_
  refine z_goto (tgt := 151) dX12_isKept_147 (by decide) ?_
  exact hv
def v_X12_isKept_72 (d : Nat) (Q : zQt) (p1 : Int64) (I : zI) (L : zL) (P : zP) : Prop :=
  ((¬ (1 : Int32) = 0 →
    gw_X12_isKept d Q 146 [none, none, none] [] I L P
  ) ∧ ((1 : Int32) = 0 →
    (((lg_cmp p1 469786323827) = 0 →
      gw_X12_isKept d Q 146 [none, none, none] [] I L P
    ) ∧ (¬ (lg_cmp p1 469786323827) = 0 →
      (((lg_cmp p1 1735356005) = 0 →
        gw_X12_isKept d Q 146 [none, none, none] [] I L P
      ) ∧ (¬ (lg_cmp p1 1735356005) = 0 →
        (((lg_cmp p1 461414299507) = 0 →
          gw_X12_isKept d Q 146 [none, none, none] [] I L P
        ) ∧ (¬ (lg_cmp p1 461414299507) = 0 →
          (((lg_cmp p1 6384748) = 0 →
            gw_X12_isKept d Q 146 [none, none, none] [] I L P
          ) ∧ (¬ (lg_cmp p1 6384748) = 0 →
            (((lg_cmp p1 109330228408174) = 0 →
              gw_X12_isKept d Q 146 [none, none, none] [] I L P
            ) ∧ (¬ (lg_cmp p1 109330228408174) = 0 →
              (((lg_cmp p1 6385252) = 0 →
                gw_X12_isKept d Q 146 [none, none, none] [] I L P
              ) ∧ (¬ (lg_cmp p1 6385252) = 0 →
                (((lg_cmp p1 28530) = 0 →
                  gw_X12_isKept d Q 146 [none, none, none] [] I L P
                ) ∧ (¬ (lg_cmp p1 28530) = 0 →
                  ((¬ (lg_cmp p1 7237492) = 0 →
                    gw_X12_isKept d Q 151 [none, none, none] [.int 0] I L P
                  ) ∧ ((lg_cmp p1 7237492) = 0 →
                    gw_X12_isKept d Q 146 [none, none, none] [] I L P
                  ))
                ))
              ))
            ))
          ))
        ))
      ))
    ))
  ))
set_option maxRecDepth 20000 in
theorem g_X12_isKept_72 {d : Nat} {Q : zQt} {p1 : Int64} {I : zI} {L : zL} {P : zP} (hP : zPk P) (hv : v_X12_isKept_72 d Q p1 I L P) : gw_X12_isKept d Q 72 [some (.long p1), none, none] [] I L P := by
  unfold v_X12_isKept_72 at hv
  refine z_iconst (v := 1) dX12_isKept_72 (by decide) ?_
  refine z_goto (tgt := 77) dX12_isKept_73 (by decide) ?_
  refine z_istore_n (lv2 := [some (.long p1), none, some (.int 1)]) dX12_isKept_77 (by decide) rfl rfl ?_
  refine z_iload_n dX12_isKept_78 rfl ?_
  refine z_if_ne (tgt := 146) dX12_isKept_79 (by decide) (fun q27 => ?_) (fun q27 => ?_)
  · have hv := hv.1 q27
    exact z_sub (by exact trivial) hv
  · have hv := hv.2 q27
    refine z_lload_n dX12_isKept_82 rfl ?_
    refine z_ldc2 (v := 469786323827) dX12_isKept_83 zj_X12_179 ?_
    refine z_lcmp dX12_isKept_86 ?_
    refine z_if_eq (tgt := 146) dX12_isKept_87 (by decide) (fun q26 => ?_) (fun q26 => ?_)
    · have hv := hv.1 q26
      exact z_sub (by exact trivial) hv
    · have hv := hv.2 q26
      refine z_lload_n dX12_isKept_90 rfl ?_
      refine z_ldc2 (v := 1735356005) dX12_isKept_91 zj_X12_181 ?_
      refine z_lcmp dX12_isKept_94 ?_
      refine z_if_eq (tgt := 146) dX12_isKept_95 (by decide) (fun q25 => ?_) (fun q25 => ?_)
      · have hv := hv.1 q25
        exact z_sub (by exact trivial) hv
      · have hv := hv.2 q25
        refine z_lload_n dX12_isKept_98 rfl ?_
        refine z_ldc2 (v := 461414299507) dX12_isKept_99 zj_X12_183 ?_
        refine z_lcmp dX12_isKept_102 ?_
        refine z_if_eq (tgt := 146) dX12_isKept_103 (by decide) (fun q24 => ?_) (fun q24 => ?_)
        · have hv := hv.1 q24
          exact z_sub (by exact trivial) hv
        · have hv := hv.2 q24
          refine z_lload_n dX12_isKept_106 rfl ?_
          refine z_ldc2 (v := 6384748) dX12_isKept_107 zj_X12_185 ?_
          refine z_lcmp dX12_isKept_110 ?_
          refine z_if_eq (tgt := 146) dX12_isKept_111 (by decide) (fun q23 => ?_) (fun q23 => ?_)
          · have hv := hv.1 q23
            exact z_sub (by exact trivial) hv
          · have hv := hv.2 q23
            refine z_lload_n dX12_isKept_114 rfl ?_
            refine z_ldc2 (v := 109330228408174) dX12_isKept_115 zj_X12_187 ?_
            refine z_lcmp dX12_isKept_118 ?_
            refine z_if_eq (tgt := 146) dX12_isKept_119 (by decide) (fun q22 => ?_) (fun q22 => ?_)
            · have hv := hv.1 q22
              exact z_sub (by exact trivial) hv
            · have hv := hv.2 q22
              refine z_lload_n dX12_isKept_122 rfl ?_
              refine z_ldc2 (v := 6385252) dX12_isKept_123 zj_X12_189 ?_
              refine z_lcmp dX12_isKept_126 ?_
              refine z_if_eq (tgt := 146) dX12_isKept_127 (by decide) (fun q21 => ?_) (fun q21 => ?_)
              · have hv := hv.1 q21
                exact z_sub (by exact trivial) hv
              · have hv := hv.2 q21
                refine z_lload_n dX12_isKept_130 rfl ?_
                refine z_ldc2 (v := 28530) dX12_isKept_131 zj_X12_191 ?_
                refine z_lcmp dX12_isKept_134 ?_
                refine z_if_eq (tgt := 146) dX12_isKept_135 (by decide) (fun q20 => ?_) (fun q20 => ?_)
                · have hv := hv.1 q20
                  exact z_sub (by exact trivial) hv
                · have hv := hv.2 q20
                  refine z_lload_n dX12_isKept_138 rfl ?_
                  refine z_ldc2 (v := 7237492) dX12_isKept_139 zj_X12_193 ?_
                  refine z_lcmp dX12_isKept_142 ?_
                  refine z_if_ne (tgt := 150) dX12_isKept_143 (by decide) (fun q19 => ?_) (fun q19 => ?_)
                  · have hv := hv.1 q19
                    refine z_iconst (v := 0) dX12_isKept_150 (by decide) ?_
                    exact z_sub (by exact trivial) hv
                  · have hv := hv.2 q19
                    exact z_sub (by exact trivial) hv
def v_X12_isKept (d : Nat) (Q : zQt) (p1 : Int64) (I : zI) (L : zL) (P : zP) : Prop :=
  (((lg_cmp p1 7302757) = 0 →
    gw_X12_isKept d Q 72 [some (.long p1), none, none] [] I L P
  ) ∧ (¬ (lg_cmp p1 7302757) = 0 →
    (((lg_cmp p1 120265298896228) = 0 →
      gw_X12_isKept d Q 72 [some (.long p1), none, none] [] I L P
    ) ∧ (¬ (lg_cmp p1 120265298896228) = 0 →
      (((lg_cmp p1 120299659095922) = 0 →
        gw_X12_isKept d Q 72 [some (.long p1), none, none] [] I L P
      ) ∧ (¬ (lg_cmp p1 120299659095922) = 0 →
        (((lg_cmp p1 495873784179) = 0 →
          gw_X12_isKept d Q 72 [some (.long p1), none, none] [] I L P
        ) ∧ (¬ (lg_cmp p1 495873784179) = 0 →
          (((lg_cmp p1 422725643876) = 0 →
            gw_X12_isKept d Q 72 [some (.long p1), none, none] [] I L P
          ) ∧ (¬ (lg_cmp p1 422725643876) = 0 →
            (((lg_cmp p1 7102839) = 0 →
              gw_X12_isKept d Q 72 [some (.long p1), none, none] [] I L P
            ) ∧ (¬ (lg_cmp p1 7102839) = 0 →
              (((lg_cmp p1 6840691) = 0 →
                gw_X12_isKept d Q 72 [some (.long p1), none, none] [] I L P
              ) ∧ (¬ (lg_cmp p1 6840691) = 0 →
                (((lg_cmp p1 7305070) = 0 →
                  gw_X12_isKept d Q 72 [some (.long p1), none, none] [] I L P
                ) ∧ (¬ (lg_cmp p1 7305070) = 0 →
                  ((¬ (lg_cmp p1 126862485974631) = 0 →
                    ((¬ (0 : Int32) = 0 →
                      gw_X12_isKept d Q 146 [none, none, none] [] I L P
                    ) ∧ ((0 : Int32) = 0 →
                      (((lg_cmp p1 469786323827) = 0 →
                        gw_X12_isKept d Q 146 [none, none, none] [] I L P
                      ) ∧ (¬ (lg_cmp p1 469786323827) = 0 →
                        (((lg_cmp p1 1735356005) = 0 →
                          gw_X12_isKept d Q 146 [none, none, none] [] I L P
                        ) ∧ (¬ (lg_cmp p1 1735356005) = 0 →
                          (((lg_cmp p1 461414299507) = 0 →
                            gw_X12_isKept d Q 146 [none, none, none] [] I L P
                          ) ∧ (¬ (lg_cmp p1 461414299507) = 0 →
                            (((lg_cmp p1 6384748) = 0 →
                              gw_X12_isKept d Q 146 [none, none, none] [] I L P
                            ) ∧ (¬ (lg_cmp p1 6384748) = 0 →
                              (((lg_cmp p1 109330228408174) = 0 →
                                gw_X12_isKept d Q 146 [none, none, none] [] I L P
                              ) ∧ (¬ (lg_cmp p1 109330228408174) = 0 →
                                (((lg_cmp p1 6385252) = 0 →
                                  gw_X12_isKept d Q 146 [none, none, none] [] I L P
                                ) ∧ (¬ (lg_cmp p1 6385252) = 0 →
                                  (((lg_cmp p1 28530) = 0 →
                                    gw_X12_isKept d Q 146 [none, none, none] [] I L P
                                  ) ∧ (¬ (lg_cmp p1 28530) = 0 →
                                    ((¬ (lg_cmp p1 7237492) = 0 →
                                      gw_X12_isKept d Q 151 [none, none, none] [.int 0] I L P
                                    ) ∧ ((lg_cmp p1 7237492) = 0 →
                                      gw_X12_isKept d Q 146 [none, none, none] [] I L P
                                    ))
                                  ))
                                ))
                              ))
                            ))
                          ))
                        ))
                      ))
                    ))
                  ) ∧ ((lg_cmp p1 126862485974631) = 0 →
                    gw_X12_isKept d Q 72 [some (.long p1), none, none] [] I L P
                  ))
                ))
              ))
            ))
          ))
        ))
      ))
    ))
  ))
set_option maxRecDepth 20000 in
theorem g_X12_isKept {d : Nat} {Q : zQt} {p1 : Int64} {I : zI} {L : zL} {P : zP} (hP : zPk P) (hv : v_X12_isKept d Q p1 I L P) : zM zm_X12_isKept d 0 0 [.long p1] I L P 205 Q := by
  unfold v_X12_isKept at hv
  refine zM_of (lv0 := [some (.long p1), none, none]) (by decide +kernel) (Nat.le_of_ble_eq_true rfl) rfl ?_
  refine z_lload_n dX12_isKept_0 rfl ?_
  refine z_ldc2 (v := 7302757) dX12_isKept_1 zj_X12_161 ?_
  refine z_lcmp dX12_isKept_4 ?_
  refine z_if_eq (tgt := 72) dX12_isKept_5 (by decide) (fun q18 => ?_) (fun q18 => ?_)
  · have hv := hv.1 q18
    exact hv
  · have hv := hv.2 q18
    refine z_lload_n dX12_isKept_8 rfl ?_
    refine z_ldc2 (v := 120265298896228) dX12_isKept_9 zj_X12_163 ?_
    refine z_lcmp dX12_isKept_12 ?_
    refine z_if_eq (tgt := 72) dX12_isKept_13 (by decide) (fun q17 => ?_) (fun q17 => ?_)
    · have hv := hv.1 q17
      exact hv
    · have hv := hv.2 q17
      refine z_lload_n dX12_isKept_16 rfl ?_
      refine z_ldc2 (v := 120299659095922) dX12_isKept_17 zj_X12_165 ?_
      refine z_lcmp dX12_isKept_20 ?_
      refine z_if_eq (tgt := 72) dX12_isKept_21 (by decide) (fun q16 => ?_) (fun q16 => ?_)
      · have hv := hv.1 q16
        exact hv
      · have hv := hv.2 q16
        refine z_lload_n dX12_isKept_24 rfl ?_
        refine z_ldc2 (v := 495873784179) dX12_isKept_25 zj_X12_167 ?_
        refine z_lcmp dX12_isKept_28 ?_
        refine z_if_eq (tgt := 72) dX12_isKept_29 (by decide) (fun q15 => ?_) (fun q15 => ?_)
        · have hv := hv.1 q15
          exact hv
        · have hv := hv.2 q15
          refine z_lload_n dX12_isKept_32 rfl ?_
          refine z_ldc2 (v := 422725643876) dX12_isKept_33 zj_X12_169 ?_
          refine z_lcmp dX12_isKept_36 ?_
          refine z_if_eq (tgt := 72) dX12_isKept_37 (by decide) (fun q14 => ?_) (fun q14 => ?_)
          · have hv := hv.1 q14
            exact hv
          · have hv := hv.2 q14
            refine z_lload_n dX12_isKept_40 rfl ?_
            refine z_ldc2 (v := 7102839) dX12_isKept_41 zj_X12_171 ?_
            refine z_lcmp dX12_isKept_44 ?_
            refine z_if_eq (tgt := 72) dX12_isKept_45 (by decide) (fun q13 => ?_) (fun q13 => ?_)
            · have hv := hv.1 q13
              exact hv
            · have hv := hv.2 q13
              refine z_lload_n dX12_isKept_48 rfl ?_
              refine z_ldc2 (v := 6840691) dX12_isKept_49 zj_X12_173 ?_
              refine z_lcmp dX12_isKept_52 ?_
              refine z_if_eq (tgt := 72) dX12_isKept_53 (by decide) (fun q12 => ?_) (fun q12 => ?_)
              · have hv := hv.1 q12
                exact hv
              · have hv := hv.2 q12
                refine z_lload_n dX12_isKept_56 rfl ?_
                refine z_ldc2 (v := 7305070) dX12_isKept_57 zj_X12_175 ?_
                refine z_lcmp dX12_isKept_60 ?_
                refine z_if_eq (tgt := 72) dX12_isKept_61 (by decide) (fun q11 => ?_) (fun q11 => ?_)
                · have hv := hv.1 q11
                  exact hv
                · have hv := hv.2 q11
                  refine z_lload_n dX12_isKept_64 rfl ?_
                  refine z_ldc2 (v := 126862485974631) dX12_isKept_65 zj_X12_177 ?_
                  refine z_lcmp dX12_isKept_68 ?_
                  refine z_if_ne (tgt := 76) dX12_isKept_69 (by decide) (fun q10 => ?_) (fun q10 => ?_)
                  · have hv := hv.1 q10
                    refine z_iconst (v := 0) dX12_isKept_76 (by decide) ?_
                    refine z_istore_n (lv2 := [some (.long p1), none, some (.int 0)]) dX12_isKept_77 (by decide) rfl rfl ?_
                    refine z_iload_n dX12_isKept_78 rfl ?_
                    refine z_if_ne (tgt := 146) dX12_isKept_79 (by decide) (fun q9 => ?_) (fun q9 => ?_)
                    · have hv := hv.1 q9
                      exact z_sub (by exact trivial) hv
                    · have hv := hv.2 q9
                      refine z_lload_n dX12_isKept_82 rfl ?_
                      refine z_ldc2 (v := 469786323827) dX12_isKept_83 zj_X12_179 ?_
                      refine z_lcmp dX12_isKept_86 ?_
                      refine z_if_eq (tgt := 146) dX12_isKept_87 (by decide) (fun q8 => ?_) (fun q8 => ?_)
                      · have hv := hv.1 q8
                        exact z_sub (by exact trivial) hv
                      · have hv := hv.2 q8
                        refine z_lload_n dX12_isKept_90 rfl ?_
                        refine z_ldc2 (v := 1735356005) dX12_isKept_91 zj_X12_181 ?_
                        refine z_lcmp dX12_isKept_94 ?_
                        refine z_if_eq (tgt := 146) dX12_isKept_95 (by decide) (fun q7 => ?_) (fun q7 => ?_)
                        · have hv := hv.1 q7
                          exact z_sub (by exact trivial) hv
                        · have hv := hv.2 q7
                          refine z_lload_n dX12_isKept_98 rfl ?_
                          refine z_ldc2 (v := 461414299507) dX12_isKept_99 zj_X12_183 ?_
                          refine z_lcmp dX12_isKept_102 ?_
                          refine z_if_eq (tgt := 146) dX12_isKept_103 (by decide) (fun q6 => ?_) (fun q6 => ?_)
                          · have hv := hv.1 q6
                            exact z_sub (by exact trivial) hv
                          · have hv := hv.2 q6
                            refine z_lload_n dX12_isKept_106 rfl ?_
                            refine z_ldc2 (v := 6384748) dX12_isKept_107 zj_X12_185 ?_
                            refine z_lcmp dX12_isKept_110 ?_
                            refine z_if_eq (tgt := 146) dX12_isKept_111 (by decide) (fun q5 => ?_) (fun q5 => ?_)
                            · have hv := hv.1 q5
                              exact z_sub (by exact trivial) hv
                            · have hv := hv.2 q5
                              refine z_lload_n dX12_isKept_114 rfl ?_
                              refine z_ldc2 (v := 109330228408174) dX12_isKept_115 zj_X12_187 ?_
                              refine z_lcmp dX12_isKept_118 ?_
                              refine z_if_eq (tgt := 146) dX12_isKept_119 (by decide) (fun q4 => ?_) (fun q4 => ?_)
                              · have hv := hv.1 q4
                                exact z_sub (by exact trivial) hv
                              · have hv := hv.2 q4
                                refine z_lload_n dX12_isKept_122 rfl ?_
                                refine z_ldc2 (v := 6385252) dX12_isKept_123 zj_X12_189 ?_
                                refine z_lcmp dX12_isKept_126 ?_
                                refine z_if_eq (tgt := 146) dX12_isKept_127 (by decide) (fun q3 => ?_) (fun q3 => ?_)
                                · have hv := hv.1 q3
                                  exact z_sub (by exact trivial) hv
                                · have hv := hv.2 q3
                                  refine z_lload_n dX12_isKept_130 rfl ?_
                                  refine z_ldc2 (v := 28530) dX12_isKept_131 zj_X12_191 ?_
                                  refine z_lcmp dX12_isKept_134 ?_
                                  refine z_if_eq (tgt := 146) dX12_isKept_135 (by decide) (fun q2 => ?_) (fun q2 => ?_)
                                  · have hv := hv.1 q2
                                    exact z_sub (by exact trivial) hv
                                  · have hv := hv.2 q2
                                    refine z_lload_n dX12_isKept_138 rfl ?_
                                    refine z_ldc2 (v := 7237492) dX12_isKept_139 zj_X12_193 ?_
                                    refine z_lcmp dX12_isKept_142 ?_
                                    refine z_if_ne (tgt := 150) dX12_isKept_143 (by decide) (fun q1 => ?_) (fun q1 => ?_)
                                    · have hv := hv.1 q1
                                      refine z_iconst (v := 0) dX12_isKept_150 (by decide) ?_
                                      exact z_sub (by exact trivial) hv
                                    · have hv := hv.2 q1
                                      exact z_sub (by exact trivial) hv
                  · have hv := hv.2 q10
                    exact hv
abbrev gw_X12_isSign (d : Nat) (Q : zQt) (pc : Nat) (lv : zV) (st : List Value) (I : zI) (L : zL) (P : zP) : Prop := zW zm_X12_isSign (zRm d 0 0) 0 0 Q pc lv st I L P 205 0 0
def v_X12_isSign (d : Nat) (Q : zQt) (p1 : Int32) (I : zI) (L : zL) (P : zP) : Prop :=
  ((p1 = 59 →
    Q (some (.int 1)) I L P 205
  ) ∧ (¬ p1 = 59 →
    ((p1 = 40 →
      Q (some (.int 1)) I L P 205
    ) ∧ (¬ p1 = 40 →
      ((p1 = 41 →
        Q (some (.int 1)) I L P 205
      ) ∧ (¬ p1 = 41 →
        ((p1 = 60 →
          Q (some (.int 1)) I L P 205
        ) ∧ (¬ p1 = 60 →
          ((p1 = 62 →
            Q (some (.int 1)) I L P 205
          ) ∧ (¬ p1 = 62 →
            ((p1 = 61 →
              Q (some (.int 1)) I L P 205
            ) ∧ (¬ p1 = 61 →
              ((p1 = 43 →
                Q (some (.int 1)) I L P 205
              ) ∧ (¬ p1 = 43 →
                ((p1 = 45 →
                  Q (some (.int 1)) I L P 205
                ) ∧ (¬ p1 = 45 →
                  ((p1 = 42 →
                    Q (some (.int 1)) I L P 205
                  ) ∧ (¬ p1 = 42 →
                    ((¬ p1 = 47 →
                      Q (some (.int 0)) I L P 205
                    ) ∧ (p1 = 47 →
                      Q (some (.int 1)) I L P 205
                    ))
                  ))
                ))
              ))
            ))
          ))
        ))
      ))
    ))
  ))
set_option maxRecDepth 20000 in
theorem g_X12_isSign {d : Nat} {Q : zQt} {p1 : Int32} {I : zI} {L : zL} {P : zP} (hP : zPk P) (hv : v_X12_isSign d Q p1 I L P) : zM zm_X12_isSign d 0 0 [.int p1] I L P 205 Q := by
  unfold v_X12_isSign at hv
  refine zM_of (lv0 := [some (.int p1)]) (by decide +kernel) (Nat.le_of_ble_eq_true rfl) rfl ?_
  refine z_iload_n dX12_isSign_0 rfl ?_
  refine z_bipush (v := 59) dX12_isSign_1 (by decide) ?_
  refine z_icmp_eq (tgt := 60) dX12_isSign_3 (by decide) (fun q10 => ?_) (fun q10 => ?_)
  · have hv := hv.1 q10
    refine z_iconst (v := 1) dX12_isSign_60 (by decide) ?_
    refine z_goto (tgt := 65) dX12_isSign_61 (by decide) ?_
    exact z_ireturn dX12_isSign_65 rfl (by decide) (Nat.le_refl _) (Nat.le_refl _) hv
  · have hv := hv.2 q10
    refine z_iload_n dX12_isSign_6 rfl ?_
    refine z_bipush (v := 40) dX12_isSign_7 (by decide) ?_
    refine z_icmp_eq (tgt := 60) dX12_isSign_9 (by decide) (fun q9 => ?_) (fun q9 => ?_)
    · have hv := hv.1 q9
      refine z_iconst (v := 1) dX12_isSign_60 (by decide) ?_
      refine z_goto (tgt := 65) dX12_isSign_61 (by decide) ?_
      exact z_ireturn dX12_isSign_65 rfl (by decide) (Nat.le_refl _) (Nat.le_refl _) hv
    · have hv := hv.2 q9
      refine z_iload_n dX12_isSign_12 rfl ?_
      refine z_bipush (v := 41) dX12_isSign_13 (by decide) ?_
      refine z_icmp_eq (tgt := 60) dX12_isSign_15 (by decide) (fun q8 => ?_) (fun q8 => ?_)
      · have hv := hv.1 q8
        refine z_iconst (v := 1) dX12_isSign_60 (by decide) ?_
        refine z_goto (tgt := 65) dX12_isSign_61 (by decide) ?_
        exact z_ireturn dX12_isSign_65 rfl (by decide) (Nat.le_refl _) (Nat.le_refl _) hv
      · have hv := hv.2 q8
        refine z_iload_n dX12_isSign_18 rfl ?_
        refine z_bipush (v := 60) dX12_isSign_19 (by decide) ?_
        refine z_icmp_eq (tgt := 60) dX12_isSign_21 (by decide) (fun q7 => ?_) (fun q7 => ?_)
        · have hv := hv.1 q7
          refine z_iconst (v := 1) dX12_isSign_60 (by decide) ?_
          refine z_goto (tgt := 65) dX12_isSign_61 (by decide) ?_
          exact z_ireturn dX12_isSign_65 rfl (by decide) (Nat.le_refl _) (Nat.le_refl _) hv
        · have hv := hv.2 q7
          refine z_iload_n dX12_isSign_24 rfl ?_
          refine z_bipush (v := 62) dX12_isSign_25 (by decide) ?_
          refine z_icmp_eq (tgt := 60) dX12_isSign_27 (by decide) (fun q6 => ?_) (fun q6 => ?_)
          · have hv := hv.1 q6
            refine z_iconst (v := 1) dX12_isSign_60 (by decide) ?_
            refine z_goto (tgt := 65) dX12_isSign_61 (by decide) ?_
            exact z_ireturn dX12_isSign_65 rfl (by decide) (Nat.le_refl _) (Nat.le_refl _) hv
          · have hv := hv.2 q6
            refine z_iload_n dX12_isSign_30 rfl ?_
            refine z_bipush (v := 61) dX12_isSign_31 (by decide) ?_
            refine z_icmp_eq (tgt := 60) dX12_isSign_33 (by decide) (fun q5 => ?_) (fun q5 => ?_)
            · have hv := hv.1 q5
              refine z_iconst (v := 1) dX12_isSign_60 (by decide) ?_
              refine z_goto (tgt := 65) dX12_isSign_61 (by decide) ?_
              exact z_ireturn dX12_isSign_65 rfl (by decide) (Nat.le_refl _) (Nat.le_refl _) hv
            · have hv := hv.2 q5
              refine z_iload_n dX12_isSign_36 rfl ?_
              refine z_bipush (v := 43) dX12_isSign_37 (by decide) ?_
              refine z_icmp_eq (tgt := 60) dX12_isSign_39 (by decide) (fun q4 => ?_) (fun q4 => ?_)
              · have hv := hv.1 q4
                refine z_iconst (v := 1) dX12_isSign_60 (by decide) ?_
                refine z_goto (tgt := 65) dX12_isSign_61 (by decide) ?_
                exact z_ireturn dX12_isSign_65 rfl (by decide) (Nat.le_refl _) (Nat.le_refl _) hv
              · have hv := hv.2 q4
                refine z_iload_n dX12_isSign_42 rfl ?_
                refine z_bipush (v := 45) dX12_isSign_43 (by decide) ?_
                refine z_icmp_eq (tgt := 60) dX12_isSign_45 (by decide) (fun q3 => ?_) (fun q3 => ?_)
                · have hv := hv.1 q3
                  refine z_iconst (v := 1) dX12_isSign_60 (by decide) ?_
                  refine z_goto (tgt := 65) dX12_isSign_61 (by decide) ?_
                  exact z_ireturn dX12_isSign_65 rfl (by decide) (Nat.le_refl _) (Nat.le_refl _) hv
                · have hv := hv.2 q3
                  refine z_iload_n dX12_isSign_48 rfl ?_
                  refine z_bipush (v := 42) dX12_isSign_49 (by decide) ?_
                  refine z_icmp_eq (tgt := 60) dX12_isSign_51 (by decide) (fun q2 => ?_) (fun q2 => ?_)
                  · have hv := hv.1 q2
                    refine z_iconst (v := 1) dX12_isSign_60 (by decide) ?_
                    refine z_goto (tgt := 65) dX12_isSign_61 (by decide) ?_
                    exact z_ireturn dX12_isSign_65 rfl (by decide) (Nat.le_refl _) (Nat.le_refl _) hv
                  · have hv := hv.2 q2
                    refine z_iload_n dX12_isSign_54 rfl ?_
                    refine z_bipush (v := 47) dX12_isSign_55 (by decide) ?_
                    refine z_icmp_ne (tgt := 64) dX12_isSign_57 (by decide) (fun q1 => ?_) (fun q1 => ?_)
                    · have hv := hv.1 q1
                      refine z_iconst (v := 0) dX12_isSign_64 (by decide) ?_
                      exact z_ireturn dX12_isSign_65 rfl (by decide) (Nat.le_refl _) (Nat.le_refl _) hv
                    · have hv := hv.2 q1
                      refine z_iconst (v := 1) dX12_isSign_60 (by decide) ?_
                      refine z_goto (tgt := 65) dX12_isSign_61 (by decide) ?_
                      exact z_ireturn dX12_isSign_65 rfl (by decide) (Nat.le_refl _) (Nat.le_refl _) hv
abbrev gw_X12_goOn (d : Nat) (Q : zQt) (pc : Nat) (lv : zV) (st : List Value) (I : zI) (L : zL) (P : zP) : Prop := zW zm_X12_goOn (zRm d 0 0) 0 0 Q pc lv st I L P 205 0 0
def v_X12_goOn_259 (d : Nat) (Q : zQt)  (I : zI) (L : zL) (P : zP) : Prop :=
  zMi zm_X12_sign d [.ref 160, .int (I 160 7)] I L P (fun r104 I100 L101 P102 =>
    zMi zm_X12_isDigit d [.int r104] I100 L101 P102 (fun r109 I105 L106 P107 =>
      ((r109 = 0 →
        ((4 < ((I105 160 7) - (I105 160 6)) →
          ∀ I110 : zI, I110 = zuI I105 160 8 1 →
          Q none I110 L106 P107 205
        ) ∧ (¬ 4 < ((I105 160 7) - (I105 160 6)) →
          zMi zm_X12_sign d [.ref 160, .int (I105 160 7)] I105 L106 P107 (fun r116 I112 L113 P114 =>
            zMi zm_X12_isLetter d [.int r116] I112 L113 P114 (fun r121 I117 L118 P119 =>
              ((r121 = 0 →
                ∀ I122 : zI, I122 = zuI I117 160 8 4 →
                Q none I122 L118 P119 205
              ) ∧ (¬ r121 = 0 →
                ∀ I124 : zI, I124 = zuI I117 160 8 1 →
                Q none I124 L118 P119 205
              ))
            )
          )
        ))
      ) ∧ (¬ r109 = 0 →
        ((4 ≤ ((I105 160 7) - (I105 160 6)) →
          ∀ I128 : zI, I128 = zuI I105 160 7 ((I105 160 7) + 1) →
          gw_X12_goOn (d + 1) Q 259 [some (.ref 160), none, none] [] I128 L106 P107
        ) ∧ (¬ 4 ≤ ((I105 160 7) - (I105 160 6)) →
          zMi zm_X12_sign d [.ref 160, .int (I105 160 7)] I105 L106 P107 (fun r134 I130 L131 P132 =>
            ∀ I135 : zI, I135 = zuI I130 160 9 ((((10 : Int32) * (I105 160 9)) + r134) - 48) →
            ∀ I137 : zI, I137 = zuI I135 160 7 ((I135 160 7) + 1) →
            gw_X12_goOn (d + 1) Q 259 [some (.ref 160), none, none] [] I137 L131 P132
          )
        ))
      ))
    )
  )
set_option maxRecDepth 20000 in
theorem g_X12_goOn_259 {d : Nat} {Q : zQt}  {I : zI} {L : zL} {P : zP} (hP : zPk P) (hv : v_X12_goOn_259 d Q  I L P) : gw_X12_goOn (d + 1) Q 259 [some (.ref 160), none, none] [] I L P := by
  unfold v_X12_goOn_259 at hv
  refine z_aload_n dX12_goOn_259 rfl ?_
  refine z_aload_n dX12_goOn_260 rfl ?_
  refine z_getI dX12_goOn_261 zf_X12_195 zn_160 zo_160 (fun _ _ _ _ _ => rfl) ?_
  refine z_callV (As := [.int (I 160 7)]) (st := []) dX12_goOn_264 zl_X12_201 zv_X12_sign (by decide) rfl zn_160 zo_160 rfl rfl (Nat.le_of_ble_eq_true rfl) ⟨Nat.le_refl _, Nat.le_refl _⟩ ⟨Nat.le_refl _, Nat.le_refl _⟩ hv (fun v1 I100 L101 P102 nx1 q103 => ?_)
  obtain ⟨rfl, r104, rfl, hv⟩ := q103
  refine z_callS (As := [.int r104]) (st := []) dX12_goOn_267 zl_X12_220 zs_X12_isDigit rfl rfl (Nat.le_of_ble_eq_true rfl) ⟨Nat.le_refl _, Nat.le_refl _⟩ ⟨Nat.le_refl _, Nat.le_refl _⟩ hv (fun v1 I105 L106 P107 nx1 q108 => ?_)
  obtain ⟨rfl, r109, rfl, hv⟩ := q108
  refine z_if_eq (tgt := 322) dX12_goOn_270 (by decide) (fun q140 => ?_) (fun q140 => ?_)
  · have hv := hv.1 q140
    refine z_aload_n dX12_goOn_322 rfl ?_
    refine z_aload_n dX12_goOn_323 rfl ?_
    refine z_getI dX12_goOn_324 zf_X12_195 zn_160 zo_160 (fun _ _ _ _ _ => rfl) ?_
    refine z_aload_n dX12_goOn_327 rfl ?_
    refine z_getI dX12_goOn_328 zf_X12_198 zn_160 zo_160 (fun _ _ _ _ _ => rfl) ?_
    refine z_isub dX12_goOn_331 ?_
    refine z_iconst (v := 4) dX12_goOn_332 (by decide) ?_
    refine z_icmp_gt (tgt := 350) dX12_goOn_333 (by decide) (fun q127 => ?_) (fun q127 => ?_)
    · have hv := hv.1 q127
      refine z_iconst (v := 1) dX12_goOn_350 (by decide) ?_
      refine z_goto (tgt := 355) dX12_goOn_351 (by decide) ?_
      refine z_putI dX12_goOn_355 zf_X12_205 zn_160 zo_160 (Or.inl rfl) (fun _ _ _ _ _ => rfl) rfl rfl (z_nmI (fun I110 e111 => ?_))
      have hv := hv I110 e111
      refine z_goto (tgt := 377) dX12_goOn_358 (by decide) ?_
      exact z_return dX12_goOn_377 rfl (Nat.le_refl _) (Nat.le_refl _) hv
    · have hv := hv.2 q127
      refine z_aload_n dX12_goOn_336 rfl ?_
      refine z_aload_n dX12_goOn_337 rfl ?_
      refine z_getI dX12_goOn_338 zf_X12_195 zn_160 zo_160 (fun _ _ _ _ _ => rfl) ?_
      refine z_callV (As := [.int (I105 160 7)]) (st := [.ref 160]) dX12_goOn_341 zl_X12_201 zv_X12_sign (by decide) rfl zn_160 zo_160 rfl rfl (Nat.le_of_ble_eq_true rfl) ⟨Nat.le_refl _, Nat.le_refl _⟩ ⟨Nat.le_refl _, Nat.le_refl _⟩ hv (fun v1 I112 L113 P114 nx1 q115 => ?_)
      obtain ⟨rfl, r116, rfl, hv⟩ := q115
      refine z_callS (As := [.int r116]) (st := [.ref 160]) dX12_goOn_344 zl_X12_208 zs_X12_isLetter rfl rfl (Nat.le_of_ble_eq_true rfl) ⟨Nat.le_refl _, Nat.le_refl _⟩ ⟨Nat.le_refl _, Nat.le_refl _⟩ hv (fun v1 I117 L118 P119 nx1 q120 => ?_)
      obtain ⟨rfl, r121, rfl, hv⟩ := q120
      refine z_if_eq (tgt := 354) dX12_goOn_347 (by decide) (fun q126 => ?_) (fun q126 => ?_)
      · have hv := hv.1 q126
        refine z_iconst (v := 4) dX12_goOn_354 (by decide) ?_
        refine z_putI dX12_goOn_355 zf_X12_205 zn_160 zo_160 (Or.inl rfl) (fun _ _ _ _ _ => rfl) rfl rfl (z_nmI (fun I122 e123 => ?_))
        have hv := hv I122 e123
        refine z_goto (tgt := 377) dX12_goOn_358 (by decide) ?_
        exact z_return dX12_goOn_377 rfl (Nat.le_refl _) (Nat.le_refl _) hv
      · have hv := hv.2 q126
        refine z_iconst (v := 1) dX12_goOn_350 (by decide) ?_
        refine z_goto (tgt := 355) dX12_goOn_351 (by decide) ?_
        refine z_putI dX12_goOn_355 zf_X12_205 zn_160 zo_160 (Or.inl rfl) (fun _ _ _ _ _ => rfl) rfl rfl (z_nmI (fun I124 e125 => ?_))
        have hv := hv I124 e125
        refine z_goto (tgt := 377) dX12_goOn_358 (by decide) ?_
        exact z_return dX12_goOn_377 rfl (Nat.le_refl _) (Nat.le_refl _) hv
  · have hv := hv.2 q140
    refine z_aload_n dX12_goOn_273 rfl ?_
    refine z_getI dX12_goOn_274 zf_X12_195 zn_160 zo_160 (fun _ _ _ _ _ => rfl) ?_
    refine z_aload_n dX12_goOn_277 rfl ?_
    refine z_getI dX12_goOn_278 zf_X12_198 zn_160 zo_160 (fun _ _ _ _ _ => rfl) ?_
    refine z_isub dX12_goOn_281 ?_
    refine z_iconst (v := 4) dX12_goOn_282 (by decide) ?_
    refine z_icmp_ge (tgt := 309) dX12_goOn_283 (by decide) (fun q139 => ?_) (fun q139 => ?_)
    · have hv := hv.1 q139
      refine z_aload_n dX12_goOn_309 rfl ?_
      refine z_dup dX12_goOn_310 rfl ?_
      refine z_getI dX12_goOn_311 zf_X12_195 zn_160 zo_160 (fun _ _ _ _ _ => rfl) ?_
      refine z_iconst (v := 1) dX12_goOn_314 (by decide) ?_
      refine z_iadd dX12_goOn_315 ?_
      refine z_putI dX12_goOn_316 zf_X12_195 zn_160 zo_160 (Or.inl rfl) (fun _ _ _ _ _ => rfl) rfl rfl (z_nmI (fun I128 e129 => ?_))
      have hv := hv I128 e129
      refine z_goto (tgt := 259) dX12_goOn_319 (by decide) ?_
      exact hv
    · have hv := hv.2 q139
      refine z_aload_n dX12_goOn_286 rfl ?_
      refine z_bipush (v := 10) dX12_goOn_287 (by decide) ?_
      refine z_aload_n dX12_goOn_289 rfl ?_
      refine z_getI dX12_goOn_290 zf_X12_223 zn_160 zo_160 (fun _ _ _ _ _ => rfl) ?_
      refine z_imul dX12_goOn_293 ?_
      refine z_aload_n dX12_goOn_294 rfl ?_
      refine z_aload_n dX12_goOn_295 rfl ?_
      refine z_getI dX12_goOn_296 zf_X12_195 zn_160 zo_160 (fun _ _ _ _ _ => rfl) ?_
      refine z_callV (As := [.int (I105 160 7)]) (st := [.int ((10 : Int32) * (I105 160 9)), .ref 160]) dX12_goOn_299 zl_X12_201 zv_X12_sign (by decide) rfl zn_160 zo_160 rfl rfl (Nat.le_of_ble_eq_true rfl) ⟨Nat.le_refl _, Nat.le_refl _⟩ ⟨Nat.le_refl _, Nat.le_refl _⟩ hv (fun v1 I130 L131 P132 nx1 q133 => ?_)
      obtain ⟨rfl, r134, rfl, hv⟩ := q133
      refine z_iadd dX12_goOn_302 ?_
      refine z_bipush (v := 48) dX12_goOn_303 (by decide) ?_
      refine z_isub dX12_goOn_305 ?_
      refine z_putI dX12_goOn_306 zf_X12_223 zn_160 zo_160 (Or.inl rfl) (fun _ _ _ _ _ => rfl) rfl rfl (z_nmI (fun I135 e136 => ?_))
      have hv := hv I135 e136
      refine z_aload_n dX12_goOn_309 rfl ?_
      refine z_dup dX12_goOn_310 rfl ?_
      refine z_getI dX12_goOn_311 zf_X12_195 zn_160 zo_160 (fun _ _ _ _ _ => rfl) ?_
      refine z_iconst (v := 1) dX12_goOn_314 (by decide) ?_
      refine z_iadd dX12_goOn_315 ?_
      refine z_putI dX12_goOn_316 zf_X12_195 zn_160 zo_160 (Or.inl rfl) (fun _ _ _ _ _ => rfl) rfl rfl (z_nmI (fun I137 e138 => ?_))
      have hv := hv I137 e138
      refine z_goto (tgt := 259) dX12_goOn_319 (by decide) ?_
      exact hv
def v_X12_goOn_156 (d : Nat) (Q : zQt) (x2 : Int32) (I : zI) (L : zL) (P : zP) : Prop :=
  (((I 160 7) ≤ x2 →
    ((((I 160 7) - (I 160 6)) ≤ 8 →
      zMi zm_X12_isKept d [.long (L 160 10)] I L P (fun r160 I156 L157 P158 =>
        ((r160 = 0 →
          ∀ I161 : zI, I161 = zuI I156 160 8 2 →
          Q none I161 L157 P158 205
        ) ∧ (¬ r160 = 0 →
          ∀ I163 : zI, I163 = zuI I156 160 8 3 →
          Q none I163 L157 P158 205
        ))
      )
    ) ∧ (¬ ((I 160 7) - (I 160 6)) ≤ 8 →
      ∀ I166 : zI, I166 = zuI I 160 8 1 →
      Q none I166 L P 205
    ))
  ) ∧ (¬ (I 160 7) ≤ x2 →
    ((((I 160 6) + 8) ≤ x2 →
      ((((I 160 7) - (I 160 6)) ≤ 8 →
        zMi zm_X12_isKept d [.long (L 160 10)] I L P (fun r173 I169 L170 P171 =>
          ((r173 = 0 →
            ∀ I174 : zI, I174 = zuI I169 160 8 2 →
            Q none I174 L170 P171 205
          ) ∧ (¬ r173 = 0 →
            ∀ I176 : zI, I176 = zuI I169 160 8 3 →
            Q none I176 L170 P171 205
          ))
        )
      ) ∧ (¬ ((I 160 7) - (I 160 6)) ≤ 8 →
        ∀ I179 : zI, I179 = zuI I 160 8 1 →
        Q none I179 L P 205
      ))
    ) ∧ (¬ ((I 160 6) + 8) ≤ x2 →
      zMi zm_X12_sign d [.ref 160, .int x2] I L P (fun r186 I182 L183 P184 =>
        ∀ L187 : zL, L187 = zuL L183 160 10 ((((L 160 10) : Int64) <<< ((8 : Int32).toInt64 &&& 63) : Int64) ||| ((r186 : Int32).toInt64) : Int64) →
        gw_X12_goOn (d + 1) Q 156 [some (.ref 160), none, some (.int (x2 + 1))] [] I182 L187 P184
      )
    ))
  ))
set_option maxRecDepth 20000 in
theorem g_X12_goOn_156 {d : Nat} {Q : zQt} {x2 : Int32} {I : zI} {L : zL} {P : zP} (hP : zPk P) (hv : v_X12_goOn_156 d Q x2 I L P) : gw_X12_goOn (d + 1) Q 156 [some (.ref 160), none, some (.int x2)] [] I L P := by
  unfold v_X12_goOn_156 at hv
  refine z_iload_n dX12_goOn_156 rfl ?_
  refine z_aload_n dX12_goOn_157 rfl ?_
  refine z_getI dX12_goOn_158 zf_X12_195 zn_160 zo_160 (fun _ _ _ _ _ => rfl) ?_
  refine z_icmp_ge (tgt := 199) dX12_goOn_161 (by decide) (fun q190 => ?_) (fun q190 => ?_)
  · have hv := hv.1 q190
    refine z_aload_n dX12_goOn_199 rfl ?_
    refine z_aload_n dX12_goOn_200 rfl ?_
    refine z_getI dX12_goOn_201 zf_X12_195 zn_160 zo_160 (fun _ _ _ _ _ => rfl) ?_
    refine z_aload_n dX12_goOn_204 rfl ?_
    refine z_getI dX12_goOn_205 zf_X12_198 zn_160 zo_160 (fun _ _ _ _ _ => rfl) ?_
    refine z_isub dX12_goOn_208 ?_
    refine z_bipush (v := 8) dX12_goOn_209 (by decide) ?_
    refine z_icmp_le (tgt := 218) dX12_goOn_211 (by decide) (fun q168 => ?_) (fun q168 => ?_)
    · have hv := hv.1 q168
      refine z_aload_n dX12_goOn_218 rfl ?_
      refine z_getL dX12_goOn_219 zf_X12_212 zn_160 zo_160 (fun _ _ _ _ _ => rfl) ?_
      refine z_callS (As := [.long (L 160 10)]) (st := [.ref 160]) dX12_goOn_222 zl_X12_216 zs_X12_isKept rfl rfl (Nat.le_of_ble_eq_true rfl) ⟨Nat.le_refl _, Nat.le_refl _⟩ ⟨Nat.le_refl _, Nat.le_refl _⟩ hv (fun v1 I156 L157 P158 nx1 q159 => ?_)
      obtain ⟨rfl, r160, rfl, hv⟩ := q159
      refine z_if_eq (tgt := 232) dX12_goOn_225 (by decide) (fun q165 => ?_) (fun q165 => ?_)
      · have hv := hv.1 q165
        refine z_iconst (v := 2) dX12_goOn_232 (by decide) ?_
        refine z_putI dX12_goOn_233 zf_X12_205 zn_160 zo_160 (Or.inl rfl) (fun _ _ _ _ _ => rfl) rfl rfl (z_nmI (fun I161 e162 => ?_))
        have hv := hv I161 e162
        refine z_goto (tgt := 377) dX12_goOn_236 (by decide) ?_
        exact z_return dX12_goOn_377 rfl (Nat.le_refl _) (Nat.le_refl _) hv
      · have hv := hv.2 q165
        refine z_iconst (v := 3) dX12_goOn_228 (by decide) ?_
        refine z_goto (tgt := 233) dX12_goOn_229 (by decide) ?_
        refine z_putI dX12_goOn_233 zf_X12_205 zn_160 zo_160 (Or.inl rfl) (fun _ _ _ _ _ => rfl) rfl rfl (z_nmI (fun I163 e164 => ?_))
        have hv := hv I163 e164
        refine z_goto (tgt := 377) dX12_goOn_236 (by decide) ?_
        exact z_return dX12_goOn_377 rfl (Nat.le_refl _) (Nat.le_refl _) hv
    · have hv := hv.2 q168
      refine z_iconst (v := 1) dX12_goOn_214 (by decide) ?_
      refine z_goto (tgt := 233) dX12_goOn_215 (by decide) ?_
      refine z_putI dX12_goOn_233 zf_X12_205 zn_160 zo_160 (Or.inl rfl) (fun _ _ _ _ _ => rfl) rfl rfl (z_nmI (fun I166 e167 => ?_))
      have hv := hv I166 e167
      refine z_goto (tgt := 377) dX12_goOn_236 (by decide) ?_
      exact z_return dX12_goOn_377 rfl (Nat.le_refl _) (Nat.le_refl _) hv
  · have hv := hv.2 q190
    refine z_iload_n dX12_goOn_164 rfl ?_
    refine z_aload_n dX12_goOn_165 rfl ?_
    refine z_getI dX12_goOn_166 zf_X12_198 zn_160 zo_160 (fun _ _ _ _ _ => rfl) ?_
    refine z_bipush (v := 8) dX12_goOn_169 (by decide) ?_
    refine z_iadd dX12_goOn_171 ?_
    refine z_icmp_ge (tgt := 199) dX12_goOn_172 (by decide) (fun q189 => ?_) (fun q189 => ?_)
    · have hv := hv.1 q189
      refine z_aload_n dX12_goOn_199 rfl ?_
      refine z_aload_n dX12_goOn_200 rfl ?_
      refine z_getI dX12_goOn_201 zf_X12_195 zn_160 zo_160 (fun _ _ _ _ _ => rfl) ?_
      refine z_aload_n dX12_goOn_204 rfl ?_
      refine z_getI dX12_goOn_205 zf_X12_198 zn_160 zo_160 (fun _ _ _ _ _ => rfl) ?_
      refine z_isub dX12_goOn_208 ?_
      refine z_bipush (v := 8) dX12_goOn_209 (by decide) ?_
      refine z_icmp_le (tgt := 218) dX12_goOn_211 (by decide) (fun q181 => ?_) (fun q181 => ?_)
      · have hv := hv.1 q181
        refine z_aload_n dX12_goOn_218 rfl ?_
        refine z_getL dX12_goOn_219 zf_X12_212 zn_160 zo_160 (fun _ _ _ _ _ => rfl) ?_
        refine z_callS (As := [.long (L 160 10)]) (st := [.ref 160]) dX12_goOn_222 zl_X12_216 zs_X12_isKept rfl rfl (Nat.le_of_ble_eq_true rfl) ⟨Nat.le_refl _, Nat.le_refl _⟩ ⟨Nat.le_refl _, Nat.le_refl _⟩ hv (fun v1 I169 L170 P171 nx1 q172 => ?_)
        obtain ⟨rfl, r173, rfl, hv⟩ := q172
        refine z_if_eq (tgt := 232) dX12_goOn_225 (by decide) (fun q178 => ?_) (fun q178 => ?_)
        · have hv := hv.1 q178
          refine z_iconst (v := 2) dX12_goOn_232 (by decide) ?_
          refine z_putI dX12_goOn_233 zf_X12_205 zn_160 zo_160 (Or.inl rfl) (fun _ _ _ _ _ => rfl) rfl rfl (z_nmI (fun I174 e175 => ?_))
          have hv := hv I174 e175
          refine z_goto (tgt := 377) dX12_goOn_236 (by decide) ?_
          exact z_return dX12_goOn_377 rfl (Nat.le_refl _) (Nat.le_refl _) hv
        · have hv := hv.2 q178
          refine z_iconst (v := 3) dX12_goOn_228 (by decide) ?_
          refine z_goto (tgt := 233) dX12_goOn_229 (by decide) ?_
          refine z_putI dX12_goOn_233 zf_X12_205 zn_160 zo_160 (Or.inl rfl) (fun _ _ _ _ _ => rfl) rfl rfl (z_nmI (fun I176 e177 => ?_))
          have hv := hv I176 e177
          refine z_goto (tgt := 377) dX12_goOn_236 (by decide) ?_
          exact z_return dX12_goOn_377 rfl (Nat.le_refl _) (Nat.le_refl _) hv
      · have hv := hv.2 q181
        refine z_iconst (v := 1) dX12_goOn_214 (by decide) ?_
        refine z_goto (tgt := 233) dX12_goOn_215 (by decide) ?_
        refine z_putI dX12_goOn_233 zf_X12_205 zn_160 zo_160 (Or.inl rfl) (fun _ _ _ _ _ => rfl) rfl rfl (z_nmI (fun I179 e180 => ?_))
        have hv := hv I179 e180
        refine z_goto (tgt := 377) dX12_goOn_236 (by decide) ?_
        exact z_return dX12_goOn_377 rfl (Nat.le_refl _) (Nat.le_refl _) hv
    · have hv := hv.2 q189
      refine z_aload_n dX12_goOn_175 rfl ?_
      refine z_aload_n dX12_goOn_176 rfl ?_
      refine z_getL dX12_goOn_177 zf_X12_212 zn_160 zo_160 (fun _ _ _ _ _ => rfl) ?_
      refine z_bipush (v := 8) dX12_goOn_180 (by decide) ?_
      refine z_lshl dX12_goOn_182 ?_
      refine z_aload_n dX12_goOn_183 rfl ?_
      refine z_iload_n dX12_goOn_184 rfl ?_
      refine z_callV (As := [.int x2]) (st := [.long (((L 160 10) : Int64) <<< ((8 : Int32).toInt64 &&& 63) : Int64), .ref 160]) dX12_goOn_185 zl_X12_201 zv_X12_sign (by decide) rfl zn_160 zo_160 rfl rfl (Nat.le_of_ble_eq_true rfl) ⟨Nat.le_refl _, Nat.le_refl _⟩ ⟨Nat.le_refl _, Nat.le_refl _⟩ hv (fun v1 I182 L183 P184 nx1 q185 => ?_)
      obtain ⟨rfl, r186, rfl, hv⟩ := q185
      refine z_i2l dX12_goOn_188 ?_
      refine z_lor dX12_goOn_189 ?_
      refine z_putL dX12_goOn_190 zf_X12_212 zn_160 zo_160 (Or.inl rfl) (fun _ _ _ _ _ => rfl) rfl rfl (z_nmL (fun L187 e188 => ?_))
      have hv := hv L187 e188
      refine z_iinc (v2 := x2 + 1) (lv2 := [some (.ref 160), none, some (.int (x2 + 1))]) dX12_goOn_193 rfl (by rfl) (by decide) rfl rfl ?_
      refine z_goto (tgt := 156) dX12_goOn_196 (by decide) ?_
      exact hv
def v_X12_goOn_119 (d : Nat) (Q : zQt)  (I : zI) (L : zL) (P : zP) : Prop :=
  zMi zm_X12_sign d [.ref 160, .int (I 160 7)] I L P (fun r145 I141 L142 P143 =>
    zMi zm_X12_isLetter d [.int r145] I141 L142 P143 (fun r150 I146 L147 P148 =>
      ((r150 = 0 →
        ∀ L151 : zL, L151 = zuL L147 160 10 0 →
        gw_X12_goOn (d + 1) Q 156 [some (.ref 160), none, some (.int (I146 160 6))] [] I146 L151 P148
      ) ∧ (¬ r150 = 0 →
        ∀ I153 : zI, I153 = zuI I146 160 7 ((I146 160 7) + 1) →
        gw_X12_goOn (d + 1) Q 119 [some (.ref 160), none, none] [] I153 L147 P148
      ))
    )
  )
set_option maxRecDepth 20000 in
theorem g_X12_goOn_119 {d : Nat} {Q : zQt}  {I : zI} {L : zL} {P : zP} (hP : zPk P) (hv : v_X12_goOn_119 d Q  I L P) : gw_X12_goOn (d + 1) Q 119 [some (.ref 160), none, none] [] I L P := by
  unfold v_X12_goOn_119 at hv
  refine z_aload_n dX12_goOn_119 rfl ?_
  refine z_aload_n dX12_goOn_120 rfl ?_
  refine z_getI dX12_goOn_121 zf_X12_195 zn_160 zo_160 (fun _ _ _ _ _ => rfl) ?_
  refine z_callV (As := [.int (I 160 7)]) (st := []) dX12_goOn_124 zl_X12_201 zv_X12_sign (by decide) rfl zn_160 zo_160 rfl rfl (Nat.le_of_ble_eq_true rfl) ⟨Nat.le_refl _, Nat.le_refl _⟩ ⟨Nat.le_refl _, Nat.le_refl _⟩ hv (fun v1 I141 L142 P143 nx1 q144 => ?_)
  obtain ⟨rfl, r145, rfl, hv⟩ := q144
  refine z_callS (As := [.int r145]) (st := []) dX12_goOn_127 zl_X12_208 zs_X12_isLetter rfl rfl (Nat.le_of_ble_eq_true rfl) ⟨Nat.le_refl _, Nat.le_refl _⟩ ⟨Nat.le_refl _, Nat.le_refl _⟩ hv (fun v1 I146 L147 P148 nx1 q149 => ?_)
  obtain ⟨rfl, r150, rfl, hv⟩ := q149
  refine z_if_eq (tgt := 146) dX12_goOn_130 (by decide) (fun q155 => ?_) (fun q155 => ?_)
  · have hv := hv.1 q155
    refine z_aload_n dX12_goOn_146 rfl ?_
    refine z_lconst (v := 0) dX12_goOn_147 (by decide) ?_
    refine z_putL dX12_goOn_148 zf_X12_212 zn_160 zo_160 (Or.inl rfl) (fun _ _ _ _ _ => rfl) rfl rfl (z_nmL (fun L151 e152 => ?_))
    have hv := hv L151 e152
    refine z_aload_n dX12_goOn_151 rfl ?_
    refine z_getI dX12_goOn_152 zf_X12_198 zn_160 zo_160 (fun _ _ _ _ _ => rfl) ?_
    refine z_istore_n (lv2 := [some (.ref 160), none, some (.int (I146 160 6))]) dX12_goOn_155 (by decide) rfl rfl ?_
    exact hv
  · have hv := hv.2 q155
    refine z_aload_n dX12_goOn_133 rfl ?_
    refine z_dup dX12_goOn_134 rfl ?_
    refine z_getI dX12_goOn_135 zf_X12_195 zn_160 zo_160 (fun _ _ _ _ _ => rfl) ?_
    refine z_iconst (v := 1) dX12_goOn_138 (by decide) ?_
    refine z_iadd dX12_goOn_139 ?_
    refine z_putI dX12_goOn_140 zf_X12_195 zn_160 zo_160 (Or.inl rfl) (fun _ _ _ _ _ => rfl) rfl rfl (z_nmI (fun I153 e154 => ?_))
    have hv := hv I153 e154
    refine z_goto (tgt := 119) dX12_goOn_143 (by decide) ?_
    exact hv
def v_X12_goOn_8 (d : Nat) (Q : zQt)  (I : zI) (L : zL) (P : zP) : Prop :=
  (((I 160 3) ≤ (I 160 6) →
    zMi zm_X12_sign d [.ref 160, .int (I 160 6)] I L P (fun r7 I3 L4 P5 =>
      ∀ I8 : zI, I8 = zuI I3 160 7 ((I3 160 6) + 1) →
      (((I8 160 6) < (I8 160 3) →
        zMi zm_X12_isLetter d [.int r7] I8 L4 P5 (fun r14 I10 L11 P12 =>
          ((r14 = 0 →
            zMi zm_X12_isDigit d [.int r7] I10 L11 P12 (fun r19 I15 L16 P17 =>
              ((r19 = 0 →
                zMi zm_X12_isSign d [.int r7] I15 L16 P17 (fun r24 I20 L21 P22 =>
                  ((r24 = 0 →
                    ∀ I25 : zI, I25 = zuI I20 160 8 1 →
                    Q none I25 L21 P22 205
                  ) ∧ (¬ r24 = 0 →
                    ∀ I27 : zI, I27 = zuI I20 160 8 5 →
                    Q none I27 L21 P22 205
                  ))
                )
              ) ∧ (¬ r19 = 0 →
                ∀ I30 : zI, I30 = zuI I15 160 9 0 →
                ∀ I32 : zI, I32 = zuI I30 160 7 (I30 160 6) →
                gw_X12_goOn (d + 1) Q 259 [some (.ref 160), none, none] [] I32 L16 P17
              ))
            )
          ) ∧ (¬ r14 = 0 →
            gw_X12_goOn (d + 1) Q 119 [some (.ref 160), none, none] [] I10 L11 P12
          ))
        )
      ) ∧ (¬ (I8 160 6) < (I8 160 3) →
        ∀ I36 : zI, I36 = zuI I8 160 8 0 →
        ∀ I38 : zI, I38 = zuI I36 160 6 (I36 160 3) →
        ∀ I40 : zI, I40 = zuI I38 160 7 (I38 160 3) →
        Q none I40 L4 P5 205
      ))
    )
  ) ∧ (¬ (I 160 3) ≤ (I 160 6) →
    zMi zm_X12_sign d [.ref 160, .int (I 160 6)] I L P (fun r47 I43 L44 P45 =>
      ((r47 = 32 →
        ∀ I48 : zI, I48 = zuI I43 160 6 ((I43 160 6) + 1) →
        gw_X12_goOn (d + 1) Q 8 [some (.ref 160), none, none] [] I48 L44 P45
      ) ∧ (¬ r47 = 32 →
        zMi zm_X12_sign d [.ref 160, .int (I43 160 6)] I43 L44 P45 (fun r54 I50 L51 P52 =>
          ((¬ r54 = 10 →
            zMi zm_X12_sign d [.ref 160, .int (I50 160 6)] I50 L51 P52 (fun r59 I55 L56 P57 =>
              ∀ I60 : zI, I60 = zuI I55 160 7 ((I55 160 6) + 1) →
              (((I60 160 6) < (I60 160 3) →
                zMi zm_X12_isLetter d [.int r59] I60 L56 P57 (fun r66 I62 L63 P64 =>
                  ((r66 = 0 →
                    zMi zm_X12_isDigit d [.int r59] I62 L63 P64 (fun r71 I67 L68 P69 =>
                      ((r71 = 0 →
                        zMi zm_X12_isSign d [.int r59] I67 L68 P69 (fun r76 I72 L73 P74 =>
                          ((r76 = 0 →
                            ∀ I77 : zI, I77 = zuI I72 160 8 1 →
                            Q none I77 L73 P74 205
                          ) ∧ (¬ r76 = 0 →
                            ∀ I79 : zI, I79 = zuI I72 160 8 5 →
                            Q none I79 L73 P74 205
                          ))
                        )
                      ) ∧ (¬ r71 = 0 →
                        ∀ I82 : zI, I82 = zuI I67 160 9 0 →
                        ∀ I84 : zI, I84 = zuI I82 160 7 (I82 160 6) →
                        gw_X12_goOn (d + 1) Q 259 [some (.ref 160), none, none] [] I84 L68 P69
                      ))
                    )
                  ) ∧ (¬ r66 = 0 →
                    gw_X12_goOn (d + 1) Q 119 [some (.ref 160), none, none] [] I62 L63 P64
                  ))
                )
              ) ∧ (¬ (I60 160 6) < (I60 160 3) →
                ∀ I88 : zI, I88 = zuI I60 160 8 0 →
                ∀ I90 : zI, I90 = zuI I88 160 6 (I88 160 3) →
                ∀ I92 : zI, I92 = zuI I90 160 7 (I90 160 3) →
                Q none I92 L56 P57 205
              ))
            )
          ) ∧ (r54 = 10 →
            ∀ I95 : zI, I95 = zuI I50 160 6 ((I50 160 6) + 1) →
            gw_X12_goOn (d + 1) Q 8 [some (.ref 160), none, none] [] I95 L51 P52
          ))
        )
      ))
    )
  ))
set_option maxRecDepth 20000 in
theorem g_X12_goOn_8 {d : Nat} {Q : zQt}  {I : zI} {L : zL} {P : zP} (hP : zPk P) (hv : v_X12_goOn_8 d Q  I L P) : gw_X12_goOn (d + 1) Q 8 [some (.ref 160), none, none] [] I L P := by
  unfold v_X12_goOn_8 at hv
  refine z_aload_n dX12_goOn_8 rfl ?_
  refine z_getI dX12_goOn_9 zf_X12_198 zn_160 zo_160 (fun _ _ _ _ _ => rfl) ?_
  refine z_aload_n dX12_goOn_12 rfl ?_
  refine z_getI dX12_goOn_13 zf_X12_155 zn_160 zo_160 (fun _ _ _ _ _ => rfl) ?_
  refine z_icmp_ge (tgt := 58) dX12_goOn_16 (by decide) (fun q99 => ?_) (fun q99 => ?_)
  · have hv := hv.1 q99
    refine z_aload_n dX12_goOn_58 rfl ?_
    refine z_aload_n dX12_goOn_59 rfl ?_
    refine z_getI dX12_goOn_60 zf_X12_198 zn_160 zo_160 (fun _ _ _ _ _ => rfl) ?_
    refine z_callV (As := [.int (I 160 6)]) (st := []) dX12_goOn_63 zl_X12_201 zv_X12_sign (by decide) rfl zn_160 zo_160 rfl rfl (Nat.le_of_ble_eq_true rfl) ⟨Nat.le_refl _, Nat.le_refl _⟩ ⟨Nat.le_refl _, Nat.le_refl _⟩ hv (fun v1 I3 L4 P5 nx1 q6 => ?_)
    obtain ⟨rfl, r7, rfl, hv⟩ := q6
    refine z_istore_n (lv2 := [some (.ref 160), some (.int r7), none]) dX12_goOn_66 (by decide) rfl rfl ?_
    refine z_aload_n dX12_goOn_67 rfl ?_
    refine z_aload_n dX12_goOn_68 rfl ?_
    refine z_getI dX12_goOn_69 zf_X12_198 zn_160 zo_160 (fun _ _ _ _ _ => rfl) ?_
    refine z_iconst (v := 1) dX12_goOn_72 (by decide) ?_
    refine z_iadd dX12_goOn_73 ?_
    refine z_putI dX12_goOn_74 zf_X12_195 zn_160 zo_160 (Or.inl rfl) (fun _ _ _ _ _ => rfl) rfl rfl (z_nmI (fun I8 e9 => ?_))
    have hv := hv I8 e9
    refine z_aload_n dX12_goOn_77 rfl ?_
    refine z_getI dX12_goOn_78 zf_X12_198 zn_160 zo_160 (fun _ _ _ _ _ => rfl) ?_
    refine z_aload_n dX12_goOn_81 rfl ?_
    refine z_getI dX12_goOn_82 zf_X12_155 zn_160 zo_160 (fun _ _ _ _ _ => rfl) ?_
    refine z_icmp_lt (tgt := 112) dX12_goOn_85 (by decide) (fun q42 => ?_) (fun q42 => ?_)
    · have hv := hv.1 q42
      refine z_iload_n dX12_goOn_112 rfl ?_
      refine z_callS (As := [.int r7]) (st := []) dX12_goOn_113 zl_X12_208 zs_X12_isLetter rfl rfl (Nat.le_of_ble_eq_true rfl) ⟨Nat.le_refl _, Nat.le_refl _⟩ ⟨Nat.le_refl _, Nat.le_refl _⟩ hv (fun v1 I10 L11 P12 nx1 q13 => ?_)
      obtain ⟨rfl, r14, rfl, hv⟩ := q13
      refine z_if_eq (tgt := 239) dX12_goOn_116 (by decide) (fun q35 => ?_) (fun q35 => ?_)
      · have hv := hv.1 q35
        refine z_iload_n dX12_goOn_239 rfl ?_
        refine z_callS (As := [.int r7]) (st := []) dX12_goOn_240 zl_X12_220 zs_X12_isDigit rfl rfl (Nat.le_of_ble_eq_true rfl) ⟨Nat.le_refl _, Nat.le_refl _⟩ ⟨Nat.le_refl _, Nat.le_refl _⟩ hv (fun v1 I15 L16 P17 nx1 q18 => ?_)
        obtain ⟨rfl, r19, rfl, hv⟩ := q18
        refine z_if_eq (tgt := 361) dX12_goOn_243 (by decide) (fun q34 => ?_) (fun q34 => ?_)
        · have hv := hv.1 q34
          refine z_aload_n dX12_goOn_361 rfl ?_
          refine z_iload_n dX12_goOn_362 rfl ?_
          refine z_callS (As := [.int r7]) (st := [.ref 160]) dX12_goOn_363 zl_X12_226 zs_X12_isSign rfl rfl (Nat.le_of_ble_eq_true rfl) ⟨Nat.le_refl _, Nat.le_refl _⟩ ⟨Nat.le_refl _, Nat.le_refl _⟩ hv (fun v1 I20 L21 P22 nx1 q23 => ?_)
          obtain ⟨rfl, r24, rfl, hv⟩ := q23
          refine z_if_eq (tgt := 373) dX12_goOn_366 (by decide) (fun q29 => ?_) (fun q29 => ?_)
          · have hv := hv.1 q29
            refine z_iconst (v := 1) dX12_goOn_373 (by decide) ?_
            refine z_putI dX12_goOn_374 zf_X12_205 zn_160 zo_160 (Or.inl rfl) (fun _ _ _ _ _ => rfl) rfl rfl (z_nmI (fun I25 e26 => ?_))
            have hv := hv I25 e26
            exact z_return dX12_goOn_377 rfl (Nat.le_refl _) (Nat.le_refl _) hv
          · have hv := hv.2 q29
            refine z_iconst (v := 5) dX12_goOn_369 (by decide) ?_
            refine z_goto (tgt := 374) dX12_goOn_370 (by decide) ?_
            refine z_putI dX12_goOn_374 zf_X12_205 zn_160 zo_160 (Or.inl rfl) (fun _ _ _ _ _ => rfl) rfl rfl (z_nmI (fun I27 e28 => ?_))
            have hv := hv I27 e28
            exact z_return dX12_goOn_377 rfl (Nat.le_refl _) (Nat.le_refl _) hv
        · have hv := hv.2 q34
          refine z_aload_n dX12_goOn_246 rfl ?_
          refine z_iconst (v := 0) dX12_goOn_247 (by decide) ?_
          refine z_putI dX12_goOn_248 zf_X12_223 zn_160 zo_160 (Or.inl rfl) (fun _ _ _ _ _ => rfl) rfl rfl (z_nmI (fun I30 e31 => ?_))
          have hv := hv I30 e31
          refine z_aload_n dX12_goOn_251 rfl ?_
          refine z_aload_n dX12_goOn_252 rfl ?_
          refine z_getI dX12_goOn_253 zf_X12_198 zn_160 zo_160 (fun _ _ _ _ _ => rfl) ?_
          refine z_putI dX12_goOn_256 zf_X12_195 zn_160 zo_160 (Or.inl rfl) (fun _ _ _ _ _ => rfl) rfl rfl (z_nmI (fun I32 e33 => ?_))
          have hv := hv I32 e33
          exact z_sub (by exact ⟨rfl, trivial⟩) hv
      · have hv := hv.2 q35
        exact z_sub (by exact ⟨rfl, trivial⟩) hv
    · have hv := hv.2 q42
      refine z_aload_n dX12_goOn_88 rfl ?_
      refine z_iconst (v := 0) dX12_goOn_89 (by decide) ?_
      refine z_putI dX12_goOn_90 zf_X12_205 zn_160 zo_160 (Or.inl rfl) (fun _ _ _ _ _ => rfl) rfl rfl (z_nmI (fun I36 e37 => ?_))
      have hv := hv I36 e37
      refine z_aload_n dX12_goOn_93 rfl ?_
      refine z_aload_n dX12_goOn_94 rfl ?_
      refine z_getI dX12_goOn_95 zf_X12_155 zn_160 zo_160 (fun _ _ _ _ _ => rfl) ?_
      refine z_putI dX12_goOn_98 zf_X12_198 zn_160 zo_160 (Or.inl rfl) (fun _ _ _ _ _ => rfl) rfl rfl (z_nmI (fun I38 e39 => ?_))
      have hv := hv I38 e39
      refine z_aload_n dX12_goOn_101 rfl ?_
      refine z_aload_n dX12_goOn_102 rfl ?_
      refine z_getI dX12_goOn_103 zf_X12_155 zn_160 zo_160 (fun _ _ _ _ _ => rfl) ?_
      refine z_putI dX12_goOn_106 zf_X12_195 zn_160 zo_160 (Or.inl rfl) (fun _ _ _ _ _ => rfl) rfl rfl (z_nmI (fun I40 e41 => ?_))
      have hv := hv I40 e41
      refine z_goto (tgt := 377) dX12_goOn_109 (by decide) ?_
      exact z_return dX12_goOn_377 rfl (Nat.le_refl _) (Nat.le_refl _) hv
  · have hv := hv.2 q99
    refine z_aload_n dX12_goOn_19 rfl ?_
    refine z_aload_n dX12_goOn_20 rfl ?_
    refine z_getI dX12_goOn_21 zf_X12_198 zn_160 zo_160 (fun _ _ _ _ _ => rfl) ?_
    refine z_callV (As := [.int (I 160 6)]) (st := []) dX12_goOn_24 zl_X12_201 zv_X12_sign (by decide) rfl zn_160 zo_160 rfl rfl (Nat.le_of_ble_eq_true rfl) ⟨Nat.le_refl _, Nat.le_refl _⟩ ⟨Nat.le_refl _, Nat.le_refl _⟩ hv (fun v1 I43 L44 P45 nx1 q46 => ?_)
    obtain ⟨rfl, r47, rfl, hv⟩ := q46
    refine z_bipush (v := 32) dX12_goOn_27 (by decide) ?_
    refine z_icmp_eq (tgt := 45) dX12_goOn_29 (by decide) (fun q98 => ?_) (fun q98 => ?_)
    · have hv := hv.1 q98
      refine z_aload_n dX12_goOn_45 rfl ?_
      refine z_dup dX12_goOn_46 rfl ?_
      refine z_getI dX12_goOn_47 zf_X12_198 zn_160 zo_160 (fun _ _ _ _ _ => rfl) ?_
      refine z_iconst (v := 1) dX12_goOn_50 (by decide) ?_
      refine z_iadd dX12_goOn_51 ?_
      refine z_putI dX12_goOn_52 zf_X12_198 zn_160 zo_160 (Or.inl rfl) (fun _ _ _ _ _ => rfl) rfl rfl (z_nmI (fun I48 e49 => ?_))
      have hv := hv I48 e49
      refine z_goto (tgt := 8) dX12_goOn_55 (by decide) ?_
      exact hv
    · have hv := hv.2 q98
      refine z_aload_n dX12_goOn_32 rfl ?_
      refine z_aload_n dX12_goOn_33 rfl ?_
      refine z_getI dX12_goOn_34 zf_X12_198 zn_160 zo_160 (fun _ _ _ _ _ => rfl) ?_
      refine z_callV (As := [.int (I43 160 6)]) (st := []) dX12_goOn_37 zl_X12_201 zv_X12_sign (by decide) rfl zn_160 zo_160 rfl rfl (Nat.le_of_ble_eq_true rfl) ⟨Nat.le_refl _, Nat.le_refl _⟩ ⟨Nat.le_refl _, Nat.le_refl _⟩ hv (fun v1 I50 L51 P52 nx1 q53 => ?_)
      obtain ⟨rfl, r54, rfl, hv⟩ := q53
      refine z_bipush (v := 10) dX12_goOn_40 (by decide) ?_
      refine z_icmp_ne (tgt := 58) dX12_goOn_42 (by decide) (fun q97 => ?_) (fun q97 => ?_)
      · have hv := hv.1 q97
        refine z_aload_n dX12_goOn_58 rfl ?_
        refine z_aload_n dX12_goOn_59 rfl ?_
        refine z_getI dX12_goOn_60 zf_X12_198 zn_160 zo_160 (fun _ _ _ _ _ => rfl) ?_
        refine z_callV (As := [.int (I50 160 6)]) (st := []) dX12_goOn_63 zl_X12_201 zv_X12_sign (by decide) rfl zn_160 zo_160 rfl rfl (Nat.le_of_ble_eq_true rfl) ⟨Nat.le_refl _, Nat.le_refl _⟩ ⟨Nat.le_refl _, Nat.le_refl _⟩ hv (fun v1 I55 L56 P57 nx1 q58 => ?_)
        obtain ⟨rfl, r59, rfl, hv⟩ := q58
        refine z_istore_n (lv2 := [some (.ref 160), some (.int r59), none]) dX12_goOn_66 (by decide) rfl rfl ?_
        refine z_aload_n dX12_goOn_67 rfl ?_
        refine z_aload_n dX12_goOn_68 rfl ?_
        refine z_getI dX12_goOn_69 zf_X12_198 zn_160 zo_160 (fun _ _ _ _ _ => rfl) ?_
        refine z_iconst (v := 1) dX12_goOn_72 (by decide) ?_
        refine z_iadd dX12_goOn_73 ?_
        refine z_putI dX12_goOn_74 zf_X12_195 zn_160 zo_160 (Or.inl rfl) (fun _ _ _ _ _ => rfl) rfl rfl (z_nmI (fun I60 e61 => ?_))
        have hv := hv I60 e61
        refine z_aload_n dX12_goOn_77 rfl ?_
        refine z_getI dX12_goOn_78 zf_X12_198 zn_160 zo_160 (fun _ _ _ _ _ => rfl) ?_
        refine z_aload_n dX12_goOn_81 rfl ?_
        refine z_getI dX12_goOn_82 zf_X12_155 zn_160 zo_160 (fun _ _ _ _ _ => rfl) ?_
        refine z_icmp_lt (tgt := 112) dX12_goOn_85 (by decide) (fun q94 => ?_) (fun q94 => ?_)
        · have hv := hv.1 q94
          refine z_iload_n dX12_goOn_112 rfl ?_
          refine z_callS (As := [.int r59]) (st := []) dX12_goOn_113 zl_X12_208 zs_X12_isLetter rfl rfl (Nat.le_of_ble_eq_true rfl) ⟨Nat.le_refl _, Nat.le_refl _⟩ ⟨Nat.le_refl _, Nat.le_refl _⟩ hv (fun v1 I62 L63 P64 nx1 q65 => ?_)
          obtain ⟨rfl, r66, rfl, hv⟩ := q65
          refine z_if_eq (tgt := 239) dX12_goOn_116 (by decide) (fun q87 => ?_) (fun q87 => ?_)
          · have hv := hv.1 q87
            refine z_iload_n dX12_goOn_239 rfl ?_
            refine z_callS (As := [.int r59]) (st := []) dX12_goOn_240 zl_X12_220 zs_X12_isDigit rfl rfl (Nat.le_of_ble_eq_true rfl) ⟨Nat.le_refl _, Nat.le_refl _⟩ ⟨Nat.le_refl _, Nat.le_refl _⟩ hv (fun v1 I67 L68 P69 nx1 q70 => ?_)
            obtain ⟨rfl, r71, rfl, hv⟩ := q70
            refine z_if_eq (tgt := 361) dX12_goOn_243 (by decide) (fun q86 => ?_) (fun q86 => ?_)
            · have hv := hv.1 q86
              refine z_aload_n dX12_goOn_361 rfl ?_
              refine z_iload_n dX12_goOn_362 rfl ?_
              refine z_callS (As := [.int r59]) (st := [.ref 160]) dX12_goOn_363 zl_X12_226 zs_X12_isSign rfl rfl (Nat.le_of_ble_eq_true rfl) ⟨Nat.le_refl _, Nat.le_refl _⟩ ⟨Nat.le_refl _, Nat.le_refl _⟩ hv (fun v1 I72 L73 P74 nx1 q75 => ?_)
              obtain ⟨rfl, r76, rfl, hv⟩ := q75
              refine z_if_eq (tgt := 373) dX12_goOn_366 (by decide) (fun q81 => ?_) (fun q81 => ?_)
              · have hv := hv.1 q81
                refine z_iconst (v := 1) dX12_goOn_373 (by decide) ?_
                refine z_putI dX12_goOn_374 zf_X12_205 zn_160 zo_160 (Or.inl rfl) (fun _ _ _ _ _ => rfl) rfl rfl (z_nmI (fun I77 e78 => ?_))
                have hv := hv I77 e78
                exact z_return dX12_goOn_377 rfl (Nat.le_refl _) (Nat.le_refl _) hv
              · have hv := hv.2 q81
                refine z_iconst (v := 5) dX12_goOn_369 (by decide) ?_
                refine z_goto (tgt := 374) dX12_goOn_370 (by decide) ?_
                refine z_putI dX12_goOn_374 zf_X12_205 zn_160 zo_160 (Or.inl rfl) (fun _ _ _ _ _ => rfl) rfl rfl (z_nmI (fun I79 e80 => ?_))
                have hv := hv I79 e80
                exact z_return dX12_goOn_377 rfl (Nat.le_refl _) (Nat.le_refl _) hv
            · have hv := hv.2 q86
              refine z_aload_n dX12_goOn_246 rfl ?_
              refine z_iconst (v := 0) dX12_goOn_247 (by decide) ?_
              refine z_putI dX12_goOn_248 zf_X12_223 zn_160 zo_160 (Or.inl rfl) (fun _ _ _ _ _ => rfl) rfl rfl (z_nmI (fun I82 e83 => ?_))
              have hv := hv I82 e83
              refine z_aload_n dX12_goOn_251 rfl ?_
              refine z_aload_n dX12_goOn_252 rfl ?_
              refine z_getI dX12_goOn_253 zf_X12_198 zn_160 zo_160 (fun _ _ _ _ _ => rfl) ?_
              refine z_putI dX12_goOn_256 zf_X12_195 zn_160 zo_160 (Or.inl rfl) (fun _ _ _ _ _ => rfl) rfl rfl (z_nmI (fun I84 e85 => ?_))
              have hv := hv I84 e85
              exact z_sub (by exact ⟨rfl, trivial⟩) hv
          · have hv := hv.2 q87
            exact z_sub (by exact ⟨rfl, trivial⟩) hv
        · have hv := hv.2 q94
          refine z_aload_n dX12_goOn_88 rfl ?_
          refine z_iconst (v := 0) dX12_goOn_89 (by decide) ?_
          refine z_putI dX12_goOn_90 zf_X12_205 zn_160 zo_160 (Or.inl rfl) (fun _ _ _ _ _ => rfl) rfl rfl (z_nmI (fun I88 e89 => ?_))
          have hv := hv I88 e89
          refine z_aload_n dX12_goOn_93 rfl ?_
          refine z_aload_n dX12_goOn_94 rfl ?_
          refine z_getI dX12_goOn_95 zf_X12_155 zn_160 zo_160 (fun _ _ _ _ _ => rfl) ?_
          refine z_putI dX12_goOn_98 zf_X12_198 zn_160 zo_160 (Or.inl rfl) (fun _ _ _ _ _ => rfl) rfl rfl (z_nmI (fun I90 e91 => ?_))
          have hv := hv I90 e91
          refine z_aload_n dX12_goOn_101 rfl ?_
          refine z_aload_n dX12_goOn_102 rfl ?_
          refine z_getI dX12_goOn_103 zf_X12_155 zn_160 zo_160 (fun _ _ _ _ _ => rfl) ?_
          refine z_putI dX12_goOn_106 zf_X12_195 zn_160 zo_160 (Or.inl rfl) (fun _ _ _ _ _ => rfl) rfl rfl (z_nmI (fun I92 e93 => ?_))
          have hv := hv I92 e93
          refine z_goto (tgt := 377) dX12_goOn_109 (by decide) ?_
          exact z_return dX12_goOn_377 rfl (Nat.le_refl _) (Nat.le_refl _) hv
      · have hv := hv.2 q97
        refine z_aload_n dX12_goOn_45 rfl ?_
        refine z_dup dX12_goOn_46 rfl ?_
        refine z_getI dX12_goOn_47 zf_X12_198 zn_160 zo_160 (fun _ _ _ _ _ => rfl) ?_
        refine z_iconst (v := 1) dX12_goOn_50 (by decide) ?_
        refine z_iadd dX12_goOn_51 ?_
        refine z_putI dX12_goOn_52 zf_X12_198 zn_160 zo_160 (Or.inl rfl) (fun _ _ _ _ _ => rfl) rfl rfl (z_nmI (fun I95 e96 => ?_))
        have hv := hv I95 e96
        refine z_goto (tgt := 8) dX12_goOn_55 (by decide) ?_
        exact hv
def v_X12_goOn (d : Nat) (Q : zQt)  (I : zI) (L : zL) (P : zP) : Prop :=
  ∀ I1 : zI, I1 = zuI I 160 6 (I 160 7) →
  gw_X12_goOn (d + 1) Q 8 [some (.ref 160), none, none] [] I1 L P
set_option maxRecDepth 20000 in
theorem g_X12_goOn {d : Nat} {Q : zQt}  {I : zI} {L : zL} {P : zP} (hP : zPk P) (hv : v_X12_goOn d Q  I L P) : zM zm_X12_goOn (d + 1) 0 0 [.ref 160] I L P 205 Q := by
  unfold v_X12_goOn at hv
  refine zM_of (lv0 := [some (.ref 160), none, none]) (by decide +kernel) (Nat.le_of_ble_eq_true rfl) rfl ?_
  refine z_aload_n dX12_goOn_0 rfl ?_
  refine z_aload_n dX12_goOn_1 rfl ?_
  refine z_getI dX12_goOn_2 zf_X12_195 zn_160 zo_160 (fun _ _ _ _ _ => rfl) ?_
  refine z_putI dX12_goOn_5 zf_X12_198 zn_160 zo_160 (Or.inl rfl) (fun _ _ _ _ _ => rfl) rfl rfl (z_nmI (fun I1 e2 => ?_))
  have hv := hv I1 e2
  exact hv
abbrev gw_X12_stands (d : Nat) (Q : zQt) (pc : Nat) (lv : zV) (st : List Value) (I : zI) (L : zL) (P : zP) : Prop := zW zm_X12_stands (zRm d 0 0) 0 0 Q pc lv st I L P 205 0 0
def v_X12_stands (d : Nat) (Q : zQt) (p1 : Int32) (I : zI) (L : zL) (P : zP) : Prop :=
  ((¬ (I 160 8) = 5 →
    Q (some (.int 0)) I L P 205
  ) ∧ ((I 160 8) = 5 →
    zMi zm_X12_sign d [.ref 160, .int (I 160 6)] I L P (fun r5 I1 L2 P3 =>
      ((¬ r5 = p1 →
        Q (some (.int 0)) I1 L2 P3 205
      ) ∧ (r5 = p1 →
        Q (some (.int 1)) I1 L2 P3 205
      ))
    )
  ))
set_option maxRecDepth 20000 in
theorem g_X12_stands {d : Nat} {Q : zQt} {p1 : Int32} {I : zI} {L : zL} {P : zP} (hP : zPk P) (hv : v_X12_stands d Q p1 I L P) : zM zm_X12_stands (d + 1) 0 0 [.ref 160, .int p1] I L P 205 Q := by
  unfold v_X12_stands at hv
  refine zM_of (lv0 := [some (.ref 160), some (.int p1)]) (by decide +kernel) (Nat.le_of_ble_eq_true rfl) rfl ?_
  refine z_aload_n dX12_stands_0 rfl ?_
  refine z_getI dX12_stands_1 zf_X12_205 zn_160 zo_160 (fun _ _ _ _ _ => rfl) ?_
  refine z_iconst (v := 5) dX12_stands_4 (by decide) ?_
  refine z_icmp_ne (tgt := 24) dX12_stands_5 (by decide) (fun q7 => ?_) (fun q7 => ?_)
  · have hv := hv.1 q7
    refine z_iconst (v := 0) dX12_stands_24 (by decide) ?_
    exact z_ireturn dX12_stands_25 rfl (by decide) (Nat.le_refl _) (Nat.le_refl _) hv
  · have hv := hv.2 q7
    refine z_aload_n dX12_stands_8 rfl ?_
    refine z_aload_n dX12_stands_9 rfl ?_
    refine z_getI dX12_stands_10 zf_X12_198 zn_160 zo_160 (fun _ _ _ _ _ => rfl) ?_
    refine z_callV (As := [.int (I 160 6)]) (st := []) dX12_stands_13 zl_X12_201 zv_X12_sign (by decide) rfl zn_160 zo_160 rfl rfl (Nat.le_of_ble_eq_true rfl) ⟨Nat.le_refl _, Nat.le_refl _⟩ ⟨Nat.le_refl _, Nat.le_refl _⟩ hv (fun v1 I1 L2 P3 nx1 q4 => ?_)
    obtain ⟨rfl, r5, rfl, hv⟩ := q4
    refine z_iload_n dX12_stands_16 rfl ?_
    refine z_icmp_ne (tgt := 24) dX12_stands_17 (by decide) (fun q6 => ?_) (fun q6 => ?_)
    · have hv := hv.1 q6
      refine z_iconst (v := 0) dX12_stands_24 (by decide) ?_
      exact z_ireturn dX12_stands_25 rfl (by decide) (Nat.le_refl _) (Nat.le_refl _) hv
    · have hv := hv.2 q6
      refine z_iconst (v := 1) dX12_stands_20 (by decide) ?_
      refine z_goto (tgt := 25) dX12_stands_21 (by decide) ?_
      exact z_ireturn dX12_stands_25 rfl (by decide) (Nat.le_refl _) (Nat.le_refl _) hv
abbrev gw_X12_isWord (d : Nat) (Q : zQt) (pc : Nat) (lv : zV) (st : List Value) (I : zI) (L : zL) (P : zP) : Prop := zW zm_X12_isWord (zRm d 0 0) 0 0 Q pc lv st I L P 205 0 0
def v_X12_isWord (d : Nat) (Q : zQt) (p1 : Int64) (I : zI) (L : zL) (P : zP) : Prop :=
  ((¬ (I 160 8) = 3 →
    Q (some (.int 0)) I L P 205
  ) ∧ ((I 160 8) = 3 →
    ((¬ (lg_cmp (L 160 10) p1) = 0 →
      Q (some (.int 0)) I L P 205
    ) ∧ ((lg_cmp (L 160 10) p1) = 0 →
      Q (some (.int 1)) I L P 205
    ))
  ))
set_option maxRecDepth 20000 in
theorem g_X12_isWord {d : Nat} {Q : zQt} {p1 : Int64} {I : zI} {L : zL} {P : zP} (hP : zPk P) (hv : v_X12_isWord d Q p1 I L P) : zM zm_X12_isWord d 0 0 [.ref 160, .long p1] I L P 205 Q := by
  unfold v_X12_isWord at hv
  refine zM_of (lv0 := [some (.ref 160), some (.long p1), none]) (by decide +kernel) (Nat.le_of_ble_eq_true rfl) rfl ?_
  refine z_aload_n dX12_isWord_0 rfl ?_
  refine z_getI dX12_isWord_1 zf_X12_205 zn_160 zo_160 (fun _ _ _ _ _ => rfl) ?_
  refine z_iconst (v := 3) dX12_isWord_4 (by decide) ?_
  refine z_icmp_ne (tgt := 21) dX12_isWord_5 (by decide) (fun q2 => ?_) (fun q2 => ?_)
  · have hv := hv.1 q2
    refine z_iconst (v := 0) dX12_isWord_21 (by decide) ?_
    exact z_ireturn dX12_isWord_22 rfl (by decide) (Nat.le_refl _) (Nat.le_refl _) hv
  · have hv := hv.2 q2
    refine z_aload_n dX12_isWord_8 rfl ?_
    refine z_getL dX12_isWord_9 zf_X12_212 zn_160 zo_160 (fun _ _ _ _ _ => rfl) ?_
    refine z_lload_n dX12_isWord_12 rfl ?_
    refine z_lcmp dX12_isWord_13 ?_
    refine z_if_ne (tgt := 21) dX12_isWord_14 (by decide) (fun q1 => ?_) (fun q1 => ?_)
    · have hv := hv.1 q1
      refine z_iconst (v := 0) dX12_isWord_21 (by decide) ?_
      exact z_ireturn dX12_isWord_22 rfl (by decide) (Nat.le_refl _) (Nat.le_refl _) hv
    · have hv := hv.2 q1
      refine z_iconst (v := 1) dX12_isWord_17 (by decide) ?_
      refine z_goto (tgt := 22) dX12_isWord_18 (by decide) ?_
      exact z_ireturn dX12_isWord_22 rfl (by decide) (Nat.le_refl _) (Nat.le_refl _) hv
abbrev gw_X12_misplaced (d : Nat) (Q : zQt) (pc : Nat) (lv : zV) (st : List Value) (I : zI) (L : zL) (P : zP) : Prop := zW zm_X12_misplaced (zRm d 0 0) 0 0 Q pc lv st I L P 205 0 0
def v_X12_misplaced (d : Nat) (Q : zQt)  (I : zI) (L : zL) (P : zP) : Prop :=
  ((¬ (I 160 8) = 1 →
    zMv zm_X12_fails d [.ref 160, .int 2, .int (I 160 6)] I L P (fun I1 L2 P3 =>
      Q none I1 L2 P3 205
    )
  ) ∧ ((I 160 8) = 1 →
    zMv zm_X12_fails d [.ref 160, .int 1, .int (I 160 6)] I L P (fun I6 L7 P8 =>
      Q none I6 L7 P8 205
    )
  ))
set_option maxRecDepth 20000 in
theorem g_X12_misplaced {d : Nat} {Q : zQt}  {I : zI} {L : zL} {P : zP} (hP : zPk P) (hv : v_X12_misplaced d Q  I L P) : zM zm_X12_misplaced (d + 1) 0 0 [.ref 160] I L P 205 Q := by
  unfold v_X12_misplaced at hv
  refine zM_of (lv0 := [some (.ref 160)]) (by decide +kernel) (Nat.le_of_ble_eq_true rfl) rfl ?_
  refine z_aload_n dX12_misplaced_0 rfl ?_
  refine z_aload_n dX12_misplaced_1 rfl ?_
  refine z_getI dX12_misplaced_2 zf_X12_205 zn_160 zo_160 (fun _ _ _ _ _ => rfl) ?_
  refine z_iconst (v := 1) dX12_misplaced_5 (by decide) ?_
  refine z_icmp_ne (tgt := 13) dX12_misplaced_6 (by decide) (fun q11 => ?_) (fun q11 => ?_)
  · have hv := hv.1 q11
    refine z_iconst (v := 2) dX12_misplaced_13 (by decide) ?_
    refine z_aload_n dX12_misplaced_14 rfl ?_
    refine z_getI dX12_misplaced_15 zf_X12_198 zn_160 zo_160 (fun _ _ _ _ _ => rfl) ?_
    refine z_callV (As := [.int 2, .int (I 160 6)]) (st := []) dX12_misplaced_18 zl_X12_229 zv_X12_fails (by decide) rfl zn_160 zo_160 rfl rfl (Nat.le_of_ble_eq_true rfl) ⟨Nat.le_refl _, Nat.le_refl _⟩ ⟨Nat.le_refl _, Nat.le_refl _⟩ hv (fun v1 I1 L2 P3 nx1 q4 => ?_)
    obtain ⟨rfl, rfl, hv⟩ := q4
    exact z_return dX12_misplaced_21 rfl (Nat.le_refl _) (Nat.le_refl _) hv
  · have hv := hv.2 q11
    refine z_iconst (v := 1) dX12_misplaced_9 (by decide) ?_
    refine z_goto (tgt := 14) dX12_misplaced_10 (by decide) ?_
    refine z_aload_n dX12_misplaced_14 rfl ?_
    refine z_getI dX12_misplaced_15 zf_X12_198 zn_160 zo_160 (fun _ _ _ _ _ => rfl) ?_
    refine z_callV (As := [.int 1, .int (I 160 6)]) (st := []) dX12_misplaced_18 zl_X12_229 zv_X12_fails (by decide) rfl zn_160 zo_160 rfl rfl (Nat.le_of_ble_eq_true rfl) ⟨Nat.le_refl _, Nat.le_refl _⟩ ⟨Nat.le_refl _, Nat.le_refl _⟩ hv (fun v1 I6 L7 P8 nx1 q9 => ?_)
    obtain ⟨rfl, rfl, hv⟩ := q9
    exact z_return dX12_misplaced_21 rfl (Nat.le_refl _) (Nat.le_refl _) hv
abbrev gw_X12_must (d : Nat) (Q : zQt) (pc : Nat) (lv : zV) (st : List Value) (I : zI) (L : zL) (P : zP) : Prop := zW zm_X12_must (zRm d 0 0) 0 0 Q pc lv st I L P 205 0 0
def v_X12_must (d : Nat) (Q : zQt) (p1 : Int32) (I : zI) (L : zL) (P : zP) : Prop :=
  zMi zm_X12_isGood d [.ref 160] I L P (fun r5 I1 L2 P3 =>
    ((¬ r5 = 0 →
      ((p1 = 0 →
        zMv zm_X12_misplaced d [.ref 160] I1 L2 P3 (fun I6 L7 P8 =>
          Q none I6 L7 P8 205
        )
      ) ∧ (¬ p1 = 0 →
        zMv zm_X12_goOn d [.ref 160] I1 L2 P3 (fun I11 L12 P13 =>
          Q none I11 L12 P13 205
        )
      ))
    ) ∧ (r5 = 0 →
      Q none I1 L2 P3 205
    ))
  )
set_option maxRecDepth 20000 in
theorem g_X12_must {d : Nat} {Q : zQt} {p1 : Int32} {I : zI} {L : zL} {P : zP} (hP : zPk P) (hv : v_X12_must d Q p1 I L P) : zM zm_X12_must (d + 1) 0 0 [.ref 160, .int p1] I L P 205 Q := by
  unfold v_X12_must at hv
  refine zM_of (lv0 := [some (.ref 160), some (.int p1)]) (by decide +kernel) (Nat.le_of_ble_eq_true rfl) rfl ?_
  refine z_aload_n dX12_must_0 rfl ?_
  refine z_callV (As := []) (st := []) dX12_must_1 zl_X12_233 zv_X12_isGood (by decide) rfl zn_160 zo_160 rfl rfl (Nat.le_of_ble_eq_true rfl) ⟨Nat.le_refl _, Nat.le_refl _⟩ ⟨Nat.le_refl _, Nat.le_refl _⟩ hv (fun v1 I1 L2 P3 nx1 q4 => ?_)
  obtain ⟨rfl, r5, rfl, hv⟩ := q4
  refine z_if_ne (tgt := 8) dX12_must_4 (by decide) (fun q17 => ?_) (fun q17 => ?_)
  · have hv := hv.1 q17
    refine z_iload_n dX12_must_8 rfl ?_
    refine z_if_eq (tgt := 19) dX12_must_9 (by decide) (fun q16 => ?_) (fun q16 => ?_)
    · have hv := hv.1 q16
      refine z_aload_n dX12_must_19 rfl ?_
      refine z_callV (As := []) (st := []) dX12_must_20 zl_X12_240 zv_X12_misplaced (by decide) rfl zn_160 zo_160 rfl rfl (Nat.le_of_ble_eq_true rfl) ⟨Nat.le_refl _, Nat.le_refl _⟩ ⟨Nat.le_refl _, Nat.le_refl _⟩ hv (fun v1 I6 L7 P8 nx1 q9 => ?_)
      obtain ⟨rfl, rfl, hv⟩ := q9
      exact z_return dX12_must_23 rfl (Nat.le_refl _) (Nat.le_refl _) hv
    · have hv := hv.2 q16
      refine z_aload_n dX12_must_12 rfl ?_
      refine z_callV (As := []) (st := []) dX12_must_13 zl_X12_237 zv_X12_goOn (by decide) rfl zn_160 zo_160 rfl rfl (Nat.le_of_ble_eq_true rfl) ⟨Nat.le_refl _, Nat.le_refl _⟩ ⟨Nat.le_refl _, Nat.le_refl _⟩ hv (fun v1 I11 L12 P13 nx1 q14 => ?_)
      obtain ⟨rfl, rfl, hv⟩ := q14
      refine z_goto (tgt := 23) dX12_must_16 (by decide) ?_
      exact z_return dX12_must_23 rfl (Nat.le_refl _) (Nat.le_refl _) hv
  · have hv := hv.2 q17
    exact z_return dX12_must_7 rfl (Nat.le_refl _) (Nat.le_refl _) hv
abbrev gw_X12_clearBank (d : Nat) (Q : zQt) (pc : Nat) (lv : zV) (st : List Value) (I : zI) (L : zL) (P : zP) : Prop := zW zm_X12_clearBank (zRm d 0 0) 0 0 Q pc lv st I L P 205 0 0
def v_X12_clearBank (d : Nat) (Q : zQt)  (I : zI) (L : zL) (P : zP) : Prop :=
  vp_in (I 160 29) 2 ∧
  ∀ I3 : zI, I3 = zuI I 163 (I 160 29).toNatClampNeg 0 →
  vp_in (I3 160 29) 2 ∧
  ∀ I6 : zI, I6 = zuI I3 164 (I3 160 29).toNatClampNeg 0 →
  vp_in (I6 160 29) 2 ∧
  ∀ I9 : zI, I9 = zuI I6 165 (I6 160 29).toNatClampNeg 0 →
  vp_in (I9 160 29) 3 ∧
  ∀ I12 : zI, I12 = zuI I9 166 (I9 160 29).toNatClampNeg 0 →
  vp_in (I12 160 29) 2 ∧
  ∀ I15 : zI, I15 = zuI I12 167 (I12 160 29).toNatClampNeg 0 →
  vp_in (I15 160 29) 2 ∧
  ∀ I18 : zI, I18 = zuI I15 171 (I15 160 29).toNatClampNeg 0 →
  vp_in (I18 160 29) 2 ∧
  ∀ I21 : zI, I21 = zuI I18 172 (I18 160 29).toNatClampNeg 0 →
  ∀ I22 : zI, I22 = zuI I21 160 32 ((700 : Int32) * (I21 160 29)) →
  ∀ I24 : zI, I24 = zuI I22 160 30 (I22 160 29) →
  ∀ I26 : zI, I26 = zuI I24 160 31 60 →
  Q none I26 L P 205
set_option maxRecDepth 20000 in
theorem g_X12_clearBank {d : Nat} {Q : zQt}  {I : zI} {L : zL} {P : zP} (hP : zPk P) (hv : v_X12_clearBank d Q  I L P) : zM zm_X12_clearBank d 0 0 [.ref 160] I L P 205 Q := by
  unfold v_X12_clearBank at hv
  refine zM_of (lv0 := [some (.ref 160)]) (by decide +kernel) (Nat.le_of_ble_eq_true rfl) rfl ?_
  refine z_aload_n dX12_clearBank_0 rfl ?_
  refine z_getP dX12_clearBank_1 zf_X12_20 zn_160 zo_160 (fun _ _ _ _ _ => rfl) (hP 160 11 163 zp_160_11) ?_
  refine z_aload_n dX12_clearBank_4 rfl ?_
  refine z_getI dX12_clearBank_5 zf_X12_243 zn_160 zo_160 (fun _ _ _ _ _ => rfl) ?_
  refine z_iconst (v := 0) dX12_clearBank_8 (by decide) ?_
  obtain ⟨h1, hv⟩ := hv
  refine z_iastore dX12_clearBank_9 zn_163 zh_163 h1 (z_nmI (fun I3 e2 => ?_))
  have hv := hv I3 e2
  refine z_aload_n dX12_clearBank_10 rfl ?_
  refine z_getP dX12_clearBank_11 zf_X12_24 zn_160 zo_160 (fun _ _ _ _ _ => rfl) (hP 160 12 164 zp_160_12) ?_
  refine z_aload_n dX12_clearBank_14 rfl ?_
  refine z_getI dX12_clearBank_15 zf_X12_243 zn_160 zo_160 (fun _ _ _ _ _ => rfl) ?_
  refine z_iconst (v := 0) dX12_clearBank_18 (by decide) ?_
  obtain ⟨h4, hv⟩ := hv
  refine z_iastore dX12_clearBank_19 zn_164 zh_164 h4 (z_nmI (fun I6 e5 => ?_))
  have hv := hv I6 e5
  refine z_aload_n dX12_clearBank_20 rfl ?_
  refine z_getP dX12_clearBank_21 zf_X12_27 zn_160 zo_160 (fun _ _ _ _ _ => rfl) (hP 160 13 165 zp_160_13) ?_
  refine z_aload_n dX12_clearBank_24 rfl ?_
  refine z_getI dX12_clearBank_25 zf_X12_243 zn_160 zo_160 (fun _ _ _ _ _ => rfl) ?_
  refine z_iconst (v := 0) dX12_clearBank_28 (by decide) ?_
  obtain ⟨h7, hv⟩ := hv
  refine z_iastore dX12_clearBank_29 zn_165 zh_165 h7 (z_nmI (fun I9 e8 => ?_))
  have hv := hv I9 e8
  refine z_aload_n dX12_clearBank_30 rfl ?_
  refine z_getP dX12_clearBank_31 zf_X12_30 zn_160 zo_160 (fun _ _ _ _ _ => rfl) (hP 160 14 166 zp_160_14) ?_
  refine z_aload_n dX12_clearBank_34 rfl ?_
  refine z_getI dX12_clearBank_35 zf_X12_243 zn_160 zo_160 (fun _ _ _ _ _ => rfl) ?_
  refine z_iconst (v := 0) dX12_clearBank_38 (by decide) ?_
  obtain ⟨h10, hv⟩ := hv
  refine z_iastore dX12_clearBank_39 zn_166 zh_166 h10 (z_nmI (fun I12 e11 => ?_))
  have hv := hv I12 e11
  refine z_aload_n dX12_clearBank_40 rfl ?_
  refine z_getP dX12_clearBank_41 zf_X12_33 zn_160 zo_160 (fun _ _ _ _ _ => rfl) (hP 160 15 167 zp_160_15) ?_
  refine z_aload_n dX12_clearBank_44 rfl ?_
  refine z_getI dX12_clearBank_45 zf_X12_243 zn_160 zo_160 (fun _ _ _ _ _ => rfl) ?_
  refine z_iconst (v := 0) dX12_clearBank_48 (by decide) ?_
  obtain ⟨h13, hv⟩ := hv
  refine z_iastore dX12_clearBank_49 zn_167 zh_167 h13 (z_nmI (fun I15 e14 => ?_))
  have hv := hv I15 e14
  refine z_aload_n dX12_clearBank_50 rfl ?_
  refine z_getP dX12_clearBank_51 zf_X12_45 zn_160 zo_160 (fun _ _ _ _ _ => rfl) (hP 160 19 171 zp_160_19) ?_
  refine z_aload_n dX12_clearBank_54 rfl ?_
  refine z_getI dX12_clearBank_55 zf_X12_243 zn_160 zo_160 (fun _ _ _ _ _ => rfl) ?_
  refine z_iconst (v := 0) dX12_clearBank_58 (by decide) ?_
  obtain ⟨h16, hv⟩ := hv
  refine z_zastore (w := 0) dX12_clearBank_59 zn_171 zh_171 h16 (by decide) (z_nmI (fun I18 e17 => ?_))
  have hv := hv I18 e17
  refine z_aload_n dX12_clearBank_60 rfl ?_
  refine z_getP dX12_clearBank_61 zf_X12_49 zn_160 zo_160 (fun _ _ _ _ _ => rfl) (hP 160 20 172 zp_160_20) ?_
  refine z_aload_n dX12_clearBank_64 rfl ?_
  refine z_getI dX12_clearBank_65 zf_X12_243 zn_160 zo_160 (fun _ _ _ _ _ => rfl) ?_
  refine z_iconst (v := 0) dX12_clearBank_68 (by decide) ?_
  obtain ⟨h19, hv⟩ := hv
  refine z_zastore (w := 0) dX12_clearBank_69 zn_172 zh_172 h19 (by decide) (z_nmI (fun I21 e20 => ?_))
  have hv := hv I21 e20
  refine z_aload_n dX12_clearBank_70 rfl ?_
  refine z_sipush (v := 700) dX12_clearBank_71 (by decide) ?_
  refine z_aload_n dX12_clearBank_74 rfl ?_
  refine z_getI dX12_clearBank_75 zf_X12_243 zn_160 zo_160 (fun _ _ _ _ _ => rfl) ?_
  refine z_imul dX12_clearBank_78 ?_
  refine z_putI dX12_clearBank_79 zf_X12_246 zn_160 zo_160 (Or.inl rfl) (fun _ _ _ _ _ => rfl) rfl rfl (z_nmI (fun I22 e23 => ?_))
  have hv := hv I22 e23
  refine z_aload_n dX12_clearBank_82 rfl ?_
  refine z_aload_n dX12_clearBank_83 rfl ?_
  refine z_getI dX12_clearBank_84 zf_X12_243 zn_160 zo_160 (fun _ _ _ _ _ => rfl) ?_
  refine z_putI dX12_clearBank_87 zf_X12_249 zn_160 zo_160 (Or.inl rfl) (fun _ _ _ _ _ => rfl) rfl rfl (z_nmI (fun I24 e25 => ?_))
  have hv := hv I24 e25
  refine z_aload_n dX12_clearBank_90 rfl ?_
  refine z_bipush (v := 60) dX12_clearBank_91 (by decide) ?_
  refine z_putI dX12_clearBank_93 zf_X12_252 zn_160 zo_160 (Or.inl rfl) (fun _ _ _ _ _ => rfl) rfl rfl (z_nmI (fun I26 e27 => ?_))
  have hv := hv I26 e27
  exact z_return dX12_clearBank_96 rfl (Nat.le_refl _) (Nat.le_refl _) hv
abbrev gw_X12_beginText (d : Nat) (Q : zQt) (pc : Nat) (lv : zV) (st : List Value) (I : zI) (L : zL) (P : zP) : Prop := zW zm_X12_beginText (zRm d 0 0) 0 0 Q pc lv st I L P 205 0 0
def v_X12_beginText_20 (d : Nat) (Q : zQt) (x1 : Int32) (I : zI) (L : zL) (P : zP) : Prop :=
  (((I 160 3) ≤ x1 →
    ∀ I7 : zI, I7 = zuI I 160 2 0 →
    ∀ I9 : zI, I9 = zuI I7 160 7 0 →
    Q none I9 L P 205
  ) ∧ (¬ (I 160 3) ≤ x1 →
    vp_in x1 1620 ∧
    vp_in x1 1600 ∧
    narrow .byte (.int (I 161 x1.toNatClampNeg)) = .int (I 161 x1.toNatClampNeg) ∧
    ∀ I14 : zI, I14 = zuI I 162 x1.toNatClampNeg (I 161 x1.toNatClampNeg) →
    gw_X12_beginText d Q 20 [some (.ref 160), some (.int (x1 + 1))] [] I14 L P
  ))
set_option maxRecDepth 20000 in
theorem g_X12_beginText_20 {d : Nat} {Q : zQt} {x1 : Int32} {I : zI} {L : zL} {P : zP} (hP : zPk P) (hv : v_X12_beginText_20 d Q x1 I L P) : gw_X12_beginText d Q 20 [some (.ref 160), some (.int x1)] [] I L P := by
  unfold v_X12_beginText_20 at hv
  refine z_iload_n dX12_beginText_20 rfl ?_
  refine z_aload_n dX12_beginText_21 rfl ?_
  refine z_getI dX12_beginText_22 zf_X12_155 zn_160 zo_160 (fun _ _ _ _ _ => rfl) ?_
  refine z_icmp_ge (tgt := 46) dX12_beginText_25 (by decide) (fun q16 => ?_) (fun q16 => ?_)
  · have hv := hv.1 q16
    refine z_aload_n dX12_beginText_46 rfl ?_
    refine z_iconst (v := 0) dX12_beginText_47 (by decide) ?_
    refine z_putI dX12_beginText_48 zf_X12_255 zn_160 zo_160 (Or.inl rfl) (fun _ _ _ _ _ => rfl) rfl rfl (z_nmI (fun I7 e8 => ?_))
    have hv := hv I7 e8
    refine z_aload_n dX12_beginText_51 rfl ?_
    refine z_iconst (v := 0) dX12_beginText_52 (by decide) ?_
    refine z_putI dX12_beginText_53 zf_X12_195 zn_160 zo_160 (Or.inl rfl) (fun _ _ _ _ _ => rfl) rfl rfl (z_nmI (fun I9 e10 => ?_))
    have hv := hv I9 e10
    exact z_return dX12_beginText_56 rfl (Nat.le_refl _) (Nat.le_refl _) hv
  · have hv := hv.2 q16
    refine z_aload_n dX12_beginText_28 rfl ?_
    refine z_getP dX12_beginText_29 zf_X12_13 zn_160 zo_160 (fun _ _ _ _ _ => rfl) (hP 160 1 162 zp_160_1) ?_
    refine z_iload_n dX12_beginText_32 rfl ?_
    refine z_aload_n dX12_beginText_33 rfl ?_
    refine z_getP dX12_beginText_34 zf_X12_7 zn_160 zo_160 (fun _ _ _ _ _ => rfl) (hP 160 0 161 zp_160_0) ?_
    refine z_iload_n dX12_beginText_37 rfl ?_
    obtain ⟨h11, hv⟩ := hv
    refine z_baload dX12_beginText_38 zn_161 zh_161 h11 ?_
    obtain ⟨h12, hv⟩ := hv
    obtain ⟨h15, hv⟩ := hv
    refine z_bastore dX12_beginText_39 zn_162 zh_162 h12 h15 (z_nmI (fun I14 e13 => ?_))
    have hv := hv I14 e13
    refine z_iinc (v2 := x1 + 1) (lv2 := [some (.ref 160), some (.int (x1 + 1))]) dX12_beginText_40 rfl (by rfl) (by decide) rfl rfl ?_
    refine z_goto (tgt := 20) dX12_beginText_43 (by decide) ?_
    exact hv
def v_X12_beginText (d : Nat) (Q : zQt)  (I : zI) (L : zL) (P : zP) : Prop :=
  ∀ I1 : zI, I1 = zuI I 160 4 0 →
  ∀ I3 : zI, I3 = zuI I1 160 5 (-1) →
  ∀ I5 : zI, I5 = zuI I3 160 3 (I3 160 2) →
  gw_X12_beginText d Q 20 [some (.ref 160), some (.int 0)] [] I5 L P
set_option maxRecDepth 20000 in
theorem g_X12_beginText {d : Nat} {Q : zQt}  {I : zI} {L : zL} {P : zP} (hP : zPk P) (hv : v_X12_beginText d Q  I L P) : zM zm_X12_beginText d 0 0 [.ref 160] I L P 205 Q := by
  unfold v_X12_beginText at hv
  refine zM_of (lv0 := [some (.ref 160), none]) (by decide +kernel) (Nat.le_of_ble_eq_true rfl) rfl ?_
  refine z_aload_n dX12_beginText_0 rfl ?_
  refine z_iconst (v := 0) dX12_beginText_1 (by decide) ?_
  refine z_putI dX12_beginText_2 zf_X12_158 zn_160 zo_160 (Or.inl rfl) (fun _ _ _ _ _ => rfl) rfl rfl (z_nmI (fun I1 e2 => ?_))
  have hv := hv I1 e2
  refine z_aload_n dX12_beginText_5 rfl ?_
  refine z_iconst (v := (-1)) dX12_beginText_6 (by decide) ?_
  refine z_putI dX12_beginText_7 zf_X12_16 zn_160 zo_160 (Or.inl rfl) (fun _ _ _ _ _ => rfl) rfl rfl (z_nmI (fun I3 e4 => ?_))
  have hv := hv I3 e4
  refine z_aload_n dX12_beginText_10 rfl ?_
  refine z_aload_n dX12_beginText_11 rfl ?_
  refine z_getI dX12_beginText_12 zf_X12_255 zn_160 zo_160 (fun _ _ _ _ _ => rfl) ?_
  refine z_putI dX12_beginText_15 zf_X12_155 zn_160 zo_160 (Or.inl rfl) (fun _ _ _ _ _ => rfl) rfl rfl (z_nmI (fun I5 e6 => ?_))
  have hv := hv I5 e6
  refine z_iconst (v := 0) dX12_beginText_18 (by decide) ?_
  refine z_istore_n (lv2 := [some (.ref 160), some (.int 0)]) dX12_beginText_19 (by decide) rfl rfl ?_
  exact hv
abbrev gw_X12_island (d : Nat) (Q : zQt) (pc : Nat) (lv : zV) (st : List Value) (I : zI) (L : zL) (P : zP) : Prop := zW zm_X12_island (zRm d 0 0) 0 0 Q pc lv st I L P 205 0 0
def v_X12_island_67 (d : Nat) (Q : zQt) (x1 : Int32) (I : zI) (L : zL) (P : zP) : Prop :=
  ((4 ≤ x1 →
    zMv zm_X12_begin d [.ref 160] I L P (fun I50 L51 P52 =>
      zPk P52 ∧
      vp_in (I50 160 28) 2 ∧
      Q (some (.int (I50 163 (I50 160 28).toNatClampNeg))) I50 L51 P52 205
    )
  ) ∧ (¬ 4 ≤ x1 →
    vp_in x1 4 ∧
    ∀ I59 : zI, I59 = zuI I 199 x1.toNatClampNeg (-1) →
    gw_X12_island (d + 1) Q 67 [some (.ref 160), some (.int (x1 + 1))] [] I59 L P
  ))
set_option maxRecDepth 20000 in
theorem g_X12_island_67 {d : Nat} {Q : zQt} {x1 : Int32} {I : zI} {L : zL} {P : zP} (hP : zPk P) (hv : v_X12_island_67 d Q x1 I L P) : gw_X12_island (d + 1) Q 67 [some (.ref 160), some (.int x1)] [] I L P := by
  unfold v_X12_island_67 at hv
  refine z_iload_n dX12_island_67 rfl ?_
  refine z_iconst (v := 4) dX12_island_68 (by decide) ?_
  refine z_icmp_ge (tgt := 85) dX12_island_69 (by decide) (fun q60 => ?_) (fun q60 => ?_)
  · have hv := hv.1 q60
    refine z_aload_n dX12_island_85 rfl ?_
    refine z_callV (As := []) (st := []) dX12_island_86 zl_X12_152 zv_X12_begin (by decide) rfl zn_160 zo_160 rfl rfl (Nat.le_of_ble_eq_true rfl) ⟨Nat.le_refl _, Nat.le_refl _⟩ ⟨Nat.le_refl _, Nat.le_refl _⟩ hv (fun v1 I50 L51 P52 nx1 q53 => ?_)
    obtain ⟨rfl, rfl, hv⟩ := q53
    refine z_aload_n dX12_island_89 rfl ?_
    obtain ⟨h55, hv⟩ := hv
    refine z_getP dX12_island_90 zf_X12_20 zn_160 zo_160 (fun _ _ _ _ _ => rfl) (h55 160 11 163 zp_160_11) ?_
    refine z_aload_n dX12_island_93 rfl ?_
    refine z_getI dX12_island_94 zf_X12_261 zn_160 zo_160 (fun _ _ _ _ _ => rfl) ?_
    obtain ⟨h56, hv⟩ := hv
    refine z_iaload dX12_island_97 zn_163 zh_163 h56 ?_
    exact z_ireturn dX12_island_98 rfl rfl (Nat.le_refl _) (Nat.le_refl _) hv
  · have hv := hv.2 q60
    refine z_aload_n dX12_island_72 rfl ?_
    refine z_getP dX12_island_73 zf_X12_131 zn_160 zo_160 (fun _ _ _ _ _ => rfl) (hP 160 62 199 zp_160_62) ?_
    refine z_iload_n dX12_island_76 rfl ?_
    refine z_iconst (v := (-1)) dX12_island_77 (by decide) ?_
    obtain ⟨h57, hv⟩ := hv
    refine z_iastore dX12_island_78 zn_199 zh_199 h57 (z_nmI (fun I59 e58 => ?_))
    have hv := hv I59 e58
    refine z_iinc (v2 := x1 + 1) (lv2 := [some (.ref 160), some (.int (x1 + 1))]) dX12_island_79 rfl (by rfl) (by decide) rfl rfl ?_
    refine z_goto (tgt := 67) dX12_island_82 (by decide) ?_
    exact hv
def v_X12_island_22 (d : Nat) (Q : zQt)  (I : zI) (L : zL) (P : zP) : Prop :=
  zMi zm_X12_isGood d [.ref 160] I L P (fun r22 I18 L19 P20 =>
    ((r22 = 0 →
      zMi zm_X12_isGood d [.ref 160] I18 L19 P20 (fun r27 I23 L24 P25 =>
        ((¬ r27 = 0 →
          ∀ I28 : zI, I28 = zuI I23 160 28 (I23 160 29) →
          ∀ I30 : zI, I30 = zuI I28 160 59 0 →
          gw_X12_island (d + 1) Q 67 [some (.ref 160), some (.int 0)] [] I30 L24 P25
        ) ∧ (r27 = 0 →
          Q (some (.int (-1))) I23 L24 P25 205
        ))
      )
    ) ∧ (¬ r22 = 0 →
      (((I18 160 8) = 0 →
        zMi zm_X12_isGood d [.ref 160] I18 L19 P20 (fun r37 I33 L34 P35 =>
          ((¬ r37 = 0 →
            ∀ I38 : zI, I38 = zuI I33 160 28 (I33 160 29) →
            ∀ I40 : zI, I40 = zuI I38 160 59 0 →
            gw_X12_island (d + 1) Q 67 [some (.ref 160), some (.int 0)] [] I40 L34 P35
          ) ∧ (r37 = 0 →
            Q (some (.int (-1))) I33 L34 P35 205
          ))
        )
      ) ∧ (¬ (I18 160 8) = 0 →
        zMv zm_X12_readLine d [.ref 160] I18 L19 P20 (fun I43 L44 P45 =>
          gw_X12_island (d + 1) Q 22 [some (.ref 160), none] [] I43 L44 P45
        )
      ))
    ))
  )
set_option maxRecDepth 20000 in
theorem g_X12_island_22 {d : Nat} {Q : zQt}  {I : zI} {L : zL} {P : zP} (hP : zPk P) (hv : v_X12_island_22 d Q  I L P) : gw_X12_island (d + 1) Q 22 [some (.ref 160), none] [] I L P := by
  unfold v_X12_island_22 at hv
  refine z_aload_n dX12_island_22 rfl ?_
  refine z_callV (As := []) (st := []) dX12_island_23 zl_X12_233 zv_X12_isGood (by decide) rfl zn_160 zo_160 rfl rfl (Nat.le_of_ble_eq_true rfl) ⟨Nat.le_refl _, Nat.le_refl _⟩ ⟨Nat.le_refl _, Nat.le_refl _⟩ hv (fun v1 I18 L19 P20 nx1 q21 => ?_)
  obtain ⟨rfl, r22, rfl, hv⟩ := q21
  refine z_if_eq (tgt := 43) dX12_island_26 (by decide) (fun q49 => ?_) (fun q49 => ?_)
  · have hv := hv.1 q49
    refine z_aload_n dX12_island_43 rfl ?_
    refine z_callV (As := []) (st := []) dX12_island_44 zl_X12_233 zv_X12_isGood (by decide) rfl zn_160 zo_160 rfl rfl (Nat.le_of_ble_eq_true rfl) ⟨Nat.le_refl _, Nat.le_refl _⟩ ⟨Nat.le_refl _, Nat.le_refl _⟩ hv (fun v1 I23 L24 P25 nx1 q26 => ?_)
    obtain ⟨rfl, r27, rfl, hv⟩ := q26
    refine z_if_ne (tgt := 52) dX12_island_47 (by decide) (fun q32 => ?_) (fun q32 => ?_)
    · have hv := hv.1 q32
      refine z_aload_n dX12_island_52 rfl ?_
      refine z_aload_n dX12_island_53 rfl ?_
      refine z_getI dX12_island_54 zf_X12_243 zn_160 zo_160 (fun _ _ _ _ _ => rfl) ?_
      refine z_putI dX12_island_57 zf_X12_261 zn_160 zo_160 (Or.inl rfl) (fun _ _ _ _ _ => rfl) rfl rfl (z_nmI (fun I28 e29 => ?_))
      have hv := hv I28 e29
      refine z_aload_n dX12_island_60 rfl ?_
      refine z_iconst (v := 0) dX12_island_61 (by decide) ?_
      refine z_putI dX12_island_62 zf_X12_267 zn_160 zo_160 (Or.inl rfl) (fun _ _ _ _ _ => rfl) rfl rfl (z_nmI (fun I30 e31 => ?_))
      have hv := hv I30 e31
      refine z_iconst (v := 0) dX12_island_65 (by decide) ?_
      refine z_istore_n (lv2 := [some (.ref 160), some (.int 0)]) dX12_island_66 (by decide) rfl rfl ?_
      exact hv
    · have hv := hv.2 q32
      refine z_iconst (v := (-1)) dX12_island_50 (by decide) ?_
      exact z_ireturn dX12_island_51 rfl rfl (Nat.le_refl _) (Nat.le_refl _) hv
  · have hv := hv.2 q49
    refine z_aload_n dX12_island_29 rfl ?_
    refine z_getI dX12_island_30 zf_X12_205 zn_160 zo_160 (fun _ _ _ _ _ => rfl) ?_
    refine z_if_eq (tgt := 43) dX12_island_33 (by decide) (fun q48 => ?_) (fun q48 => ?_)
    · have hv := hv.1 q48
      refine z_aload_n dX12_island_43 rfl ?_
      refine z_callV (As := []) (st := []) dX12_island_44 zl_X12_233 zv_X12_isGood (by decide) rfl zn_160 zo_160 rfl rfl (Nat.le_of_ble_eq_true rfl) ⟨Nat.le_refl _, Nat.le_refl _⟩ ⟨Nat.le_refl _, Nat.le_refl _⟩ hv (fun v1 I33 L34 P35 nx1 q36 => ?_)
      obtain ⟨rfl, r37, rfl, hv⟩ := q36
      refine z_if_ne (tgt := 52) dX12_island_47 (by decide) (fun q42 => ?_) (fun q42 => ?_)
      · have hv := hv.1 q42
        refine z_aload_n dX12_island_52 rfl ?_
        refine z_aload_n dX12_island_53 rfl ?_
        refine z_getI dX12_island_54 zf_X12_243 zn_160 zo_160 (fun _ _ _ _ _ => rfl) ?_
        refine z_putI dX12_island_57 zf_X12_261 zn_160 zo_160 (Or.inl rfl) (fun _ _ _ _ _ => rfl) rfl rfl (z_nmI (fun I38 e39 => ?_))
        have hv := hv I38 e39
        refine z_aload_n dX12_island_60 rfl ?_
        refine z_iconst (v := 0) dX12_island_61 (by decide) ?_
        refine z_putI dX12_island_62 zf_X12_267 zn_160 zo_160 (Or.inl rfl) (fun _ _ _ _ _ => rfl) rfl rfl (z_nmI (fun I40 e41 => ?_))
        have hv := hv I40 e41
        refine z_iconst (v := 0) dX12_island_65 (by decide) ?_
        refine z_istore_n (lv2 := [some (.ref 160), some (.int 0)]) dX12_island_66 (by decide) rfl rfl ?_
        exact hv
      · have hv := hv.2 q42
        refine z_iconst (v := (-1)) dX12_island_50 (by decide) ?_
        exact z_ireturn dX12_island_51 rfl rfl (Nat.le_refl _) (Nat.le_refl _) hv
    · have hv := hv.2 q48
      refine z_aload_n dX12_island_36 rfl ?_
      refine z_callV (As := []) (st := []) dX12_island_37 zl_X12_264 zv_X12_readLine (by decide) rfl zn_160 zo_160 rfl rfl (Nat.le_of_ble_eq_true rfl) ⟨Nat.le_refl _, Nat.le_refl _⟩ ⟨Nat.le_refl _, Nat.le_refl _⟩ hv (fun v1 I43 L44 P45 nx1 q46 => ?_)
      obtain ⟨rfl, rfl, hv⟩ := q46
      refine z_goto (tgt := 22) dX12_island_40 (by decide) ?_
      exact hv
def v_X12_island (d : Nat) (Q : zQt)  (I : zI) (L : zL) (P : zP) : Prop :=
  zMv zm_X12_beginText d [.ref 160] I L P (fun I1 L2 P3 =>
    ∀ I6 : zI, I6 = zuI I1 160 29 ((1 : Int32) - (I1 160 28)) →
    zMv zm_X12_clearBank d [.ref 160] I6 L2 P3 (fun I8 L9 P10 =>
      zMv zm_X12_goOn d [.ref 160] I8 L9 P10 (fun I13 L14 P15 =>
        gw_X12_island (d + 1) Q 22 [some (.ref 160), none] [] I13 L14 P15
      )
    )
  )
set_option maxRecDepth 20000 in
theorem g_X12_island {d : Nat} {Q : zQt}  {I : zI} {L : zL} {P : zP} (hP : zPk P) (hv : v_X12_island d Q  I L P) : zM zm_X12_island (d + 1) 0 0 [.ref 160] I L P 205 Q := by
  unfold v_X12_island at hv
  refine zM_of (lv0 := [some (.ref 160), none]) (by decide +kernel) (Nat.le_of_ble_eq_true rfl) rfl ?_
  refine z_aload_n dX12_island_0 rfl ?_
  refine z_callV (As := []) (st := []) dX12_island_1 zl_X12_258 zv_X12_beginText (by decide) rfl zn_160 zo_160 rfl rfl (Nat.le_of_ble_eq_true rfl) ⟨Nat.le_refl _, Nat.le_refl _⟩ ⟨Nat.le_refl _, Nat.le_refl _⟩ hv (fun v1 I1 L2 P3 nx1 q4 => ?_)
  obtain ⟨rfl, rfl, hv⟩ := q4
  refine z_aload_n dX12_island_4 rfl ?_
  refine z_iconst (v := 1) dX12_island_5 (by decide) ?_
  refine z_aload_n dX12_island_6 rfl ?_
  refine z_getI dX12_island_7 zf_X12_261 zn_160 zo_160 (fun _ _ _ _ _ => rfl) ?_
  refine z_isub dX12_island_10 ?_
  refine z_putI dX12_island_11 zf_X12_243 zn_160 zo_160 (Or.inl rfl) (fun _ _ _ _ _ => rfl) rfl rfl (z_nmI (fun I6 e7 => ?_))
  have hv := hv I6 e7
  refine z_aload_n dX12_island_14 rfl ?_
  refine z_callV (As := []) (st := []) dX12_island_15 zl_X12_149 zv_X12_clearBank (by decide) rfl zn_160 zo_160 rfl rfl (Nat.le_of_ble_eq_true rfl) ⟨Nat.le_refl _, Nat.le_refl _⟩ ⟨Nat.le_refl _, Nat.le_refl _⟩ hv (fun v1 I8 L9 P10 nx1 q11 => ?_)
  obtain ⟨rfl, rfl, hv⟩ := q11
  refine z_aload_n dX12_island_18 rfl ?_
  refine z_callV (As := []) (st := []) dX12_island_19 zl_X12_237 zv_X12_goOn (by decide) rfl zn_160 zo_160 rfl rfl (Nat.le_of_ble_eq_true rfl) ⟨Nat.le_refl _, Nat.le_refl _⟩ ⟨Nat.le_refl _, Nat.le_refl _⟩ hv (fun v1 I13 L14 P15 nx1 q16 => ?_)
  obtain ⟨rfl, rfl, hv⟩ := q16
  exact hv
abbrev gw_X12_isBehind (d : Nat) (Q : zQt) (pc : Nat) (lv : zV) (st : List Value) (I : zI) (L : zL) (P : zP) : Prop := zW zm_X12_isBehind (zRm d 0 0) 0 0 Q pc lv st I L P 205 0 0
def v_X12_isBehind (d : Nat) (Q : zQt)  (I : zI) (L : zL) (P : zP) : Prop :=
  vp_in (I 160 29) 2 ∧
  ((0 < (I 164 (I 160 29).toNatClampNeg) →
    Q (some (.int 1)) I L P 205
  ) ∧ (¬ 0 < (I 164 (I 160 29).toNatClampNeg) →
    ((¬ (I 172 (I 160 29).toNatClampNeg) = 0 →
      Q (some (.int 1)) I L P 205
    ) ∧ ((I 172 (I 160 29).toNatClampNeg) = 0 →
      (((I 165 (I 160 29).toNatClampNeg) ≤ 0 →
        Q (some (.int 0)) I L P 205
      ) ∧ (¬ (I 165 (I 160 29).toNatClampNeg) ≤ 0 →
        Q (some (.int 1)) I L P 205
      ))
    ))
  ))
set_option maxRecDepth 20000 in
theorem g_X12_isBehind {d : Nat} {Q : zQt}  {I : zI} {L : zL} {P : zP} (hP : zPk P) (hv : v_X12_isBehind d Q  I L P) : zM zm_X12_isBehind d 0 0 [.ref 160] I L P 205 Q := by
  unfold v_X12_isBehind at hv
  refine zM_of (lv0 := [some (.ref 160)]) (by decide +kernel) (Nat.le_of_ble_eq_true rfl) rfl ?_
  refine z_aload_n dX12_isBehind_0 rfl ?_
  refine z_getP dX12_isBehind_1 zf_X12_24 zn_160 zo_160 (fun _ _ _ _ _ => rfl) (hP 160 12 164 zp_160_12) ?_
  refine z_aload_n dX12_isBehind_4 rfl ?_
  refine z_getI dX12_isBehind_5 zf_X12_243 zn_160 zo_160 (fun _ _ _ _ _ => rfl) ?_
  obtain ⟨h1, hv⟩ := hv
  refine z_iaload dX12_isBehind_8 zn_164 zh_164 h1 ?_
  refine z_if_gt (tgt := 36) dX12_isBehind_9 (by decide) (fun q4 => ?_) (fun q4 => ?_)
  · have hv := hv.1 q4
    refine z_iconst (v := 1) dX12_isBehind_36 (by decide) ?_
    refine z_goto (tgt := 41) dX12_isBehind_37 (by decide) ?_
    exact z_ireturn dX12_isBehind_41 rfl (by decide) (Nat.le_refl _) (Nat.le_refl _) hv
  · have hv := hv.2 q4
    refine z_aload_n dX12_isBehind_12 rfl ?_
    refine z_getP dX12_isBehind_13 zf_X12_49 zn_160 zo_160 (fun _ _ _ _ _ => rfl) (hP 160 20 172 zp_160_20) ?_
    refine z_aload_n dX12_isBehind_16 rfl ?_
    refine z_getI dX12_isBehind_17 zf_X12_243 zn_160 zo_160 (fun _ _ _ _ _ => rfl) ?_
    refine z_zaload dX12_isBehind_20 zn_172 zh_172 h1 ?_
    refine z_if_ne (tgt := 36) dX12_isBehind_21 (by decide) (fun q3 => ?_) (fun q3 => ?_)
    · have hv := hv.1 q3
      refine z_iconst (v := 1) dX12_isBehind_36 (by decide) ?_
      refine z_goto (tgt := 41) dX12_isBehind_37 (by decide) ?_
      exact z_ireturn dX12_isBehind_41 rfl (by decide) (Nat.le_refl _) (Nat.le_refl _) hv
    · have hv := hv.2 q3
      refine z_aload_n dX12_isBehind_24 rfl ?_
      refine z_getP dX12_isBehind_25 zf_X12_27 zn_160 zo_160 (fun _ _ _ _ _ => rfl) (hP 160 13 165 zp_160_13) ?_
      refine z_aload_n dX12_isBehind_28 rfl ?_
      refine z_getI dX12_isBehind_29 zf_X12_243 zn_160 zo_160 (fun _ _ _ _ _ => rfl) ?_
      refine z_iaload dX12_isBehind_32 zn_165 zh_165 h1 ?_
      refine z_if_le (tgt := 40) dX12_isBehind_33 (by decide) (fun q2 => ?_) (fun q2 => ?_)
      · have hv := hv.1 q2
        refine z_iconst (v := 0) dX12_isBehind_40 (by decide) ?_
        exact z_ireturn dX12_isBehind_41 rfl (by decide) (Nat.le_refl _) (Nat.le_refl _) hv
      · have hv := hv.2 q2
        refine z_iconst (v := 1) dX12_isBehind_36 (by decide) ?_
        refine z_goto (tgt := 41) dX12_isBehind_37 (by decide) ?_
        exact z_ireturn dX12_isBehind_41 rfl (by decide) (Nat.le_refl _) (Nat.le_refl _) hv
abbrev gw_X12_isFull (d : Nat) (Q : zQt) (pc : Nat) (lv : zV) (st : List Value) (I : zI) (L : zL) (P : zP) : Prop := zW zm_X12_isFull (zRm d 0 0) 0 0 Q pc lv st I L P 205 0 0
def v_X12_isFull (d : Nat) (Q : zQt)  (I : zI) (L : zL) (P : zP) : Prop :=
  zMi zm_X12_isWord d [.ref 160, .long 7302757] I L P (fun r5 I1 L2 P3 =>
    ((r5 = 0 →
      zMi zm_X12_isWord d [.ref 160, .long 422725643876] I1 L2 P3 (fun r10 I6 L7 P8 =>
        ((r10 = 0 →
          zMi zm_X12_isWord d [.ref 160, .long 7102839] I6 L7 P8 (fun r15 I11 L12 P13 =>
            ((r15 = 0 →
              zMi zm_X12_isWord d [.ref 160, .long 126862485974631] I11 L12 P13 (fun r20 I16 L17 P18 =>
                ((r20 = 0 →
                  Q (some (.int 1)) I16 L17 P18 205
                ) ∧ (¬ r20 = 0 →
                  zPk P18 ∧
                  vp_in (I16 160 29) 2 ∧
                  ((¬ (I16 165 (I16 160 29).toNatClampNeg) = 6 →
                    Q (some (.int 0)) I16 L17 P18 205
                  ) ∧ ((I16 165 (I16 160 29).toNatClampNeg) = 6 →
                    Q (some (.int 1)) I16 L17 P18 205
                  ))
                ))
              )
            ) ∧ (¬ r15 = 0 →
              zPk P13 ∧
              vp_in (I11 160 29) 2 ∧
              (I11 172 (I11 160 29).toNatClampNeg = 0 ∨ I11 172 (I11 160 29).toNatClampNeg = 1) ∧
              Q (some (.int (I11 172 (I11 160 29).toNatClampNeg))) I11 L12 P13 205
            ))
          )
        ) ∧ (¬ r10 = 0 →
          zPk P8 ∧
          vp_in (I6 160 29) 2 ∧
          ((¬ (I6 164 (I6 160 29).toNatClampNeg) = 30 →
            Q (some (.int 0)) I6 L7 P8 205
          ) ∧ ((I6 164 (I6 160 29).toNatClampNeg) = 30 →
            Q (some (.int 1)) I6 L7 P8 205
          ))
        ))
      )
    ) ∧ (¬ r5 = 0 →
      zPk P3 ∧
      vp_in (I1 160 29) 2 ∧
      (((I1 163 (I1 160 29).toNatClampNeg) = 8 →
        Q (some (.int 1)) I1 L2 P3 205
      ) ∧ (¬ (I1 163 (I1 160 29).toNatClampNeg) = 8 →
        zMi zm_X12_isBehind d [.ref 160] I1 L2 P3 (fun r39 I35 L36 P37 =>
          ((r39 = 0 →
            Q (some (.int 0)) I35 L36 P37 205
          ) ∧ (¬ r39 = 0 →
            Q (some (.int 1)) I35 L36 P37 205
          ))
        )
      ))
    ))
  )
set_option maxRecDepth 20000 in
theorem g_X12_isFull {d : Nat} {Q : zQt}  {I : zI} {L : zL} {P : zP} (hP : zPk P) (hv : v_X12_isFull d Q  I L P) : zM zm_X12_isFull (d + 1) 0 0 [.ref 160] I L P 205 Q := by
  unfold v_X12_isFull at hv
  refine zM_of (lv0 := [some (.ref 160)]) (by decide +kernel) (Nat.le_of_ble_eq_true rfl) rfl ?_
  refine z_aload_n dX12_isFull_0 rfl ?_
  refine z_ldc2 (v := 7302757) dX12_isFull_1 zj_X12_161 ?_
  refine z_callV (As := [.long 7302757]) (st := []) dX12_isFull_4 zl_X12_270 zv_X12_isWord (by decide) rfl zn_160 zo_160 rfl rfl (Nat.le_of_ble_eq_true rfl) ⟨Nat.le_refl _, Nat.le_refl _⟩ ⟨Nat.le_refl _, Nat.le_refl _⟩ hv (fun v1 I1 L2 P3 nx1 q4 => ?_)
  obtain ⟨rfl, r5, rfl, hv⟩ := q4
  refine z_if_eq (tgt := 37) dX12_isFull_7 (by decide) (fun q42 => ?_) (fun q42 => ?_)
  · have hv := hv.1 q42
    refine z_aload_n dX12_isFull_37 rfl ?_
    refine z_ldc2 (v := 422725643876) dX12_isFull_38 zj_X12_169 ?_
    refine z_callV (As := [.long 422725643876]) (st := []) dX12_isFull_41 zl_X12_270 zv_X12_isWord (by decide) rfl zn_160 zo_160 rfl rfl (Nat.le_of_ble_eq_true rfl) ⟨Nat.le_refl _, Nat.le_refl _⟩ ⟨Nat.le_refl _, Nat.le_refl _⟩ hv (fun v1 I6 L7 P8 nx1 q9 => ?_)
    obtain ⟨rfl, r10, rfl, hv⟩ := q9
    refine z_if_eq (tgt := 67) dX12_isFull_44 (by decide) (fun q32 => ?_) (fun q32 => ?_)
    · have hv := hv.1 q32
      refine z_aload_n dX12_isFull_67 rfl ?_
      refine z_ldc2 (v := 7102839) dX12_isFull_68 zj_X12_171 ?_
      refine z_callV (As := [.long 7102839]) (st := []) dX12_isFull_71 zl_X12_270 zv_X12_isWord (by decide) rfl zn_160 zo_160 rfl rfl (Nat.le_of_ble_eq_true rfl) ⟨Nat.le_refl _, Nat.le_refl _⟩ ⟨Nat.le_refl _, Nat.le_refl _⟩ hv (fun v1 I11 L12 P13 nx1 q14 => ?_)
      obtain ⟨rfl, r15, rfl, hv⟩ := q14
      refine z_if_eq (tgt := 87) dX12_isFull_74 (by decide) (fun q28 => ?_) (fun q28 => ?_)
      · have hv := hv.1 q28
        refine z_aload_n dX12_isFull_87 rfl ?_
        refine z_ldc2 (v := 126862485974631) dX12_isFull_88 zj_X12_177 ?_
        refine z_callV (As := [.long 126862485974631]) (st := []) dX12_isFull_91 zl_X12_270 zv_X12_isWord (by decide) rfl zn_160 zo_160 rfl rfl (Nat.le_of_ble_eq_true rfl) ⟨Nat.le_refl _, Nat.le_refl _⟩ ⟨Nat.le_refl _, Nat.le_refl _⟩ hv (fun v1 I16 L17 P18 nx1 q19 => ?_)
        obtain ⟨rfl, r20, rfl, hv⟩ := q19
        refine z_if_eq (tgt := 111) dX12_isFull_94 (by decide) (fun q24 => ?_) (fun q24 => ?_)
        · have hv := hv.1 q24
          refine z_iconst (v := 1) dX12_isFull_111 (by decide) ?_
          refine z_goto (tgt := 116) dX12_isFull_112 (by decide) ?_
          exact z_ireturn dX12_isFull_116 rfl (by decide) (Nat.le_refl _) (Nat.le_refl _) hv
        · have hv := hv.2 q24
          refine z_aload_n dX12_isFull_97 rfl ?_
          obtain ⟨h21, hv⟩ := hv
          refine z_getP dX12_isFull_98 zf_X12_27 zn_160 zo_160 (fun _ _ _ _ _ => rfl) (h21 160 13 165 zp_160_13) ?_
          refine z_aload_n dX12_isFull_101 rfl ?_
          refine z_getI dX12_isFull_102 zf_X12_243 zn_160 zo_160 (fun _ _ _ _ _ => rfl) ?_
          obtain ⟨h22, hv⟩ := hv
          refine z_iaload dX12_isFull_105 zn_165 zh_165 h22 ?_
          refine z_bipush (v := 6) dX12_isFull_106 (by decide) ?_
          refine z_icmp_ne (tgt := 115) dX12_isFull_108 (by decide) (fun q23 => ?_) (fun q23 => ?_)
          · have hv := hv.1 q23
            refine z_iconst (v := 0) dX12_isFull_115 (by decide) ?_
            exact z_ireturn dX12_isFull_116 rfl (by decide) (Nat.le_refl _) (Nat.le_refl _) hv
          · have hv := hv.2 q23
            refine z_iconst (v := 1) dX12_isFull_111 (by decide) ?_
            refine z_goto (tgt := 116) dX12_isFull_112 (by decide) ?_
            exact z_ireturn dX12_isFull_116 rfl (by decide) (Nat.le_refl _) (Nat.le_refl _) hv
      · have hv := hv.2 q28
        refine z_aload_n dX12_isFull_77 rfl ?_
        obtain ⟨h25, hv⟩ := hv
        refine z_getP dX12_isFull_78 zf_X12_49 zn_160 zo_160 (fun _ _ _ _ _ => rfl) (h25 160 20 172 zp_160_20) ?_
        refine z_aload_n dX12_isFull_81 rfl ?_
        refine z_getI dX12_isFull_82 zf_X12_243 zn_160 zo_160 (fun _ _ _ _ _ => rfl) ?_
        obtain ⟨h26, hv⟩ := hv
        refine z_zaload dX12_isFull_85 zn_172 zh_172 h26 ?_
        obtain ⟨h27, hv⟩ := hv
        exact z_ireturn dX12_isFull_86 rfl (zbn h27) (Nat.le_refl _) (Nat.le_refl _) hv
    · have hv := hv.2 q32
      refine z_aload_n dX12_isFull_47 rfl ?_
      obtain ⟨h29, hv⟩ := hv
      refine z_getP dX12_isFull_48 zf_X12_24 zn_160 zo_160 (fun _ _ _ _ _ => rfl) (h29 160 12 164 zp_160_12) ?_
      refine z_aload_n dX12_isFull_51 rfl ?_
      refine z_getI dX12_isFull_52 zf_X12_243 zn_160 zo_160 (fun _ _ _ _ _ => rfl) ?_
      obtain ⟨h30, hv⟩ := hv
      refine z_iaload dX12_isFull_55 zn_164 zh_164 h30 ?_
      refine z_bipush (v := 30) dX12_isFull_56 (by decide) ?_
      refine z_icmp_ne (tgt := 65) dX12_isFull_58 (by decide) (fun q31 => ?_) (fun q31 => ?_)
      · have hv := hv.1 q31
        refine z_iconst (v := 0) dX12_isFull_65 (by decide) ?_
        exact z_ireturn dX12_isFull_66 rfl (by decide) (Nat.le_refl _) (Nat.le_refl _) hv
      · have hv := hv.2 q31
        refine z_iconst (v := 1) dX12_isFull_61 (by decide) ?_
        refine z_goto (tgt := 66) dX12_isFull_62 (by decide) ?_
        exact z_ireturn dX12_isFull_66 rfl (by decide) (Nat.le_refl _) (Nat.le_refl _) hv
  · have hv := hv.2 q42
    refine z_aload_n dX12_isFull_10 rfl ?_
    obtain ⟨h33, hv⟩ := hv
    refine z_getP dX12_isFull_11 zf_X12_20 zn_160 zo_160 (fun _ _ _ _ _ => rfl) (h33 160 11 163 zp_160_11) ?_
    refine z_aload_n dX12_isFull_14 rfl ?_
    refine z_getI dX12_isFull_15 zf_X12_243 zn_160 zo_160 (fun _ _ _ _ _ => rfl) ?_
    obtain ⟨h34, hv⟩ := hv
    refine z_iaload dX12_isFull_18 zn_163 zh_163 h34 ?_
    refine z_bipush (v := 8) dX12_isFull_19 (by decide) ?_
    refine z_icmp_eq (tgt := 31) dX12_isFull_21 (by decide) (fun q41 => ?_) (fun q41 => ?_)
    · have hv := hv.1 q41
      refine z_iconst (v := 1) dX12_isFull_31 (by decide) ?_
      refine z_goto (tgt := 36) dX12_isFull_32 (by decide) ?_
      exact z_ireturn dX12_isFull_36 rfl (by decide) (Nat.le_refl _) (Nat.le_refl _) hv
    · have hv := hv.2 q41
      refine z_aload_n dX12_isFull_24 rfl ?_
      refine z_callV (As := []) (st := []) dX12_isFull_25 zl_X12_273 zv_X12_isBehind (by decide) rfl zn_160 zo_160 rfl rfl (Nat.le_of_ble_eq_true rfl) ⟨Nat.le_refl _, Nat.le_refl _⟩ ⟨Nat.le_refl _, Nat.le_refl _⟩ hv (fun v1 I35 L36 P37 nx1 q38 => ?_)
      obtain ⟨rfl, r39, rfl, hv⟩ := q38
      refine z_if_eq (tgt := 35) dX12_isFull_28 (by decide) (fun q40 => ?_) (fun q40 => ?_)
      · have hv := hv.1 q40
        refine z_iconst (v := 0) dX12_isFull_35 (by decide) ?_
        exact z_ireturn dX12_isFull_36 rfl (by decide) (Nat.le_refl _) (Nat.le_refl _) hv
      · have hv := hv.2 q40
        refine z_iconst (v := 1) dX12_isFull_31 (by decide) ?_
        refine z_goto (tgt := 36) dX12_isFull_32 (by decide) ?_
        exact z_ireturn dX12_isFull_36 rfl (by decide) (Nat.le_refl _) (Nat.le_refl _) hv
abbrev gw_X12_readLine (d : Nat) (Q : zQt) (pc : Nat) (lv : zV) (st : List Value) (I : zI) (L : zL) (P : zP) : Prop := zW zm_X12_readLine (zRm d 0 0) 0 0 Q pc lv st I L P 205 0 0
def v_X12_readLine_84 (d : Nat) (Q : zQt)  (I : zI) (L : zL) (P : zP) : Prop :=
  zMi zm_X12_stands d [.ref 160, .int 59] I L P (fun r121 I117 L118 P119 =>
    zMv zm_X12_must d [.ref 160, .int r121] I117 L118 P119 (fun I122 L123 P124 =>
      Q none I122 L123 P124 205
    )
  )
set_option maxRecDepth 20000 in
theorem g_X12_readLine_84 {d : Nat} {Q : zQt}  {I : zI} {L : zL} {P : zP} (hP : zPk P) (hv : v_X12_readLine_84 d Q  I L P) : gw_X12_readLine (d + 1) Q 84 [some (.ref 160), none, none] [] I L P := by
  unfold v_X12_readLine_84 at hv
  refine z_aload_n dX12_readLine_84 rfl ?_
  refine z_aload_n dX12_readLine_85 rfl ?_
  refine z_bipush (v := 59) dX12_readLine_86 (by decide) ?_
  refine z_callV (As := [.int 59]) (st := [.ref 160]) dX12_readLine_88 zl_X12_291 zv_X12_stands (by decide) rfl zn_160 zo_160 rfl rfl (Nat.le_of_ble_eq_true rfl) ⟨Nat.le_refl _, Nat.le_refl _⟩ ⟨Nat.le_refl _, Nat.le_refl _⟩ hv (fun v1 I117 L118 P119 nx1 q120 => ?_)
  obtain ⟨rfl, r121, rfl, hv⟩ := q120
  refine z_callV (As := [.int r121]) (st := []) dX12_readLine_91 zl_X12_294 zv_X12_must (by decide) rfl zn_160 zo_160 rfl rfl (Nat.le_of_ble_eq_true rfl) ⟨Nat.le_refl _, Nat.le_refl _⟩ ⟨Nat.le_refl _, Nat.le_refl _⟩ hv (fun v1 I122 L123 P124 nx1 q125 => ?_)
  obtain ⟨rfl, rfl, hv⟩ := q125
  exact z_return dX12_readLine_94 rfl (Nat.le_refl _) (Nat.le_refl _) hv
def v_X12_readLine_72 (d : Nat) (Q : zQt) (x1 : Int64) (I : zI) (L : zL) (P : zP) : Prop :=
  ((¬ (lg_cmp x1 126862485974631) = 0 →
    gw_X12_readLine (d + 1) Q 84 [some (.ref 160), none, none] [] I L P
  ) ∧ ((lg_cmp x1 126862485974631) = 0 →
    zMv zm_X12_readSaying d [.ref 160] I L P (fun I111 L112 P113 =>
      gw_X12_readLine (d + 1) Q 84 [some (.ref 160), none, none] [] I111 L112 P113
    )
  ))
set_option maxRecDepth 20000 in
theorem g_X12_readLine_72 {d : Nat} {Q : zQt} {x1 : Int64} {I : zI} {L : zL} {P : zP} (hP : zPk P) (hv : v_X12_readLine_72 d Q x1 I L P) : gw_X12_readLine (d + 1) Q 72 [some (.ref 160), some (.long x1), none] [] I L P := by
  unfold v_X12_readLine_72 at hv
  refine z_lload_n dX12_readLine_72 rfl ?_
  refine z_ldc2 (v := 126862485974631) dX12_readLine_73 zj_X12_177 ?_
  refine z_lcmp dX12_readLine_76 ?_
  refine z_if_ne (tgt := 84) dX12_readLine_77 (by decide) (fun q116 => ?_) (fun q116 => ?_)
  · have hv := hv.1 q116
    exact z_sub (by exact ⟨rfl, trivial⟩) hv
  · have hv := hv.2 q116
    refine z_aload_n dX12_readLine_80 rfl ?_
    refine z_callV (As := []) (st := []) dX12_readLine_81 zl_X12_288 zv_X12_readSaying (by decide) rfl zn_160 zo_160 rfl rfl (Nat.le_of_ble_eq_true rfl) ⟨Nat.le_refl _, Nat.le_refl _⟩ ⟨Nat.le_refl _, Nat.le_refl _⟩ hv (fun v1 I111 L112 P113 nx1 q114 => ?_)
    obtain ⟨rfl, rfl, hv⟩ := q114
    exact z_sub (by exact ⟨rfl, trivial⟩) hv
def v_X12_readLine_60 (d : Nat) (Q : zQt) (x1 : Int64) (I : zI) (L : zL) (P : zP) : Prop :=
  ((¬ (lg_cmp x1 7102839) = 0 →
    gw_X12_readLine (d + 1) Q 72 [some (.ref 160), some (.long x1), none] [] I L P
  ) ∧ ((lg_cmp x1 7102839) = 0 →
    zMv zm_X12_readLaw d [.ref 160] I L P (fun I105 L106 P107 =>
      gw_X12_readLine (d + 1) Q 72 [some (.ref 160), some (.long x1), none] [] I105 L106 P107
    )
  ))
set_option maxRecDepth 20000 in
theorem g_X12_readLine_60 {d : Nat} {Q : zQt} {x1 : Int64} {I : zI} {L : zL} {P : zP} (hP : zPk P) (hv : v_X12_readLine_60 d Q x1 I L P) : gw_X12_readLine (d + 1) Q 60 [some (.ref 160), some (.long x1), none] [] I L P := by
  unfold v_X12_readLine_60 at hv
  refine z_lload_n dX12_readLine_60 rfl ?_
  refine z_ldc2 (v := 7102839) dX12_readLine_61 zj_X12_171 ?_
  refine z_lcmp dX12_readLine_64 ?_
  refine z_if_ne (tgt := 72) dX12_readLine_65 (by decide) (fun q110 => ?_) (fun q110 => ?_)
  · have hv := hv.1 q110
    exact hv
  · have hv := hv.2 q110
    refine z_aload_n dX12_readLine_68 rfl ?_
    refine z_callV (As := []) (st := []) dX12_readLine_69 zl_X12_285 zv_X12_readLaw (by decide) rfl zn_160 zo_160 rfl rfl (Nat.le_of_ble_eq_true rfl) ⟨Nat.le_refl _, Nat.le_refl _⟩ ⟨Nat.le_refl _, Nat.le_refl _⟩ hv (fun v1 I105 L106 P107 nx1 q108 => ?_)
    obtain ⟨rfl, rfl, hv⟩ := q108
    exact hv
def v_X12_readLine (d : Nat) (Q : zQt)  (I : zI) (L : zL) (P : zP) : Prop :=
  ((¬ (I 160 8) = 3 →
    zMv zm_X12_misplaced d [.ref 160] I L P (fun I1 L2 P3 =>
      zMi zm_X12_isGood d [.ref 160] I1 L2 P3 (fun r10 I6 L7 P8 =>
        ((¬ r10 = 0 →
          zMv zm_X12_goOn d [.ref 160] I6 L7 P8 (fun I11 L12 P13 =>
            ((¬ (lg_cmp (L 160 10) 7302757) = 0 →
              ((¬ (lg_cmp (L 160 10) 422725643876) = 0 →
                gw_X12_readLine (d + 1) Q 60 [some (.ref 160), some (.long (L 160 10)), none] [] I11 L12 P13
              ) ∧ ((lg_cmp (L 160 10) 422725643876) = 0 →
                zMv zm_X12_readBlind d [.ref 160] I11 L12 P13 (fun I16 L17 P18 =>
                  gw_X12_readLine (d + 1) Q 60 [some (.ref 160), some (.long (L 160 10)), none] [] I16 L17 P18
                )
              ))
            ) ∧ ((lg_cmp (L 160 10) 7302757) = 0 →
              zMv zm_X12_readOne d [.ref 160] I11 L12 P13 (fun I22 L23 P24 =>
                ((¬ (lg_cmp (L 160 10) 422725643876) = 0 →
                  gw_X12_readLine (d + 1) Q 60 [some (.ref 160), some (.long (L 160 10)), none] [] I22 L23 P24
                ) ∧ ((lg_cmp (L 160 10) 422725643876) = 0 →
                  zMv zm_X12_readBlind d [.ref 160] I22 L23 P24 (fun I27 L28 P29 =>
                    gw_X12_readLine (d + 1) Q 60 [some (.ref 160), some (.long (L 160 10)), none] [] I27 L28 P29
                  )
                ))
              )
            ))
          )
        ) ∧ (r10 = 0 →
          Q none I6 L7 P8 205
        ))
      )
    )
  ) ∧ ((I 160 8) = 3 →
    zMi zm_X12_isFull d [.ref 160] I L P (fun r39 I35 L36 P37 =>
      ((r39 = 0 →
        zMi zm_X12_isGood d [.ref 160] I35 L36 P37 (fun r44 I40 L41 P42 =>
          ((¬ r44 = 0 →
            zMv zm_X12_goOn d [.ref 160] I40 L41 P42 (fun I45 L46 P47 =>
              ((¬ (lg_cmp (L 160 10) 7302757) = 0 →
                ((¬ (lg_cmp (L 160 10) 422725643876) = 0 →
                  gw_X12_readLine (d + 1) Q 60 [some (.ref 160), some (.long (L 160 10)), none] [] I45 L46 P47
                ) ∧ ((lg_cmp (L 160 10) 422725643876) = 0 →
                  zMv zm_X12_readBlind d [.ref 160] I45 L46 P47 (fun I50 L51 P52 =>
                    gw_X12_readLine (d + 1) Q 60 [some (.ref 160), some (.long (L 160 10)), none] [] I50 L51 P52
                  )
                ))
              ) ∧ ((lg_cmp (L 160 10) 7302757) = 0 →
                zMv zm_X12_readOne d [.ref 160] I45 L46 P47 (fun I56 L57 P58 =>
                  ((¬ (lg_cmp (L 160 10) 422725643876) = 0 →
                    gw_X12_readLine (d + 1) Q 60 [some (.ref 160), some (.long (L 160 10)), none] [] I56 L57 P58
                  ) ∧ ((lg_cmp (L 160 10) 422725643876) = 0 →
                    zMv zm_X12_readBlind d [.ref 160] I56 L57 P58 (fun I61 L62 P63 =>
                      gw_X12_readLine (d + 1) Q 60 [some (.ref 160), some (.long (L 160 10)), none] [] I61 L62 P63
                    )
                  ))
                )
              ))
            )
          ) ∧ (r44 = 0 →
            Q none I40 L41 P42 205
          ))
        )
      ) ∧ (¬ r39 = 0 →
        zMv zm_X12_misplaced d [.ref 160] I35 L36 P37 (fun I69 L70 P71 =>
          zMi zm_X12_isGood d [.ref 160] I69 L70 P71 (fun r78 I74 L75 P76 =>
            ((¬ r78 = 0 →
              zMv zm_X12_goOn d [.ref 160] I74 L75 P76 (fun I79 L80 P81 =>
                ((¬ (lg_cmp (L 160 10) 7302757) = 0 →
                  ((¬ (lg_cmp (L 160 10) 422725643876) = 0 →
                    gw_X12_readLine (d + 1) Q 60 [some (.ref 160), some (.long (L 160 10)), none] [] I79 L80 P81
                  ) ∧ ((lg_cmp (L 160 10) 422725643876) = 0 →
                    zMv zm_X12_readBlind d [.ref 160] I79 L80 P81 (fun I84 L85 P86 =>
                      gw_X12_readLine (d + 1) Q 60 [some (.ref 160), some (.long (L 160 10)), none] [] I84 L85 P86
                    )
                  ))
                ) ∧ ((lg_cmp (L 160 10) 7302757) = 0 →
                  zMv zm_X12_readOne d [.ref 160] I79 L80 P81 (fun I90 L91 P92 =>
                    ((¬ (lg_cmp (L 160 10) 422725643876) = 0 →
                      gw_X12_readLine (d + 1) Q 60 [some (.ref 160), some (.long (L 160 10)), none] [] I90 L91 P92
                    ) ∧ ((lg_cmp (L 160 10) 422725643876) = 0 →
                      zMv zm_X12_readBlind d [.ref 160] I90 L91 P92 (fun I95 L96 P97 =>
                        gw_X12_readLine (d + 1) Q 60 [some (.ref 160), some (.long (L 160 10)), none] [] I95 L96 P97
                      )
                    ))
                  )
                ))
              )
            ) ∧ (r78 = 0 →
              Q none I74 L75 P76 205
            ))
          )
        )
      ))
    )
  ))
set_option maxRecDepth 20000 in
theorem g_X12_readLine {d : Nat} {Q : zQt}  {I : zI} {L : zL} {P : zP} (hP : zPk P) (hv : v_X12_readLine d Q  I L P) : zM zm_X12_readLine (d + 1) 0 0 [.ref 160] I L P 205 Q := by
  unfold v_X12_readLine at hv
  refine zM_of (lv0 := [some (.ref 160), none, none]) (by decide +kernel) (Nat.le_of_ble_eq_true rfl) rfl ?_
  refine z_aload_n dX12_readLine_0 rfl ?_
  refine z_getL dX12_readLine_1 zf_X12_212 zn_160 zo_160 (fun _ _ _ _ _ => rfl) ?_
  refine z_lstore_n (lv2 := [some (.ref 160), some (.long (L 160 10)), none]) dX12_readLine_4 (by decide) rfl rfl ?_
  refine z_aload_n dX12_readLine_5 rfl ?_
  refine z_getI dX12_readLine_6 zf_X12_205 zn_160 zo_160 (fun _ _ _ _ _ => rfl) ?_
  refine z_iconst (v := 3) dX12_readLine_9 (by decide) ?_
  refine z_icmp_ne (tgt := 20) dX12_readLine_10 (by decide) (fun q104 => ?_) (fun q104 => ?_)
  · have hv := hv.1 q104
    refine z_aload_n dX12_readLine_20 rfl ?_
    refine z_callV (As := []) (st := []) dX12_readLine_21 zl_X12_240 zv_X12_misplaced (by decide) rfl zn_160 zo_160 rfl rfl (Nat.le_of_ble_eq_true rfl) ⟨Nat.le_refl _, Nat.le_refl _⟩ ⟨Nat.le_refl _, Nat.le_refl _⟩ hv (fun v1 I1 L2 P3 nx1 q4 => ?_)
    obtain ⟨rfl, rfl, hv⟩ := q4
    refine z_aload_n dX12_readLine_24 rfl ?_
    refine z_callV (As := []) (st := []) dX12_readLine_25 zl_X12_233 zv_X12_isGood (by decide) rfl zn_160 zo_160 rfl rfl (Nat.le_of_ble_eq_true rfl) ⟨Nat.le_refl _, Nat.le_refl _⟩ ⟨Nat.le_refl _, Nat.le_refl _⟩ hv (fun v1 I6 L7 P8 nx1 q9 => ?_)
    obtain ⟨rfl, r10, rfl, hv⟩ := q9
    refine z_if_ne (tgt := 32) dX12_readLine_28 (by decide) (fun q34 => ?_) (fun q34 => ?_)
    · have hv := hv.1 q34
      refine z_aload_n dX12_readLine_32 rfl ?_
      refine z_callV (As := []) (st := []) dX12_readLine_33 zl_X12_237 zv_X12_goOn (by decide) rfl zn_160 zo_160 rfl rfl (Nat.le_of_ble_eq_true rfl) ⟨Nat.le_refl _, Nat.le_refl _⟩ ⟨Nat.le_refl _, Nat.le_refl _⟩ hv (fun v1 I11 L12 P13 nx1 q14 => ?_)
      obtain ⟨rfl, rfl, hv⟩ := q14
      refine z_lload_n dX12_readLine_36 rfl ?_
      refine z_ldc2 (v := 7302757) dX12_readLine_37 zj_X12_161 ?_
      refine z_lcmp dX12_readLine_40 ?_
      refine z_if_ne (tgt := 48) dX12_readLine_41 (by decide) (fun q33 => ?_) (fun q33 => ?_)
      · have hv := hv.1 q33
        refine z_lload_n dX12_readLine_48 rfl ?_
        refine z_ldc2 (v := 422725643876) dX12_readLine_49 zj_X12_169 ?_
        refine z_lcmp dX12_readLine_52 ?_
        refine z_if_ne (tgt := 60) dX12_readLine_53 (by decide) (fun q21 => ?_) (fun q21 => ?_)
        · have hv := hv.1 q21
          exact hv
        · have hv := hv.2 q21
          refine z_aload_n dX12_readLine_56 rfl ?_
          refine z_callV (As := []) (st := []) dX12_readLine_57 zl_X12_282 zv_X12_readBlind (by decide) rfl zn_160 zo_160 rfl rfl (Nat.le_of_ble_eq_true rfl) ⟨Nat.le_refl _, Nat.le_refl _⟩ ⟨Nat.le_refl _, Nat.le_refl _⟩ hv (fun v1 I16 L17 P18 nx1 q19 => ?_)
          obtain ⟨rfl, rfl, hv⟩ := q19
          exact hv
      · have hv := hv.2 q33
        refine z_aload_n dX12_readLine_44 rfl ?_
        refine z_callV (As := []) (st := []) dX12_readLine_45 zl_X12_279 zv_X12_readOne (by decide) rfl zn_160 zo_160 rfl rfl (Nat.le_of_ble_eq_true rfl) ⟨Nat.le_refl _, Nat.le_refl _⟩ ⟨Nat.le_refl _, Nat.le_refl _⟩ hv (fun v1 I22 L23 P24 nx1 q25 => ?_)
        obtain ⟨rfl, rfl, hv⟩ := q25
        refine z_lload_n dX12_readLine_48 rfl ?_
        refine z_ldc2 (v := 422725643876) dX12_readLine_49 zj_X12_169 ?_
        refine z_lcmp dX12_readLine_52 ?_
        refine z_if_ne (tgt := 60) dX12_readLine_53 (by decide) (fun q32 => ?_) (fun q32 => ?_)
        · have hv := hv.1 q32
          exact hv
        · have hv := hv.2 q32
          refine z_aload_n dX12_readLine_56 rfl ?_
          refine z_callV (As := []) (st := []) dX12_readLine_57 zl_X12_282 zv_X12_readBlind (by decide) rfl zn_160 zo_160 rfl rfl (Nat.le_of_ble_eq_true rfl) ⟨Nat.le_refl _, Nat.le_refl _⟩ ⟨Nat.le_refl _, Nat.le_refl _⟩ hv (fun v1 I27 L28 P29 nx1 q30 => ?_)
          obtain ⟨rfl, rfl, hv⟩ := q30
          exact hv
    · have hv := hv.2 q34
      exact z_return dX12_readLine_31 rfl (Nat.le_refl _) (Nat.le_refl _) hv
  · have hv := hv.2 q104
    refine z_aload_n dX12_readLine_13 rfl ?_
    refine z_callV (As := []) (st := []) dX12_readLine_14 zl_X12_276 zv_X12_isFull (by decide) rfl zn_160 zo_160 rfl rfl (Nat.le_of_ble_eq_true rfl) ⟨Nat.le_refl _, Nat.le_refl _⟩ ⟨Nat.le_refl _, Nat.le_refl _⟩ hv (fun v1 I35 L36 P37 nx1 q38 => ?_)
    obtain ⟨rfl, r39, rfl, hv⟩ := q38
    refine z_if_eq (tgt := 24) dX12_readLine_17 (by decide) (fun q103 => ?_) (fun q103 => ?_)
    · have hv := hv.1 q103
      refine z_aload_n dX12_readLine_24 rfl ?_
      refine z_callV (As := []) (st := []) dX12_readLine_25 zl_X12_233 zv_X12_isGood (by decide) rfl zn_160 zo_160 rfl rfl (Nat.le_of_ble_eq_true rfl) ⟨Nat.le_refl _, Nat.le_refl _⟩ ⟨Nat.le_refl _, Nat.le_refl _⟩ hv (fun v1 I40 L41 P42 nx1 q43 => ?_)
      obtain ⟨rfl, r44, rfl, hv⟩ := q43
      refine z_if_ne (tgt := 32) dX12_readLine_28 (by decide) (fun q68 => ?_) (fun q68 => ?_)
      · have hv := hv.1 q68
        refine z_aload_n dX12_readLine_32 rfl ?_
        refine z_callV (As := []) (st := []) dX12_readLine_33 zl_X12_237 zv_X12_goOn (by decide) rfl zn_160 zo_160 rfl rfl (Nat.le_of_ble_eq_true rfl) ⟨Nat.le_refl _, Nat.le_refl _⟩ ⟨Nat.le_refl _, Nat.le_refl _⟩ hv (fun v1 I45 L46 P47 nx1 q48 => ?_)
        obtain ⟨rfl, rfl, hv⟩ := q48
        refine z_lload_n dX12_readLine_36 rfl ?_
        refine z_ldc2 (v := 7302757) dX12_readLine_37 zj_X12_161 ?_
        refine z_lcmp dX12_readLine_40 ?_
        refine z_if_ne (tgt := 48) dX12_readLine_41 (by decide) (fun q67 => ?_) (fun q67 => ?_)
        · have hv := hv.1 q67
          refine z_lload_n dX12_readLine_48 rfl ?_
          refine z_ldc2 (v := 422725643876) dX12_readLine_49 zj_X12_169 ?_
          refine z_lcmp dX12_readLine_52 ?_
          refine z_if_ne (tgt := 60) dX12_readLine_53 (by decide) (fun q55 => ?_) (fun q55 => ?_)
          · have hv := hv.1 q55
            exact hv
          · have hv := hv.2 q55
            refine z_aload_n dX12_readLine_56 rfl ?_
            refine z_callV (As := []) (st := []) dX12_readLine_57 zl_X12_282 zv_X12_readBlind (by decide) rfl zn_160 zo_160 rfl rfl (Nat.le_of_ble_eq_true rfl) ⟨Nat.le_refl _, Nat.le_refl _⟩ ⟨Nat.le_refl _, Nat.le_refl _⟩ hv (fun v1 I50 L51 P52 nx1 q53 => ?_)
            obtain ⟨rfl, rfl, hv⟩ := q53
            exact hv
        · have hv := hv.2 q67
          refine z_aload_n dX12_readLine_44 rfl ?_
          refine z_callV (As := []) (st := []) dX12_readLine_45 zl_X12_279 zv_X12_readOne (by decide) rfl zn_160 zo_160 rfl rfl (Nat.le_of_ble_eq_true rfl) ⟨Nat.le_refl _, Nat.le_refl _⟩ ⟨Nat.le_refl _, Nat.le_refl _⟩ hv (fun v1 I56 L57 P58 nx1 q59 => ?_)
          obtain ⟨rfl, rfl, hv⟩ := q59
          refine z_lload_n dX12_readLine_48 rfl ?_
          refine z_ldc2 (v := 422725643876) dX12_readLine_49 zj_X12_169 ?_
          refine z_lcmp dX12_readLine_52 ?_
          refine z_if_ne (tgt := 60) dX12_readLine_53 (by decide) (fun q66 => ?_) (fun q66 => ?_)
          · have hv := hv.1 q66
            exact hv
          · have hv := hv.2 q66
            refine z_aload_n dX12_readLine_56 rfl ?_
            refine z_callV (As := []) (st := []) dX12_readLine_57 zl_X12_282 zv_X12_readBlind (by decide) rfl zn_160 zo_160 rfl rfl (Nat.le_of_ble_eq_true rfl) ⟨Nat.le_refl _, Nat.le_refl _⟩ ⟨Nat.le_refl _, Nat.le_refl _⟩ hv (fun v1 I61 L62 P63 nx1 q64 => ?_)
            obtain ⟨rfl, rfl, hv⟩ := q64
            exact hv
      · have hv := hv.2 q68
        exact z_return dX12_readLine_31 rfl (Nat.le_refl _) (Nat.le_refl _) hv
    · have hv := hv.2 q103
      refine z_aload_n dX12_readLine_20 rfl ?_
      refine z_callV (As := []) (st := []) dX12_readLine_21 zl_X12_240 zv_X12_misplaced (by decide) rfl zn_160 zo_160 rfl rfl (Nat.le_of_ble_eq_true rfl) ⟨Nat.le_refl _, Nat.le_refl _⟩ ⟨Nat.le_refl _, Nat.le_refl _⟩ hv (fun v1 I69 L70 P71 nx1 q72 => ?_)
      obtain ⟨rfl, rfl, hv⟩ := q72
      refine z_aload_n dX12_readLine_24 rfl ?_
      refine z_callV (As := []) (st := []) dX12_readLine_25 zl_X12_233 zv_X12_isGood (by decide) rfl zn_160 zo_160 rfl rfl (Nat.le_of_ble_eq_true rfl) ⟨Nat.le_refl _, Nat.le_refl _⟩ ⟨Nat.le_refl _, Nat.le_refl _⟩ hv (fun v1 I74 L75 P76 nx1 q77 => ?_)
      obtain ⟨rfl, r78, rfl, hv⟩ := q77
      refine z_if_ne (tgt := 32) dX12_readLine_28 (by decide) (fun q102 => ?_) (fun q102 => ?_)
      · have hv := hv.1 q102
        refine z_aload_n dX12_readLine_32 rfl ?_
        refine z_callV (As := []) (st := []) dX12_readLine_33 zl_X12_237 zv_X12_goOn (by decide) rfl zn_160 zo_160 rfl rfl (Nat.le_of_ble_eq_true rfl) ⟨Nat.le_refl _, Nat.le_refl _⟩ ⟨Nat.le_refl _, Nat.le_refl _⟩ hv (fun v1 I79 L80 P81 nx1 q82 => ?_)
        obtain ⟨rfl, rfl, hv⟩ := q82
        refine z_lload_n dX12_readLine_36 rfl ?_
        refine z_ldc2 (v := 7302757) dX12_readLine_37 zj_X12_161 ?_
        refine z_lcmp dX12_readLine_40 ?_
        refine z_if_ne (tgt := 48) dX12_readLine_41 (by decide) (fun q101 => ?_) (fun q101 => ?_)
        · have hv := hv.1 q101
          refine z_lload_n dX12_readLine_48 rfl ?_
          refine z_ldc2 (v := 422725643876) dX12_readLine_49 zj_X12_169 ?_
          refine z_lcmp dX12_readLine_52 ?_
          refine z_if_ne (tgt := 60) dX12_readLine_53 (by decide) (fun q89 => ?_) (fun q89 => ?_)
          · have hv := hv.1 q89
            exact hv
          · have hv := hv.2 q89
            refine z_aload_n dX12_readLine_56 rfl ?_
            refine z_callV (As := []) (st := []) dX12_readLine_57 zl_X12_282 zv_X12_readBlind (by decide) rfl zn_160 zo_160 rfl rfl (Nat.le_of_ble_eq_true rfl) ⟨Nat.le_refl _, Nat.le_refl _⟩ ⟨Nat.le_refl _, Nat.le_refl _⟩ hv (fun v1 I84 L85 P86 nx1 q87 => ?_)
            obtain ⟨rfl, rfl, hv⟩ := q87
            exact hv
        · have hv := hv.2 q101
          refine z_aload_n dX12_readLine_44 rfl ?_
          refine z_callV (As := []) (st := []) dX12_readLine_45 zl_X12_279 zv_X12_readOne (by decide) rfl zn_160 zo_160 rfl rfl (Nat.le_of_ble_eq_true rfl) ⟨Nat.le_refl _, Nat.le_refl _⟩ ⟨Nat.le_refl _, Nat.le_refl _⟩ hv (fun v1 I90 L91 P92 nx1 q93 => ?_)
          obtain ⟨rfl, rfl, hv⟩ := q93
          refine z_lload_n dX12_readLine_48 rfl ?_
          refine z_ldc2 (v := 422725643876) dX12_readLine_49 zj_X12_169 ?_
          refine z_lcmp dX12_readLine_52 ?_
          refine z_if_ne (tgt := 60) dX12_readLine_53 (by decide) (fun q100 => ?_) (fun q100 => ?_)
          · have hv := hv.1 q100
            exact hv
          · have hv := hv.2 q100
            refine z_aload_n dX12_readLine_56 rfl ?_
            refine z_callV (As := []) (st := []) dX12_readLine_57 zl_X12_282 zv_X12_readBlind (by decide) rfl zn_160 zo_160 rfl rfl (Nat.le_of_ble_eq_true rfl) ⟨Nat.le_refl _, Nat.le_refl _⟩ ⟨Nat.le_refl _, Nat.le_refl _⟩ hv (fun v1 I95 L96 P97 nx1 q98 => ?_)
            obtain ⟨rfl, rfl, hv⟩ := q98
            exact hv
      · have hv := hv.2 q102
        exact z_return dX12_readLine_31 rfl (Nat.le_refl _) (Nat.le_refl _) hv
abbrev gw_X12_here (d : Nat) (Q : zQt) (pc : Nat) (lv : zV) (st : List Value) (I : zI) (L : zL) (P : zP) : Prop := zW zm_X12_here (zRm d 0 0) 0 0 Q pc lv st I L P 205 0 0
def v_X12_here_2 (d : Nat) (Q : zQt) (x1 : Int32) (I : zI) (L : zL) (P : zP) : Prop :=
  vp_in (I 160 29) 2 ∧
  (((I 163 (I 160 29).toNatClampNeg) ≤ x1 →
    Q (some (.int (-1))) I L P 205
  ) ∧ (¬ (I 163 (I 160 29).toNatClampNeg) ≤ x1 →
    ((¬ (I 160 8) = 2 →
      gw_X12_here d Q 2 [some (.ref 160), some (.int (x1 + 1))] [] I L P
    ) ∧ ((I 160 8) = 2 →
      vp_in (((8 : Int32) * (I 160 29)) + x1) 16 ∧
      ((¬ (lg_cmp (L 174 (((8 : Int32) * (I 160 29)) + x1).toNatClampNeg) (L 160 10)) = 0 →
        gw_X12_here d Q 2 [some (.ref 160), some (.int (x1 + 1))] [] I L P
      ) ∧ ((lg_cmp (L 174 (((8 : Int32) * (I 160 29)) + x1).toNatClampNeg) (L 160 10)) = 0 →
        Q (some (.int x1)) I L P 205
      ))
    ))
  ))
set_option maxRecDepth 20000 in
theorem g_X12_here_2 {d : Nat} {Q : zQt} {x1 : Int32} {I : zI} {L : zL} {P : zP} (hP : zPk P) (hv : v_X12_here_2 d Q x1 I L P) : gw_X12_here d Q 2 [some (.ref 160), some (.int x1)] [] I L P := by
  unfold v_X12_here_2 at hv
  refine z_iload_n dX12_here_2 rfl ?_
  refine z_aload_n dX12_here_3 rfl ?_
  refine z_getP dX12_here_4 zf_X12_20 zn_160 zo_160 (fun _ _ _ _ _ => rfl) (hP 160 11 163 zp_160_11) ?_
  refine z_aload_n dX12_here_7 rfl ?_
  refine z_getI dX12_here_8 zf_X12_243 zn_160 zo_160 (fun _ _ _ _ _ => rfl) ?_
  obtain ⟨h1, hv⟩ := hv
  refine z_iaload dX12_here_11 zn_163 zh_163 h1 ?_
  refine z_icmp_ge (tgt := 53) dX12_here_12 (by decide) (fun q5 => ?_) (fun q5 => ?_)
  · have hv := hv.1 q5
    refine z_iconst (v := (-1)) dX12_here_53 (by decide) ?_
    exact z_ireturn dX12_here_54 rfl rfl (Nat.le_refl _) (Nat.le_refl _) hv
  · have hv := hv.2 q5
    refine z_aload_n dX12_here_15 rfl ?_
    refine z_getI dX12_here_16 zf_X12_205 zn_160 zo_160 (fun _ _ _ _ _ => rfl) ?_
    refine z_iconst (v := 2) dX12_here_19 (by decide) ?_
    refine z_icmp_ne (tgt := 47) dX12_here_20 (by decide) (fun q4 => ?_) (fun q4 => ?_)
    · have hv := hv.1 q4
      refine z_iinc (v2 := x1 + 1) (lv2 := [some (.ref 160), some (.int (x1 + 1))]) dX12_here_47 rfl (by rfl) (by decide) rfl rfl ?_
      refine z_goto (tgt := 2) dX12_here_50 (by decide) ?_
      exact hv
    · have hv := hv.2 q4
      refine z_aload_n dX12_here_23 rfl ?_
      refine z_getP dX12_here_24 zf_X12_55 zn_160 zo_160 (fun _ _ _ _ _ => rfl) (hP 160 22 174 zp_160_22) ?_
      refine z_bipush (v := 8) dX12_here_27 (by decide) ?_
      refine z_aload_n dX12_here_29 rfl ?_
      refine z_getI dX12_here_30 zf_X12_243 zn_160 zo_160 (fun _ _ _ _ _ => rfl) ?_
      refine z_imul dX12_here_33 ?_
      refine z_iload_n dX12_here_34 rfl ?_
      refine z_iadd dX12_here_35 ?_
      obtain ⟨h2, hv⟩ := hv
      refine z_laload dX12_here_36 zn_174 zh_174 h2 ?_
      refine z_aload_n dX12_here_37 rfl ?_
      refine z_getL dX12_here_38 zf_X12_212 zn_160 zo_160 (fun _ _ _ _ _ => rfl) ?_
      refine z_lcmp dX12_here_41 ?_
      refine z_if_ne (tgt := 47) dX12_here_42 (by decide) (fun q3 => ?_) (fun q3 => ?_)
      · have hv := hv.1 q3
        refine z_iinc (v2 := x1 + 1) (lv2 := [some (.ref 160), some (.int (x1 + 1))]) dX12_here_47 rfl (by rfl) (by decide) rfl rfl ?_
        refine z_goto (tgt := 2) dX12_here_50 (by decide) ?_
        exact hv
      · have hv := hv.2 q3
        refine z_iload_n dX12_here_45 rfl ?_
        exact z_ireturn dX12_here_46 rfl rfl (Nat.le_refl _) (Nat.le_refl _) hv
def v_X12_here (d : Nat) (Q : zQt)  (I : zI) (L : zL) (P : zP) : Prop :=
  gw_X12_here d Q 2 [some (.ref 160), some (.int 0)] [] I L P
set_option maxRecDepth 20000 in
theorem g_X12_here {d : Nat} {Q : zQt}  {I : zI} {L : zL} {P : zP} (hP : zPk P) (hv : v_X12_here d Q  I L P) : zM zm_X12_here d 0 0 [.ref 160] I L P 205 Q := by
  unfold v_X12_here at hv
  refine zM_of (lv0 := [some (.ref 160), none]) (by decide +kernel) (Nat.le_of_ble_eq_true rfl) rfl ?_
  refine z_iconst (v := 0) dX12_here_0 (by decide) ?_
  refine z_istore_n (lv2 := [some (.ref 160), some (.int 0)]) dX12_here_1 (by decide) rfl rfl ?_
  exact hv
abbrev gw_X12_known (d : Nat) (Q : zQt) (pc : Nat) (lv : zV) (st : List Value) (I : zI) (L : zL) (P : zP) : Prop := zW zm_X12_known (zRm d 0 0) 0 0 Q pc lv st I L P 205 0 0
def v_X12_known_57 (d : Nat) (Q : zQt) (t0 : Int32) (I : zI) (L : zL) (P : zP) : Prop :=
  Q (some (.int t0)) I L P 205
set_option maxRecDepth 20000 in
theorem g_X12_known_57 {d : Nat} {Q : zQt} {t0 : Int32} {I : zI} {L : zL} {P : zP} (hP : zPk P) (hv : v_X12_known_57 d Q t0 I L P) : gw_X12_known (d + 1) Q 57 [none, none] [.int t0] I L P := by
  unfold v_X12_known_57 at hv
  exact z_ireturn dX12_known_57 rfl rfl (Nat.le_refl _) (Nat.le_refl _) hv
def v_X12_known (d : Nat) (Q : zQt) (p1 : Int32) (I : zI) (L : zL) (P : zP) : Prop :=
  zMi zm_X12_isGood d [.ref 160] I L P (fun r5 I1 L2 P3 =>
    ((¬ r5 = 0 →
      (((I1 160 8) = 2 →
        ((0 ≤ p1 →
          zMi zm_X12_isGood d [.ref 160] I1 L2 P3 (fun r10 I6 L7 P8 =>
            ((r10 = 0 →
              ((0 ≤ p1 →
                gw_X12_known (d + 1) Q 57 [none, none] [.int p1] I6 L7 P8
              ) ∧ (¬ 0 ≤ p1 →
                gw_X12_known (d + 1) Q 57 [none, none] [.int 0] I6 L7 P8
              ))
            ) ∧ (¬ r10 = 0 →
              zMv zm_X12_goOn d [.ref 160] I6 L7 P8 (fun I12 L13 P14 =>
                ((0 ≤ p1 →
                  gw_X12_known (d + 1) Q 57 [none, none] [.int p1] I12 L13 P14
                ) ∧ (¬ 0 ≤ p1 →
                  gw_X12_known (d + 1) Q 57 [none, none] [.int 0] I12 L13 P14
                ))
              )
            ))
          )
        ) ∧ (¬ 0 ≤ p1 →
          zMv zm_X12_fails d [.ref 160, .int 4, .int (I1 160 6)] I1 L2 P3 (fun I19 L20 P21 =>
            zMi zm_X12_isGood d [.ref 160] I19 L20 P21 (fun r28 I24 L25 P26 =>
              ((r28 = 0 →
                ((0 ≤ p1 →
                  gw_X12_known (d + 1) Q 57 [none, none] [.int p1] I24 L25 P26
                ) ∧ (¬ 0 ≤ p1 →
                  gw_X12_known (d + 1) Q 57 [none, none] [.int 0] I24 L25 P26
                ))
              ) ∧ (¬ r28 = 0 →
                zMv zm_X12_goOn d [.ref 160] I24 L25 P26 (fun I30 L31 P32 =>
                  ((0 ≤ p1 →
                    gw_X12_known (d + 1) Q 57 [none, none] [.int p1] I30 L31 P32
                  ) ∧ (¬ 0 ≤ p1 →
                    gw_X12_known (d + 1) Q 57 [none, none] [.int 0] I30 L31 P32
                  ))
                )
              ))
            )
          )
        ))
      ) ∧ (¬ (I1 160 8) = 2 →
        zMv zm_X12_misplaced d [.ref 160] I1 L2 P3 (fun I38 L39 P40 =>
          zMi zm_X12_isGood d [.ref 160] I38 L39 P40 (fun r47 I43 L44 P45 =>
            ((r47 = 0 →
              ((0 ≤ p1 →
                gw_X12_known (d + 1) Q 57 [none, none] [.int p1] I43 L44 P45
              ) ∧ (¬ 0 ≤ p1 →
                gw_X12_known (d + 1) Q 57 [none, none] [.int 0] I43 L44 P45
              ))
            ) ∧ (¬ r47 = 0 →
              zMv zm_X12_goOn d [.ref 160] I43 L44 P45 (fun I49 L50 P51 =>
                ((0 ≤ p1 →
                  gw_X12_known (d + 1) Q 57 [none, none] [.int p1] I49 L50 P51
                ) ∧ (¬ 0 ≤ p1 →
                  gw_X12_known (d + 1) Q 57 [none, none] [.int 0] I49 L50 P51
                ))
              )
            ))
          )
        )
      ))
    ) ∧ (r5 = 0 →
      Q (some (.int 0)) I1 L2 P3 205
    ))
  )
set_option maxRecDepth 20000 in
theorem g_X12_known {d : Nat} {Q : zQt} {p1 : Int32} {I : zI} {L : zL} {P : zP} (hP : zPk P) (hv : v_X12_known d Q p1 I L P) : zM zm_X12_known (d + 1) 0 0 [.ref 160, .int p1] I L P 205 Q := by
  unfold v_X12_known at hv
  refine zM_of (lv0 := [some (.ref 160), some (.int p1)]) (by decide +kernel) (Nat.le_of_ble_eq_true rfl) rfl ?_
  refine z_aload_n dX12_known_0 rfl ?_
  refine z_callV (As := []) (st := []) dX12_known_1 zl_X12_233 zv_X12_isGood (by decide) rfl zn_160 zo_160 rfl rfl (Nat.le_of_ble_eq_true rfl) ⟨Nat.le_refl _, Nat.le_refl _⟩ ⟨Nat.le_refl _, Nat.le_refl _⟩ hv (fun v1 I1 L2 P3 nx1 q4 => ?_)
  obtain ⟨rfl, r5, rfl, hv⟩ := q4
  refine z_if_ne (tgt := 9) dX12_known_4 (by decide) (fun q57 => ?_) (fun q57 => ?_)
  · have hv := hv.1 q57
    refine z_aload_n dX12_known_9 rfl ?_
    refine z_getI dX12_known_10 zf_X12_205 zn_160 zo_160 (fun _ _ _ _ _ => rfl) ?_
    refine z_iconst (v := 2) dX12_known_13 (by decide) ?_
    refine z_icmp_eq (tgt := 24) dX12_known_14 (by decide) (fun q56 => ?_) (fun q56 => ?_)
    · have hv := hv.1 q56
      refine z_iload_n dX12_known_24 rfl ?_
      refine z_if_ge (tgt := 37) dX12_known_25 (by decide) (fun q37 => ?_) (fun q37 => ?_)
      · have hv := hv.1 q37
        refine z_aload_n dX12_known_37 rfl ?_
        refine z_callV (As := []) (st := []) dX12_known_38 zl_X12_233 zv_X12_isGood (by decide) rfl zn_160 zo_160 rfl rfl (Nat.le_of_ble_eq_true rfl) ⟨Nat.le_refl _, Nat.le_refl _⟩ ⟨Nat.le_refl _, Nat.le_refl _⟩ hv (fun v1 I6 L7 P8 nx1 q9 => ?_)
        obtain ⟨rfl, r10, rfl, hv⟩ := q9
        refine z_if_eq (tgt := 48) dX12_known_41 (by decide) (fun q18 => ?_) (fun q18 => ?_)
        · have hv := hv.1 q18
          refine z_iload_n dX12_known_48 rfl ?_
          refine z_if_ge (tgt := 56) dX12_known_49 (by decide) (fun q11 => ?_) (fun q11 => ?_)
          · have hv := hv.1 q11
            refine z_iload_n dX12_known_56 rfl ?_
            exact z_sub (by exact trivial) hv
          · have hv := hv.2 q11
            refine z_iconst (v := 0) dX12_known_52 (by decide) ?_
            refine z_goto (tgt := 57) dX12_known_53 (by decide) ?_
            exact z_sub (by exact trivial) hv
        · have hv := hv.2 q18
          refine z_aload_n dX12_known_44 rfl ?_
          refine z_callV (As := []) (st := []) dX12_known_45 zl_X12_237 zv_X12_goOn (by decide) rfl zn_160 zo_160 rfl rfl (Nat.le_of_ble_eq_true rfl) ⟨Nat.le_refl _, Nat.le_refl _⟩ ⟨Nat.le_refl _, Nat.le_refl _⟩ hv (fun v1 I12 L13 P14 nx1 q15 => ?_)
          obtain ⟨rfl, rfl, hv⟩ := q15
          refine z_iload_n dX12_known_48 rfl ?_
          refine z_if_ge (tgt := 56) dX12_known_49 (by decide) (fun q17 => ?_) (fun q17 => ?_)
          · have hv := hv.1 q17
            refine z_iload_n dX12_known_56 rfl ?_
            exact z_sub (by exact trivial) hv
          · have hv := hv.2 q17
            refine z_iconst (v := 0) dX12_known_52 (by decide) ?_
            refine z_goto (tgt := 57) dX12_known_53 (by decide) ?_
            exact z_sub (by exact trivial) hv
      · have hv := hv.2 q37
        refine z_aload_n dX12_known_28 rfl ?_
        refine z_iconst (v := 4) dX12_known_29 (by decide) ?_
        refine z_aload_n dX12_known_30 rfl ?_
        refine z_getI dX12_known_31 zf_X12_198 zn_160 zo_160 (fun _ _ _ _ _ => rfl) ?_
        refine z_callV (As := [.int 4, .int (I1 160 6)]) (st := []) dX12_known_34 zl_X12_229 zv_X12_fails (by decide) rfl zn_160 zo_160 rfl rfl (Nat.le_of_ble_eq_true rfl) ⟨Nat.le_refl _, Nat.le_refl _⟩ ⟨Nat.le_refl _, Nat.le_refl _⟩ hv (fun v1 I19 L20 P21 nx1 q22 => ?_)
        obtain ⟨rfl, rfl, hv⟩ := q22
        refine z_aload_n dX12_known_37 rfl ?_
        refine z_callV (As := []) (st := []) dX12_known_38 zl_X12_233 zv_X12_isGood (by decide) rfl zn_160 zo_160 rfl rfl (Nat.le_of_ble_eq_true rfl) ⟨Nat.le_refl _, Nat.le_refl _⟩ ⟨Nat.le_refl _, Nat.le_refl _⟩ hv (fun v1 I24 L25 P26 nx1 q27 => ?_)
        obtain ⟨rfl, r28, rfl, hv⟩ := q27
        refine z_if_eq (tgt := 48) dX12_known_41 (by decide) (fun q36 => ?_) (fun q36 => ?_)
        · have hv := hv.1 q36
          refine z_iload_n dX12_known_48 rfl ?_
          refine z_if_ge (tgt := 56) dX12_known_49 (by decide) (fun q29 => ?_) (fun q29 => ?_)
          · have hv := hv.1 q29
            refine z_iload_n dX12_known_56 rfl ?_
            exact z_sub (by exact trivial) hv
          · have hv := hv.2 q29
            refine z_iconst (v := 0) dX12_known_52 (by decide) ?_
            refine z_goto (tgt := 57) dX12_known_53 (by decide) ?_
            exact z_sub (by exact trivial) hv
        · have hv := hv.2 q36
          refine z_aload_n dX12_known_44 rfl ?_
          refine z_callV (As := []) (st := []) dX12_known_45 zl_X12_237 zv_X12_goOn (by decide) rfl zn_160 zo_160 rfl rfl (Nat.le_of_ble_eq_true rfl) ⟨Nat.le_refl _, Nat.le_refl _⟩ ⟨Nat.le_refl _, Nat.le_refl _⟩ hv (fun v1 I30 L31 P32 nx1 q33 => ?_)
          obtain ⟨rfl, rfl, hv⟩ := q33
          refine z_iload_n dX12_known_48 rfl ?_
          refine z_if_ge (tgt := 56) dX12_known_49 (by decide) (fun q35 => ?_) (fun q35 => ?_)
          · have hv := hv.1 q35
            refine z_iload_n dX12_known_56 rfl ?_
            exact z_sub (by exact trivial) hv
          · have hv := hv.2 q35
            refine z_iconst (v := 0) dX12_known_52 (by decide) ?_
            refine z_goto (tgt := 57) dX12_known_53 (by decide) ?_
            exact z_sub (by exact trivial) hv
    · have hv := hv.2 q56
      refine z_aload_n dX12_known_17 rfl ?_
      refine z_callV (As := []) (st := []) dX12_known_18 zl_X12_240 zv_X12_misplaced (by decide) rfl zn_160 zo_160 rfl rfl (Nat.le_of_ble_eq_true rfl) ⟨Nat.le_refl _, Nat.le_refl _⟩ ⟨Nat.le_refl _, Nat.le_refl _⟩ hv (fun v1 I38 L39 P40 nx1 q41 => ?_)
      obtain ⟨rfl, rfl, hv⟩ := q41
      refine z_goto (tgt := 37) dX12_known_21 (by decide) ?_
      refine z_aload_n dX12_known_37 rfl ?_
      refine z_callV (As := []) (st := []) dX12_known_38 zl_X12_233 zv_X12_isGood (by decide) rfl zn_160 zo_160 rfl rfl (Nat.le_of_ble_eq_true rfl) ⟨Nat.le_refl _, Nat.le_refl _⟩ ⟨Nat.le_refl _, Nat.le_refl _⟩ hv (fun v1 I43 L44 P45 nx1 q46 => ?_)
      obtain ⟨rfl, r47, rfl, hv⟩ := q46
      refine z_if_eq (tgt := 48) dX12_known_41 (by decide) (fun q55 => ?_) (fun q55 => ?_)
      · have hv := hv.1 q55
        refine z_iload_n dX12_known_48 rfl ?_
        refine z_if_ge (tgt := 56) dX12_known_49 (by decide) (fun q48 => ?_) (fun q48 => ?_)
        · have hv := hv.1 q48
          refine z_iload_n dX12_known_56 rfl ?_
          exact z_sub (by exact trivial) hv
        · have hv := hv.2 q48
          refine z_iconst (v := 0) dX12_known_52 (by decide) ?_
          refine z_goto (tgt := 57) dX12_known_53 (by decide) ?_
          exact z_sub (by exact trivial) hv
      · have hv := hv.2 q55
        refine z_aload_n dX12_known_44 rfl ?_
        refine z_callV (As := []) (st := []) dX12_known_45 zl_X12_237 zv_X12_goOn (by decide) rfl zn_160 zo_160 rfl rfl (Nat.le_of_ble_eq_true rfl) ⟨Nat.le_refl _, Nat.le_refl _⟩ ⟨Nat.le_refl _, Nat.le_refl _⟩ hv (fun v1 I49 L50 P51 nx1 q52 => ?_)
        obtain ⟨rfl, rfl, hv⟩ := q52
        refine z_iload_n dX12_known_48 rfl ?_
        refine z_if_ge (tgt := 56) dX12_known_49 (by decide) (fun q54 => ?_) (fun q54 => ?_)
        · have hv := hv.1 q54
          refine z_iload_n dX12_known_56 rfl ?_
          exact z_sub (by exact trivial) hv
        · have hv := hv.2 q54
          refine z_iconst (v := 0) dX12_known_52 (by decide) ?_
          refine z_goto (tgt := 57) dX12_known_53 (by decide) ?_
          exact z_sub (by exact trivial) hv
  · have hv := hv.2 q57
    refine z_iconst (v := 0) dX12_known_7 (by decide) ?_
    exact z_ireturn dX12_known_8 rfl rfl (Nat.le_refl _) (Nat.le_refl _) hv
abbrev gw_X12_flag (d : Nat) (Q : zQt) (pc : Nat) (lv : zV) (st : List Value) (I : zI) (L : zL) (P : zP) : Prop := zW zm_X12_flag (zRm d 0 0) 0 0 Q pc lv st I L P 205 0 0
def v_X12_flag (d : Nat) (Q : zQt) (p1 : Int64) (I : zI) (L : zL) (P : zP) : Prop :=
  zMi zm_X12_isGood d [.ref 160] I L P (fun r5 I1 L2 P3 =>
    ((r5 = 0 →
      (((0 : Int32) = 0 →
        Q (some (.int 0)) I1 L2 P3 205
      ) ∧ (¬ (0 : Int32) = 0 →
        zMv zm_X12_goOn d [.ref 160] I1 L2 P3 (fun I6 L7 P8 =>
          Q (some (.int 0)) I6 L7 P8 205
        )
      ))
    ) ∧ (¬ r5 = 0 →
      zMi zm_X12_isWord d [.ref 160, .long p1] I1 L2 P3 (fun r16 I12 L13 P14 =>
        ((r16 = 0 →
          (((0 : Int32) = 0 →
            Q (some (.int 0)) I12 L13 P14 205
          ) ∧ (¬ (0 : Int32) = 0 →
            zMv zm_X12_goOn d [.ref 160] I12 L13 P14 (fun I17 L18 P19 =>
              Q (some (.int 0)) I17 L18 P19 205
            )
          ))
        ) ∧ (¬ r16 = 0 →
          (((1 : Int32) = 0 →
            Q (some (.int 1)) I12 L13 P14 205
          ) ∧ (¬ (1 : Int32) = 0 →
            zMv zm_X12_goOn d [.ref 160] I12 L13 P14 (fun I23 L24 P25 =>
              Q (some (.int 1)) I23 L24 P25 205
            )
          ))
        ))
      )
    ))
  )
set_option maxRecDepth 20000 in
theorem g_X12_flag {d : Nat} {Q : zQt} {p1 : Int64} {I : zI} {L : zL} {P : zP} (hP : zPk P) (hv : v_X12_flag d Q p1 I L P) : zM zm_X12_flag (d + 1) 0 0 [.ref 160, .long p1] I L P 205 Q := by
  unfold v_X12_flag at hv
  refine zM_of (lv0 := [some (.ref 160), some (.long p1), none, none]) (by decide +kernel) (Nat.le_of_ble_eq_true rfl) rfl ?_
  refine z_aload_n dX12_flag_0 rfl ?_
  refine z_callV (As := []) (st := []) dX12_flag_1 zl_X12_233 zv_X12_isGood (by decide) rfl zn_160 zo_160 rfl rfl (Nat.le_of_ble_eq_true rfl) ⟨Nat.le_refl _, Nat.le_refl _⟩ ⟨Nat.le_refl _, Nat.le_refl _⟩ hv (fun v1 I1 L2 P3 nx1 q4 => ?_)
  obtain ⟨rfl, r5, rfl, hv⟩ := q4
  refine z_if_eq (tgt := 19) dX12_flag_4 (by decide) (fun q30 => ?_) (fun q30 => ?_)
  · have hv := hv.1 q30
    refine z_iconst (v := 0) dX12_flag_19 (by decide) ?_
    refine z_istore_n (lv2 := [some (.ref 160), some (.long p1), none, some (.int 0)]) dX12_flag_20 (by decide) rfl rfl ?_
    refine z_iload_n dX12_flag_21 rfl ?_
    refine z_if_eq (tgt := 29) dX12_flag_22 (by decide) (fun q11 => ?_) (fun q11 => ?_)
    · have hv := hv.1 q11
      refine z_iload_n dX12_flag_29 rfl ?_
      exact z_ireturn dX12_flag_30 rfl (by decide) (Nat.le_refl _) (Nat.le_refl _) hv
    · have hv := hv.2 q11
      refine z_aload_n dX12_flag_25 rfl ?_
      refine z_callV (As := []) (st := []) dX12_flag_26 zl_X12_237 zv_X12_goOn (by decide) rfl zn_160 zo_160 rfl rfl (Nat.le_of_ble_eq_true rfl) ⟨Nat.le_refl _, Nat.le_refl _⟩ ⟨Nat.le_refl _, Nat.le_refl _⟩ hv (fun v1 I6 L7 P8 nx1 q9 => ?_)
      obtain ⟨rfl, rfl, hv⟩ := q9
      refine z_iload_n dX12_flag_29 rfl ?_
      exact z_ireturn dX12_flag_30 rfl (by decide) (Nat.le_refl _) (Nat.le_refl _) hv
  · have hv := hv.2 q30
    refine z_aload_n dX12_flag_7 rfl ?_
    refine z_lload_n dX12_flag_8 rfl ?_
    refine z_callV (As := [.long p1]) (st := []) dX12_flag_9 zl_X12_270 zv_X12_isWord (by decide) rfl zn_160 zo_160 rfl rfl (Nat.le_of_ble_eq_true rfl) ⟨Nat.le_refl _, Nat.le_refl _⟩ ⟨Nat.le_refl _, Nat.le_refl _⟩ hv (fun v1 I12 L13 P14 nx1 q15 => ?_)
    obtain ⟨rfl, r16, rfl, hv⟩ := q15
    refine z_if_eq (tgt := 19) dX12_flag_12 (by decide) (fun q29 => ?_) (fun q29 => ?_)
    · have hv := hv.1 q29
      refine z_iconst (v := 0) dX12_flag_19 (by decide) ?_
      refine z_istore_n (lv2 := [some (.ref 160), some (.long p1), none, some (.int 0)]) dX12_flag_20 (by decide) rfl rfl ?_
      refine z_iload_n dX12_flag_21 rfl ?_
      refine z_if_eq (tgt := 29) dX12_flag_22 (by decide) (fun q22 => ?_) (fun q22 => ?_)
      · have hv := hv.1 q22
        refine z_iload_n dX12_flag_29 rfl ?_
        exact z_ireturn dX12_flag_30 rfl (by decide) (Nat.le_refl _) (Nat.le_refl _) hv
      · have hv := hv.2 q22
        refine z_aload_n dX12_flag_25 rfl ?_
        refine z_callV (As := []) (st := []) dX12_flag_26 zl_X12_237 zv_X12_goOn (by decide) rfl zn_160 zo_160 rfl rfl (Nat.le_of_ble_eq_true rfl) ⟨Nat.le_refl _, Nat.le_refl _⟩ ⟨Nat.le_refl _, Nat.le_refl _⟩ hv (fun v1 I17 L18 P19 nx1 q20 => ?_)
        obtain ⟨rfl, rfl, hv⟩ := q20
        refine z_iload_n dX12_flag_29 rfl ?_
        exact z_ireturn dX12_flag_30 rfl (by decide) (Nat.le_refl _) (Nat.le_refl _) hv
    · have hv := hv.2 q29
      refine z_iconst (v := 1) dX12_flag_15 (by decide) ?_
      refine z_goto (tgt := 20) dX12_flag_16 (by decide) ?_
      refine z_istore_n (lv2 := [some (.ref 160), some (.long p1), none, some (.int 1)]) dX12_flag_20 (by decide) rfl rfl ?_
      refine z_iload_n dX12_flag_21 rfl ?_
      refine z_if_eq (tgt := 29) dX12_flag_22 (by decide) (fun q28 => ?_) (fun q28 => ?_)
      · have hv := hv.1 q28
        refine z_iload_n dX12_flag_29 rfl ?_
        exact z_ireturn dX12_flag_30 rfl (by decide) (Nat.le_refl _) (Nat.le_refl _) hv
      · have hv := hv.2 q28
        refine z_aload_n dX12_flag_25 rfl ?_
        refine z_callV (As := []) (st := []) dX12_flag_26 zl_X12_237 zv_X12_goOn (by decide) rfl zn_160 zo_160 rfl rfl (Nat.le_of_ble_eq_true rfl) ⟨Nat.le_refl _, Nat.le_refl _⟩ ⟨Nat.le_refl _, Nat.le_refl _⟩ hv (fun v1 I23 L24 P25 nx1 q26 => ?_)
        obtain ⟨rfl, rfl, hv⟩ := q26
        refine z_iload_n dX12_flag_29 rfl ?_
        exact z_ireturn dX12_flag_30 rfl (by decide) (Nat.le_refl _) (Nat.le_refl _) hv
abbrev gw_X12_readOne (d : Nat) (Q : zQt) (pc : Nat) (lv : zV) (st : List Value) (I : zI) (L : zL) (P : zP) : Prop := zW zm_X12_readOne (zRm d 0 0) 0 0 Q pc lv st I L P 205 0 0
def v_X12_readOne_142 (d : Nat) (Q : zQt) (x1 : Int32) (t0 : Int32) (t1 : Int32) (I : zI) (L : zL) (P : zP) : Prop :=
  vp_in t1 16 ∧
  ∀ I104 : zI, I104 = zuI I 168 t1.toNatClampNeg t0 →
  zMi zm_X12_flag d [.ref 160, .long 495873784179] I104 L P (fun r109 I105 L106 P107 =>
    vp_in x1 16 ∧
    (r109 = 0 ∨ r109 = 1) ∧
    ∀ I112 : zI, I112 = zuI I105 173 x1.toNatClampNeg r109 →
    zPk P107 ∧
    vp_in (I112 160 29) 2 ∧
    ∀ I117 : zI, I117 = zuI I112 163 (I112 160 29).toNatClampNeg ((I112 163 (I112 160 29).toNatClampNeg) + 1) →
    Q none I117 L106 P107 205
  )
set_option maxRecDepth 20000 in
theorem g_X12_readOne_142 {d : Nat} {Q : zQt} {x1 : Int32} {t0 : Int32} {t1 : Int32} {I : zI} {L : zL} {P : zP} (hP : zPk P) (hv : v_X12_readOne_142 d Q x1 t0 t1 I L P) : gw_X12_readOne (d + 1) Q 142 [some (.ref 160), some (.int x1)] [.int t0, .int t1, .ref 168] I L P := by
  unfold v_X12_readOne_142 at hv
  obtain ⟨h102, hv⟩ := hv
  refine z_iastore dX12_readOne_142 zn_168 zh_168 h102 (z_nmI (fun I104 e103 => ?_))
  have hv := hv I104 e103
  refine z_aload_n dX12_readOne_143 rfl ?_
  refine z_getP dX12_readOne_144 zf_X12_52 zn_160 zo_160 (fun _ _ _ _ _ => rfl) (hP 160 21 173 zp_160_21) ?_
  refine z_iload_n dX12_readOne_147 rfl ?_
  refine z_aload_n dX12_readOne_148 rfl ?_
  refine z_ldc2 (v := 495873784179) dX12_readOne_149 zj_X12_167 ?_
  refine z_callV (As := [.long 495873784179]) (st := [.int x1, .ref 173]) dX12_readOne_152 zl_X12_302 zv_X12_flag (by decide) rfl zn_160 zo_160 rfl rfl (Nat.le_of_ble_eq_true rfl) ⟨Nat.le_refl _, Nat.le_refl _⟩ ⟨Nat.le_refl _, Nat.le_refl _⟩ hv (fun v1 I105 L106 P107 nx1 q108 => ?_)
  obtain ⟨rfl, r109, rfl, hv⟩ := q108
  obtain ⟨h110, hv⟩ := hv
  obtain ⟨h113, hv⟩ := hv
  refine z_zastore dX12_readOne_155 zn_173 zh_173 h110 (zbn h113) (z_nmI (fun I112 e111 => ?_))
  have hv := hv I112 e111
  refine z_aload_n dX12_readOne_156 rfl ?_
  obtain ⟨h114, hv⟩ := hv
  refine z_getP dX12_readOne_157 zf_X12_20 zn_160 zo_160 (fun _ _ _ _ _ => rfl) (h114 160 11 163 zp_160_11) ?_
  refine z_aload_n dX12_readOne_160 rfl ?_
  refine z_getI dX12_readOne_161 zf_X12_243 zn_160 zo_160 (fun _ _ _ _ _ => rfl) ?_
  refine z_dup2 dX12_readOne_164 rfl rfl ?_
  obtain ⟨h115, hv⟩ := hv
  refine z_iaload dX12_readOne_165 zn_163 zh_163 h115 ?_
  refine z_iconst (v := 1) dX12_readOne_166 (by decide) ?_
  refine z_iadd dX12_readOne_167 ?_
  refine z_iastore dX12_readOne_168 zn_163 zh_163 h115 (z_nmI (fun I117 e116 => ?_))
  have hv := hv I117 e116
  exact z_return dX12_readOne_169 rfl (Nat.le_refl _) (Nat.le_refl _) hv
def v_X12_readOne_104 (d : Nat) (Q : zQt) (x1 : Int32) (I : zI) (L : zL) (P : zP) : Prop :=
  zMi zm_X12_flag d [.ref 160, .long 120299659095922] I L P (fun r98 I94 L95 P96 =>
    ((r98 = 0 →
      zPk P96 ∧
      vp_in (I94 160 29) 2 ∧
      gw_X12_readOne (d + 1) Q 142 [some (.ref 160), some (.int x1)] [.int ((255 : Int32) &&& (((1 : Int32) <<< ((I94 163 (I94 160 29).toNatClampNeg) &&& 31) : Int32) ^^^ (-1) : Int32) : Int32), .int x1, .ref 168] I94 L95 P96
    ) ∧ (¬ r98 = 0 →
      gw_X12_readOne (d + 1) Q 142 [some (.ref 160), some (.int x1)] [.int 255, .int x1, .ref 168] I94 L95 P96
    ))
  )
set_option maxRecDepth 20000 in
theorem g_X12_readOne_104 {d : Nat} {Q : zQt} {x1 : Int32} {I : zI} {L : zL} {P : zP} (hP : zPk P) (hv : v_X12_readOne_104 d Q x1 I L P) : gw_X12_readOne (d + 1) Q 104 [some (.ref 160), some (.int x1)] [] I L P := by
  unfold v_X12_readOne_104 at hv
  refine z_aload_n dX12_readOne_104 rfl ?_
  refine z_getP dX12_readOne_105 zf_X12_36 zn_160 zo_160 (fun _ _ _ _ _ => rfl) (hP 160 16 168 zp_160_16) ?_
  refine z_iload_n dX12_readOne_108 rfl ?_
  refine z_aload_n dX12_readOne_109 rfl ?_
  refine z_ldc2 (v := 120299659095922) dX12_readOne_110 zj_X12_165 ?_
  refine z_callV (As := [.long 120299659095922]) (st := [.int x1, .ref 168]) dX12_readOne_113 zl_X12_302 zv_X12_flag (by decide) rfl zn_160 zo_160 rfl rfl (Nat.le_of_ble_eq_true rfl) ⟨Nat.le_refl _, Nat.le_refl _⟩ ⟨Nat.le_refl _, Nat.le_refl _⟩ hv (fun v1 I94 L95 P96 nx1 q97 => ?_)
  obtain ⟨rfl, r98, rfl, hv⟩ := q97
  refine z_if_eq (tgt := 125) dX12_readOne_116 (by decide) (fun q101 => ?_) (fun q101 => ?_)
  · have hv := hv.1 q101
    refine z_sipush (v := 255) dX12_readOne_125 (by decide) ?_
    refine z_iconst (v := 1) dX12_readOne_128 (by decide) ?_
    refine z_aload_n dX12_readOne_129 rfl ?_
    obtain ⟨h99, hv⟩ := hv
    refine z_getP dX12_readOne_130 zf_X12_20 zn_160 zo_160 (fun _ _ _ _ _ => rfl) (h99 160 11 163 zp_160_11) ?_
    refine z_aload_n dX12_readOne_133 rfl ?_
    refine z_getI dX12_readOne_134 zf_X12_243 zn_160 zo_160 (fun _ _ _ _ _ => rfl) ?_
    obtain ⟨h100, hv⟩ := hv
    refine z_iaload dX12_readOne_137 zn_163 zh_163 h100 ?_
    refine z_ishl dX12_readOne_138 ?_
    refine z_iconst (v := (-1)) dX12_readOne_139 (by decide) ?_
    refine z_ixor dX12_readOne_140 ?_
    refine z_iand dX12_readOne_141 ?_
    exact hv
  · have hv := hv.2 q101
    refine z_sipush (v := 255) dX12_readOne_119 (by decide) ?_
    refine z_goto (tgt := 142) dX12_readOne_122 (by decide) ?_
    exact hv
def v_X12_readOne (d : Nat) (Q : zQt)  (I : zI) (L : zL) (P : zP) : Prop :=
  vp_in (I 160 29) 2 ∧
  (((I 160 8) = 2 →
    zMi zm_X12_here d [.ref 160] I L P (fun r6 I2 L3 P4 =>
      ((r6 < 0 →
        zMi zm_X12_isGood d [.ref 160] I2 L3 P4 (fun r11 I7 L8 P9 =>
          ((¬ r11 = 0 →
            zPk P9 ∧
            vp_in (((8 : Int32) * (I 160 29)) + (I 163 (I 160 29).toNatClampNeg)) 16 ∧
            ∀ L15 : zL, L15 = zuL L8 174 (((8 : Int32) * (I 160 29)) + (I 163 (I 160 29).toNatClampNeg)).toNatClampNeg (L8 160 10) →
            zMv zm_X12_goOn d [.ref 160] I7 L15 P9 (fun I16 L17 P18 =>
              zMi zm_X12_flag d [.ref 160, .long 120265298896228] I16 L17 P18 (fun r25 I21 L22 P23 =>
                ((r25 = 0 →
                  gw_X12_readOne (d + 1) Q 104 [some (.ref 160), some (.int (((8 : Int32) * (I 160 29)) + (I 163 (I 160 29).toNatClampNeg)))] [] I21 L22 P23
                ) ∧ (¬ r25 = 0 →
                  zPk P23 ∧
                  vp_in (I21 160 29) 2 ∧
                  ∀ I29 : zI, I29 = zuI I21 167 (I21 160 29).toNatClampNeg ((I21 167 (I21 160 29).toNatClampNeg) ||| ((1 : Int32) <<< ((I21 163 (I21 160 29).toNatClampNeg) &&& 31) : Int32) : Int32) →
                  gw_X12_readOne (d + 1) Q 104 [some (.ref 160), some (.int (((8 : Int32) * (I 160 29)) + (I 163 (I 160 29).toNatClampNeg)))] [] I29 L22 P23
                ))
              )
            )
          ) ∧ (r11 = 0 →
            Q none I7 L8 P9 205
          ))
        )
      ) ∧ (¬ r6 < 0 →
        zMv zm_X12_fails d [.ref 160, .int 3, .int (I2 160 6)] I2 L3 P4 (fun I32 L33 P34 =>
          zMi zm_X12_isGood d [.ref 160] I32 L33 P34 (fun r41 I37 L38 P39 =>
            ((¬ r41 = 0 →
              zPk P39 ∧
              vp_in (((8 : Int32) * (I 160 29)) + (I 163 (I 160 29).toNatClampNeg)) 16 ∧
              ∀ L45 : zL, L45 = zuL L38 174 (((8 : Int32) * (I 160 29)) + (I 163 (I 160 29).toNatClampNeg)).toNatClampNeg (L38 160 10) →
              zMv zm_X12_goOn d [.ref 160] I37 L45 P39 (fun I46 L47 P48 =>
                zMi zm_X12_flag d [.ref 160, .long 120265298896228] I46 L47 P48 (fun r55 I51 L52 P53 =>
                  ((r55 = 0 →
                    gw_X12_readOne (d + 1) Q 104 [some (.ref 160), some (.int (((8 : Int32) * (I 160 29)) + (I 163 (I 160 29).toNatClampNeg)))] [] I51 L52 P53
                  ) ∧ (¬ r55 = 0 →
                    zPk P53 ∧
                    vp_in (I51 160 29) 2 ∧
                    ∀ I59 : zI, I59 = zuI I51 167 (I51 160 29).toNatClampNeg ((I51 167 (I51 160 29).toNatClampNeg) ||| ((1 : Int32) <<< ((I51 163 (I51 160 29).toNatClampNeg) &&& 31) : Int32) : Int32) →
                    gw_X12_readOne (d + 1) Q 104 [some (.ref 160), some (.int (((8 : Int32) * (I 160 29)) + (I 163 (I 160 29).toNatClampNeg)))] [] I59 L52 P53
                  ))
                )
              )
            ) ∧ (r41 = 0 →
              Q none I37 L38 P39 205
            ))
          )
        )
      ))
    )
  ) ∧ (¬ (I 160 8) = 2 →
    zMv zm_X12_misplaced d [.ref 160] I L P (fun I63 L64 P65 =>
      zMi zm_X12_isGood d [.ref 160] I63 L64 P65 (fun r72 I68 L69 P70 =>
        ((¬ r72 = 0 →
          zPk P70 ∧
          vp_in (((8 : Int32) * (I 160 29)) + (I 163 (I 160 29).toNatClampNeg)) 16 ∧
          ∀ L76 : zL, L76 = zuL L69 174 (((8 : Int32) * (I 160 29)) + (I 163 (I 160 29).toNatClampNeg)).toNatClampNeg (L69 160 10) →
          zMv zm_X12_goOn d [.ref 160] I68 L76 P70 (fun I77 L78 P79 =>
            zMi zm_X12_flag d [.ref 160, .long 120265298896228] I77 L78 P79 (fun r86 I82 L83 P84 =>
              ((r86 = 0 →
                gw_X12_readOne (d + 1) Q 104 [some (.ref 160), some (.int (((8 : Int32) * (I 160 29)) + (I 163 (I 160 29).toNatClampNeg)))] [] I82 L83 P84
              ) ∧ (¬ r86 = 0 →
                zPk P84 ∧
                vp_in (I82 160 29) 2 ∧
                ∀ I90 : zI, I90 = zuI I82 167 (I82 160 29).toNatClampNeg ((I82 167 (I82 160 29).toNatClampNeg) ||| ((1 : Int32) <<< ((I82 163 (I82 160 29).toNatClampNeg) &&& 31) : Int32) : Int32) →
                gw_X12_readOne (d + 1) Q 104 [some (.ref 160), some (.int (((8 : Int32) * (I 160 29)) + (I 163 (I 160 29).toNatClampNeg)))] [] I90 L83 P84
              ))
            )
          )
        ) ∧ (r72 = 0 →
          Q none I68 L69 P70 205
        ))
      )
    )
  ))
set_option maxRecDepth 20000 in
theorem g_X12_readOne {d : Nat} {Q : zQt}  {I : zI} {L : zL} {P : zP} (hP : zPk P) (hv : v_X12_readOne d Q  I L P) : zM zm_X12_readOne (d + 1) 0 0 [.ref 160] I L P 205 Q := by
  unfold v_X12_readOne at hv
  refine zM_of (lv0 := [some (.ref 160), none]) (by decide +kernel) (Nat.le_of_ble_eq_true rfl) rfl ?_
  refine z_bipush (v := 8) dX12_readOne_0 (by decide) ?_
  refine z_aload_n dX12_readOne_2 rfl ?_
  refine z_getI dX12_readOne_3 zf_X12_243 zn_160 zo_160 (fun _ _ _ _ _ => rfl) ?_
  refine z_imul dX12_readOne_6 ?_
  refine z_aload_n dX12_readOne_7 rfl ?_
  refine z_getP dX12_readOne_8 zf_X12_20 zn_160 zo_160 (fun _ _ _ _ _ => rfl) (hP 160 11 163 zp_160_11) ?_
  refine z_aload_n dX12_readOne_11 rfl ?_
  refine z_getI dX12_readOne_12 zf_X12_243 zn_160 zo_160 (fun _ _ _ _ _ => rfl) ?_
  obtain ⟨h1, hv⟩ := hv
  refine z_iaload dX12_readOne_15 zn_163 zh_163 h1 ?_
  refine z_iadd dX12_readOne_16 ?_
  refine z_istore_n (lv2 := [some (.ref 160), some (.int (((8 : Int32) * (I 160 29)) + (I 163 (I 160 29).toNatClampNeg)))]) dX12_readOne_17 (by decide) rfl rfl ?_
  refine z_aload_n dX12_readOne_18 rfl ?_
  refine z_getI dX12_readOne_19 zf_X12_205 zn_160 zo_160 (fun _ _ _ _ _ => rfl) ?_
  refine z_iconst (v := 2) dX12_readOne_22 (by decide) ?_
  refine z_icmp_eq (tgt := 33) dX12_readOne_23 (by decide) (fun q93 => ?_) (fun q93 => ?_)
  · have hv := hv.1 q93
    refine z_aload_n dX12_readOne_33 rfl ?_
    refine z_callV (As := []) (st := []) dX12_readOne_34 zl_X12_298 zv_X12_here (by decide) rfl zn_160 zo_160 rfl rfl (Nat.le_of_ble_eq_true rfl) ⟨Nat.le_refl _, Nat.le_refl _⟩ ⟨Nat.le_refl _, Nat.le_refl _⟩ hv (fun v1 I2 L3 P4 nx1 q5 => ?_)
    obtain ⟨rfl, r6, rfl, hv⟩ := q5
    refine z_if_lt (tgt := 49) dX12_readOne_37 (by decide) (fun q62 => ?_) (fun q62 => ?_)
    · have hv := hv.1 q62
      refine z_aload_n dX12_readOne_49 rfl ?_
      refine z_callV (As := []) (st := []) dX12_readOne_50 zl_X12_233 zv_X12_isGood (by decide) rfl zn_160 zo_160 rfl rfl (Nat.le_of_ble_eq_true rfl) ⟨Nat.le_refl _, Nat.le_refl _⟩ ⟨Nat.le_refl _, Nat.le_refl _⟩ hv (fun v1 I7 L8 P9 nx1 q10 => ?_)
      obtain ⟨rfl, r11, rfl, hv⟩ := q10
      refine z_if_ne (tgt := 57) dX12_readOne_53 (by decide) (fun q31 => ?_) (fun q31 => ?_)
      · have hv := hv.1 q31
        refine z_aload_n dX12_readOne_57 rfl ?_
        obtain ⟨h12, hv⟩ := hv
        refine z_getP dX12_readOne_58 zf_X12_55 zn_160 zo_160 (fun _ _ _ _ _ => rfl) (h12 160 22 174 zp_160_22) ?_
        refine z_iload_n dX12_readOne_61 rfl ?_
        refine z_aload_n dX12_readOne_62 rfl ?_
        refine z_getL dX12_readOne_63 zf_X12_212 zn_160 zo_160 (fun _ _ _ _ _ => rfl) ?_
        obtain ⟨h13, hv⟩ := hv
        refine z_lastore dX12_readOne_66 zn_174 zh_174 h13 (z_nmL (fun L15 e14 => ?_))
        have hv := hv L15 e14
        refine z_aload_n dX12_readOne_67 rfl ?_
        refine z_callV (As := []) (st := []) dX12_readOne_68 zl_X12_237 zv_X12_goOn (by decide) rfl zn_160 zo_160 rfl rfl (Nat.le_of_ble_eq_true rfl) ⟨Nat.le_refl _, Nat.le_refl _⟩ ⟨Nat.le_refl _, Nat.le_refl _⟩ hv (fun v1 I16 L17 P18 nx1 q19 => ?_)
        obtain ⟨rfl, rfl, hv⟩ := q19
        refine z_aload_n dX12_readOne_71 rfl ?_
        refine z_ldc2 (v := 120265298896228) dX12_readOne_72 zj_X12_163 ?_
        refine z_callV (As := [.long 120265298896228]) (st := []) dX12_readOne_75 zl_X12_302 zv_X12_flag (by decide) rfl zn_160 zo_160 rfl rfl (Nat.le_of_ble_eq_true rfl) ⟨Nat.le_refl _, Nat.le_refl _⟩ ⟨Nat.le_refl _, Nat.le_refl _⟩ hv (fun v1 I21 L22 P23 nx1 q24 => ?_)
        obtain ⟨rfl, r25, rfl, hv⟩ := q24
        refine z_if_eq (tgt := 104) dX12_readOne_78 (by decide) (fun q30 => ?_) (fun q30 => ?_)
        · have hv := hv.1 q30
          exact hv
        · have hv := hv.2 q30
          refine z_aload_n dX12_readOne_81 rfl ?_
          obtain ⟨h26, hv⟩ := hv
          refine z_getP dX12_readOne_82 zf_X12_33 zn_160 zo_160 (fun _ _ _ _ _ => rfl) (h26 160 15 167 zp_160_15) ?_
          refine z_aload_n dX12_readOne_85 rfl ?_
          refine z_getI dX12_readOne_86 zf_X12_243 zn_160 zo_160 (fun _ _ _ _ _ => rfl) ?_
          refine z_dup2 dX12_readOne_89 rfl rfl ?_
          obtain ⟨h27, hv⟩ := hv
          refine z_iaload dX12_readOne_90 zn_167 zh_167 h27 ?_
          refine z_iconst (v := 1) dX12_readOne_91 (by decide) ?_
          refine z_aload_n dX12_readOne_92 rfl ?_
          refine z_getP dX12_readOne_93 zf_X12_20 zn_160 zo_160 (fun _ _ _ _ _ => rfl) (h26 160 11 163 zp_160_11) ?_
          refine z_aload_n dX12_readOne_96 rfl ?_
          refine z_getI dX12_readOne_97 zf_X12_243 zn_160 zo_160 (fun _ _ _ _ _ => rfl) ?_
          refine z_iaload dX12_readOne_100 zn_163 zh_163 h27 ?_
          refine z_ishl dX12_readOne_101 ?_
          refine z_ior dX12_readOne_102 ?_
          refine z_iastore dX12_readOne_103 zn_167 zh_167 h27 (z_nmI (fun I29 e28 => ?_))
          have hv := hv I29 e28
          exact hv
      · have hv := hv.2 q31
        exact z_return dX12_readOne_56 rfl (Nat.le_refl _) (Nat.le_refl _) hv
    · have hv := hv.2 q62
      refine z_aload_n dX12_readOne_40 rfl ?_
      refine z_iconst (v := 3) dX12_readOne_41 (by decide) ?_
      refine z_aload_n dX12_readOne_42 rfl ?_
      refine z_getI dX12_readOne_43 zf_X12_198 zn_160 zo_160 (fun _ _ _ _ _ => rfl) ?_
      refine z_callV (As := [.int 3, .int (I2 160 6)]) (st := []) dX12_readOne_46 zl_X12_229 zv_X12_fails (by decide) rfl zn_160 zo_160 rfl rfl (Nat.le_of_ble_eq_true rfl) ⟨Nat.le_refl _, Nat.le_refl _⟩ ⟨Nat.le_refl _, Nat.le_refl _⟩ hv (fun v1 I32 L33 P34 nx1 q35 => ?_)
      obtain ⟨rfl, rfl, hv⟩ := q35
      refine z_aload_n dX12_readOne_49 rfl ?_
      refine z_callV (As := []) (st := []) dX12_readOne_50 zl_X12_233 zv_X12_isGood (by decide) rfl zn_160 zo_160 rfl rfl (Nat.le_of_ble_eq_true rfl) ⟨Nat.le_refl _, Nat.le_refl _⟩ ⟨Nat.le_refl _, Nat.le_refl _⟩ hv (fun v1 I37 L38 P39 nx1 q40 => ?_)
      obtain ⟨rfl, r41, rfl, hv⟩ := q40
      refine z_if_ne (tgt := 57) dX12_readOne_53 (by decide) (fun q61 => ?_) (fun q61 => ?_)
      · have hv := hv.1 q61
        refine z_aload_n dX12_readOne_57 rfl ?_
        obtain ⟨h42, hv⟩ := hv
        refine z_getP dX12_readOne_58 zf_X12_55 zn_160 zo_160 (fun _ _ _ _ _ => rfl) (h42 160 22 174 zp_160_22) ?_
        refine z_iload_n dX12_readOne_61 rfl ?_
        refine z_aload_n dX12_readOne_62 rfl ?_
        refine z_getL dX12_readOne_63 zf_X12_212 zn_160 zo_160 (fun _ _ _ _ _ => rfl) ?_
        obtain ⟨h43, hv⟩ := hv
        refine z_lastore dX12_readOne_66 zn_174 zh_174 h43 (z_nmL (fun L45 e44 => ?_))
        have hv := hv L45 e44
        refine z_aload_n dX12_readOne_67 rfl ?_
        refine z_callV (As := []) (st := []) dX12_readOne_68 zl_X12_237 zv_X12_goOn (by decide) rfl zn_160 zo_160 rfl rfl (Nat.le_of_ble_eq_true rfl) ⟨Nat.le_refl _, Nat.le_refl _⟩ ⟨Nat.le_refl _, Nat.le_refl _⟩ hv (fun v1 I46 L47 P48 nx1 q49 => ?_)
        obtain ⟨rfl, rfl, hv⟩ := q49
        refine z_aload_n dX12_readOne_71 rfl ?_
        refine z_ldc2 (v := 120265298896228) dX12_readOne_72 zj_X12_163 ?_
        refine z_callV (As := [.long 120265298896228]) (st := []) dX12_readOne_75 zl_X12_302 zv_X12_flag (by decide) rfl zn_160 zo_160 rfl rfl (Nat.le_of_ble_eq_true rfl) ⟨Nat.le_refl _, Nat.le_refl _⟩ ⟨Nat.le_refl _, Nat.le_refl _⟩ hv (fun v1 I51 L52 P53 nx1 q54 => ?_)
        obtain ⟨rfl, r55, rfl, hv⟩ := q54
        refine z_if_eq (tgt := 104) dX12_readOne_78 (by decide) (fun q60 => ?_) (fun q60 => ?_)
        · have hv := hv.1 q60
          exact hv
        · have hv := hv.2 q60
          refine z_aload_n dX12_readOne_81 rfl ?_
          obtain ⟨h56, hv⟩ := hv
          refine z_getP dX12_readOne_82 zf_X12_33 zn_160 zo_160 (fun _ _ _ _ _ => rfl) (h56 160 15 167 zp_160_15) ?_
          refine z_aload_n dX12_readOne_85 rfl ?_
          refine z_getI dX12_readOne_86 zf_X12_243 zn_160 zo_160 (fun _ _ _ _ _ => rfl) ?_
          refine z_dup2 dX12_readOne_89 rfl rfl ?_
          obtain ⟨h57, hv⟩ := hv
          refine z_iaload dX12_readOne_90 zn_167 zh_167 h57 ?_
          refine z_iconst (v := 1) dX12_readOne_91 (by decide) ?_
          refine z_aload_n dX12_readOne_92 rfl ?_
          refine z_getP dX12_readOne_93 zf_X12_20 zn_160 zo_160 (fun _ _ _ _ _ => rfl) (h56 160 11 163 zp_160_11) ?_
          refine z_aload_n dX12_readOne_96 rfl ?_
          refine z_getI dX12_readOne_97 zf_X12_243 zn_160 zo_160 (fun _ _ _ _ _ => rfl) ?_
          refine z_iaload dX12_readOne_100 zn_163 zh_163 h57 ?_
          refine z_ishl dX12_readOne_101 ?_
          refine z_ior dX12_readOne_102 ?_
          refine z_iastore dX12_readOne_103 zn_167 zh_167 h57 (z_nmI (fun I59 e58 => ?_))
          have hv := hv I59 e58
          exact hv
      · have hv := hv.2 q61
        exact z_return dX12_readOne_56 rfl (Nat.le_refl _) (Nat.le_refl _) hv
  · have hv := hv.2 q93
    refine z_aload_n dX12_readOne_26 rfl ?_
    refine z_callV (As := []) (st := []) dX12_readOne_27 zl_X12_240 zv_X12_misplaced (by decide) rfl zn_160 zo_160 rfl rfl (Nat.le_of_ble_eq_true rfl) ⟨Nat.le_refl _, Nat.le_refl _⟩ ⟨Nat.le_refl _, Nat.le_refl _⟩ hv (fun v1 I63 L64 P65 nx1 q66 => ?_)
    obtain ⟨rfl, rfl, hv⟩ := q66
    refine z_goto (tgt := 49) dX12_readOne_30 (by decide) ?_
    refine z_aload_n dX12_readOne_49 rfl ?_
    refine z_callV (As := []) (st := []) dX12_readOne_50 zl_X12_233 zv_X12_isGood (by decide) rfl zn_160 zo_160 rfl rfl (Nat.le_of_ble_eq_true rfl) ⟨Nat.le_refl _, Nat.le_refl _⟩ ⟨Nat.le_refl _, Nat.le_refl _⟩ hv (fun v1 I68 L69 P70 nx1 q71 => ?_)
    obtain ⟨rfl, r72, rfl, hv⟩ := q71
    refine z_if_ne (tgt := 57) dX12_readOne_53 (by decide) (fun q92 => ?_) (fun q92 => ?_)
    · have hv := hv.1 q92
      refine z_aload_n dX12_readOne_57 rfl ?_
      obtain ⟨h73, hv⟩ := hv
      refine z_getP dX12_readOne_58 zf_X12_55 zn_160 zo_160 (fun _ _ _ _ _ => rfl) (h73 160 22 174 zp_160_22) ?_
      refine z_iload_n dX12_readOne_61 rfl ?_
      refine z_aload_n dX12_readOne_62 rfl ?_
      refine z_getL dX12_readOne_63 zf_X12_212 zn_160 zo_160 (fun _ _ _ _ _ => rfl) ?_
      obtain ⟨h74, hv⟩ := hv
      refine z_lastore dX12_readOne_66 zn_174 zh_174 h74 (z_nmL (fun L76 e75 => ?_))
      have hv := hv L76 e75
      refine z_aload_n dX12_readOne_67 rfl ?_
      refine z_callV (As := []) (st := []) dX12_readOne_68 zl_X12_237 zv_X12_goOn (by decide) rfl zn_160 zo_160 rfl rfl (Nat.le_of_ble_eq_true rfl) ⟨Nat.le_refl _, Nat.le_refl _⟩ ⟨Nat.le_refl _, Nat.le_refl _⟩ hv (fun v1 I77 L78 P79 nx1 q80 => ?_)
      obtain ⟨rfl, rfl, hv⟩ := q80
      refine z_aload_n dX12_readOne_71 rfl ?_
      refine z_ldc2 (v := 120265298896228) dX12_readOne_72 zj_X12_163 ?_
      refine z_callV (As := [.long 120265298896228]) (st := []) dX12_readOne_75 zl_X12_302 zv_X12_flag (by decide) rfl zn_160 zo_160 rfl rfl (Nat.le_of_ble_eq_true rfl) ⟨Nat.le_refl _, Nat.le_refl _⟩ ⟨Nat.le_refl _, Nat.le_refl _⟩ hv (fun v1 I82 L83 P84 nx1 q85 => ?_)
      obtain ⟨rfl, r86, rfl, hv⟩ := q85
      refine z_if_eq (tgt := 104) dX12_readOne_78 (by decide) (fun q91 => ?_) (fun q91 => ?_)
      · have hv := hv.1 q91
        exact hv
      · have hv := hv.2 q91
        refine z_aload_n dX12_readOne_81 rfl ?_
        obtain ⟨h87, hv⟩ := hv
        refine z_getP dX12_readOne_82 zf_X12_33 zn_160 zo_160 (fun _ _ _ _ _ => rfl) (h87 160 15 167 zp_160_15) ?_
        refine z_aload_n dX12_readOne_85 rfl ?_
        refine z_getI dX12_readOne_86 zf_X12_243 zn_160 zo_160 (fun _ _ _ _ _ => rfl) ?_
        refine z_dup2 dX12_readOne_89 rfl rfl ?_
        obtain ⟨h88, hv⟩ := hv
        refine z_iaload dX12_readOne_90 zn_167 zh_167 h88 ?_
        refine z_iconst (v := 1) dX12_readOne_91 (by decide) ?_
        refine z_aload_n dX12_readOne_92 rfl ?_
        refine z_getP dX12_readOne_93 zf_X12_20 zn_160 zo_160 (fun _ _ _ _ _ => rfl) (h87 160 11 163 zp_160_11) ?_
        refine z_aload_n dX12_readOne_96 rfl ?_
        refine z_getI dX12_readOne_97 zf_X12_243 zn_160 zo_160 (fun _ _ _ _ _ => rfl) ?_
        refine z_iaload dX12_readOne_100 zn_163 zh_163 h88 ?_
        refine z_ishl dX12_readOne_101 ?_
        refine z_ior dX12_readOne_102 ?_
        refine z_iastore dX12_readOne_103 zn_167 zh_167 h88 (z_nmI (fun I90 e89 => ?_))
        have hv := hv I90 e89
        exact hv
    · have hv := hv.2 q92
      exact z_return dX12_readOne_56 rfl (Nat.le_refl _) (Nat.le_refl _) hv
abbrev gw_X12_readBlind (d : Nat) (Q : zQt) (pc : Nat) (lv : zV) (st : List Value) (I : zI) (L : zL) (P : zP) : Prop := zW zm_X12_readBlind (zRm d 0 0) 0 0 Q pc lv st I L P 205 0 0
def v_X12_readBlind_60 (d : Nat) (Q : zQt) (x1 : Int32) (x2 : Int32) (I : zI) (L : zL) (P : zP) : Prop :=
  zMi zm_X12_known d [.ref 160, .int x2] I L P (fun r41 I37 L38 P39 =>
    zMi zm_X12_isGood d [.ref 160] I37 L38 P39 (fun r46 I42 L43 P44 =>
      ((¬ r46 = 0 →
        zPk P44 ∧
        vp_in (((8 : Int32) * (I42 160 29)) + x1) 16 ∧
        ∀ I50 : zI, I50 = zuI I42 168 (((8 : Int32) * (I42 160 29)) + x1).toNatClampNeg ((I42 168 (((8 : Int32) * (I42 160 29)) + x1).toNatClampNeg) &&& (((1 : Int32) <<< (r41 &&& 31) : Int32) ^^^ (-1) : Int32) : Int32) →
        vp_in (I50 160 29) 2 ∧
        ∀ I53 : zI, I53 = zuI I50 164 (I50 160 29).toNatClampNeg ((I50 164 (I50 160 29).toNatClampNeg) + 1) →
        Q none I53 L43 P44 205
      ) ∧ (r46 = 0 →
        Q none I42 L43 P44 205
      ))
    )
  )
set_option maxRecDepth 20000 in
theorem g_X12_readBlind_60 {d : Nat} {Q : zQt} {x1 : Int32} {x2 : Int32} {I : zI} {L : zL} {P : zP} (hP : zPk P) (hv : v_X12_readBlind_60 d Q x1 x2 I L P) : gw_X12_readBlind (d + 1) Q 60 [some (.ref 160), some (.int x1), some (.int x2)] [] I L P := by
  unfold v_X12_readBlind_60 at hv
  refine z_aload_n dX12_readBlind_60 rfl ?_
  refine z_iload_n dX12_readBlind_61 rfl ?_
  refine z_callV (As := [.int x2]) (st := []) dX12_readBlind_62 zl_X12_305 zv_X12_known (by decide) rfl zn_160 zo_160 rfl rfl (Nat.le_of_ble_eq_true rfl) ⟨Nat.le_refl _, Nat.le_refl _⟩ ⟨Nat.le_refl _, Nat.le_refl _⟩ hv (fun v1 I37 L38 P39 nx1 q40 => ?_)
  obtain ⟨rfl, r41, rfl, hv⟩ := q40
  refine z_istore_n (lv2 := [some (.ref 160), some (.int x1), some (.int r41)]) dX12_readBlind_65 (by decide) rfl rfl ?_
  refine z_aload_n dX12_readBlind_66 rfl ?_
  refine z_callV (As := []) (st := []) dX12_readBlind_67 zl_X12_233 zv_X12_isGood (by decide) rfl zn_160 zo_160 rfl rfl (Nat.le_of_ble_eq_true rfl) ⟨Nat.le_refl _, Nat.le_refl _⟩ ⟨Nat.le_refl _, Nat.le_refl _⟩ hv (fun v1 I42 L43 P44 nx1 q45 => ?_)
  obtain ⟨rfl, r46, rfl, hv⟩ := q45
  refine z_if_ne (tgt := 74) dX12_readBlind_70 (by decide) (fun q54 => ?_) (fun q54 => ?_)
  · have hv := hv.1 q54
    refine z_aload_n dX12_readBlind_74 rfl ?_
    obtain ⟨h47, hv⟩ := hv
    refine z_getP dX12_readBlind_75 zf_X12_36 zn_160 zo_160 (fun _ _ _ _ _ => rfl) (h47 160 16 168 zp_160_16) ?_
    refine z_bipush (v := 8) dX12_readBlind_78 (by decide) ?_
    refine z_aload_n dX12_readBlind_80 rfl ?_
    refine z_getI dX12_readBlind_81 zf_X12_243 zn_160 zo_160 (fun _ _ _ _ _ => rfl) ?_
    refine z_imul dX12_readBlind_84 ?_
    refine z_iload_n dX12_readBlind_85 rfl ?_
    refine z_iadd dX12_readBlind_86 ?_
    refine z_dup2 dX12_readBlind_87 rfl rfl ?_
    obtain ⟨h48, hv⟩ := hv
    refine z_iaload dX12_readBlind_88 zn_168 zh_168 h48 ?_
    refine z_iconst (v := 1) dX12_readBlind_89 (by decide) ?_
    refine z_iload_n dX12_readBlind_90 rfl ?_
    refine z_ishl dX12_readBlind_91 ?_
    refine z_iconst (v := (-1)) dX12_readBlind_92 (by decide) ?_
    refine z_ixor dX12_readBlind_93 ?_
    refine z_iand dX12_readBlind_94 ?_
    refine z_iastore dX12_readBlind_95 zn_168 zh_168 h48 (z_nmI (fun I50 e49 => ?_))
    have hv := hv I50 e49
    refine z_aload_n dX12_readBlind_96 rfl ?_
    refine z_getP dX12_readBlind_97 zf_X12_24 zn_160 zo_160 (fun _ _ _ _ _ => rfl) (h47 160 12 164 zp_160_12) ?_
    refine z_aload_n dX12_readBlind_100 rfl ?_
    refine z_getI dX12_readBlind_101 zf_X12_243 zn_160 zo_160 (fun _ _ _ _ _ => rfl) ?_
    refine z_dup2 dX12_readBlind_104 rfl rfl ?_
    obtain ⟨h51, hv⟩ := hv
    refine z_iaload dX12_readBlind_105 zn_164 zh_164 h51 ?_
    refine z_iconst (v := 1) dX12_readBlind_106 (by decide) ?_
    refine z_iadd dX12_readBlind_107 ?_
    refine z_iastore dX12_readBlind_108 zn_164 zh_164 h51 (z_nmI (fun I53 e52 => ?_))
    have hv := hv I53 e52
    exact z_return dX12_readBlind_109 rfl (Nat.le_refl _) (Nat.le_refl _) hv
  · have hv := hv.2 q54
    exact z_return dX12_readBlind_73 rfl (Nat.le_refl _) (Nat.le_refl _) hv
def v_X12_readBlind (d : Nat) (Q : zQt)  (I : zI) (L : zL) (P : zP) : Prop :=
  zMi zm_X12_here d [.ref 160] I L P (fun r5 I1 L2 P3 =>
    zMi zm_X12_known d [.ref 160, .int r5] I1 L2 P3 (fun r10 I6 L7 P8 =>
      zMi zm_X12_here d [.ref 160] I6 L7 P8 (fun r15 I11 L12 P13 =>
        zMi zm_X12_isGood d [.ref 160] I11 L12 P13 (fun r20 I16 L17 P18 =>
          ((r20 = 0 →
            gw_X12_readBlind (d + 1) Q 60 [some (.ref 160), some (.int r10), some (.int r15)] [] I16 L17 P18
          ) ∧ (¬ r20 = 0 →
            ((r15 < 0 →
              gw_X12_readBlind (d + 1) Q 60 [some (.ref 160), some (.int r10), some (.int r15)] [] I16 L17 P18
            ) ∧ (¬ r15 < 0 →
              ((r10 = r15 →
                zMv zm_X12_fails d [.ref 160, .int 3, .int (I16 160 6)] I16 L17 P18 (fun I21 L22 P23 =>
                  gw_X12_readBlind (d + 1) Q 60 [some (.ref 160), some (.int r10), some (.int r15)] [] I21 L22 P23
                )
              ) ∧ (¬ r10 = r15 →
                zPk P18 ∧
                vp_in (((8 : Int32) * (I16 160 29)) + r10) 16 ∧
                ((¬ (((I16 168 (((8 : Int32) * (I16 160 29)) + r10).toNatClampNeg) >>> (r15 &&& 31) : Int32) &&& 1 : Int32) = 0 →
                  gw_X12_readBlind (d + 1) Q 60 [some (.ref 160), some (.int r10), some (.int r15)] [] I16 L17 P18
                ) ∧ ((((I16 168 (((8 : Int32) * (I16 160 29)) + r10).toNatClampNeg) >>> (r15 &&& 31) : Int32) &&& 1 : Int32) = 0 →
                  zMv zm_X12_fails d [.ref 160, .int 3, .int (I16 160 6)] I16 L17 P18 (fun I28 L29 P30 =>
                    gw_X12_readBlind (d + 1) Q 60 [some (.ref 160), some (.int r10), some (.int r15)] [] I28 L29 P30
                  )
                ))
              ))
            ))
          ))
        )
      )
    )
  )
set_option maxRecDepth 20000 in
theorem g_X12_readBlind {d : Nat} {Q : zQt}  {I : zI} {L : zL} {P : zP} (hP : zPk P) (hv : v_X12_readBlind d Q  I L P) : zM zm_X12_readBlind (d + 1) 0 0 [.ref 160] I L P 205 Q := by
  unfold v_X12_readBlind at hv
  refine zM_of (lv0 := [some (.ref 160), none, none]) (by decide +kernel) (Nat.le_of_ble_eq_true rfl) rfl ?_
  refine z_aload_n dX12_readBlind_0 rfl ?_
  refine z_aload_n dX12_readBlind_1 rfl ?_
  refine z_callV (As := []) (st := [.ref 160]) dX12_readBlind_2 zl_X12_298 zv_X12_here (by decide) rfl zn_160 zo_160 rfl rfl (Nat.le_of_ble_eq_true rfl) ⟨Nat.le_refl _, Nat.le_refl _⟩ ⟨Nat.le_refl _, Nat.le_refl _⟩ hv (fun v1 I1 L2 P3 nx1 q4 => ?_)
  obtain ⟨rfl, r5, rfl, hv⟩ := q4
  refine z_callV (As := [.int r5]) (st := []) dX12_readBlind_5 zl_X12_305 zv_X12_known (by decide) rfl zn_160 zo_160 rfl rfl (Nat.le_of_ble_eq_true rfl) ⟨Nat.le_refl _, Nat.le_refl _⟩ ⟨Nat.le_refl _, Nat.le_refl _⟩ hv (fun v1 I6 L7 P8 nx1 q9 => ?_)
  obtain ⟨rfl, r10, rfl, hv⟩ := q9
  refine z_istore_n (lv2 := [some (.ref 160), some (.int r10), none]) dX12_readBlind_8 (by decide) rfl rfl ?_
  refine z_aload_n dX12_readBlind_9 rfl ?_
  refine z_callV (As := []) (st := []) dX12_readBlind_10 zl_X12_298 zv_X12_here (by decide) rfl zn_160 zo_160 rfl rfl (Nat.le_of_ble_eq_true rfl) ⟨Nat.le_refl _, Nat.le_refl _⟩ ⟨Nat.le_refl _, Nat.le_refl _⟩ hv (fun v1 I11 L12 P13 nx1 q14 => ?_)
  obtain ⟨rfl, r15, rfl, hv⟩ := q14
  refine z_istore_n (lv2 := [some (.ref 160), some (.int r10), some (.int r15)]) dX12_readBlind_13 (by decide) rfl rfl ?_
  refine z_aload_n dX12_readBlind_14 rfl ?_
  refine z_callV (As := []) (st := []) dX12_readBlind_15 zl_X12_233 zv_X12_isGood (by decide) rfl zn_160 zo_160 rfl rfl (Nat.le_of_ble_eq_true rfl) ⟨Nat.le_refl _, Nat.le_refl _⟩ ⟨Nat.le_refl _, Nat.le_refl _⟩ hv (fun v1 I16 L17 P18 nx1 q19 => ?_)
  obtain ⟨rfl, r20, rfl, hv⟩ := q19
  refine z_if_eq (tgt := 60) dX12_readBlind_18 (by decide) (fun q36 => ?_) (fun q36 => ?_)
  · have hv := hv.1 q36
    exact hv
  · have hv := hv.2 q36
    refine z_iload_n dX12_readBlind_21 rfl ?_
    refine z_if_lt (tgt := 60) dX12_readBlind_22 (by decide) (fun q35 => ?_) (fun q35 => ?_)
    · have hv := hv.1 q35
      exact hv
    · have hv := hv.2 q35
      refine z_iload_n dX12_readBlind_25 rfl ?_
      refine z_iload_n dX12_readBlind_26 rfl ?_
      refine z_icmp_eq (tgt := 51) dX12_readBlind_27 (by decide) (fun q34 => ?_) (fun q34 => ?_)
      · have hv := hv.1 q34
        refine z_aload_n dX12_readBlind_51 rfl ?_
        refine z_iconst (v := 3) dX12_readBlind_52 (by decide) ?_
        refine z_aload_n dX12_readBlind_53 rfl ?_
        refine z_getI dX12_readBlind_54 zf_X12_198 zn_160 zo_160 (fun _ _ _ _ _ => rfl) ?_
        refine z_callV (As := [.int 3, .int (I16 160 6)]) (st := []) dX12_readBlind_57 zl_X12_229 zv_X12_fails (by decide) rfl zn_160 zo_160 rfl rfl (Nat.le_of_ble_eq_true rfl) ⟨Nat.le_refl _, Nat.le_refl _⟩ ⟨Nat.le_refl _, Nat.le_refl _⟩ hv (fun v1 I21 L22 P23 nx1 q24 => ?_)
        obtain ⟨rfl, rfl, hv⟩ := q24
        exact hv
      · have hv := hv.2 q34
        refine z_aload_n dX12_readBlind_30 rfl ?_
        obtain ⟨h26, hv⟩ := hv
        refine z_getP dX12_readBlind_31 zf_X12_36 zn_160 zo_160 (fun _ _ _ _ _ => rfl) (h26 160 16 168 zp_160_16) ?_
        refine z_bipush (v := 8) dX12_readBlind_34 (by decide) ?_
        refine z_aload_n dX12_readBlind_36 rfl ?_
        refine z_getI dX12_readBlind_37 zf_X12_243 zn_160 zo_160 (fun _ _ _ _ _ => rfl) ?_
        refine z_imul dX12_readBlind_40 ?_
        refine z_iload_n dX12_readBlind_41 rfl ?_
        refine z_iadd dX12_readBlind_42 ?_
        obtain ⟨h27, hv⟩ := hv
        refine z_iaload dX12_readBlind_43 zn_168 zh_168 h27 ?_
        refine z_iload_n dX12_readBlind_44 rfl ?_
        refine z_ishr dX12_readBlind_45 ?_
        refine z_iconst (v := 1) dX12_readBlind_46 (by decide) ?_
        refine z_iand dX12_readBlind_47 ?_
        refine z_if_ne (tgt := 60) dX12_readBlind_48 (by decide) (fun q33 => ?_) (fun q33 => ?_)
        · have hv := hv.1 q33
          exact hv
        · have hv := hv.2 q33
          refine z_aload_n dX12_readBlind_51 rfl ?_
          refine z_iconst (v := 3) dX12_readBlind_52 (by decide) ?_
          refine z_aload_n dX12_readBlind_53 rfl ?_
          refine z_getI dX12_readBlind_54 zf_X12_198 zn_160 zo_160 (fun _ _ _ _ _ => rfl) ?_
          refine z_callV (As := [.int 3, .int (I16 160 6)]) (st := []) dX12_readBlind_57 zl_X12_229 zv_X12_fails (by decide) rfl zn_160 zo_160 rfl rfl (Nat.le_of_ble_eq_true rfl) ⟨Nat.le_refl _, Nat.le_refl _⟩ ⟨Nat.le_refl _, Nat.le_refl _⟩ hv (fun v1 I28 L29 P30 nx1 q31 => ?_)
          obtain ⟨rfl, rfl, hv⟩ := q31
          exact hv
abbrev gw_X12_readLaw (d : Nat) (Q : zQt) (pc : Nat) (lv : zV) (st : List Value) (I : zI) (L : zL) (P : zP) : Prop := zW zm_X12_readLaw (zRm d 0 0) 0 0 Q pc lv st I L P 205 0 0
def v_X12_readLaw (d : Nat) (Q : zQt)  (I : zI) (L : zL) (P : zP) : Prop :=
  zMi zm_X12_isWord d [.ref 160, .long 7305070] I L P (fun r5 I1 L2 P3 =>
    vp_in (I 160 29) 2 ∧
    (r5 = 0 ∨ r5 = 1) ∧
    ∀ I8 : zI, I8 = zuI I1 171 (I 160 29).toNatClampNeg r5 →
    zMi zm_X12_isWord d [.ref 160, .long 6840691] I8 L2 P3 (fun r14 I10 L11 P12 =>
      ((¬ r14 = 0 →
        zMv zm_X12_must d [.ref 160, .int 1] I10 L11 P12 (fun I15 L16 P17 =>
          zPk P17 ∧
          vp_in (I15 160 29) 2 ∧
          ∀ I23 : zI, I23 = zuI I15 172 (I15 160 29).toNatClampNeg 1 →
          Q none I23 L16 P17 205
        )
      ) ∧ (r14 = 0 →
        zMi zm_X12_isWord d [.ref 160, .long 7305070] I10 L11 P12 (fun r28 I24 L25 P26 =>
          ((r28 = 0 →
            zMv zm_X12_must d [.ref 160, .int 0] I24 L25 P26 (fun I29 L30 P31 =>
              zPk P31 ∧
              vp_in (I29 160 29) 2 ∧
              ∀ I37 : zI, I37 = zuI I29 172 (I29 160 29).toNatClampNeg 1 →
              Q none I37 L30 P31 205
            )
          ) ∧ (¬ r28 = 0 →
            zMv zm_X12_must d [.ref 160, .int 1] I24 L25 P26 (fun I38 L39 P40 =>
              zPk P40 ∧
              vp_in (I38 160 29) 2 ∧
              ∀ I46 : zI, I46 = zuI I38 172 (I38 160 29).toNatClampNeg 1 →
              Q none I46 L39 P40 205
            )
          ))
        )
      ))
    )
  )
set_option maxRecDepth 20000 in
theorem g_X12_readLaw {d : Nat} {Q : zQt}  {I : zI} {L : zL} {P : zP} (hP : zPk P) (hv : v_X12_readLaw d Q  I L P) : zM zm_X12_readLaw (d + 1) 0 0 [.ref 160] I L P 205 Q := by
  unfold v_X12_readLaw at hv
  refine zM_of (lv0 := [some (.ref 160)]) (by decide +kernel) (Nat.le_of_ble_eq_true rfl) rfl ?_
  refine z_aload_n dX12_readLaw_0 rfl ?_
  refine z_getP dX12_readLaw_1 zf_X12_45 zn_160 zo_160 (fun _ _ _ _ _ => rfl) (hP 160 19 171 zp_160_19) ?_
  refine z_aload_n dX12_readLaw_4 rfl ?_
  refine z_getI dX12_readLaw_5 zf_X12_243 zn_160 zo_160 (fun _ _ _ _ _ => rfl) ?_
  refine z_aload_n dX12_readLaw_8 rfl ?_
  refine z_ldc2 (v := 7305070) dX12_readLaw_9 zj_X12_175 ?_
  refine z_callV (As := [.long 7305070]) (st := [.int (I 160 29), .ref 171]) dX12_readLaw_12 zl_X12_270 zv_X12_isWord (by decide) rfl zn_160 zo_160 rfl rfl (Nat.le_of_ble_eq_true rfl) ⟨Nat.le_refl _, Nat.le_refl _⟩ ⟨Nat.le_refl _, Nat.le_refl _⟩ hv (fun v1 I1 L2 P3 nx1 q4 => ?_)
  obtain ⟨rfl, r5, rfl, hv⟩ := q4
  obtain ⟨h6, hv⟩ := hv
  obtain ⟨h9, hv⟩ := hv
  refine z_zastore dX12_readLaw_15 zn_171 zh_171 h6 (zbn h9) (z_nmI (fun I8 e7 => ?_))
  have hv := hv I8 e7
  refine z_aload_n dX12_readLaw_16 rfl ?_
  refine z_aload_n dX12_readLaw_17 rfl ?_
  refine z_ldc2 (v := 6840691) dX12_readLaw_18 zj_X12_173 ?_
  refine z_callV (As := [.long 6840691]) (st := [.ref 160]) dX12_readLaw_21 zl_X12_270 zv_X12_isWord (by decide) rfl zn_160 zo_160 rfl rfl (Nat.le_of_ble_eq_true rfl) ⟨Nat.le_refl _, Nat.le_refl _⟩ ⟨Nat.le_refl _, Nat.le_refl _⟩ hv (fun v1 I10 L11 P12 nx1 q13 => ?_)
  obtain ⟨rfl, r14, rfl, hv⟩ := q13
  refine z_if_ne (tgt := 37) dX12_readLaw_24 (by decide) (fun q48 => ?_) (fun q48 => ?_)
  · have hv := hv.1 q48
    refine z_iconst (v := 1) dX12_readLaw_37 (by decide) ?_
    refine z_goto (tgt := 42) dX12_readLaw_38 (by decide) ?_
    refine z_callV (As := [.int 1]) (st := []) dX12_readLaw_42 zl_X12_294 zv_X12_must (by decide) rfl zn_160 zo_160 rfl rfl (Nat.le_of_ble_eq_true rfl) ⟨Nat.le_refl _, Nat.le_refl _⟩ ⟨Nat.le_refl _, Nat.le_refl _⟩ hv (fun v1 I15 L16 P17 nx1 q18 => ?_)
    obtain ⟨rfl, rfl, hv⟩ := q18
    refine z_aload_n dX12_readLaw_45 rfl ?_
    obtain ⟨h20, hv⟩ := hv
    refine z_getP dX12_readLaw_46 zf_X12_49 zn_160 zo_160 (fun _ _ _ _ _ => rfl) (h20 160 20 172 zp_160_20) ?_
    refine z_aload_n dX12_readLaw_49 rfl ?_
    refine z_getI dX12_readLaw_50 zf_X12_243 zn_160 zo_160 (fun _ _ _ _ _ => rfl) ?_
    refine z_iconst (v := 1) dX12_readLaw_53 (by decide) ?_
    obtain ⟨h21, hv⟩ := hv
    refine z_zastore (w := 1) dX12_readLaw_54 zn_172 zh_172 h21 (by decide) (z_nmI (fun I23 e22 => ?_))
    have hv := hv I23 e22
    exact z_return dX12_readLaw_55 rfl (Nat.le_refl _) (Nat.le_refl _) hv
  · have hv := hv.2 q48
    refine z_aload_n dX12_readLaw_27 rfl ?_
    refine z_ldc2 (v := 7305070) dX12_readLaw_28 zj_X12_175 ?_
    refine z_callV (As := [.long 7305070]) (st := [.ref 160]) dX12_readLaw_31 zl_X12_270 zv_X12_isWord (by decide) rfl zn_160 zo_160 rfl rfl (Nat.le_of_ble_eq_true rfl) ⟨Nat.le_refl _, Nat.le_refl _⟩ ⟨Nat.le_refl _, Nat.le_refl _⟩ hv (fun v1 I24 L25 P26 nx1 q27 => ?_)
    obtain ⟨rfl, r28, rfl, hv⟩ := q27
    refine z_if_eq (tgt := 41) dX12_readLaw_34 (by decide) (fun q47 => ?_) (fun q47 => ?_)
    · have hv := hv.1 q47
      refine z_iconst (v := 0) dX12_readLaw_41 (by decide) ?_
      refine z_callV (As := [.int 0]) (st := []) dX12_readLaw_42 zl_X12_294 zv_X12_must (by decide) rfl zn_160 zo_160 rfl rfl (Nat.le_of_ble_eq_true rfl) ⟨Nat.le_refl _, Nat.le_refl _⟩ ⟨Nat.le_refl _, Nat.le_refl _⟩ hv (fun v1 I29 L30 P31 nx1 q32 => ?_)
      obtain ⟨rfl, rfl, hv⟩ := q32
      refine z_aload_n dX12_readLaw_45 rfl ?_
      obtain ⟨h34, hv⟩ := hv
      refine z_getP dX12_readLaw_46 zf_X12_49 zn_160 zo_160 (fun _ _ _ _ _ => rfl) (h34 160 20 172 zp_160_20) ?_
      refine z_aload_n dX12_readLaw_49 rfl ?_
      refine z_getI dX12_readLaw_50 zf_X12_243 zn_160 zo_160 (fun _ _ _ _ _ => rfl) ?_
      refine z_iconst (v := 1) dX12_readLaw_53 (by decide) ?_
      obtain ⟨h35, hv⟩ := hv
      refine z_zastore (w := 1) dX12_readLaw_54 zn_172 zh_172 h35 (by decide) (z_nmI (fun I37 e36 => ?_))
      have hv := hv I37 e36
      exact z_return dX12_readLaw_55 rfl (Nat.le_refl _) (Nat.le_refl _) hv
    · have hv := hv.2 q47
      refine z_iconst (v := 1) dX12_readLaw_37 (by decide) ?_
      refine z_goto (tgt := 42) dX12_readLaw_38 (by decide) ?_
      refine z_callV (As := [.int 1]) (st := []) dX12_readLaw_42 zl_X12_294 zv_X12_must (by decide) rfl zn_160 zo_160 rfl rfl (Nat.le_of_ble_eq_true rfl) ⟨Nat.le_refl _, Nat.le_refl _⟩ ⟨Nat.le_refl _, Nat.le_refl _⟩ hv (fun v1 I38 L39 P40 nx1 q41 => ?_)
      obtain ⟨rfl, rfl, hv⟩ := q41
      refine z_aload_n dX12_readLaw_45 rfl ?_
      obtain ⟨h43, hv⟩ := hv
      refine z_getP dX12_readLaw_46 zf_X12_49 zn_160 zo_160 (fun _ _ _ _ _ => rfl) (h43 160 20 172 zp_160_20) ?_
      refine z_aload_n dX12_readLaw_49 rfl ?_
      refine z_getI dX12_readLaw_50 zf_X12_243 zn_160 zo_160 (fun _ _ _ _ _ => rfl) ?_
      refine z_iconst (v := 1) dX12_readLaw_53 (by decide) ?_
      obtain ⟨h44, hv⟩ := hv
      refine z_zastore (w := 1) dX12_readLaw_54 zn_172 zh_172 h44 (by decide) (z_nmI (fun I46 e45 => ?_))
      have hv := hv I46 e45
      exact z_return dX12_readLaw_55 rfl (Nat.le_refl _) (Nat.le_refl _) hv
abbrev gw_X12_readSaying (d : Nat) (Q : zQt) (pc : Nat) (lv : zV) (st : List Value) (I : zI) (L : zL) (P : zP) : Prop := zW zm_X12_readSaying (zRm d 0 0) 0 0 Q pc lv st I L P 205 0 0
def v_X12_readSaying (d : Nat) (Q : zQt)  (I : zI) (L : zL) (P : zP) : Prop :=
  vp_in (I 160 29) 2 ∧
  vp_in (((6 : Int32) * (I 160 29)) + (I 165 (I 160 29).toNatClampNeg)) 12 ∧
  ∀ I4 : zI, I4 = zuI I 169 (((6 : Int32) * (I 160 29)) + (I 165 (I 160 29).toNatClampNeg)).toNatClampNeg (I 160 32) →
  zMv zm_X12_f d [.ref 160] I4 L P (fun I5 L6 P7 =>
    zPk P7 ∧
    ∀ I12 : zI, I12 = zuI I5 170 (((6 : Int32) * (I 160 29)) + (I 165 (I 160 29).toNatClampNeg)).toNatClampNeg (I5 160 32) →
    vp_in (I12 160 29) 2 ∧
    ∀ I15 : zI, I15 = zuI I12 165 (I12 160 29).toNatClampNeg ((I12 165 (I12 160 29).toNatClampNeg) + 1) →
    Q none I15 L6 P7 205
  )
set_option maxRecDepth 20000 in
theorem g_X12_readSaying {d : Nat} {Q : zQt}  {I : zI} {L : zL} {P : zP} (hP : zPk P) (hv : v_X12_readSaying d Q  I L P) : zM zm_X12_readSaying (d + 1) 0 0 [.ref 160] I L P 205 Q := by
  unfold v_X12_readSaying at hv
  refine zM_of (lv0 := [some (.ref 160), none]) (by decide +kernel) (Nat.le_of_ble_eq_true rfl) rfl ?_
  refine z_bipush (v := 6) dX12_readSaying_0 (by decide) ?_
  refine z_aload_n dX12_readSaying_2 rfl ?_
  refine z_getI dX12_readSaying_3 zf_X12_243 zn_160 zo_160 (fun _ _ _ _ _ => rfl) ?_
  refine z_imul dX12_readSaying_6 ?_
  refine z_aload_n dX12_readSaying_7 rfl ?_
  refine z_getP dX12_readSaying_8 zf_X12_27 zn_160 zo_160 (fun _ _ _ _ _ => rfl) (hP 160 13 165 zp_160_13) ?_
  refine z_aload_n dX12_readSaying_11 rfl ?_
  refine z_getI dX12_readSaying_12 zf_X12_243 zn_160 zo_160 (fun _ _ _ _ _ => rfl) ?_
  obtain ⟨h1, hv⟩ := hv
  refine z_iaload dX12_readSaying_15 zn_165 zh_165 h1 ?_
  refine z_iadd dX12_readSaying_16 ?_
  refine z_istore_n (lv2 := [some (.ref 160), some (.int (((6 : Int32) * (I 160 29)) + (I 165 (I 160 29).toNatClampNeg)))]) dX12_readSaying_17 (by decide) rfl rfl ?_
  refine z_aload_n dX12_readSaying_18 rfl ?_
  refine z_getP dX12_readSaying_19 zf_X12_39 zn_160 zo_160 (fun _ _ _ _ _ => rfl) (hP 160 17 169 zp_160_17) ?_
  refine z_iload_n dX12_readSaying_22 rfl ?_
  refine z_aload_n dX12_readSaying_23 rfl ?_
  refine z_getI dX12_readSaying_24 zf_X12_246 zn_160 zo_160 (fun _ _ _ _ _ => rfl) ?_
  obtain ⟨h2, hv⟩ := hv
  refine z_iastore dX12_readSaying_27 zn_169 zh_169 h2 (z_nmI (fun I4 e3 => ?_))
  have hv := hv I4 e3
  refine z_aload_n dX12_readSaying_28 rfl ?_
  refine z_callV (As := []) (st := []) dX12_readSaying_29 zl_X12_308 zv_X12_f (by decide) rfl zn_160 zo_160 rfl rfl (Nat.le_of_ble_eq_true rfl) ⟨Nat.le_refl _, Nat.le_refl _⟩ ⟨Nat.le_refl _, Nat.le_refl _⟩ hv (fun v1 I5 L6 P7 nx1 q8 => ?_)
  obtain ⟨rfl, rfl, hv⟩ := q8
  refine z_aload_n dX12_readSaying_32 rfl ?_
  obtain ⟨h10, hv⟩ := hv
  refine z_getP dX12_readSaying_33 zf_X12_42 zn_160 zo_160 (fun _ _ _ _ _ => rfl) (h10 160 18 170 zp_160_18) ?_
  refine z_iload_n dX12_readSaying_36 rfl ?_
  refine z_aload_n dX12_readSaying_37 rfl ?_
  refine z_getI dX12_readSaying_38 zf_X12_246 zn_160 zo_160 (fun _ _ _ _ _ => rfl) ?_
  refine z_iastore dX12_readSaying_41 zn_170 zh_170 h2 (z_nmI (fun I12 e11 => ?_))
  have hv := hv I12 e11
  refine z_aload_n dX12_readSaying_42 rfl ?_
  refine z_getP dX12_readSaying_43 zf_X12_27 zn_160 zo_160 (fun _ _ _ _ _ => rfl) (h10 160 13 165 zp_160_13) ?_
  refine z_aload_n dX12_readSaying_46 rfl ?_
  refine z_getI dX12_readSaying_47 zf_X12_243 zn_160 zo_160 (fun _ _ _ _ _ => rfl) ?_
  refine z_dup2 dX12_readSaying_50 rfl rfl ?_
  obtain ⟨h13, hv⟩ := hv
  refine z_iaload dX12_readSaying_51 zn_165 zh_165 h13 ?_
  refine z_iconst (v := 1) dX12_readSaying_52 (by decide) ?_
  refine z_iadd dX12_readSaying_53 ?_
  refine z_iastore dX12_readSaying_54 zn_165 zh_165 h13 (z_nmI (fun I15 e14 => ?_))
  have hv := hv I15 e14
  exact z_return dX12_readSaying_55 rfl (Nat.le_refl _) (Nat.le_refl _) hv
abbrev gw_X12_emit (d : Nat) (Q : zQt) (pc : Nat) (lv : zV) (st : List Value) (I : zI) (L : zL) (P : zP) : Prop := zW zm_X12_emit (zRm d 0 0) 0 0 Q pc lv st I L P 205 0 0
def v_X12_emit (d : Nat) (Q : zQt) (p1 : Int32) (p2 : Int32) (I : zI) (L : zL) (P : zP) : Prop :=
  vp_in (I 160 32) 2100 ∧
  ∀ I3 : zI, I3 = zuI I 175 (I 160 32).toNatClampNeg p1 →
  vp_in (I3 160 32) 2100 ∧
  ∀ I6 : zI, I6 = zuI I3 176 (I3 160 32).toNatClampNeg p2 →
  ∀ I7 : zI, I7 = zuI I6 160 32 ((I6 160 32) + 1) →
  Q none I7 L P 205
set_option maxRecDepth 20000 in
theorem g_X12_emit {d : Nat} {Q : zQt} {p1 : Int32} {p2 : Int32} {I : zI} {L : zL} {P : zP} (hP : zPk P) (hv : v_X12_emit d Q p1 p2 I L P) : zM zm_X12_emit d 0 0 [.ref 160, .int p1, .int p2] I L P 205 Q := by
  unfold v_X12_emit at hv
  refine zM_of (lv0 := [some (.ref 160), some (.int p1), some (.int p2)]) (by decide +kernel) (Nat.le_of_ble_eq_true rfl) rfl ?_
  refine z_aload_n dX12_emit_0 rfl ?_
  refine z_getP dX12_emit_1 zf_X12_59 zn_160 zo_160 (fun _ _ _ _ _ => rfl) (hP 160 23 175 zp_160_23) ?_
  refine z_aload_n dX12_emit_4 rfl ?_
  refine z_getI dX12_emit_5 zf_X12_246 zn_160 zo_160 (fun _ _ _ _ _ => rfl) ?_
  refine z_iload_n dX12_emit_8 rfl ?_
  obtain ⟨h1, hv⟩ := hv
  refine z_iastore dX12_emit_9 zn_175 zh_175 h1 (z_nmI (fun I3 e2 => ?_))
  have hv := hv I3 e2
  refine z_aload_n dX12_emit_10 rfl ?_
  refine z_getP dX12_emit_11 zf_X12_62 zn_160 zo_160 (fun _ _ _ _ _ => rfl) (hP 160 24 176 zp_160_24) ?_
  refine z_aload_n dX12_emit_14 rfl ?_
  refine z_getI dX12_emit_15 zf_X12_246 zn_160 zo_160 (fun _ _ _ _ _ => rfl) ?_
  refine z_iload_n dX12_emit_18 rfl ?_
  obtain ⟨h4, hv⟩ := hv
  refine z_iastore dX12_emit_19 zn_176 zh_176 h4 (z_nmI (fun I6 e5 => ?_))
  have hv := hv I6 e5
  refine z_aload_n dX12_emit_20 rfl ?_
  refine z_dup dX12_emit_21 rfl ?_
  refine z_getI dX12_emit_22 zf_X12_246 zn_160 zo_160 (fun _ _ _ _ _ => rfl) ?_
  refine z_iconst (v := 1) dX12_emit_25 (by decide) ?_
  refine z_iadd dX12_emit_26 ?_
  refine z_putI dX12_emit_27 zf_X12_246 zn_160 zo_160 (Or.inl rfl) (fun _ _ _ _ _ => rfl) rfl rfl (z_nmI (fun I7 e8 => ?_))
  have hv := hv I7 e8
  exact z_return dX12_emit_30 rfl (Nat.le_refl _) (Nat.le_refl _) hv
abbrev gw_X12_pushE (d : Nat) (Q : zQt) (pc : Nat) (lv : zV) (st : List Value) (I : zI) (L : zL) (P : zP) : Prop := zW zm_X12_pushE (zRm d 0 0) 0 0 Q pc lv st I L P 205 0 0
def v_X12_pushE (d : Nat) (Q : zQt) (p1 : Int32) (p2 : Int32) (p3 : Int32) (I : zI) (L : zL) (P : zP) : Prop :=
  vp_in (I 160 34) 90 ∧
  ∀ I3 : zI, I3 = zuI I 177 (I 160 34).toNatClampNeg p1 →
  vp_in (I3 160 34) 90 ∧
  ∀ I6 : zI, I6 = zuI I3 178 (I3 160 34).toNatClampNeg p2 →
  vp_in (I6 160 34) 90 ∧
  ∀ I9 : zI, I9 = zuI I6 179 (I6 160 34).toNatClampNeg p3 →
  ∀ I10 : zI, I10 = zuI I9 160 34 ((I9 160 34) + 1) →
  Q none I10 L P 205
set_option maxRecDepth 20000 in
theorem g_X12_pushE {d : Nat} {Q : zQt} {p1 : Int32} {p2 : Int32} {p3 : Int32} {I : zI} {L : zL} {P : zP} (hP : zPk P) (hv : v_X12_pushE d Q p1 p2 p3 I L P) : zM zm_X12_pushE d 0 0 [.ref 160, .int p1, .int p2, .int p3] I L P 205 Q := by
  unfold v_X12_pushE at hv
  refine zM_of (lv0 := [some (.ref 160), some (.int p1), some (.int p2), some (.int p3)]) (by decide +kernel) (Nat.le_of_ble_eq_true rfl) rfl ?_
  refine z_aload_n dX12_pushE_0 rfl ?_
  refine z_getP dX12_pushE_1 zf_X12_65 zn_160 zo_160 (fun _ _ _ _ _ => rfl) (hP 160 25 177 zp_160_25) ?_
  refine z_aload_n dX12_pushE_4 rfl ?_
  refine z_getI dX12_pushE_5 zf_X12_311 zn_160 zo_160 (fun _ _ _ _ _ => rfl) ?_
  refine z_iload_n dX12_pushE_8 rfl ?_
  obtain ⟨h1, hv⟩ := hv
  refine z_iastore dX12_pushE_9 zn_177 zh_177 h1 (z_nmI (fun I3 e2 => ?_))
  have hv := hv I3 e2
  refine z_aload_n dX12_pushE_10 rfl ?_
  refine z_getP dX12_pushE_11 zf_X12_68 zn_160 zo_160 (fun _ _ _ _ _ => rfl) (hP 160 26 178 zp_160_26) ?_
  refine z_aload_n dX12_pushE_14 rfl ?_
  refine z_getI dX12_pushE_15 zf_X12_311 zn_160 zo_160 (fun _ _ _ _ _ => rfl) ?_
  refine z_iload_n dX12_pushE_18 rfl ?_
  obtain ⟨h4, hv⟩ := hv
  refine z_iastore dX12_pushE_19 zn_178 zh_178 h4 (z_nmI (fun I6 e5 => ?_))
  have hv := hv I6 e5
  refine z_aload_n dX12_pushE_20 rfl ?_
  refine z_getP dX12_pushE_21 zf_X12_71 zn_160 zo_160 (fun _ _ _ _ _ => rfl) (hP 160 27 179 zp_160_27) ?_
  refine z_aload_n dX12_pushE_24 rfl ?_
  refine z_getI dX12_pushE_25 zf_X12_311 zn_160 zo_160 (fun _ _ _ _ _ => rfl) ?_
  refine z_iload_n dX12_pushE_28 rfl ?_
  obtain ⟨h7, hv⟩ := hv
  refine z_iastore dX12_pushE_29 zn_179 zh_179 h7 (z_nmI (fun I9 e8 => ?_))
  have hv := hv I9 e8
  refine z_aload_n dX12_pushE_30 rfl ?_
  refine z_dup dX12_pushE_31 rfl ?_
  refine z_getI dX12_pushE_32 zf_X12_311 zn_160 zo_160 (fun _ _ _ _ _ => rfl) ?_
  refine z_iconst (v := 1) dX12_pushE_35 (by decide) ?_
  refine z_iadd dX12_pushE_36 ?_
  refine z_putI dX12_pushE_37 zf_X12_311 zn_160 zo_160 (Or.inl rfl) (fun _ _ _ _ _ => rfl) rfl rfl (z_nmI (fun I10 e11 => ?_))
  have hv := hv I10 e11
  exact z_return dX12_pushE_40 rfl (Nat.le_refl _) (Nat.le_refl _) hv
abbrev gw_X12_f (d : Nat) (Q : zQt) (pc : Nat) (lv : zV) (st : List Value) (I : zI) (L : zL) (P : zP) : Prop := zW zm_X12_f (zRm d 0 0) 0 0 Q pc lv st I L P 205 0 0
def v_X12_f_20 (d : Nat) (Q : zQt) (x1 : Int32) (I : zI) (L : zL) (P : zP) : Prop :=
  zMi zm_X12_isGood d [.ref 160] I L P (fun r14 I10 L11 P12 =>
    ((r14 = 0 →
      Q none I10 L11 P12 205
    ) ∧ (¬ r14 = 0 →
      (((I10 160 34) ≤ 0 →
        Q none I10 L11 P12 205
      ) ∧ (¬ (I10 160 34) ≤ 0 →
        ((x1 = 0 →
          zMi zm_X12_behindUnit d [.ref 160] I10 L11 P12 (fun r19 I15 L16 P17 =>
            gw_X12_f (d + 1) Q 20 [some (.ref 160), some (.int r19)] [] I15 L16 P17
          )
        ) ∧ (¬ x1 = 0 →
          zMi zm_X12_unit d [.ref 160] I10 L11 P12 (fun r24 I20 L21 P22 =>
            gw_X12_f (d + 1) Q 20 [some (.ref 160), some (.int r24)] [] I20 L21 P22
          )
        ))
      ))
    ))
  )
set_option maxRecDepth 20000 in
theorem g_X12_f_20 {d : Nat} {Q : zQt} {x1 : Int32} {I : zI} {L : zL} {P : zP} (hP : zPk P) (hv : v_X12_f_20 d Q x1 I L P) : gw_X12_f (d + 1) Q 20 [some (.ref 160), some (.int x1)] [] I L P := by
  unfold v_X12_f_20 at hv
  refine z_aload_n dX12_f_20 rfl ?_
  refine z_callV (As := []) (st := []) dX12_f_21 zl_X12_233 zv_X12_isGood (by decide) rfl zn_160 zo_160 rfl rfl (Nat.le_of_ble_eq_true rfl) ⟨Nat.le_refl _, Nat.le_refl _⟩ ⟨Nat.le_refl _, Nat.le_refl _⟩ hv (fun v1 I10 L11 P12 nx1 q13 => ?_)
  obtain ⟨rfl, r14, rfl, hv⟩ := q13
  refine z_if_eq (tgt := 53) dX12_f_24 (by decide) (fun q27 => ?_) (fun q27 => ?_)
  · have hv := hv.1 q27
    exact z_return dX12_f_53 rfl (Nat.le_refl _) (Nat.le_refl _) hv
  · have hv := hv.2 q27
    refine z_aload_n dX12_f_27 rfl ?_
    refine z_getI dX12_f_28 zf_X12_311 zn_160 zo_160 (fun _ _ _ _ _ => rfl) ?_
    refine z_if_le (tgt := 53) dX12_f_31 (by decide) (fun q26 => ?_) (fun q26 => ?_)
    · have hv := hv.1 q26
      exact z_return dX12_f_53 rfl (Nat.le_refl _) (Nat.le_refl _) hv
    · have hv := hv.2 q26
      refine z_iload_n dX12_f_34 rfl ?_
      refine z_if_eq (tgt := 45) dX12_f_35 (by decide) (fun q25 => ?_) (fun q25 => ?_)
      · have hv := hv.1 q25
        refine z_aload_n dX12_f_45 rfl ?_
        refine z_callV (As := []) (st := []) dX12_f_46 zl_X12_324 zv_X12_behindUnit (by decide) rfl zn_160 zo_160 rfl rfl (Nat.le_of_ble_eq_true rfl) ⟨Nat.le_refl _, Nat.le_refl _⟩ ⟨Nat.le_refl _, Nat.le_refl _⟩ hv (fun v1 I15 L16 P17 nx1 q18 => ?_)
        obtain ⟨rfl, r19, rfl, hv⟩ := q18
        refine z_istore_n (lv2 := [some (.ref 160), some (.int r19)]) dX12_f_49 (by decide) rfl rfl ?_
        refine z_goto (tgt := 20) dX12_f_50 (by decide) ?_
        exact hv
      · have hv := hv.2 q25
        refine z_aload_n dX12_f_38 rfl ?_
        refine z_callV (As := []) (st := []) dX12_f_39 zl_X12_321 zv_X12_unit (by decide) rfl zn_160 zo_160 rfl rfl (Nat.le_of_ble_eq_true rfl) ⟨Nat.le_refl _, Nat.le_refl _⟩ ⟨Nat.le_refl _, Nat.le_refl _⟩ hv (fun v1 I20 L21 P22 nx1 q23 => ?_)
        obtain ⟨rfl, r24, rfl, hv⟩ := q23
        refine z_goto (tgt := 49) dX12_f_42 (by decide) ?_
        refine z_istore_n (lv2 := [some (.ref 160), some (.int r24)]) dX12_f_49 (by decide) rfl rfl ?_
        refine z_goto (tgt := 20) dX12_f_50 (by decide) ?_
        exact hv
def v_X12_f (d : Nat) (Q : zQt)  (I : zI) (L : zL) (P : zP) : Prop :=
  ∀ I1 : zI, I1 = zuI I 160 34 0 →
  ∀ I3 : zI, I3 = zuI I1 160 33 0 →
  zMv zm_X12_pushE d [.ref 160, .int 8, .int 0, .int 0] I3 L P (fun I5 L6 P7 =>
    gw_X12_f (d + 1) Q 20 [some (.ref 160), some (.int 1)] [] I5 L6 P7
  )
set_option maxRecDepth 20000 in
theorem g_X12_f {d : Nat} {Q : zQt}  {I : zI} {L : zL} {P : zP} (hP : zPk P) (hv : v_X12_f d Q  I L P) : zM zm_X12_f (d + 1) 0 0 [.ref 160] I L P 205 Q := by
  unfold v_X12_f at hv
  refine zM_of (lv0 := [some (.ref 160), none]) (by decide +kernel) (Nat.le_of_ble_eq_true rfl) rfl ?_
  refine z_aload_n dX12_f_0 rfl ?_
  refine z_iconst (v := 0) dX12_f_1 (by decide) ?_
  refine z_putI dX12_f_2 zf_X12_311 zn_160 zo_160 (Or.inl rfl) (fun _ _ _ _ _ => rfl) rfl rfl (z_nmI (fun I1 e2 => ?_))
  have hv := hv I1 e2
  refine z_aload_n dX12_f_5 rfl ?_
  refine z_iconst (v := 0) dX12_f_6 (by decide) ?_
  refine z_putI dX12_f_7 zf_X12_314 zn_160 zo_160 (Or.inl rfl) (fun _ _ _ _ _ => rfl) rfl rfl (z_nmI (fun I3 e4 => ?_))
  have hv := hv I3 e4
  refine z_aload_n dX12_f_10 rfl ?_
  refine z_bipush (v := 8) dX12_f_11 (by decide) ?_
  refine z_iconst (v := 0) dX12_f_13 (by decide) ?_
  refine z_iconst (v := 0) dX12_f_14 (by decide) ?_
  refine z_callV (As := [.int 8, .int 0, .int 0]) (st := []) dX12_f_15 zl_X12_317 zv_X12_pushE (by decide) rfl zn_160 zo_160 rfl rfl (Nat.le_of_ble_eq_true rfl) ⟨Nat.le_refl _, Nat.le_refl _⟩ ⟨Nat.le_refl _, Nat.le_refl _⟩ hv (fun v1 I5 L6 P7 nx1 q8 => ?_)
  obtain ⟨rfl, rfl, hv⟩ := q8
  refine z_iconst (v := 1) dX12_f_18 (by decide) ?_
  refine z_istore_n (lv2 := [some (.ref 160), some (.int 1)]) dX12_f_19 (by decide) rfl rfl ?_
  exact hv
abbrev gw_X12_unitHere (d : Nat) (Q : zQt) (pc : Nat) (lv : zV) (st : List Value) (I : zI) (L : zL) (P : zP) : Prop := zW zm_X12_unitHere (zRm d 0 0) 0 0 Q pc lv st I L P 205 0 0
def v_X12_unitHere (d : Nat) (Q : zQt)  (I : zI) (L : zL) (P : zP) : Prop :=
  ((¬ (I 160 8) = 4 →
    zMi zm_X12_stands d [.ref 160, .int 40] I L P (fun r5 I1 L2 P3 =>
      ((r5 = 0 →
        zMi zm_X12_isWord d [.ref 160, .long 469786323827] I1 L2 P3 (fun r10 I6 L7 P8 =>
          ((r10 = 0 →
            zMi zm_X12_isWord d [.ref 160, .long 6840691] I6 L7 P8 (fun r15 I11 L12 P13 =>
              ((r15 = 0 →
                zMi zm_X12_isWord d [.ref 160, .long 1735356005] I11 L12 P13 (fun r20 I16 L17 P18 =>
                  ((r20 = 0 →
                    zMi zm_X12_isWord d [.ref 160, .long 461414299507] I16 L17 P18 (fun r25 I21 L22 P23 =>
                      ((r25 = 0 →
                        zMi zm_X12_isWord d [.ref 160, .long 6384748] I21 L22 P23 (fun r30 I26 L27 P28 =>
                          ((r30 = 0 →
                            zMi zm_X12_isWord d [.ref 160, .long 109330228408174] I26 L27 P28 (fun r35 I31 L32 P33 =>
                              ((r35 = 0 →
                                Q (some (.int 0)) I31 L32 P33 205
                              ) ∧ (¬ r35 = 0 →
                                Q (some (.int 99)) I31 L32 P33 205
                              ))
                            )
                          ) ∧ (¬ r30 = 0 →
                            Q (some (.int 97)) I26 L27 P28 205
                          ))
                        )
                      ) ∧ (¬ r25 = 0 →
                        Q (some (.int 107)) I21 L22 P23 205
                      ))
                    )
                  ) ∧ (¬ r20 = 0 →
                    Q (some (.int 103)) I16 L17 P18 205
                  ))
                )
              ) ∧ (¬ r15 = 0 →
                Q (some (.int 104)) I11 L12 P13 205
              ))
            )
          ) ∧ (¬ r10 = 0 →
            Q (some (.int 109)) I6 L7 P8 205
          ))
        )
      ) ∧ (¬ r5 = 0 →
        Q (some (.int 40)) I1 L2 P3 205
      ))
    )
  ) ∧ ((I 160 8) = 4 →
    Q (some (.int 110)) I L P 205
  ))
set_option maxRecDepth 20000 in
theorem g_X12_unitHere {d : Nat} {Q : zQt}  {I : zI} {L : zL} {P : zP} (hP : zPk P) (hv : v_X12_unitHere d Q  I L P) : zM zm_X12_unitHere (d + 1) 0 0 [.ref 160] I L P 205 Q := by
  unfold v_X12_unitHere at hv
  refine zM_of (lv0 := [some (.ref 160)]) (by decide +kernel) (Nat.le_of_ble_eq_true rfl) rfl ?_
  refine z_aload_n dX12_unitHere_0 rfl ?_
  refine z_getI dX12_unitHere_1 zf_X12_205 zn_160 zo_160 (fun _ _ _ _ _ => rfl) ?_
  refine z_iconst (v := 4) dX12_unitHere_4 (by decide) ?_
  refine z_icmp_ne (tgt := 11) dX12_unitHere_5 (by decide) (fun q43 => ?_) (fun q43 => ?_)
  · have hv := hv.1 q43
    refine z_aload_n dX12_unitHere_11 rfl ?_
    refine z_bipush (v := 40) dX12_unitHere_12 (by decide) ?_
    refine z_callV (As := [.int 40]) (st := []) dX12_unitHere_14 zl_X12_291 zv_X12_stands (by decide) rfl zn_160 zo_160 rfl rfl (Nat.le_of_ble_eq_true rfl) ⟨Nat.le_refl _, Nat.le_refl _⟩ ⟨Nat.le_refl _, Nat.le_refl _⟩ hv (fun v1 I1 L2 P3 nx1 q4 => ?_)
    obtain ⟨rfl, r5, rfl, hv⟩ := q4
    refine z_if_eq (tgt := 23) dX12_unitHere_17 (by decide) (fun q42 => ?_) (fun q42 => ?_)
    · have hv := hv.1 q42
      refine z_aload_n dX12_unitHere_23 rfl ?_
      refine z_ldc2 (v := 469786323827) dX12_unitHere_24 zj_X12_179 ?_
      refine z_callV (As := [.long 469786323827]) (st := []) dX12_unitHere_27 zl_X12_270 zv_X12_isWord (by decide) rfl zn_160 zo_160 rfl rfl (Nat.le_of_ble_eq_true rfl) ⟨Nat.le_refl _, Nat.le_refl _⟩ ⟨Nat.le_refl _, Nat.le_refl _⟩ hv (fun v1 I6 L7 P8 nx1 q9 => ?_)
      obtain ⟨rfl, r10, rfl, hv⟩ := q9
      refine z_if_eq (tgt := 36) dX12_unitHere_30 (by decide) (fun q41 => ?_) (fun q41 => ?_)
      · have hv := hv.1 q41
        refine z_aload_n dX12_unitHere_36 rfl ?_
        refine z_ldc2 (v := 6840691) dX12_unitHere_37 zj_X12_173 ?_
        refine z_callV (As := [.long 6840691]) (st := []) dX12_unitHere_40 zl_X12_270 zv_X12_isWord (by decide) rfl zn_160 zo_160 rfl rfl (Nat.le_of_ble_eq_true rfl) ⟨Nat.le_refl _, Nat.le_refl _⟩ ⟨Nat.le_refl _, Nat.le_refl _⟩ hv (fun v1 I11 L12 P13 nx1 q14 => ?_)
        obtain ⟨rfl, r15, rfl, hv⟩ := q14
        refine z_if_eq (tgt := 49) dX12_unitHere_43 (by decide) (fun q40 => ?_) (fun q40 => ?_)
        · have hv := hv.1 q40
          refine z_aload_n dX12_unitHere_49 rfl ?_
          refine z_ldc2 (v := 1735356005) dX12_unitHere_50 zj_X12_181 ?_
          refine z_callV (As := [.long 1735356005]) (st := []) dX12_unitHere_53 zl_X12_270 zv_X12_isWord (by decide) rfl zn_160 zo_160 rfl rfl (Nat.le_of_ble_eq_true rfl) ⟨Nat.le_refl _, Nat.le_refl _⟩ ⟨Nat.le_refl _, Nat.le_refl _⟩ hv (fun v1 I16 L17 P18 nx1 q19 => ?_)
          obtain ⟨rfl, r20, rfl, hv⟩ := q19
          refine z_if_eq (tgt := 62) dX12_unitHere_56 (by decide) (fun q39 => ?_) (fun q39 => ?_)
          · have hv := hv.1 q39
            refine z_aload_n dX12_unitHere_62 rfl ?_
            refine z_ldc2 (v := 461414299507) dX12_unitHere_63 zj_X12_183 ?_
            refine z_callV (As := [.long 461414299507]) (st := []) dX12_unitHere_66 zl_X12_270 zv_X12_isWord (by decide) rfl zn_160 zo_160 rfl rfl (Nat.le_of_ble_eq_true rfl) ⟨Nat.le_refl _, Nat.le_refl _⟩ ⟨Nat.le_refl _, Nat.le_refl _⟩ hv (fun v1 I21 L22 P23 nx1 q24 => ?_)
            obtain ⟨rfl, r25, rfl, hv⟩ := q24
            refine z_if_eq (tgt := 75) dX12_unitHere_69 (by decide) (fun q38 => ?_) (fun q38 => ?_)
            · have hv := hv.1 q38
              refine z_aload_n dX12_unitHere_75 rfl ?_
              refine z_ldc2 (v := 6384748) dX12_unitHere_76 zj_X12_185 ?_
              refine z_callV (As := [.long 6384748]) (st := []) dX12_unitHere_79 zl_X12_270 zv_X12_isWord (by decide) rfl zn_160 zo_160 rfl rfl (Nat.le_of_ble_eq_true rfl) ⟨Nat.le_refl _, Nat.le_refl _⟩ ⟨Nat.le_refl _, Nat.le_refl _⟩ hv (fun v1 I26 L27 P28 nx1 q29 => ?_)
              obtain ⟨rfl, r30, rfl, hv⟩ := q29
              refine z_if_eq (tgt := 88) dX12_unitHere_82 (by decide) (fun q37 => ?_) (fun q37 => ?_)
              · have hv := hv.1 q37
                refine z_aload_n dX12_unitHere_88 rfl ?_
                refine z_ldc2 (v := 109330228408174) dX12_unitHere_89 zj_X12_187 ?_
                refine z_callV (As := [.long 109330228408174]) (st := []) dX12_unitHere_92 zl_X12_270 zv_X12_isWord (by decide) rfl zn_160 zo_160 rfl rfl (Nat.le_of_ble_eq_true rfl) ⟨Nat.le_refl _, Nat.le_refl _⟩ ⟨Nat.le_refl _, Nat.le_refl _⟩ hv (fun v1 I31 L32 P33 nx1 q34 => ?_)
                obtain ⟨rfl, r35, rfl, hv⟩ := q34
                refine z_if_eq (tgt := 103) dX12_unitHere_95 (by decide) (fun q36 => ?_) (fun q36 => ?_)
                · have hv := hv.1 q36
                  refine z_iconst (v := 0) dX12_unitHere_103 (by decide) ?_
                  exact z_ireturn dX12_unitHere_104 rfl rfl (Nat.le_refl _) (Nat.le_refl _) hv
                · have hv := hv.2 q36
                  refine z_bipush (v := 99) dX12_unitHere_98 (by decide) ?_
                  refine z_goto (tgt := 104) dX12_unitHere_100 (by decide) ?_
                  exact z_ireturn dX12_unitHere_104 rfl rfl (Nat.le_refl _) (Nat.le_refl _) hv
              · have hv := hv.2 q37
                refine z_bipush (v := 97) dX12_unitHere_85 (by decide) ?_
                exact z_ireturn dX12_unitHere_87 rfl rfl (Nat.le_refl _) (Nat.le_refl _) hv
            · have hv := hv.2 q38
              refine z_bipush (v := 107) dX12_unitHere_72 (by decide) ?_
              exact z_ireturn dX12_unitHere_74 rfl rfl (Nat.le_refl _) (Nat.le_refl _) hv
          · have hv := hv.2 q39
            refine z_bipush (v := 103) dX12_unitHere_59 (by decide) ?_
            exact z_ireturn dX12_unitHere_61 rfl rfl (Nat.le_refl _) (Nat.le_refl _) hv
        · have hv := hv.2 q40
          refine z_bipush (v := 104) dX12_unitHere_46 (by decide) ?_
          exact z_ireturn dX12_unitHere_48 rfl rfl (Nat.le_refl _) (Nat.le_refl _) hv
      · have hv := hv.2 q41
        refine z_bipush (v := 109) dX12_unitHere_33 (by decide) ?_
        exact z_ireturn dX12_unitHere_35 rfl rfl (Nat.le_refl _) (Nat.le_refl _) hv
    · have hv := hv.2 q42
      refine z_bipush (v := 40) dX12_unitHere_20 (by decide) ?_
      exact z_ireturn dX12_unitHere_22 rfl rfl (Nat.le_refl _) (Nat.le_refl _) hv
  · have hv := hv.2 q43
    refine z_bipush (v := 110) dX12_unitHere_8 (by decide) ?_
    exact z_ireturn dX12_unitHere_10 rfl rfl (Nat.le_refl _) (Nat.le_refl _) hv
abbrev gw_X12_unit (d : Nat) (Q : zQt) (pc : Nat) (lv : zV) (st : List Value) (I : zI) (L : zL) (P : zP) : Prop := zW zm_X12_unit (zRm d 0 0) 0 0 Q pc lv st I L P 205 0 0
def v_X12_unit_271 (d : Nat) (Q : zQt) (x3 : Int32) (x5 : Int32) (I : zI) (L : zL) (P : zP) : Prop :=
  zMv zm_X12_pushE d [.ref 160, .int 7, .int x3, .int x5] I L P (fun I174 L175 P176 =>
    ∀ I179 : zI, I179 = zuI I174 160 33 ((I174 160 33) + 1) →
    Q (some (.int 1)) I179 L175 P176 205
  )
set_option maxRecDepth 20000 in
theorem g_X12_unit_271 {d : Nat} {Q : zQt} {x3 : Int32} {x5 : Int32} {I : zI} {L : zL} {P : zP} (hP : zPk P) (hv : v_X12_unit_271 d Q x3 x5 I L P) : gw_X12_unit (d + 1) Q 271 [some (.ref 160), none, none, some (.int x3), none, some (.int x5)] [] I L P := by
  unfold v_X12_unit_271 at hv
  refine z_aload_n dX12_unit_271 rfl ?_
  refine z_bipush (v := 7) dX12_unit_272 (by decide) ?_
  refine z_iload_n dX12_unit_274 rfl ?_
  refine z_iload dX12_unit_275 rfl ?_
  refine z_callV (As := [.int 7, .int x3, .int x5]) (st := []) dX12_unit_277 zl_X12_317 zv_X12_pushE (by decide) rfl zn_160 zo_160 rfl rfl (Nat.le_of_ble_eq_true rfl) ⟨Nat.le_refl _, Nat.le_refl _⟩ ⟨Nat.le_refl _, Nat.le_refl _⟩ hv (fun v1 I174 L175 P176 nx1 q177 => ?_)
  obtain ⟨rfl, rfl, hv⟩ := q177
  refine z_aload_n dX12_unit_280 rfl ?_
  refine z_dup dX12_unit_281 rfl ?_
  refine z_getI dX12_unit_282 zf_X12_314 zn_160 zo_160 (fun _ _ _ _ _ => rfl) ?_
  refine z_iconst (v := 1) dX12_unit_285 (by decide) ?_
  refine z_iadd dX12_unit_286 ?_
  refine z_putI dX12_unit_287 zf_X12_314 zn_160 zo_160 (Or.inl rfl) (fun _ _ _ _ _ => rfl) rfl rfl (z_nmI (fun I179 e180 => ?_))
  have hv := hv I179 e180
  refine z_iconst (v := 1) dX12_unit_290 (by decide) ?_
  exact z_ireturn dX12_unit_291 rfl (by decide) (Nat.le_refl _) (Nat.le_refl _) hv
def v_X12_unit_241 (d : Nat) (Q : zQt) (x3 : Int32) (x4 : Int32) (x5 : Int32) (I : zI) (L : zL) (P : zP) : Prop :=
  ((¬ x4 = 0 →
    ((x3 = 40 →
      gw_X12_unit (d + 1) Q 271 [some (.ref 160), none, none, some (.int x3), none, some (.int x5)] [] I L P
    ) ∧ (¬ x3 = 40 →
      zMi zm_X12_stands d [.ref 160, .int 40] I L P (fun r161 I157 L158 P159 =>
        zMv zm_X12_must d [.ref 160, .int r161] I157 L158 P159 (fun I162 L163 P164 =>
          gw_X12_unit (d + 1) Q 271 [some (.ref 160), none, none, some (.int x3), none, some (.int x5)] [] I162 L163 P164
        )
      )
    ))
  ) ∧ (x4 = 0 →
    zMv zm_X12_emit d [.ref 160, .int x3, .int x5] I L P (fun I168 L169 P170 =>
      Q (some (.int 0)) I168 L169 P170 205
    )
  ))
set_option maxRecDepth 20000 in
theorem g_X12_unit_241 {d : Nat} {Q : zQt} {x3 : Int32} {x4 : Int32} {x5 : Int32} {I : zI} {L : zL} {P : zP} (hP : zPk P) (hv : v_X12_unit_241 d Q x3 x4 x5 I L P) : gw_X12_unit (d + 1) Q 241 [some (.ref 160), none, none, some (.int x3), some (.int x4), some (.int x5)] [] I L P := by
  unfold v_X12_unit_241 at hv
  refine z_iload dX12_unit_241 rfl ?_
  refine z_if_ne (tgt := 255) dX12_unit_243 (by decide) (fun q173 => ?_) (fun q173 => ?_)
  · have hv := hv.1 q173
    refine z_iload_n dX12_unit_255 rfl ?_
    refine z_bipush (v := 40) dX12_unit_256 (by decide) ?_
    refine z_icmp_eq (tgt := 271) dX12_unit_258 (by decide) (fun q167 => ?_) (fun q167 => ?_)
    · have hv := hv.1 q167
      exact z_sub (by exact ⟨rfl, ⟨rfl, ⟨rfl, trivial⟩⟩⟩) hv
    · have hv := hv.2 q167
      refine z_aload_n dX12_unit_261 rfl ?_
      refine z_aload_n dX12_unit_262 rfl ?_
      refine z_bipush (v := 40) dX12_unit_263 (by decide) ?_
      refine z_callV (As := [.int 40]) (st := [.ref 160]) dX12_unit_265 zl_X12_291 zv_X12_stands (by decide) rfl zn_160 zo_160 rfl rfl (Nat.le_of_ble_eq_true rfl) ⟨Nat.le_refl _, Nat.le_refl _⟩ ⟨Nat.le_refl _, Nat.le_refl _⟩ hv (fun v1 I157 L158 P159 nx1 q160 => ?_)
      obtain ⟨rfl, r161, rfl, hv⟩ := q160
      refine z_callV (As := [.int r161]) (st := []) dX12_unit_268 zl_X12_294 zv_X12_must (by decide) rfl zn_160 zo_160 rfl rfl (Nat.le_of_ble_eq_true rfl) ⟨Nat.le_refl _, Nat.le_refl _⟩ ⟨Nat.le_refl _, Nat.le_refl _⟩ hv (fun v1 I162 L163 P164 nx1 q165 => ?_)
      obtain ⟨rfl, rfl, hv⟩ := q165
      exact z_sub (by exact ⟨rfl, ⟨rfl, ⟨rfl, trivial⟩⟩⟩) hv
  · have hv := hv.2 q173
    refine z_aload_n dX12_unit_246 rfl ?_
    refine z_iload_n dX12_unit_247 rfl ?_
    refine z_iload dX12_unit_248 rfl ?_
    refine z_callV (As := [.int x3, .int x5]) (st := []) dX12_unit_250 zl_X12_330 zv_X12_emit (by decide) rfl zn_160 zo_160 rfl rfl (Nat.le_of_ble_eq_true rfl) ⟨Nat.le_refl _, Nat.le_refl _⟩ ⟨Nat.le_refl _, Nat.le_refl _⟩ hv (fun v1 I168 L169 P170 nx1 q171 => ?_)
    obtain ⟨rfl, rfl, hv⟩ := q171
    refine z_iconst (v := 0) dX12_unit_253 (by decide) ?_
    exact z_ireturn dX12_unit_254 rfl (by decide) (Nat.le_refl _) (Nat.le_refl _) hv
def v_X12_unit_231 (d : Nat) (Q : zQt) (x3 : Int32) (x4 : Int32) (I : zI) (L : zL) (P : zP) : Prop :=
  zMi zm_X12_here d [.ref 160] I L P (fun r151 I147 L148 P149 =>
    zMi zm_X12_known d [.ref 160, .int r151] I147 L148 P149 (fun r156 I152 L153 P154 =>
      gw_X12_unit (d + 1) Q 241 [some (.ref 160), none, none, some (.int x3), some (.int x4), some (.int r156)] [] I152 L153 P154
    )
  )
set_option maxRecDepth 20000 in
theorem g_X12_unit_231 {d : Nat} {Q : zQt} {x3 : Int32} {x4 : Int32} {I : zI} {L : zL} {P : zP} (hP : zPk P) (hv : v_X12_unit_231 d Q x3 x4 I L P) : gw_X12_unit (d + 1) Q 231 [some (.ref 160), none, none, some (.int x3), some (.int x4), none] [] I L P := by
  unfold v_X12_unit_231 at hv
  refine z_aload_n dX12_unit_231 rfl ?_
  refine z_aload_n dX12_unit_232 rfl ?_
  refine z_callV (As := []) (st := [.ref 160]) dX12_unit_233 zl_X12_298 zv_X12_here (by decide) rfl zn_160 zo_160 rfl rfl (Nat.le_of_ble_eq_true rfl) ⟨Nat.le_refl _, Nat.le_refl _⟩ ⟨Nat.le_refl _, Nat.le_refl _⟩ hv (fun v1 I147 L148 P149 nx1 q150 => ?_)
  obtain ⟨rfl, r151, rfl, hv⟩ := q150
  refine z_callV (As := [.int r151]) (st := []) dX12_unit_236 zl_X12_305 zv_X12_known (by decide) rfl zn_160 zo_160 rfl rfl (Nat.le_of_ble_eq_true rfl) ⟨Nat.le_refl _, Nat.le_refl _⟩ ⟨Nat.le_refl _, Nat.le_refl _⟩ hv (fun v1 I152 L153 P154 nx1 q155 => ?_)
  obtain ⟨rfl, r156, rfl, hv⟩ := q155
  refine z_istore (lv2 := [some (.ref 160), none, none, some (.int x3), some (.int x4), some (.int r156)]) dX12_unit_239 (by decide) rfl rfl ?_
  exact hv
def v_X12_unit_183 (d : Nat) (Q : zQt) (x2 : Int32) (x3 : Int32) (x4 : Int32) (t0 : Int32) (I : zI) (L : zL) (P : zP) : Prop :=
  zMv zm_X12_goOn d [.ref 160] I L P (fun I131 L132 P133 =>
    ((x2 = 0 →
      ((x3 = 104 →
        gw_X12_unit (d + 1) Q 231 [some (.ref 160), none, none, some (.int x3), some (.int x4), none] [] I131 L132 P133
      ) ∧ (¬ x3 = 104 →
        ((x3 = 103 →
          gw_X12_unit (d + 1) Q 231 [some (.ref 160), none, none, some (.int x3), some (.int x4), none] [] I131 L132 P133
        ) ∧ (¬ x3 = 103 →
          ((¬ x3 = 107 →
            gw_X12_unit (d + 1) Q 241 [some (.ref 160), none, none, some (.int x3), some (.int x4), some (.int t0)] [] I131 L132 P133
          ) ∧ (x3 = 107 →
            gw_X12_unit (d + 1) Q 231 [some (.ref 160), none, none, some (.int x3), some (.int x4), none] [] I131 L132 P133
          ))
        ))
      ))
    ) ∧ (¬ x2 = 0 →
      zMv zm_X12_pushE d [.ref 160, .int 3, .int 126, .int 0] I131 L132 P133 (fun I139 L140 P141 =>
        ∀ I144 : zI, I144 = zuI I139 160 33 ((I139 160 33) + 1) →
        Q (some (.int 1)) I144 L140 P141 205
      )
    ))
  )
set_option maxRecDepth 20000 in
theorem g_X12_unit_183 {d : Nat} {Q : zQt} {x2 : Int32} {x3 : Int32} {x4 : Int32} {t0 : Int32} {I : zI} {L : zL} {P : zP} (hP : zPk P) (hv : v_X12_unit_183 d Q x2 x3 x4 t0 I L P) : gw_X12_unit (d + 1) Q 183 [some (.ref 160), none, some (.int x2), some (.int x3), some (.int x4), none] [.int t0] I L P := by
  unfold v_X12_unit_183 at hv
  refine z_istore (lv2 := [some (.ref 160), none, some (.int x2), some (.int x3), some (.int x4), some (.int t0)]) dX12_unit_183 (by decide) rfl rfl ?_
  refine z_aload_n dX12_unit_185 rfl ?_
  refine z_callV (As := []) (st := []) dX12_unit_186 zl_X12_237 zv_X12_goOn (by decide) rfl zn_160 zo_160 rfl rfl (Nat.le_of_ble_eq_true rfl) ⟨Nat.le_refl _, Nat.le_refl _⟩ ⟨Nat.le_refl _, Nat.le_refl _⟩ hv (fun v1 I131 L132 P133 nx1 q134 => ?_)
  obtain ⟨rfl, rfl, hv⟩ := q134
  refine z_iload_n dX12_unit_189 rfl ?_
  refine z_if_eq (tgt := 213) dX12_unit_190 (by decide) (fun q146 => ?_) (fun q146 => ?_)
  · have hv := hv.1 q146
    refine z_iload_n dX12_unit_213 rfl ?_
    refine z_bipush (v := 104) dX12_unit_214 (by decide) ?_
    refine z_icmp_eq (tgt := 231) dX12_unit_216 (by decide) (fun q138 => ?_) (fun q138 => ?_)
    · have hv := hv.1 q138
      exact z_sub (by exact ⟨rfl, ⟨rfl, ⟨rfl, trivial⟩⟩⟩) hv
    · have hv := hv.2 q138
      refine z_iload_n dX12_unit_219 rfl ?_
      refine z_bipush (v := 103) dX12_unit_220 (by decide) ?_
      refine z_icmp_eq (tgt := 231) dX12_unit_222 (by decide) (fun q137 => ?_) (fun q137 => ?_)
      · have hv := hv.1 q137
        exact z_sub (by exact ⟨rfl, ⟨rfl, ⟨rfl, trivial⟩⟩⟩) hv
      · have hv := hv.2 q137
        refine z_iload_n dX12_unit_225 rfl ?_
        refine z_bipush (v := 107) dX12_unit_226 (by decide) ?_
        refine z_icmp_ne (tgt := 241) dX12_unit_228 (by decide) (fun q136 => ?_) (fun q136 => ?_)
        · have hv := hv.1 q136
          exact z_sub (by exact ⟨rfl, ⟨rfl, ⟨rfl, ⟨rfl, trivial⟩⟩⟩⟩) hv
        · have hv := hv.2 q136
          exact z_sub (by exact ⟨rfl, ⟨rfl, ⟨rfl, trivial⟩⟩⟩) hv
  · have hv := hv.2 q146
    refine z_aload_n dX12_unit_193 rfl ?_
    refine z_iconst (v := 3) dX12_unit_194 (by decide) ?_
    refine z_bipush (v := 126) dX12_unit_195 (by decide) ?_
    refine z_iconst (v := 0) dX12_unit_197 (by decide) ?_
    refine z_callV (As := [.int 3, .int 126, .int 0]) (st := []) dX12_unit_198 zl_X12_317 zv_X12_pushE (by decide) rfl zn_160 zo_160 rfl rfl (Nat.le_of_ble_eq_true rfl) ⟨Nat.le_refl _, Nat.le_refl _⟩ ⟨Nat.le_refl _, Nat.le_refl _⟩ hv (fun v1 I139 L140 P141 nx1 q142 => ?_)
    obtain ⟨rfl, rfl, hv⟩ := q142
    refine z_aload_n dX12_unit_201 rfl ?_
    refine z_dup dX12_unit_202 rfl ?_
    refine z_getI dX12_unit_203 zf_X12_314 zn_160 zo_160 (fun _ _ _ _ _ => rfl) ?_
    refine z_iconst (v := 1) dX12_unit_206 (by decide) ?_
    refine z_iadd dX12_unit_207 ?_
    refine z_putI dX12_unit_208 zf_X12_314 zn_160 zo_160 (Or.inl rfl) (fun _ _ _ _ _ => rfl) rfl rfl (z_nmI (fun I144 e145 => ?_))
    have hv := hv I144 e145
    refine z_iconst (v := 1) dX12_unit_211 (by decide) ?_
    exact z_ireturn dX12_unit_212 rfl (by decide) (Nat.le_refl _) (Nat.le_refl _) hv
def v_X12_unit_167 (d : Nat) (Q : zQt) (x2 : Int32) (x3 : Int32) (x4 : Int32) (t0 : Int32) (t1 : Int32) (t2 : Int32) (I : zI) (L : zL) (P : zP) : Prop :=
  vp_in t2 3 ∧
  ∀ I129 : zI, I129 = zuI I 166 t2.toNatClampNeg (t1 + t0) →
  ((¬ x3 = 110 →
    gw_X12_unit (d + 1) Q 183 [some (.ref 160), none, some (.int x2), some (.int x3), some (.int x4), none] [.int 0] I129 L P
  ) ∧ (x3 = 110 →
    gw_X12_unit (d + 1) Q 183 [some (.ref 160), none, some (.int x2), some (.int x3), some (.int x4), none] [.int (I129 160 9)] I129 L P
  ))
set_option maxRecDepth 20000 in
theorem g_X12_unit_167 {d : Nat} {Q : zQt} {x2 : Int32} {x3 : Int32} {x4 : Int32} {t0 : Int32} {t1 : Int32} {t2 : Int32} {I : zI} {L : zL} {P : zP} (hP : zPk P) (hv : v_X12_unit_167 d Q x2 x3 x4 t0 t1 t2 I L P) : gw_X12_unit (d + 1) Q 167 [some (.ref 160), none, some (.int x2), some (.int x3), some (.int x4), none] [.int t0, .int t1, .int t2, .ref 166] I L P := by
  unfold v_X12_unit_167 at hv
  refine z_iadd dX12_unit_167 ?_
  obtain ⟨h127, hv⟩ := hv
  refine z_iastore dX12_unit_168 zn_166 zh_166 h127 (z_nmI (fun I129 e128 => ?_))
  have hv := hv I129 e128
  refine z_iload_n dX12_unit_169 rfl ?_
  refine z_bipush (v := 110) dX12_unit_170 (by decide) ?_
  refine z_icmp_ne (tgt := 182) dX12_unit_172 (by decide) (fun q130 => ?_) (fun q130 => ?_)
  · have hv := hv.1 q130
    refine z_iconst (v := 0) dX12_unit_182 (by decide) ?_
    exact hv
  · have hv := hv.2 q130
    refine z_aload_n dX12_unit_175 rfl ?_
    refine z_getI dX12_unit_176 zf_X12_223 zn_160 zo_160 (fun _ _ _ _ _ => rfl) ?_
    refine z_goto (tgt := 183) dX12_unit_179 (by decide) ?_
    exact hv
def v_X12_unit_139 (d : Nat) (Q : zQt) (x2 : Int32) (x3 : Int32) (x4 : Int32) (I : zI) (L : zL) (P : zP) : Prop :=
  zMi zm_X12_isGood d [.ref 160] I L P (fun r122 I118 L119 P120 =>
    ((¬ r122 = 0 →
      zPk P120 ∧
      vp_in (I118 160 30) 3 ∧
      ((x2 = 0 →
        gw_X12_unit (d + 1) Q 167 [some (.ref 160), none, some (.int x2), some (.int x3), some (.int x4), none] [.int 1, .int (I118 166 (I118 160 30).toNatClampNeg), .int (I118 160 30), .ref 166] I118 L119 P120
      ) ∧ (¬ x2 = 0 →
        gw_X12_unit (d + 1) Q 167 [some (.ref 160), none, some (.int x2), some (.int x3), some (.int x4), none] [.int 0, .int (I118 166 (I118 160 30).toNatClampNeg), .int (I118 160 30), .ref 166] I118 L119 P120
      ))
    ) ∧ (r122 = 0 →
      Q (some (.int 1)) I118 L119 P120 205
    ))
  )
set_option maxRecDepth 20000 in
theorem g_X12_unit_139 {d : Nat} {Q : zQt} {x2 : Int32} {x3 : Int32} {x4 : Int32} {I : zI} {L : zL} {P : zP} (hP : zPk P) (hv : v_X12_unit_139 d Q x2 x3 x4 I L P) : gw_X12_unit (d + 1) Q 139 [some (.ref 160), none, some (.int x2), some (.int x3), some (.int x4), none] [] I L P := by
  unfold v_X12_unit_139 at hv
  refine z_aload_n dX12_unit_139 rfl ?_
  refine z_callV (As := []) (st := []) dX12_unit_140 zl_X12_233 zv_X12_isGood (by decide) rfl zn_160 zo_160 rfl rfl (Nat.le_of_ble_eq_true rfl) ⟨Nat.le_refl _, Nat.le_refl _⟩ ⟨Nat.le_refl _, Nat.le_refl _⟩ hv (fun v1 I118 L119 P120 nx1 q121 => ?_)
  obtain ⟨rfl, r122, rfl, hv⟩ := q121
  refine z_if_ne (tgt := 148) dX12_unit_143 (by decide) (fun q126 => ?_) (fun q126 => ?_)
  · have hv := hv.1 q126
    refine z_aload_n dX12_unit_148 rfl ?_
    obtain ⟨h123, hv⟩ := hv
    refine z_getP dX12_unit_149 zf_X12_30 zn_160 zo_160 (fun _ _ _ _ _ => rfl) (h123 160 14 166 zp_160_14) ?_
    refine z_aload_n dX12_unit_152 rfl ?_
    refine z_getI dX12_unit_153 zf_X12_249 zn_160 zo_160 (fun _ _ _ _ _ => rfl) ?_
    refine z_dup2 dX12_unit_156 rfl rfl ?_
    obtain ⟨h124, hv⟩ := hv
    refine z_iaload dX12_unit_157 zn_166 zh_166 h124 ?_
    refine z_iload_n dX12_unit_158 rfl ?_
    refine z_if_eq (tgt := 166) dX12_unit_159 (by decide) (fun q125 => ?_) (fun q125 => ?_)
    · have hv := hv.1 q125
      refine z_iconst (v := 1) dX12_unit_166 (by decide) ?_
      exact hv
    · have hv := hv.2 q125
      refine z_iconst (v := 0) dX12_unit_162 (by decide) ?_
      refine z_goto (tgt := 167) dX12_unit_163 (by decide) ?_
      exact hv
  · have hv := hv.2 q126
    refine z_iconst (v := 1) dX12_unit_146 (by decide) ?_
    exact z_ireturn dX12_unit_147 rfl (by decide) (Nat.le_refl _) (Nat.le_refl _) hv
def v_X12_unit_135 (d : Nat) (Q : zQt) (x2 : Int32) (x3 : Int32) (x4 : Int32) (I : zI) (L : zL) (P : zP) : Prop :=
  zMv zm_X12_misplaced d [.ref 160] I L P (fun I112 L113 P114 =>
    gw_X12_unit (d + 1) Q 139 [some (.ref 160), none, some (.int x2), some (.int x3), some (.int x4), none] [] I112 L113 P114
  )
set_option maxRecDepth 20000 in
theorem g_X12_unit_135 {d : Nat} {Q : zQt} {x2 : Int32} {x3 : Int32} {x4 : Int32} {I : zI} {L : zL} {P : zP} (hP : zPk P) (hv : v_X12_unit_135 d Q x2 x3 x4 I L P) : gw_X12_unit (d + 1) Q 135 [some (.ref 160), none, some (.int x2), some (.int x3), some (.int x4), none] [] I L P := by
  unfold v_X12_unit_135 at hv
  refine z_aload_n dX12_unit_135 rfl ?_
  refine z_callV (As := []) (st := []) dX12_unit_136 zl_X12_240 zv_X12_misplaced (by decide) rfl zn_160 zo_160 rfl rfl (Nat.le_of_ble_eq_true rfl) ⟨Nat.le_refl _, Nat.le_refl _⟩ ⟨Nat.le_refl _, Nat.le_refl _⟩ hv (fun v1 I112 L113 P114 nx1 q115 => ?_)
  obtain ⟨rfl, rfl, hv⟩ := q115
  exact hv
def v_X12_unit_126 (d : Nat) (Q : zQt) (x2 : Int32) (x3 : Int32) (x4 : Int32) (I : zI) (L : zL) (P : zP) : Prop :=
  ((¬ (I 160 33) = 7 →
    gw_X12_unit (d + 1) Q 139 [some (.ref 160), none, some (.int x2), some (.int x3), some (.int x4), none] [] I L P
  ) ∧ ((I 160 33) = 7 →
    gw_X12_unit (d + 1) Q 135 [some (.ref 160), none, some (.int x2), some (.int x3), some (.int x4), none] [] I L P
  ))
set_option maxRecDepth 20000 in
theorem g_X12_unit_126 {d : Nat} {Q : zQt} {x2 : Int32} {x3 : Int32} {x4 : Int32} {I : zI} {L : zL} {P : zP} (hP : zPk P) (hv : v_X12_unit_126 d Q x2 x3 x4 I L P) : gw_X12_unit (d + 1) Q 126 [some (.ref 160), none, some (.int x2), some (.int x3), some (.int x4), none] [] I L P := by
  unfold v_X12_unit_126 at hv
  refine z_aload_n dX12_unit_126 rfl ?_
  refine z_getI dX12_unit_127 zf_X12_314 zn_160 zo_160 (fun _ _ _ _ _ => rfl) ?_
  refine z_bipush (v := 7) dX12_unit_130 (by decide) ?_
  refine z_icmp_ne (tgt := 139) dX12_unit_132 (by decide) (fun q117 => ?_) (fun q117 => ?_)
  · have hv := hv.1 q117
    exact hv
  · have hv := hv.2 q117
    exact hv
def v_X12_unit_117 (d : Nat) (Q : zQt) (x2 : Int32) (x3 : Int32) (x4 : Int32) (I : zI) (L : zL) (P : zP) : Prop :=
  ((¬ x2 = 0 →
    gw_X12_unit (d + 1) Q 126 [some (.ref 160), none, some (.int x2), some (.int x3), some (.int x4), none] [] I L P
  ) ∧ (x2 = 0 →
    ((x4 = 0 →
      gw_X12_unit (d + 1) Q 139 [some (.ref 160), none, some (.int x2), some (.int x3), some (.int x4), none] [] I L P
    ) ∧ (¬ x4 = 0 →
      gw_X12_unit (d + 1) Q 126 [some (.ref 160), none, some (.int x2), some (.int x3), some (.int x4), none] [] I L P
    ))
  ))
set_option maxRecDepth 20000 in
theorem g_X12_unit_117 {d : Nat} {Q : zQt} {x2 : Int32} {x3 : Int32} {x4 : Int32} {I : zI} {L : zL} {P : zP} (hP : zPk P) (hv : v_X12_unit_117 d Q x2 x3 x4 I L P) : gw_X12_unit (d + 1) Q 117 [some (.ref 160), none, some (.int x2), some (.int x3), some (.int x4), none] [] I L P := by
  unfold v_X12_unit_117 at hv
  refine z_iload_n dX12_unit_117 rfl ?_
  refine z_if_ne (tgt := 126) dX12_unit_118 (by decide) (fun q111 => ?_) (fun q111 => ?_)
  · have hv := hv.1 q111
    exact hv
  · have hv := hv.2 q111
    refine z_iload dX12_unit_121 rfl ?_
    refine z_if_eq (tgt := 139) dX12_unit_123 (by decide) (fun q110 => ?_) (fun q110 => ?_)
    · have hv := hv.1 q110
      exact hv
    · have hv := hv.2 q110
      exact hv
def v_X12_unit_91 (d : Nat) (Q : zQt) (x2 : Int32) (x3 : Int32) (t0 : Int32) (I : zI) (L : zL) (P : zP) : Prop :=
  ((¬ x2 = 0 →
    gw_X12_unit (d + 1) Q 117 [some (.ref 160), none, some (.int x2), some (.int x3), some (.int t0), none] [] I L P
  ) ∧ (x2 = 0 →
    ((x3 = 0 →
      gw_X12_unit (d + 1) Q 135 [some (.ref 160), none, some (.int x2), some (.int x3), some (.int t0), none] [] I L P
    ) ∧ (¬ x3 = 0 →
      vp_in (I 160 30) 3 ∧
      (((I 166 (I 160 30).toNatClampNeg) = (I 160 31) →
        gw_X12_unit (d + 1) Q 135 [some (.ref 160), none, some (.int x2), some (.int x3), some (.int t0), none] [] I L P
      ) ∧ (¬ (I 166 (I 160 30).toNatClampNeg) = (I 160 31) →
        gw_X12_unit (d + 1) Q 117 [some (.ref 160), none, some (.int x2), some (.int x3), some (.int t0), none] [] I L P
      ))
    ))
  ))
set_option maxRecDepth 20000 in
theorem g_X12_unit_91 {d : Nat} {Q : zQt} {x2 : Int32} {x3 : Int32} {t0 : Int32} {I : zI} {L : zL} {P : zP} (hP : zPk P) (hv : v_X12_unit_91 d Q x2 x3 t0 I L P) : gw_X12_unit (d + 1) Q 91 [some (.ref 160), none, some (.int x2), some (.int x3), none, none] [.int t0] I L P := by
  unfold v_X12_unit_91 at hv
  refine z_istore (lv2 := [some (.ref 160), none, some (.int x2), some (.int x3), some (.int t0), none]) dX12_unit_91 (by decide) rfl rfl ?_
  refine z_iload_n dX12_unit_93 rfl ?_
  refine z_if_ne (tgt := 117) dX12_unit_94 (by decide) (fun q109 => ?_) (fun q109 => ?_)
  · have hv := hv.1 q109
    exact hv
  · have hv := hv.2 q109
    refine z_iload_n dX12_unit_97 rfl ?_
    refine z_if_eq (tgt := 135) dX12_unit_98 (by decide) (fun q108 => ?_) (fun q108 => ?_)
    · have hv := hv.1 q108
      exact hv
    · have hv := hv.2 q108
      refine z_aload_n dX12_unit_101 rfl ?_
      refine z_getP dX12_unit_102 zf_X12_30 zn_160 zo_160 (fun _ _ _ _ _ => rfl) (hP 160 14 166 zp_160_14) ?_
      refine z_aload_n dX12_unit_105 rfl ?_
      refine z_getI dX12_unit_106 zf_X12_249 zn_160 zo_160 (fun _ _ _ _ _ => rfl) ?_
      obtain ⟨h106, hv⟩ := hv
      refine z_iaload dX12_unit_109 zn_166 zh_166 h106 ?_
      refine z_aload_n dX12_unit_110 rfl ?_
      refine z_getI dX12_unit_111 zf_X12_252 zn_160 zo_160 (fun _ _ _ _ _ => rfl) ?_
      refine z_icmp_eq (tgt := 135) dX12_unit_114 (by decide) (fun q107 => ?_) (fun q107 => ?_)
      · have hv := hv.1 q107
        exact hv
      · have hv := hv.2 q107
        exact hv
def v_X12_unit (d : Nat) (Q : zQt)  (I : zI) (L : zL) (P : zP) : Prop :=
  vp_in ((I 160 34) - 1) 90 ∧
  (((I 177 ((I 160 34) - 1).toNatClampNeg) ≤ 3 →
    (((1 : Int32) = 0 →
      zMi zm_X12_unitHere d [.ref 160] I L P (fun r6 I2 L3 P4 =>
        ((r6 = 40 →
          gw_X12_unit (d + 1) Q 91 [some (.ref 160), none, some (.int 0), some (.int r6), none, none] [.int 1] I2 L3 P4
        ) ∧ (¬ r6 = 40 →
          ((r6 = 107 →
            gw_X12_unit (d + 1) Q 91 [some (.ref 160), none, some (.int 0), some (.int r6), none, none] [.int 1] I2 L3 P4
          ) ∧ (¬ r6 = 107 →
            ((r6 = 97 →
              gw_X12_unit (d + 1) Q 91 [some (.ref 160), none, some (.int 0), some (.int r6), none, none] [.int 1] I2 L3 P4
            ) ∧ (¬ r6 = 97 →
              ((¬ r6 = 99 →
                gw_X12_unit (d + 1) Q 91 [some (.ref 160), none, some (.int 0), some (.int r6), none, none] [.int 0] I2 L3 P4
              ) ∧ (r6 = 99 →
                gw_X12_unit (d + 1) Q 91 [some (.ref 160), none, some (.int 0), some (.int r6), none, none] [.int 1] I2 L3 P4
              ))
            ))
          ))
        ))
      )
    ) ∧ (¬ (1 : Int32) = 0 →
      zMi zm_X12_isWord d [.ref 160, .long 7237492] I L P (fun r15 I11 L12 P13 =>
        ((r15 = 0 →
          zMi zm_X12_unitHere d [.ref 160] I11 L12 P13 (fun r20 I16 L17 P18 =>
            ((r20 = 40 →
              gw_X12_unit (d + 1) Q 91 [some (.ref 160), none, some (.int 0), some (.int r20), none, none] [.int 1] I16 L17 P18
            ) ∧ (¬ r20 = 40 →
              ((r20 = 107 →
                gw_X12_unit (d + 1) Q 91 [some (.ref 160), none, some (.int 0), some (.int r20), none, none] [.int 1] I16 L17 P18
              ) ∧ (¬ r20 = 107 →
                ((r20 = 97 →
                  gw_X12_unit (d + 1) Q 91 [some (.ref 160), none, some (.int 0), some (.int r20), none, none] [.int 1] I16 L17 P18
                ) ∧ (¬ r20 = 97 →
                  ((¬ r20 = 99 →
                    gw_X12_unit (d + 1) Q 91 [some (.ref 160), none, some (.int 0), some (.int r20), none, none] [.int 0] I16 L17 P18
                  ) ∧ (r20 = 99 →
                    gw_X12_unit (d + 1) Q 91 [some (.ref 160), none, some (.int 0), some (.int r20), none, none] [.int 1] I16 L17 P18
                  ))
                ))
              ))
            ))
          )
        ) ∧ (¬ r15 = 0 →
          zMi zm_X12_unitHere d [.ref 160] I11 L12 P13 (fun r29 I25 L26 P27 =>
            ((r29 = 40 →
              gw_X12_unit (d + 1) Q 91 [some (.ref 160), none, some (.int 1), some (.int r29), none, none] [.int 1] I25 L26 P27
            ) ∧ (¬ r29 = 40 →
              ((r29 = 107 →
                gw_X12_unit (d + 1) Q 91 [some (.ref 160), none, some (.int 1), some (.int r29), none, none] [.int 1] I25 L26 P27
              ) ∧ (¬ r29 = 107 →
                ((r29 = 97 →
                  gw_X12_unit (d + 1) Q 91 [some (.ref 160), none, some (.int 1), some (.int r29), none, none] [.int 1] I25 L26 P27
                ) ∧ (¬ r29 = 97 →
                  ((¬ r29 = 99 →
                    gw_X12_unit (d + 1) Q 91 [some (.ref 160), none, some (.int 1), some (.int r29), none, none] [.int 0] I25 L26 P27
                  ) ∧ (r29 = 99 →
                    gw_X12_unit (d + 1) Q 91 [some (.ref 160), none, some (.int 1), some (.int r29), none, none] [.int 1] I25 L26 P27
                  ))
                ))
              ))
            ))
          )
        ))
      )
    ))
  ) ∧ (¬ (I 177 ((I 160 34) - 1).toNatClampNeg) ≤ 3 →
    (((I 177 ((I 160 34) - 1).toNatClampNeg) < 7 →
      (((0 : Int32) = 0 →
        zMi zm_X12_unitHere d [.ref 160] I L P (fun r40 I36 L37 P38 =>
          ((r40 = 40 →
            gw_X12_unit (d + 1) Q 91 [some (.ref 160), none, some (.int 0), some (.int r40), none, none] [.int 1] I36 L37 P38
          ) ∧ (¬ r40 = 40 →
            ((r40 = 107 →
              gw_X12_unit (d + 1) Q 91 [some (.ref 160), none, some (.int 0), some (.int r40), none, none] [.int 1] I36 L37 P38
            ) ∧ (¬ r40 = 107 →
              ((r40 = 97 →
                gw_X12_unit (d + 1) Q 91 [some (.ref 160), none, some (.int 0), some (.int r40), none, none] [.int 1] I36 L37 P38
              ) ∧ (¬ r40 = 97 →
                ((¬ r40 = 99 →
                  gw_X12_unit (d + 1) Q 91 [some (.ref 160), none, some (.int 0), some (.int r40), none, none] [.int 0] I36 L37 P38
                ) ∧ (r40 = 99 →
                  gw_X12_unit (d + 1) Q 91 [some (.ref 160), none, some (.int 0), some (.int r40), none, none] [.int 1] I36 L37 P38
                ))
              ))
            ))
          ))
        )
      ) ∧ (¬ (0 : Int32) = 0 →
        zMi zm_X12_isWord d [.ref 160, .long 7237492] I L P (fun r49 I45 L46 P47 =>
          ((r49 = 0 →
            zMi zm_X12_unitHere d [.ref 160] I45 L46 P47 (fun r54 I50 L51 P52 =>
              ((r54 = 40 →
                gw_X12_unit (d + 1) Q 91 [some (.ref 160), none, some (.int 0), some (.int r54), none, none] [.int 1] I50 L51 P52
              ) ∧ (¬ r54 = 40 →
                ((r54 = 107 →
                  gw_X12_unit (d + 1) Q 91 [some (.ref 160), none, some (.int 0), some (.int r54), none, none] [.int 1] I50 L51 P52
                ) ∧ (¬ r54 = 107 →
                  ((r54 = 97 →
                    gw_X12_unit (d + 1) Q 91 [some (.ref 160), none, some (.int 0), some (.int r54), none, none] [.int 1] I50 L51 P52
                  ) ∧ (¬ r54 = 97 →
                    ((¬ r54 = 99 →
                      gw_X12_unit (d + 1) Q 91 [some (.ref 160), none, some (.int 0), some (.int r54), none, none] [.int 0] I50 L51 P52
                    ) ∧ (r54 = 99 →
                      gw_X12_unit (d + 1) Q 91 [some (.ref 160), none, some (.int 0), some (.int r54), none, none] [.int 1] I50 L51 P52
                    ))
                  ))
                ))
              ))
            )
          ) ∧ (¬ r49 = 0 →
            zMi zm_X12_unitHere d [.ref 160] I45 L46 P47 (fun r63 I59 L60 P61 =>
              ((r63 = 40 →
                gw_X12_unit (d + 1) Q 91 [some (.ref 160), none, some (.int 1), some (.int r63), none, none] [.int 1] I59 L60 P61
              ) ∧ (¬ r63 = 40 →
                ((r63 = 107 →
                  gw_X12_unit (d + 1) Q 91 [some (.ref 160), none, some (.int 1), some (.int r63), none, none] [.int 1] I59 L60 P61
                ) ∧ (¬ r63 = 107 →
                  ((r63 = 97 →
                    gw_X12_unit (d + 1) Q 91 [some (.ref 160), none, some (.int 1), some (.int r63), none, none] [.int 1] I59 L60 P61
                  ) ∧ (¬ r63 = 97 →
                    ((¬ r63 = 99 →
                      gw_X12_unit (d + 1) Q 91 [some (.ref 160), none, some (.int 1), some (.int r63), none, none] [.int 0] I59 L60 P61
                    ) ∧ (r63 = 99 →
                      gw_X12_unit (d + 1) Q 91 [some (.ref 160), none, some (.int 1), some (.int r63), none, none] [.int 1] I59 L60 P61
                    ))
                  ))
                ))
              ))
            )
          ))
        )
      ))
    ) ∧ (¬ (I 177 ((I 160 34) - 1).toNatClampNeg) < 7 →
      (((1 : Int32) = 0 →
        zMi zm_X12_unitHere d [.ref 160] I L P (fun r74 I70 L71 P72 =>
          ((r74 = 40 →
            gw_X12_unit (d + 1) Q 91 [some (.ref 160), none, some (.int 0), some (.int r74), none, none] [.int 1] I70 L71 P72
          ) ∧ (¬ r74 = 40 →
            ((r74 = 107 →
              gw_X12_unit (d + 1) Q 91 [some (.ref 160), none, some (.int 0), some (.int r74), none, none] [.int 1] I70 L71 P72
            ) ∧ (¬ r74 = 107 →
              ((r74 = 97 →
                gw_X12_unit (d + 1) Q 91 [some (.ref 160), none, some (.int 0), some (.int r74), none, none] [.int 1] I70 L71 P72
              ) ∧ (¬ r74 = 97 →
                ((¬ r74 = 99 →
                  gw_X12_unit (d + 1) Q 91 [some (.ref 160), none, some (.int 0), some (.int r74), none, none] [.int 0] I70 L71 P72
                ) ∧ (r74 = 99 →
                  gw_X12_unit (d + 1) Q 91 [some (.ref 160), none, some (.int 0), some (.int r74), none, none] [.int 1] I70 L71 P72
                ))
              ))
            ))
          ))
        )
      ) ∧ (¬ (1 : Int32) = 0 →
        zMi zm_X12_isWord d [.ref 160, .long 7237492] I L P (fun r83 I79 L80 P81 =>
          ((r83 = 0 →
            zMi zm_X12_unitHere d [.ref 160] I79 L80 P81 (fun r88 I84 L85 P86 =>
              ((r88 = 40 →
                gw_X12_unit (d + 1) Q 91 [some (.ref 160), none, some (.int 0), some (.int r88), none, none] [.int 1] I84 L85 P86
              ) ∧ (¬ r88 = 40 →
                ((r88 = 107 →
                  gw_X12_unit (d + 1) Q 91 [some (.ref 160), none, some (.int 0), some (.int r88), none, none] [.int 1] I84 L85 P86
                ) ∧ (¬ r88 = 107 →
                  ((r88 = 97 →
                    gw_X12_unit (d + 1) Q 91 [some (.ref 160), none, some (.int 0), some (.int r88), none, none] [.int 1] I84 L85 P86
                  ) ∧ (¬ r88 = 97 →
                    ((¬ r88 = 99 →
                      gw_X12_unit (d + 1) Q 91 [some (.ref 160), none, some (.int 0), some (.int r88), none, none] [.int 0] I84 L85 P86
                    ) ∧ (r88 = 99 →
                      gw_X12_unit (d + 1) Q 91 [some (.ref 160), none, some (.int 0), some (.int r88), none, none] [.int 1] I84 L85 P86
                    ))
                  ))
                ))
              ))
            )
          ) ∧ (¬ r83 = 0 →
            zMi zm_X12_unitHere d [.ref 160] I79 L80 P81 (fun r97 I93 L94 P95 =>
              ((r97 = 40 →
                gw_X12_unit (d + 1) Q 91 [some (.ref 160), none, some (.int 1), some (.int r97), none, none] [.int 1] I93 L94 P95
              ) ∧ (¬ r97 = 40 →
                ((r97 = 107 →
                  gw_X12_unit (d + 1) Q 91 [some (.ref 160), none, some (.int 1), some (.int r97), none, none] [.int 1] I93 L94 P95
                ) ∧ (¬ r97 = 107 →
                  ((r97 = 97 →
                    gw_X12_unit (d + 1) Q 91 [some (.ref 160), none, some (.int 1), some (.int r97), none, none] [.int 1] I93 L94 P95
                  ) ∧ (¬ r97 = 97 →
                    ((¬ r97 = 99 →
                      gw_X12_unit (d + 1) Q 91 [some (.ref 160), none, some (.int 1), some (.int r97), none, none] [.int 0] I93 L94 P95
                    ) ∧ (r97 = 99 →
                      gw_X12_unit (d + 1) Q 91 [some (.ref 160), none, some (.int 1), some (.int r97), none, none] [.int 1] I93 L94 P95
                    ))
                  ))
                ))
              ))
            )
          ))
        )
      ))
    ))
  ))
set_option maxRecDepth 20000 in
theorem g_X12_unit {d : Nat} {Q : zQt}  {I : zI} {L : zL} {P : zP} (hP : zPk P) (hv : v_X12_unit d Q  I L P) : zM zm_X12_unit (d + 1) 0 0 [.ref 160] I L P 205 Q := by
  unfold v_X12_unit at hv
  refine zM_of (lv0 := [some (.ref 160), none, none, none, none, none]) (by decide +kernel) (Nat.le_of_ble_eq_true rfl) rfl ?_
  refine z_aload_n dX12_unit_0 rfl ?_
  refine z_getP dX12_unit_1 zf_X12_65 zn_160 zo_160 (fun _ _ _ _ _ => rfl) (hP 160 25 177 zp_160_25) ?_
  refine z_aload_n dX12_unit_4 rfl ?_
  refine z_getI dX12_unit_5 zf_X12_311 zn_160 zo_160 (fun _ _ _ _ _ => rfl) ?_
  refine z_iconst (v := 1) dX12_unit_8 (by decide) ?_
  refine z_isub dX12_unit_9 ?_
  obtain ⟨h1, hv⟩ := hv
  refine z_iaload dX12_unit_10 zn_177 zh_177 h1 ?_
  refine z_iconst (v := 3) dX12_unit_11 (by decide) ?_
  refine z_icmp_le (tgt := 31) dX12_unit_12 (by decide) (fun q105 => ?_) (fun q105 => ?_)
  · have hv := hv.1 q105
    refine z_iconst (v := 1) dX12_unit_31 (by decide) ?_
    refine z_goto (tgt := 36) dX12_unit_32 (by decide) ?_
    refine z_istore_n (lv2 := [some (.ref 160), some (.int 1), none, none, none, none]) dX12_unit_36 (by decide) rfl rfl ?_
    refine z_iload_n dX12_unit_37 rfl ?_
    refine z_if_eq (tgt := 55) dX12_unit_38 (by decide) (fun q35 => ?_) (fun q35 => ?_)
    · have hv := hv.1 q35
      refine z_iconst (v := 0) dX12_unit_55 (by decide) ?_
      refine z_istore_n (lv2 := [some (.ref 160), some (.int 1), some (.int 0), none, none, none]) dX12_unit_56 (by decide) rfl rfl ?_
      refine z_aload_n dX12_unit_57 rfl ?_
      refine z_callV (As := []) (st := []) dX12_unit_58 zl_X12_327 zv_X12_unitHere (by decide) rfl zn_160 zo_160 rfl rfl (Nat.le_of_ble_eq_true rfl) ⟨Nat.le_refl _, Nat.le_refl _⟩ ⟨Nat.le_refl _, Nat.le_refl _⟩ hv (fun v1 I2 L3 P4 nx1 q5 => ?_)
      obtain ⟨rfl, r6, rfl, hv⟩ := q5
      refine z_istore_n (lv2 := [some (.ref 160), some (.int 1), some (.int 0), some (.int r6), none, none]) dX12_unit_61 (by decide) rfl rfl ?_
      refine z_iload_n dX12_unit_62 rfl ?_
      refine z_bipush (v := 40) dX12_unit_63 (by decide) ?_
      refine z_icmp_eq (tgt := 86) dX12_unit_65 (by decide) (fun q10 => ?_) (fun q10 => ?_)
      · have hv := hv.1 q10
        refine z_iconst (v := 1) dX12_unit_86 (by decide) ?_
        refine z_goto (tgt := 91) dX12_unit_87 (by decide) ?_
        exact z_sub (by exact ⟨rfl, ⟨rfl, ⟨rfl, trivial⟩⟩⟩) hv
      · have hv := hv.2 q10
        refine z_iload_n dX12_unit_68 rfl ?_
        refine z_bipush (v := 107) dX12_unit_69 (by decide) ?_
        refine z_icmp_eq (tgt := 86) dX12_unit_71 (by decide) (fun q9 => ?_) (fun q9 => ?_)
        · have hv := hv.1 q9
          refine z_iconst (v := 1) dX12_unit_86 (by decide) ?_
          refine z_goto (tgt := 91) dX12_unit_87 (by decide) ?_
          exact z_sub (by exact ⟨rfl, ⟨rfl, ⟨rfl, trivial⟩⟩⟩) hv
        · have hv := hv.2 q9
          refine z_iload_n dX12_unit_74 rfl ?_
          refine z_bipush (v := 97) dX12_unit_75 (by decide) ?_
          refine z_icmp_eq (tgt := 86) dX12_unit_77 (by decide) (fun q8 => ?_) (fun q8 => ?_)
          · have hv := hv.1 q8
            refine z_iconst (v := 1) dX12_unit_86 (by decide) ?_
            refine z_goto (tgt := 91) dX12_unit_87 (by decide) ?_
            exact z_sub (by exact ⟨rfl, ⟨rfl, ⟨rfl, trivial⟩⟩⟩) hv
          · have hv := hv.2 q8
            refine z_iload_n dX12_unit_80 rfl ?_
            refine z_bipush (v := 99) dX12_unit_81 (by decide) ?_
            refine z_icmp_ne (tgt := 90) dX12_unit_83 (by decide) (fun q7 => ?_) (fun q7 => ?_)
            · have hv := hv.1 q7
              refine z_iconst (v := 0) dX12_unit_90 (by decide) ?_
              exact z_sub (by exact ⟨rfl, ⟨rfl, ⟨rfl, trivial⟩⟩⟩) hv
            · have hv := hv.2 q7
              refine z_iconst (v := 1) dX12_unit_86 (by decide) ?_
              refine z_goto (tgt := 91) dX12_unit_87 (by decide) ?_
              exact z_sub (by exact ⟨rfl, ⟨rfl, ⟨rfl, trivial⟩⟩⟩) hv
    · have hv := hv.2 q35
      refine z_aload_n dX12_unit_41 rfl ?_
      refine z_ldc2 (v := 7237492) dX12_unit_42 zj_X12_193 ?_
      refine z_callV (As := [.long 7237492]) (st := []) dX12_unit_45 zl_X12_270 zv_X12_isWord (by decide) rfl zn_160 zo_160 rfl rfl (Nat.le_of_ble_eq_true rfl) ⟨Nat.le_refl _, Nat.le_refl _⟩ ⟨Nat.le_refl _, Nat.le_refl _⟩ hv (fun v1 I11 L12 P13 nx1 q14 => ?_)
      obtain ⟨rfl, r15, rfl, hv⟩ := q14
      refine z_if_eq (tgt := 55) dX12_unit_48 (by decide) (fun q34 => ?_) (fun q34 => ?_)
      · have hv := hv.1 q34
        refine z_iconst (v := 0) dX12_unit_55 (by decide) ?_
        refine z_istore_n (lv2 := [some (.ref 160), some (.int 1), some (.int 0), none, none, none]) dX12_unit_56 (by decide) rfl rfl ?_
        refine z_aload_n dX12_unit_57 rfl ?_
        refine z_callV (As := []) (st := []) dX12_unit_58 zl_X12_327 zv_X12_unitHere (by decide) rfl zn_160 zo_160 rfl rfl (Nat.le_of_ble_eq_true rfl) ⟨Nat.le_refl _, Nat.le_refl _⟩ ⟨Nat.le_refl _, Nat.le_refl _⟩ hv (fun v1 I16 L17 P18 nx1 q19 => ?_)
        obtain ⟨rfl, r20, rfl, hv⟩ := q19
        refine z_istore_n (lv2 := [some (.ref 160), some (.int 1), some (.int 0), some (.int r20), none, none]) dX12_unit_61 (by decide) rfl rfl ?_
        refine z_iload_n dX12_unit_62 rfl ?_
        refine z_bipush (v := 40) dX12_unit_63 (by decide) ?_
        refine z_icmp_eq (tgt := 86) dX12_unit_65 (by decide) (fun q24 => ?_) (fun q24 => ?_)
        · have hv := hv.1 q24
          refine z_iconst (v := 1) dX12_unit_86 (by decide) ?_
          refine z_goto (tgt := 91) dX12_unit_87 (by decide) ?_
          exact z_sub (by exact ⟨rfl, ⟨rfl, ⟨rfl, trivial⟩⟩⟩) hv
        · have hv := hv.2 q24
          refine z_iload_n dX12_unit_68 rfl ?_
          refine z_bipush (v := 107) dX12_unit_69 (by decide) ?_
          refine z_icmp_eq (tgt := 86) dX12_unit_71 (by decide) (fun q23 => ?_) (fun q23 => ?_)
          · have hv := hv.1 q23
            refine z_iconst (v := 1) dX12_unit_86 (by decide) ?_
            refine z_goto (tgt := 91) dX12_unit_87 (by decide) ?_
            exact z_sub (by exact ⟨rfl, ⟨rfl, ⟨rfl, trivial⟩⟩⟩) hv
          · have hv := hv.2 q23
            refine z_iload_n dX12_unit_74 rfl ?_
            refine z_bipush (v := 97) dX12_unit_75 (by decide) ?_
            refine z_icmp_eq (tgt := 86) dX12_unit_77 (by decide) (fun q22 => ?_) (fun q22 => ?_)
            · have hv := hv.1 q22
              refine z_iconst (v := 1) dX12_unit_86 (by decide) ?_
              refine z_goto (tgt := 91) dX12_unit_87 (by decide) ?_
              exact z_sub (by exact ⟨rfl, ⟨rfl, ⟨rfl, trivial⟩⟩⟩) hv
            · have hv := hv.2 q22
              refine z_iload_n dX12_unit_80 rfl ?_
              refine z_bipush (v := 99) dX12_unit_81 (by decide) ?_
              refine z_icmp_ne (tgt := 90) dX12_unit_83 (by decide) (fun q21 => ?_) (fun q21 => ?_)
              · have hv := hv.1 q21
                refine z_iconst (v := 0) dX12_unit_90 (by decide) ?_
                exact z_sub (by exact ⟨rfl, ⟨rfl, ⟨rfl, trivial⟩⟩⟩) hv
              · have hv := hv.2 q21
                refine z_iconst (v := 1) dX12_unit_86 (by decide) ?_
                refine z_goto (tgt := 91) dX12_unit_87 (by decide) ?_
                exact z_sub (by exact ⟨rfl, ⟨rfl, ⟨rfl, trivial⟩⟩⟩) hv
      · have hv := hv.2 q34
        refine z_iconst (v := 1) dX12_unit_51 (by decide) ?_
        refine z_goto (tgt := 56) dX12_unit_52 (by decide) ?_
        refine z_istore_n (lv2 := [some (.ref 160), some (.int 1), some (.int 1), none, none, none]) dX12_unit_56 (by decide) rfl rfl ?_
        refine z_aload_n dX12_unit_57 rfl ?_
        refine z_callV (As := []) (st := []) dX12_unit_58 zl_X12_327 zv_X12_unitHere (by decide) rfl zn_160 zo_160 rfl rfl (Nat.le_of_ble_eq_true rfl) ⟨Nat.le_refl _, Nat.le_refl _⟩ ⟨Nat.le_refl _, Nat.le_refl _⟩ hv (fun v1 I25 L26 P27 nx1 q28 => ?_)
        obtain ⟨rfl, r29, rfl, hv⟩ := q28
        refine z_istore_n (lv2 := [some (.ref 160), some (.int 1), some (.int 1), some (.int r29), none, none]) dX12_unit_61 (by decide) rfl rfl ?_
        refine z_iload_n dX12_unit_62 rfl ?_
        refine z_bipush (v := 40) dX12_unit_63 (by decide) ?_
        refine z_icmp_eq (tgt := 86) dX12_unit_65 (by decide) (fun q33 => ?_) (fun q33 => ?_)
        · have hv := hv.1 q33
          refine z_iconst (v := 1) dX12_unit_86 (by decide) ?_
          refine z_goto (tgt := 91) dX12_unit_87 (by decide) ?_
          exact z_sub (by exact ⟨rfl, ⟨rfl, ⟨rfl, trivial⟩⟩⟩) hv
        · have hv := hv.2 q33
          refine z_iload_n dX12_unit_68 rfl ?_
          refine z_bipush (v := 107) dX12_unit_69 (by decide) ?_
          refine z_icmp_eq (tgt := 86) dX12_unit_71 (by decide) (fun q32 => ?_) (fun q32 => ?_)
          · have hv := hv.1 q32
            refine z_iconst (v := 1) dX12_unit_86 (by decide) ?_
            refine z_goto (tgt := 91) dX12_unit_87 (by decide) ?_
            exact z_sub (by exact ⟨rfl, ⟨rfl, ⟨rfl, trivial⟩⟩⟩) hv
          · have hv := hv.2 q32
            refine z_iload_n dX12_unit_74 rfl ?_
            refine z_bipush (v := 97) dX12_unit_75 (by decide) ?_
            refine z_icmp_eq (tgt := 86) dX12_unit_77 (by decide) (fun q31 => ?_) (fun q31 => ?_)
            · have hv := hv.1 q31
              refine z_iconst (v := 1) dX12_unit_86 (by decide) ?_
              refine z_goto (tgt := 91) dX12_unit_87 (by decide) ?_
              exact z_sub (by exact ⟨rfl, ⟨rfl, ⟨rfl, trivial⟩⟩⟩) hv
            · have hv := hv.2 q31
              refine z_iload_n dX12_unit_80 rfl ?_
              refine z_bipush (v := 99) dX12_unit_81 (by decide) ?_
              refine z_icmp_ne (tgt := 90) dX12_unit_83 (by decide) (fun q30 => ?_) (fun q30 => ?_)
              · have hv := hv.1 q30
                refine z_iconst (v := 0) dX12_unit_90 (by decide) ?_
                exact z_sub (by exact ⟨rfl, ⟨rfl, ⟨rfl, trivial⟩⟩⟩) hv
              · have hv := hv.2 q30
                refine z_iconst (v := 1) dX12_unit_86 (by decide) ?_
                refine z_goto (tgt := 91) dX12_unit_87 (by decide) ?_
                exact z_sub (by exact ⟨rfl, ⟨rfl, ⟨rfl, trivial⟩⟩⟩) hv
  · have hv := hv.2 q105
    refine z_aload_n dX12_unit_15 rfl ?_
    refine z_getP dX12_unit_16 zf_X12_65 zn_160 zo_160 (fun _ _ _ _ _ => rfl) (hP 160 25 177 zp_160_25) ?_
    refine z_aload_n dX12_unit_19 rfl ?_
    refine z_getI dX12_unit_20 zf_X12_311 zn_160 zo_160 (fun _ _ _ _ _ => rfl) ?_
    refine z_iconst (v := 1) dX12_unit_23 (by decide) ?_
    refine z_isub dX12_unit_24 ?_
    refine z_iaload dX12_unit_25 zn_177 zh_177 h1 ?_
    refine z_bipush (v := 7) dX12_unit_26 (by decide) ?_
    refine z_icmp_lt (tgt := 35) dX12_unit_28 (by decide) (fun q104 => ?_) (fun q104 => ?_)
    · have hv := hv.1 q104
      refine z_iconst (v := 0) dX12_unit_35 (by decide) ?_
      refine z_istore_n (lv2 := [some (.ref 160), some (.int 0), none, none, none, none]) dX12_unit_36 (by decide) rfl rfl ?_
      refine z_iload_n dX12_unit_37 rfl ?_
      refine z_if_eq (tgt := 55) dX12_unit_38 (by decide) (fun q69 => ?_) (fun q69 => ?_)
      · have hv := hv.1 q69
        refine z_iconst (v := 0) dX12_unit_55 (by decide) ?_
        refine z_istore_n (lv2 := [some (.ref 160), some (.int 0), some (.int 0), none, none, none]) dX12_unit_56 (by decide) rfl rfl ?_
        refine z_aload_n dX12_unit_57 rfl ?_
        refine z_callV (As := []) (st := []) dX12_unit_58 zl_X12_327 zv_X12_unitHere (by decide) rfl zn_160 zo_160 rfl rfl (Nat.le_of_ble_eq_true rfl) ⟨Nat.le_refl _, Nat.le_refl _⟩ ⟨Nat.le_refl _, Nat.le_refl _⟩ hv (fun v1 I36 L37 P38 nx1 q39 => ?_)
        obtain ⟨rfl, r40, rfl, hv⟩ := q39
        refine z_istore_n (lv2 := [some (.ref 160), some (.int 0), some (.int 0), some (.int r40), none, none]) dX12_unit_61 (by decide) rfl rfl ?_
        refine z_iload_n dX12_unit_62 rfl ?_
        refine z_bipush (v := 40) dX12_unit_63 (by decide) ?_
        refine z_icmp_eq (tgt := 86) dX12_unit_65 (by decide) (fun q44 => ?_) (fun q44 => ?_)
        · have hv := hv.1 q44
          refine z_iconst (v := 1) dX12_unit_86 (by decide) ?_
          refine z_goto (tgt := 91) dX12_unit_87 (by decide) ?_
          exact z_sub (by exact ⟨rfl, ⟨rfl, ⟨rfl, trivial⟩⟩⟩) hv
        · have hv := hv.2 q44
          refine z_iload_n dX12_unit_68 rfl ?_
          refine z_bipush (v := 107) dX12_unit_69 (by decide) ?_
          refine z_icmp_eq (tgt := 86) dX12_unit_71 (by decide) (fun q43 => ?_) (fun q43 => ?_)
          · have hv := hv.1 q43
            refine z_iconst (v := 1) dX12_unit_86 (by decide) ?_
            refine z_goto (tgt := 91) dX12_unit_87 (by decide) ?_
            exact z_sub (by exact ⟨rfl, ⟨rfl, ⟨rfl, trivial⟩⟩⟩) hv
          · have hv := hv.2 q43
            refine z_iload_n dX12_unit_74 rfl ?_
            refine z_bipush (v := 97) dX12_unit_75 (by decide) ?_
            refine z_icmp_eq (tgt := 86) dX12_unit_77 (by decide) (fun q42 => ?_) (fun q42 => ?_)
            · have hv := hv.1 q42
              refine z_iconst (v := 1) dX12_unit_86 (by decide) ?_
              refine z_goto (tgt := 91) dX12_unit_87 (by decide) ?_
              exact z_sub (by exact ⟨rfl, ⟨rfl, ⟨rfl, trivial⟩⟩⟩) hv
            · have hv := hv.2 q42
              refine z_iload_n dX12_unit_80 rfl ?_
              refine z_bipush (v := 99) dX12_unit_81 (by decide) ?_
              refine z_icmp_ne (tgt := 90) dX12_unit_83 (by decide) (fun q41 => ?_) (fun q41 => ?_)
              · have hv := hv.1 q41
                refine z_iconst (v := 0) dX12_unit_90 (by decide) ?_
                exact z_sub (by exact ⟨rfl, ⟨rfl, ⟨rfl, trivial⟩⟩⟩) hv
              · have hv := hv.2 q41
                refine z_iconst (v := 1) dX12_unit_86 (by decide) ?_
                refine z_goto (tgt := 91) dX12_unit_87 (by decide) ?_
                exact z_sub (by exact ⟨rfl, ⟨rfl, ⟨rfl, trivial⟩⟩⟩) hv
      · have hv := hv.2 q69
        refine z_aload_n dX12_unit_41 rfl ?_
        refine z_ldc2 (v := 7237492) dX12_unit_42 zj_X12_193 ?_
        refine z_callV (As := [.long 7237492]) (st := []) dX12_unit_45 zl_X12_270 zv_X12_isWord (by decide) rfl zn_160 zo_160 rfl rfl (Nat.le_of_ble_eq_true rfl) ⟨Nat.le_refl _, Nat.le_refl _⟩ ⟨Nat.le_refl _, Nat.le_refl _⟩ hv (fun v1 I45 L46 P47 nx1 q48 => ?_)
        obtain ⟨rfl, r49, rfl, hv⟩ := q48
        refine z_if_eq (tgt := 55) dX12_unit_48 (by decide) (fun q68 => ?_) (fun q68 => ?_)
        · have hv := hv.1 q68
          refine z_iconst (v := 0) dX12_unit_55 (by decide) ?_
          refine z_istore_n (lv2 := [some (.ref 160), some (.int 0), some (.int 0), none, none, none]) dX12_unit_56 (by decide) rfl rfl ?_
          refine z_aload_n dX12_unit_57 rfl ?_
          refine z_callV (As := []) (st := []) dX12_unit_58 zl_X12_327 zv_X12_unitHere (by decide) rfl zn_160 zo_160 rfl rfl (Nat.le_of_ble_eq_true rfl) ⟨Nat.le_refl _, Nat.le_refl _⟩ ⟨Nat.le_refl _, Nat.le_refl _⟩ hv (fun v1 I50 L51 P52 nx1 q53 => ?_)
          obtain ⟨rfl, r54, rfl, hv⟩ := q53
          refine z_istore_n (lv2 := [some (.ref 160), some (.int 0), some (.int 0), some (.int r54), none, none]) dX12_unit_61 (by decide) rfl rfl ?_
          refine z_iload_n dX12_unit_62 rfl ?_
          refine z_bipush (v := 40) dX12_unit_63 (by decide) ?_
          refine z_icmp_eq (tgt := 86) dX12_unit_65 (by decide) (fun q58 => ?_) (fun q58 => ?_)
          · have hv := hv.1 q58
            refine z_iconst (v := 1) dX12_unit_86 (by decide) ?_
            refine z_goto (tgt := 91) dX12_unit_87 (by decide) ?_
            exact z_sub (by exact ⟨rfl, ⟨rfl, ⟨rfl, trivial⟩⟩⟩) hv
          · have hv := hv.2 q58
            refine z_iload_n dX12_unit_68 rfl ?_
            refine z_bipush (v := 107) dX12_unit_69 (by decide) ?_
            refine z_icmp_eq (tgt := 86) dX12_unit_71 (by decide) (fun q57 => ?_) (fun q57 => ?_)
            · have hv := hv.1 q57
              refine z_iconst (v := 1) dX12_unit_86 (by decide) ?_
              refine z_goto (tgt := 91) dX12_unit_87 (by decide) ?_
              exact z_sub (by exact ⟨rfl, ⟨rfl, ⟨rfl, trivial⟩⟩⟩) hv
            · have hv := hv.2 q57
              refine z_iload_n dX12_unit_74 rfl ?_
              refine z_bipush (v := 97) dX12_unit_75 (by decide) ?_
              refine z_icmp_eq (tgt := 86) dX12_unit_77 (by decide) (fun q56 => ?_) (fun q56 => ?_)
              · have hv := hv.1 q56
                refine z_iconst (v := 1) dX12_unit_86 (by decide) ?_
                refine z_goto (tgt := 91) dX12_unit_87 (by decide) ?_
                exact z_sub (by exact ⟨rfl, ⟨rfl, ⟨rfl, trivial⟩⟩⟩) hv
              · have hv := hv.2 q56
                refine z_iload_n dX12_unit_80 rfl ?_
                refine z_bipush (v := 99) dX12_unit_81 (by decide) ?_
                refine z_icmp_ne (tgt := 90) dX12_unit_83 (by decide) (fun q55 => ?_) (fun q55 => ?_)
                · have hv := hv.1 q55
                  refine z_iconst (v := 0) dX12_unit_90 (by decide) ?_
                  exact z_sub (by exact ⟨rfl, ⟨rfl, ⟨rfl, trivial⟩⟩⟩) hv
                · have hv := hv.2 q55
                  refine z_iconst (v := 1) dX12_unit_86 (by decide) ?_
                  refine z_goto (tgt := 91) dX12_unit_87 (by decide) ?_
                  exact z_sub (by exact ⟨rfl, ⟨rfl, ⟨rfl, trivial⟩⟩⟩) hv
        · have hv := hv.2 q68
          refine z_iconst (v := 1) dX12_unit_51 (by decide) ?_
          refine z_goto (tgt := 56) dX12_unit_52 (by decide) ?_
          refine z_istore_n (lv2 := [some (.ref 160), some (.int 0), some (.int 1), none, none, none]) dX12_unit_56 (by decide) rfl rfl ?_
          refine z_aload_n dX12_unit_57 rfl ?_
          refine z_callV (As := []) (st := []) dX12_unit_58 zl_X12_327 zv_X12_unitHere (by decide) rfl zn_160 zo_160 rfl rfl (Nat.le_of_ble_eq_true rfl) ⟨Nat.le_refl _, Nat.le_refl _⟩ ⟨Nat.le_refl _, Nat.le_refl _⟩ hv (fun v1 I59 L60 P61 nx1 q62 => ?_)
          obtain ⟨rfl, r63, rfl, hv⟩ := q62
          refine z_istore_n (lv2 := [some (.ref 160), some (.int 0), some (.int 1), some (.int r63), none, none]) dX12_unit_61 (by decide) rfl rfl ?_
          refine z_iload_n dX12_unit_62 rfl ?_
          refine z_bipush (v := 40) dX12_unit_63 (by decide) ?_
          refine z_icmp_eq (tgt := 86) dX12_unit_65 (by decide) (fun q67 => ?_) (fun q67 => ?_)
          · have hv := hv.1 q67
            refine z_iconst (v := 1) dX12_unit_86 (by decide) ?_
            refine z_goto (tgt := 91) dX12_unit_87 (by decide) ?_
            exact z_sub (by exact ⟨rfl, ⟨rfl, ⟨rfl, trivial⟩⟩⟩) hv
          · have hv := hv.2 q67
            refine z_iload_n dX12_unit_68 rfl ?_
            refine z_bipush (v := 107) dX12_unit_69 (by decide) ?_
            refine z_icmp_eq (tgt := 86) dX12_unit_71 (by decide) (fun q66 => ?_) (fun q66 => ?_)
            · have hv := hv.1 q66
              refine z_iconst (v := 1) dX12_unit_86 (by decide) ?_
              refine z_goto (tgt := 91) dX12_unit_87 (by decide) ?_
              exact z_sub (by exact ⟨rfl, ⟨rfl, ⟨rfl, trivial⟩⟩⟩) hv
            · have hv := hv.2 q66
              refine z_iload_n dX12_unit_74 rfl ?_
              refine z_bipush (v := 97) dX12_unit_75 (by decide) ?_
              refine z_icmp_eq (tgt := 86) dX12_unit_77 (by decide) (fun q65 => ?_) (fun q65 => ?_)
              · have hv := hv.1 q65
                refine z_iconst (v := 1) dX12_unit_86 (by decide) ?_
                refine z_goto (tgt := 91) dX12_unit_87 (by decide) ?_
                exact z_sub (by exact ⟨rfl, ⟨rfl, ⟨rfl, trivial⟩⟩⟩) hv
              · have hv := hv.2 q65
                refine z_iload_n dX12_unit_80 rfl ?_
                refine z_bipush (v := 99) dX12_unit_81 (by decide) ?_
                refine z_icmp_ne (tgt := 90) dX12_unit_83 (by decide) (fun q64 => ?_) (fun q64 => ?_)
                · have hv := hv.1 q64
                  refine z_iconst (v := 0) dX12_unit_90 (by decide) ?_
                  exact z_sub (by exact ⟨rfl, ⟨rfl, ⟨rfl, trivial⟩⟩⟩) hv
                · have hv := hv.2 q64
                  refine z_iconst (v := 1) dX12_unit_86 (by decide) ?_
                  refine z_goto (tgt := 91) dX12_unit_87 (by decide) ?_
                  exact z_sub (by exact ⟨rfl, ⟨rfl, ⟨rfl, trivial⟩⟩⟩) hv
    · have hv := hv.2 q104
      refine z_iconst (v := 1) dX12_unit_31 (by decide) ?_
      refine z_goto (tgt := 36) dX12_unit_32 (by decide) ?_
      refine z_istore_n (lv2 := [some (.ref 160), some (.int 1), none, none, none, none]) dX12_unit_36 (by decide) rfl rfl ?_
      refine z_iload_n dX12_unit_37 rfl ?_
      refine z_if_eq (tgt := 55) dX12_unit_38 (by decide) (fun q103 => ?_) (fun q103 => ?_)
      · have hv := hv.1 q103
        refine z_iconst (v := 0) dX12_unit_55 (by decide) ?_
        refine z_istore_n (lv2 := [some (.ref 160), some (.int 1), some (.int 0), none, none, none]) dX12_unit_56 (by decide) rfl rfl ?_
        refine z_aload_n dX12_unit_57 rfl ?_
        refine z_callV (As := []) (st := []) dX12_unit_58 zl_X12_327 zv_X12_unitHere (by decide) rfl zn_160 zo_160 rfl rfl (Nat.le_of_ble_eq_true rfl) ⟨Nat.le_refl _, Nat.le_refl _⟩ ⟨Nat.le_refl _, Nat.le_refl _⟩ hv (fun v1 I70 L71 P72 nx1 q73 => ?_)
        obtain ⟨rfl, r74, rfl, hv⟩ := q73
        refine z_istore_n (lv2 := [some (.ref 160), some (.int 1), some (.int 0), some (.int r74), none, none]) dX12_unit_61 (by decide) rfl rfl ?_
        refine z_iload_n dX12_unit_62 rfl ?_
        refine z_bipush (v := 40) dX12_unit_63 (by decide) ?_
        refine z_icmp_eq (tgt := 86) dX12_unit_65 (by decide) (fun q78 => ?_) (fun q78 => ?_)
        · have hv := hv.1 q78
          refine z_iconst (v := 1) dX12_unit_86 (by decide) ?_
          refine z_goto (tgt := 91) dX12_unit_87 (by decide) ?_
          exact z_sub (by exact ⟨rfl, ⟨rfl, ⟨rfl, trivial⟩⟩⟩) hv
        · have hv := hv.2 q78
          refine z_iload_n dX12_unit_68 rfl ?_
          refine z_bipush (v := 107) dX12_unit_69 (by decide) ?_
          refine z_icmp_eq (tgt := 86) dX12_unit_71 (by decide) (fun q77 => ?_) (fun q77 => ?_)
          · have hv := hv.1 q77
            refine z_iconst (v := 1) dX12_unit_86 (by decide) ?_
            refine z_goto (tgt := 91) dX12_unit_87 (by decide) ?_
            exact z_sub (by exact ⟨rfl, ⟨rfl, ⟨rfl, trivial⟩⟩⟩) hv
          · have hv := hv.2 q77
            refine z_iload_n dX12_unit_74 rfl ?_
            refine z_bipush (v := 97) dX12_unit_75 (by decide) ?_
            refine z_icmp_eq (tgt := 86) dX12_unit_77 (by decide) (fun q76 => ?_) (fun q76 => ?_)
            · have hv := hv.1 q76
              refine z_iconst (v := 1) dX12_unit_86 (by decide) ?_
              refine z_goto (tgt := 91) dX12_unit_87 (by decide) ?_
              exact z_sub (by exact ⟨rfl, ⟨rfl, ⟨rfl, trivial⟩⟩⟩) hv
            · have hv := hv.2 q76
              refine z_iload_n dX12_unit_80 rfl ?_
              refine z_bipush (v := 99) dX12_unit_81 (by decide) ?_
              refine z_icmp_ne (tgt := 90) dX12_unit_83 (by decide) (fun q75 => ?_) (fun q75 => ?_)
              · have hv := hv.1 q75
                refine z_iconst (v := 0) dX12_unit_90 (by decide) ?_
                exact z_sub (by exact ⟨rfl, ⟨rfl, ⟨rfl, trivial⟩⟩⟩) hv
              · have hv := hv.2 q75
                refine z_iconst (v := 1) dX12_unit_86 (by decide) ?_
                refine z_goto (tgt := 91) dX12_unit_87 (by decide) ?_
                exact z_sub (by exact ⟨rfl, ⟨rfl, ⟨rfl, trivial⟩⟩⟩) hv
      · have hv := hv.2 q103
        refine z_aload_n dX12_unit_41 rfl ?_
        refine z_ldc2 (v := 7237492) dX12_unit_42 zj_X12_193 ?_
        refine z_callV (As := [.long 7237492]) (st := []) dX12_unit_45 zl_X12_270 zv_X12_isWord (by decide) rfl zn_160 zo_160 rfl rfl (Nat.le_of_ble_eq_true rfl) ⟨Nat.le_refl _, Nat.le_refl _⟩ ⟨Nat.le_refl _, Nat.le_refl _⟩ hv (fun v1 I79 L80 P81 nx1 q82 => ?_)
        obtain ⟨rfl, r83, rfl, hv⟩ := q82
        refine z_if_eq (tgt := 55) dX12_unit_48 (by decide) (fun q102 => ?_) (fun q102 => ?_)
        · have hv := hv.1 q102
          refine z_iconst (v := 0) dX12_unit_55 (by decide) ?_
          refine z_istore_n (lv2 := [some (.ref 160), some (.int 1), some (.int 0), none, none, none]) dX12_unit_56 (by decide) rfl rfl ?_
          refine z_aload_n dX12_unit_57 rfl ?_
          refine z_callV (As := []) (st := []) dX12_unit_58 zl_X12_327 zv_X12_unitHere (by decide) rfl zn_160 zo_160 rfl rfl (Nat.le_of_ble_eq_true rfl) ⟨Nat.le_refl _, Nat.le_refl _⟩ ⟨Nat.le_refl _, Nat.le_refl _⟩ hv (fun v1 I84 L85 P86 nx1 q87 => ?_)
          obtain ⟨rfl, r88, rfl, hv⟩ := q87
          refine z_istore_n (lv2 := [some (.ref 160), some (.int 1), some (.int 0), some (.int r88), none, none]) dX12_unit_61 (by decide) rfl rfl ?_
          refine z_iload_n dX12_unit_62 rfl ?_
          refine z_bipush (v := 40) dX12_unit_63 (by decide) ?_
          refine z_icmp_eq (tgt := 86) dX12_unit_65 (by decide) (fun q92 => ?_) (fun q92 => ?_)
          · have hv := hv.1 q92
            refine z_iconst (v := 1) dX12_unit_86 (by decide) ?_
            refine z_goto (tgt := 91) dX12_unit_87 (by decide) ?_
            exact z_sub (by exact ⟨rfl, ⟨rfl, ⟨rfl, trivial⟩⟩⟩) hv
          · have hv := hv.2 q92
            refine z_iload_n dX12_unit_68 rfl ?_
            refine z_bipush (v := 107) dX12_unit_69 (by decide) ?_
            refine z_icmp_eq (tgt := 86) dX12_unit_71 (by decide) (fun q91 => ?_) (fun q91 => ?_)
            · have hv := hv.1 q91
              refine z_iconst (v := 1) dX12_unit_86 (by decide) ?_
              refine z_goto (tgt := 91) dX12_unit_87 (by decide) ?_
              exact z_sub (by exact ⟨rfl, ⟨rfl, ⟨rfl, trivial⟩⟩⟩) hv
            · have hv := hv.2 q91
              refine z_iload_n dX12_unit_74 rfl ?_
              refine z_bipush (v := 97) dX12_unit_75 (by decide) ?_
              refine z_icmp_eq (tgt := 86) dX12_unit_77 (by decide) (fun q90 => ?_) (fun q90 => ?_)
              · have hv := hv.1 q90
                refine z_iconst (v := 1) dX12_unit_86 (by decide) ?_
                refine z_goto (tgt := 91) dX12_unit_87 (by decide) ?_
                exact z_sub (by exact ⟨rfl, ⟨rfl, ⟨rfl, trivial⟩⟩⟩) hv
              · have hv := hv.2 q90
                refine z_iload_n dX12_unit_80 rfl ?_
                refine z_bipush (v := 99) dX12_unit_81 (by decide) ?_
                refine z_icmp_ne (tgt := 90) dX12_unit_83 (by decide) (fun q89 => ?_) (fun q89 => ?_)
                · have hv := hv.1 q89
                  refine z_iconst (v := 0) dX12_unit_90 (by decide) ?_
                  exact z_sub (by exact ⟨rfl, ⟨rfl, ⟨rfl, trivial⟩⟩⟩) hv
                · have hv := hv.2 q89
                  refine z_iconst (v := 1) dX12_unit_86 (by decide) ?_
                  refine z_goto (tgt := 91) dX12_unit_87 (by decide) ?_
                  exact z_sub (by exact ⟨rfl, ⟨rfl, ⟨rfl, trivial⟩⟩⟩) hv
        · have hv := hv.2 q102
          refine z_iconst (v := 1) dX12_unit_51 (by decide) ?_
          refine z_goto (tgt := 56) dX12_unit_52 (by decide) ?_
          refine z_istore_n (lv2 := [some (.ref 160), some (.int 1), some (.int 1), none, none, none]) dX12_unit_56 (by decide) rfl rfl ?_
          refine z_aload_n dX12_unit_57 rfl ?_
          refine z_callV (As := []) (st := []) dX12_unit_58 zl_X12_327 zv_X12_unitHere (by decide) rfl zn_160 zo_160 rfl rfl (Nat.le_of_ble_eq_true rfl) ⟨Nat.le_refl _, Nat.le_refl _⟩ ⟨Nat.le_refl _, Nat.le_refl _⟩ hv (fun v1 I93 L94 P95 nx1 q96 => ?_)
          obtain ⟨rfl, r97, rfl, hv⟩ := q96
          refine z_istore_n (lv2 := [some (.ref 160), some (.int 1), some (.int 1), some (.int r97), none, none]) dX12_unit_61 (by decide) rfl rfl ?_
          refine z_iload_n dX12_unit_62 rfl ?_
          refine z_bipush (v := 40) dX12_unit_63 (by decide) ?_
          refine z_icmp_eq (tgt := 86) dX12_unit_65 (by decide) (fun q101 => ?_) (fun q101 => ?_)
          · have hv := hv.1 q101
            refine z_iconst (v := 1) dX12_unit_86 (by decide) ?_
            refine z_goto (tgt := 91) dX12_unit_87 (by decide) ?_
            exact z_sub (by exact ⟨rfl, ⟨rfl, ⟨rfl, trivial⟩⟩⟩) hv
          · have hv := hv.2 q101
            refine z_iload_n dX12_unit_68 rfl ?_
            refine z_bipush (v := 107) dX12_unit_69 (by decide) ?_
            refine z_icmp_eq (tgt := 86) dX12_unit_71 (by decide) (fun q100 => ?_) (fun q100 => ?_)
            · have hv := hv.1 q100
              refine z_iconst (v := 1) dX12_unit_86 (by decide) ?_
              refine z_goto (tgt := 91) dX12_unit_87 (by decide) ?_
              exact z_sub (by exact ⟨rfl, ⟨rfl, ⟨rfl, trivial⟩⟩⟩) hv
            · have hv := hv.2 q100
              refine z_iload_n dX12_unit_74 rfl ?_
              refine z_bipush (v := 97) dX12_unit_75 (by decide) ?_
              refine z_icmp_eq (tgt := 86) dX12_unit_77 (by decide) (fun q99 => ?_) (fun q99 => ?_)
              · have hv := hv.1 q99
                refine z_iconst (v := 1) dX12_unit_86 (by decide) ?_
                refine z_goto (tgt := 91) dX12_unit_87 (by decide) ?_
                exact z_sub (by exact ⟨rfl, ⟨rfl, ⟨rfl, trivial⟩⟩⟩) hv
              · have hv := hv.2 q99
                refine z_iload_n dX12_unit_80 rfl ?_
                refine z_bipush (v := 99) dX12_unit_81 (by decide) ?_
                refine z_icmp_ne (tgt := 90) dX12_unit_83 (by decide) (fun q98 => ?_) (fun q98 => ?_)
                · have hv := hv.1 q98
                  refine z_iconst (v := 0) dX12_unit_90 (by decide) ?_
                  exact z_sub (by exact ⟨rfl, ⟨rfl, ⟨rfl, trivial⟩⟩⟩) hv
                · have hv := hv.2 q98
                  refine z_iconst (v := 1) dX12_unit_86 (by decide) ?_
                  refine z_goto (tgt := 91) dX12_unit_87 (by decide) ?_
                  exact z_sub (by exact ⟨rfl, ⟨rfl, ⟨rfl, trivial⟩⟩⟩) hv
abbrev gw_X12_rankHere (d : Nat) (Q : zQt) (pc : Nat) (lv : zV) (st : List Value) (I : zI) (L : zL) (P : zP) : Prop := zW zm_X12_rankHere (zRm d 0 0) 0 0 Q pc lv st I L P 205 0 0
def v_X12_rankHere (d : Nat) (Q : zQt)  (I : zI) (L : zL) (P : zP) : Prop :=
  zMi zm_X12_isWord d [.ref 160, .long 6385252] I L P (fun r5 I1 L2 P3 =>
    ((r5 = 0 →
      zMi zm_X12_isWord d [.ref 160, .long 28530] I1 L2 P3 (fun r10 I6 L7 P8 =>
        ((r10 = 0 →
          zMi zm_X12_stands d [.ref 160, .int 60] I6 L7 P8 (fun r15 I11 L12 P13 =>
            ((¬ r15 = 0 →
              Q (some (.int 4)) I11 L12 P13 205
            ) ∧ (r15 = 0 →
              zMi zm_X12_stands d [.ref 160, .int 62] I11 L12 P13 (fun r20 I16 L17 P18 =>
                ((¬ r20 = 0 →
                  Q (some (.int 4)) I16 L17 P18 205
                ) ∧ (r20 = 0 →
                  zMi zm_X12_stands d [.ref 160, .int 61] I16 L17 P18 (fun r25 I21 L22 P23 =>
                    ((r25 = 0 →
                      zMi zm_X12_stands d [.ref 160, .int 43] I21 L22 P23 (fun r30 I26 L27 P28 =>
                        ((¬ r30 = 0 →
                          Q (some (.int 5)) I26 L27 P28 205
                        ) ∧ (r30 = 0 →
                          zMi zm_X12_stands d [.ref 160, .int 45] I26 L27 P28 (fun r35 I31 L32 P33 =>
                            ((r35 = 0 →
                              zMi zm_X12_stands d [.ref 160, .int 42] I31 L32 P33 (fun r40 I36 L37 P38 =>
                                ((¬ r40 = 0 →
                                  Q (some (.int 6)) I36 L37 P38 205
                                ) ∧ (r40 = 0 →
                                  zMi zm_X12_stands d [.ref 160, .int 47] I36 L37 P38 (fun r45 I41 L42 P43 =>
                                    ((r45 = 0 →
                                      Q (some (.int 0)) I41 L42 P43 205
                                    ) ∧ (¬ r45 = 0 →
                                      Q (some (.int 6)) I41 L42 P43 205
                                    ))
                                  )
                                ))
                              )
                            ) ∧ (¬ r35 = 0 →
                              Q (some (.int 5)) I31 L32 P33 205
                            ))
                          )
                        ))
                      )
                    ) ∧ (¬ r25 = 0 →
                      Q (some (.int 4)) I21 L22 P23 205
                    ))
                  )
                ))
              )
            ))
          )
        ) ∧ (¬ r10 = 0 →
          Q (some (.int 1)) I6 L7 P8 205
        ))
      )
    ) ∧ (¬ r5 = 0 →
      Q (some (.int 2)) I1 L2 P3 205
    ))
  )
set_option maxRecDepth 20000 in
theorem g_X12_rankHere {d : Nat} {Q : zQt}  {I : zI} {L : zL} {P : zP} (hP : zPk P) (hv : v_X12_rankHere d Q  I L P) : zM zm_X12_rankHere (d + 1) 0 0 [.ref 160] I L P 205 Q := by
  unfold v_X12_rankHere at hv
  refine zM_of (lv0 := [some (.ref 160)]) (by decide +kernel) (Nat.le_of_ble_eq_true rfl) rfl ?_
  refine z_aload_n dX12_rankHere_0 rfl ?_
  refine z_ldc2 (v := 6385252) dX12_rankHere_1 zj_X12_189 ?_
  refine z_callV (As := [.long 6385252]) (st := []) dX12_rankHere_4 zl_X12_270 zv_X12_isWord (by decide) rfl zn_160 zo_160 rfl rfl (Nat.le_of_ble_eq_true rfl) ⟨Nat.le_refl _, Nat.le_refl _⟩ ⟨Nat.le_refl _, Nat.le_refl _⟩ hv (fun v1 I1 L2 P3 nx1 q4 => ?_)
  obtain ⟨rfl, r5, rfl, hv⟩ := q4
  refine z_if_eq (tgt := 12) dX12_rankHere_7 (by decide) (fun q54 => ?_) (fun q54 => ?_)
  · have hv := hv.1 q54
    refine z_aload_n dX12_rankHere_12 rfl ?_
    refine z_ldc2 (v := 28530) dX12_rankHere_13 zj_X12_191 ?_
    refine z_callV (As := [.long 28530]) (st := []) dX12_rankHere_16 zl_X12_270 zv_X12_isWord (by decide) rfl zn_160 zo_160 rfl rfl (Nat.le_of_ble_eq_true rfl) ⟨Nat.le_refl _, Nat.le_refl _⟩ ⟨Nat.le_refl _, Nat.le_refl _⟩ hv (fun v1 I6 L7 P8 nx1 q9 => ?_)
    obtain ⟨rfl, r10, rfl, hv⟩ := q9
    refine z_if_eq (tgt := 24) dX12_rankHere_19 (by decide) (fun q53 => ?_) (fun q53 => ?_)
    · have hv := hv.1 q53
      refine z_aload_n dX12_rankHere_24 rfl ?_
      refine z_bipush (v := 60) dX12_rankHere_25 (by decide) ?_
      refine z_callV (As := [.int 60]) (st := []) dX12_rankHere_27 zl_X12_291 zv_X12_stands (by decide) rfl zn_160 zo_160 rfl rfl (Nat.le_of_ble_eq_true rfl) ⟨Nat.le_refl _, Nat.le_refl _⟩ ⟨Nat.le_refl _, Nat.le_refl _⟩ hv (fun v1 I11 L12 P13 nx1 q14 => ?_)
      obtain ⟨rfl, r15, rfl, hv⟩ := q14
      refine z_if_ne (tgt := 51) dX12_rankHere_30 (by decide) (fun q52 => ?_) (fun q52 => ?_)
      · have hv := hv.1 q52
        refine z_iconst (v := 4) dX12_rankHere_51 (by decide) ?_
        exact z_ireturn dX12_rankHere_52 rfl rfl (Nat.le_refl _) (Nat.le_refl _) hv
      · have hv := hv.2 q52
        refine z_aload_n dX12_rankHere_33 rfl ?_
        refine z_bipush (v := 62) dX12_rankHere_34 (by decide) ?_
        refine z_callV (As := [.int 62]) (st := []) dX12_rankHere_36 zl_X12_291 zv_X12_stands (by decide) rfl zn_160 zo_160 rfl rfl (Nat.le_of_ble_eq_true rfl) ⟨Nat.le_refl _, Nat.le_refl _⟩ ⟨Nat.le_refl _, Nat.le_refl _⟩ hv (fun v1 I16 L17 P18 nx1 q19 => ?_)
        obtain ⟨rfl, r20, rfl, hv⟩ := q19
        refine z_if_ne (tgt := 51) dX12_rankHere_39 (by decide) (fun q51 => ?_) (fun q51 => ?_)
        · have hv := hv.1 q51
          refine z_iconst (v := 4) dX12_rankHere_51 (by decide) ?_
          exact z_ireturn dX12_rankHere_52 rfl rfl (Nat.le_refl _) (Nat.le_refl _) hv
        · have hv := hv.2 q51
          refine z_aload_n dX12_rankHere_42 rfl ?_
          refine z_bipush (v := 61) dX12_rankHere_43 (by decide) ?_
          refine z_callV (As := [.int 61]) (st := []) dX12_rankHere_45 zl_X12_291 zv_X12_stands (by decide) rfl zn_160 zo_160 rfl rfl (Nat.le_of_ble_eq_true rfl) ⟨Nat.le_refl _, Nat.le_refl _⟩ ⟨Nat.le_refl _, Nat.le_refl _⟩ hv (fun v1 I21 L22 P23 nx1 q24 => ?_)
          obtain ⟨rfl, r25, rfl, hv⟩ := q24
          refine z_if_eq (tgt := 53) dX12_rankHere_48 (by decide) (fun q50 => ?_) (fun q50 => ?_)
          · have hv := hv.1 q50
            refine z_aload_n dX12_rankHere_53 rfl ?_
            refine z_bipush (v := 43) dX12_rankHere_54 (by decide) ?_
            refine z_callV (As := [.int 43]) (st := []) dX12_rankHere_56 zl_X12_291 zv_X12_stands (by decide) rfl zn_160 zo_160 rfl rfl (Nat.le_of_ble_eq_true rfl) ⟨Nat.le_refl _, Nat.le_refl _⟩ ⟨Nat.le_refl _, Nat.le_refl _⟩ hv (fun v1 I26 L27 P28 nx1 q29 => ?_)
            obtain ⟨rfl, r30, rfl, hv⟩ := q29
            refine z_if_ne (tgt := 71) dX12_rankHere_59 (by decide) (fun q49 => ?_) (fun q49 => ?_)
            · have hv := hv.1 q49
              refine z_iconst (v := 5) dX12_rankHere_71 (by decide) ?_
              exact z_ireturn dX12_rankHere_72 rfl rfl (Nat.le_refl _) (Nat.le_refl _) hv
            · have hv := hv.2 q49
              refine z_aload_n dX12_rankHere_62 rfl ?_
              refine z_bipush (v := 45) dX12_rankHere_63 (by decide) ?_
              refine z_callV (As := [.int 45]) (st := []) dX12_rankHere_65 zl_X12_291 zv_X12_stands (by decide) rfl zn_160 zo_160 rfl rfl (Nat.le_of_ble_eq_true rfl) ⟨Nat.le_refl _, Nat.le_refl _⟩ ⟨Nat.le_refl _, Nat.le_refl _⟩ hv (fun v1 I31 L32 P33 nx1 q34 => ?_)
              obtain ⟨rfl, r35, rfl, hv⟩ := q34
              refine z_if_eq (tgt := 73) dX12_rankHere_68 (by decide) (fun q48 => ?_) (fun q48 => ?_)
              · have hv := hv.1 q48
                refine z_aload_n dX12_rankHere_73 rfl ?_
                refine z_bipush (v := 42) dX12_rankHere_74 (by decide) ?_
                refine z_callV (As := [.int 42]) (st := []) dX12_rankHere_76 zl_X12_291 zv_X12_stands (by decide) rfl zn_160 zo_160 rfl rfl (Nat.le_of_ble_eq_true rfl) ⟨Nat.le_refl _, Nat.le_refl _⟩ ⟨Nat.le_refl _, Nat.le_refl _⟩ hv (fun v1 I36 L37 P38 nx1 q39 => ?_)
                obtain ⟨rfl, r40, rfl, hv⟩ := q39
                refine z_if_ne (tgt := 91) dX12_rankHere_79 (by decide) (fun q47 => ?_) (fun q47 => ?_)
                · have hv := hv.1 q47
                  refine z_bipush (v := 6) dX12_rankHere_91 (by decide) ?_
                  refine z_goto (tgt := 97) dX12_rankHere_93 (by decide) ?_
                  exact z_ireturn dX12_rankHere_97 rfl rfl (Nat.le_refl _) (Nat.le_refl _) hv
                · have hv := hv.2 q47
                  refine z_aload_n dX12_rankHere_82 rfl ?_
                  refine z_bipush (v := 47) dX12_rankHere_83 (by decide) ?_
                  refine z_callV (As := [.int 47]) (st := []) dX12_rankHere_85 zl_X12_291 zv_X12_stands (by decide) rfl zn_160 zo_160 rfl rfl (Nat.le_of_ble_eq_true rfl) ⟨Nat.le_refl _, Nat.le_refl _⟩ ⟨Nat.le_refl _, Nat.le_refl _⟩ hv (fun v1 I41 L42 P43 nx1 q44 => ?_)
                  obtain ⟨rfl, r45, rfl, hv⟩ := q44
                  refine z_if_eq (tgt := 96) dX12_rankHere_88 (by decide) (fun q46 => ?_) (fun q46 => ?_)
                  · have hv := hv.1 q46
                    refine z_iconst (v := 0) dX12_rankHere_96 (by decide) ?_
                    exact z_ireturn dX12_rankHere_97 rfl rfl (Nat.le_refl _) (Nat.le_refl _) hv
                  · have hv := hv.2 q46
                    refine z_bipush (v := 6) dX12_rankHere_91 (by decide) ?_
                    refine z_goto (tgt := 97) dX12_rankHere_93 (by decide) ?_
                    exact z_ireturn dX12_rankHere_97 rfl rfl (Nat.le_refl _) (Nat.le_refl _) hv
              · have hv := hv.2 q48
                refine z_iconst (v := 5) dX12_rankHere_71 (by decide) ?_
                exact z_ireturn dX12_rankHere_72 rfl rfl (Nat.le_refl _) (Nat.le_refl _) hv
          · have hv := hv.2 q50
            refine z_iconst (v := 4) dX12_rankHere_51 (by decide) ?_
            exact z_ireturn dX12_rankHere_52 rfl rfl (Nat.le_refl _) (Nat.le_refl _) hv
    · have hv := hv.2 q53
      refine z_iconst (v := 1) dX12_rankHere_22 (by decide) ?_
      exact z_ireturn dX12_rankHere_23 rfl rfl (Nat.le_refl _) (Nat.le_refl _) hv
  · have hv := hv.2 q54
    refine z_iconst (v := 2) dX12_rankHere_10 (by decide) ?_
    exact z_ireturn dX12_rankHere_11 rfl rfl (Nat.le_refl _) (Nat.le_refl _) hv
abbrev gw_X12_isCompared (d : Nat) (Q : zQt) (pc : Nat) (lv : zV) (st : List Value) (I : zI) (L : zL) (P : zP) : Prop := zW zm_X12_isCompared (zRm d 0 0) 0 0 Q pc lv st I L P 205 0 0
def v_X12_isCompared_7 (d : Nat) (Q : zQt) (x1 : Int32) (I : zI) (L : zL) (P : zP) : Prop :=
  vp_in x1 90 ∧
  (((I 177 x1.toNatClampNeg) = 5 →
    gw_X12_isCompared d Q 7 [some (.ref 160), some (.int (x1 + (-1)))] [] I L P
  ) ∧ (¬ (I 177 x1.toNatClampNeg) = 5 →
    ((¬ (I 177 x1.toNatClampNeg) = 6 →
      ((¬ (I 177 x1.toNatClampNeg) = 4 →
        Q (some (.int 0)) I L P 205
      ) ∧ ((I 177 x1.toNatClampNeg) = 4 →
        Q (some (.int 1)) I L P 205
      ))
    ) ∧ ((I 177 x1.toNatClampNeg) = 6 →
      gw_X12_isCompared d Q 7 [some (.ref 160), some (.int (x1 + (-1)))] [] I L P
    ))
  ))
set_option maxRecDepth 20000 in
theorem g_X12_isCompared_7 {d : Nat} {Q : zQt} {x1 : Int32} {I : zI} {L : zL} {P : zP} (hP : zPk P) (hv : v_X12_isCompared_7 d Q x1 I L P) : gw_X12_isCompared d Q 7 [some (.ref 160), some (.int x1)] [] I L P := by
  unfold v_X12_isCompared_7 at hv
  refine z_aload_n dX12_isCompared_7 rfl ?_
  refine z_getP dX12_isCompared_8 zf_X12_65 zn_160 zo_160 (fun _ _ _ _ _ => rfl) (hP 160 25 177 zp_160_25) ?_
  refine z_iload_n dX12_isCompared_11 rfl ?_
  obtain ⟨h1, hv⟩ := hv
  refine z_iaload dX12_isCompared_12 zn_177 zh_177 h1 ?_
  refine z_iconst (v := 5) dX12_isCompared_13 (by decide) ?_
  refine z_icmp_eq (tgt := 28) dX12_isCompared_14 (by decide) (fun q4 => ?_) (fun q4 => ?_)
  · have hv := hv.1 q4
    refine z_iinc (v2 := x1 + (-1)) (lv2 := [some (.ref 160), some (.int (x1 + (-1)))]) dX12_isCompared_28 rfl (by rfl) (by decide) rfl rfl ?_
    refine z_goto (tgt := 7) dX12_isCompared_31 (by decide) ?_
    exact hv
  · have hv := hv.2 q4
    refine z_aload_n dX12_isCompared_17 rfl ?_
    refine z_getP dX12_isCompared_18 zf_X12_65 zn_160 zo_160 (fun _ _ _ _ _ => rfl) (hP 160 25 177 zp_160_25) ?_
    refine z_iload_n dX12_isCompared_21 rfl ?_
    refine z_iaload dX12_isCompared_22 zn_177 zh_177 h1 ?_
    refine z_bipush (v := 6) dX12_isCompared_23 (by decide) ?_
    refine z_icmp_ne (tgt := 34) dX12_isCompared_25 (by decide) (fun q3 => ?_) (fun q3 => ?_)
    · have hv := hv.1 q3
      refine z_aload_n dX12_isCompared_34 rfl ?_
      refine z_getP dX12_isCompared_35 zf_X12_65 zn_160 zo_160 (fun _ _ _ _ _ => rfl) (hP 160 25 177 zp_160_25) ?_
      refine z_iload_n dX12_isCompared_38 rfl ?_
      refine z_iaload dX12_isCompared_39 zn_177 zh_177 h1 ?_
      refine z_iconst (v := 4) dX12_isCompared_40 (by decide) ?_
      refine z_icmp_ne (tgt := 48) dX12_isCompared_41 (by decide) (fun q2 => ?_) (fun q2 => ?_)
      · have hv := hv.1 q2
        refine z_iconst (v := 0) dX12_isCompared_48 (by decide) ?_
        exact z_ireturn dX12_isCompared_49 rfl (by decide) (Nat.le_refl _) (Nat.le_refl _) hv
      · have hv := hv.2 q2
        refine z_iconst (v := 1) dX12_isCompared_44 (by decide) ?_
        refine z_goto (tgt := 49) dX12_isCompared_45 (by decide) ?_
        exact z_ireturn dX12_isCompared_49 rfl (by decide) (Nat.le_refl _) (Nat.le_refl _) hv
    · have hv := hv.2 q3
      refine z_iinc (v2 := x1 + (-1)) (lv2 := [some (.ref 160), some (.int (x1 + (-1)))]) dX12_isCompared_28 rfl (by rfl) (by decide) rfl rfl ?_
      refine z_goto (tgt := 7) dX12_isCompared_31 (by decide) ?_
      exact hv
def v_X12_isCompared (d : Nat) (Q : zQt)  (I : zI) (L : zL) (P : zP) : Prop :=
  gw_X12_isCompared d Q 7 [some (.ref 160), some (.int ((I 160 34) - 1))] [] I L P
set_option maxRecDepth 20000 in
theorem g_X12_isCompared {d : Nat} {Q : zQt}  {I : zI} {L : zL} {P : zP} (hP : zPk P) (hv : v_X12_isCompared d Q  I L P) : zM zm_X12_isCompared d 0 0 [.ref 160] I L P 205 Q := by
  unfold v_X12_isCompared at hv
  refine zM_of (lv0 := [some (.ref 160), none]) (by decide +kernel) (Nat.le_of_ble_eq_true rfl) rfl ?_
  refine z_aload_n dX12_isCompared_0 rfl ?_
  refine z_getI dX12_isCompared_1 zf_X12_311 zn_160 zo_160 (fun _ _ _ _ _ => rfl) ?_
  refine z_iconst (v := 1) dX12_isCompared_4 (by decide) ?_
  refine z_isub dX12_isCompared_5 ?_
  refine z_istore_n (lv2 := [some (.ref 160), some (.int ((I 160 34) - 1))]) dX12_isCompared_6 (by decide) rfl rfl ?_
  exact hv
abbrev gw_X12_behindUnit (d : Nat) (Q : zQt) (pc : Nat) (lv : zV) (st : List Value) (I : zI) (L : zL) (P : zP) : Prop := zW zm_X12_behindUnit (zRm d 0 0) 0 0 Q pc lv st I L P 205 0 0
def v_X12_behindUnit_23 (d : Nat) (Q : zQt) (x1 : Int32) (I : zI) (L : zL) (P : zP) : Prop :=
  vp_in ((I 160 34) - 1) 90 ∧
  ((6 < (I 177 ((I 160 34) - 1).toNatClampNeg) →
    ((x1 ≤ 0 →
      ∀ I19 : zI, I19 = zuI I 160 34 ((I 160 34) - 1) →
      vp_in (I19 160 34) 90 ∧
      ((¬ (I19 177 (I19 160 34).toNatClampNeg) = 7 →
        Q (some (.int 0)) I19 L P 205
      ) ∧ ((I19 177 (I19 160 34).toNatClampNeg) = 7 →
        ∀ I22 : zI, I22 = zuI I19 160 33 ((I19 160 33) - 1) →
        zMi zm_X12_stands d [.ref 160, .int 41] I22 L P (fun r28 I24 L25 P26 =>
          zMv zm_X12_must d [.ref 160, .int r28] I24 L25 P26 (fun I29 L30 P31 =>
            zPk P31 ∧
            vp_in (I29 160 34) 90 ∧
            (((I29 178 (I29 160 34).toNatClampNeg) = 40 →
              Q (some (.int 0)) I29 L30 P31 205
            ) ∧ (¬ (I29 178 (I29 160 34).toNatClampNeg) = 40 →
              zMv zm_X12_emit d [.ref 160, .int (I29 178 (I29 160 34).toNatClampNeg), .int (I29 179 (I29 160 34).toNatClampNeg)] I29 L30 P31 (fun I36 L37 P38 =>
                Q (some (.int 0)) I36 L37 P38 205
              )
            ))
          )
        )
      ))
    ) ∧ (¬ x1 ≤ 0 →
      ((¬ x1 = 2 →
        ((¬ x1 = 1 →
          zMi zm_X12_sign d [.ref 160, .int (I 160 6)] I L P (fun r47 I43 L44 P45 =>
            zMv zm_X12_pushE d [.ref 160, .int x1, .int r47, .int 0] I43 L44 P45 (fun I48 L49 P50 =>
              zMv zm_X12_goOn d [.ref 160] I48 L49 P50 (fun I53 L54 P55 =>
                Q (some (.int 1)) I53 L54 P55 205
              )
            )
          )
        ) ∧ (x1 = 1 →
          zMv zm_X12_pushE d [.ref 160, .int x1, .int 124, .int 0] I L P (fun I58 L59 P60 =>
            zMv zm_X12_goOn d [.ref 160] I58 L59 P60 (fun I63 L64 P65 =>
              Q (some (.int 1)) I63 L64 P65 205
            )
          )
        ))
      ) ∧ (x1 = 2 →
        zMv zm_X12_pushE d [.ref 160, .int x1, .int 38, .int 0] I L P (fun I69 L70 P71 =>
          zMv zm_X12_goOn d [.ref 160] I69 L70 P71 (fun I74 L75 P76 =>
            Q (some (.int 1)) I74 L75 P76 205
          )
        )
      ))
    ))
  ) ∧ (¬ 6 < (I 177 ((I 160 34) - 1).toNatClampNeg) →
    (((I 177 ((I 160 34) - 1).toNatClampNeg) < x1 →
      ((x1 ≤ 0 →
        ∀ I81 : zI, I81 = zuI I 160 34 ((I 160 34) - 1) →
        vp_in (I81 160 34) 90 ∧
        ((¬ (I81 177 (I81 160 34).toNatClampNeg) = 7 →
          Q (some (.int 0)) I81 L P 205
        ) ∧ ((I81 177 (I81 160 34).toNatClampNeg) = 7 →
          ∀ I84 : zI, I84 = zuI I81 160 33 ((I81 160 33) - 1) →
          zMi zm_X12_stands d [.ref 160, .int 41] I84 L P (fun r90 I86 L87 P88 =>
            zMv zm_X12_must d [.ref 160, .int r90] I86 L87 P88 (fun I91 L92 P93 =>
              zPk P93 ∧
              vp_in (I91 160 34) 90 ∧
              (((I91 178 (I91 160 34).toNatClampNeg) = 40 →
                Q (some (.int 0)) I91 L92 P93 205
              ) ∧ (¬ (I91 178 (I91 160 34).toNatClampNeg) = 40 →
                zMv zm_X12_emit d [.ref 160, .int (I91 178 (I91 160 34).toNatClampNeg), .int (I91 179 (I91 160 34).toNatClampNeg)] I91 L92 P93 (fun I98 L99 P100 =>
                  Q (some (.int 0)) I98 L99 P100 205
                )
              ))
            )
          )
        ))
      ) ∧ (¬ x1 ≤ 0 →
        ((¬ x1 = 2 →
          ((¬ x1 = 1 →
            zMi zm_X12_sign d [.ref 160, .int (I 160 6)] I L P (fun r109 I105 L106 P107 =>
              zMv zm_X12_pushE d [.ref 160, .int x1, .int r109, .int 0] I105 L106 P107 (fun I110 L111 P112 =>
                zMv zm_X12_goOn d [.ref 160] I110 L111 P112 (fun I115 L116 P117 =>
                  Q (some (.int 1)) I115 L116 P117 205
                )
              )
            )
          ) ∧ (x1 = 1 →
            zMv zm_X12_pushE d [.ref 160, .int x1, .int 124, .int 0] I L P (fun I120 L121 P122 =>
              zMv zm_X12_goOn d [.ref 160] I120 L121 P122 (fun I125 L126 P127 =>
                Q (some (.int 1)) I125 L126 P127 205
              )
            )
          ))
        ) ∧ (x1 = 2 →
          zMv zm_X12_pushE d [.ref 160, .int x1, .int 38, .int 0] I L P (fun I131 L132 P133 =>
            zMv zm_X12_goOn d [.ref 160] I131 L132 P133 (fun I136 L137 P138 =>
              Q (some (.int 1)) I136 L137 P138 205
            )
          )
        ))
      ))
    ) ∧ (¬ (I 177 ((I 160 34) - 1).toNatClampNeg) < x1 →
      ∀ I143 : zI, I143 = zuI I 160 34 ((I 160 34) - 1) →
      vp_in (I143 160 34) 90 ∧
      ((¬ (I143 177 (I143 160 34).toNatClampNeg) = 3 →
        zMv zm_X12_emit d [.ref 160, .int (I143 178 (I143 160 34).toNatClampNeg), .int 0] I143 L P (fun I146 L147 P148 =>
          gw_X12_behindUnit (d + 1) Q 23 [some (.ref 160), some (.int x1)] [] I146 L147 P148
        )
      ) ∧ ((I143 177 (I143 160 34).toNatClampNeg) = 3 →
        ∀ I151 : zI, I151 = zuI I143 160 33 ((I143 160 33) - 1) →
        vp_in (I151 160 34) 90 ∧
        zMv zm_X12_emit d [.ref 160, .int (I151 178 (I151 160 34).toNatClampNeg), .int 0] I151 L P (fun I154 L155 P156 =>
          gw_X12_behindUnit (d + 1) Q 23 [some (.ref 160), some (.int x1)] [] I154 L155 P156
        )
      ))
    ))
  ))
set_option maxRecDepth 20000 in
theorem g_X12_behindUnit_23 {d : Nat} {Q : zQt} {x1 : Int32} {I : zI} {L : zL} {P : zP} (hP : zPk P) (hv : v_X12_behindUnit_23 d Q x1 I L P) : gw_X12_behindUnit (d + 1) Q 23 [some (.ref 160), some (.int x1)] [] I L P := by
  unfold v_X12_behindUnit_23 at hv
  refine z_aload_n dX12_behindUnit_23 rfl ?_
  refine z_getP dX12_behindUnit_24 zf_X12_65 zn_160 zo_160 (fun _ _ _ _ _ => rfl) (hP 160 25 177 zp_160_25) ?_
  refine z_aload_n dX12_behindUnit_27 rfl ?_
  refine z_getI dX12_behindUnit_28 zf_X12_311 zn_160 zo_160 (fun _ _ _ _ _ => rfl) ?_
  refine z_iconst (v := 1) dX12_behindUnit_31 (by decide) ?_
  refine z_isub dX12_behindUnit_32 ?_
  obtain ⟨h18, hv⟩ := hv
  refine z_iaload dX12_behindUnit_33 zn_177 zh_177 h18 ?_
  refine z_bipush (v := 6) dX12_behindUnit_34 (by decide) ?_
  refine z_icmp_gt (tgt := 104) dX12_behindUnit_36 (by decide) (fun q161 => ?_) (fun q161 => ?_)
  · have hv := hv.1 q161
    refine z_iload_n dX12_behindUnit_104 rfl ?_
    refine z_if_le (tgt := 148) dX12_behindUnit_105 (by decide) (fun q80 => ?_) (fun q80 => ?_)
    · have hv := hv.1 q80
      refine z_aload_n dX12_behindUnit_148 rfl ?_
      refine z_dup dX12_behindUnit_149 rfl ?_
      refine z_getI dX12_behindUnit_150 zf_X12_311 zn_160 zo_160 (fun _ _ _ _ _ => rfl) ?_
      refine z_iconst (v := 1) dX12_behindUnit_153 (by decide) ?_
      refine z_isub dX12_behindUnit_154 ?_
      refine z_putI dX12_behindUnit_155 zf_X12_311 zn_160 zo_160 (Or.inl rfl) (fun _ _ _ _ _ => rfl) rfl rfl (z_nmI (fun I19 e20 => ?_))
      have hv := hv I19 e20
      refine z_aload_n dX12_behindUnit_158 rfl ?_
      refine z_getP dX12_behindUnit_159 zf_X12_65 zn_160 zo_160 (fun _ _ _ _ _ => rfl) (hP 160 25 177 zp_160_25) ?_
      refine z_aload_n dX12_behindUnit_162 rfl ?_
      refine z_getI dX12_behindUnit_163 zf_X12_311 zn_160 zo_160 (fun _ _ _ _ _ => rfl) ?_
      obtain ⟨h21, hv⟩ := hv
      refine z_iaload dX12_behindUnit_166 zn_177 zh_177 h21 ?_
      refine z_bipush (v := 7) dX12_behindUnit_167 (by decide) ?_
      refine z_icmp_ne (tgt := 228) dX12_behindUnit_169 (by decide) (fun q42 => ?_) (fun q42 => ?_)
      · have hv := hv.1 q42
        refine z_iconst (v := 0) dX12_behindUnit_228 (by decide) ?_
        exact z_ireturn dX12_behindUnit_229 rfl (by decide) (Nat.le_refl _) (Nat.le_refl _) hv
      · have hv := hv.2 q42
        refine z_aload_n dX12_behindUnit_172 rfl ?_
        refine z_dup dX12_behindUnit_173 rfl ?_
        refine z_getI dX12_behindUnit_174 zf_X12_314 zn_160 zo_160 (fun _ _ _ _ _ => rfl) ?_
        refine z_iconst (v := 1) dX12_behindUnit_177 (by decide) ?_
        refine z_isub dX12_behindUnit_178 ?_
        refine z_putI dX12_behindUnit_179 zf_X12_314 zn_160 zo_160 (Or.inl rfl) (fun _ _ _ _ _ => rfl) rfl rfl (z_nmI (fun I22 e23 => ?_))
        have hv := hv I22 e23
        refine z_aload_n dX12_behindUnit_182 rfl ?_
        refine z_aload_n dX12_behindUnit_183 rfl ?_
        refine z_bipush (v := 41) dX12_behindUnit_184 (by decide) ?_
        refine z_callV (As := [.int 41]) (st := [.ref 160]) dX12_behindUnit_186 zl_X12_291 zv_X12_stands (by decide) rfl zn_160 zo_160 rfl rfl (Nat.le_of_ble_eq_true rfl) ⟨Nat.le_refl _, Nat.le_refl _⟩ ⟨Nat.le_refl _, Nat.le_refl _⟩ hv (fun v1 I24 L25 P26 nx1 q27 => ?_)
        obtain ⟨rfl, r28, rfl, hv⟩ := q27
        refine z_callV (As := [.int r28]) (st := []) dX12_behindUnit_189 zl_X12_294 zv_X12_must (by decide) rfl zn_160 zo_160 rfl rfl (Nat.le_of_ble_eq_true rfl) ⟨Nat.le_refl _, Nat.le_refl _⟩ ⟨Nat.le_refl _, Nat.le_refl _⟩ hv (fun v1 I29 L30 P31 nx1 q32 => ?_)
        obtain ⟨rfl, rfl, hv⟩ := q32
        refine z_aload_n dX12_behindUnit_192 rfl ?_
        obtain ⟨h34, hv⟩ := hv
        refine z_getP dX12_behindUnit_193 zf_X12_68 zn_160 zo_160 (fun _ _ _ _ _ => rfl) (h34 160 26 178 zp_160_26) ?_
        refine z_aload_n dX12_behindUnit_196 rfl ?_
        refine z_getI dX12_behindUnit_197 zf_X12_311 zn_160 zo_160 (fun _ _ _ _ _ => rfl) ?_
        obtain ⟨h35, hv⟩ := hv
        refine z_iaload dX12_behindUnit_200 zn_178 zh_178 h35 ?_
        refine z_bipush (v := 40) dX12_behindUnit_201 (by decide) ?_
        refine z_icmp_eq (tgt := 228) dX12_behindUnit_203 (by decide) (fun q41 => ?_) (fun q41 => ?_)
        · have hv := hv.1 q41
          refine z_iconst (v := 0) dX12_behindUnit_228 (by decide) ?_
          exact z_ireturn dX12_behindUnit_229 rfl (by decide) (Nat.le_refl _) (Nat.le_refl _) hv
        · have hv := hv.2 q41
          refine z_aload_n dX12_behindUnit_206 rfl ?_
          refine z_aload_n dX12_behindUnit_207 rfl ?_
          refine z_getP dX12_behindUnit_208 zf_X12_68 zn_160 zo_160 (fun _ _ _ _ _ => rfl) (h34 160 26 178 zp_160_26) ?_
          refine z_aload_n dX12_behindUnit_211 rfl ?_
          refine z_getI dX12_behindUnit_212 zf_X12_311 zn_160 zo_160 (fun _ _ _ _ _ => rfl) ?_
          refine z_iaload dX12_behindUnit_215 zn_178 zh_178 h35 ?_
          refine z_aload_n dX12_behindUnit_216 rfl ?_
          refine z_getP dX12_behindUnit_217 zf_X12_71 zn_160 zo_160 (fun _ _ _ _ _ => rfl) (h34 160 27 179 zp_160_27) ?_
          refine z_aload_n dX12_behindUnit_220 rfl ?_
          refine z_getI dX12_behindUnit_221 zf_X12_311 zn_160 zo_160 (fun _ _ _ _ _ => rfl) ?_
          refine z_iaload dX12_behindUnit_224 zn_179 zh_179 h35 ?_
          refine z_callV (As := [.int (I29 178 (I29 160 34).toNatClampNeg), .int (I29 179 (I29 160 34).toNatClampNeg)]) (st := []) dX12_behindUnit_225 zl_X12_330 zv_X12_emit (by decide) rfl zn_160 zo_160 rfl rfl (Nat.le_of_ble_eq_true rfl) ⟨Nat.le_refl _, Nat.le_refl _⟩ ⟨Nat.le_refl _, Nat.le_refl _⟩ hv (fun v1 I36 L37 P38 nx1 q39 => ?_)
          obtain ⟨rfl, rfl, hv⟩ := q39
          refine z_iconst (v := 0) dX12_behindUnit_228 (by decide) ?_
          exact z_ireturn dX12_behindUnit_229 rfl (by decide) (Nat.le_refl _) (Nat.le_refl _) hv
    · have hv := hv.2 q80
      refine z_aload_n dX12_behindUnit_108 rfl ?_
      refine z_iload_n dX12_behindUnit_109 rfl ?_
      refine z_iload_n dX12_behindUnit_110 rfl ?_
      refine z_iconst (v := 2) dX12_behindUnit_111 (by decide) ?_
      refine z_icmp_ne (tgt := 120) dX12_behindUnit_112 (by decide) (fun q79 => ?_) (fun q79 => ?_)
      · have hv := hv.1 q79
        refine z_iload_n dX12_behindUnit_120 rfl ?_
        refine z_iconst (v := 1) dX12_behindUnit_121 (by decide) ?_
        refine z_icmp_ne (tgt := 130) dX12_behindUnit_122 (by decide) (fun q68 => ?_) (fun q68 => ?_)
        · have hv := hv.1 q68
          refine z_aload_n dX12_behindUnit_130 rfl ?_
          refine z_aload_n dX12_behindUnit_131 rfl ?_
          refine z_getI dX12_behindUnit_132 zf_X12_198 zn_160 zo_160 (fun _ _ _ _ _ => rfl) ?_
          refine z_callV (As := [.int (I 160 6)]) (st := [.int x1, .ref 160]) dX12_behindUnit_135 zl_X12_201 zv_X12_sign (by decide) rfl zn_160 zo_160 rfl rfl (Nat.le_of_ble_eq_true rfl) ⟨Nat.le_refl _, Nat.le_refl _⟩ ⟨Nat.le_refl _, Nat.le_refl _⟩ hv (fun v1 I43 L44 P45 nx1 q46 => ?_)
          obtain ⟨rfl, r47, rfl, hv⟩ := q46
          refine z_iconst (v := 0) dX12_behindUnit_138 (by decide) ?_
          refine z_callV (As := [.int x1, .int r47, .int 0]) (st := []) dX12_behindUnit_139 zl_X12_317 zv_X12_pushE (by decide) rfl zn_160 zo_160 rfl rfl (Nat.le_of_ble_eq_true rfl) ⟨Nat.le_refl _, Nat.le_refl _⟩ ⟨Nat.le_refl _, Nat.le_refl _⟩ hv (fun v1 I48 L49 P50 nx1 q51 => ?_)
          obtain ⟨rfl, rfl, hv⟩ := q51
          refine z_aload_n dX12_behindUnit_142 rfl ?_
          refine z_callV (As := []) (st := []) dX12_behindUnit_143 zl_X12_237 zv_X12_goOn (by decide) rfl zn_160 zo_160 rfl rfl (Nat.le_of_ble_eq_true rfl) ⟨Nat.le_refl _, Nat.le_refl _⟩ ⟨Nat.le_refl _, Nat.le_refl _⟩ hv (fun v1 I53 L54 P55 nx1 q56 => ?_)
          obtain ⟨rfl, rfl, hv⟩ := q56
          refine z_iconst (v := 1) dX12_behindUnit_146 (by decide) ?_
          exact z_ireturn dX12_behindUnit_147 rfl (by decide) (Nat.le_refl _) (Nat.le_refl _) hv
        · have hv := hv.2 q68
          refine z_bipush (v := 124) dX12_behindUnit_125 (by decide) ?_
          refine z_goto (tgt := 138) dX12_behindUnit_127 (by decide) ?_
          refine z_iconst (v := 0) dX12_behindUnit_138 (by decide) ?_
          refine z_callV (As := [.int x1, .int 124, .int 0]) (st := []) dX12_behindUnit_139 zl_X12_317 zv_X12_pushE (by decide) rfl zn_160 zo_160 rfl rfl (Nat.le_of_ble_eq_true rfl) ⟨Nat.le_refl _, Nat.le_refl _⟩ ⟨Nat.le_refl _, Nat.le_refl _⟩ hv (fun v1 I58 L59 P60 nx1 q61 => ?_)
          obtain ⟨rfl, rfl, hv⟩ := q61
          refine z_aload_n dX12_behindUnit_142 rfl ?_
          refine z_callV (As := []) (st := []) dX12_behindUnit_143 zl_X12_237 zv_X12_goOn (by decide) rfl zn_160 zo_160 rfl rfl (Nat.le_of_ble_eq_true rfl) ⟨Nat.le_refl _, Nat.le_refl _⟩ ⟨Nat.le_refl _, Nat.le_refl _⟩ hv (fun v1 I63 L64 P65 nx1 q66 => ?_)
          obtain ⟨rfl, rfl, hv⟩ := q66
          refine z_iconst (v := 1) dX12_behindUnit_146 (by decide) ?_
          exact z_ireturn dX12_behindUnit_147 rfl (by decide) (Nat.le_refl _) (Nat.le_refl _) hv
      · have hv := hv.2 q79
        refine z_bipush (v := 38) dX12_behindUnit_115 (by decide) ?_
        refine z_goto (tgt := 138) dX12_behindUnit_117 (by decide) ?_
        refine z_iconst (v := 0) dX12_behindUnit_138 (by decide) ?_
        refine z_callV (As := [.int x1, .int 38, .int 0]) (st := []) dX12_behindUnit_139 zl_X12_317 zv_X12_pushE (by decide) rfl zn_160 zo_160 rfl rfl (Nat.le_of_ble_eq_true rfl) ⟨Nat.le_refl _, Nat.le_refl _⟩ ⟨Nat.le_refl _, Nat.le_refl _⟩ hv (fun v1 I69 L70 P71 nx1 q72 => ?_)
        obtain ⟨rfl, rfl, hv⟩ := q72
        refine z_aload_n dX12_behindUnit_142 rfl ?_
        refine z_callV (As := []) (st := []) dX12_behindUnit_143 zl_X12_237 zv_X12_goOn (by decide) rfl zn_160 zo_160 rfl rfl (Nat.le_of_ble_eq_true rfl) ⟨Nat.le_refl _, Nat.le_refl _⟩ ⟨Nat.le_refl _, Nat.le_refl _⟩ hv (fun v1 I74 L75 P76 nx1 q77 => ?_)
        obtain ⟨rfl, rfl, hv⟩ := q77
        refine z_iconst (v := 1) dX12_behindUnit_146 (by decide) ?_
        exact z_ireturn dX12_behindUnit_147 rfl (by decide) (Nat.le_refl _) (Nat.le_refl _) hv
  · have hv := hv.2 q161
    refine z_aload_n dX12_behindUnit_39 rfl ?_
    refine z_getP dX12_behindUnit_40 zf_X12_65 zn_160 zo_160 (fun _ _ _ _ _ => rfl) (hP 160 25 177 zp_160_25) ?_
    refine z_aload_n dX12_behindUnit_43 rfl ?_
    refine z_getI dX12_behindUnit_44 zf_X12_311 zn_160 zo_160 (fun _ _ _ _ _ => rfl) ?_
    refine z_iconst (v := 1) dX12_behindUnit_47 (by decide) ?_
    refine z_isub dX12_behindUnit_48 ?_
    refine z_iaload dX12_behindUnit_49 zn_177 zh_177 h18 ?_
    refine z_iload_n dX12_behindUnit_50 rfl ?_
    refine z_icmp_lt (tgt := 104) dX12_behindUnit_51 (by decide) (fun q160 => ?_) (fun q160 => ?_)
    · have hv := hv.1 q160
      refine z_iload_n dX12_behindUnit_104 rfl ?_
      refine z_if_le (tgt := 148) dX12_behindUnit_105 (by decide) (fun q142 => ?_) (fun q142 => ?_)
      · have hv := hv.1 q142
        refine z_aload_n dX12_behindUnit_148 rfl ?_
        refine z_dup dX12_behindUnit_149 rfl ?_
        refine z_getI dX12_behindUnit_150 zf_X12_311 zn_160 zo_160 (fun _ _ _ _ _ => rfl) ?_
        refine z_iconst (v := 1) dX12_behindUnit_153 (by decide) ?_
        refine z_isub dX12_behindUnit_154 ?_
        refine z_putI dX12_behindUnit_155 zf_X12_311 zn_160 zo_160 (Or.inl rfl) (fun _ _ _ _ _ => rfl) rfl rfl (z_nmI (fun I81 e82 => ?_))
        have hv := hv I81 e82
        refine z_aload_n dX12_behindUnit_158 rfl ?_
        refine z_getP dX12_behindUnit_159 zf_X12_65 zn_160 zo_160 (fun _ _ _ _ _ => rfl) (hP 160 25 177 zp_160_25) ?_
        refine z_aload_n dX12_behindUnit_162 rfl ?_
        refine z_getI dX12_behindUnit_163 zf_X12_311 zn_160 zo_160 (fun _ _ _ _ _ => rfl) ?_
        obtain ⟨h83, hv⟩ := hv
        refine z_iaload dX12_behindUnit_166 zn_177 zh_177 h83 ?_
        refine z_bipush (v := 7) dX12_behindUnit_167 (by decide) ?_
        refine z_icmp_ne (tgt := 228) dX12_behindUnit_169 (by decide) (fun q104 => ?_) (fun q104 => ?_)
        · have hv := hv.1 q104
          refine z_iconst (v := 0) dX12_behindUnit_228 (by decide) ?_
          exact z_ireturn dX12_behindUnit_229 rfl (by decide) (Nat.le_refl _) (Nat.le_refl _) hv
        · have hv := hv.2 q104
          refine z_aload_n dX12_behindUnit_172 rfl ?_
          refine z_dup dX12_behindUnit_173 rfl ?_
          refine z_getI dX12_behindUnit_174 zf_X12_314 zn_160 zo_160 (fun _ _ _ _ _ => rfl) ?_
          refine z_iconst (v := 1) dX12_behindUnit_177 (by decide) ?_
          refine z_isub dX12_behindUnit_178 ?_
          refine z_putI dX12_behindUnit_179 zf_X12_314 zn_160 zo_160 (Or.inl rfl) (fun _ _ _ _ _ => rfl) rfl rfl (z_nmI (fun I84 e85 => ?_))
          have hv := hv I84 e85
          refine z_aload_n dX12_behindUnit_182 rfl ?_
          refine z_aload_n dX12_behindUnit_183 rfl ?_
          refine z_bipush (v := 41) dX12_behindUnit_184 (by decide) ?_
          refine z_callV (As := [.int 41]) (st := [.ref 160]) dX12_behindUnit_186 zl_X12_291 zv_X12_stands (by decide) rfl zn_160 zo_160 rfl rfl (Nat.le_of_ble_eq_true rfl) ⟨Nat.le_refl _, Nat.le_refl _⟩ ⟨Nat.le_refl _, Nat.le_refl _⟩ hv (fun v1 I86 L87 P88 nx1 q89 => ?_)
          obtain ⟨rfl, r90, rfl, hv⟩ := q89
          refine z_callV (As := [.int r90]) (st := []) dX12_behindUnit_189 zl_X12_294 zv_X12_must (by decide) rfl zn_160 zo_160 rfl rfl (Nat.le_of_ble_eq_true rfl) ⟨Nat.le_refl _, Nat.le_refl _⟩ ⟨Nat.le_refl _, Nat.le_refl _⟩ hv (fun v1 I91 L92 P93 nx1 q94 => ?_)
          obtain ⟨rfl, rfl, hv⟩ := q94
          refine z_aload_n dX12_behindUnit_192 rfl ?_
          obtain ⟨h96, hv⟩ := hv
          refine z_getP dX12_behindUnit_193 zf_X12_68 zn_160 zo_160 (fun _ _ _ _ _ => rfl) (h96 160 26 178 zp_160_26) ?_
          refine z_aload_n dX12_behindUnit_196 rfl ?_
          refine z_getI dX12_behindUnit_197 zf_X12_311 zn_160 zo_160 (fun _ _ _ _ _ => rfl) ?_
          obtain ⟨h97, hv⟩ := hv
          refine z_iaload dX12_behindUnit_200 zn_178 zh_178 h97 ?_
          refine z_bipush (v := 40) dX12_behindUnit_201 (by decide) ?_
          refine z_icmp_eq (tgt := 228) dX12_behindUnit_203 (by decide) (fun q103 => ?_) (fun q103 => ?_)
          · have hv := hv.1 q103
            refine z_iconst (v := 0) dX12_behindUnit_228 (by decide) ?_
            exact z_ireturn dX12_behindUnit_229 rfl (by decide) (Nat.le_refl _) (Nat.le_refl _) hv
          · have hv := hv.2 q103
            refine z_aload_n dX12_behindUnit_206 rfl ?_
            refine z_aload_n dX12_behindUnit_207 rfl ?_
            refine z_getP dX12_behindUnit_208 zf_X12_68 zn_160 zo_160 (fun _ _ _ _ _ => rfl) (h96 160 26 178 zp_160_26) ?_
            refine z_aload_n dX12_behindUnit_211 rfl ?_
            refine z_getI dX12_behindUnit_212 zf_X12_311 zn_160 zo_160 (fun _ _ _ _ _ => rfl) ?_
            refine z_iaload dX12_behindUnit_215 zn_178 zh_178 h97 ?_
            refine z_aload_n dX12_behindUnit_216 rfl ?_
            refine z_getP dX12_behindUnit_217 zf_X12_71 zn_160 zo_160 (fun _ _ _ _ _ => rfl) (h96 160 27 179 zp_160_27) ?_
            refine z_aload_n dX12_behindUnit_220 rfl ?_
            refine z_getI dX12_behindUnit_221 zf_X12_311 zn_160 zo_160 (fun _ _ _ _ _ => rfl) ?_
            refine z_iaload dX12_behindUnit_224 zn_179 zh_179 h97 ?_
            refine z_callV (As := [.int (I91 178 (I91 160 34).toNatClampNeg), .int (I91 179 (I91 160 34).toNatClampNeg)]) (st := []) dX12_behindUnit_225 zl_X12_330 zv_X12_emit (by decide) rfl zn_160 zo_160 rfl rfl (Nat.le_of_ble_eq_true rfl) ⟨Nat.le_refl _, Nat.le_refl _⟩ ⟨Nat.le_refl _, Nat.le_refl _⟩ hv (fun v1 I98 L99 P100 nx1 q101 => ?_)
            obtain ⟨rfl, rfl, hv⟩ := q101
            refine z_iconst (v := 0) dX12_behindUnit_228 (by decide) ?_
            exact z_ireturn dX12_behindUnit_229 rfl (by decide) (Nat.le_refl _) (Nat.le_refl _) hv
      · have hv := hv.2 q142
        refine z_aload_n dX12_behindUnit_108 rfl ?_
        refine z_iload_n dX12_behindUnit_109 rfl ?_
        refine z_iload_n dX12_behindUnit_110 rfl ?_
        refine z_iconst (v := 2) dX12_behindUnit_111 (by decide) ?_
        refine z_icmp_ne (tgt := 120) dX12_behindUnit_112 (by decide) (fun q141 => ?_) (fun q141 => ?_)
        · have hv := hv.1 q141
          refine z_iload_n dX12_behindUnit_120 rfl ?_
          refine z_iconst (v := 1) dX12_behindUnit_121 (by decide) ?_
          refine z_icmp_ne (tgt := 130) dX12_behindUnit_122 (by decide) (fun q130 => ?_) (fun q130 => ?_)
          · have hv := hv.1 q130
            refine z_aload_n dX12_behindUnit_130 rfl ?_
            refine z_aload_n dX12_behindUnit_131 rfl ?_
            refine z_getI dX12_behindUnit_132 zf_X12_198 zn_160 zo_160 (fun _ _ _ _ _ => rfl) ?_
            refine z_callV (As := [.int (I 160 6)]) (st := [.int x1, .ref 160]) dX12_behindUnit_135 zl_X12_201 zv_X12_sign (by decide) rfl zn_160 zo_160 rfl rfl (Nat.le_of_ble_eq_true rfl) ⟨Nat.le_refl _, Nat.le_refl _⟩ ⟨Nat.le_refl _, Nat.le_refl _⟩ hv (fun v1 I105 L106 P107 nx1 q108 => ?_)
            obtain ⟨rfl, r109, rfl, hv⟩ := q108
            refine z_iconst (v := 0) dX12_behindUnit_138 (by decide) ?_
            refine z_callV (As := [.int x1, .int r109, .int 0]) (st := []) dX12_behindUnit_139 zl_X12_317 zv_X12_pushE (by decide) rfl zn_160 zo_160 rfl rfl (Nat.le_of_ble_eq_true rfl) ⟨Nat.le_refl _, Nat.le_refl _⟩ ⟨Nat.le_refl _, Nat.le_refl _⟩ hv (fun v1 I110 L111 P112 nx1 q113 => ?_)
            obtain ⟨rfl, rfl, hv⟩ := q113
            refine z_aload_n dX12_behindUnit_142 rfl ?_
            refine z_callV (As := []) (st := []) dX12_behindUnit_143 zl_X12_237 zv_X12_goOn (by decide) rfl zn_160 zo_160 rfl rfl (Nat.le_of_ble_eq_true rfl) ⟨Nat.le_refl _, Nat.le_refl _⟩ ⟨Nat.le_refl _, Nat.le_refl _⟩ hv (fun v1 I115 L116 P117 nx1 q118 => ?_)
            obtain ⟨rfl, rfl, hv⟩ := q118
            refine z_iconst (v := 1) dX12_behindUnit_146 (by decide) ?_
            exact z_ireturn dX12_behindUnit_147 rfl (by decide) (Nat.le_refl _) (Nat.le_refl _) hv
          · have hv := hv.2 q130
            refine z_bipush (v := 124) dX12_behindUnit_125 (by decide) ?_
            refine z_goto (tgt := 138) dX12_behindUnit_127 (by decide) ?_
            refine z_iconst (v := 0) dX12_behindUnit_138 (by decide) ?_
            refine z_callV (As := [.int x1, .int 124, .int 0]) (st := []) dX12_behindUnit_139 zl_X12_317 zv_X12_pushE (by decide) rfl zn_160 zo_160 rfl rfl (Nat.le_of_ble_eq_true rfl) ⟨Nat.le_refl _, Nat.le_refl _⟩ ⟨Nat.le_refl _, Nat.le_refl _⟩ hv (fun v1 I120 L121 P122 nx1 q123 => ?_)
            obtain ⟨rfl, rfl, hv⟩ := q123
            refine z_aload_n dX12_behindUnit_142 rfl ?_
            refine z_callV (As := []) (st := []) dX12_behindUnit_143 zl_X12_237 zv_X12_goOn (by decide) rfl zn_160 zo_160 rfl rfl (Nat.le_of_ble_eq_true rfl) ⟨Nat.le_refl _, Nat.le_refl _⟩ ⟨Nat.le_refl _, Nat.le_refl _⟩ hv (fun v1 I125 L126 P127 nx1 q128 => ?_)
            obtain ⟨rfl, rfl, hv⟩ := q128
            refine z_iconst (v := 1) dX12_behindUnit_146 (by decide) ?_
            exact z_ireturn dX12_behindUnit_147 rfl (by decide) (Nat.le_refl _) (Nat.le_refl _) hv
        · have hv := hv.2 q141
          refine z_bipush (v := 38) dX12_behindUnit_115 (by decide) ?_
          refine z_goto (tgt := 138) dX12_behindUnit_117 (by decide) ?_
          refine z_iconst (v := 0) dX12_behindUnit_138 (by decide) ?_
          refine z_callV (As := [.int x1, .int 38, .int 0]) (st := []) dX12_behindUnit_139 zl_X12_317 zv_X12_pushE (by decide) rfl zn_160 zo_160 rfl rfl (Nat.le_of_ble_eq_true rfl) ⟨Nat.le_refl _, Nat.le_refl _⟩ ⟨Nat.le_refl _, Nat.le_refl _⟩ hv (fun v1 I131 L132 P133 nx1 q134 => ?_)
          obtain ⟨rfl, rfl, hv⟩ := q134
          refine z_aload_n dX12_behindUnit_142 rfl ?_
          refine z_callV (As := []) (st := []) dX12_behindUnit_143 zl_X12_237 zv_X12_goOn (by decide) rfl zn_160 zo_160 rfl rfl (Nat.le_of_ble_eq_true rfl) ⟨Nat.le_refl _, Nat.le_refl _⟩ ⟨Nat.le_refl _, Nat.le_refl _⟩ hv (fun v1 I136 L137 P138 nx1 q139 => ?_)
          obtain ⟨rfl, rfl, hv⟩ := q139
          refine z_iconst (v := 1) dX12_behindUnit_146 (by decide) ?_
          exact z_ireturn dX12_behindUnit_147 rfl (by decide) (Nat.le_refl _) (Nat.le_refl _) hv
    · have hv := hv.2 q160
      refine z_aload_n dX12_behindUnit_54 rfl ?_
      refine z_dup dX12_behindUnit_55 rfl ?_
      refine z_getI dX12_behindUnit_56 zf_X12_311 zn_160 zo_160 (fun _ _ _ _ _ => rfl) ?_
      refine z_iconst (v := 1) dX12_behindUnit_59 (by decide) ?_
      refine z_isub dX12_behindUnit_60 ?_
      refine z_putI dX12_behindUnit_61 zf_X12_311 zn_160 zo_160 (Or.inl rfl) (fun _ _ _ _ _ => rfl) rfl rfl (z_nmI (fun I143 e144 => ?_))
      have hv := hv I143 e144
      refine z_aload_n dX12_behindUnit_64 rfl ?_
      refine z_getP dX12_behindUnit_65 zf_X12_65 zn_160 zo_160 (fun _ _ _ _ _ => rfl) (hP 160 25 177 zp_160_25) ?_
      refine z_aload_n dX12_behindUnit_68 rfl ?_
      refine z_getI dX12_behindUnit_69 zf_X12_311 zn_160 zo_160 (fun _ _ _ _ _ => rfl) ?_
      obtain ⟨h145, hv⟩ := hv
      refine z_iaload dX12_behindUnit_72 zn_177 zh_177 h145 ?_
      refine z_iconst (v := 3) dX12_behindUnit_73 (by decide) ?_
      refine z_icmp_ne (tgt := 87) dX12_behindUnit_74 (by decide) (fun q159 => ?_) (fun q159 => ?_)
      · have hv := hv.1 q159
        refine z_aload_n dX12_behindUnit_87 rfl ?_
        refine z_aload_n dX12_behindUnit_88 rfl ?_
        refine z_getP dX12_behindUnit_89 zf_X12_68 zn_160 zo_160 (fun _ _ _ _ _ => rfl) (hP 160 26 178 zp_160_26) ?_
        refine z_aload_n dX12_behindUnit_92 rfl ?_
        refine z_getI dX12_behindUnit_93 zf_X12_311 zn_160 zo_160 (fun _ _ _ _ _ => rfl) ?_
        refine z_iaload dX12_behindUnit_96 zn_178 zh_178 h145 ?_
        refine z_iconst (v := 0) dX12_behindUnit_97 (by decide) ?_
        refine z_callV (As := [.int (I143 178 (I143 160 34).toNatClampNeg), .int 0]) (st := []) dX12_behindUnit_98 zl_X12_330 zv_X12_emit (by decide) rfl zn_160 zo_160 rfl rfl (Nat.le_of_ble_eq_true rfl) ⟨Nat.le_refl _, Nat.le_refl _⟩ ⟨Nat.le_refl _, Nat.le_refl _⟩ hv (fun v1 I146 L147 P148 nx1 q149 => ?_)
        obtain ⟨rfl, rfl, hv⟩ := q149
        refine z_goto (tgt := 23) dX12_behindUnit_101 (by decide) ?_
        exact hv
      · have hv := hv.2 q159
        refine z_aload_n dX12_behindUnit_77 rfl ?_
        refine z_dup dX12_behindUnit_78 rfl ?_
        refine z_getI dX12_behindUnit_79 zf_X12_314 zn_160 zo_160 (fun _ _ _ _ _ => rfl) ?_
        refine z_iconst (v := 1) dX12_behindUnit_82 (by decide) ?_
        refine z_isub dX12_behindUnit_83 ?_
        refine z_putI dX12_behindUnit_84 zf_X12_314 zn_160 zo_160 (Or.inl rfl) (fun _ _ _ _ _ => rfl) rfl rfl (z_nmI (fun I151 e152 => ?_))
        have hv := hv I151 e152
        refine z_aload_n dX12_behindUnit_87 rfl ?_
        refine z_aload_n dX12_behindUnit_88 rfl ?_
        refine z_getP dX12_behindUnit_89 zf_X12_68 zn_160 zo_160 (fun _ _ _ _ _ => rfl) (hP 160 26 178 zp_160_26) ?_
        refine z_aload_n dX12_behindUnit_92 rfl ?_
        refine z_getI dX12_behindUnit_93 zf_X12_311 zn_160 zo_160 (fun _ _ _ _ _ => rfl) ?_
        obtain ⟨h153, hv⟩ := hv
        refine z_iaload dX12_behindUnit_96 zn_178 zh_178 h153 ?_
        refine z_iconst (v := 0) dX12_behindUnit_97 (by decide) ?_
        refine z_callV (As := [.int (I151 178 (I151 160 34).toNatClampNeg), .int 0]) (st := []) dX12_behindUnit_98 zl_X12_330 zv_X12_emit (by decide) rfl zn_160 zo_160 rfl rfl (Nat.le_of_ble_eq_true rfl) ⟨Nat.le_refl _, Nat.le_refl _⟩ ⟨Nat.le_refl _, Nat.le_refl _⟩ hv (fun v1 I154 L155 P156 nx1 q157 => ?_)
        obtain ⟨rfl, rfl, hv⟩ := q157
        refine z_goto (tgt := 23) dX12_behindUnit_101 (by decide) ?_
        exact hv
def v_X12_behindUnit (d : Nat) (Q : zQt)  (I : zI) (L : zL) (P : zP) : Prop :=
  zMi zm_X12_rankHere d [.ref 160] I L P (fun r5 I1 L2 P3 =>
    ((¬ r5 = 4 →
      gw_X12_behindUnit (d + 1) Q 23 [some (.ref 160), some (.int r5)] [] I1 L2 P3
    ) ∧ (r5 = 4 →
      zMi zm_X12_isCompared d [.ref 160] I1 L2 P3 (fun r10 I6 L7 P8 =>
        ((r10 = 0 →
          gw_X12_behindUnit (d + 1) Q 23 [some (.ref 160), some (.int r5)] [] I6 L7 P8
        ) ∧ (¬ r10 = 0 →
          zMv zm_X12_misplaced d [.ref 160] I6 L7 P8 (fun I11 L12 P13 =>
            Q (some (.int 1)) I11 L12 P13 205
          )
        ))
      )
    ))
  )
set_option maxRecDepth 20000 in
theorem g_X12_behindUnit {d : Nat} {Q : zQt}  {I : zI} {L : zL} {P : zP} (hP : zPk P) (hv : v_X12_behindUnit d Q  I L P) : zM zm_X12_behindUnit (d + 1) 0 0 [.ref 160] I L P 205 Q := by
  unfold v_X12_behindUnit at hv
  refine zM_of (lv0 := [some (.ref 160), none]) (by decide +kernel) (Nat.le_of_ble_eq_true rfl) rfl ?_
  refine z_aload_n dX12_behindUnit_0 rfl ?_
  refine z_callV (As := []) (st := []) dX12_behindUnit_1 zl_X12_333 zv_X12_rankHere (by decide) rfl zn_160 zo_160 rfl rfl (Nat.le_of_ble_eq_true rfl) ⟨Nat.le_refl _, Nat.le_refl _⟩ ⟨Nat.le_refl _, Nat.le_refl _⟩ hv (fun v1 I1 L2 P3 nx1 q4 => ?_)
  obtain ⟨rfl, r5, rfl, hv⟩ := q4
  refine z_istore_n (lv2 := [some (.ref 160), some (.int r5)]) dX12_behindUnit_4 (by decide) rfl rfl ?_
  refine z_iload_n dX12_behindUnit_5 rfl ?_
  refine z_iconst (v := 4) dX12_behindUnit_6 (by decide) ?_
  refine z_icmp_ne (tgt := 23) dX12_behindUnit_7 (by decide) (fun q17 => ?_) (fun q17 => ?_)
  · have hv := hv.1 q17
    exact hv
  · have hv := hv.2 q17
    refine z_aload_n dX12_behindUnit_10 rfl ?_
    refine z_callV (As := []) (st := []) dX12_behindUnit_11 zl_X12_336 zv_X12_isCompared (by decide) rfl zn_160 zo_160 rfl rfl (Nat.le_of_ble_eq_true rfl) ⟨Nat.le_refl _, Nat.le_refl _⟩ ⟨Nat.le_refl _, Nat.le_refl _⟩ hv (fun v1 I6 L7 P8 nx1 q9 => ?_)
    obtain ⟨rfl, r10, rfl, hv⟩ := q9
    refine z_if_eq (tgt := 23) dX12_behindUnit_14 (by decide) (fun q16 => ?_) (fun q16 => ?_)
    · have hv := hv.1 q16
      exact hv
    · have hv := hv.2 q16
      refine z_aload_n dX12_behindUnit_17 rfl ?_
      refine z_callV (As := []) (st := []) dX12_behindUnit_18 zl_X12_240 zv_X12_misplaced (by decide) rfl zn_160 zo_160 rfl rfl (Nat.le_of_ble_eq_true rfl) ⟨Nat.le_refl _, Nat.le_refl _⟩ ⟨Nat.le_refl _, Nat.le_refl _⟩ hv (fun v1 I11 L12 P13 nx1 q14 => ?_)
      obtain ⟨rfl, rfl, hv⟩ := q14
      refine z_iconst (v := 1) dX12_behindUnit_21 (by decide) ?_
      exact z_ireturn dX12_behindUnit_22 rfl (by decide) (Nat.le_refl _) (Nat.le_refl _) hv
abbrev gw_X12_readAlone (d : Nat) (Q : zQt) (pc : Nat) (lv : zV) (st : List Value) (I : zI) (L : zL) (P : zP) : Prop := zW zm_X12_readAlone (zRm d 0 0) 0 0 Q pc lv st I L P 205 0 0
def v_X12_readAlone (d : Nat) (Q : zQt)  (I : zI) (L : zL) (P : zP) : Prop :=
  zMv zm_X12_beginText d [.ref 160] I L P (fun I1 L2 P3 =>
    ∀ I6 : zI, I6 = zuI I1 160 29 (I1 160 28) →
    ∀ I8 : zI, I8 = zuI I6 160 30 2 →
    zPk P3 ∧
    ∀ I12 : zI, I12 = zuI I8 166 (2 : Int32).toNatClampNeg 0 →
    ∀ I13 : zI, I13 = zuI I12 160 31 30 →
    ∀ I15 : zI, I15 = zuI I13 160 32 1400 →
    zMv zm_X12_goOn d [.ref 160] I15 L2 P3 (fun I17 L18 P19 =>
      zMv zm_X12_f d [.ref 160] I17 L18 P19 (fun I22 L23 P24 =>
        zMi zm_X12_isGood d [.ref 160] I22 L23 P24 (fun r31 I27 L28 P29 =>
          ((r31 = 0 →
            zMi zm_X12_isGood d [.ref 160] I27 L28 P29 (fun r36 I32 L33 P34 =>
              (r36 = 0 ∨ r36 = 1) ∧
              Q (some (.int r36)) I32 L33 P34 205
            )
          ) ∧ (¬ r31 = 0 →
            (((I27 160 8) = 0 →
              zMi zm_X12_isGood d [.ref 160] I27 L28 P29 (fun r42 I38 L39 P40 =>
                (r42 = 0 ∨ r42 = 1) ∧
                Q (some (.int r42)) I38 L39 P40 205
              )
            ) ∧ (¬ (I27 160 8) = 0 →
              zMv zm_X12_misplaced d [.ref 160] I27 L28 P29 (fun I44 L45 P46 =>
                zMi zm_X12_isGood d [.ref 160] I44 L45 P46 (fun r53 I49 L50 P51 =>
                  (r53 = 0 ∨ r53 = 1) ∧
                  Q (some (.int r53)) I49 L50 P51 205
                )
              )
            ))
          ))
        )
      )
    )
  )
set_option maxRecDepth 20000 in
theorem g_X12_readAlone {d : Nat} {Q : zQt}  {I : zI} {L : zL} {P : zP} (hP : zPk P) (hv : v_X12_readAlone d Q  I L P) : zM zm_X12_readAlone (d + 1) 0 0 [.ref 160] I L P 205 Q := by
  unfold v_X12_readAlone at hv
  refine zM_of (lv0 := [some (.ref 160)]) (by decide +kernel) (Nat.le_of_ble_eq_true rfl) rfl ?_
  refine z_aload_n dX12_readAlone_0 rfl ?_
  refine z_callV (As := []) (st := []) dX12_readAlone_1 zl_X12_258 zv_X12_beginText (by decide) rfl zn_160 zo_160 rfl rfl (Nat.le_of_ble_eq_true rfl) ⟨Nat.le_refl _, Nat.le_refl _⟩ ⟨Nat.le_refl _, Nat.le_refl _⟩ hv (fun v1 I1 L2 P3 nx1 q4 => ?_)
  obtain ⟨rfl, rfl, hv⟩ := q4
  refine z_aload_n dX12_readAlone_4 rfl ?_
  refine z_aload_n dX12_readAlone_5 rfl ?_
  refine z_getI dX12_readAlone_6 zf_X12_261 zn_160 zo_160 (fun _ _ _ _ _ => rfl) ?_
  refine z_putI dX12_readAlone_9 zf_X12_243 zn_160 zo_160 (Or.inl rfl) (fun _ _ _ _ _ => rfl) rfl rfl (z_nmI (fun I6 e7 => ?_))
  have hv := hv I6 e7
  refine z_aload_n dX12_readAlone_12 rfl ?_
  refine z_iconst (v := 2) dX12_readAlone_13 (by decide) ?_
  refine z_putI dX12_readAlone_14 zf_X12_249 zn_160 zo_160 (Or.inl rfl) (fun _ _ _ _ _ => rfl) rfl rfl (z_nmI (fun I8 e9 => ?_))
  have hv := hv I8 e9
  refine z_aload_n dX12_readAlone_17 rfl ?_
  obtain ⟨h10, hv⟩ := hv
  refine z_getP dX12_readAlone_18 zf_X12_30 zn_160 zo_160 (fun _ _ _ _ _ => rfl) (h10 160 14 166 zp_160_14) ?_
  refine z_iconst (v := 2) dX12_readAlone_21 (by decide) ?_
  refine z_iconst (v := 0) dX12_readAlone_22 (by decide) ?_
  refine z_iastore dX12_readAlone_23 zn_166 zh_166 (by unfold vp_in; decide) (z_nmI (fun I12 e11 => ?_))
  have hv := hv I12 e11
  refine z_aload_n dX12_readAlone_24 rfl ?_
  refine z_bipush (v := 30) dX12_readAlone_25 (by decide) ?_
  refine z_putI dX12_readAlone_27 zf_X12_252 zn_160 zo_160 (Or.inl rfl) (fun _ _ _ _ _ => rfl) rfl rfl (z_nmI (fun I13 e14 => ?_))
  have hv := hv I13 e14
  refine z_aload_n dX12_readAlone_30 rfl ?_
  refine z_sipush (v := 1400) dX12_readAlone_31 (by decide) ?_
  refine z_putI dX12_readAlone_34 zf_X12_246 zn_160 zo_160 (Or.inl rfl) (fun _ _ _ _ _ => rfl) rfl rfl (z_nmI (fun I15 e16 => ?_))
  have hv := hv I15 e16
  refine z_aload_n dX12_readAlone_37 rfl ?_
  refine z_callV (As := []) (st := []) dX12_readAlone_38 zl_X12_237 zv_X12_goOn (by decide) rfl zn_160 zo_160 rfl rfl (Nat.le_of_ble_eq_true rfl) ⟨Nat.le_refl _, Nat.le_refl _⟩ ⟨Nat.le_refl _, Nat.le_refl _⟩ hv (fun v1 I17 L18 P19 nx1 q20 => ?_)
  obtain ⟨rfl, rfl, hv⟩ := q20
  refine z_aload_n dX12_readAlone_41 rfl ?_
  refine z_callV (As := []) (st := []) dX12_readAlone_42 zl_X12_308 zv_X12_f (by decide) rfl zn_160 zo_160 rfl rfl (Nat.le_of_ble_eq_true rfl) ⟨Nat.le_refl _, Nat.le_refl _⟩ ⟨Nat.le_refl _, Nat.le_refl _⟩ hv (fun v1 I22 L23 P24 nx1 q25 => ?_)
  obtain ⟨rfl, rfl, hv⟩ := q25
  refine z_aload_n dX12_readAlone_45 rfl ?_
  refine z_callV (As := []) (st := []) dX12_readAlone_46 zl_X12_233 zv_X12_isGood (by decide) rfl zn_160 zo_160 rfl rfl (Nat.le_of_ble_eq_true rfl) ⟨Nat.le_refl _, Nat.le_refl _⟩ ⟨Nat.le_refl _, Nat.le_refl _⟩ hv (fun v1 I27 L28 P29 nx1 q30 => ?_)
  obtain ⟨rfl, r31, rfl, hv⟩ := q30
  refine z_if_eq (tgt := 63) dX12_readAlone_49 (by decide) (fun q56 => ?_) (fun q56 => ?_)
  · have hv := hv.1 q56
    refine z_aload_n dX12_readAlone_63 rfl ?_
    refine z_callV (As := []) (st := []) dX12_readAlone_64 zl_X12_233 zv_X12_isGood (by decide) rfl zn_160 zo_160 rfl rfl (Nat.le_of_ble_eq_true rfl) ⟨Nat.le_refl _, Nat.le_refl _⟩ ⟨Nat.le_refl _, Nat.le_refl _⟩ hv (fun v1 I32 L33 P34 nx1 q35 => ?_)
    obtain ⟨rfl, r36, rfl, hv⟩ := q35
    obtain ⟨h37, hv⟩ := hv
    exact z_ireturn dX12_readAlone_67 rfl (zbn h37) (Nat.le_refl _) (Nat.le_refl _) hv
  · have hv := hv.2 q56
    refine z_aload_n dX12_readAlone_52 rfl ?_
    refine z_getI dX12_readAlone_53 zf_X12_205 zn_160 zo_160 (fun _ _ _ _ _ => rfl) ?_
    refine z_if_eq (tgt := 63) dX12_readAlone_56 (by decide) (fun q55 => ?_) (fun q55 => ?_)
    · have hv := hv.1 q55
      refine z_aload_n dX12_readAlone_63 rfl ?_
      refine z_callV (As := []) (st := []) dX12_readAlone_64 zl_X12_233 zv_X12_isGood (by decide) rfl zn_160 zo_160 rfl rfl (Nat.le_of_ble_eq_true rfl) ⟨Nat.le_refl _, Nat.le_refl _⟩ ⟨Nat.le_refl _, Nat.le_refl _⟩ hv (fun v1 I38 L39 P40 nx1 q41 => ?_)
      obtain ⟨rfl, r42, rfl, hv⟩ := q41
      obtain ⟨h43, hv⟩ := hv
      exact z_ireturn dX12_readAlone_67 rfl (zbn h43) (Nat.le_refl _) (Nat.le_refl _) hv
    · have hv := hv.2 q55
      refine z_aload_n dX12_readAlone_59 rfl ?_
      refine z_callV (As := []) (st := []) dX12_readAlone_60 zl_X12_240 zv_X12_misplaced (by decide) rfl zn_160 zo_160 rfl rfl (Nat.le_of_ble_eq_true rfl) ⟨Nat.le_refl _, Nat.le_refl _⟩ ⟨Nat.le_refl _, Nat.le_refl _⟩ hv (fun v1 I44 L45 P46 nx1 q47 => ?_)
      obtain ⟨rfl, rfl, hv⟩ := q47
      refine z_aload_n dX12_readAlone_63 rfl ?_
      refine z_callV (As := []) (st := []) dX12_readAlone_64 zl_X12_233 zv_X12_isGood (by decide) rfl zn_160 zo_160 rfl rfl (Nat.le_of_ble_eq_true rfl) ⟨Nat.le_refl _, Nat.le_refl _⟩ ⟨Nat.le_refl _, Nat.le_refl _⟩ hv (fun v1 I49 L50 P51 nx1 q52 => ?_)
      obtain ⟨rfl, r53, rfl, hv⟩ := q52
      obtain ⟨h54, hv⟩ := hv
      exact z_ireturn dX12_readAlone_67 rfl (zbn h54) (Nat.le_refl _) (Nat.le_refl _) hv
abbrev gw_X12_fault (d : Nat) (Q : zQt) (pc : Nat) (lv : zV) (st : List Value) (I : zI) (L : zL) (P : zP) : Prop := zW zm_X12_fault (zRm d 0 0) 0 0 Q pc lv st I L P 205 0 0
def v_X12_fault (d : Nat) (Q : zQt) (p1 : Int32) (I : zI) (L : zL) (P : zP) : Prop :=
  ((¬ p1 = 0 →
    ((¬ p1 = 1 →
      Q (some (.int (-1))) I L P 205
    ) ∧ (p1 = 1 →
      Q (some (.int (I 160 5))) I L P 205
    ))
  ) ∧ (p1 = 0 →
    Q (some (.int (I 160 4))) I L P 205
  ))
set_option maxRecDepth 20000 in
theorem g_X12_fault {d : Nat} {Q : zQt} {p1 : Int32} {I : zI} {L : zL} {P : zP} (hP : zPk P) (hv : v_X12_fault d Q p1 I L P) : zM zm_X12_fault d 0 0 [.ref 160, .int p1] I L P 205 Q := by
  unfold v_X12_fault at hv
  refine zM_of (lv0 := [some (.ref 160), some (.int p1)]) (by decide +kernel) (Nat.le_of_ble_eq_true rfl) rfl ?_
  refine z_iload_n dX12_fault_0 rfl ?_
  refine z_if_ne (tgt := 11) dX12_fault_1 (by decide) (fun q2 => ?_) (fun q2 => ?_)
  · have hv := hv.1 q2
    refine z_iload_n dX12_fault_11 rfl ?_
    refine z_iconst (v := 1) dX12_fault_12 (by decide) ?_
    refine z_icmp_ne (tgt := 23) dX12_fault_13 (by decide) (fun q1 => ?_) (fun q1 => ?_)
    · have hv := hv.1 q1
      refine z_iconst (v := (-1)) dX12_fault_23 (by decide) ?_
      exact z_ireturn dX12_fault_24 rfl rfl (Nat.le_refl _) (Nat.le_refl _) hv
    · have hv := hv.2 q1
      refine z_aload_n dX12_fault_16 rfl ?_
      refine z_getI dX12_fault_17 zf_X12_16 zn_160 zo_160 (fun _ _ _ _ _ => rfl) ?_
      refine z_goto (tgt := 24) dX12_fault_20 (by decide) ?_
      exact z_ireturn dX12_fault_24 rfl rfl (Nat.le_refl _) (Nat.le_refl _) hv
  · have hv := hv.2 q2
    refine z_aload_n dX12_fault_4 rfl ?_
    refine z_getI dX12_fault_5 zf_X12_158 zn_160 zo_160 (fun _ _ _ _ _ => rfl) ?_
    refine z_goto (tgt := 24) dX12_fault_8 (by decide) ?_
    exact z_ireturn dX12_fault_24 rfl rfl (Nat.le_refl _) (Nat.le_refl _) hv
abbrev gw_X12_isIn (d : Nat) (Q : zQt) (pc : Nat) (lv : zV) (st : List Value) (I : zI) (L : zL) (P : zP) : Prop := zW zm_X12_isIn (zRm d 0 0) 0 0 Q pc lv st I L P 205 0 0
def v_X12_isIn (d : Nat) (Q : zQt) (p1 : Int32) (p2 : Int32) (p3 : Int32) (I : zI) (L : zL) (P : zP) : Prop :=
  ((p1 < p2 →
    Q (some (.int 0)) I L P 205
  ) ∧ (¬ p1 < p2 →
    ((p3 < p1 →
      Q (some (.int 0)) I L P 205
    ) ∧ (¬ p3 < p1 →
      Q (some (.int 1)) I L P 205
    ))
  ))
set_option maxRecDepth 20000 in
theorem g_X12_isIn {d : Nat} {Q : zQt} {p1 : Int32} {p2 : Int32} {p3 : Int32} {I : zI} {L : zL} {P : zP} (hP : zPk P) (hv : v_X12_isIn d Q p1 p2 p3 I L P) : zM zm_X12_isIn d 0 0 [.int p1, .int p2, .int p3] I L P 205 Q := by
  unfold v_X12_isIn at hv
  refine zM_of (lv0 := [some (.int p1), some (.int p2), some (.int p3)]) (by decide +kernel) (Nat.le_of_ble_eq_true rfl) rfl ?_
  refine z_iload_n dX12_isIn_0 rfl ?_
  refine z_iload_n dX12_isIn_1 rfl ?_
  refine z_icmp_lt (tgt := 14) dX12_isIn_2 (by decide) (fun q2 => ?_) (fun q2 => ?_)
  · have hv := hv.1 q2
    refine z_iconst (v := 0) dX12_isIn_14 (by decide) ?_
    exact z_ireturn dX12_isIn_15 rfl (by decide) (Nat.le_refl _) (Nat.le_refl _) hv
  · have hv := hv.2 q2
    refine z_iload_n dX12_isIn_5 rfl ?_
    refine z_iload_n dX12_isIn_6 rfl ?_
    refine z_icmp_gt (tgt := 14) dX12_isIn_7 (by decide) (fun q1 => ?_) (fun q1 => ?_)
    · have hv := hv.1 q1
      refine z_iconst (v := 0) dX12_isIn_14 (by decide) ?_
      exact z_ireturn dX12_isIn_15 rfl (by decide) (Nat.le_refl _) (Nat.le_refl _) hv
    · have hv := hv.2 q1
      refine z_iconst (v := 1) dX12_isIn_10 (by decide) ?_
      refine z_goto (tgt := 15) dX12_isIn_11 (by decide) ?_
      exact z_ireturn dX12_isIn_15 rfl (by decide) (Nat.le_refl _) (Nat.le_refl _) hv
abbrev gw_X12_bitsOf (d : Nat) (Q : zQt) (pc : Nat) (lv : zV) (st : List Value) (I : zI) (L : zL) (P : zP) : Prop := zW zm_X12_bitsOf (zRm d 0 0) 0 0 Q pc lv st I L P 205 0 0
def v_X12_bitsOf_4 (d : Nat) (Q : zQt) (p1 : Int32) (x1 : Int32) (x2 : Int32) (I : zI) (L : zL) (P : zP) : Prop :=
  ((31 ≤ x2 →
    Q (some (.int x1)) I L P 205
  ) ∧ (¬ 31 ≤ x2 →
    gw_X12_bitsOf d Q 4 [some (.int p1), some (.int (x1 + ((p1 >>> (x2 &&& 31) : Int32) &&& 1 : Int32))), some (.int (x2 + 1))] [] I L P
  ))
set_option maxRecDepth 20000 in
theorem g_X12_bitsOf_4 {d : Nat} {Q : zQt} {p1 : Int32} {x1 : Int32} {x2 : Int32} {I : zI} {L : zL} {P : zP} (hP : zPk P) (hv : v_X12_bitsOf_4 d Q p1 x1 x2 I L P) : gw_X12_bitsOf d Q 4 [some (.int p1), some (.int x1), some (.int x2)] [] I L P := by
  unfold v_X12_bitsOf_4 at hv
  refine z_iload_n dX12_bitsOf_4 rfl ?_
  refine z_bipush (v := 31) dX12_bitsOf_5 (by decide) ?_
  refine z_icmp_ge (tgt := 24) dX12_bitsOf_7 (by decide) (fun q1 => ?_) (fun q1 => ?_)
  · have hv := hv.1 q1
    refine z_iload_n dX12_bitsOf_24 rfl ?_
    exact z_ireturn dX12_bitsOf_25 rfl rfl (Nat.le_refl _) (Nat.le_refl _) hv
  · have hv := hv.2 q1
    refine z_iload_n dX12_bitsOf_10 rfl ?_
    refine z_iload_n dX12_bitsOf_11 rfl ?_
    refine z_iload_n dX12_bitsOf_12 rfl ?_
    refine z_ishr dX12_bitsOf_13 ?_
    refine z_iconst (v := 1) dX12_bitsOf_14 (by decide) ?_
    refine z_iand dX12_bitsOf_15 ?_
    refine z_iadd dX12_bitsOf_16 ?_
    refine z_istore_n (lv2 := [some (.int p1), some (.int (x1 + ((p1 >>> (x2 &&& 31) : Int32) &&& 1 : Int32))), some (.int x2)]) dX12_bitsOf_17 (by decide) rfl rfl ?_
    refine z_iinc (v2 := x2 + 1) (lv2 := [some (.int p1), some (.int (x1 + ((p1 >>> (x2 &&& 31) : Int32) &&& 1 : Int32))), some (.int (x2 + 1))]) dX12_bitsOf_18 rfl (by rfl) (by decide) rfl rfl ?_
    refine z_goto (tgt := 4) dX12_bitsOf_21 (by decide) ?_
    exact hv
def v_X12_bitsOf (d : Nat) (Q : zQt) (p1 : Int32) (I : zI) (L : zL) (P : zP) : Prop :=
  gw_X12_bitsOf d Q 4 [some (.int p1), some (.int 0), some (.int 0)] [] I L P
set_option maxRecDepth 20000 in
theorem g_X12_bitsOf {d : Nat} {Q : zQt} {p1 : Int32} {I : zI} {L : zL} {P : zP} (hP : zPk P) (hv : v_X12_bitsOf d Q p1 I L P) : zM zm_X12_bitsOf d 0 0 [.int p1] I L P 205 Q := by
  unfold v_X12_bitsOf at hv
  refine zM_of (lv0 := [some (.int p1), none, none]) (by decide +kernel) (Nat.le_of_ble_eq_true rfl) rfl ?_
  refine z_iconst (v := 0) dX12_bitsOf_0 (by decide) ?_
  refine z_istore_n (lv2 := [some (.int p1), some (.int 0), none]) dX12_bitsOf_1 (by decide) rfl rfl ?_
  refine z_iconst (v := 0) dX12_bitsOf_2 (by decide) ?_
  refine z_istore_n (lv2 := [some (.int p1), some (.int 0), some (.int 0)]) dX12_bitsOf_3 (by decide) rfl rfl ?_
  exact hv
abbrev gw_X12_manyOf (d : Nat) (Q : zQt) (pc : Nat) (lv : zV) (st : List Value) (I : zI) (L : zL) (P : zP) : Prop := zW zm_X12_manyOf (zRm d 0 0) 0 0 Q pc lv st I L P 205 0 0
def v_X12_manyOf (d : Nat) (Q : zQt)  (I : zI) (L : zL) (P : zP) : Prop :=
  vp_in (I 160 28) 2 ∧
  Q (some (.int (I 163 (I 160 28).toNatClampNeg))) I L P 205
set_option maxRecDepth 20000 in
theorem g_X12_manyOf {d : Nat} {Q : zQt}  {I : zI} {L : zL} {P : zP} (hP : zPk P) (hv : v_X12_manyOf d Q  I L P) : zM zm_X12_manyOf d 0 0 [.ref 160] I L P 205 Q := by
  unfold v_X12_manyOf at hv
  refine zM_of (lv0 := [some (.ref 160)]) (by decide +kernel) (Nat.le_of_ble_eq_true rfl) rfl ?_
  refine z_aload_n dX12_manyOf_0 rfl ?_
  refine z_getP dX12_manyOf_1 zf_X12_20 zn_160 zo_160 (fun _ _ _ _ _ => rfl) (hP 160 11 163 zp_160_11) ?_
  refine z_aload_n dX12_manyOf_4 rfl ?_
  refine z_getI dX12_manyOf_5 zf_X12_261 zn_160 zo_160 (fun _ _ _ _ _ => rfl) ?_
  obtain ⟨h1, hv⟩ := hv
  refine z_iaload dX12_manyOf_8 zn_163 zh_163 h1 ?_
  exact z_ireturn dX12_manyOf_9 rfl rfl (Nat.le_refl _) (Nat.le_refl _) hv
abbrev gw_X12_worldMany (d : Nat) (Q : zQt) (pc : Nat) (lv : zV) (st : List Value) (I : zI) (L : zL) (P : zP) : Prop := zW zm_X12_worldMany (zRm d 0 0) 0 0 Q pc lv st I L P 205 0 0
def v_X12_worldMany (d : Nat) (Q : zQt)  (I : zI) (L : zL) (P : zP) : Prop :=
  zMi zm_X12_manyOf d [.ref 160] I L P (fun r5 I1 L2 P3 =>
    Q (some (.int ((1 : Int32) <<< (r5 &&& 31) : Int32))) I1 L2 P3 205
  )
set_option maxRecDepth 20000 in
theorem g_X12_worldMany {d : Nat} {Q : zQt}  {I : zI} {L : zL} {P : zP} (hP : zPk P) (hv : v_X12_worldMany d Q  I L P) : zM zm_X12_worldMany (d + 1) 0 0 [.ref 160] I L P 205 Q := by
  unfold v_X12_worldMany at hv
  refine zM_of (lv0 := [some (.ref 160)]) (by decide +kernel) (Nat.le_of_ble_eq_true rfl) rfl ?_
  refine z_iconst (v := 1) dX12_worldMany_0 (by decide) ?_
  refine z_aload_n dX12_worldMany_1 rfl ?_
  refine z_callV (As := []) (st := [.int 1]) dX12_worldMany_2 zl_X12_339 zv_X12_manyOf (by decide) rfl zn_160 zo_160 rfl rfl (Nat.le_of_ble_eq_true rfl) ⟨Nat.le_refl _, Nat.le_refl _⟩ ⟨Nat.le_refl _, Nat.le_refl _⟩ hv (fun v1 I1 L2 P3 nx1 q4 => ?_)
  obtain ⟨rfl, r5, rfl, hv⟩ := q4
  refine z_ishl dX12_worldMany_5 ?_
  exact z_ireturn dX12_worldMany_6 rfl rfl (Nat.le_refl _) (Nat.le_refl _) hv
abbrev gw_X12_isOne (d : Nat) (Q : zQt) (pc : Nat) (lv : zV) (st : List Value) (I : zI) (L : zL) (P : zP) : Prop := zW zm_X12_isOne (zRm d 0 0) 0 0 Q pc lv st I L P 205 0 0
def v_X12_isOne (d : Nat) (Q : zQt) (p1 : Int32) (I : zI) (L : zL) (P : zP) : Prop :=
  zMi zm_X12_manyOf d [.ref 160] I L P (fun r5 I1 L2 P3 =>
    zMi zm_X12_isIn d [.int p1, .int 0, .int (r5 - 1)] I1 L2 P3 (fun r10 I6 L7 P8 =>
      (r10 = 0 ∨ r10 = 1) ∧
      Q (some (.int r10)) I6 L7 P8 205
    )
  )
set_option maxRecDepth 20000 in
theorem g_X12_isOne {d : Nat} {Q : zQt} {p1 : Int32} {I : zI} {L : zL} {P : zP} (hP : zPk P) (hv : v_X12_isOne d Q p1 I L P) : zM zm_X12_isOne (d + 1) 0 0 [.ref 160, .int p1] I L P 205 Q := by
  unfold v_X12_isOne at hv
  refine zM_of (lv0 := [some (.ref 160), some (.int p1)]) (by decide +kernel) (Nat.le_of_ble_eq_true rfl) rfl ?_
  refine z_iload_n dX12_isOne_0 rfl ?_
  refine z_iconst (v := 0) dX12_isOne_1 (by decide) ?_
  refine z_aload_n dX12_isOne_2 rfl ?_
  refine z_callV (As := []) (st := [.int 0, .int p1]) dX12_isOne_3 zl_X12_339 zv_X12_manyOf (by decide) rfl zn_160 zo_160 rfl rfl (Nat.le_of_ble_eq_true rfl) ⟨Nat.le_refl _, Nat.le_refl _⟩ ⟨Nat.le_refl _, Nat.le_refl _⟩ hv (fun v1 I1 L2 P3 nx1 q4 => ?_)
  obtain ⟨rfl, r5, rfl, hv⟩ := q4
  refine z_iconst (v := 1) dX12_isOne_6 (by decide) ?_
  refine z_isub dX12_isOne_7 ?_
  refine z_callS (As := [.int p1, .int 0, .int (r5 - 1)]) (st := []) dX12_isOne_8 zl_X12_342 zs_X12_isIn rfl rfl (Nat.le_of_ble_eq_true rfl) ⟨Nat.le_refl _, Nat.le_refl _⟩ ⟨Nat.le_refl _, Nat.le_refl _⟩ hv (fun v1 I6 L7 P8 nx1 q9 => ?_)
  obtain ⟨rfl, r10, rfl, hv⟩ := q9
  obtain ⟨h11, hv⟩ := hv
  exact z_ireturn dX12_isOne_11 rfl (zbn h11) (Nat.le_refl _) (Nat.le_refl _) hv
abbrev gw_X12_seesOf (d : Nat) (Q : zQt) (pc : Nat) (lv : zV) (st : List Value) (I : zI) (L : zL) (P : zP) : Prop := zW zm_X12_seesOf (zRm d 0 0) 0 0 Q pc lv st I L P 205 0 0
def v_X12_seesOf (d : Nat) (Q : zQt) (p1 : Int32) (I : zI) (L : zL) (P : zP) : Prop :=
  vp_in (((8 : Int32) * (I 160 28)) + p1) 16 ∧
  zMi zm_X12_worldMany d [.ref 160] I L P (fun r6 I2 L3 P4 =>
    Q (some (.int ((I 168 (((8 : Int32) * (I 160 28)) + p1).toNatClampNeg) &&& (r6 - 1) : Int32))) I2 L3 P4 205
  )
set_option maxRecDepth 20000 in
theorem g_X12_seesOf {d : Nat} {Q : zQt} {p1 : Int32} {I : zI} {L : zL} {P : zP} (hP : zPk P) (hv : v_X12_seesOf d Q p1 I L P) : zM zm_X12_seesOf (d + 1) 0 0 [.ref 160, .int p1] I L P 205 Q := by
  unfold v_X12_seesOf at hv
  refine zM_of (lv0 := [some (.ref 160), some (.int p1)]) (by decide +kernel) (Nat.le_of_ble_eq_true rfl) rfl ?_
  refine z_aload_n dX12_seesOf_0 rfl ?_
  refine z_getP dX12_seesOf_1 zf_X12_36 zn_160 zo_160 (fun _ _ _ _ _ => rfl) (hP 160 16 168 zp_160_16) ?_
  refine z_bipush (v := 8) dX12_seesOf_4 (by decide) ?_
  refine z_aload_n dX12_seesOf_6 rfl ?_
  refine z_getI dX12_seesOf_7 zf_X12_261 zn_160 zo_160 (fun _ _ _ _ _ => rfl) ?_
  refine z_imul dX12_seesOf_10 ?_
  refine z_iload_n dX12_seesOf_11 rfl ?_
  refine z_iadd dX12_seesOf_12 ?_
  obtain ⟨h1, hv⟩ := hv
  refine z_iaload dX12_seesOf_13 zn_168 zh_168 h1 ?_
  refine z_aload_n dX12_seesOf_14 rfl ?_
  refine z_callV (As := []) (st := [.int (I 168 (((8 : Int32) * (I 160 28)) + p1).toNatClampNeg)]) dX12_seesOf_15 zl_X12_346 zv_X12_worldMany (by decide) rfl zn_160 zo_160 rfl rfl (Nat.le_of_ble_eq_true rfl) ⟨Nat.le_refl _, Nat.le_refl _⟩ ⟨Nat.le_refl _, Nat.le_refl _⟩ hv (fun v1 I2 L3 P4 nx1 q5 => ?_)
  obtain ⟨rfl, r6, rfl, hv⟩ := q5
  refine z_iconst (v := 1) dX12_seesOf_18 (by decide) ?_
  refine z_isub dX12_seesOf_19 ?_
  refine z_iand dX12_seesOf_20 ?_
  exact z_ireturn dX12_seesOf_21 rfl rfl (Nat.le_refl _) (Nat.le_refl _) hv
abbrev gw_X12_begin (d : Nat) (Q : zQt) (pc : Nat) (lv : zV) (st : List Value) (I : zI) (L : zL) (P : zP) : Prop := zW zm_X12_begin (zRm d 0 0) 0 0 Q pc lv st I L P 205 0 0
def v_X12_begin_2 (d : Nat) (Q : zQt) (x1 : Int32) (I : zI) (L : zL) (P : zP) : Prop :=
  ((256 ≤ x1 →
    ∀ I1 : zI, I1 = zuI I 160 46 0 →
    ∀ I3 : zI, I3 = zuI I1 160 38 0 →
    ∀ I5 : zI, I5 = zuI I3 160 39 0 →
    ∀ I7 : zI, I7 = zuI I5 160 40 0 →
    Q none I7 L P 205
  ) ∧ (¬ 256 ≤ x1 →
    zMi zm_X12_worldMany d [.ref 160] I L P (fun r13 I9 L10 P11 =>
      ((r13 ≤ x1 →
        vp_in x1 256 ∧
        ∀ I16 : zI, I16 = zuI I9 180 x1.toNatClampNeg 0 →
        gw_X12_begin (d + 1) Q 2 [some (.ref 160), some (.int (x1 + 1))] [] I16 L10 P11
      ) ∧ (¬ r13 ≤ x1 →
        vp_in x1 256 ∧
        ∀ I19 : zI, I19 = zuI I9 180 x1.toNatClampNeg 1 →
        gw_X12_begin (d + 1) Q 2 [some (.ref 160), some (.int (x1 + 1))] [] I19 L10 P11
      ))
    )
  ))
set_option maxRecDepth 20000 in
theorem g_X12_begin_2 {d : Nat} {Q : zQt} {x1 : Int32} {I : zI} {L : zL} {P : zP} (hP : zPk P) (hv : v_X12_begin_2 d Q x1 I L P) : gw_X12_begin (d + 1) Q 2 [some (.ref 160), some (.int x1)] [] I L P := by
  unfold v_X12_begin_2 at hv
  refine z_iload_n dX12_begin_2 rfl ?_
  refine z_sipush (v := 256) dX12_begin_3 (by decide) ?_
  refine z_icmp_ge (tgt := 34) dX12_begin_6 (by decide) (fun q21 => ?_) (fun q21 => ?_)
  · have hv := hv.1 q21
    refine z_aload_n dX12_begin_34 rfl ?_
    refine z_iconst (v := 0) dX12_begin_35 (by decide) ?_
    refine z_putI dX12_begin_36 zf_X12_349 zn_160 zo_160 (Or.inl rfl) (fun _ _ _ _ _ => rfl) (by decide) (by decide) (z_nmI (fun I1 e2 => ?_))
    have hv := hv I1 e2
    refine z_aload_n dX12_begin_39 rfl ?_
    refine z_iconst (v := 0) dX12_begin_40 (by decide) ?_
    refine z_putI dX12_begin_41 zf_X12_353 zn_160 zo_160 (Or.inl rfl) (fun _ _ _ _ _ => rfl) rfl rfl (z_nmI (fun I3 e4 => ?_))
    have hv := hv I3 e4
    refine z_aload_n dX12_begin_44 rfl ?_
    refine z_iconst (v := 0) dX12_begin_45 (by decide) ?_
    refine z_putI dX12_begin_46 zf_X12_356 zn_160 zo_160 (Or.inl rfl) (fun _ _ _ _ _ => rfl) rfl rfl (z_nmI (fun I5 e6 => ?_))
    have hv := hv I5 e6
    refine z_aload_n dX12_begin_49 rfl ?_
    refine z_iconst (v := 0) dX12_begin_50 (by decide) ?_
    refine z_putI dX12_begin_51 zf_X12_359 zn_160 zo_160 (Or.inl rfl) (fun _ _ _ _ _ => rfl) rfl rfl (z_nmI (fun I7 e8 => ?_))
    have hv := hv I7 e8
    exact z_return dX12_begin_54 rfl (Nat.le_refl _) (Nat.le_refl _) hv
  · have hv := hv.2 q21
    refine z_aload_n dX12_begin_9 rfl ?_
    refine z_getP dX12_begin_10 zf_X12_74 zn_160 zo_160 (fun _ _ _ _ _ => rfl) (hP 160 35 180 zp_160_35) ?_
    refine z_iload_n dX12_begin_13 rfl ?_
    refine z_iload_n dX12_begin_14 rfl ?_
    refine z_aload_n dX12_begin_15 rfl ?_
    refine z_callV (As := []) (st := [.int x1, .int x1, .ref 180]) dX12_begin_16 zl_X12_346 zv_X12_worldMany (by decide) rfl zn_160 zo_160 rfl rfl (Nat.le_of_ble_eq_true rfl) ⟨Nat.le_refl _, Nat.le_refl _⟩ ⟨Nat.le_refl _, Nat.le_refl _⟩ hv (fun v1 I9 L10 P11 nx1 q12 => ?_)
    obtain ⟨rfl, r13, rfl, hv⟩ := q12
    refine z_icmp_ge (tgt := 26) dX12_begin_19 (by decide) (fun q20 => ?_) (fun q20 => ?_)
    · have hv := hv.1 q20
      refine z_iconst (v := 0) dX12_begin_26 (by decide) ?_
      obtain ⟨h14, hv⟩ := hv
      refine z_zastore (w := 0) dX12_begin_27 zn_180 zh_180 h14 (by decide) (z_nmI (fun I16 e15 => ?_))
      have hv := hv I16 e15
      refine z_iinc (v2 := x1 + 1) (lv2 := [some (.ref 160), some (.int (x1 + 1))]) dX12_begin_28 rfl (by rfl) (by decide) rfl rfl ?_
      refine z_goto (tgt := 2) dX12_begin_31 (by decide) ?_
      exact hv
    · have hv := hv.2 q20
      refine z_iconst (v := 1) dX12_begin_22 (by decide) ?_
      refine z_goto (tgt := 27) dX12_begin_23 (by decide) ?_
      obtain ⟨h17, hv⟩ := hv
      refine z_zastore (w := 1) dX12_begin_27 zn_180 zh_180 h17 (by decide) (z_nmI (fun I19 e18 => ?_))
      have hv := hv I19 e18
      refine z_iinc (v2 := x1 + 1) (lv2 := [some (.ref 160), some (.int (x1 + 1))]) dX12_begin_28 rfl (by rfl) (by decide) rfl rfl ?_
      refine z_goto (tgt := 2) dX12_begin_31 (by decide) ?_
      exact hv
def v_X12_begin (d : Nat) (Q : zQt)  (I : zI) (L : zL) (P : zP) : Prop :=
  gw_X12_begin (d + 1) Q 2 [some (.ref 160), some (.int 0)] [] I L P
set_option maxRecDepth 20000 in
theorem g_X12_begin {d : Nat} {Q : zQt}  {I : zI} {L : zL} {P : zP} (hP : zPk P) (hv : v_X12_begin d Q  I L P) : zM zm_X12_begin (d + 1) 0 0 [.ref 160] I L P 205 Q := by
  unfold v_X12_begin at hv
  refine zM_of (lv0 := [some (.ref 160), none]) (by decide +kernel) (Nat.le_of_ble_eq_true rfl) rfl ?_
  refine z_iconst (v := 0) dX12_begin_0 (by decide) ?_
  refine z_istore_n (lv2 := [some (.ref 160), some (.int 0)]) dX12_begin_1 (by decide) rfl rfl ?_
  exact hv
abbrev gw_X12_areLike (d : Nat) (Q : zQt) (pc : Nat) (lv : zV) (st : List Value) (I : zI) (L : zL) (P : zP) : Prop := zW zm_X12_areLike (zRm d 0 0) 0 0 Q pc lv st I L P 205 0 0
def v_X12_areLike_17 (d : Nat) (Q : zQt) (p1 : Int32) (p2 : Int32) (p3 : Int32) (x4 : Int32) (I : zI) (L : zL) (P : zP) : Prop :=
  (((I 160 38) ≤ x4 →
    Q (some (.int 1)) I L P 205
  ) ∧ (¬ (I 160 38) ≤ x4 →
    vp_in x4 8 ∧
    ((¬ (((I 182 x4.toNatClampNeg) >>> (p1 &&& 31) : Int32) &&& 1 : Int32) = 1 →
      gw_X12_areLike (d + 1) Q 17 [some (.ref 160), some (.int p1), some (.int p2), some (.int p3), some (.int (x4 + 1))] [] I L P
    ) ∧ ((((I 182 x4.toNatClampNeg) >>> (p1 &&& 31) : Int32) &&& 1 : Int32) = 1 →
      vp_in (((256 : Int32) * x4) + p2) 2048 ∧
      vp_in (((256 : Int32) * x4) + p3) 2048 ∧
      (((I 181 (((256 : Int32) * x4) + p2).toNatClampNeg) = (I 181 (((256 : Int32) * x4) + p3).toNatClampNeg) →
        gw_X12_areLike (d + 1) Q 17 [some (.ref 160), some (.int p1), some (.int p2), some (.int p3), some (.int (x4 + 1))] [] I L P
      ) ∧ (¬ (I 181 (((256 : Int32) * x4) + p2).toNatClampNeg) = (I 181 (((256 : Int32) * x4) + p3).toNatClampNeg) →
        Q (some (.int 0)) I L P 205
      ))
    ))
  ))
set_option maxRecDepth 20000 in
theorem g_X12_areLike_17 {d : Nat} {Q : zQt} {p1 : Int32} {p2 : Int32} {p3 : Int32} {x4 : Int32} {I : zI} {L : zL} {P : zP} (hP : zPk P) (hv : v_X12_areLike_17 d Q p1 p2 p3 x4 I L P) : gw_X12_areLike (d + 1) Q 17 [some (.ref 160), some (.int p1), some (.int p2), some (.int p3), some (.int x4)] [] I L P := by
  unfold v_X12_areLike_17 at hv
  refine z_iload dX12_areLike_17 rfl ?_
  refine z_aload_n dX12_areLike_19 rfl ?_
  refine z_getI dX12_areLike_20 zf_X12_353 zn_160 zo_160 (fun _ _ _ _ _ => rfl) ?_
  refine z_icmp_ge (tgt := 78) dX12_areLike_23 (by decide) (fun q12 => ?_) (fun q12 => ?_)
  · have hv := hv.1 q12
    refine z_iconst (v := 1) dX12_areLike_78 (by decide) ?_
    exact z_ireturn dX12_areLike_79 rfl (by decide) (Nat.le_refl _) (Nat.le_refl _) hv
  · have hv := hv.2 q12
    refine z_aload_n dX12_areLike_26 rfl ?_
    refine z_getP dX12_areLike_27 zf_X12_80 zn_160 zo_160 (fun _ _ _ _ _ => rfl) (hP 160 37 182 zp_160_37) ?_
    refine z_iload dX12_areLike_30 rfl ?_
    obtain ⟨h7, hv⟩ := hv
    refine z_iaload dX12_areLike_32 zn_182 zh_182 h7 ?_
    refine z_iload_n dX12_areLike_33 rfl ?_
    refine z_ishr dX12_areLike_34 ?_
    refine z_iconst (v := 1) dX12_areLike_35 (by decide) ?_
    refine z_iand dX12_areLike_36 ?_
    refine z_iconst (v := 1) dX12_areLike_37 (by decide) ?_
    refine z_icmp_ne (tgt := 72) dX12_areLike_38 (by decide) (fun q11 => ?_) (fun q11 => ?_)
    · have hv := hv.1 q11
      refine z_iinc (v2 := x4 + 1) (lv2 := [some (.ref 160), some (.int p1), some (.int p2), some (.int p3), some (.int (x4 + 1))]) dX12_areLike_72 rfl (by rfl) (by decide) rfl rfl ?_
      refine z_goto (tgt := 17) dX12_areLike_75 (by decide) ?_
      exact hv
    · have hv := hv.2 q11
      refine z_aload_n dX12_areLike_41 rfl ?_
      refine z_getP dX12_areLike_42 zf_X12_77 zn_160 zo_160 (fun _ _ _ _ _ => rfl) (hP 160 36 181 zp_160_36) ?_
      refine z_sipush (v := 256) dX12_areLike_45 (by decide) ?_
      refine z_iload dX12_areLike_48 rfl ?_
      refine z_imul dX12_areLike_50 ?_
      refine z_iload_n dX12_areLike_51 rfl ?_
      refine z_iadd dX12_areLike_52 ?_
      obtain ⟨h8, hv⟩ := hv
      refine z_zaload dX12_areLike_53 zn_181 zh_181 h8 ?_
      refine z_aload_n dX12_areLike_54 rfl ?_
      refine z_getP dX12_areLike_55 zf_X12_77 zn_160 zo_160 (fun _ _ _ _ _ => rfl) (hP 160 36 181 zp_160_36) ?_
      refine z_sipush (v := 256) dX12_areLike_58 (by decide) ?_
      refine z_iload dX12_areLike_61 rfl ?_
      refine z_imul dX12_areLike_63 ?_
      refine z_iload_n dX12_areLike_64 rfl ?_
      refine z_iadd dX12_areLike_65 ?_
      obtain ⟨h9, hv⟩ := hv
      refine z_zaload dX12_areLike_66 zn_181 zh_181 h9 ?_
      refine z_icmp_eq (tgt := 72) dX12_areLike_67 (by decide) (fun q10 => ?_) (fun q10 => ?_)
      · have hv := hv.1 q10
        refine z_iinc (v2 := x4 + 1) (lv2 := [some (.ref 160), some (.int p1), some (.int p2), some (.int p3), some (.int (x4 + 1))]) dX12_areLike_72 rfl (by rfl) (by decide) rfl rfl ?_
        refine z_goto (tgt := 17) dX12_areLike_75 (by decide) ?_
        exact hv
      · have hv := hv.2 q10
        refine z_iconst (v := 0) dX12_areLike_70 (by decide) ?_
        exact z_ireturn dX12_areLike_71 rfl (by decide) (Nat.le_refl _) (Nat.le_refl _) hv
def v_X12_areLike (d : Nat) (Q : zQt) (p1 : Int32) (p2 : Int32) (p3 : Int32) (I : zI) (L : zL) (P : zP) : Prop :=
  zMi zm_X12_seesOf d [.ref 160, .int p1] I L P (fun r5 I1 L2 P3 =>
    ((((p2 ^^^ p3 : Int32) &&& r5 : Int32) = 0 →
      gw_X12_areLike (d + 1) Q 17 [some (.ref 160), some (.int p1), some (.int p2), some (.int p3), some (.int 0)] [] I1 L2 P3
    ) ∧ (¬ ((p2 ^^^ p3 : Int32) &&& r5 : Int32) = 0 →
      Q (some (.int 0)) I1 L2 P3 205
    ))
  )
set_option maxRecDepth 20000 in
theorem g_X12_areLike {d : Nat} {Q : zQt} {p1 : Int32} {p2 : Int32} {p3 : Int32} {I : zI} {L : zL} {P : zP} (hP : zPk P) (hv : v_X12_areLike d Q p1 p2 p3 I L P) : zM zm_X12_areLike (d + 1) 0 0 [.ref 160, .int p1, .int p2, .int p3] I L P 205 Q := by
  unfold v_X12_areLike at hv
  refine zM_of (lv0 := [some (.ref 160), some (.int p1), some (.int p2), some (.int p3), none]) (by decide +kernel) (Nat.le_of_ble_eq_true rfl) rfl ?_
  refine z_iload_n dX12_areLike_0 rfl ?_
  refine z_iload_n dX12_areLike_1 rfl ?_
  refine z_ixor dX12_areLike_2 ?_
  refine z_aload_n dX12_areLike_3 rfl ?_
  refine z_iload_n dX12_areLike_4 rfl ?_
  refine z_callV (As := [.int p1]) (st := [.int (p2 ^^^ p3 : Int32)]) dX12_areLike_5 zl_X12_362 zv_X12_seesOf (by decide) rfl zn_160 zo_160 rfl rfl (Nat.le_of_ble_eq_true rfl) ⟨Nat.le_refl _, Nat.le_refl _⟩ ⟨Nat.le_refl _, Nat.le_refl _⟩ hv (fun v1 I1 L2 P3 nx1 q4 => ?_)
  obtain ⟨rfl, r5, rfl, hv⟩ := q4
  refine z_iand dX12_areLike_8 ?_
  refine z_if_eq (tgt := 14) dX12_areLike_9 (by decide) (fun q6 => ?_) (fun q6 => ?_)
  · have hv := hv.1 q6
    refine z_iconst (v := 0) dX12_areLike_14 (by decide) ?_
    refine z_istore (lv2 := [some (.ref 160), some (.int p1), some (.int p2), some (.int p3), some (.int 0)]) dX12_areLike_15 (by decide) rfl rfl ?_
    exact hv
  · have hv := hv.2 q6
    refine z_iconst (v := 0) dX12_areLike_12 (by decide) ?_
    exact z_ireturn dX12_areLike_13 rfl (by decide) (Nat.le_refl _) (Nat.le_refl _) hv
abbrev gw_X12_sees (d : Nat) (Q : zQt) (pc : Nat) (lv : zV) (st : List Value) (I : zI) (L : zL) (P : zP) : Prop := zW zm_X12_sees (zRm d 0 0) 0 0 Q pc lv st I L P 205 0 0
def v_X12_sees (d : Nat) (Q : zQt) (p1 : Int32) (I : zI) (L : zL) (P : zP) : Prop :=
  zMi zm_X12_isOne d [.ref 160, .int p1] I L P (fun r5 I1 L2 P3 =>
    ((r5 = 0 →
      Q (some (.int (-1))) I1 L2 P3 205
    ) ∧ (¬ r5 = 0 →
      zMi zm_X12_seesOf d [.ref 160, .int p1] I1 L2 P3 (fun r10 I6 L7 P8 =>
        Q (some (.int r10)) I6 L7 P8 205
      )
    ))
  )
set_option maxRecDepth 20000 in
theorem g_X12_sees {d : Nat} {Q : zQt} {p1 : Int32} {I : zI} {L : zL} {P : zP} (hP : zPk P) (hv : v_X12_sees d Q p1 I L P) : zM zm_X12_sees (d + 1) 0 0 [.ref 160, .int p1] I L P 205 Q := by
  unfold v_X12_sees at hv
  refine zM_of (lv0 := [some (.ref 160), some (.int p1)]) (by decide +kernel) (Nat.le_of_ble_eq_true rfl) rfl ?_
  refine z_aload_n dX12_sees_0 rfl ?_
  refine z_iload_n dX12_sees_1 rfl ?_
  refine z_callV (As := [.int p1]) (st := []) dX12_sees_2 zl_X12_365 zv_X12_isOne (by decide) rfl zn_160 zo_160 rfl rfl (Nat.le_of_ble_eq_true rfl) ⟨Nat.le_refl _, Nat.le_refl _⟩ ⟨Nat.le_refl _, Nat.le_refl _⟩ hv (fun v1 I1 L2 P3 nx1 q4 => ?_)
  obtain ⟨rfl, r5, rfl, hv⟩ := q4
  refine z_if_eq (tgt := 16) dX12_sees_5 (by decide) (fun q11 => ?_) (fun q11 => ?_)
  · have hv := hv.1 q11
    refine z_iconst (v := (-1)) dX12_sees_16 (by decide) ?_
    exact z_ireturn dX12_sees_17 rfl rfl (Nat.le_refl _) (Nat.le_refl _) hv
  · have hv := hv.2 q11
    refine z_aload_n dX12_sees_8 rfl ?_
    refine z_iload_n dX12_sees_9 rfl ?_
    refine z_callV (As := [.int p1]) (st := []) dX12_sees_10 zl_X12_362 zv_X12_seesOf (by decide) rfl zn_160 zo_160 rfl rfl (Nat.le_of_ble_eq_true rfl) ⟨Nat.le_refl _, Nat.le_refl _⟩ ⟨Nat.le_refl _, Nat.le_refl _⟩ hv (fun v1 I6 L7 P8 nx1 q9 => ?_)
    obtain ⟨rfl, r10, rfl, hv⟩ := q9
    refine z_goto (tgt := 17) dX12_sees_13 (by decide) ?_
    exact z_ireturn dX12_sees_17 rfl rfl (Nat.le_refl _) (Nat.le_refl _) hv
abbrev gw_X12_worlds (d : Nat) (Q : zQt) (pc : Nat) (lv : zV) (st : List Value) (I : zI) (L : zL) (P : zP) : Prop := zW zm_X12_worlds (zRm d 0 0) 0 0 Q pc lv st I L P 205 0 0
def v_X12_worlds_4 (d : Nat) (Q : zQt) (x1 : Int32) (x2 : Int32) (I : zI) (L : zL) (P : zP) : Prop :=
  zMi zm_X12_worldMany d [.ref 160] I L P (fun r5 I1 L2 P3 =>
    ((r5 ≤ x2 →
      Q (some (.int x1)) I1 L2 P3 205
    ) ∧ (¬ r5 ≤ x2 →
      zPk P3 ∧
      vp_in x2 256 ∧
      (((I1 180 x2.toNatClampNeg) = 0 →
        gw_X12_worlds (d + 1) Q 4 [some (.ref 160), some (.int (x1 + 0)), some (.int (x2 + 1))] [] I1 L2 P3
      ) ∧ (¬ (I1 180 x2.toNatClampNeg) = 0 →
        gw_X12_worlds (d + 1) Q 4 [some (.ref 160), some (.int (x1 + 1)), some (.int (x2 + 1))] [] I1 L2 P3
      ))
    ))
  )
set_option maxRecDepth 20000 in
theorem g_X12_worlds_4 {d : Nat} {Q : zQt} {x1 : Int32} {x2 : Int32} {I : zI} {L : zL} {P : zP} (hP : zPk P) (hv : v_X12_worlds_4 d Q x1 x2 I L P) : gw_X12_worlds (d + 1) Q 4 [some (.ref 160), some (.int x1), some (.int x2)] [] I L P := by
  unfold v_X12_worlds_4 at hv
  refine z_iload_n dX12_worlds_4 rfl ?_
  refine z_aload_n dX12_worlds_5 rfl ?_
  refine z_callV (As := []) (st := [.int x2]) dX12_worlds_6 zl_X12_346 zv_X12_worldMany (by decide) rfl zn_160 zo_160 rfl rfl (Nat.le_of_ble_eq_true rfl) ⟨Nat.le_refl _, Nat.le_refl _⟩ ⟨Nat.le_refl _, Nat.le_refl _⟩ hv (fun v1 I1 L2 P3 nx1 q4 => ?_)
  obtain ⟨rfl, r5, rfl, hv⟩ := q4
  refine z_icmp_ge (tgt := 35) dX12_worlds_9 (by decide) (fun q9 => ?_) (fun q9 => ?_)
  · have hv := hv.1 q9
    refine z_iload_n dX12_worlds_35 rfl ?_
    exact z_ireturn dX12_worlds_36 rfl rfl (Nat.le_refl _) (Nat.le_refl _) hv
  · have hv := hv.2 q9
    refine z_iload_n dX12_worlds_12 rfl ?_
    refine z_aload_n dX12_worlds_13 rfl ?_
    obtain ⟨h6, hv⟩ := hv
    refine z_getP dX12_worlds_14 zf_X12_74 zn_160 zo_160 (fun _ _ _ _ _ => rfl) (h6 160 35 180 zp_160_35) ?_
    refine z_iload_n dX12_worlds_17 rfl ?_
    obtain ⟨h7, hv⟩ := hv
    refine z_zaload dX12_worlds_18 zn_180 zh_180 h7 ?_
    refine z_if_eq (tgt := 26) dX12_worlds_19 (by decide) (fun q8 => ?_) (fun q8 => ?_)
    · have hv := hv.1 q8
      refine z_iconst (v := 0) dX12_worlds_26 (by decide) ?_
      refine z_iadd dX12_worlds_27 ?_
      refine z_istore_n (lv2 := [some (.ref 160), some (.int (x1 + 0)), some (.int x2)]) dX12_worlds_28 (by decide) rfl rfl ?_
      refine z_iinc (v2 := x2 + 1) (lv2 := [some (.ref 160), some (.int (x1 + 0)), some (.int (x2 + 1))]) dX12_worlds_29 rfl (by rfl) (by decide) rfl rfl ?_
      refine z_goto (tgt := 4) dX12_worlds_32 (by decide) ?_
      exact hv
    · have hv := hv.2 q8
      refine z_iconst (v := 1) dX12_worlds_22 (by decide) ?_
      refine z_goto (tgt := 27) dX12_worlds_23 (by decide) ?_
      refine z_iadd dX12_worlds_27 ?_
      refine z_istore_n (lv2 := [some (.ref 160), some (.int (x1 + 1)), some (.int x2)]) dX12_worlds_28 (by decide) rfl rfl ?_
      refine z_iinc (v2 := x2 + 1) (lv2 := [some (.ref 160), some (.int (x1 + 1)), some (.int (x2 + 1))]) dX12_worlds_29 rfl (by rfl) (by decide) rfl rfl ?_
      refine z_goto (tgt := 4) dX12_worlds_32 (by decide) ?_
      exact hv
def v_X12_worlds (d : Nat) (Q : zQt)  (I : zI) (L : zL) (P : zP) : Prop :=
  gw_X12_worlds (d + 1) Q 4 [some (.ref 160), some (.int 0), some (.int 0)] [] I L P
set_option maxRecDepth 20000 in
theorem g_X12_worlds {d : Nat} {Q : zQt}  {I : zI} {L : zL} {P : zP} (hP : zPk P) (hv : v_X12_worlds d Q  I L P) : zM zm_X12_worlds (d + 1) 0 0 [.ref 160] I L P 205 Q := by
  unfold v_X12_worlds at hv
  refine zM_of (lv0 := [some (.ref 160), none, none]) (by decide +kernel) (Nat.le_of_ble_eq_true rfl) rfl ?_
  refine z_iconst (v := 0) dX12_worlds_0 (by decide) ?_
  refine z_istore_n (lv2 := [some (.ref 160), some (.int 0), none]) dX12_worlds_1 (by decide) rfl rfl ?_
  refine z_iconst (v := 0) dX12_worlds_2 (by decide) ?_
  refine z_istore_n (lv2 := [some (.ref 160), some (.int 0), some (.int 0)]) dX12_worlds_3 (by decide) rfl rfl ?_
  exact hv
abbrev gw_X12_isWorld (d : Nat) (Q : zQt) (pc : Nat) (lv : zV) (st : List Value) (I : zI) (L : zL) (P : zP) : Prop := zW zm_X12_isWorld (zRm d 0 0) 0 0 Q pc lv st I L P 205 0 0
def v_X12_isWorld (d : Nat) (Q : zQt) (p1 : Int32) (I : zI) (L : zL) (P : zP) : Prop :=
  zMi zm_X12_worldMany d [.ref 160] I L P (fun r5 I1 L2 P3 =>
    zMi zm_X12_isIn d [.int p1, .int 0, .int (r5 - 1)] I1 L2 P3 (fun r10 I6 L7 P8 =>
      (r10 = 0 ∨ r10 = 1) ∧
      Q (some (.int r10)) I6 L7 P8 205
    )
  )
set_option maxRecDepth 20000 in
theorem g_X12_isWorld {d : Nat} {Q : zQt} {p1 : Int32} {I : zI} {L : zL} {P : zP} (hP : zPk P) (hv : v_X12_isWorld d Q p1 I L P) : zM zm_X12_isWorld (d + 1) 0 0 [.ref 160, .int p1] I L P 205 Q := by
  unfold v_X12_isWorld at hv
  refine zM_of (lv0 := [some (.ref 160), some (.int p1)]) (by decide +kernel) (Nat.le_of_ble_eq_true rfl) rfl ?_
  refine z_iload_n dX12_isWorld_0 rfl ?_
  refine z_iconst (v := 0) dX12_isWorld_1 (by decide) ?_
  refine z_aload_n dX12_isWorld_2 rfl ?_
  refine z_callV (As := []) (st := [.int 0, .int p1]) dX12_isWorld_3 zl_X12_346 zv_X12_worldMany (by decide) rfl zn_160 zo_160 rfl rfl (Nat.le_of_ble_eq_true rfl) ⟨Nat.le_refl _, Nat.le_refl _⟩ ⟨Nat.le_refl _, Nat.le_refl _⟩ hv (fun v1 I1 L2 P3 nx1 q4 => ?_)
  obtain ⟨rfl, r5, rfl, hv⟩ := q4
  refine z_iconst (v := 1) dX12_isWorld_6 (by decide) ?_
  refine z_isub dX12_isWorld_7 ?_
  refine z_callS (As := [.int p1, .int 0, .int (r5 - 1)]) (st := []) dX12_isWorld_8 zl_X12_342 zs_X12_isIn rfl rfl (Nat.le_of_ble_eq_true rfl) ⟨Nat.le_refl _, Nat.le_refl _⟩ ⟨Nat.le_refl _, Nat.le_refl _⟩ hv (fun v1 I6 L7 P8 nx1 q9 => ?_)
  obtain ⟨rfl, r10, rfl, hv⟩ := q9
  obtain ⟨h11, hv⟩ := hv
  exact z_ireturn dX12_isWorld_11 rfl (zbn h11) (Nat.le_refl _) (Nat.le_refl _) hv
abbrev gw_X12_possible (d : Nat) (Q : zQt) (pc : Nat) (lv : zV) (st : List Value) (I : zI) (L : zL) (P : zP) : Prop := zW zm_X12_possible (zRm d 0 0) 0 0 Q pc lv st I L P 205 0 0
def v_X12_possible (d : Nat) (Q : zQt) (p1 : Int32) (I : zI) (L : zL) (P : zP) : Prop :=
  zMi zm_X12_isWorld d [.ref 160, .int p1] I L P (fun r5 I1 L2 P3 =>
    ((¬ r5 = 0 →
      zPk P3 ∧
      vp_in p1 256 ∧
      (((I1 180 p1.toNatClampNeg) = 0 →
        Q (some (.int 0)) I1 L2 P3 205
      ) ∧ (¬ (I1 180 p1.toNatClampNeg) = 0 →
        Q (some (.int 1)) I1 L2 P3 205
      ))
    ) ∧ (r5 = 0 →
      Q (some (.int (-1))) I1 L2 P3 205
    ))
  )
set_option maxRecDepth 20000 in
theorem g_X12_possible {d : Nat} {Q : zQt} {p1 : Int32} {I : zI} {L : zL} {P : zP} (hP : zPk P) (hv : v_X12_possible d Q p1 I L P) : zM zm_X12_possible (d + 1) 0 0 [.ref 160, .int p1] I L P 205 Q := by
  unfold v_X12_possible at hv
  refine zM_of (lv0 := [some (.ref 160), some (.int p1)]) (by decide +kernel) (Nat.le_of_ble_eq_true rfl) rfl ?_
  refine z_aload_n dX12_possible_0 rfl ?_
  refine z_iload_n dX12_possible_1 rfl ?_
  refine z_callV (As := [.int p1]) (st := []) dX12_possible_2 zl_X12_368 zv_X12_isWorld (by decide) rfl zn_160 zo_160 rfl rfl (Nat.le_of_ble_eq_true rfl) ⟨Nat.le_refl _, Nat.le_refl _⟩ ⟨Nat.le_refl _, Nat.le_refl _⟩ hv (fun v1 I1 L2 P3 nx1 q4 => ?_)
  obtain ⟨rfl, r5, rfl, hv⟩ := q4
  refine z_if_ne (tgt := 12) dX12_possible_5 (by decide) (fun q9 => ?_) (fun q9 => ?_)
  · have hv := hv.1 q9
    refine z_aload_n dX12_possible_12 rfl ?_
    obtain ⟨h6, hv⟩ := hv
    refine z_getP dX12_possible_13 zf_X12_74 zn_160 zo_160 (fun _ _ _ _ _ => rfl) (h6 160 35 180 zp_160_35) ?_
    refine z_iload_n dX12_possible_16 rfl ?_
    obtain ⟨h7, hv⟩ := hv
    refine z_zaload dX12_possible_17 zn_180 zh_180 h7 ?_
    refine z_if_eq (tgt := 25) dX12_possible_18 (by decide) (fun q8 => ?_) (fun q8 => ?_)
    · have hv := hv.1 q8
      refine z_iconst (v := 0) dX12_possible_25 (by decide) ?_
      exact z_ireturn dX12_possible_26 rfl rfl (Nat.le_refl _) (Nat.le_refl _) hv
    · have hv := hv.2 q8
      refine z_iconst (v := 1) dX12_possible_21 (by decide) ?_
      refine z_goto (tgt := 26) dX12_possible_22 (by decide) ?_
      exact z_ireturn dX12_possible_26 rfl rfl (Nat.le_refl _) (Nat.le_refl _) hv
  · have hv := hv.2 q9
    refine z_iconst (v := (-1)) dX12_possible_8 (by decide) ?_
    refine z_goto (tgt := 26) dX12_possible_9 (by decide) ?_
    exact z_ireturn dX12_possible_26 rfl rfl (Nat.le_refl _) (Nat.le_refl _) hv
abbrev gw_X12_like (d : Nat) (Q : zQt) (pc : Nat) (lv : zV) (st : List Value) (I : zI) (L : zL) (P : zP) : Prop := zW zm_X12_like (zRm d 0 0) 0 0 Q pc lv st I L P 205 0 0
def v_X12_like (d : Nat) (Q : zQt) (p1 : Int32) (p2 : Int32) (p3 : Int32) (I : zI) (L : zL) (P : zP) : Prop :=
  zMi zm_X12_isOne d [.ref 160, .int p1] I L P (fun r5 I1 L2 P3 =>
    ((r5 = 0 →
      Q (some (.int (-1))) I1 L2 P3 205
    ) ∧ (¬ r5 = 0 →
      zMi zm_X12_isWorld d [.ref 160, .int p2] I1 L2 P3 (fun r10 I6 L7 P8 =>
        ((r10 = 0 →
          Q (some (.int (-1))) I6 L7 P8 205
        ) ∧ (¬ r10 = 0 →
          zMi zm_X12_isWorld d [.ref 160, .int p3] I6 L7 P8 (fun r15 I11 L12 P13 =>
            ((r15 = 0 →
              Q (some (.int (-1))) I11 L12 P13 205
            ) ∧ (¬ r15 = 0 →
              zPk P13 ∧
              vp_in p2 256 ∧
              (((I11 180 p2.toNatClampNeg) = 0 →
                Q (some (.int (-1))) I11 L12 P13 205
              ) ∧ (¬ (I11 180 p2.toNatClampNeg) = 0 →
                vp_in p3 256 ∧
                ((¬ (I11 180 p3.toNatClampNeg) = 0 →
                  zMi zm_X12_areLike d [.ref 160, .int p1, .int p2, .int p3] I11 L12 P13 (fun r23 I19 L20 P21 =>
                    ((r23 = 0 →
                      Q (some (.int 0)) I19 L20 P21 205
                    ) ∧ (¬ r23 = 0 →
                      Q (some (.int 1)) I19 L20 P21 205
                    ))
                  )
                ) ∧ ((I11 180 p3.toNatClampNeg) = 0 →
                  Q (some (.int (-1))) I11 L12 P13 205
                ))
              ))
            ))
          )
        ))
      )
    ))
  )
set_option maxRecDepth 20000 in
theorem g_X12_like {d : Nat} {Q : zQt} {p1 : Int32} {p2 : Int32} {p3 : Int32} {I : zI} {L : zL} {P : zP} (hP : zPk P) (hv : v_X12_like d Q p1 p2 p3 I L P) : zM zm_X12_like (d + 1) 0 0 [.ref 160, .int p1, .int p2, .int p3] I L P 205 Q := by
  unfold v_X12_like at hv
  refine zM_of (lv0 := [some (.ref 160), some (.int p1), some (.int p2), some (.int p3)]) (by decide +kernel) (Nat.le_of_ble_eq_true rfl) rfl ?_
  refine z_aload_n dX12_like_0 rfl ?_
  refine z_iload_n dX12_like_1 rfl ?_
  refine z_callV (As := [.int p1]) (st := []) dX12_like_2 zl_X12_365 zv_X12_isOne (by decide) rfl zn_160 zo_160 rfl rfl (Nat.le_of_ble_eq_true rfl) ⟨Nat.le_refl _, Nat.le_refl _⟩ ⟨Nat.le_refl _, Nat.le_refl _⟩ hv (fun v1 I1 L2 P3 nx1 q4 => ?_)
  obtain ⟨rfl, r5, rfl, hv⟩ := q4
  refine z_if_eq (tgt := 42) dX12_like_5 (by decide) (fun q29 => ?_) (fun q29 => ?_)
  · have hv := hv.1 q29
    refine z_iconst (v := (-1)) dX12_like_42 (by decide) ?_
    refine z_goto (tgt := 61) dX12_like_43 (by decide) ?_
    exact z_ireturn dX12_like_61 rfl rfl (Nat.le_refl _) (Nat.le_refl _) hv
  · have hv := hv.2 q29
    refine z_aload_n dX12_like_8 rfl ?_
    refine z_iload_n dX12_like_9 rfl ?_
    refine z_callV (As := [.int p2]) (st := []) dX12_like_10 zl_X12_368 zv_X12_isWorld (by decide) rfl zn_160 zo_160 rfl rfl (Nat.le_of_ble_eq_true rfl) ⟨Nat.le_refl _, Nat.le_refl _⟩ ⟨Nat.le_refl _, Nat.le_refl _⟩ hv (fun v1 I6 L7 P8 nx1 q9 => ?_)
    obtain ⟨rfl, r10, rfl, hv⟩ := q9
    refine z_if_eq (tgt := 42) dX12_like_13 (by decide) (fun q28 => ?_) (fun q28 => ?_)
    · have hv := hv.1 q28
      refine z_iconst (v := (-1)) dX12_like_42 (by decide) ?_
      refine z_goto (tgt := 61) dX12_like_43 (by decide) ?_
      exact z_ireturn dX12_like_61 rfl rfl (Nat.le_refl _) (Nat.le_refl _) hv
    · have hv := hv.2 q28
      refine z_aload_n dX12_like_16 rfl ?_
      refine z_iload_n dX12_like_17 rfl ?_
      refine z_callV (As := [.int p3]) (st := []) dX12_like_18 zl_X12_368 zv_X12_isWorld (by decide) rfl zn_160 zo_160 rfl rfl (Nat.le_of_ble_eq_true rfl) ⟨Nat.le_refl _, Nat.le_refl _⟩ ⟨Nat.le_refl _, Nat.le_refl _⟩ hv (fun v1 I11 L12 P13 nx1 q14 => ?_)
      obtain ⟨rfl, r15, rfl, hv⟩ := q14
      refine z_if_eq (tgt := 42) dX12_like_21 (by decide) (fun q27 => ?_) (fun q27 => ?_)
      · have hv := hv.1 q27
        refine z_iconst (v := (-1)) dX12_like_42 (by decide) ?_
        refine z_goto (tgt := 61) dX12_like_43 (by decide) ?_
        exact z_ireturn dX12_like_61 rfl rfl (Nat.le_refl _) (Nat.le_refl _) hv
      · have hv := hv.2 q27
        refine z_aload_n dX12_like_24 rfl ?_
        obtain ⟨h16, hv⟩ := hv
        refine z_getP dX12_like_25 zf_X12_74 zn_160 zo_160 (fun _ _ _ _ _ => rfl) (h16 160 35 180 zp_160_35) ?_
        refine z_iload_n dX12_like_28 rfl ?_
        obtain ⟨h17, hv⟩ := hv
        refine z_zaload dX12_like_29 zn_180 zh_180 h17 ?_
        refine z_if_eq (tgt := 42) dX12_like_30 (by decide) (fun q26 => ?_) (fun q26 => ?_)
        · have hv := hv.1 q26
          refine z_iconst (v := (-1)) dX12_like_42 (by decide) ?_
          refine z_goto (tgt := 61) dX12_like_43 (by decide) ?_
          exact z_ireturn dX12_like_61 rfl rfl (Nat.le_refl _) (Nat.le_refl _) hv
        · have hv := hv.2 q26
          refine z_aload_n dX12_like_33 rfl ?_
          refine z_getP dX12_like_34 zf_X12_74 zn_160 zo_160 (fun _ _ _ _ _ => rfl) (h16 160 35 180 zp_160_35) ?_
          refine z_iload_n dX12_like_37 rfl ?_
          obtain ⟨h18, hv⟩ := hv
          refine z_zaload dX12_like_38 zn_180 zh_180 h18 ?_
          refine z_if_ne (tgt := 46) dX12_like_39 (by decide) (fun q25 => ?_) (fun q25 => ?_)
          · have hv := hv.1 q25
            refine z_aload_n dX12_like_46 rfl ?_
            refine z_iload_n dX12_like_47 rfl ?_
            refine z_iload_n dX12_like_48 rfl ?_
            refine z_iload_n dX12_like_49 rfl ?_
            refine z_callV (As := [.int p1, .int p2, .int p3]) (st := []) dX12_like_50 zl_X12_371 zv_X12_areLike (by decide) rfl zn_160 zo_160 rfl rfl (Nat.le_of_ble_eq_true rfl) ⟨Nat.le_refl _, Nat.le_refl _⟩ ⟨Nat.le_refl _, Nat.le_refl _⟩ hv (fun v1 I19 L20 P21 nx1 q22 => ?_)
            obtain ⟨rfl, r23, rfl, hv⟩ := q22
            refine z_if_eq (tgt := 60) dX12_like_53 (by decide) (fun q24 => ?_) (fun q24 => ?_)
            · have hv := hv.1 q24
              refine z_iconst (v := 0) dX12_like_60 (by decide) ?_
              exact z_ireturn dX12_like_61 rfl rfl (Nat.le_refl _) (Nat.le_refl _) hv
            · have hv := hv.2 q24
              refine z_iconst (v := 1) dX12_like_56 (by decide) ?_
              refine z_goto (tgt := 61) dX12_like_57 (by decide) ?_
              exact z_ireturn dX12_like_61 rfl rfl (Nat.le_refl _) (Nat.le_refl _) hv
          · have hv := hv.2 q25
            refine z_iconst (v := (-1)) dX12_like_42 (by decide) ?_
            refine z_goto (tgt := 61) dX12_like_43 (by decide) ?_
            exact z_ireturn dX12_like_61 rfl rfl (Nat.le_refl _) (Nat.le_refl _) hv
abbrev gw_X12_doesKnow (d : Nat) (Q : zQt) (pc : Nat) (lv : zV) (st : List Value) (I : zI) (L : zL) (P : zP) : Prop := zW zm_X12_doesKnow (zRm d 0 0) 0 0 Q pc lv st I L P 205 0 0
def v_X12_doesKnow_3 (d : Nat) (Q : zQt) (p1 : Int32) (p2 : Int32) (p3 : Int32) (x4 : Int32) (I : zI) (L : zL) (P : zP) : Prop :=
  zMi zm_X12_worldMany d [.ref 160] I L P (fun r5 I1 L2 P3 =>
    ((r5 ≤ x4 →
      Q (some (.int 1)) I1 L2 P3 205
    ) ∧ (¬ r5 ≤ x4 →
      zPk P3 ∧
      vp_in x4 256 ∧
      (((I1 180 x4.toNatClampNeg) = 0 →
        gw_X12_doesKnow (d + 1) Q 3 [some (.ref 160), some (.int p1), some (.int p2), some (.int p3), some (.int (x4 + 1))] [] I1 L2 P3
      ) ∧ (¬ (I1 180 x4.toNatClampNeg) = 0 →
        vp_in (p3 + x4) 12288 ∧
        ((¬ (I1 183 (p3 + x4).toNatClampNeg) = 0 →
          gw_X12_doesKnow (d + 1) Q 3 [some (.ref 160), some (.int p1), some (.int p2), some (.int p3), some (.int (x4 + 1))] [] I1 L2 P3
        ) ∧ ((I1 183 (p3 + x4).toNatClampNeg) = 0 →
          zMi zm_X12_areLike d [.ref 160, .int p1, .int p2, .int x4] I1 L2 P3 (fun r13 I9 L10 P11 =>
            ((r13 = 0 →
              gw_X12_doesKnow (d + 1) Q 3 [some (.ref 160), some (.int p1), some (.int p2), some (.int p3), some (.int (x4 + 1))] [] I9 L10 P11
            ) ∧ (¬ r13 = 0 →
              Q (some (.int 0)) I9 L10 P11 205
            ))
          )
        ))
      ))
    ))
  )
set_option maxRecDepth 20000 in
theorem g_X12_doesKnow_3 {d : Nat} {Q : zQt} {p1 : Int32} {p2 : Int32} {p3 : Int32} {x4 : Int32} {I : zI} {L : zL} {P : zP} (hP : zPk P) (hv : v_X12_doesKnow_3 d Q p1 p2 p3 x4 I L P) : gw_X12_doesKnow (d + 1) Q 3 [some (.ref 160), some (.int p1), some (.int p2), some (.int p3), some (.int x4)] [] I L P := by
  unfold v_X12_doesKnow_3 at hv
  refine z_iload dX12_doesKnow_3 rfl ?_
  refine z_aload_n dX12_doesKnow_5 rfl ?_
  refine z_callV (As := []) (st := [.int x4]) dX12_doesKnow_6 zl_X12_346 zv_X12_worldMany (by decide) rfl zn_160 zo_160 rfl rfl (Nat.le_of_ble_eq_true rfl) ⟨Nat.le_refl _, Nat.le_refl _⟩ ⟨Nat.le_refl _, Nat.le_refl _⟩ hv (fun v1 I1 L2 P3 nx1 q4 => ?_)
  obtain ⟨rfl, r5, rfl, hv⟩ := q4
  refine z_icmp_ge (tgt := 53) dX12_doesKnow_9 (by decide) (fun q17 => ?_) (fun q17 => ?_)
  · have hv := hv.1 q17
    refine z_iconst (v := 1) dX12_doesKnow_53 (by decide) ?_
    exact z_ireturn dX12_doesKnow_54 rfl (by decide) (Nat.le_refl _) (Nat.le_refl _) hv
  · have hv := hv.2 q17
    refine z_aload_n dX12_doesKnow_12 rfl ?_
    obtain ⟨h6, hv⟩ := hv
    refine z_getP dX12_doesKnow_13 zf_X12_74 zn_160 zo_160 (fun _ _ _ _ _ => rfl) (h6 160 35 180 zp_160_35) ?_
    refine z_iload dX12_doesKnow_16 rfl ?_
    obtain ⟨h7, hv⟩ := hv
    refine z_zaload dX12_doesKnow_18 zn_180 zh_180 h7 ?_
    refine z_if_eq (tgt := 47) dX12_doesKnow_19 (by decide) (fun q16 => ?_) (fun q16 => ?_)
    · have hv := hv.1 q16
      refine z_iinc (v2 := x4 + 1) (lv2 := [some (.ref 160), some (.int p1), some (.int p2), some (.int p3), some (.int (x4 + 1))]) dX12_doesKnow_47 rfl (by rfl) (by decide) rfl rfl ?_
      refine z_goto (tgt := 3) dX12_doesKnow_50 (by decide) ?_
      exact hv
    · have hv := hv.2 q16
      refine z_aload_n dX12_doesKnow_22 rfl ?_
      refine z_getP dX12_doesKnow_23 zf_X12_83 zn_160 zo_160 (fun _ _ _ _ _ => rfl) (h6 160 41 183 zp_160_41) ?_
      refine z_iload_n dX12_doesKnow_26 rfl ?_
      refine z_iload dX12_doesKnow_27 rfl ?_
      refine z_iadd dX12_doesKnow_29 ?_
      obtain ⟨h8, hv⟩ := hv
      refine z_iaload dX12_doesKnow_30 zn_183 zh_183 h8 ?_
      refine z_if_ne (tgt := 47) dX12_doesKnow_31 (by decide) (fun q15 => ?_) (fun q15 => ?_)
      · have hv := hv.1 q15
        refine z_iinc (v2 := x4 + 1) (lv2 := [some (.ref 160), some (.int p1), some (.int p2), some (.int p3), some (.int (x4 + 1))]) dX12_doesKnow_47 rfl (by rfl) (by decide) rfl rfl ?_
        refine z_goto (tgt := 3) dX12_doesKnow_50 (by decide) ?_
        exact hv
      · have hv := hv.2 q15
        refine z_aload_n dX12_doesKnow_34 rfl ?_
        refine z_iload_n dX12_doesKnow_35 rfl ?_
        refine z_iload_n dX12_doesKnow_36 rfl ?_
        refine z_iload dX12_doesKnow_37 rfl ?_
        refine z_callV (As := [.int p1, .int p2, .int x4]) (st := []) dX12_doesKnow_39 zl_X12_371 zv_X12_areLike (by decide) rfl zn_160 zo_160 rfl rfl (Nat.le_of_ble_eq_true rfl) ⟨Nat.le_refl _, Nat.le_refl _⟩ ⟨Nat.le_refl _, Nat.le_refl _⟩ hv (fun v1 I9 L10 P11 nx1 q12 => ?_)
        obtain ⟨rfl, r13, rfl, hv⟩ := q12
        refine z_if_eq (tgt := 47) dX12_doesKnow_42 (by decide) (fun q14 => ?_) (fun q14 => ?_)
        · have hv := hv.1 q14
          refine z_iinc (v2 := x4 + 1) (lv2 := [some (.ref 160), some (.int p1), some (.int p2), some (.int p3), some (.int (x4 + 1))]) dX12_doesKnow_47 rfl (by rfl) (by decide) rfl rfl ?_
          refine z_goto (tgt := 3) dX12_doesKnow_50 (by decide) ?_
          exact hv
        · have hv := hv.2 q14
          refine z_iconst (v := 0) dX12_doesKnow_45 (by decide) ?_
          exact z_ireturn dX12_doesKnow_46 rfl (by decide) (Nat.le_refl _) (Nat.le_refl _) hv
def v_X12_doesKnow (d : Nat) (Q : zQt) (p1 : Int32) (p2 : Int32) (p3 : Int32) (I : zI) (L : zL) (P : zP) : Prop :=
  gw_X12_doesKnow (d + 1) Q 3 [some (.ref 160), some (.int p1), some (.int p2), some (.int p3), some (.int 0)] [] I L P
set_option maxRecDepth 20000 in
theorem g_X12_doesKnow {d : Nat} {Q : zQt} {p1 : Int32} {p2 : Int32} {p3 : Int32} {I : zI} {L : zL} {P : zP} (hP : zPk P) (hv : v_X12_doesKnow d Q p1 p2 p3 I L P) : zM zm_X12_doesKnow (d + 1) 0 0 [.ref 160, .int p1, .int p2, .int p3] I L P 205 Q := by
  unfold v_X12_doesKnow at hv
  refine zM_of (lv0 := [some (.ref 160), some (.int p1), some (.int p2), some (.int p3), none]) (by decide +kernel) (Nat.le_of_ble_eq_true rfl) rfl ?_
  refine z_iconst (v := 0) dX12_doesKnow_0 (by decide) ?_
  refine z_istore (lv2 := [some (.ref 160), some (.int p1), some (.int p2), some (.int p3), some (.int 0)]) dX12_doesKnow_1 (by decide) rfl rfl ?_
  exact hv
abbrev gw_X12_knowsOf (d : Nat) (Q : zQt) (pc : Nat) (lv : zV) (st : List Value) (I : zI) (L : zL) (P : zP) : Prop := zW zm_X12_knowsOf (zRm d 0 0) 0 0 Q pc lv st I L P 205 0 0
def v_X12_knowsOf_48 (d : Nat) (Q : zQt) (p2 : Int32) (x3 : Int32) (I : zI) (L : zL) (P : zP) : Prop :=
  zMi zm_X12_worldMany d [.ref 160] I L P (fun r26 I22 L23 P24 =>
    ((r26 ≤ x3 →
      Q none I22 L23 P24 205
    ) ∧ (¬ r26 ≤ x3 →
      zPk P24 ∧
      vp_in x3 256 ∧
      vp_in (p2 + x3) 12288 ∧
      ∀ I31 : zI, I31 = zuI I22 183 (p2 + x3).toNatClampNeg (I22 185 x3.toNatClampNeg) →
      gw_X12_knowsOf (d + 1) Q 48 [some (.ref 160), none, some (.int p2), some (.int (x3 + 1))] [] I31 L23 P24
    ))
  )
set_option maxRecDepth 20000 in
theorem g_X12_knowsOf_48 {d : Nat} {Q : zQt} {p2 : Int32} {x3 : Int32} {I : zI} {L : zL} {P : zP} (hP : zPk P) (hv : v_X12_knowsOf_48 d Q p2 x3 I L P) : gw_X12_knowsOf (d + 1) Q 48 [some (.ref 160), none, some (.int p2), some (.int x3)] [] I L P := by
  unfold v_X12_knowsOf_48 at hv
  refine z_iload_n dX12_knowsOf_48 rfl ?_
  refine z_aload_n dX12_knowsOf_49 rfl ?_
  refine z_callV (As := []) (st := [.int x3]) dX12_knowsOf_50 zl_X12_346 zv_X12_worldMany (by decide) rfl zn_160 zo_160 rfl rfl (Nat.le_of_ble_eq_true rfl) ⟨Nat.le_refl _, Nat.le_refl _⟩ ⟨Nat.le_refl _, Nat.le_refl _⟩ hv (fun v1 I22 L23 P24 nx1 q25 => ?_)
  obtain ⟨rfl, r26, rfl, hv⟩ := q25
  refine z_icmp_ge (tgt := 76) dX12_knowsOf_53 (by decide) (fun q32 => ?_) (fun q32 => ?_)
  · have hv := hv.1 q32
    exact z_return dX12_knowsOf_76 rfl (Nat.le_refl _) (Nat.le_refl _) hv
  · have hv := hv.2 q32
    refine z_aload_n dX12_knowsOf_56 rfl ?_
    obtain ⟨h27, hv⟩ := hv
    refine z_getP dX12_knowsOf_57 zf_X12_83 zn_160 zo_160 (fun _ _ _ _ _ => rfl) (h27 160 41 183 zp_160_41) ?_
    refine z_iload_n dX12_knowsOf_60 rfl ?_
    refine z_iload_n dX12_knowsOf_61 rfl ?_
    refine z_iadd dX12_knowsOf_62 ?_
    refine z_aload_n dX12_knowsOf_63 rfl ?_
    refine z_getP dX12_knowsOf_64 zf_X12_89 zn_160 zo_160 (fun _ _ _ _ _ => rfl) (h27 160 43 185 zp_160_43) ?_
    refine z_iload_n dX12_knowsOf_67 rfl ?_
    obtain ⟨h28, hv⟩ := hv
    refine z_iaload dX12_knowsOf_68 zn_185 zh_185 h28 ?_
    obtain ⟨h29, hv⟩ := hv
    refine z_iastore dX12_knowsOf_69 zn_183 zh_183 h29 (z_nmI (fun I31 e30 => ?_))
    have hv := hv I31 e30
    refine z_iinc (v2 := x3 + 1) (lv2 := [some (.ref 160), none, some (.int p2), some (.int (x3 + 1))]) dX12_knowsOf_70 rfl (by rfl) (by decide) rfl rfl ?_
    refine z_goto (tgt := 48) dX12_knowsOf_73 (by decide) ?_
    exact hv
def v_X12_knowsOf_2 (d : Nat) (Q : zQt) (p1 : Int32) (p2 : Int32) (x3 : Int32) (I : zI) (L : zL) (P : zP) : Prop :=
  zMi zm_X12_worldMany d [.ref 160] I L P (fun r5 I1 L2 P3 =>
    ((r5 ≤ x3 →
      gw_X12_knowsOf (d + 1) Q 48 [some (.ref 160), none, some (.int p2), some (.int 0)] [] I1 L2 P3
    ) ∧ (¬ r5 ≤ x3 →
      zPk P3 ∧
      vp_in x3 256 ∧
      (((I1 180 x3.toNatClampNeg) = 0 →
        ∀ I9 : zI, I9 = zuI I1 185 x3.toNatClampNeg 0 →
        gw_X12_knowsOf (d + 1) Q 2 [some (.ref 160), some (.int p1), some (.int p2), some (.int (x3 + 1))] [] I9 L2 P3
      ) ∧ (¬ (I1 180 x3.toNatClampNeg) = 0 →
        zMi zm_X12_doesKnow d [.ref 160, .int p1, .int x3, .int p2] I1 L2 P3 (fun r14 I10 L11 P12 =>
          ((r14 = 0 →
            ∀ I16 : zI, I16 = zuI I10 185 x3.toNatClampNeg 0 →
            gw_X12_knowsOf (d + 1) Q 2 [some (.ref 160), some (.int p1), some (.int p2), some (.int (x3 + 1))] [] I16 L11 P12
          ) ∧ (¬ r14 = 0 →
            ∀ I18 : zI, I18 = zuI I10 185 x3.toNatClampNeg 1 →
            gw_X12_knowsOf (d + 1) Q 2 [some (.ref 160), some (.int p1), some (.int p2), some (.int (x3 + 1))] [] I18 L11 P12
          ))
        )
      ))
    ))
  )
set_option maxRecDepth 20000 in
theorem g_X12_knowsOf_2 {d : Nat} {Q : zQt} {p1 : Int32} {p2 : Int32} {x3 : Int32} {I : zI} {L : zL} {P : zP} (hP : zPk P) (hv : v_X12_knowsOf_2 d Q p1 p2 x3 I L P) : gw_X12_knowsOf (d + 1) Q 2 [some (.ref 160), some (.int p1), some (.int p2), some (.int x3)] [] I L P := by
  unfold v_X12_knowsOf_2 at hv
  refine z_iload_n dX12_knowsOf_2 rfl ?_
  refine z_aload_n dX12_knowsOf_3 rfl ?_
  refine z_callV (As := []) (st := [.int x3]) dX12_knowsOf_4 zl_X12_346 zv_X12_worldMany (by decide) rfl zn_160 zo_160 rfl rfl (Nat.le_of_ble_eq_true rfl) ⟨Nat.le_refl _, Nat.le_refl _⟩ ⟨Nat.le_refl _, Nat.le_refl _⟩ hv (fun v1 I1 L2 P3 nx1 q4 => ?_)
  obtain ⟨rfl, r5, rfl, hv⟩ := q4
  refine z_icmp_ge (tgt := 46) dX12_knowsOf_7 (by decide) (fun q21 => ?_) (fun q21 => ?_)
  · have hv := hv.1 q21
    refine z_iconst (v := 0) dX12_knowsOf_46 (by decide) ?_
    refine z_istore_n (lv2 := [some (.ref 160), some (.int p1), some (.int p2), some (.int 0)]) dX12_knowsOf_47 (by decide) rfl rfl ?_
    exact z_sub (by exact ⟨rfl, ⟨rfl, ⟨rfl, trivial⟩⟩⟩) hv
  · have hv := hv.2 q21
    refine z_aload_n dX12_knowsOf_10 rfl ?_
    obtain ⟨h6, hv⟩ := hv
    refine z_getP dX12_knowsOf_11 zf_X12_89 zn_160 zo_160 (fun _ _ _ _ _ => rfl) (h6 160 43 185 zp_160_43) ?_
    refine z_iload_n dX12_knowsOf_14 rfl ?_
    refine z_aload_n dX12_knowsOf_15 rfl ?_
    refine z_getP dX12_knowsOf_16 zf_X12_74 zn_160 zo_160 (fun _ _ _ _ _ => rfl) (h6 160 35 180 zp_160_35) ?_
    refine z_iload_n dX12_knowsOf_19 rfl ?_
    obtain ⟨h7, hv⟩ := hv
    refine z_zaload dX12_knowsOf_20 zn_180 zh_180 h7 ?_
    refine z_if_eq (tgt := 38) dX12_knowsOf_21 (by decide) (fun q20 => ?_) (fun q20 => ?_)
    · have hv := hv.1 q20
      refine z_iconst (v := 0) dX12_knowsOf_38 (by decide) ?_
      refine z_iastore dX12_knowsOf_39 zn_185 zh_185 h7 (z_nmI (fun I9 e8 => ?_))
      have hv := hv I9 e8
      refine z_iinc (v2 := x3 + 1) (lv2 := [some (.ref 160), some (.int p1), some (.int p2), some (.int (x3 + 1))]) dX12_knowsOf_40 rfl (by rfl) (by decide) rfl rfl ?_
      refine z_goto (tgt := 2) dX12_knowsOf_43 (by decide) ?_
      exact hv
    · have hv := hv.2 q20
      refine z_aload_n dX12_knowsOf_24 rfl ?_
      refine z_iload_n dX12_knowsOf_25 rfl ?_
      refine z_iload_n dX12_knowsOf_26 rfl ?_
      refine z_iload_n dX12_knowsOf_27 rfl ?_
      refine z_callV (As := [.int p1, .int x3, .int p2]) (st := [.int x3, .ref 185]) dX12_knowsOf_28 zl_X12_374 zv_X12_doesKnow (by decide) rfl zn_160 zo_160 rfl rfl (Nat.le_of_ble_eq_true rfl) ⟨Nat.le_refl _, Nat.le_refl _⟩ ⟨Nat.le_refl _, Nat.le_refl _⟩ hv (fun v1 I10 L11 P12 nx1 q13 => ?_)
      obtain ⟨rfl, r14, rfl, hv⟩ := q13
      refine z_if_eq (tgt := 38) dX12_knowsOf_31 (by decide) (fun q19 => ?_) (fun q19 => ?_)
      · have hv := hv.1 q19
        refine z_iconst (v := 0) dX12_knowsOf_38 (by decide) ?_
        refine z_iastore dX12_knowsOf_39 zn_185 zh_185 h7 (z_nmI (fun I16 e15 => ?_))
        have hv := hv I16 e15
        refine z_iinc (v2 := x3 + 1) (lv2 := [some (.ref 160), some (.int p1), some (.int p2), some (.int (x3 + 1))]) dX12_knowsOf_40 rfl (by rfl) (by decide) rfl rfl ?_
        refine z_goto (tgt := 2) dX12_knowsOf_43 (by decide) ?_
        exact hv
      · have hv := hv.2 q19
        refine z_iconst (v := 1) dX12_knowsOf_34 (by decide) ?_
        refine z_goto (tgt := 39) dX12_knowsOf_35 (by decide) ?_
        refine z_iastore dX12_knowsOf_39 zn_185 zh_185 h7 (z_nmI (fun I18 e17 => ?_))
        have hv := hv I18 e17
        refine z_iinc (v2 := x3 + 1) (lv2 := [some (.ref 160), some (.int p1), some (.int p2), some (.int (x3 + 1))]) dX12_knowsOf_40 rfl (by rfl) (by decide) rfl rfl ?_
        refine z_goto (tgt := 2) dX12_knowsOf_43 (by decide) ?_
        exact hv
def v_X12_knowsOf (d : Nat) (Q : zQt) (p1 : Int32) (p2 : Int32) (I : zI) (L : zL) (P : zP) : Prop :=
  gw_X12_knowsOf (d + 1) Q 2 [some (.ref 160), some (.int p1), some (.int p2), some (.int 0)] [] I L P
set_option maxRecDepth 20000 in
theorem g_X12_knowsOf {d : Nat} {Q : zQt} {p1 : Int32} {p2 : Int32} {I : zI} {L : zL} {P : zP} (hP : zPk P) (hv : v_X12_knowsOf d Q p1 p2 I L P) : zM zm_X12_knowsOf (d + 1) 0 0 [.ref 160, .int p1, .int p2] I L P 205 Q := by
  unfold v_X12_knowsOf at hv
  refine zM_of (lv0 := [some (.ref 160), some (.int p1), some (.int p2), none]) (by decide +kernel) (Nat.le_of_ble_eq_true rfl) rfl ?_
  refine z_iconst (v := 0) dX12_knowsOf_0 (by decide) ?_
  refine z_istore_n (lv2 := [some (.ref 160), some (.int p1), some (.int p2), some (.int 0)]) dX12_knowsOf_1 (by decide) rfl rfl ?_
  exact hv
abbrev gw_X12_allKnow (d : Nat) (Q : zQt) (pc : Nat) (lv : zV) (st : List Value) (I : zI) (L : zL) (P : zP) : Prop := zW zm_X12_allKnow (zRm d 0 0) 0 0 Q pc lv st I L P 205 0 0
def v_X12_allKnow_71 (d : Nat) (Q : zQt) (p1 : Int32) (x2 : Int32) (I : zI) (L : zL) (P : zP) : Prop :=
  zMi zm_X12_worldMany d [.ref 160] I L P (fun r13 I9 L10 P11 =>
    ((r13 ≤ x2 →
      Q none I9 L10 P11 205
    ) ∧ (¬ r13 ≤ x2 →
      zPk P11 ∧
      vp_in x2 256 ∧
      vp_in (p1 + x2) 12288 ∧
      ∀ I18 : zI, I18 = zuI I9 183 (p1 + x2).toNatClampNeg (I9 185 x2.toNatClampNeg) →
      gw_X12_allKnow (d + 1) Q 71 [some (.ref 160), some (.int p1), some (.int (x2 + 1)), none, none] [] I18 L10 P11
    ))
  )
set_option maxRecDepth 20000 in
theorem g_X12_allKnow_71 {d : Nat} {Q : zQt} {p1 : Int32} {x2 : Int32} {I : zI} {L : zL} {P : zP} (hP : zPk P) (hv : v_X12_allKnow_71 d Q p1 x2 I L P) : gw_X12_allKnow (d + 1) Q 71 [some (.ref 160), some (.int p1), some (.int x2), none, none] [] I L P := by
  unfold v_X12_allKnow_71 at hv
  refine z_iload_n dX12_allKnow_71 rfl ?_
  refine z_aload_n dX12_allKnow_72 rfl ?_
  refine z_callV (As := []) (st := [.int x2]) dX12_allKnow_73 zl_X12_346 zv_X12_worldMany (by decide) rfl zn_160 zo_160 rfl rfl (Nat.le_of_ble_eq_true rfl) ⟨Nat.le_refl _, Nat.le_refl _⟩ ⟨Nat.le_refl _, Nat.le_refl _⟩ hv (fun v1 I9 L10 P11 nx1 q12 => ?_)
  obtain ⟨rfl, r13, rfl, hv⟩ := q12
  refine z_icmp_ge (tgt := 99) dX12_allKnow_76 (by decide) (fun q19 => ?_) (fun q19 => ?_)
  · have hv := hv.1 q19
    exact z_return dX12_allKnow_99 rfl (Nat.le_refl _) (Nat.le_refl _) hv
  · have hv := hv.2 q19
    refine z_aload_n dX12_allKnow_79 rfl ?_
    obtain ⟨h14, hv⟩ := hv
    refine z_getP dX12_allKnow_80 zf_X12_83 zn_160 zo_160 (fun _ _ _ _ _ => rfl) (h14 160 41 183 zp_160_41) ?_
    refine z_iload_n dX12_allKnow_83 rfl ?_
    refine z_iload_n dX12_allKnow_84 rfl ?_
    refine z_iadd dX12_allKnow_85 ?_
    refine z_aload_n dX12_allKnow_86 rfl ?_
    refine z_getP dX12_allKnow_87 zf_X12_89 zn_160 zo_160 (fun _ _ _ _ _ => rfl) (h14 160 43 185 zp_160_43) ?_
    refine z_iload_n dX12_allKnow_90 rfl ?_
    obtain ⟨h15, hv⟩ := hv
    refine z_iaload dX12_allKnow_91 zn_185 zh_185 h15 ?_
    obtain ⟨h16, hv⟩ := hv
    refine z_iastore dX12_allKnow_92 zn_183 zh_183 h16 (z_nmI (fun I18 e17 => ?_))
    have hv := hv I18 e17
    refine z_iinc (v2 := x2 + 1) (lv2 := [some (.ref 160), some (.int p1), some (.int (x2 + 1)), none, none]) dX12_allKnow_93 rfl (by rfl) (by decide) rfl rfl ?_
    refine z_goto (tgt := 71) dX12_allKnow_96 (by decide) ?_
    exact hv
def v_X12_allKnow_20 (d : Nat) (Q : zQt) (p1 : Int32) (x2 : Int32) (x3 : Int32) (x4 : Int32) (I : zI) (L : zL) (P : zP) : Prop :=
  zMi zm_X12_manyOf d [.ref 160] I L P (fun r24 I20 L21 P22 =>
    ((r24 ≤ x4 →
      zPk P22 ∧
      ((x3 = 0 →
        vp_in x2 256 ∧
        ∀ I28 : zI, I28 = zuI I20 185 x2.toNatClampNeg 0 →
        gw_X12_allKnow (d + 1) Q 2 [some (.ref 160), some (.int p1), some (.int (x2 + 1)), none, none] [] I28 L21 P22
      ) ∧ (¬ x3 = 0 →
        vp_in x2 256 ∧
        ∀ I31 : zI, I31 = zuI I20 185 x2.toNatClampNeg 1 →
        gw_X12_allKnow (d + 1) Q 2 [some (.ref 160), some (.int p1), some (.int (x2 + 1)), none, none] [] I31 L21 P22
      ))
    ) ∧ (¬ r24 ≤ x4 →
      ((x3 = 0 →
        zPk P22 ∧
        ((x3 = 0 →
          vp_in x2 256 ∧
          ∀ I36 : zI, I36 = zuI I20 185 x2.toNatClampNeg 0 →
          gw_X12_allKnow (d + 1) Q 2 [some (.ref 160), some (.int p1), some (.int (x2 + 1)), none, none] [] I36 L21 P22
        ) ∧ (¬ x3 = 0 →
          vp_in x2 256 ∧
          ∀ I39 : zI, I39 = zuI I20 185 x2.toNatClampNeg 1 →
          gw_X12_allKnow (d + 1) Q 2 [some (.ref 160), some (.int p1), some (.int (x2 + 1)), none, none] [] I39 L21 P22
        ))
      ) ∧ (¬ x3 = 0 →
        zMi zm_X12_doesKnow d [.ref 160, .int x4, .int x2, .int p1] I20 L21 P22 (fun r45 I41 L42 P43 =>
          gw_X12_allKnow (d + 1) Q 20 [some (.ref 160), some (.int p1), some (.int x2), some (.int r45), some (.int (x4 + 1))] [] I41 L42 P43
        )
      ))
    ))
  )
set_option maxRecDepth 20000 in
theorem g_X12_allKnow_20 {d : Nat} {Q : zQt} {p1 : Int32} {x2 : Int32} {x3 : Int32} {x4 : Int32} {I : zI} {L : zL} {P : zP} (hP : zPk P) (hv : v_X12_allKnow_20 d Q p1 x2 x3 x4 I L P) : gw_X12_allKnow (d + 1) Q 20 [some (.ref 160), some (.int p1), some (.int x2), some (.int x3), some (.int x4)] [] I L P := by
  unfold v_X12_allKnow_20 at hv
  refine z_iload dX12_allKnow_20 rfl ?_
  refine z_aload_n dX12_allKnow_22 rfl ?_
  refine z_callV (As := []) (st := [.int x4]) dX12_allKnow_23 zl_X12_339 zv_X12_manyOf (by decide) rfl zn_160 zo_160 rfl rfl (Nat.le_of_ble_eq_true rfl) ⟨Nat.le_refl _, Nat.le_refl _⟩ ⟨Nat.le_refl _, Nat.le_refl _⟩ hv (fun v1 I20 L21 P22 nx1 q23 => ?_)
  obtain ⟨rfl, r24, rfl, hv⟩ := q23
  refine z_icmp_ge (tgt := 48) dX12_allKnow_26 (by decide) (fun q47 => ?_) (fun q47 => ?_)
  · have hv := hv.1 q47
    refine z_aload_n dX12_allKnow_48 rfl ?_
    obtain ⟨h25, hv⟩ := hv
    refine z_getP dX12_allKnow_49 zf_X12_89 zn_160 zo_160 (fun _ _ _ _ _ => rfl) (h25 160 43 185 zp_160_43) ?_
    refine z_iload_n dX12_allKnow_52 rfl ?_
    refine z_iload_n dX12_allKnow_53 rfl ?_
    refine z_if_eq (tgt := 61) dX12_allKnow_54 (by decide) (fun q32 => ?_) (fun q32 => ?_)
    · have hv := hv.1 q32
      refine z_iconst (v := 0) dX12_allKnow_61 (by decide) ?_
      obtain ⟨h26, hv⟩ := hv
      refine z_iastore dX12_allKnow_62 zn_185 zh_185 h26 (z_nmI (fun I28 e27 => ?_))
      have hv := hv I28 e27
      refine z_iinc (v2 := x2 + 1) (lv2 := [some (.ref 160), some (.int p1), some (.int (x2 + 1)), some (.int x3), some (.int x4)]) dX12_allKnow_63 rfl (by rfl) (by decide) rfl rfl ?_
      refine z_goto (tgt := 2) dX12_allKnow_66 (by decide) ?_
      exact z_sub (by exact ⟨rfl, ⟨rfl, ⟨rfl, trivial⟩⟩⟩) hv
    · have hv := hv.2 q32
      refine z_iconst (v := 1) dX12_allKnow_57 (by decide) ?_
      refine z_goto (tgt := 62) dX12_allKnow_58 (by decide) ?_
      obtain ⟨h29, hv⟩ := hv
      refine z_iastore dX12_allKnow_62 zn_185 zh_185 h29 (z_nmI (fun I31 e30 => ?_))
      have hv := hv I31 e30
      refine z_iinc (v2 := x2 + 1) (lv2 := [some (.ref 160), some (.int p1), some (.int (x2 + 1)), some (.int x3), some (.int x4)]) dX12_allKnow_63 rfl (by rfl) (by decide) rfl rfl ?_
      refine z_goto (tgt := 2) dX12_allKnow_66 (by decide) ?_
      exact z_sub (by exact ⟨rfl, ⟨rfl, ⟨rfl, trivial⟩⟩⟩) hv
  · have hv := hv.2 q47
    refine z_iload_n dX12_allKnow_29 rfl ?_
    refine z_if_eq (tgt := 48) dX12_allKnow_30 (by decide) (fun q46 => ?_) (fun q46 => ?_)
    · have hv := hv.1 q46
      refine z_aload_n dX12_allKnow_48 rfl ?_
      obtain ⟨h33, hv⟩ := hv
      refine z_getP dX12_allKnow_49 zf_X12_89 zn_160 zo_160 (fun _ _ _ _ _ => rfl) (h33 160 43 185 zp_160_43) ?_
      refine z_iload_n dX12_allKnow_52 rfl ?_
      refine z_iload_n dX12_allKnow_53 rfl ?_
      refine z_if_eq (tgt := 61) dX12_allKnow_54 (by decide) (fun q40 => ?_) (fun q40 => ?_)
      · have hv := hv.1 q40
        refine z_iconst (v := 0) dX12_allKnow_61 (by decide) ?_
        obtain ⟨h34, hv⟩ := hv
        refine z_iastore dX12_allKnow_62 zn_185 zh_185 h34 (z_nmI (fun I36 e35 => ?_))
        have hv := hv I36 e35
        refine z_iinc (v2 := x2 + 1) (lv2 := [some (.ref 160), some (.int p1), some (.int (x2 + 1)), some (.int x3), some (.int x4)]) dX12_allKnow_63 rfl (by rfl) (by decide) rfl rfl ?_
        refine z_goto (tgt := 2) dX12_allKnow_66 (by decide) ?_
        exact z_sub (by exact ⟨rfl, ⟨rfl, ⟨rfl, trivial⟩⟩⟩) hv
      · have hv := hv.2 q40
        refine z_iconst (v := 1) dX12_allKnow_57 (by decide) ?_
        refine z_goto (tgt := 62) dX12_allKnow_58 (by decide) ?_
        obtain ⟨h37, hv⟩ := hv
        refine z_iastore dX12_allKnow_62 zn_185 zh_185 h37 (z_nmI (fun I39 e38 => ?_))
        have hv := hv I39 e38
        refine z_iinc (v2 := x2 + 1) (lv2 := [some (.ref 160), some (.int p1), some (.int (x2 + 1)), some (.int x3), some (.int x4)]) dX12_allKnow_63 rfl (by rfl) (by decide) rfl rfl ?_
        refine z_goto (tgt := 2) dX12_allKnow_66 (by decide) ?_
        exact z_sub (by exact ⟨rfl, ⟨rfl, ⟨rfl, trivial⟩⟩⟩) hv
    · have hv := hv.2 q46
      refine z_aload_n dX12_allKnow_33 rfl ?_
      refine z_iload dX12_allKnow_34 rfl ?_
      refine z_iload_n dX12_allKnow_36 rfl ?_
      refine z_iload_n dX12_allKnow_37 rfl ?_
      refine z_callV (As := [.int x4, .int x2, .int p1]) (st := []) dX12_allKnow_38 zl_X12_374 zv_X12_doesKnow (by decide) rfl zn_160 zo_160 rfl rfl (Nat.le_of_ble_eq_true rfl) ⟨Nat.le_refl _, Nat.le_refl _⟩ ⟨Nat.le_refl _, Nat.le_refl _⟩ hv (fun v1 I41 L42 P43 nx1 q44 => ?_)
      obtain ⟨rfl, r45, rfl, hv⟩ := q44
      refine z_istore_n (lv2 := [some (.ref 160), some (.int p1), some (.int x2), some (.int r45), some (.int x4)]) dX12_allKnow_41 (by decide) rfl rfl ?_
      refine z_iinc (v2 := x4 + 1) (lv2 := [some (.ref 160), some (.int p1), some (.int x2), some (.int r45), some (.int (x4 + 1))]) dX12_allKnow_42 rfl (by rfl) (by decide) rfl rfl ?_
      refine z_goto (tgt := 20) dX12_allKnow_45 (by decide) ?_
      exact hv
def v_X12_allKnow_2 (d : Nat) (Q : zQt) (p1 : Int32) (x2 : Int32) (I : zI) (L : zL) (P : zP) : Prop :=
  zMi zm_X12_worldMany d [.ref 160] I L P (fun r5 I1 L2 P3 =>
    ((r5 ≤ x2 →
      gw_X12_allKnow (d + 1) Q 71 [some (.ref 160), some (.int p1), some (.int 0), none, none] [] I1 L2 P3
    ) ∧ (¬ r5 ≤ x2 →
      zPk P3 ∧
      vp_in x2 256 ∧
      gw_X12_allKnow (d + 1) Q 20 [some (.ref 160), some (.int p1), some (.int x2), some (.int (I1 180 x2.toNatClampNeg)), some (.int 0)] [] I1 L2 P3
    ))
  )
set_option maxRecDepth 20000 in
theorem g_X12_allKnow_2 {d : Nat} {Q : zQt} {p1 : Int32} {x2 : Int32} {I : zI} {L : zL} {P : zP} (hP : zPk P) (hv : v_X12_allKnow_2 d Q p1 x2 I L P) : gw_X12_allKnow (d + 1) Q 2 [some (.ref 160), some (.int p1), some (.int x2), none, none] [] I L P := by
  unfold v_X12_allKnow_2 at hv
  refine z_iload_n dX12_allKnow_2 rfl ?_
  refine z_aload_n dX12_allKnow_3 rfl ?_
  refine z_callV (As := []) (st := [.int x2]) dX12_allKnow_4 zl_X12_346 zv_X12_worldMany (by decide) rfl zn_160 zo_160 rfl rfl (Nat.le_of_ble_eq_true rfl) ⟨Nat.le_refl _, Nat.le_refl _⟩ ⟨Nat.le_refl _, Nat.le_refl _⟩ hv (fun v1 I1 L2 P3 nx1 q4 => ?_)
  obtain ⟨rfl, r5, rfl, hv⟩ := q4
  refine z_icmp_ge (tgt := 69) dX12_allKnow_7 (by decide) (fun q8 => ?_) (fun q8 => ?_)
  · have hv := hv.1 q8
    refine z_iconst (v := 0) dX12_allKnow_69 (by decide) ?_
    refine z_istore_n (lv2 := [some (.ref 160), some (.int p1), some (.int 0), none, none]) dX12_allKnow_70 (by decide) rfl rfl ?_
    exact hv
  · have hv := hv.2 q8
    refine z_aload_n dX12_allKnow_10 rfl ?_
    obtain ⟨h6, hv⟩ := hv
    refine z_getP dX12_allKnow_11 zf_X12_74 zn_160 zo_160 (fun _ _ _ _ _ => rfl) (h6 160 35 180 zp_160_35) ?_
    refine z_iload_n dX12_allKnow_14 rfl ?_
    obtain ⟨h7, hv⟩ := hv
    refine z_zaload dX12_allKnow_15 zn_180 zh_180 h7 ?_
    refine z_istore_n (lv2 := [some (.ref 160), some (.int p1), some (.int x2), some (.int (I1 180 x2.toNatClampNeg)), none]) dX12_allKnow_16 (by decide) rfl rfl ?_
    refine z_iconst (v := 0) dX12_allKnow_17 (by decide) ?_
    refine z_istore (lv2 := [some (.ref 160), some (.int p1), some (.int x2), some (.int (I1 180 x2.toNatClampNeg)), some (.int 0)]) dX12_allKnow_18 (by decide) rfl rfl ?_
    exact hv
def v_X12_allKnow (d : Nat) (Q : zQt) (p1 : Int32) (I : zI) (L : zL) (P : zP) : Prop :=
  gw_X12_allKnow (d + 1) Q 2 [some (.ref 160), some (.int p1), some (.int 0), none, none] [] I L P
set_option maxRecDepth 20000 in
theorem g_X12_allKnow {d : Nat} {Q : zQt} {p1 : Int32} {I : zI} {L : zL} {P : zP} (hP : zPk P) (hv : v_X12_allKnow d Q p1 I L P) : zM zm_X12_allKnow (d + 1) 0 0 [.ref 160, .int p1] I L P 205 Q := by
  unfold v_X12_allKnow at hv
  refine zM_of (lv0 := [some (.ref 160), some (.int p1), none, none, none]) (by decide +kernel) (Nat.le_of_ble_eq_true rfl) rfl ?_
  refine z_iconst (v := 0) dX12_allKnow_0 (by decide) ?_
  refine z_istore_n (lv2 := [some (.ref 160), some (.int p1), some (.int 0), none, none]) dX12_allKnow_1 (by decide) rfl rfl ?_
  exact hv
abbrev gw_X12_layParts (d : Nat) (Q : zQt) (pc : Nat) (lv : zV) (st : List Value) (I : zI) (L : zL) (P : zP) : Prop := zW zm_X12_layParts (zRm d 0 0) 0 0 Q pc lv st I L P 205 0 0
def v_X12_layParts_38 (d : Nat) (Q : zQt) (x1 : Int32) (I : zI) (L : zL) (P : zP) : Prop :=
  zMi zm_X12_worldMany d [.ref 160] I L P (fun r18 I14 L15 P16 =>
    ((r18 ≤ x1 →
      Q none I14 L15 P16 205
    ) ∧ (¬ r18 ≤ x1 →
      zPk P16 ∧
      vp_in x1 256 ∧
      (((I14 180 x1.toNatClampNeg) = 0 →
        gw_X12_layParts (d + 1) Q 38 [some (.ref 160), some (.int (x1 + 1))] [] I14 L15 P16
      ) ∧ (¬ (I14 180 x1.toNatClampNeg) = 0 →
        ((0 ≤ (I14 186 x1.toNatClampNeg) →
          gw_X12_layParts (d + 1) Q 38 [some (.ref 160), some (.int (x1 + 1))] [] I14 L15 P16
        ) ∧ (¬ 0 ≤ (I14 186 x1.toNatClampNeg) →
          zMv zm_X12_layPart d [.ref 160, .int x1] I14 L15 P16 (fun I21 L22 P23 =>
            gw_X12_layParts (d + 1) Q 38 [some (.ref 160), some (.int (x1 + 1))] [] I21 L22 P23
          )
        ))
      ))
    ))
  )
set_option maxRecDepth 20000 in
theorem g_X12_layParts_38 {d : Nat} {Q : zQt} {x1 : Int32} {I : zI} {L : zL} {P : zP} (hP : zPk P) (hv : v_X12_layParts_38 d Q x1 I L P) : gw_X12_layParts (d + 1) Q 38 [some (.ref 160), some (.int x1)] [] I L P := by
  unfold v_X12_layParts_38 at hv
  refine z_iload_n dX12_layParts_38 rfl ?_
  refine z_aload_n dX12_layParts_39 rfl ?_
  refine z_callV (As := []) (st := [.int x1]) dX12_layParts_40 zl_X12_346 zv_X12_worldMany (by decide) rfl zn_160 zo_160 rfl rfl (Nat.le_of_ble_eq_true rfl) ⟨Nat.le_refl _, Nat.le_refl _⟩ ⟨Nat.le_refl _, Nat.le_refl _⟩ hv (fun v1 I14 L15 P16 nx1 q17 => ?_)
  obtain ⟨rfl, r18, rfl, hv⟩ := q17
  refine z_icmp_ge (tgt := 75) dX12_layParts_43 (by decide) (fun q28 => ?_) (fun q28 => ?_)
  · have hv := hv.1 q28
    exact z_return dX12_layParts_75 rfl (Nat.le_refl _) (Nat.le_refl _) hv
  · have hv := hv.2 q28
    refine z_aload_n dX12_layParts_46 rfl ?_
    obtain ⟨h19, hv⟩ := hv
    refine z_getP dX12_layParts_47 zf_X12_74 zn_160 zo_160 (fun _ _ _ _ _ => rfl) (h19 160 35 180 zp_160_35) ?_
    refine z_iload_n dX12_layParts_50 rfl ?_
    obtain ⟨h20, hv⟩ := hv
    refine z_zaload dX12_layParts_51 zn_180 zh_180 h20 ?_
    refine z_if_eq (tgt := 69) dX12_layParts_52 (by decide) (fun q27 => ?_) (fun q27 => ?_)
    · have hv := hv.1 q27
      refine z_iinc (v2 := x1 + 1) (lv2 := [some (.ref 160), some (.int (x1 + 1))]) dX12_layParts_69 rfl (by rfl) (by decide) rfl rfl ?_
      refine z_goto (tgt := 38) dX12_layParts_72 (by decide) ?_
      exact hv
    · have hv := hv.2 q27
      refine z_aload_n dX12_layParts_55 rfl ?_
      refine z_getP dX12_layParts_56 zf_X12_92 zn_160 zo_160 (fun _ _ _ _ _ => rfl) (h19 160 44 186 zp_160_44) ?_
      refine z_iload_n dX12_layParts_59 rfl ?_
      refine z_iaload dX12_layParts_60 zn_186 zh_186 h20 ?_
      refine z_if_ge (tgt := 69) dX12_layParts_61 (by decide) (fun q26 => ?_) (fun q26 => ?_)
      · have hv := hv.1 q26
        refine z_iinc (v2 := x1 + 1) (lv2 := [some (.ref 160), some (.int (x1 + 1))]) dX12_layParts_69 rfl (by rfl) (by decide) rfl rfl ?_
        refine z_goto (tgt := 38) dX12_layParts_72 (by decide) ?_
        exact hv
      · have hv := hv.2 q26
        refine z_aload_n dX12_layParts_64 rfl ?_
        refine z_iload_n dX12_layParts_65 rfl ?_
        refine z_callV (As := [.int x1]) (st := []) dX12_layParts_66 zl_X12_377 zv_X12_layPart (by decide) rfl zn_160 zo_160 rfl rfl (Nat.le_of_ble_eq_true rfl) ⟨Nat.le_refl _, Nat.le_refl _⟩ ⟨Nat.le_refl _, Nat.le_refl _⟩ hv (fun v1 I21 L22 P23 nx1 q24 => ?_)
        obtain ⟨rfl, rfl, hv⟩ := q24
        refine z_iinc (v2 := x1 + 1) (lv2 := [some (.ref 160), some (.int (x1 + 1))]) dX12_layParts_69 rfl (by rfl) (by decide) rfl rfl ?_
        refine z_goto (tgt := 38) dX12_layParts_72 (by decide) ?_
        exact hv
def v_X12_layParts_15 (d : Nat) (Q : zQt) (x1 : Int32) (I : zI) (L : zL) (P : zP) : Prop :=
  zMi zm_X12_worldMany d [.ref 160] I L P (fun r8 I4 L5 P6 =>
    ((r8 ≤ x1 →
      gw_X12_layParts (d + 1) Q 38 [some (.ref 160), some (.int 0)] [] I4 L5 P6
    ) ∧ (¬ r8 ≤ x1 →
      zPk P6 ∧
      vp_in x1 256 ∧
      ∀ I12 : zI, I12 = zuI I4 186 x1.toNatClampNeg (-1) →
      gw_X12_layParts (d + 1) Q 15 [some (.ref 160), some (.int (x1 + 1))] [] I12 L5 P6
    ))
  )
set_option maxRecDepth 20000 in
theorem g_X12_layParts_15 {d : Nat} {Q : zQt} {x1 : Int32} {I : zI} {L : zL} {P : zP} (hP : zPk P) (hv : v_X12_layParts_15 d Q x1 I L P) : gw_X12_layParts (d + 1) Q 15 [some (.ref 160), some (.int x1)] [] I L P := by
  unfold v_X12_layParts_15 at hv
  refine z_iload_n dX12_layParts_15 rfl ?_
  refine z_aload_n dX12_layParts_16 rfl ?_
  refine z_callV (As := []) (st := [.int x1]) dX12_layParts_17 zl_X12_346 zv_X12_worldMany (by decide) rfl zn_160 zo_160 rfl rfl (Nat.le_of_ble_eq_true rfl) ⟨Nat.le_refl _, Nat.le_refl _⟩ ⟨Nat.le_refl _, Nat.le_refl _⟩ hv (fun v1 I4 L5 P6 nx1 q7 => ?_)
  obtain ⟨rfl, r8, rfl, hv⟩ := q7
  refine z_icmp_ge (tgt := 36) dX12_layParts_20 (by decide) (fun q13 => ?_) (fun q13 => ?_)
  · have hv := hv.1 q13
    refine z_iconst (v := 0) dX12_layParts_36 (by decide) ?_
    refine z_istore_n (lv2 := [some (.ref 160), some (.int 0)]) dX12_layParts_37 (by decide) rfl rfl ?_
    exact hv
  · have hv := hv.2 q13
    refine z_aload_n dX12_layParts_23 rfl ?_
    obtain ⟨h9, hv⟩ := hv
    refine z_getP dX12_layParts_24 zf_X12_92 zn_160 zo_160 (fun _ _ _ _ _ => rfl) (h9 160 44 186 zp_160_44) ?_
    refine z_iload_n dX12_layParts_27 rfl ?_
    refine z_iconst (v := (-1)) dX12_layParts_28 (by decide) ?_
    obtain ⟨h10, hv⟩ := hv
    refine z_iastore dX12_layParts_29 zn_186 zh_186 h10 (z_nmI (fun I12 e11 => ?_))
    have hv := hv I12 e11
    refine z_iinc (v2 := x1 + 1) (lv2 := [some (.ref 160), some (.int (x1 + 1))]) dX12_layParts_30 rfl (by rfl) (by decide) rfl rfl ?_
    refine z_goto (tgt := 15) dX12_layParts_33 (by decide) ?_
    exact hv
def v_X12_layParts (d : Nat) (Q : zQt)  (I : zI) (L : zL) (P : zP) : Prop :=
  (((I 160 46) = 0 →
    ∀ I1 : zI, I1 = zuI I 160 46 1 →
    gw_X12_layParts (d + 1) Q 15 [some (.ref 160), some (.int 0)] [] I1 L P
  ) ∧ (¬ (I 160 46) = 0 →
    Q none I L P 205
  ))
set_option maxRecDepth 20000 in
theorem g_X12_layParts {d : Nat} {Q : zQt}  {I : zI} {L : zL} {P : zP} (hP : zPk P) (hv : v_X12_layParts d Q  I L P) : zM zm_X12_layParts (d + 1) 0 0 [.ref 160] I L P 205 Q := by
  unfold v_X12_layParts at hv
  refine zM_of (lv0 := [some (.ref 160), none]) (by decide +kernel) (Nat.le_of_ble_eq_true rfl) rfl ?_
  refine z_aload_n dX12_layParts_0 rfl ?_
  refine z_getI dX12_layParts_1 zf_X12_349 zn_160 zo_160 (fun _ _ _ _ _ => rfl) ?_
  refine z_if_eq (tgt := 8) dX12_layParts_4 (by decide) (fun q3 => ?_) (fun q3 => ?_)
  · have hv := hv.1 q3
    refine z_aload_n dX12_layParts_8 rfl ?_
    refine z_iconst (v := 1) dX12_layParts_9 (by decide) ?_
    refine z_putI dX12_layParts_10 zf_X12_349 zn_160 zo_160 (Or.inl rfl) (fun _ _ _ _ _ => rfl) (by decide) (by decide) (z_nmI (fun I1 e2 => ?_))
    have hv := hv I1 e2
    refine z_iconst (v := 0) dX12_layParts_13 (by decide) ?_
    refine z_istore_n (lv2 := [some (.ref 160), some (.int 0)]) dX12_layParts_14 (by decide) rfl rfl ?_
    exact hv
  · have hv := hv.2 q3
    exact z_return dX12_layParts_7 rfl (Nat.le_refl _) (Nat.le_refl _) hv
abbrev gw_X12_layPart (d : Nat) (Q : zQt) (pc : Nat) (lv : zV) (st : List Value) (I : zI) (L : zL) (P : zP) : Prop := zW zm_X12_layPart (zRm d 0 0) 0 0 Q pc lv st I L P 205 0 0
def v_X12_layPart_41 (d : Nat) (Q : zQt) (p1 : Int32) (x2 : Int32) (x3 : Int32) (x4 : Int32) (x5 : Int32) (x6 : Int32) (I : zI) (L : zL) (P : zP) : Prop :=
  zMi zm_X12_manyOf d [.ref 160] I L P (fun r17 I13 L14 P15 =>
    ((r17 ≤ x6 →
      ((¬ x5 = 0 →
        zPk P15 ∧
        vp_in x4 256 ∧
        ∀ I21 : zI, I21 = zuI I13 186 x4.toNatClampNeg p1 →
        vp_in x2 256 ∧
        ∀ I24 : zI, I24 = zuI I21 184 x2.toNatClampNeg x4 →
        gw_X12_layPart (d + 1) Q 26 [some (.ref 160), some (.int p1), some (.int (x2 + 1)), some (.int x3), some (.int (x4 + 1)), none, none] [] I24 L14 P15
      ) ∧ (x5 = 0 →
        gw_X12_layPart (d + 1) Q 26 [some (.ref 160), some (.int p1), some (.int x2), some (.int x3), some (.int (x4 + 1)), none, none] [] I13 L14 P15
      ))
    ) ∧ (¬ r17 ≤ x6 →
      zPk P15 ∧
      vp_in x4 256 ∧
      (((I13 180 x4.toNatClampNeg) = 0 →
        ((¬ x5 = 0 →
          ∀ I29 : zI, I29 = zuI I13 186 x4.toNatClampNeg p1 →
          vp_in x2 256 ∧
          ∀ I32 : zI, I32 = zuI I29 184 x2.toNatClampNeg x4 →
          gw_X12_layPart (d + 1) Q 26 [some (.ref 160), some (.int p1), some (.int (x2 + 1)), some (.int x3), some (.int (x4 + 1)), none, none] [] I32 L14 P15
        ) ∧ (x5 = 0 →
          gw_X12_layPart (d + 1) Q 26 [some (.ref 160), some (.int p1), some (.int x2), some (.int x3), some (.int (x4 + 1)), none, none] [] I13 L14 P15
        ))
      ) ∧ (¬ (I13 180 x4.toNatClampNeg) = 0 →
        ((0 ≤ (I13 186 x4.toNatClampNeg) →
          ((¬ x5 = 0 →
            ∀ I35 : zI, I35 = zuI I13 186 x4.toNatClampNeg p1 →
            vp_in x2 256 ∧
            ∀ I38 : zI, I38 = zuI I35 184 x2.toNatClampNeg x4 →
            gw_X12_layPart (d + 1) Q 26 [some (.ref 160), some (.int p1), some (.int (x2 + 1)), some (.int x3), some (.int (x4 + 1)), none, none] [] I38 L14 P15
          ) ∧ (x5 = 0 →
            gw_X12_layPart (d + 1) Q 26 [some (.ref 160), some (.int p1), some (.int x2), some (.int x3), some (.int (x4 + 1)), none, none] [] I13 L14 P15
          ))
        ) ∧ (¬ 0 ≤ (I13 186 x4.toNatClampNeg) →
          ((¬ x5 = 0 →
            ((¬ x5 = 0 →
              ∀ I41 : zI, I41 = zuI I13 186 x4.toNatClampNeg p1 →
              vp_in x2 256 ∧
              ∀ I44 : zI, I44 = zuI I41 184 x2.toNatClampNeg x4 →
              gw_X12_layPart (d + 1) Q 26 [some (.ref 160), some (.int p1), some (.int (x2 + 1)), some (.int x3), some (.int (x4 + 1)), none, none] [] I44 L14 P15
            ) ∧ (x5 = 0 →
              gw_X12_layPart (d + 1) Q 26 [some (.ref 160), some (.int p1), some (.int x2), some (.int x3), some (.int (x4 + 1)), none, none] [] I13 L14 P15
            ))
          ) ∧ (x5 = 0 →
            vp_in x3 256 ∧
            zMi zm_X12_areLike d [.ref 160, .int x6, .int (I13 184 x3.toNatClampNeg), .int x4] I13 L14 P15 (fun r51 I47 L48 P49 =>
              gw_X12_layPart (d + 1) Q 41 [some (.ref 160), some (.int p1), some (.int x2), some (.int x3), some (.int x4), some (.int r51), some (.int (x6 + 1))] [] I47 L48 P49
            )
          ))
        ))
      ))
    ))
  )
set_option maxRecDepth 20000 in
theorem g_X12_layPart_41 {d : Nat} {Q : zQt} {p1 : Int32} {x2 : Int32} {x3 : Int32} {x4 : Int32} {x5 : Int32} {x6 : Int32} {I : zI} {L : zL} {P : zP} (hP : zPk P) (hv : v_X12_layPart_41 d Q p1 x2 x3 x4 x5 x6 I L P) : gw_X12_layPart (d + 1) Q 41 [some (.ref 160), some (.int p1), some (.int x2), some (.int x3), some (.int x4), some (.int x5), some (.int x6)] [] I L P := by
  unfold v_X12_layPart_41 at hv
  refine z_iload dX12_layPart_41 rfl ?_
  refine z_aload_n dX12_layPart_43 rfl ?_
  refine z_callV (As := []) (st := [.int x6]) dX12_layPart_44 zl_X12_339 zv_X12_manyOf (by decide) rfl zn_160 zo_160 rfl rfl (Nat.le_of_ble_eq_true rfl) ⟨Nat.le_refl _, Nat.le_refl _⟩ ⟨Nat.le_refl _, Nat.le_refl _⟩ hv (fun v1 I13 L14 P15 nx1 q16 => ?_)
  obtain ⟨rfl, r17, rfl, hv⟩ := q16
  refine z_icmp_ge (tgt := 97) dX12_layPart_47 (by decide) (fun q55 => ?_) (fun q55 => ?_)
  · have hv := hv.1 q55
    refine z_iload dX12_layPart_97 rfl ?_
    refine z_if_ne (tgt := 105) dX12_layPart_99 (by decide) (fun q25 => ?_) (fun q25 => ?_)
    · have hv := hv.1 q25
      refine z_aload_n dX12_layPart_105 rfl ?_
      obtain ⟨h18, hv⟩ := hv
      refine z_getP dX12_layPart_106 zf_X12_92 zn_160 zo_160 (fun _ _ _ _ _ => rfl) (h18 160 44 186 zp_160_44) ?_
      refine z_iload dX12_layPart_109 rfl ?_
      refine z_iload_n dX12_layPart_111 rfl ?_
      obtain ⟨h19, hv⟩ := hv
      refine z_iastore dX12_layPart_112 zn_186 zh_186 h19 (z_nmI (fun I21 e20 => ?_))
      have hv := hv I21 e20
      refine z_aload_n dX12_layPart_113 rfl ?_
      refine z_getP dX12_layPart_114 zf_X12_86 zn_160 zo_160 (fun _ _ _ _ _ => rfl) (h18 160 42 184 zp_160_42) ?_
      refine z_iload_n dX12_layPart_117 rfl ?_
      refine z_iload dX12_layPart_118 rfl ?_
      obtain ⟨h22, hv⟩ := hv
      refine z_iastore dX12_layPart_120 zn_184 zh_184 h22 (z_nmI (fun I24 e23 => ?_))
      have hv := hv I24 e23
      refine z_iinc (v2 := x2 + 1) (lv2 := [some (.ref 160), some (.int p1), some (.int (x2 + 1)), some (.int x3), some (.int x4), some (.int x5), some (.int x6)]) dX12_layPart_121 rfl (by rfl) (by decide) rfl rfl ?_
      refine z_iinc (v2 := x4 + 1) (lv2 := [some (.ref 160), some (.int p1), some (.int (x2 + 1)), some (.int x3), some (.int (x4 + 1)), some (.int x5), some (.int x6)]) dX12_layPart_124 rfl (by rfl) (by decide) rfl rfl ?_
      refine z_goto (tgt := 26) dX12_layPart_127 (by decide) ?_
      exact z_sub (by exact ⟨rfl, ⟨rfl, ⟨rfl, ⟨rfl, ⟨rfl, trivial⟩⟩⟩⟩⟩) hv
    · have hv := hv.2 q25
      refine z_goto (tgt := 124) dX12_layPart_102 (by decide) ?_
      refine z_iinc (v2 := x4 + 1) (lv2 := [some (.ref 160), some (.int p1), some (.int x2), some (.int x3), some (.int (x4 + 1)), some (.int x5), some (.int x6)]) dX12_layPart_124 rfl (by rfl) (by decide) rfl rfl ?_
      refine z_goto (tgt := 26) dX12_layPart_127 (by decide) ?_
      exact z_sub (by exact ⟨rfl, ⟨rfl, ⟨rfl, ⟨rfl, ⟨rfl, trivial⟩⟩⟩⟩⟩) hv
  · have hv := hv.2 q55
    refine z_aload_n dX12_layPart_50 rfl ?_
    obtain ⟨h26, hv⟩ := hv
    refine z_getP dX12_layPart_51 zf_X12_74 zn_160 zo_160 (fun _ _ _ _ _ => rfl) (h26 160 35 180 zp_160_35) ?_
    refine z_iload dX12_layPart_54 rfl ?_
    obtain ⟨h27, hv⟩ := hv
    refine z_zaload dX12_layPart_56 zn_180 zh_180 h27 ?_
    refine z_if_eq (tgt := 97) dX12_layPart_57 (by decide) (fun q54 => ?_) (fun q54 => ?_)
    · have hv := hv.1 q54
      refine z_iload dX12_layPart_97 rfl ?_
      refine z_if_ne (tgt := 105) dX12_layPart_99 (by decide) (fun q33 => ?_) (fun q33 => ?_)
      · have hv := hv.1 q33
        refine z_aload_n dX12_layPart_105 rfl ?_
        refine z_getP dX12_layPart_106 zf_X12_92 zn_160 zo_160 (fun _ _ _ _ _ => rfl) (h26 160 44 186 zp_160_44) ?_
        refine z_iload dX12_layPart_109 rfl ?_
        refine z_iload_n dX12_layPart_111 rfl ?_
        refine z_iastore dX12_layPart_112 zn_186 zh_186 h27 (z_nmI (fun I29 e28 => ?_))
        have hv := hv I29 e28
        refine z_aload_n dX12_layPart_113 rfl ?_
        refine z_getP dX12_layPart_114 zf_X12_86 zn_160 zo_160 (fun _ _ _ _ _ => rfl) (h26 160 42 184 zp_160_42) ?_
        refine z_iload_n dX12_layPart_117 rfl ?_
        refine z_iload dX12_layPart_118 rfl ?_
        obtain ⟨h30, hv⟩ := hv
        refine z_iastore dX12_layPart_120 zn_184 zh_184 h30 (z_nmI (fun I32 e31 => ?_))
        have hv := hv I32 e31
        refine z_iinc (v2 := x2 + 1) (lv2 := [some (.ref 160), some (.int p1), some (.int (x2 + 1)), some (.int x3), some (.int x4), some (.int x5), some (.int x6)]) dX12_layPart_121 rfl (by rfl) (by decide) rfl rfl ?_
        refine z_iinc (v2 := x4 + 1) (lv2 := [some (.ref 160), some (.int p1), some (.int (x2 + 1)), some (.int x3), some (.int (x4 + 1)), some (.int x5), some (.int x6)]) dX12_layPart_124 rfl (by rfl) (by decide) rfl rfl ?_
        refine z_goto (tgt := 26) dX12_layPart_127 (by decide) ?_
        exact z_sub (by exact ⟨rfl, ⟨rfl, ⟨rfl, ⟨rfl, ⟨rfl, trivial⟩⟩⟩⟩⟩) hv
      · have hv := hv.2 q33
        refine z_goto (tgt := 124) dX12_layPart_102 (by decide) ?_
        refine z_iinc (v2 := x4 + 1) (lv2 := [some (.ref 160), some (.int p1), some (.int x2), some (.int x3), some (.int (x4 + 1)), some (.int x5), some (.int x6)]) dX12_layPart_124 rfl (by rfl) (by decide) rfl rfl ?_
        refine z_goto (tgt := 26) dX12_layPart_127 (by decide) ?_
        exact z_sub (by exact ⟨rfl, ⟨rfl, ⟨rfl, ⟨rfl, ⟨rfl, trivial⟩⟩⟩⟩⟩) hv
    · have hv := hv.2 q54
      refine z_aload_n dX12_layPart_60 rfl ?_
      refine z_getP dX12_layPart_61 zf_X12_92 zn_160 zo_160 (fun _ _ _ _ _ => rfl) (h26 160 44 186 zp_160_44) ?_
      refine z_iload dX12_layPart_64 rfl ?_
      refine z_iaload dX12_layPart_66 zn_186 zh_186 h27 ?_
      refine z_if_ge (tgt := 97) dX12_layPart_67 (by decide) (fun q53 => ?_) (fun q53 => ?_)
      · have hv := hv.1 q53
        refine z_iload dX12_layPart_97 rfl ?_
        refine z_if_ne (tgt := 105) dX12_layPart_99 (by decide) (fun q39 => ?_) (fun q39 => ?_)
        · have hv := hv.1 q39
          refine z_aload_n dX12_layPart_105 rfl ?_
          refine z_getP dX12_layPart_106 zf_X12_92 zn_160 zo_160 (fun _ _ _ _ _ => rfl) (h26 160 44 186 zp_160_44) ?_
          refine z_iload dX12_layPart_109 rfl ?_
          refine z_iload_n dX12_layPart_111 rfl ?_
          refine z_iastore dX12_layPart_112 zn_186 zh_186 h27 (z_nmI (fun I35 e34 => ?_))
          have hv := hv I35 e34
          refine z_aload_n dX12_layPart_113 rfl ?_
          refine z_getP dX12_layPart_114 zf_X12_86 zn_160 zo_160 (fun _ _ _ _ _ => rfl) (h26 160 42 184 zp_160_42) ?_
          refine z_iload_n dX12_layPart_117 rfl ?_
          refine z_iload dX12_layPart_118 rfl ?_
          obtain ⟨h36, hv⟩ := hv
          refine z_iastore dX12_layPart_120 zn_184 zh_184 h36 (z_nmI (fun I38 e37 => ?_))
          have hv := hv I38 e37
          refine z_iinc (v2 := x2 + 1) (lv2 := [some (.ref 160), some (.int p1), some (.int (x2 + 1)), some (.int x3), some (.int x4), some (.int x5), some (.int x6)]) dX12_layPart_121 rfl (by rfl) (by decide) rfl rfl ?_
          refine z_iinc (v2 := x4 + 1) (lv2 := [some (.ref 160), some (.int p1), some (.int (x2 + 1)), some (.int x3), some (.int (x4 + 1)), some (.int x5), some (.int x6)]) dX12_layPart_124 rfl (by rfl) (by decide) rfl rfl ?_
          refine z_goto (tgt := 26) dX12_layPart_127 (by decide) ?_
          exact z_sub (by exact ⟨rfl, ⟨rfl, ⟨rfl, ⟨rfl, ⟨rfl, trivial⟩⟩⟩⟩⟩) hv
        · have hv := hv.2 q39
          refine z_goto (tgt := 124) dX12_layPart_102 (by decide) ?_
          refine z_iinc (v2 := x4 + 1) (lv2 := [some (.ref 160), some (.int p1), some (.int x2), some (.int x3), some (.int (x4 + 1)), some (.int x5), some (.int x6)]) dX12_layPart_124 rfl (by rfl) (by decide) rfl rfl ?_
          refine z_goto (tgt := 26) dX12_layPart_127 (by decide) ?_
          exact z_sub (by exact ⟨rfl, ⟨rfl, ⟨rfl, ⟨rfl, ⟨rfl, trivial⟩⟩⟩⟩⟩) hv
      · have hv := hv.2 q53
        refine z_iload dX12_layPart_70 rfl ?_
        refine z_if_ne (tgt := 97) dX12_layPart_72 (by decide) (fun q52 => ?_) (fun q52 => ?_)
        · have hv := hv.1 q52
          refine z_iload dX12_layPart_97 rfl ?_
          refine z_if_ne (tgt := 105) dX12_layPart_99 (by decide) (fun q45 => ?_) (fun q45 => ?_)
          · have hv := hv.1 q45
            refine z_aload_n dX12_layPart_105 rfl ?_
            refine z_getP dX12_layPart_106 zf_X12_92 zn_160 zo_160 (fun _ _ _ _ _ => rfl) (h26 160 44 186 zp_160_44) ?_
            refine z_iload dX12_layPart_109 rfl ?_
            refine z_iload_n dX12_layPart_111 rfl ?_
            refine z_iastore dX12_layPart_112 zn_186 zh_186 h27 (z_nmI (fun I41 e40 => ?_))
            have hv := hv I41 e40
            refine z_aload_n dX12_layPart_113 rfl ?_
            refine z_getP dX12_layPart_114 zf_X12_86 zn_160 zo_160 (fun _ _ _ _ _ => rfl) (h26 160 42 184 zp_160_42) ?_
            refine z_iload_n dX12_layPart_117 rfl ?_
            refine z_iload dX12_layPart_118 rfl ?_
            obtain ⟨h42, hv⟩ := hv
            refine z_iastore dX12_layPart_120 zn_184 zh_184 h42 (z_nmI (fun I44 e43 => ?_))
            have hv := hv I44 e43
            refine z_iinc (v2 := x2 + 1) (lv2 := [some (.ref 160), some (.int p1), some (.int (x2 + 1)), some (.int x3), some (.int x4), some (.int x5), some (.int x6)]) dX12_layPart_121 rfl (by rfl) (by decide) rfl rfl ?_
            refine z_iinc (v2 := x4 + 1) (lv2 := [some (.ref 160), some (.int p1), some (.int (x2 + 1)), some (.int x3), some (.int (x4 + 1)), some (.int x5), some (.int x6)]) dX12_layPart_124 rfl (by rfl) (by decide) rfl rfl ?_
            refine z_goto (tgt := 26) dX12_layPart_127 (by decide) ?_
            exact z_sub (by exact ⟨rfl, ⟨rfl, ⟨rfl, ⟨rfl, ⟨rfl, trivial⟩⟩⟩⟩⟩) hv
          · have hv := hv.2 q45
            refine z_goto (tgt := 124) dX12_layPart_102 (by decide) ?_
            refine z_iinc (v2 := x4 + 1) (lv2 := [some (.ref 160), some (.int p1), some (.int x2), some (.int x3), some (.int (x4 + 1)), some (.int x5), some (.int x6)]) dX12_layPart_124 rfl (by rfl) (by decide) rfl rfl ?_
            refine z_goto (tgt := 26) dX12_layPart_127 (by decide) ?_
            exact z_sub (by exact ⟨rfl, ⟨rfl, ⟨rfl, ⟨rfl, ⟨rfl, trivial⟩⟩⟩⟩⟩) hv
        · have hv := hv.2 q52
          refine z_aload_n dX12_layPart_75 rfl ?_
          refine z_iload dX12_layPart_76 rfl ?_
          refine z_aload_n dX12_layPart_78 rfl ?_
          refine z_getP dX12_layPart_79 zf_X12_86 zn_160 zo_160 (fun _ _ _ _ _ => rfl) (h26 160 42 184 zp_160_42) ?_
          refine z_iload_n dX12_layPart_82 rfl ?_
          obtain ⟨h46, hv⟩ := hv
          refine z_iaload dX12_layPart_83 zn_184 zh_184 h46 ?_
          refine z_iload dX12_layPart_84 rfl ?_
          refine z_callV (As := [.int x6, .int (I13 184 x3.toNatClampNeg), .int x4]) (st := []) dX12_layPart_86 zl_X12_371 zv_X12_areLike (by decide) rfl zn_160 zo_160 rfl rfl (Nat.le_of_ble_eq_true rfl) ⟨Nat.le_refl _, Nat.le_refl _⟩ ⟨Nat.le_refl _, Nat.le_refl _⟩ hv (fun v1 I47 L48 P49 nx1 q50 => ?_)
          obtain ⟨rfl, r51, rfl, hv⟩ := q50
          refine z_istore (lv2 := [some (.ref 160), some (.int p1), some (.int x2), some (.int x3), some (.int x4), some (.int r51), some (.int x6)]) dX12_layPart_89 (by decide) rfl rfl ?_
          refine z_iinc (v2 := x6 + 1) (lv2 := [some (.ref 160), some (.int p1), some (.int x2), some (.int x3), some (.int x4), some (.int r51), some (.int (x6 + 1))]) dX12_layPart_91 rfl (by rfl) (by decide) rfl rfl ?_
          refine z_goto (tgt := 41) dX12_layPart_94 (by decide) ?_
          exact hv
def v_X12_layPart_26 (d : Nat) (Q : zQt) (p1 : Int32) (x2 : Int32) (x3 : Int32) (x4 : Int32) (I : zI) (L : zL) (P : zP) : Prop :=
  zMi zm_X12_worldMany d [.ref 160] I L P (fun r11 I7 L8 P9 =>
    ((r11 ≤ x4 →
      gw_X12_layPart (d + 1) Q 18 [some (.ref 160), some (.int p1), some (.int x2), some (.int (x3 + 1)), none, none, none] [] I7 L8 P9
    ) ∧ (¬ r11 ≤ x4 →
      gw_X12_layPart (d + 1) Q 41 [some (.ref 160), some (.int p1), some (.int x2), some (.int x3), some (.int x4), some (.int 0), some (.int 0)] [] I7 L8 P9
    ))
  )
set_option maxRecDepth 20000 in
theorem g_X12_layPart_26 {d : Nat} {Q : zQt} {p1 : Int32} {x2 : Int32} {x3 : Int32} {x4 : Int32} {I : zI} {L : zL} {P : zP} (hP : zPk P) (hv : v_X12_layPart_26 d Q p1 x2 x3 x4 I L P) : gw_X12_layPart (d + 1) Q 26 [some (.ref 160), some (.int p1), some (.int x2), some (.int x3), some (.int x4), none, none] [] I L P := by
  unfold v_X12_layPart_26 at hv
  refine z_iload dX12_layPart_26 rfl ?_
  refine z_aload_n dX12_layPart_28 rfl ?_
  refine z_callV (As := []) (st := [.int x4]) dX12_layPart_29 zl_X12_346 zv_X12_worldMany (by decide) rfl zn_160 zo_160 rfl rfl (Nat.le_of_ble_eq_true rfl) ⟨Nat.le_refl _, Nat.le_refl _⟩ ⟨Nat.le_refl _, Nat.le_refl _⟩ hv (fun v1 I7 L8 P9 nx1 q10 => ?_)
  obtain ⟨rfl, r11, rfl, hv⟩ := q10
  refine z_icmp_ge (tgt := 130) dX12_layPart_32 (by decide) (fun q12 => ?_) (fun q12 => ?_)
  · have hv := hv.1 q12
    refine z_iinc (v2 := x3 + 1) (lv2 := [some (.ref 160), some (.int p1), some (.int x2), some (.int (x3 + 1)), some (.int x4), none, none]) dX12_layPart_130 rfl (by rfl) (by decide) rfl rfl ?_
    refine z_goto (tgt := 18) dX12_layPart_133 (by decide) ?_
    exact z_sub (by exact ⟨rfl, ⟨rfl, ⟨rfl, ⟨rfl, trivial⟩⟩⟩⟩) hv
  · have hv := hv.2 q12
    refine z_iconst (v := 0) dX12_layPart_35 (by decide) ?_
    refine z_istore (lv2 := [some (.ref 160), some (.int p1), some (.int x2), some (.int x3), some (.int x4), some (.int 0), none]) dX12_layPart_36 (by decide) rfl rfl ?_
    refine z_iconst (v := 0) dX12_layPart_38 (by decide) ?_
    refine z_istore (lv2 := [some (.ref 160), some (.int p1), some (.int x2), some (.int x3), some (.int x4), some (.int 0), some (.int 0)]) dX12_layPart_39 (by decide) rfl rfl ?_
    exact hv
def v_X12_layPart_18 (d : Nat) (Q : zQt) (p1 : Int32) (x2 : Int32) (x3 : Int32) (I : zI) (L : zL) (P : zP) : Prop :=
  ((x2 ≤ x3 →
    Q none I L P 205
  ) ∧ (¬ x2 ≤ x3 →
    gw_X12_layPart (d + 1) Q 26 [some (.ref 160), some (.int p1), some (.int x2), some (.int x3), some (.int 0), none, none] [] I L P
  ))
set_option maxRecDepth 20000 in
theorem g_X12_layPart_18 {d : Nat} {Q : zQt} {p1 : Int32} {x2 : Int32} {x3 : Int32} {I : zI} {L : zL} {P : zP} (hP : zPk P) (hv : v_X12_layPart_18 d Q p1 x2 x3 I L P) : gw_X12_layPart (d + 1) Q 18 [some (.ref 160), some (.int p1), some (.int x2), some (.int x3), none, none, none] [] I L P := by
  unfold v_X12_layPart_18 at hv
  refine z_iload_n dX12_layPart_18 rfl ?_
  refine z_iload_n dX12_layPart_19 rfl ?_
  refine z_icmp_ge (tgt := 136) dX12_layPart_20 (by decide) (fun q6 => ?_) (fun q6 => ?_)
  · have hv := hv.1 q6
    exact z_return dX12_layPart_136 rfl (Nat.le_refl _) (Nat.le_refl _) hv
  · have hv := hv.2 q6
    refine z_iconst (v := 0) dX12_layPart_23 (by decide) ?_
    refine z_istore (lv2 := [some (.ref 160), some (.int p1), some (.int x2), some (.int x3), some (.int 0), none, none]) dX12_layPart_24 (by decide) rfl rfl ?_
    exact hv
def v_X12_layPart (d : Nat) (Q : zQt) (p1 : Int32) (I : zI) (L : zL) (P : zP) : Prop :=
  ∀ I2 : zI, I2 = zuI I 184 (0 : Int32).toNatClampNeg p1 →
  vp_in p1 256 ∧
  ∀ I5 : zI, I5 = zuI I2 186 p1.toNatClampNeg p1 →
  gw_X12_layPart (d + 1) Q 18 [some (.ref 160), some (.int p1), some (.int 1), some (.int 0), none, none, none] [] I5 L P
set_option maxRecDepth 20000 in
theorem g_X12_layPart {d : Nat} {Q : zQt} {p1 : Int32} {I : zI} {L : zL} {P : zP} (hP : zPk P) (hv : v_X12_layPart d Q p1 I L P) : zM zm_X12_layPart (d + 1) 0 0 [.ref 160, .int p1] I L P 205 Q := by
  unfold v_X12_layPart at hv
  refine zM_of (lv0 := [some (.ref 160), some (.int p1), none, none, none, none, none]) (by decide +kernel) (Nat.le_of_ble_eq_true rfl) rfl ?_
  refine z_iconst (v := 1) dX12_layPart_0 (by decide) ?_
  refine z_istore_n (lv2 := [some (.ref 160), some (.int p1), some (.int 1), none, none, none, none]) dX12_layPart_1 (by decide) rfl rfl ?_
  refine z_aload_n dX12_layPart_2 rfl ?_
  refine z_getP dX12_layPart_3 zf_X12_86 zn_160 zo_160 (fun _ _ _ _ _ => rfl) (hP 160 42 184 zp_160_42) ?_
  refine z_iconst (v := 0) dX12_layPart_6 (by decide) ?_
  refine z_iload_n dX12_layPart_7 rfl ?_
  refine z_iastore dX12_layPart_8 zn_184 zh_184 (by unfold vp_in; decide) (z_nmI (fun I2 e1 => ?_))
  have hv := hv I2 e1
  refine z_aload_n dX12_layPart_9 rfl ?_
  refine z_getP dX12_layPart_10 zf_X12_92 zn_160 zo_160 (fun _ _ _ _ _ => rfl) (hP 160 44 186 zp_160_44) ?_
  refine z_iload_n dX12_layPart_13 rfl ?_
  refine z_iload_n dX12_layPart_14 rfl ?_
  obtain ⟨h3, hv⟩ := hv
  refine z_iastore dX12_layPart_15 zn_186 zh_186 h3 (z_nmI (fun I5 e4 => ?_))
  have hv := hv I5 e4
  refine z_iconst (v := 0) dX12_layPart_16 (by decide) ?_
  refine z_istore_n (lv2 := [some (.ref 160), some (.int p1), some (.int 1), some (.int 0), none, none, none]) dX12_layPart_17 (by decide) rfl rfl ?_
  exact hv
abbrev gw_X12_commonOf (d : Nat) (Q : zQt) (pc : Nat) (lv : zV) (st : List Value) (I : zI) (L : zL) (P : zP) : Prop := zW zm_X12_commonOf (zRm d 0 0) 0 0 Q pc lv st I L P 205 0 0
def v_X12_commonOf_77 (d : Nat) (Q : zQt) (p1 : Int32) (x2 : Int32) (I : zI) (L : zL) (P : zP) : Prop :=
  zMi zm_X12_worldMany d [.ref 160] I L P (fun r34 I30 L31 P32 =>
    ((r34 ≤ x2 →
      Q none I30 L31 P32 205
    ) ∧ (¬ r34 ≤ x2 →
      zPk P32 ∧
      vp_in x2 256 ∧
      (((I30 180 x2.toNatClampNeg) = 0 →
        vp_in (p1 + x2) 12288 ∧
        ∀ I39 : zI, I39 = zuI I30 183 (p1 + x2).toNatClampNeg 0 →
        gw_X12_commonOf (d + 1) Q 77 [some (.ref 160), some (.int p1), some (.int (x2 + 1))] [] I39 L31 P32
      ) ∧ (¬ (I30 180 x2.toNatClampNeg) = 0 →
        vp_in (I30 186 x2.toNatClampNeg) 256 ∧
        ((¬ (I30 187 (I30 186 x2.toNatClampNeg).toNatClampNeg) = 0 →
          vp_in (p1 + x2) 12288 ∧
          ∀ I43 : zI, I43 = zuI I30 183 (p1 + x2).toNatClampNeg 0 →
          gw_X12_commonOf (d + 1) Q 77 [some (.ref 160), some (.int p1), some (.int (x2 + 1))] [] I43 L31 P32
        ) ∧ ((I30 187 (I30 186 x2.toNatClampNeg).toNatClampNeg) = 0 →
          vp_in (p1 + x2) 12288 ∧
          ∀ I46 : zI, I46 = zuI I30 183 (p1 + x2).toNatClampNeg 1 →
          gw_X12_commonOf (d + 1) Q 77 [some (.ref 160), some (.int p1), some (.int (x2 + 1))] [] I46 L31 P32
        ))
      ))
    ))
  )
set_option maxRecDepth 20000 in
theorem g_X12_commonOf_77 {d : Nat} {Q : zQt} {p1 : Int32} {x2 : Int32} {I : zI} {L : zL} {P : zP} (hP : zPk P) (hv : v_X12_commonOf_77 d Q p1 x2 I L P) : gw_X12_commonOf (d + 1) Q 77 [some (.ref 160), some (.int p1), some (.int x2)] [] I L P := by
  unfold v_X12_commonOf_77 at hv
  refine z_iload_n dX12_commonOf_77 rfl ?_
  refine z_aload_n dX12_commonOf_78 rfl ?_
  refine z_callV (As := []) (st := [.int x2]) dX12_commonOf_79 zl_X12_346 zv_X12_worldMany (by decide) rfl zn_160 zo_160 rfl rfl (Nat.le_of_ble_eq_true rfl) ⟨Nat.le_refl _, Nat.le_refl _⟩ ⟨Nat.le_refl _, Nat.le_refl _⟩ hv (fun v1 I30 L31 P32 nx1 q33 => ?_)
  obtain ⟨rfl, r34, rfl, hv⟩ := q33
  refine z_icmp_ge (tgt := 127) dX12_commonOf_82 (by decide) (fun q49 => ?_) (fun q49 => ?_)
  · have hv := hv.1 q49
    exact z_return dX12_commonOf_127 rfl (Nat.le_refl _) (Nat.le_refl _) hv
  · have hv := hv.2 q49
    refine z_aload_n dX12_commonOf_85 rfl ?_
    obtain ⟨h35, hv⟩ := hv
    refine z_getP dX12_commonOf_86 zf_X12_83 zn_160 zo_160 (fun _ _ _ _ _ => rfl) (h35 160 41 183 zp_160_41) ?_
    refine z_iload_n dX12_commonOf_89 rfl ?_
    refine z_iload_n dX12_commonOf_90 rfl ?_
    refine z_iadd dX12_commonOf_91 ?_
    refine z_aload_n dX12_commonOf_92 rfl ?_
    refine z_getP dX12_commonOf_93 zf_X12_74 zn_160 zo_160 (fun _ _ _ _ _ => rfl) (h35 160 35 180 zp_160_35) ?_
    refine z_iload_n dX12_commonOf_96 rfl ?_
    obtain ⟨h36, hv⟩ := hv
    refine z_zaload dX12_commonOf_97 zn_180 zh_180 h36 ?_
    refine z_if_eq (tgt := 119) dX12_commonOf_98 (by decide) (fun q48 => ?_) (fun q48 => ?_)
    · have hv := hv.1 q48
      refine z_iconst (v := 0) dX12_commonOf_119 (by decide) ?_
      obtain ⟨h37, hv⟩ := hv
      refine z_iastore dX12_commonOf_120 zn_183 zh_183 h37 (z_nmI (fun I39 e38 => ?_))
      have hv := hv I39 e38
      refine z_iinc (v2 := x2 + 1) (lv2 := [some (.ref 160), some (.int p1), some (.int (x2 + 1))]) dX12_commonOf_121 rfl (by rfl) (by decide) rfl rfl ?_
      refine z_goto (tgt := 77) dX12_commonOf_124 (by decide) ?_
      exact hv
    · have hv := hv.2 q48
      refine z_aload_n dX12_commonOf_101 rfl ?_
      refine z_getP dX12_commonOf_102 zf_X12_95 zn_160 zo_160 (fun _ _ _ _ _ => rfl) (h35 160 45 187 zp_160_45) ?_
      refine z_aload_n dX12_commonOf_105 rfl ?_
      refine z_getP dX12_commonOf_106 zf_X12_92 zn_160 zo_160 (fun _ _ _ _ _ => rfl) (h35 160 44 186 zp_160_44) ?_
      refine z_iload_n dX12_commonOf_109 rfl ?_
      refine z_iaload dX12_commonOf_110 zn_186 zh_186 h36 ?_
      obtain ⟨h40, hv⟩ := hv
      refine z_zaload dX12_commonOf_111 zn_187 zh_187 h40 ?_
      refine z_if_ne (tgt := 119) dX12_commonOf_112 (by decide) (fun q47 => ?_) (fun q47 => ?_)
      · have hv := hv.1 q47
        refine z_iconst (v := 0) dX12_commonOf_119 (by decide) ?_
        obtain ⟨h41, hv⟩ := hv
        refine z_iastore dX12_commonOf_120 zn_183 zh_183 h41 (z_nmI (fun I43 e42 => ?_))
        have hv := hv I43 e42
        refine z_iinc (v2 := x2 + 1) (lv2 := [some (.ref 160), some (.int p1), some (.int (x2 + 1))]) dX12_commonOf_121 rfl (by rfl) (by decide) rfl rfl ?_
        refine z_goto (tgt := 77) dX12_commonOf_124 (by decide) ?_
        exact hv
      · have hv := hv.2 q47
        refine z_iconst (v := 1) dX12_commonOf_115 (by decide) ?_
        refine z_goto (tgt := 120) dX12_commonOf_116 (by decide) ?_
        obtain ⟨h44, hv⟩ := hv
        refine z_iastore dX12_commonOf_120 zn_183 zh_183 h44 (z_nmI (fun I46 e45 => ?_))
        have hv := hv I46 e45
        refine z_iinc (v2 := x2 + 1) (lv2 := [some (.ref 160), some (.int p1), some (.int (x2 + 1))]) dX12_commonOf_121 rfl (by rfl) (by decide) rfl rfl ?_
        refine z_goto (tgt := 77) dX12_commonOf_124 (by decide) ?_
        exact hv
def v_X12_commonOf_29 (d : Nat) (Q : zQt) (p1 : Int32) (x2 : Int32) (I : zI) (L : zL) (P : zP) : Prop :=
  zMi zm_X12_worldMany d [.ref 160] I L P (fun r20 I16 L17 P18 =>
    ((r20 ≤ x2 →
      gw_X12_commonOf (d + 1) Q 77 [some (.ref 160), some (.int p1), some (.int 0)] [] I16 L17 P18
    ) ∧ (¬ r20 ≤ x2 →
      zPk P18 ∧
      vp_in x2 256 ∧
      (((I16 180 x2.toNatClampNeg) = 0 →
        gw_X12_commonOf (d + 1) Q 29 [some (.ref 160), some (.int p1), some (.int (x2 + 1))] [] I16 L17 P18
      ) ∧ (¬ (I16 180 x2.toNatClampNeg) = 0 →
        vp_in (p1 + x2) 12288 ∧
        ((¬ (I16 183 (p1 + x2).toNatClampNeg) = 0 →
          gw_X12_commonOf (d + 1) Q 29 [some (.ref 160), some (.int p1), some (.int (x2 + 1))] [] I16 L17 P18
        ) ∧ ((I16 183 (p1 + x2).toNatClampNeg) = 0 →
          vp_in (I16 186 x2.toNatClampNeg) 256 ∧
          ∀ I26 : zI, I26 = zuI I16 187 (I16 186 x2.toNatClampNeg).toNatClampNeg 1 →
          gw_X12_commonOf (d + 1) Q 29 [some (.ref 160), some (.int p1), some (.int (x2 + 1))] [] I26 L17 P18
        ))
      ))
    ))
  )
set_option maxRecDepth 20000 in
theorem g_X12_commonOf_29 {d : Nat} {Q : zQt} {p1 : Int32} {x2 : Int32} {I : zI} {L : zL} {P : zP} (hP : zPk P) (hv : v_X12_commonOf_29 d Q p1 x2 I L P) : gw_X12_commonOf (d + 1) Q 29 [some (.ref 160), some (.int p1), some (.int x2)] [] I L P := by
  unfold v_X12_commonOf_29 at hv
  refine z_iload_n dX12_commonOf_29 rfl ?_
  refine z_aload_n dX12_commonOf_30 rfl ?_
  refine z_callV (As := []) (st := [.int x2]) dX12_commonOf_31 zl_X12_346 zv_X12_worldMany (by decide) rfl zn_160 zo_160 rfl rfl (Nat.le_of_ble_eq_true rfl) ⟨Nat.le_refl _, Nat.le_refl _⟩ ⟨Nat.le_refl _, Nat.le_refl _⟩ hv (fun v1 I16 L17 P18 nx1 q19 => ?_)
  obtain ⟨rfl, r20, rfl, hv⟩ := q19
  refine z_icmp_ge (tgt := 75) dX12_commonOf_34 (by decide) (fun q29 => ?_) (fun q29 => ?_)
  · have hv := hv.1 q29
    refine z_iconst (v := 0) dX12_commonOf_75 (by decide) ?_
    refine z_istore_n (lv2 := [some (.ref 160), some (.int p1), some (.int 0)]) dX12_commonOf_76 (by decide) rfl rfl ?_
    exact hv
  · have hv := hv.2 q29
    refine z_aload_n dX12_commonOf_37 rfl ?_
    obtain ⟨h21, hv⟩ := hv
    refine z_getP dX12_commonOf_38 zf_X12_74 zn_160 zo_160 (fun _ _ _ _ _ => rfl) (h21 160 35 180 zp_160_35) ?_
    refine z_iload_n dX12_commonOf_41 rfl ?_
    obtain ⟨h22, hv⟩ := hv
    refine z_zaload dX12_commonOf_42 zn_180 zh_180 h22 ?_
    refine z_if_eq (tgt := 69) dX12_commonOf_43 (by decide) (fun q28 => ?_) (fun q28 => ?_)
    · have hv := hv.1 q28
      refine z_iinc (v2 := x2 + 1) (lv2 := [some (.ref 160), some (.int p1), some (.int (x2 + 1))]) dX12_commonOf_69 rfl (by rfl) (by decide) rfl rfl ?_
      refine z_goto (tgt := 29) dX12_commonOf_72 (by decide) ?_
      exact hv
    · have hv := hv.2 q28
      refine z_aload_n dX12_commonOf_46 rfl ?_
      refine z_getP dX12_commonOf_47 zf_X12_83 zn_160 zo_160 (fun _ _ _ _ _ => rfl) (h21 160 41 183 zp_160_41) ?_
      refine z_iload_n dX12_commonOf_50 rfl ?_
      refine z_iload_n dX12_commonOf_51 rfl ?_
      refine z_iadd dX12_commonOf_52 ?_
      obtain ⟨h23, hv⟩ := hv
      refine z_iaload dX12_commonOf_53 zn_183 zh_183 h23 ?_
      refine z_if_ne (tgt := 69) dX12_commonOf_54 (by decide) (fun q27 => ?_) (fun q27 => ?_)
      · have hv := hv.1 q27
        refine z_iinc (v2 := x2 + 1) (lv2 := [some (.ref 160), some (.int p1), some (.int (x2 + 1))]) dX12_commonOf_69 rfl (by rfl) (by decide) rfl rfl ?_
        refine z_goto (tgt := 29) dX12_commonOf_72 (by decide) ?_
        exact hv
      · have hv := hv.2 q27
        refine z_aload_n dX12_commonOf_57 rfl ?_
        refine z_getP dX12_commonOf_58 zf_X12_95 zn_160 zo_160 (fun _ _ _ _ _ => rfl) (h21 160 45 187 zp_160_45) ?_
        refine z_aload_n dX12_commonOf_61 rfl ?_
        refine z_getP dX12_commonOf_62 zf_X12_92 zn_160 zo_160 (fun _ _ _ _ _ => rfl) (h21 160 44 186 zp_160_44) ?_
        refine z_iload_n dX12_commonOf_65 rfl ?_
        refine z_iaload dX12_commonOf_66 zn_186 zh_186 h22 ?_
        refine z_iconst (v := 1) dX12_commonOf_67 (by decide) ?_
        obtain ⟨h24, hv⟩ := hv
        refine z_zastore (w := 1) dX12_commonOf_68 zn_187 zh_187 h24 (by decide) (z_nmI (fun I26 e25 => ?_))
        have hv := hv I26 e25
        refine z_iinc (v2 := x2 + 1) (lv2 := [some (.ref 160), some (.int p1), some (.int (x2 + 1))]) dX12_commonOf_69 rfl (by rfl) (by decide) rfl rfl ?_
        refine z_goto (tgt := 29) dX12_commonOf_72 (by decide) ?_
        exact hv
def v_X12_commonOf_6 (d : Nat) (Q : zQt) (p1 : Int32) (x2 : Int32) (I : zI) (L : zL) (P : zP) : Prop :=
  zMi zm_X12_worldMany d [.ref 160] I L P (fun r10 I6 L7 P8 =>
    ((r10 ≤ x2 →
      gw_X12_commonOf (d + 1) Q 29 [some (.ref 160), some (.int p1), some (.int 0)] [] I6 L7 P8
    ) ∧ (¬ r10 ≤ x2 →
      zPk P8 ∧
      vp_in x2 256 ∧
      ∀ I14 : zI, I14 = zuI I6 187 x2.toNatClampNeg 0 →
      gw_X12_commonOf (d + 1) Q 6 [some (.ref 160), some (.int p1), some (.int (x2 + 1))] [] I14 L7 P8
    ))
  )
set_option maxRecDepth 20000 in
theorem g_X12_commonOf_6 {d : Nat} {Q : zQt} {p1 : Int32} {x2 : Int32} {I : zI} {L : zL} {P : zP} (hP : zPk P) (hv : v_X12_commonOf_6 d Q p1 x2 I L P) : gw_X12_commonOf (d + 1) Q 6 [some (.ref 160), some (.int p1), some (.int x2)] [] I L P := by
  unfold v_X12_commonOf_6 at hv
  refine z_iload_n dX12_commonOf_6 rfl ?_
  refine z_aload_n dX12_commonOf_7 rfl ?_
  refine z_callV (As := []) (st := [.int x2]) dX12_commonOf_8 zl_X12_346 zv_X12_worldMany (by decide) rfl zn_160 zo_160 rfl rfl (Nat.le_of_ble_eq_true rfl) ⟨Nat.le_refl _, Nat.le_refl _⟩ ⟨Nat.le_refl _, Nat.le_refl _⟩ hv (fun v1 I6 L7 P8 nx1 q9 => ?_)
  obtain ⟨rfl, r10, rfl, hv⟩ := q9
  refine z_icmp_ge (tgt := 27) dX12_commonOf_11 (by decide) (fun q15 => ?_) (fun q15 => ?_)
  · have hv := hv.1 q15
    refine z_iconst (v := 0) dX12_commonOf_27 (by decide) ?_
    refine z_istore_n (lv2 := [some (.ref 160), some (.int p1), some (.int 0)]) dX12_commonOf_28 (by decide) rfl rfl ?_
    exact hv
  · have hv := hv.2 q15
    refine z_aload_n dX12_commonOf_14 rfl ?_
    obtain ⟨h11, hv⟩ := hv
    refine z_getP dX12_commonOf_15 zf_X12_95 zn_160 zo_160 (fun _ _ _ _ _ => rfl) (h11 160 45 187 zp_160_45) ?_
    refine z_iload_n dX12_commonOf_18 rfl ?_
    refine z_iconst (v := 0) dX12_commonOf_19 (by decide) ?_
    obtain ⟨h12, hv⟩ := hv
    refine z_zastore (w := 0) dX12_commonOf_20 zn_187 zh_187 h12 (by decide) (z_nmI (fun I14 e13 => ?_))
    have hv := hv I14 e13
    refine z_iinc (v2 := x2 + 1) (lv2 := [some (.ref 160), some (.int p1), some (.int (x2 + 1))]) dX12_commonOf_21 rfl (by rfl) (by decide) rfl rfl ?_
    refine z_goto (tgt := 6) dX12_commonOf_24 (by decide) ?_
    exact hv
def v_X12_commonOf (d : Nat) (Q : zQt) (p1 : Int32) (I : zI) (L : zL) (P : zP) : Prop :=
  zMv zm_X12_layParts d [.ref 160] I L P (fun I1 L2 P3 =>
    gw_X12_commonOf (d + 1) Q 6 [some (.ref 160), some (.int p1), some (.int 0)] [] I1 L2 P3
  )
set_option maxRecDepth 20000 in
theorem g_X12_commonOf {d : Nat} {Q : zQt} {p1 : Int32} {I : zI} {L : zL} {P : zP} (hP : zPk P) (hv : v_X12_commonOf d Q p1 I L P) : zM zm_X12_commonOf (d + 1) 0 0 [.ref 160, .int p1] I L P 205 Q := by
  unfold v_X12_commonOf at hv
  refine zM_of (lv0 := [some (.ref 160), some (.int p1), none]) (by decide +kernel) (Nat.le_of_ble_eq_true rfl) rfl ?_
  refine z_aload_n dX12_commonOf_0 rfl ?_
  refine z_callV (As := []) (st := []) dX12_commonOf_1 zl_X12_381 zv_X12_layParts (by decide) rfl zn_160 zo_160 rfl rfl (Nat.le_of_ble_eq_true rfl) ⟨Nat.le_refl _, Nat.le_refl _⟩ ⟨Nat.le_refl _, Nat.le_refl _⟩ hv (fun v1 I1 L2 P3 nx1 q4 => ?_)
  obtain ⟨rfl, rfl, hv⟩ := q4
  refine z_iconst (v := 0) dX12_commonOf_4 (by decide) ?_
  refine z_istore_n (lv2 := [some (.ref 160), some (.int p1), some (.int 0)]) dX12_commonOf_5 (by decide) rfl rfl ?_
  exact hv
abbrev gw_X12_isCommon (d : Nat) (Q : zQt) (pc : Nat) (lv : zV) (st : List Value) (I : zI) (L : zL) (P : zP) : Prop := zW zm_X12_isCommon (zRm d 0 0) 0 0 Q pc lv st I L P 205 0 0
def v_X12_isCommon_6 (d : Nat) (Q : zQt) (p1 : Int32) (x2 : Int32) (I : zI) (L : zL) (P : zP) : Prop :=
  zMi zm_X12_worldMany d [.ref 160] I L P (fun r10 I6 L7 P8 =>
    ((r10 ≤ x2 →
      Q (some (.int 1)) I6 L7 P8 205
    ) ∧ (¬ r10 ≤ x2 →
      zPk P8 ∧
      vp_in x2 256 ∧
      (((I6 180 x2.toNatClampNeg) = 0 →
        gw_X12_isCommon (d + 1) Q 6 [some (.ref 160), some (.int p1), some (.int (x2 + 1))] [] I6 L7 P8
      ) ∧ (¬ (I6 180 x2.toNatClampNeg) = 0 →
        vp_in p1 256 ∧
        ((¬ (I6 186 x2.toNatClampNeg) = (I6 186 p1.toNatClampNeg) →
          gw_X12_isCommon (d + 1) Q 6 [some (.ref 160), some (.int p1), some (.int (x2 + 1))] [] I6 L7 P8
        ) ∧ ((I6 186 x2.toNatClampNeg) = (I6 186 p1.toNatClampNeg) →
          vp_in x2 12288 ∧
          ((¬ (I6 183 x2.toNatClampNeg) = 0 →
            gw_X12_isCommon (d + 1) Q 6 [some (.ref 160), some (.int p1), some (.int (x2 + 1))] [] I6 L7 P8
          ) ∧ ((I6 183 x2.toNatClampNeg) = 0 →
            Q (some (.int 0)) I6 L7 P8 205
          ))
        ))
      ))
    ))
  )
set_option maxRecDepth 20000 in
theorem g_X12_isCommon_6 {d : Nat} {Q : zQt} {p1 : Int32} {x2 : Int32} {I : zI} {L : zL} {P : zP} (hP : zPk P) (hv : v_X12_isCommon_6 d Q p1 x2 I L P) : gw_X12_isCommon (d + 1) Q 6 [some (.ref 160), some (.int p1), some (.int x2)] [] I L P := by
  unfold v_X12_isCommon_6 at hv
  refine z_iload_n dX12_isCommon_6 rfl ?_
  refine z_aload_n dX12_isCommon_7 rfl ?_
  refine z_callV (As := []) (st := [.int x2]) dX12_isCommon_8 zl_X12_346 zv_X12_worldMany (by decide) rfl zn_160 zo_160 rfl rfl (Nat.le_of_ble_eq_true rfl) ⟨Nat.le_refl _, Nat.le_refl _⟩ ⟨Nat.le_refl _, Nat.le_refl _⟩ hv (fun v1 I6 L7 P8 nx1 q9 => ?_)
  obtain ⟨rfl, r10, rfl, hv⟩ := q9
  refine z_icmp_ge (tgt := 55) dX12_isCommon_11 (by decide) (fun q18 => ?_) (fun q18 => ?_)
  · have hv := hv.1 q18
    refine z_iconst (v := 1) dX12_isCommon_55 (by decide) ?_
    exact z_ireturn dX12_isCommon_56 rfl (by decide) (Nat.le_refl _) (Nat.le_refl _) hv
  · have hv := hv.2 q18
    refine z_aload_n dX12_isCommon_14 rfl ?_
    obtain ⟨h11, hv⟩ := hv
    refine z_getP dX12_isCommon_15 zf_X12_74 zn_160 zo_160 (fun _ _ _ _ _ => rfl) (h11 160 35 180 zp_160_35) ?_
    refine z_iload_n dX12_isCommon_18 rfl ?_
    obtain ⟨h12, hv⟩ := hv
    refine z_zaload dX12_isCommon_19 zn_180 zh_180 h12 ?_
    refine z_if_eq (tgt := 49) dX12_isCommon_20 (by decide) (fun q17 => ?_) (fun q17 => ?_)
    · have hv := hv.1 q17
      refine z_iinc (v2 := x2 + 1) (lv2 := [some (.ref 160), some (.int p1), some (.int (x2 + 1))]) dX12_isCommon_49 rfl (by rfl) (by decide) rfl rfl ?_
      refine z_goto (tgt := 6) dX12_isCommon_52 (by decide) ?_
      exact hv
    · have hv := hv.2 q17
      refine z_aload_n dX12_isCommon_23 rfl ?_
      refine z_getP dX12_isCommon_24 zf_X12_92 zn_160 zo_160 (fun _ _ _ _ _ => rfl) (h11 160 44 186 zp_160_44) ?_
      refine z_iload_n dX12_isCommon_27 rfl ?_
      refine z_iaload dX12_isCommon_28 zn_186 zh_186 h12 ?_
      refine z_aload_n dX12_isCommon_29 rfl ?_
      refine z_getP dX12_isCommon_30 zf_X12_92 zn_160 zo_160 (fun _ _ _ _ _ => rfl) (h11 160 44 186 zp_160_44) ?_
      refine z_iload_n dX12_isCommon_33 rfl ?_
      obtain ⟨h13, hv⟩ := hv
      refine z_iaload dX12_isCommon_34 zn_186 zh_186 h13 ?_
      refine z_icmp_ne (tgt := 49) dX12_isCommon_35 (by decide) (fun q16 => ?_) (fun q16 => ?_)
      · have hv := hv.1 q16
        refine z_iinc (v2 := x2 + 1) (lv2 := [some (.ref 160), some (.int p1), some (.int (x2 + 1))]) dX12_isCommon_49 rfl (by rfl) (by decide) rfl rfl ?_
        refine z_goto (tgt := 6) dX12_isCommon_52 (by decide) ?_
        exact hv
      · have hv := hv.2 q16
        refine z_aload_n dX12_isCommon_38 rfl ?_
        refine z_getP dX12_isCommon_39 zf_X12_83 zn_160 zo_160 (fun _ _ _ _ _ => rfl) (h11 160 41 183 zp_160_41) ?_
        refine z_iload_n dX12_isCommon_42 rfl ?_
        obtain ⟨h14, hv⟩ := hv
        refine z_iaload dX12_isCommon_43 zn_183 zh_183 h14 ?_
        refine z_if_ne (tgt := 49) dX12_isCommon_44 (by decide) (fun q15 => ?_) (fun q15 => ?_)
        · have hv := hv.1 q15
          refine z_iinc (v2 := x2 + 1) (lv2 := [some (.ref 160), some (.int p1), some (.int (x2 + 1))]) dX12_isCommon_49 rfl (by rfl) (by decide) rfl rfl ?_
          refine z_goto (tgt := 6) dX12_isCommon_52 (by decide) ?_
          exact hv
        · have hv := hv.2 q15
          refine z_iconst (v := 0) dX12_isCommon_47 (by decide) ?_
          exact z_ireturn dX12_isCommon_48 rfl (by decide) (Nat.le_refl _) (Nat.le_refl _) hv
def v_X12_isCommon (d : Nat) (Q : zQt) (p1 : Int32) (I : zI) (L : zL) (P : zP) : Prop :=
  zMv zm_X12_layParts d [.ref 160] I L P (fun I1 L2 P3 =>
    gw_X12_isCommon (d + 1) Q 6 [some (.ref 160), some (.int p1), some (.int 0)] [] I1 L2 P3
  )
set_option maxRecDepth 20000 in
theorem g_X12_isCommon {d : Nat} {Q : zQt} {p1 : Int32} {I : zI} {L : zL} {P : zP} (hP : zPk P) (hv : v_X12_isCommon d Q p1 I L P) : zM zm_X12_isCommon (d + 1) 0 0 [.ref 160, .int p1] I L P 205 Q := by
  unfold v_X12_isCommon at hv
  refine zM_of (lv0 := [some (.ref 160), some (.int p1), none]) (by decide +kernel) (Nat.le_of_ble_eq_true rfl) rfl ?_
  refine z_aload_n dX12_isCommon_0 rfl ?_
  refine z_callV (As := []) (st := []) dX12_isCommon_1 zl_X12_381 zv_X12_layParts (by decide) rfl zn_160 zo_160 rfl rfl (Nat.le_of_ble_eq_true rfl) ⟨Nat.le_refl _, Nat.le_refl _⟩ ⟨Nat.le_refl _, Nat.le_refl _⟩ hv (fun v1 I1 L2 P3 nx1 q4 => ?_)
  obtain ⟨rfl, rfl, hv⟩ := q4
  refine z_iconst (v := 0) dX12_isCommon_4 (by decide) ?_
  refine z_istore_n (lv2 := [some (.ref 160), some (.int p1), some (.int 0)]) dX12_isCommon_5 (by decide) rfl rfl ?_
  exact hv
abbrev gw_X12_two (d : Nat) (Q : zQt) (pc : Nat) (lv : zV) (st : List Value) (I : zI) (L : zL) (P : zP) : Prop := zW zm_X12_two (zRm d 0 0) 0 0 Q pc lv st I L P 205 0 0
def v_X12_two (d : Nat) (Q : zQt) (p1 : Int32) (p2 : Int32) (p3 : Int32) (I : zI) (L : zL) (P : zP) : Prop :=
  (p1 = 38 →
    ((p2 = 0 →
      Q (some (.int 0)) I L P 205
    ) ∧ (¬ p2 = 0 →
      ((p3 = 0 →
        Q (some (.int 0)) I L P 205
      ) ∧ (¬ p3 = 0 →
        Q (some (.int 1)) I L P 205
      ))
    ))
  ) ∧
  (p1 = 42 →
    Q (some (.int (p2 * p3))) I L P 205
  ) ∧
  (p1 = 43 →
    Q (some (.int (p2 + p3))) I L P 205
  ) ∧
  (p1 = 45 →
    Q (some (.int (p2 - p3))) I L P 205
  ) ∧
  (p1 = 47 →
    ((¬ p3 = 0 →
      ¬ p3 = 0 ∧
      Q (some (.int (p2 / p3))) I L P 205
    ) ∧ (p3 = 0 →
      Q (some (.int 0)) I L P 205
    ))
  ) ∧
  (p1 = 60 →
    ((p3 ≤ p2 →
      Q (some (.int 0)) I L P 205
    ) ∧ (¬ p3 ≤ p2 →
      Q (some (.int 1)) I L P 205
    ))
  ) ∧
  (p1 = 61 →
    ((¬ p2 = p3 →
      Q (some (.int 0)) I L P 205
    ) ∧ (p2 = p3 →
      Q (some (.int 1)) I L P 205
    ))
  ) ∧
  (p1 = 62 →
    ((p2 ≤ p3 →
      Q (some (.int 0)) I L P 205
    ) ∧ (¬ p2 ≤ p3 →
      Q (some (.int 1)) I L P 205
    ))
  ) ∧
  (¬ p1 = 38 → ¬ p1 = 42 → ¬ p1 = 43 → ¬ p1 = 45 → ¬ p1 = 47 → ¬ p1 = 60 → ¬ p1 = 61 → ¬ p1 = 62 →
    ((¬ p2 = 0 →
      Q (some (.int 1)) I L P 205
    ) ∧ (p2 = 0 →
      ((p3 = 0 →
        Q (some (.int 0)) I L P 205
      ) ∧ (¬ p3 = 0 →
        Q (some (.int 1)) I L P 205
      ))
    ))
  )
set_option maxRecDepth 20000 in
theorem g_X12_two {d : Nat} {Q : zQt} {p1 : Int32} {p2 : Int32} {p3 : Int32} {I : zI} {L : zL} {P : zP} (hP : zPk P) (hv : v_X12_two d Q p1 p2 p3 I L P) : zM zm_X12_two d 0 0 [.int p1, .int p2, .int p3] I L P 205 Q := by
  unfold v_X12_two at hv
  refine zM_of (lv0 := [some (.int p1), some (.int p2), some (.int p3)]) (by decide +kernel) (Nat.le_of_ble_eq_true rfl) rfl ?_
  refine z_iload_n dX12_two_0 rfl ?_
  by_cases q10 : p1 = 38
  · have hv := hv.1 q10
    refine z_tableIn (off := 172) (tgt := 173) dX12_two_1 (by rw [q10]; decide) (by rw [q10]; decide) (by rw [q10]; decide) (by decide) ?_
    refine z_iload_n dX12_two_173 rfl ?_
    refine z_if_eq (tgt := 185) dX12_two_174 (by decide) (fun q2 => ?_) (fun q2 => ?_)
    · have hv := hv.1 q2
      refine z_iconst (v := 0) dX12_two_185 (by decide) ?_
      exact z_ireturn dX12_two_186 rfl rfl (Nat.le_refl _) (Nat.le_refl _) hv
    · have hv := hv.2 q2
      refine z_iload_n dX12_two_177 rfl ?_
      refine z_if_eq (tgt := 185) dX12_two_178 (by decide) (fun q1 => ?_) (fun q1 => ?_)
      · have hv := hv.1 q1
        refine z_iconst (v := 0) dX12_two_185 (by decide) ?_
        exact z_ireturn dX12_two_186 rfl rfl (Nat.le_refl _) (Nat.le_refl _) hv
      · have hv := hv.2 q1
        refine z_iconst (v := 1) dX12_two_181 (by decide) ?_
        refine z_goto (tgt := 186) dX12_two_182 (by decide) ?_
        exact z_ireturn dX12_two_186 rfl rfl (Nat.le_refl _) (Nat.le_refl _) hv
  by_cases q11 : p1 = 39
  · have hv := hv.2.2.2.2.2.2.2.2 (by rw [q11]; decide) (by rw [q11]; decide) (by rw [q11]; decide) (by rw [q11]; decide) (by rw [q11]; decide) (by rw [q11]; decide) (by rw [q11]; decide) (by rw [q11]; decide)
    refine z_tableIn (off := 186) (tgt := 187) dX12_two_1 (by rw [q11]; decide) (by rw [q11]; decide) (by rw [q11]; decide) (by decide) ?_
    refine z_iload_n dX12_two_187 rfl ?_
    refine z_if_ne (tgt := 195) dX12_two_188 (by decide) (fun q9 => ?_) (fun q9 => ?_)
    · have hv := hv.1 q9
      refine z_iconst (v := 1) dX12_two_195 (by decide) ?_
      refine z_goto (tgt := 200) dX12_two_196 (by decide) ?_
      exact z_ireturn dX12_two_200 rfl rfl (Nat.le_refl _) (Nat.le_refl _) hv
    · have hv := hv.2 q9
      refine z_iload_n dX12_two_191 rfl ?_
      refine z_if_eq (tgt := 199) dX12_two_192 (by decide) (fun q8 => ?_) (fun q8 => ?_)
      · have hv := hv.1 q8
        refine z_iconst (v := 0) dX12_two_199 (by decide) ?_
        exact z_ireturn dX12_two_200 rfl rfl (Nat.le_refl _) (Nat.le_refl _) hv
      · have hv := hv.2 q8
        refine z_iconst (v := 1) dX12_two_195 (by decide) ?_
        refine z_goto (tgt := 200) dX12_two_196 (by decide) ?_
        exact z_ireturn dX12_two_200 rfl rfl (Nat.le_refl _) (Nat.le_refl _) hv
  by_cases q12 : p1 = 40
  · have hv := hv.2.2.2.2.2.2.2.2 (by rw [q12]; decide) (by rw [q12]; decide) (by rw [q12]; decide) (by rw [q12]; decide) (by rw [q12]; decide) (by rw [q12]; decide) (by rw [q12]; decide) (by rw [q12]; decide)
    refine z_tableIn (off := 186) (tgt := 187) dX12_two_1 (by rw [q12]; decide) (by rw [q12]; decide) (by rw [q12]; decide) (by decide) ?_
    refine z_iload_n dX12_two_187 rfl ?_
    refine z_if_ne (tgt := 195) dX12_two_188 (by decide) (fun q9 => ?_) (fun q9 => ?_)
    · have hv := hv.1 q9
      refine z_iconst (v := 1) dX12_two_195 (by decide) ?_
      refine z_goto (tgt := 200) dX12_two_196 (by decide) ?_
      exact z_ireturn dX12_two_200 rfl rfl (Nat.le_refl _) (Nat.le_refl _) hv
    · have hv := hv.2 q9
      refine z_iload_n dX12_two_191 rfl ?_
      refine z_if_eq (tgt := 199) dX12_two_192 (by decide) (fun q8 => ?_) (fun q8 => ?_)
      · have hv := hv.1 q8
        refine z_iconst (v := 0) dX12_two_199 (by decide) ?_
        exact z_ireturn dX12_two_200 rfl rfl (Nat.le_refl _) (Nat.le_refl _) hv
      · have hv := hv.2 q8
        refine z_iconst (v := 1) dX12_two_195 (by decide) ?_
        refine z_goto (tgt := 200) dX12_two_196 (by decide) ?_
        exact z_ireturn dX12_two_200 rfl rfl (Nat.le_refl _) (Nat.le_refl _) hv
  by_cases q13 : p1 = 41
  · have hv := hv.2.2.2.2.2.2.2.2 (by rw [q13]; decide) (by rw [q13]; decide) (by rw [q13]; decide) (by rw [q13]; decide) (by rw [q13]; decide) (by rw [q13]; decide) (by rw [q13]; decide) (by rw [q13]; decide)
    refine z_tableIn (off := 186) (tgt := 187) dX12_two_1 (by rw [q13]; decide) (by rw [q13]; decide) (by rw [q13]; decide) (by decide) ?_
    refine z_iload_n dX12_two_187 rfl ?_
    refine z_if_ne (tgt := 195) dX12_two_188 (by decide) (fun q9 => ?_) (fun q9 => ?_)
    · have hv := hv.1 q9
      refine z_iconst (v := 1) dX12_two_195 (by decide) ?_
      refine z_goto (tgt := 200) dX12_two_196 (by decide) ?_
      exact z_ireturn dX12_two_200 rfl rfl (Nat.le_refl _) (Nat.le_refl _) hv
    · have hv := hv.2 q9
      refine z_iload_n dX12_two_191 rfl ?_
      refine z_if_eq (tgt := 199) dX12_two_192 (by decide) (fun q8 => ?_) (fun q8 => ?_)
      · have hv := hv.1 q8
        refine z_iconst (v := 0) dX12_two_199 (by decide) ?_
        exact z_ireturn dX12_two_200 rfl rfl (Nat.le_refl _) (Nat.le_refl _) hv
      · have hv := hv.2 q8
        refine z_iconst (v := 1) dX12_two_195 (by decide) ?_
        refine z_goto (tgt := 200) dX12_two_196 (by decide) ?_
        exact z_ireturn dX12_two_200 rfl rfl (Nat.le_refl _) (Nat.le_refl _) hv
  by_cases q14 : p1 = 42
  · have hv := hv.2.1 q14
    refine z_tableIn (off := 123) (tgt := 124) dX12_two_1 (by rw [q14]; decide) (by rw [q14]; decide) (by rw [q14]; decide) (by decide) ?_
    refine z_iload_n dX12_two_124 rfl ?_
    refine z_iload_n dX12_two_125 rfl ?_
    refine z_imul dX12_two_126 ?_
    exact z_ireturn dX12_two_127 rfl rfl (Nat.le_refl _) (Nat.le_refl _) hv
  by_cases q15 : p1 = 43
  · have hv := hv.2.2.1 q15
    refine z_tableIn (off := 115) (tgt := 116) dX12_two_1 (by rw [q15]; decide) (by rw [q15]; decide) (by rw [q15]; decide) (by decide) ?_
    refine z_iload_n dX12_two_116 rfl ?_
    refine z_iload_n dX12_two_117 rfl ?_
    refine z_iadd dX12_two_118 ?_
    exact z_ireturn dX12_two_119 rfl rfl (Nat.le_refl _) (Nat.le_refl _) hv
  by_cases q16 : p1 = 44
  · have hv := hv.2.2.2.2.2.2.2.2 (by rw [q16]; decide) (by rw [q16]; decide) (by rw [q16]; decide) (by rw [q16]; decide) (by rw [q16]; decide) (by rw [q16]; decide) (by rw [q16]; decide) (by rw [q16]; decide)
    refine z_tableIn (off := 186) (tgt := 187) dX12_two_1 (by rw [q16]; decide) (by rw [q16]; decide) (by rw [q16]; decide) (by decide) ?_
    refine z_iload_n dX12_two_187 rfl ?_
    refine z_if_ne (tgt := 195) dX12_two_188 (by decide) (fun q9 => ?_) (fun q9 => ?_)
    · have hv := hv.1 q9
      refine z_iconst (v := 1) dX12_two_195 (by decide) ?_
      refine z_goto (tgt := 200) dX12_two_196 (by decide) ?_
      exact z_ireturn dX12_two_200 rfl rfl (Nat.le_refl _) (Nat.le_refl _) hv
    · have hv := hv.2 q9
      refine z_iload_n dX12_two_191 rfl ?_
      refine z_if_eq (tgt := 199) dX12_two_192 (by decide) (fun q8 => ?_) (fun q8 => ?_)
      · have hv := hv.1 q8
        refine z_iconst (v := 0) dX12_two_199 (by decide) ?_
        exact z_ireturn dX12_two_200 rfl rfl (Nat.le_refl _) (Nat.le_refl _) hv
      · have hv := hv.2 q8
        refine z_iconst (v := 1) dX12_two_195 (by decide) ?_
        refine z_goto (tgt := 200) dX12_two_196 (by decide) ?_
        exact z_ireturn dX12_two_200 rfl rfl (Nat.le_refl _) (Nat.le_refl _) hv
  by_cases q17 : p1 = 45
  · have hv := hv.2.2.2.1 q17
    refine z_tableIn (off := 119) (tgt := 120) dX12_two_1 (by rw [q17]; decide) (by rw [q17]; decide) (by rw [q17]; decide) (by decide) ?_
    refine z_iload_n dX12_two_120 rfl ?_
    refine z_iload_n dX12_two_121 rfl ?_
    refine z_isub dX12_two_122 ?_
    exact z_ireturn dX12_two_123 rfl rfl (Nat.le_refl _) (Nat.le_refl _) hv
  by_cases q18 : p1 = 46
  · have hv := hv.2.2.2.2.2.2.2.2 (by rw [q18]; decide) (by rw [q18]; decide) (by rw [q18]; decide) (by rw [q18]; decide) (by rw [q18]; decide) (by rw [q18]; decide) (by rw [q18]; decide) (by rw [q18]; decide)
    refine z_tableIn (off := 186) (tgt := 187) dX12_two_1 (by rw [q18]; decide) (by rw [q18]; decide) (by rw [q18]; decide) (by decide) ?_
    refine z_iload_n dX12_two_187 rfl ?_
    refine z_if_ne (tgt := 195) dX12_two_188 (by decide) (fun q9 => ?_) (fun q9 => ?_)
    · have hv := hv.1 q9
      refine z_iconst (v := 1) dX12_two_195 (by decide) ?_
      refine z_goto (tgt := 200) dX12_two_196 (by decide) ?_
      exact z_ireturn dX12_two_200 rfl rfl (Nat.le_refl _) (Nat.le_refl _) hv
    · have hv := hv.2 q9
      refine z_iload_n dX12_two_191 rfl ?_
      refine z_if_eq (tgt := 199) dX12_two_192 (by decide) (fun q8 => ?_) (fun q8 => ?_)
      · have hv := hv.1 q8
        refine z_iconst (v := 0) dX12_two_199 (by decide) ?_
        exact z_ireturn dX12_two_200 rfl rfl (Nat.le_refl _) (Nat.le_refl _) hv
      · have hv := hv.2 q8
        refine z_iconst (v := 1) dX12_two_195 (by decide) ?_
        refine z_goto (tgt := 200) dX12_two_196 (by decide) ?_
        exact z_ireturn dX12_two_200 rfl rfl (Nat.le_refl _) (Nat.le_refl _) hv
  by_cases q19 : p1 = 47
  · have hv := hv.2.2.2.2.1 q19
    refine z_tableIn (off := 127) (tgt := 128) dX12_two_1 (by rw [q19]; decide) (by rw [q19]; decide) (by rw [q19]; decide) (by decide) ?_
    refine z_iload_n dX12_two_128 rfl ?_
    refine z_if_ne (tgt := 136) dX12_two_129 (by decide) (fun q4 => ?_) (fun q4 => ?_)
    · have hv := hv.1 q4
      refine z_iload_n dX12_two_136 rfl ?_
      refine z_iload_n dX12_two_137 rfl ?_
      obtain ⟨h3, hv⟩ := hv
      refine z_idiv dX12_two_138 h3 ?_
      exact z_ireturn dX12_two_139 rfl rfl (Nat.le_refl _) (Nat.le_refl _) hv
    · have hv := hv.2 q4
      refine z_iconst (v := 0) dX12_two_132 (by decide) ?_
      refine z_goto (tgt := 139) dX12_two_133 (by decide) ?_
      exact z_ireturn dX12_two_139 rfl rfl (Nat.le_refl _) (Nat.le_refl _) hv
  by_cases q20 : p1 = 48
  · have hv := hv.2.2.2.2.2.2.2.2 (by rw [q20]; decide) (by rw [q20]; decide) (by rw [q20]; decide) (by rw [q20]; decide) (by rw [q20]; decide) (by rw [q20]; decide) (by rw [q20]; decide) (by rw [q20]; decide)
    refine z_tableIn (off := 186) (tgt := 187) dX12_two_1 (by rw [q20]; decide) (by rw [q20]; decide) (by rw [q20]; decide) (by decide) ?_
    refine z_iload_n dX12_two_187 rfl ?_
    refine z_if_ne (tgt := 195) dX12_two_188 (by decide) (fun q9 => ?_) (fun q9 => ?_)
    · have hv := hv.1 q9
      refine z_iconst (v := 1) dX12_two_195 (by decide) ?_
      refine z_goto (tgt := 200) dX12_two_196 (by decide) ?_
      exact z_ireturn dX12_two_200 rfl rfl (Nat.le_refl _) (Nat.le_refl _) hv
    · have hv := hv.2 q9
      refine z_iload_n dX12_two_191 rfl ?_
      refine z_if_eq (tgt := 199) dX12_two_192 (by decide) (fun q8 => ?_) (fun q8 => ?_)
      · have hv := hv.1 q8
        refine z_iconst (v := 0) dX12_two_199 (by decide) ?_
        exact z_ireturn dX12_two_200 rfl rfl (Nat.le_refl _) (Nat.le_refl _) hv
      · have hv := hv.2 q8
        refine z_iconst (v := 1) dX12_two_195 (by decide) ?_
        refine z_goto (tgt := 200) dX12_two_196 (by decide) ?_
        exact z_ireturn dX12_two_200 rfl rfl (Nat.le_refl _) (Nat.le_refl _) hv
  by_cases q21 : p1 = 49
  · have hv := hv.2.2.2.2.2.2.2.2 (by rw [q21]; decide) (by rw [q21]; decide) (by rw [q21]; decide) (by rw [q21]; decide) (by rw [q21]; decide) (by rw [q21]; decide) (by rw [q21]; decide) (by rw [q21]; decide)
    refine z_tableIn (off := 186) (tgt := 187) dX12_two_1 (by rw [q21]; decide) (by rw [q21]; decide) (by rw [q21]; decide) (by decide) ?_
    refine z_iload_n dX12_two_187 rfl ?_
    refine z_if_ne (tgt := 195) dX12_two_188 (by decide) (fun q9 => ?_) (fun q9 => ?_)
    · have hv := hv.1 q9
      refine z_iconst (v := 1) dX12_two_195 (by decide) ?_
      refine z_goto (tgt := 200) dX12_two_196 (by decide) ?_
      exact z_ireturn dX12_two_200 rfl rfl (Nat.le_refl _) (Nat.le_refl _) hv
    · have hv := hv.2 q9
      refine z_iload_n dX12_two_191 rfl ?_
      refine z_if_eq (tgt := 199) dX12_two_192 (by decide) (fun q8 => ?_) (fun q8 => ?_)
      · have hv := hv.1 q8
        refine z_iconst (v := 0) dX12_two_199 (by decide) ?_
        exact z_ireturn dX12_two_200 rfl rfl (Nat.le_refl _) (Nat.le_refl _) hv
      · have hv := hv.2 q8
        refine z_iconst (v := 1) dX12_two_195 (by decide) ?_
        refine z_goto (tgt := 200) dX12_two_196 (by decide) ?_
        exact z_ireturn dX12_two_200 rfl rfl (Nat.le_refl _) (Nat.le_refl _) hv
  by_cases q22 : p1 = 50
  · have hv := hv.2.2.2.2.2.2.2.2 (by rw [q22]; decide) (by rw [q22]; decide) (by rw [q22]; decide) (by rw [q22]; decide) (by rw [q22]; decide) (by rw [q22]; decide) (by rw [q22]; decide) (by rw [q22]; decide)
    refine z_tableIn (off := 186) (tgt := 187) dX12_two_1 (by rw [q22]; decide) (by rw [q22]; decide) (by rw [q22]; decide) (by decide) ?_
    refine z_iload_n dX12_two_187 rfl ?_
    refine z_if_ne (tgt := 195) dX12_two_188 (by decide) (fun q9 => ?_) (fun q9 => ?_)
    · have hv := hv.1 q9
      refine z_iconst (v := 1) dX12_two_195 (by decide) ?_
      refine z_goto (tgt := 200) dX12_two_196 (by decide) ?_
      exact z_ireturn dX12_two_200 rfl rfl (Nat.le_refl _) (Nat.le_refl _) hv
    · have hv := hv.2 q9
      refine z_iload_n dX12_two_191 rfl ?_
      refine z_if_eq (tgt := 199) dX12_two_192 (by decide) (fun q8 => ?_) (fun q8 => ?_)
      · have hv := hv.1 q8
        refine z_iconst (v := 0) dX12_two_199 (by decide) ?_
        exact z_ireturn dX12_two_200 rfl rfl (Nat.le_refl _) (Nat.le_refl _) hv
      · have hv := hv.2 q8
        refine z_iconst (v := 1) dX12_two_195 (by decide) ?_
        refine z_goto (tgt := 200) dX12_two_196 (by decide) ?_
        exact z_ireturn dX12_two_200 rfl rfl (Nat.le_refl _) (Nat.le_refl _) hv
  by_cases q23 : p1 = 51
  · have hv := hv.2.2.2.2.2.2.2.2 (by rw [q23]; decide) (by rw [q23]; decide) (by rw [q23]; decide) (by rw [q23]; decide) (by rw [q23]; decide) (by rw [q23]; decide) (by rw [q23]; decide) (by rw [q23]; decide)
    refine z_tableIn (off := 186) (tgt := 187) dX12_two_1 (by rw [q23]; decide) (by rw [q23]; decide) (by rw [q23]; decide) (by decide) ?_
    refine z_iload_n dX12_two_187 rfl ?_
    refine z_if_ne (tgt := 195) dX12_two_188 (by decide) (fun q9 => ?_) (fun q9 => ?_)
    · have hv := hv.1 q9
      refine z_iconst (v := 1) dX12_two_195 (by decide) ?_
      refine z_goto (tgt := 200) dX12_two_196 (by decide) ?_
      exact z_ireturn dX12_two_200 rfl rfl (Nat.le_refl _) (Nat.le_refl _) hv
    · have hv := hv.2 q9
      refine z_iload_n dX12_two_191 rfl ?_
      refine z_if_eq (tgt := 199) dX12_two_192 (by decide) (fun q8 => ?_) (fun q8 => ?_)
      · have hv := hv.1 q8
        refine z_iconst (v := 0) dX12_two_199 (by decide) ?_
        exact z_ireturn dX12_two_200 rfl rfl (Nat.le_refl _) (Nat.le_refl _) hv
      · have hv := hv.2 q8
        refine z_iconst (v := 1) dX12_two_195 (by decide) ?_
        refine z_goto (tgt := 200) dX12_two_196 (by decide) ?_
        exact z_ireturn dX12_two_200 rfl rfl (Nat.le_refl _) (Nat.le_refl _) hv
  by_cases q24 : p1 = 52
  · have hv := hv.2.2.2.2.2.2.2.2 (by rw [q24]; decide) (by rw [q24]; decide) (by rw [q24]; decide) (by rw [q24]; decide) (by rw [q24]; decide) (by rw [q24]; decide) (by rw [q24]; decide) (by rw [q24]; decide)
    refine z_tableIn (off := 186) (tgt := 187) dX12_two_1 (by rw [q24]; decide) (by rw [q24]; decide) (by rw [q24]; decide) (by decide) ?_
    refine z_iload_n dX12_two_187 rfl ?_
    refine z_if_ne (tgt := 195) dX12_two_188 (by decide) (fun q9 => ?_) (fun q9 => ?_)
    · have hv := hv.1 q9
      refine z_iconst (v := 1) dX12_two_195 (by decide) ?_
      refine z_goto (tgt := 200) dX12_two_196 (by decide) ?_
      exact z_ireturn dX12_two_200 rfl rfl (Nat.le_refl _) (Nat.le_refl _) hv
    · have hv := hv.2 q9
      refine z_iload_n dX12_two_191 rfl ?_
      refine z_if_eq (tgt := 199) dX12_two_192 (by decide) (fun q8 => ?_) (fun q8 => ?_)
      · have hv := hv.1 q8
        refine z_iconst (v := 0) dX12_two_199 (by decide) ?_
        exact z_ireturn dX12_two_200 rfl rfl (Nat.le_refl _) (Nat.le_refl _) hv
      · have hv := hv.2 q8
        refine z_iconst (v := 1) dX12_two_195 (by decide) ?_
        refine z_goto (tgt := 200) dX12_two_196 (by decide) ?_
        exact z_ireturn dX12_two_200 rfl rfl (Nat.le_refl _) (Nat.le_refl _) hv
  by_cases q25 : p1 = 53
  · have hv := hv.2.2.2.2.2.2.2.2 (by rw [q25]; decide) (by rw [q25]; decide) (by rw [q25]; decide) (by rw [q25]; decide) (by rw [q25]; decide) (by rw [q25]; decide) (by rw [q25]; decide) (by rw [q25]; decide)
    refine z_tableIn (off := 186) (tgt := 187) dX12_two_1 (by rw [q25]; decide) (by rw [q25]; decide) (by rw [q25]; decide) (by decide) ?_
    refine z_iload_n dX12_two_187 rfl ?_
    refine z_if_ne (tgt := 195) dX12_two_188 (by decide) (fun q9 => ?_) (fun q9 => ?_)
    · have hv := hv.1 q9
      refine z_iconst (v := 1) dX12_two_195 (by decide) ?_
      refine z_goto (tgt := 200) dX12_two_196 (by decide) ?_
      exact z_ireturn dX12_two_200 rfl rfl (Nat.le_refl _) (Nat.le_refl _) hv
    · have hv := hv.2 q9
      refine z_iload_n dX12_two_191 rfl ?_
      refine z_if_eq (tgt := 199) dX12_two_192 (by decide) (fun q8 => ?_) (fun q8 => ?_)
      · have hv := hv.1 q8
        refine z_iconst (v := 0) dX12_two_199 (by decide) ?_
        exact z_ireturn dX12_two_200 rfl rfl (Nat.le_refl _) (Nat.le_refl _) hv
      · have hv := hv.2 q8
        refine z_iconst (v := 1) dX12_two_195 (by decide) ?_
        refine z_goto (tgt := 200) dX12_two_196 (by decide) ?_
        exact z_ireturn dX12_two_200 rfl rfl (Nat.le_refl _) (Nat.le_refl _) hv
  by_cases q26 : p1 = 54
  · have hv := hv.2.2.2.2.2.2.2.2 (by rw [q26]; decide) (by rw [q26]; decide) (by rw [q26]; decide) (by rw [q26]; decide) (by rw [q26]; decide) (by rw [q26]; decide) (by rw [q26]; decide) (by rw [q26]; decide)
    refine z_tableIn (off := 186) (tgt := 187) dX12_two_1 (by rw [q26]; decide) (by rw [q26]; decide) (by rw [q26]; decide) (by decide) ?_
    refine z_iload_n dX12_two_187 rfl ?_
    refine z_if_ne (tgt := 195) dX12_two_188 (by decide) (fun q9 => ?_) (fun q9 => ?_)
    · have hv := hv.1 q9
      refine z_iconst (v := 1) dX12_two_195 (by decide) ?_
      refine z_goto (tgt := 200) dX12_two_196 (by decide) ?_
      exact z_ireturn dX12_two_200 rfl rfl (Nat.le_refl _) (Nat.le_refl _) hv
    · have hv := hv.2 q9
      refine z_iload_n dX12_two_191 rfl ?_
      refine z_if_eq (tgt := 199) dX12_two_192 (by decide) (fun q8 => ?_) (fun q8 => ?_)
      · have hv := hv.1 q8
        refine z_iconst (v := 0) dX12_two_199 (by decide) ?_
        exact z_ireturn dX12_two_200 rfl rfl (Nat.le_refl _) (Nat.le_refl _) hv
      · have hv := hv.2 q8
        refine z_iconst (v := 1) dX12_two_195 (by decide) ?_
        refine z_goto (tgt := 200) dX12_two_196 (by decide) ?_
        exact z_ireturn dX12_two_200 rfl rfl (Nat.le_refl _) (Nat.le_refl _) hv
  by_cases q27 : p1 = 55
  · have hv := hv.2.2.2.2.2.2.2.2 (by rw [q27]; decide) (by rw [q27]; decide) (by rw [q27]; decide) (by rw [q27]; decide) (by rw [q27]; decide) (by rw [q27]; decide) (by rw [q27]; decide) (by rw [q27]; decide)
    refine z_tableIn (off := 186) (tgt := 187) dX12_two_1 (by rw [q27]; decide) (by rw [q27]; decide) (by rw [q27]; decide) (by decide) ?_
    refine z_iload_n dX12_two_187 rfl ?_
    refine z_if_ne (tgt := 195) dX12_two_188 (by decide) (fun q9 => ?_) (fun q9 => ?_)
    · have hv := hv.1 q9
      refine z_iconst (v := 1) dX12_two_195 (by decide) ?_
      refine z_goto (tgt := 200) dX12_two_196 (by decide) ?_
      exact z_ireturn dX12_two_200 rfl rfl (Nat.le_refl _) (Nat.le_refl _) hv
    · have hv := hv.2 q9
      refine z_iload_n dX12_two_191 rfl ?_
      refine z_if_eq (tgt := 199) dX12_two_192 (by decide) (fun q8 => ?_) (fun q8 => ?_)
      · have hv := hv.1 q8
        refine z_iconst (v := 0) dX12_two_199 (by decide) ?_
        exact z_ireturn dX12_two_200 rfl rfl (Nat.le_refl _) (Nat.le_refl _) hv
      · have hv := hv.2 q8
        refine z_iconst (v := 1) dX12_two_195 (by decide) ?_
        refine z_goto (tgt := 200) dX12_two_196 (by decide) ?_
        exact z_ireturn dX12_two_200 rfl rfl (Nat.le_refl _) (Nat.le_refl _) hv
  by_cases q28 : p1 = 56
  · have hv := hv.2.2.2.2.2.2.2.2 (by rw [q28]; decide) (by rw [q28]; decide) (by rw [q28]; decide) (by rw [q28]; decide) (by rw [q28]; decide) (by rw [q28]; decide) (by rw [q28]; decide) (by rw [q28]; decide)
    refine z_tableIn (off := 186) (tgt := 187) dX12_two_1 (by rw [q28]; decide) (by rw [q28]; decide) (by rw [q28]; decide) (by decide) ?_
    refine z_iload_n dX12_two_187 rfl ?_
    refine z_if_ne (tgt := 195) dX12_two_188 (by decide) (fun q9 => ?_) (fun q9 => ?_)
    · have hv := hv.1 q9
      refine z_iconst (v := 1) dX12_two_195 (by decide) ?_
      refine z_goto (tgt := 200) dX12_two_196 (by decide) ?_
      exact z_ireturn dX12_two_200 rfl rfl (Nat.le_refl _) (Nat.le_refl _) hv
    · have hv := hv.2 q9
      refine z_iload_n dX12_two_191 rfl ?_
      refine z_if_eq (tgt := 199) dX12_two_192 (by decide) (fun q8 => ?_) (fun q8 => ?_)
      · have hv := hv.1 q8
        refine z_iconst (v := 0) dX12_two_199 (by decide) ?_
        exact z_ireturn dX12_two_200 rfl rfl (Nat.le_refl _) (Nat.le_refl _) hv
      · have hv := hv.2 q8
        refine z_iconst (v := 1) dX12_two_195 (by decide) ?_
        refine z_goto (tgt := 200) dX12_two_196 (by decide) ?_
        exact z_ireturn dX12_two_200 rfl rfl (Nat.le_refl _) (Nat.le_refl _) hv
  by_cases q29 : p1 = 57
  · have hv := hv.2.2.2.2.2.2.2.2 (by rw [q29]; decide) (by rw [q29]; decide) (by rw [q29]; decide) (by rw [q29]; decide) (by rw [q29]; decide) (by rw [q29]; decide) (by rw [q29]; decide) (by rw [q29]; decide)
    refine z_tableIn (off := 186) (tgt := 187) dX12_two_1 (by rw [q29]; decide) (by rw [q29]; decide) (by rw [q29]; decide) (by decide) ?_
    refine z_iload_n dX12_two_187 rfl ?_
    refine z_if_ne (tgt := 195) dX12_two_188 (by decide) (fun q9 => ?_) (fun q9 => ?_)
    · have hv := hv.1 q9
      refine z_iconst (v := 1) dX12_two_195 (by decide) ?_
      refine z_goto (tgt := 200) dX12_two_196 (by decide) ?_
      exact z_ireturn dX12_two_200 rfl rfl (Nat.le_refl _) (Nat.le_refl _) hv
    · have hv := hv.2 q9
      refine z_iload_n dX12_two_191 rfl ?_
      refine z_if_eq (tgt := 199) dX12_two_192 (by decide) (fun q8 => ?_) (fun q8 => ?_)
      · have hv := hv.1 q8
        refine z_iconst (v := 0) dX12_two_199 (by decide) ?_
        exact z_ireturn dX12_two_200 rfl rfl (Nat.le_refl _) (Nat.le_refl _) hv
      · have hv := hv.2 q8
        refine z_iconst (v := 1) dX12_two_195 (by decide) ?_
        refine z_goto (tgt := 200) dX12_two_196 (by decide) ?_
        exact z_ireturn dX12_two_200 rfl rfl (Nat.le_refl _) (Nat.le_refl _) hv
  by_cases q30 : p1 = 58
  · have hv := hv.2.2.2.2.2.2.2.2 (by rw [q30]; decide) (by rw [q30]; decide) (by rw [q30]; decide) (by rw [q30]; decide) (by rw [q30]; decide) (by rw [q30]; decide) (by rw [q30]; decide) (by rw [q30]; decide)
    refine z_tableIn (off := 186) (tgt := 187) dX12_two_1 (by rw [q30]; decide) (by rw [q30]; decide) (by rw [q30]; decide) (by decide) ?_
    refine z_iload_n dX12_two_187 rfl ?_
    refine z_if_ne (tgt := 195) dX12_two_188 (by decide) (fun q9 => ?_) (fun q9 => ?_)
    · have hv := hv.1 q9
      refine z_iconst (v := 1) dX12_two_195 (by decide) ?_
      refine z_goto (tgt := 200) dX12_two_196 (by decide) ?_
      exact z_ireturn dX12_two_200 rfl rfl (Nat.le_refl _) (Nat.le_refl _) hv
    · have hv := hv.2 q9
      refine z_iload_n dX12_two_191 rfl ?_
      refine z_if_eq (tgt := 199) dX12_two_192 (by decide) (fun q8 => ?_) (fun q8 => ?_)
      · have hv := hv.1 q8
        refine z_iconst (v := 0) dX12_two_199 (by decide) ?_
        exact z_ireturn dX12_two_200 rfl rfl (Nat.le_refl _) (Nat.le_refl _) hv
      · have hv := hv.2 q8
        refine z_iconst (v := 1) dX12_two_195 (by decide) ?_
        refine z_goto (tgt := 200) dX12_two_196 (by decide) ?_
        exact z_ireturn dX12_two_200 rfl rfl (Nat.le_refl _) (Nat.le_refl _) hv
  by_cases q31 : p1 = 59
  · have hv := hv.2.2.2.2.2.2.2.2 (by rw [q31]; decide) (by rw [q31]; decide) (by rw [q31]; decide) (by rw [q31]; decide) (by rw [q31]; decide) (by rw [q31]; decide) (by rw [q31]; decide) (by rw [q31]; decide)
    refine z_tableIn (off := 186) (tgt := 187) dX12_two_1 (by rw [q31]; decide) (by rw [q31]; decide) (by rw [q31]; decide) (by decide) ?_
    refine z_iload_n dX12_two_187 rfl ?_
    refine z_if_ne (tgt := 195) dX12_two_188 (by decide) (fun q9 => ?_) (fun q9 => ?_)
    · have hv := hv.1 q9
      refine z_iconst (v := 1) dX12_two_195 (by decide) ?_
      refine z_goto (tgt := 200) dX12_two_196 (by decide) ?_
      exact z_ireturn dX12_two_200 rfl rfl (Nat.le_refl _) (Nat.le_refl _) hv
    · have hv := hv.2 q9
      refine z_iload_n dX12_two_191 rfl ?_
      refine z_if_eq (tgt := 199) dX12_two_192 (by decide) (fun q8 => ?_) (fun q8 => ?_)
      · have hv := hv.1 q8
        refine z_iconst (v := 0) dX12_two_199 (by decide) ?_
        exact z_ireturn dX12_two_200 rfl rfl (Nat.le_refl _) (Nat.le_refl _) hv
      · have hv := hv.2 q8
        refine z_iconst (v := 1) dX12_two_195 (by decide) ?_
        refine z_goto (tgt := 200) dX12_two_196 (by decide) ?_
        exact z_ireturn dX12_two_200 rfl rfl (Nat.le_refl _) (Nat.le_refl _) hv
  by_cases q32 : p1 = 60
  · have hv := hv.2.2.2.2.2.1 q32
    refine z_tableIn (off := 139) (tgt := 140) dX12_two_1 (by rw [q32]; decide) (by rw [q32]; decide) (by rw [q32]; decide) (by decide) ?_
    refine z_iload_n dX12_two_140 rfl ?_
    refine z_iload_n dX12_two_141 rfl ?_
    refine z_icmp_ge (tgt := 149) dX12_two_142 (by decide) (fun q5 => ?_) (fun q5 => ?_)
    · have hv := hv.1 q5
      refine z_iconst (v := 0) dX12_two_149 (by decide) ?_
      exact z_ireturn dX12_two_150 rfl rfl (Nat.le_refl _) (Nat.le_refl _) hv
    · have hv := hv.2 q5
      refine z_iconst (v := 1) dX12_two_145 (by decide) ?_
      refine z_goto (tgt := 150) dX12_two_146 (by decide) ?_
      exact z_ireturn dX12_two_150 rfl rfl (Nat.le_refl _) (Nat.le_refl _) hv
  by_cases q33 : p1 = 61
  · have hv := hv.2.2.2.2.2.2.1 q33
    refine z_tableIn (off := 161) (tgt := 162) dX12_two_1 (by rw [q33]; decide) (by rw [q33]; decide) (by rw [q33]; decide) (by decide) ?_
    refine z_iload_n dX12_two_162 rfl ?_
    refine z_iload_n dX12_two_163 rfl ?_
    refine z_icmp_ne (tgt := 171) dX12_two_164 (by decide) (fun q6 => ?_) (fun q6 => ?_)
    · have hv := hv.1 q6
      refine z_iconst (v := 0) dX12_two_171 (by decide) ?_
      exact z_ireturn dX12_two_172 rfl rfl (Nat.le_refl _) (Nat.le_refl _) hv
    · have hv := hv.2 q6
      refine z_iconst (v := 1) dX12_two_167 (by decide) ?_
      refine z_goto (tgt := 172) dX12_two_168 (by decide) ?_
      exact z_ireturn dX12_two_172 rfl rfl (Nat.le_refl _) (Nat.le_refl _) hv
  by_cases q34 : p1 = 62
  · have hv := hv.2.2.2.2.2.2.2.1 q34
    refine z_tableIn (off := 150) (tgt := 151) dX12_two_1 (by rw [q34]; decide) (by rw [q34]; decide) (by rw [q34]; decide) (by decide) ?_
    refine z_iload_n dX12_two_151 rfl ?_
    refine z_iload_n dX12_two_152 rfl ?_
    refine z_icmp_le (tgt := 160) dX12_two_153 (by decide) (fun q7 => ?_) (fun q7 => ?_)
    · have hv := hv.1 q7
      refine z_iconst (v := 0) dX12_two_160 (by decide) ?_
      exact z_ireturn dX12_two_161 rfl rfl (Nat.le_refl _) (Nat.le_refl _) hv
    · have hv := hv.2 q7
      refine z_iconst (v := 1) dX12_two_156 (by decide) ?_
      refine z_goto (tgt := 161) dX12_two_157 (by decide) ?_
      exact z_ireturn dX12_two_161 rfl rfl (Nat.le_refl _) (Nat.le_refl _) hv
  have hv := hv.2.2.2.2.2.2.2.2 q10 q14 q15 q17 q19 q32 q33 q34
  have tq10 := lv_neT q10 (show (38 : Int32).toInt = 38 by decide)
  have tq11 := lv_neT q11 (show (39 : Int32).toInt = 39 by decide)
  have tq12 := lv_neT q12 (show (40 : Int32).toInt = 40 by decide)
  have tq13 := lv_neT q13 (show (41 : Int32).toInt = 41 by decide)
  have tq14 := lv_neT q14 (show (42 : Int32).toInt = 42 by decide)
  have tq15 := lv_neT q15 (show (43 : Int32).toInt = 43 by decide)
  have tq16 := lv_neT q16 (show (44 : Int32).toInt = 44 by decide)
  have tq17 := lv_neT q17 (show (45 : Int32).toInt = 45 by decide)
  have tq18 := lv_neT q18 (show (46 : Int32).toInt = 46 by decide)
  have tq19 := lv_neT q19 (show (47 : Int32).toInt = 47 by decide)
  have tq20 := lv_neT q20 (show (48 : Int32).toInt = 48 by decide)
  have tq21 := lv_neT q21 (show (49 : Int32).toInt = 49 by decide)
  have tq22 := lv_neT q22 (show (50 : Int32).toInt = 50 by decide)
  have tq23 := lv_neT q23 (show (51 : Int32).toInt = 51 by decide)
  have tq24 := lv_neT q24 (show (52 : Int32).toInt = 52 by decide)
  have tq25 := lv_neT q25 (show (53 : Int32).toInt = 53 by decide)
  have tq26 := lv_neT q26 (show (54 : Int32).toInt = 54 by decide)
  have tq27 := lv_neT q27 (show (55 : Int32).toInt = 55 by decide)
  have tq28 := lv_neT q28 (show (56 : Int32).toInt = 56 by decide)
  have tq29 := lv_neT q29 (show (57 : Int32).toInt = 57 by decide)
  have tq30 := lv_neT q30 (show (58 : Int32).toInt = 58 by decide)
  have tq31 := lv_neT q31 (show (59 : Int32).toInt = 59 by decide)
  have tq32 := lv_neT q32 (show (60 : Int32).toInt = 60 by decide)
  have tq33 := lv_neT q33 (show (61 : Int32).toInt = 61 by decide)
  have tq34 := lv_neT q34 (show (62 : Int32).toInt = 62 by decide)
  refine z_tableOut (tgt := 187) dX12_two_1 (by omega) (by decide) ?_
  refine z_iload_n dX12_two_187 rfl ?_
  refine z_if_ne (tgt := 195) dX12_two_188 (by decide) (fun q9 => ?_) (fun q9 => ?_)
  · have hv := hv.1 q9
    refine z_iconst (v := 1) dX12_two_195 (by decide) ?_
    refine z_goto (tgt := 200) dX12_two_196 (by decide) ?_
    exact z_ireturn dX12_two_200 rfl rfl (Nat.le_refl _) (Nat.le_refl _) hv
  · have hv := hv.2 q9
    refine z_iload_n dX12_two_191 rfl ?_
    refine z_if_eq (tgt := 199) dX12_two_192 (by decide) (fun q8 => ?_) (fun q8 => ?_)
    · have hv := hv.1 q8
      refine z_iconst (v := 0) dX12_two_199 (by decide) ?_
      exact z_ireturn dX12_two_200 rfl rfl (Nat.le_refl _) (Nat.le_refl _) hv
    · have hv := hv.2 q8
      refine z_iconst (v := 1) dX12_two_195 (by decide) ?_
      refine z_goto (tgt := 200) dX12_two_196 (by decide) ?_
      exact z_ireturn dX12_two_200 rfl rfl (Nat.le_refl _) (Nat.le_refl _) hv
abbrev gw_X12_plain (d : Nat) (Q : zQt) (pc : Nat) (lv : zV) (st : List Value) (I : zI) (L : zL) (P : zP) : Prop := zW zm_X12_plain (zRm d 0 0) 0 0 Q pc lv st I L P 205 0 0
def v_X12_plain (d : Nat) (Q : zQt) (p1 : Int32) (p2 : Int32) (p3 : Int32) (I : zI) (L : zL) (P : zP) : Prop :=
  ((¬ p1 = 110 →
    ((¬ p1 = 109 →
      ((¬ p1 = 104 →
        Q (some (.int (((I 160 40) >>> (p2 &&& 31) : Int32) &&& 1 : Int32))) I L P 205
      ) ∧ (p1 = 104 →
        Q (some (.int ((p3 >>> (p2 &&& 31) : Int32) &&& 1 : Int32))) I L P 205
      ))
    ) ∧ (p1 = 109 →
      zMi zm_X12_bitsOf d [.int p3] I L P (fun r6 I2 L3 P4 =>
        Q (some (.int r6)) I2 L3 P4 205
      )
    ))
  ) ∧ (p1 = 110 →
    Q (some (.int p2)) I L P 205
  ))
set_option maxRecDepth 20000 in
theorem g_X12_plain {d : Nat} {Q : zQt} {p1 : Int32} {p2 : Int32} {p3 : Int32} {I : zI} {L : zL} {P : zP} (hP : zPk P) (hv : v_X12_plain d Q p1 p2 p3 I L P) : zM zm_X12_plain (d + 1) 0 0 [.ref 160, .int p1, .int p2, .int p3] I L P 205 Q := by
  unfold v_X12_plain at hv
  refine zM_of (lv0 := [some (.ref 160), some (.int p1), some (.int p2), some (.int p3)]) (by decide +kernel) (Nat.le_of_ble_eq_true rfl) rfl ?_
  refine z_iload_n dX12_plain_0 rfl ?_
  refine z_bipush (v := 110) dX12_plain_1 (by decide) ?_
  refine z_icmp_ne (tgt := 10) dX12_plain_3 (by decide) (fun q8 => ?_) (fun q8 => ?_)
  · have hv := hv.1 q8
    refine z_iload_n dX12_plain_10 rfl ?_
    refine z_bipush (v := 109) dX12_plain_11 (by decide) ?_
    refine z_icmp_ne (tgt := 23) dX12_plain_13 (by decide) (fun q7 => ?_) (fun q7 => ?_)
    · have hv := hv.1 q7
      refine z_iload_n dX12_plain_23 rfl ?_
      refine z_bipush (v := 104) dX12_plain_24 (by decide) ?_
      refine z_icmp_ne (tgt := 37) dX12_plain_26 (by decide) (fun q1 => ?_) (fun q1 => ?_)
      · have hv := hv.1 q1
        refine z_aload_n dX12_plain_37 rfl ?_
        refine z_getI dX12_plain_38 zf_X12_359 zn_160 zo_160 (fun _ _ _ _ _ => rfl) ?_
        refine z_iload_n dX12_plain_41 rfl ?_
        refine z_ishr dX12_plain_42 ?_
        refine z_iconst (v := 1) dX12_plain_43 (by decide) ?_
        refine z_iand dX12_plain_44 ?_
        exact z_ireturn dX12_plain_45 rfl rfl (Nat.le_refl _) (Nat.le_refl _) hv
      · have hv := hv.2 q1
        refine z_iload_n dX12_plain_29 rfl ?_
        refine z_iload_n dX12_plain_30 rfl ?_
        refine z_ishr dX12_plain_31 ?_
        refine z_iconst (v := 1) dX12_plain_32 (by decide) ?_
        refine z_iand dX12_plain_33 ?_
        refine z_goto (tgt := 45) dX12_plain_34 (by decide) ?_
        exact z_ireturn dX12_plain_45 rfl rfl (Nat.le_refl _) (Nat.le_refl _) hv
    · have hv := hv.2 q7
      refine z_iload_n dX12_plain_16 rfl ?_
      refine z_callS (As := [.int p3]) (st := []) dX12_plain_17 zl_X12_384 zs_X12_bitsOf rfl rfl (Nat.le_of_ble_eq_true rfl) ⟨Nat.le_refl _, Nat.le_refl _⟩ ⟨Nat.le_refl _, Nat.le_refl _⟩ hv (fun v1 I2 L3 P4 nx1 q5 => ?_)
      obtain ⟨rfl, r6, rfl, hv⟩ := q5
      refine z_goto (tgt := 45) dX12_plain_20 (by decide) ?_
      exact z_ireturn dX12_plain_45 rfl rfl (Nat.le_refl _) (Nat.le_refl _) hv
  · have hv := hv.2 q8
    refine z_iload_n dX12_plain_6 rfl ?_
    refine z_goto (tgt := 45) dX12_plain_7 (by decide) ?_
    exact z_ireturn dX12_plain_45 rfl rfl (Nat.le_refl _) (Nat.le_refl _) hv
abbrev gw_X12_work (d : Nat) (Q : zQt) (pc : Nat) (lv : zV) (st : List Value) (I : zI) (L : zL) (P : zP) : Prop := zW zm_X12_work (zRm d 0 0) 0 0 Q pc lv st I L P 205 0 0
def v_X12_work_223 (d : Nat) (Q : zQt) (p2 : Int32) (x3 : Int32) (x4 : Int32) (x5 : Int32) (x7 : Int32) (I : zI) (L : zL) (P : zP) : Prop :=
  zMi zm_X12_worldMany d [.ref 160] I L P (fun r46 I42 L43 P44 =>
    ((r46 ≤ x7 →
      gw_X12_work (d + 1) Q 5 [some (.ref 160), none, some (.int p2), some (.int x3), some (.int (x4 + 1)), none, none, none] [] I42 L43 P44
    ) ∧ (¬ r46 ≤ x7 →
      zPk P44 ∧
      vp_in ((x3 - 256) + x7) 12288 ∧
      vp_in (x3 + x7) 12288 ∧
      zMi zm_X12_two d [.int x5, .int (I42 183 ((x3 - 256) + x7).toNatClampNeg), .int (I42 183 (x3 + x7).toNatClampNeg)] I42 L43 P44 (fun r54 I50 L51 P52 =>
        ∀ I56 : zI, I56 = zuI I50 183 ((x3 - 256) + x7).toNatClampNeg r54 →
        gw_X12_work (d + 1) Q 223 [some (.ref 160), none, some (.int p2), some (.int x3), some (.int x4), some (.int x5), none, some (.int (x7 + 1))] [] I56 L51 P52
      )
    ))
  )
set_option maxRecDepth 20000 in
theorem g_X12_work_223 {d : Nat} {Q : zQt} {p2 : Int32} {x3 : Int32} {x4 : Int32} {x5 : Int32} {x7 : Int32} {I : zI} {L : zL} {P : zP} (hP : zPk P) (hv : v_X12_work_223 d Q p2 x3 x4 x5 x7 I L P) : gw_X12_work (d + 1) Q 223 [some (.ref 160), none, some (.int p2), some (.int x3), some (.int x4), some (.int x5), none, some (.int x7)] [] I L P := by
  unfold v_X12_work_223 at hv
  refine z_iload dX12_work_223 rfl ?_
  refine z_aload_n dX12_work_225 rfl ?_
  refine z_callV (As := []) (st := [.int x7]) dX12_work_226 zl_X12_346 zv_X12_worldMany (by decide) rfl zn_160 zo_160 rfl rfl (Nat.le_of_ble_eq_true rfl) ⟨Nat.le_refl _, Nat.le_refl _⟩ ⟨Nat.le_refl _, Nat.le_refl _⟩ hv (fun v1 I42 L43 P44 nx1 q45 => ?_)
  obtain ⟨rfl, r46, rfl, hv⟩ := q45
  refine z_icmp_ge (tgt := 278) dX12_work_229 (by decide) (fun q57 => ?_) (fun q57 => ?_)
  · have hv := hv.1 q57
    refine z_iinc (v2 := x4 + 1) (lv2 := [some (.ref 160), none, some (.int p2), some (.int x3), some (.int (x4 + 1)), some (.int x5), none, some (.int x7)]) dX12_work_278 rfl (by rfl) (by decide) rfl rfl ?_
    refine z_goto (tgt := 5) dX12_work_281 (by decide) ?_
    exact z_sub (by exact ⟨rfl, ⟨rfl, ⟨rfl, ⟨rfl, trivial⟩⟩⟩⟩) hv
  · have hv := hv.2 q57
    refine z_aload_n dX12_work_232 rfl ?_
    obtain ⟨h47, hv⟩ := hv
    refine z_getP dX12_work_233 zf_X12_83 zn_160 zo_160 (fun _ _ _ _ _ => rfl) (h47 160 41 183 zp_160_41) ?_
    refine z_iload_n dX12_work_236 rfl ?_
    refine z_sipush (v := 256) dX12_work_237 (by decide) ?_
    refine z_isub dX12_work_240 ?_
    refine z_iload dX12_work_241 rfl ?_
    refine z_iadd dX12_work_243 ?_
    refine z_iload dX12_work_244 rfl ?_
    refine z_aload_n dX12_work_246 rfl ?_
    refine z_getP dX12_work_247 zf_X12_83 zn_160 zo_160 (fun _ _ _ _ _ => rfl) (h47 160 41 183 zp_160_41) ?_
    refine z_iload_n dX12_work_250 rfl ?_
    refine z_sipush (v := 256) dX12_work_251 (by decide) ?_
    refine z_isub dX12_work_254 ?_
    refine z_iload dX12_work_255 rfl ?_
    refine z_iadd dX12_work_257 ?_
    obtain ⟨h48, hv⟩ := hv
    refine z_iaload dX12_work_258 zn_183 zh_183 h48 ?_
    refine z_aload_n dX12_work_259 rfl ?_
    refine z_getP dX12_work_260 zf_X12_83 zn_160 zo_160 (fun _ _ _ _ _ => rfl) (h47 160 41 183 zp_160_41) ?_
    refine z_iload_n dX12_work_263 rfl ?_
    refine z_iload dX12_work_264 rfl ?_
    refine z_iadd dX12_work_266 ?_
    obtain ⟨h49, hv⟩ := hv
    refine z_iaload dX12_work_267 zn_183 zh_183 h49 ?_
    refine z_callS (As := [.int x5, .int (I42 183 ((x3 - 256) + x7).toNatClampNeg), .int (I42 183 (x3 + x7).toNatClampNeg)]) (st := [.int ((x3 - 256) + x7), .ref 183]) dX12_work_268 zl_X12_400 zs_X12_two rfl rfl (Nat.le_of_ble_eq_true rfl) ⟨Nat.le_refl _, Nat.le_refl _⟩ ⟨Nat.le_refl _, Nat.le_refl _⟩ hv (fun v1 I50 L51 P52 nx1 q53 => ?_)
    obtain ⟨rfl, r54, rfl, hv⟩ := q53
    refine z_iastore dX12_work_271 zn_183 zh_183 h48 (z_nmI (fun I56 e55 => ?_))
    have hv := hv I56 e55
    refine z_iinc (v2 := x7 + 1) (lv2 := [some (.ref 160), none, some (.int p2), some (.int x3), some (.int x4), some (.int x5), none, some (.int (x7 + 1))]) dX12_work_272 rfl (by rfl) (by decide) rfl rfl ?_
    refine z_goto (tgt := 223) dX12_work_275 (by decide) ?_
    exact hv
def v_X12_work_116 (d : Nat) (Q : zQt) (p2 : Int32) (x3 : Int32) (x4 : Int32) (x6 : Int32) (x7 : Int32) (I : zI) (L : zL) (P : zP) : Prop :=
  zMi zm_X12_worldMany d [.ref 160] I L P (fun r62 I58 L59 P60 =>
    ((r62 ≤ x7 →
      gw_X12_work (d + 1) Q 5 [some (.ref 160), none, some (.int p2), some (.int x3), some (.int (x4 + 1)), none, none, none] [] I58 L59 P60
    ) ∧ (¬ r62 ≤ x7 →
      zPk P60 ∧
      vp_in (x6 + x7) 12288 ∧
      ((¬ (I58 183 (x6 + x7).toNatClampNeg) = 0 →
        ∀ I66 : zI, I66 = zuI I58 183 (x6 + x7).toNatClampNeg 0 →
        gw_X12_work (d + 1) Q 116 [some (.ref 160), none, some (.int p2), some (.int x3), some (.int x4), none, some (.int x6), some (.int (x7 + 1))] [] I66 L59 P60
      ) ∧ ((I58 183 (x6 + x7).toNatClampNeg) = 0 →
        ∀ I68 : zI, I68 = zuI I58 183 (x6 + x7).toNatClampNeg 1 →
        gw_X12_work (d + 1) Q 116 [some (.ref 160), none, some (.int p2), some (.int x3), some (.int x4), none, some (.int x6), some (.int (x7 + 1))] [] I68 L59 P60
      ))
    ))
  )
set_option maxRecDepth 20000 in
theorem g_X12_work_116 {d : Nat} {Q : zQt} {p2 : Int32} {x3 : Int32} {x4 : Int32} {x6 : Int32} {x7 : Int32} {I : zI} {L : zL} {P : zP} (hP : zPk P) (hv : v_X12_work_116 d Q p2 x3 x4 x6 x7 I L P) : gw_X12_work (d + 1) Q 116 [some (.ref 160), none, some (.int p2), some (.int x3), some (.int x4), none, some (.int x6), some (.int x7)] [] I L P := by
  unfold v_X12_work_116 at hv
  refine z_iload dX12_work_116 rfl ?_
  refine z_aload_n dX12_work_118 rfl ?_
  refine z_callV (As := []) (st := [.int x7]) dX12_work_119 zl_X12_346 zv_X12_worldMany (by decide) rfl zn_160 zo_160 rfl rfl (Nat.le_of_ble_eq_true rfl) ⟨Nat.le_refl _, Nat.le_refl _⟩ ⟨Nat.le_refl _, Nat.le_refl _⟩ hv (fun v1 I58 L59 P60 nx1 q61 => ?_)
  obtain ⟨rfl, r62, rfl, hv⟩ := q61
  refine z_icmp_ge (tgt := 159) dX12_work_122 (by decide) (fun q70 => ?_) (fun q70 => ?_)
  · have hv := hv.1 q70
    refine z_goto (tgt := 278) dX12_work_159 (by decide) ?_
    refine z_iinc (v2 := x4 + 1) (lv2 := [some (.ref 160), none, some (.int p2), some (.int x3), some (.int (x4 + 1)), none, some (.int x6), some (.int x7)]) dX12_work_278 rfl (by rfl) (by decide) rfl rfl ?_
    refine z_goto (tgt := 5) dX12_work_281 (by decide) ?_
    exact z_sub (by exact ⟨rfl, ⟨rfl, ⟨rfl, ⟨rfl, trivial⟩⟩⟩⟩) hv
  · have hv := hv.2 q70
    refine z_aload_n dX12_work_125 rfl ?_
    obtain ⟨h63, hv⟩ := hv
    refine z_getP dX12_work_126 zf_X12_83 zn_160 zo_160 (fun _ _ _ _ _ => rfl) (h63 160 41 183 zp_160_41) ?_
    refine z_iload dX12_work_129 rfl ?_
    refine z_iload dX12_work_131 rfl ?_
    refine z_iadd dX12_work_133 ?_
    refine z_aload_n dX12_work_134 rfl ?_
    refine z_getP dX12_work_135 zf_X12_83 zn_160 zo_160 (fun _ _ _ _ _ => rfl) (h63 160 41 183 zp_160_41) ?_
    refine z_iload dX12_work_138 rfl ?_
    refine z_iload dX12_work_140 rfl ?_
    refine z_iadd dX12_work_142 ?_
    obtain ⟨h64, hv⟩ := hv
    refine z_iaload dX12_work_143 zn_183 zh_183 h64 ?_
    refine z_if_ne (tgt := 151) dX12_work_144 (by decide) (fun q69 => ?_) (fun q69 => ?_)
    · have hv := hv.1 q69
      refine z_iconst (v := 0) dX12_work_151 (by decide) ?_
      refine z_iastore dX12_work_152 zn_183 zh_183 h64 (z_nmI (fun I66 e65 => ?_))
      have hv := hv I66 e65
      refine z_iinc (v2 := x7 + 1) (lv2 := [some (.ref 160), none, some (.int p2), some (.int x3), some (.int x4), none, some (.int x6), some (.int (x7 + 1))]) dX12_work_153 rfl (by rfl) (by decide) rfl rfl ?_
      refine z_goto (tgt := 116) dX12_work_156 (by decide) ?_
      exact hv
    · have hv := hv.2 q69
      refine z_iconst (v := 1) dX12_work_147 (by decide) ?_
      refine z_goto (tgt := 152) dX12_work_148 (by decide) ?_
      refine z_iastore dX12_work_152 zn_183 zh_183 h64 (z_nmI (fun I68 e67 => ?_))
      have hv := hv I68 e67
      refine z_iinc (v2 := x7 + 1) (lv2 := [some (.ref 160), none, some (.int p2), some (.int x3), some (.int x4), none, some (.int x6), some (.int (x7 + 1))]) dX12_work_153 rfl (by rfl) (by decide) rfl rfl ?_
      refine z_goto (tgt := 116) dX12_work_156 (by decide) ?_
      exact hv
def v_X12_work_58 (d : Nat) (Q : zQt) (p2 : Int32) (x3 : Int32) (x4 : Int32) (x5 : Int32) (x7 : Int32) (I : zI) (L : zL) (P : zP) : Prop :=
  zMi zm_X12_worldMany d [.ref 160] I L P (fun r30 I26 L27 P28 =>
    ((r30 ≤ x7 →
      gw_X12_work (d + 1) Q 5 [some (.ref 160), none, some (.int p2), some (.int (x3 + 256)), some (.int (x4 + 1)), none, none, none] [] I26 L27 P28
    ) ∧ (¬ r30 ≤ x7 →
      zPk P28 ∧
      vp_in x4 2100 ∧
      zMi zm_X12_plain d [.ref 160, .int x5, .int (I26 176 x4.toNatClampNeg), .int x7] I26 L27 P28 (fun r37 I33 L34 P35 =>
        vp_in (x3 + x7) 12288 ∧
        ∀ I40 : zI, I40 = zuI I33 183 (x3 + x7).toNatClampNeg r37 →
        gw_X12_work (d + 1) Q 58 [some (.ref 160), none, some (.int p2), some (.int x3), some (.int x4), some (.int x5), none, some (.int (x7 + 1))] [] I40 L34 P35
      )
    ))
  )
set_option maxRecDepth 20000 in
theorem g_X12_work_58 {d : Nat} {Q : zQt} {p2 : Int32} {x3 : Int32} {x4 : Int32} {x5 : Int32} {x7 : Int32} {I : zI} {L : zL} {P : zP} (hP : zPk P) (hv : v_X12_work_58 d Q p2 x3 x4 x5 x7 I L P) : gw_X12_work (d + 1) Q 58 [some (.ref 160), none, some (.int p2), some (.int x3), some (.int x4), some (.int x5), none, some (.int x7)] [] I L P := by
  unfold v_X12_work_58 at hv
  refine z_iload dX12_work_58 rfl ?_
  refine z_aload_n dX12_work_60 rfl ?_
  refine z_callV (As := []) (st := [.int x7]) dX12_work_61 zl_X12_346 zv_X12_worldMany (by decide) rfl zn_160 zo_160 rfl rfl (Nat.le_of_ble_eq_true rfl) ⟨Nat.le_refl _, Nat.le_refl _⟩ ⟨Nat.le_refl _, Nat.le_refl _⟩ hv (fun v1 I26 L27 P28 nx1 q29 => ?_)
  obtain ⟨rfl, r30, rfl, hv⟩ := q29
  refine z_icmp_ge (tgt := 97) dX12_work_64 (by decide) (fun q41 => ?_) (fun q41 => ?_)
  · have hv := hv.1 q41
    refine z_iincW (v2 := x3 + 256) (lv2 := [some (.ref 160), none, some (.int p2), some (.int (x3 + 256)), some (.int x4), some (.int x5), none, some (.int x7)]) dX12_work_97 rfl (by rfl) (by decide) rfl rfl ?_
    refine z_goto (tgt := 278) dX12_work_103 (by decide) ?_
    refine z_iinc (v2 := x4 + 1) (lv2 := [some (.ref 160), none, some (.int p2), some (.int (x3 + 256)), some (.int (x4 + 1)), some (.int x5), none, some (.int x7)]) dX12_work_278 rfl (by rfl) (by decide) rfl rfl ?_
    refine z_goto (tgt := 5) dX12_work_281 (by decide) ?_
    exact z_sub (by exact ⟨rfl, ⟨rfl, ⟨rfl, ⟨rfl, trivial⟩⟩⟩⟩) hv
  · have hv := hv.2 q41
    refine z_aload_n dX12_work_67 rfl ?_
    obtain ⟨h31, hv⟩ := hv
    refine z_getP dX12_work_68 zf_X12_83 zn_160 zo_160 (fun _ _ _ _ _ => rfl) (h31 160 41 183 zp_160_41) ?_
    refine z_iload_n dX12_work_71 rfl ?_
    refine z_iload dX12_work_72 rfl ?_
    refine z_iadd dX12_work_74 ?_
    refine z_aload_n dX12_work_75 rfl ?_
    refine z_iload dX12_work_76 rfl ?_
    refine z_aload_n dX12_work_78 rfl ?_
    refine z_getP dX12_work_79 zf_X12_62 zn_160 zo_160 (fun _ _ _ _ _ => rfl) (h31 160 24 176 zp_160_24) ?_
    refine z_iload dX12_work_82 rfl ?_
    obtain ⟨h32, hv⟩ := hv
    refine z_iaload dX12_work_84 zn_176 zh_176 h32 ?_
    refine z_iload dX12_work_85 rfl ?_
    refine z_callV (As := [.int x5, .int (I26 176 x4.toNatClampNeg), .int x7]) (st := [.int (x3 + x7), .ref 183]) dX12_work_87 zl_X12_387 zv_X12_plain (by decide) rfl zn_160 zo_160 rfl rfl (Nat.le_of_ble_eq_true rfl) ⟨Nat.le_refl _, Nat.le_refl _⟩ ⟨Nat.le_refl _, Nat.le_refl _⟩ hv (fun v1 I33 L34 P35 nx1 q36 => ?_)
    obtain ⟨rfl, r37, rfl, hv⟩ := q36
    obtain ⟨h38, hv⟩ := hv
    refine z_iastore dX12_work_90 zn_183 zh_183 h38 (z_nmI (fun I40 e39 => ?_))
    have hv := hv I40 e39
    refine z_iinc (v2 := x7 + 1) (lv2 := [some (.ref 160), none, some (.int p2), some (.int x3), some (.int x4), some (.int x5), none, some (.int (x7 + 1))]) dX12_work_91 rfl (by rfl) (by decide) rfl rfl ?_
    refine z_goto (tgt := 58) dX12_work_94 (by decide) ?_
    exact hv
def v_X12_work_5 (d : Nat) (Q : zQt) (p2 : Int32) (x3 : Int32) (x4 : Int32) (I : zI) (L : zL) (P : zP) : Prop :=
  ((p2 ≤ x4 →
    Q none I L P 205
  ) ∧ (¬ p2 ≤ x4 →
    vp_in x4 2100 ∧
    (((I 175 x4.toNatClampNeg) = 110 →
      gw_X12_work (d + 1) Q 58 [some (.ref 160), none, some (.int p2), some (.int x3), some (.int x4), some (.int (I 175 x4.toNatClampNeg)), none, some (.int 0)] [] I L P
    ) ∧ (¬ (I 175 x4.toNatClampNeg) = 110 →
      (((I 175 x4.toNatClampNeg) = 109 →
        gw_X12_work (d + 1) Q 58 [some (.ref 160), none, some (.int p2), some (.int x3), some (.int x4), some (.int (I 175 x4.toNatClampNeg)), none, some (.int 0)] [] I L P
      ) ∧ (¬ (I 175 x4.toNatClampNeg) = 109 →
        (((I 175 x4.toNatClampNeg) = 104 →
          gw_X12_work (d + 1) Q 58 [some (.ref 160), none, some (.int p2), some (.int x3), some (.int x4), some (.int (I 175 x4.toNatClampNeg)), none, some (.int 0)] [] I L P
        ) ∧ (¬ (I 175 x4.toNatClampNeg) = 104 →
          ((¬ (I 175 x4.toNatClampNeg) = 103 →
            ((¬ (I 175 x4.toNatClampNeg) = 126 →
              ((¬ (I 175 x4.toNatClampNeg) = 107 →
                ((¬ (I 175 x4.toNatClampNeg) = 97 →
                  ((¬ (I 175 x4.toNatClampNeg) = 99 →
                    gw_X12_work (d + 1) Q 223 [some (.ref 160), none, some (.int p2), some (.int (x3 - 256)), some (.int x4), some (.int (I 175 x4.toNatClampNeg)), none, some (.int 0)] [] I L P
                  ) ∧ ((I 175 x4.toNatClampNeg) = 99 →
                    zMv zm_X12_commonOf d [.ref 160, .int (x3 - 256)] I L P (fun I2 L3 P4 =>
                      gw_X12_work (d + 1) Q 5 [some (.ref 160), none, some (.int p2), some (.int x3), some (.int (x4 + 1)), none, none, none] [] I2 L3 P4
                    )
                  ))
                ) ∧ ((I 175 x4.toNatClampNeg) = 97 →
                  zMv zm_X12_allKnow d [.ref 160, .int (x3 - 256)] I L P (fun I8 L9 P10 =>
                    gw_X12_work (d + 1) Q 5 [some (.ref 160), none, some (.int p2), some (.int x3), some (.int (x4 + 1)), none, none, none] [] I8 L9 P10
                  )
                ))
              ) ∧ ((I 175 x4.toNatClampNeg) = 107 →
                zMv zm_X12_knowsOf d [.ref 160, .int (I 176 x4.toNatClampNeg), .int (x3 - 256)] I L P (fun I14 L15 P16 =>
                  gw_X12_work (d + 1) Q 5 [some (.ref 160), none, some (.int p2), some (.int x3), some (.int (x4 + 1)), none, none, none] [] I14 L15 P16
                )
              ))
            ) ∧ ((I 175 x4.toNatClampNeg) = 126 →
              gw_X12_work (d + 1) Q 116 [some (.ref 160), none, some (.int p2), some (.int x3), some (.int x4), none, some (.int (x3 - 256)), some (.int 0)] [] I L P
            ))
          ) ∧ ((I 175 x4.toNatClampNeg) = 103 →
            gw_X12_work (d + 1) Q 58 [some (.ref 160), none, some (.int p2), some (.int x3), some (.int x4), some (.int (I 175 x4.toNatClampNeg)), none, some (.int 0)] [] I L P
          ))
        ))
      ))
    ))
  ))
set_option maxRecDepth 20000 in
theorem g_X12_work_5 {d : Nat} {Q : zQt} {p2 : Int32} {x3 : Int32} {x4 : Int32} {I : zI} {L : zL} {P : zP} (hP : zPk P) (hv : v_X12_work_5 d Q p2 x3 x4 I L P) : gw_X12_work (d + 1) Q 5 [some (.ref 160), none, some (.int p2), some (.int x3), some (.int x4), none, none, none] [] I L P := by
  unfold v_X12_work_5 at hv
  refine z_iload dX12_work_5 rfl ?_
  refine z_iload_n dX12_work_7 rfl ?_
  refine z_icmp_ge (tgt := 284) dX12_work_8 (by decide) (fun q25 => ?_) (fun q25 => ?_)
  · have hv := hv.1 q25
    exact z_return dX12_work_284 rfl (Nat.le_refl _) (Nat.le_refl _) hv
  · have hv := hv.2 q25
    refine z_aload_n dX12_work_11 rfl ?_
    refine z_getP dX12_work_12 zf_X12_59 zn_160 zo_160 (fun _ _ _ _ _ => rfl) (hP 160 23 175 zp_160_23) ?_
    refine z_iload dX12_work_15 rfl ?_
    obtain ⟨h1, hv⟩ := hv
    refine z_iaload dX12_work_17 zn_175 zh_175 h1 ?_
    refine z_istore (lv2 := [some (.ref 160), none, some (.int p2), some (.int x3), some (.int x4), some (.int (I 175 x4.toNatClampNeg)), none, none]) dX12_work_18 (by decide) rfl rfl ?_
    refine z_iload_n dX12_work_20 rfl ?_
    refine z_sipush (v := 256) dX12_work_21 (by decide) ?_
    refine z_isub dX12_work_24 ?_
    refine z_istore (lv2 := [some (.ref 160), none, some (.int p2), some (.int x3), some (.int x4), some (.int (I 175 x4.toNatClampNeg)), some (.int (x3 - 256)), none]) dX12_work_25 (by decide) rfl rfl ?_
    refine z_iload dX12_work_27 rfl ?_
    refine z_bipush (v := 110) dX12_work_29 (by decide) ?_
    refine z_icmp_eq (tgt := 55) dX12_work_31 (by decide) (fun q24 => ?_) (fun q24 => ?_)
    · have hv := hv.1 q24
      refine z_iconst (v := 0) dX12_work_55 (by decide) ?_
      refine z_istore (lv2 := [some (.ref 160), none, some (.int p2), some (.int x3), some (.int x4), some (.int (I 175 x4.toNatClampNeg)), some (.int (x3 - 256)), some (.int 0)]) dX12_work_56 (by decide) rfl rfl ?_
      exact z_sub (by exact ⟨rfl, ⟨rfl, ⟨rfl, ⟨rfl, ⟨rfl, ⟨rfl, trivial⟩⟩⟩⟩⟩⟩) hv
    · have hv := hv.2 q24
      refine z_iload dX12_work_34 rfl ?_
      refine z_bipush (v := 109) dX12_work_36 (by decide) ?_
      refine z_icmp_eq (tgt := 55) dX12_work_38 (by decide) (fun q23 => ?_) (fun q23 => ?_)
      · have hv := hv.1 q23
        refine z_iconst (v := 0) dX12_work_55 (by decide) ?_
        refine z_istore (lv2 := [some (.ref 160), none, some (.int p2), some (.int x3), some (.int x4), some (.int (I 175 x4.toNatClampNeg)), some (.int (x3 - 256)), some (.int 0)]) dX12_work_56 (by decide) rfl rfl ?_
        exact z_sub (by exact ⟨rfl, ⟨rfl, ⟨rfl, ⟨rfl, ⟨rfl, ⟨rfl, trivial⟩⟩⟩⟩⟩⟩) hv
      · have hv := hv.2 q23
        refine z_iload dX12_work_41 rfl ?_
        refine z_bipush (v := 104) dX12_work_43 (by decide) ?_
        refine z_icmp_eq (tgt := 55) dX12_work_45 (by decide) (fun q22 => ?_) (fun q22 => ?_)
        · have hv := hv.1 q22
          refine z_iconst (v := 0) dX12_work_55 (by decide) ?_
          refine z_istore (lv2 := [some (.ref 160), none, some (.int p2), some (.int x3), some (.int x4), some (.int (I 175 x4.toNatClampNeg)), some (.int (x3 - 256)), some (.int 0)]) dX12_work_56 (by decide) rfl rfl ?_
          exact z_sub (by exact ⟨rfl, ⟨rfl, ⟨rfl, ⟨rfl, ⟨rfl, ⟨rfl, trivial⟩⟩⟩⟩⟩⟩) hv
        · have hv := hv.2 q22
          refine z_iload dX12_work_48 rfl ?_
          refine z_bipush (v := 103) dX12_work_50 (by decide) ?_
          refine z_icmp_ne (tgt := 106) dX12_work_52 (by decide) (fun q21 => ?_) (fun q21 => ?_)
          · have hv := hv.1 q21
            refine z_iload dX12_work_106 rfl ?_
            refine z_bipush (v := 126) dX12_work_108 (by decide) ?_
            refine z_icmp_ne (tgt := 162) dX12_work_110 (by decide) (fun q20 => ?_) (fun q20 => ?_)
            · have hv := hv.1 q20
              refine z_iload dX12_work_162 rfl ?_
              refine z_bipush (v := 107) dX12_work_164 (by decide) ?_
              refine z_icmp_ne (tgt := 185) dX12_work_166 (by decide) (fun q19 => ?_) (fun q19 => ?_)
              · have hv := hv.1 q19
                refine z_iload dX12_work_185 rfl ?_
                refine z_bipush (v := 97) dX12_work_187 (by decide) ?_
                refine z_icmp_ne (tgt := 201) dX12_work_189 (by decide) (fun q13 => ?_) (fun q13 => ?_)
                · have hv := hv.1 q13
                  refine z_iload dX12_work_201 rfl ?_
                  refine z_bipush (v := 99) dX12_work_203 (by decide) ?_
                  refine z_icmp_ne (tgt := 217) dX12_work_205 (by decide) (fun q7 => ?_) (fun q7 => ?_)
                  · have hv := hv.1 q7
                    refine z_iload dX12_work_217 rfl ?_
                    refine z_istore_n (lv2 := [some (.ref 160), none, some (.int p2), some (.int (x3 - 256)), some (.int x4), some (.int (I 175 x4.toNatClampNeg)), some (.int (x3 - 256)), none]) dX12_work_219 (by decide) rfl rfl ?_
                    refine z_iconst (v := 0) dX12_work_220 (by decide) ?_
                    refine z_istore (lv2 := [some (.ref 160), none, some (.int p2), some (.int (x3 - 256)), some (.int x4), some (.int (I 175 x4.toNatClampNeg)), some (.int (x3 - 256)), some (.int 0)]) dX12_work_221 (by decide) rfl rfl ?_
                    exact z_sub (by exact ⟨rfl, ⟨rfl, ⟨rfl, ⟨rfl, ⟨rfl, ⟨rfl, trivial⟩⟩⟩⟩⟩⟩) hv
                  · have hv := hv.2 q7
                    refine z_aload_n dX12_work_208 rfl ?_
                    refine z_iload dX12_work_209 rfl ?_
                    refine z_callV (As := [.int (x3 - 256)]) (st := []) dX12_work_211 zl_X12_397 zv_X12_commonOf (by decide) rfl zn_160 zo_160 rfl rfl (Nat.le_of_ble_eq_true rfl) ⟨Nat.le_refl _, Nat.le_refl _⟩ ⟨Nat.le_refl _, Nat.le_refl _⟩ hv (fun v1 I2 L3 P4 nx1 q5 => ?_)
                    obtain ⟨rfl, rfl, hv⟩ := q5
                    refine z_goto (tgt := 278) dX12_work_214 (by decide) ?_
                    refine z_iinc (v2 := x4 + 1) (lv2 := [some (.ref 160), none, some (.int p2), some (.int x3), some (.int (x4 + 1)), some (.int (I 175 x4.toNatClampNeg)), some (.int (x3 - 256)), none]) dX12_work_278 rfl (by rfl) (by decide) rfl rfl ?_
                    refine z_goto (tgt := 5) dX12_work_281 (by decide) ?_
                    exact z_sub (by exact ⟨rfl, ⟨rfl, ⟨rfl, ⟨rfl, trivial⟩⟩⟩⟩) hv
                · have hv := hv.2 q13
                  refine z_aload_n dX12_work_192 rfl ?_
                  refine z_iload dX12_work_193 rfl ?_
                  refine z_callV (As := [.int (x3 - 256)]) (st := []) dX12_work_195 zl_X12_394 zv_X12_allKnow (by decide) rfl zn_160 zo_160 rfl rfl (Nat.le_of_ble_eq_true rfl) ⟨Nat.le_refl _, Nat.le_refl _⟩ ⟨Nat.le_refl _, Nat.le_refl _⟩ hv (fun v1 I8 L9 P10 nx1 q11 => ?_)
                  obtain ⟨rfl, rfl, hv⟩ := q11
                  refine z_goto (tgt := 278) dX12_work_198 (by decide) ?_
                  refine z_iinc (v2 := x4 + 1) (lv2 := [some (.ref 160), none, some (.int p2), some (.int x3), some (.int (x4 + 1)), some (.int (I 175 x4.toNatClampNeg)), some (.int (x3 - 256)), none]) dX12_work_278 rfl (by rfl) (by decide) rfl rfl ?_
                  refine z_goto (tgt := 5) dX12_work_281 (by decide) ?_
                  exact z_sub (by exact ⟨rfl, ⟨rfl, ⟨rfl, ⟨rfl, trivial⟩⟩⟩⟩) hv
              · have hv := hv.2 q19
                refine z_aload_n dX12_work_169 rfl ?_
                refine z_aload_n dX12_work_170 rfl ?_
                refine z_getP dX12_work_171 zf_X12_62 zn_160 zo_160 (fun _ _ _ _ _ => rfl) (hP 160 24 176 zp_160_24) ?_
                refine z_iload dX12_work_174 rfl ?_
                refine z_iaload dX12_work_176 zn_176 zh_176 h1 ?_
                refine z_iload dX12_work_177 rfl ?_
                refine z_callV (As := [.int (I 176 x4.toNatClampNeg), .int (x3 - 256)]) (st := []) dX12_work_179 zl_X12_391 zv_X12_knowsOf (by decide) rfl zn_160 zo_160 rfl rfl (Nat.le_of_ble_eq_true rfl) ⟨Nat.le_refl _, Nat.le_refl _⟩ ⟨Nat.le_refl _, Nat.le_refl _⟩ hv (fun v1 I14 L15 P16 nx1 q17 => ?_)
                obtain ⟨rfl, rfl, hv⟩ := q17
                refine z_goto (tgt := 278) dX12_work_182 (by decide) ?_
                refine z_iinc (v2 := x4 + 1) (lv2 := [some (.ref 160), none, some (.int p2), some (.int x3), some (.int (x4 + 1)), some (.int (I 175 x4.toNatClampNeg)), some (.int (x3 - 256)), none]) dX12_work_278 rfl (by rfl) (by decide) rfl rfl ?_
                refine z_goto (tgt := 5) dX12_work_281 (by decide) ?_
                exact z_sub (by exact ⟨rfl, ⟨rfl, ⟨rfl, ⟨rfl, trivial⟩⟩⟩⟩) hv
            · have hv := hv.2 q20
              refine z_iconst (v := 0) dX12_work_113 (by decide) ?_
              refine z_istore (lv2 := [some (.ref 160), none, some (.int p2), some (.int x3), some (.int x4), some (.int (I 175 x4.toNatClampNeg)), some (.int (x3 - 256)), some (.int 0)]) dX12_work_114 (by decide) rfl rfl ?_
              exact z_sub (by exact ⟨rfl, ⟨rfl, ⟨rfl, ⟨rfl, ⟨rfl, ⟨rfl, trivial⟩⟩⟩⟩⟩⟩) hv
          · have hv := hv.2 q21
            refine z_iconst (v := 0) dX12_work_55 (by decide) ?_
            refine z_istore (lv2 := [some (.ref 160), none, some (.int p2), some (.int x3), some (.int x4), some (.int (I 175 x4.toNatClampNeg)), some (.int (x3 - 256)), some (.int 0)]) dX12_work_56 (by decide) rfl rfl ?_
            exact z_sub (by exact ⟨rfl, ⟨rfl, ⟨rfl, ⟨rfl, ⟨rfl, ⟨rfl, trivial⟩⟩⟩⟩⟩⟩) hv
def v_X12_work (d : Nat) (Q : zQt) (p1 : Int32) (p2 : Int32) (I : zI) (L : zL) (P : zP) : Prop :=
  gw_X12_work (d + 1) Q 5 [some (.ref 160), none, some (.int p2), some (.int 0), some (.int p1), none, none, none] [] I L P
set_option maxRecDepth 20000 in
theorem g_X12_work {d : Nat} {Q : zQt} {p1 : Int32} {p2 : Int32} {I : zI} {L : zL} {P : zP} (hP : zPk P) (hv : v_X12_work d Q p1 p2 I L P) : zM zm_X12_work (d + 1) 0 0 [.ref 160, .int p1, .int p2] I L P 205 Q := by
  unfold v_X12_work at hv
  refine zM_of (lv0 := [some (.ref 160), some (.int p1), some (.int p2), none, none, none, none, none]) (by decide +kernel) (Nat.le_of_ble_eq_true rfl) rfl ?_
  refine z_iconst (v := 0) dX12_work_0 (by decide) ?_
  refine z_istore_n (lv2 := [some (.ref 160), some (.int p1), some (.int p2), some (.int 0), none, none, none, none]) dX12_work_1 (by decide) rfl rfl ?_
  refine z_iload_n dX12_work_2 rfl ?_
  refine z_istore (lv2 := [some (.ref 160), some (.int p1), some (.int p2), some (.int 0), some (.int p1), none, none, none]) dX12_work_3 (by decide) rfl rfl ?_
  exact z_sub (by exact ⟨rfl, ⟨rfl, ⟨rfl, ⟨rfl, trivial⟩⟩⟩⟩) hv
abbrev gw_X12_theTrue (d : Nat) (Q : zQt) (pc : Nat) (lv : zV) (st : List Value) (I : zI) (L : zL) (P : zP) : Prop := zW zm_X12_theTrue (zRm d 0 0) 0 0 Q pc lv st I L P 205 0 0
def v_X12_theTrue (d : Nat) (Q : zQt)  (I : zI) (L : zL) (P : zP) : Prop :=
  vp_in (I 160 28) 2 ∧
  Q (some (.int (I 167 (I 160 28).toNatClampNeg))) I L P 205
set_option maxRecDepth 20000 in
theorem g_X12_theTrue {d : Nat} {Q : zQt}  {I : zI} {L : zL} {P : zP} (hP : zPk P) (hv : v_X12_theTrue d Q  I L P) : zM zm_X12_theTrue d 0 0 [.ref 160] I L P 205 Q := by
  unfold v_X12_theTrue at hv
  refine zM_of (lv0 := [some (.ref 160)]) (by decide +kernel) (Nat.le_of_ble_eq_true rfl) rfl ?_
  refine z_aload_n dX12_theTrue_0 rfl ?_
  refine z_getP dX12_theTrue_1 zf_X12_33 zn_160 zo_160 (fun _ _ _ _ _ => rfl) (hP 160 15 167 zp_160_15) ?_
  refine z_aload_n dX12_theTrue_4 rfl ?_
  refine z_getI dX12_theTrue_5 zf_X12_261 zn_160 zo_160 (fun _ _ _ _ _ => rfl) ?_
  obtain ⟨h1, hv⟩ := hv
  refine z_iaload dX12_theTrue_8 zn_167 zh_167 h1 ?_
  exact z_ireturn dX12_theTrue_9 rfl rfl (Nat.le_refl _) (Nat.le_refl _) hv
abbrev gw_X12_ask (d : Nat) (Q : zQt) (pc : Nat) (lv : zV) (st : List Value) (I : zI) (L : zL) (P : zP) : Prop := zW zm_X12_ask (zRm d 0 0) 0 0 Q pc lv st I L P 205 0 0
def v_X12_ask (d : Nat) (Q : zQt)  (I : zI) (L : zL) (P : zP) : Prop :=
  zMi zm_X12_readAlone d [.ref 160] I L P (fun r5 I1 L2 P3 =>
    ((¬ r5 = 0 →
      zMv zm_X12_work d [.ref 160, .int 1400, .int (I1 160 32)] I1 L2 P3 (fun I6 L7 P8 =>
        zPk P8 ∧
        zMi zm_X12_theTrue d [.ref 160] I6 L7 P8 (fun r16 I12 L13 P14 =>
          vp_in r16 12288 ∧
          Q (some (.int (I12 183 r16.toNatClampNeg))) I12 L13 P14 205
        )
      )
    ) ∧ (r5 = 0 →
      Q (some (.int (-1000000))) I1 L2 P3 205
    ))
  )
set_option maxRecDepth 20000 in
theorem g_X12_ask {d : Nat} {Q : zQt}  {I : zI} {L : zL} {P : zP} (hP : zPk P) (hv : v_X12_ask d Q  I L P) : zM zm_X12_ask (d + 1) 0 0 [.ref 160] I L P 205 Q := by
  unfold v_X12_ask at hv
  refine zM_of (lv0 := [some (.ref 160)]) (by decide +kernel) (Nat.le_of_ble_eq_true rfl) rfl ?_
  refine z_aload_n dX12_ask_0 rfl ?_
  refine z_callV (As := []) (st := []) dX12_ask_1 zl_X12_403 zv_X12_readAlone (by decide) rfl zn_160 zo_160 rfl rfl (Nat.le_of_ble_eq_true rfl) ⟨Nat.le_refl _, Nat.le_refl _⟩ ⟨Nat.le_refl _, Nat.le_refl _⟩ hv (fun v1 I1 L2 P3 nx1 q4 => ?_)
  obtain ⟨rfl, r5, rfl, hv⟩ := q4
  refine z_if_ne (tgt := 11) dX12_ask_4 (by decide) (fun q18 => ?_) (fun q18 => ?_)
  · have hv := hv.1 q18
    refine z_aload_n dX12_ask_11 rfl ?_
    refine z_sipush (v := 1400) dX12_ask_12 (by decide) ?_
    refine z_aload_n dX12_ask_15 rfl ?_
    refine z_getI dX12_ask_16 zf_X12_246 zn_160 zo_160 (fun _ _ _ _ _ => rfl) ?_
    refine z_callV (As := [.int 1400, .int (I1 160 32)]) (st := []) dX12_ask_19 zl_X12_407 zv_X12_work (by decide) rfl zn_160 zo_160 rfl rfl (Nat.le_of_ble_eq_true rfl) ⟨Nat.le_refl _, Nat.le_refl _⟩ ⟨Nat.le_refl _, Nat.le_refl _⟩ hv (fun v1 I6 L7 P8 nx1 q9 => ?_)
    obtain ⟨rfl, rfl, hv⟩ := q9
    refine z_aload_n dX12_ask_22 rfl ?_
    obtain ⟨h11, hv⟩ := hv
    refine z_getP dX12_ask_23 zf_X12_83 zn_160 zo_160 (fun _ _ _ _ _ => rfl) (h11 160 41 183 zp_160_41) ?_
    refine z_aload_n dX12_ask_26 rfl ?_
    refine z_callV (As := []) (st := [.ref 183]) dX12_ask_27 zl_X12_410 zv_X12_theTrue (by decide) rfl zn_160 zo_160 rfl rfl (Nat.le_of_ble_eq_true rfl) ⟨Nat.le_refl _, Nat.le_refl _⟩ ⟨Nat.le_refl _, Nat.le_refl _⟩ hv (fun v1 I12 L13 P14 nx1 q15 => ?_)
    obtain ⟨rfl, r16, rfl, hv⟩ := q15
    obtain ⟨h17, hv⟩ := hv
    refine z_iaload dX12_ask_30 zn_183 zh_183 h17 ?_
    exact z_ireturn dX12_ask_31 rfl rfl (Nat.le_refl _) (Nat.le_refl _) hv
  · have hv := hv.2 q18
    refine z_ldc_w (v := (-1000000)) dX12_ask_7 zi_X12_406 ?_
    exact z_ireturn dX12_ask_10 rfl rfl (Nat.le_refl _) (Nat.le_refl _) hv
abbrev gw_X12_holds (d : Nat) (Q : zQt) (pc : Nat) (lv : zV) (st : List Value) (I : zI) (L : zL) (P : zP) : Prop := zW zm_X12_holds (zRm d 0 0) 0 0 Q pc lv st I L P 205 0 0
def v_X12_holds_24 (d : Nat) (Q : zQt) (x1 : Int32) (x2 : Int32) (I : zI) (L : zL) (P : zP) : Prop :=
  zMi zm_X12_worldMany d [.ref 160] I L P (fun r16 I12 L13 P14 =>
    ((r16 ≤ x2 →
      Q (some (.int x1)) I12 L13 P14 205
    ) ∧ (¬ r16 ≤ x2 →
      zPk P14 ∧
      vp_in x2 256 ∧
      (((I12 180 x2.toNatClampNeg) = 0 →
        gw_X12_holds (d + 1) Q 24 [some (.ref 160), some (.int (x1 + 0)), some (.int (x2 + 1))] [] I12 L13 P14
      ) ∧ (¬ (I12 180 x2.toNatClampNeg) = 0 →
        vp_in x2 12288 ∧
        (((I12 183 x2.toNatClampNeg) = 0 →
          gw_X12_holds (d + 1) Q 24 [some (.ref 160), some (.int (x1 + 0)), some (.int (x2 + 1))] [] I12 L13 P14
        ) ∧ (¬ (I12 183 x2.toNatClampNeg) = 0 →
          gw_X12_holds (d + 1) Q 24 [some (.ref 160), some (.int (x1 + 1)), some (.int (x2 + 1))] [] I12 L13 P14
        ))
      ))
    ))
  )
set_option maxRecDepth 20000 in
theorem g_X12_holds_24 {d : Nat} {Q : zQt} {x1 : Int32} {x2 : Int32} {I : zI} {L : zL} {P : zP} (hP : zPk P) (hv : v_X12_holds_24 d Q x1 x2 I L P) : gw_X12_holds (d + 1) Q 24 [some (.ref 160), some (.int x1), some (.int x2)] [] I L P := by
  unfold v_X12_holds_24 at hv
  refine z_iload_n dX12_holds_24 rfl ?_
  refine z_aload_n dX12_holds_25 rfl ?_
  refine z_callV (As := []) (st := [.int x2]) dX12_holds_26 zl_X12_346 zv_X12_worldMany (by decide) rfl zn_160 zo_160 rfl rfl (Nat.le_of_ble_eq_true rfl) ⟨Nat.le_refl _, Nat.le_refl _⟩ ⟨Nat.le_refl _, Nat.le_refl _⟩ hv (fun v1 I12 L13 P14 nx1 q15 => ?_)
  obtain ⟨rfl, r16, rfl, hv⟩ := q15
  refine z_icmp_ge (tgt := 64) dX12_holds_29 (by decide) (fun q22 => ?_) (fun q22 => ?_)
  · have hv := hv.1 q22
    refine z_iload_n dX12_holds_64 rfl ?_
    exact z_ireturn dX12_holds_65 rfl rfl (Nat.le_refl _) (Nat.le_refl _) hv
  · have hv := hv.2 q22
    refine z_iload_n dX12_holds_32 rfl ?_
    refine z_aload_n dX12_holds_33 rfl ?_
    obtain ⟨h17, hv⟩ := hv
    refine z_getP dX12_holds_34 zf_X12_74 zn_160 zo_160 (fun _ _ _ _ _ => rfl) (h17 160 35 180 zp_160_35) ?_
    refine z_iload_n dX12_holds_37 rfl ?_
    obtain ⟨h18, hv⟩ := hv
    refine z_zaload dX12_holds_38 zn_180 zh_180 h18 ?_
    refine z_if_eq (tgt := 55) dX12_holds_39 (by decide) (fun q21 => ?_) (fun q21 => ?_)
    · have hv := hv.1 q21
      refine z_iconst (v := 0) dX12_holds_55 (by decide) ?_
      refine z_iadd dX12_holds_56 ?_
      refine z_istore_n (lv2 := [some (.ref 160), some (.int (x1 + 0)), some (.int x2)]) dX12_holds_57 (by decide) rfl rfl ?_
      refine z_iinc (v2 := x2 + 1) (lv2 := [some (.ref 160), some (.int (x1 + 0)), some (.int (x2 + 1))]) dX12_holds_58 rfl (by rfl) (by decide) rfl rfl ?_
      refine z_goto (tgt := 24) dX12_holds_61 (by decide) ?_
      exact hv
    · have hv := hv.2 q21
      refine z_aload_n dX12_holds_42 rfl ?_
      refine z_getP dX12_holds_43 zf_X12_83 zn_160 zo_160 (fun _ _ _ _ _ => rfl) (h17 160 41 183 zp_160_41) ?_
      refine z_iload_n dX12_holds_46 rfl ?_
      obtain ⟨h19, hv⟩ := hv
      refine z_iaload dX12_holds_47 zn_183 zh_183 h19 ?_
      refine z_if_eq (tgt := 55) dX12_holds_48 (by decide) (fun q20 => ?_) (fun q20 => ?_)
      · have hv := hv.1 q20
        refine z_iconst (v := 0) dX12_holds_55 (by decide) ?_
        refine z_iadd dX12_holds_56 ?_
        refine z_istore_n (lv2 := [some (.ref 160), some (.int (x1 + 0)), some (.int x2)]) dX12_holds_57 (by decide) rfl rfl ?_
        refine z_iinc (v2 := x2 + 1) (lv2 := [some (.ref 160), some (.int (x1 + 0)), some (.int (x2 + 1))]) dX12_holds_58 rfl (by rfl) (by decide) rfl rfl ?_
        refine z_goto (tgt := 24) dX12_holds_61 (by decide) ?_
        exact hv
      · have hv := hv.2 q20
        refine z_iconst (v := 1) dX12_holds_51 (by decide) ?_
        refine z_goto (tgt := 56) dX12_holds_52 (by decide) ?_
        refine z_iadd dX12_holds_56 ?_
        refine z_istore_n (lv2 := [some (.ref 160), some (.int (x1 + 1)), some (.int x2)]) dX12_holds_57 (by decide) rfl rfl ?_
        refine z_iinc (v2 := x2 + 1) (lv2 := [some (.ref 160), some (.int (x1 + 1)), some (.int (x2 + 1))]) dX12_holds_58 rfl (by rfl) (by decide) rfl rfl ?_
        refine z_goto (tgt := 24) dX12_holds_61 (by decide) ?_
        exact hv
def v_X12_holds (d : Nat) (Q : zQt)  (I : zI) (L : zL) (P : zP) : Prop :=
  zMi zm_X12_readAlone d [.ref 160] I L P (fun r5 I1 L2 P3 =>
    ((¬ r5 = 0 →
      zMv zm_X12_work d [.ref 160, .int 1400, .int (I1 160 32)] I1 L2 P3 (fun I6 L7 P8 =>
        gw_X12_holds (d + 1) Q 24 [some (.ref 160), some (.int 0), some (.int 0)] [] I6 L7 P8
      )
    ) ∧ (r5 = 0 →
      Q (some (.int (-1))) I1 L2 P3 205
    ))
  )
set_option maxRecDepth 20000 in
theorem g_X12_holds {d : Nat} {Q : zQt}  {I : zI} {L : zL} {P : zP} (hP : zPk P) (hv : v_X12_holds d Q  I L P) : zM zm_X12_holds (d + 1) 0 0 [.ref 160] I L P 205 Q := by
  unfold v_X12_holds at hv
  refine zM_of (lv0 := [some (.ref 160), none, none]) (by decide +kernel) (Nat.le_of_ble_eq_true rfl) rfl ?_
  refine z_aload_n dX12_holds_0 rfl ?_
  refine z_callV (As := []) (st := []) dX12_holds_1 zl_X12_403 zv_X12_readAlone (by decide) rfl zn_160 zo_160 rfl rfl (Nat.le_of_ble_eq_true rfl) ⟨Nat.le_refl _, Nat.le_refl _⟩ ⟨Nat.le_refl _, Nat.le_refl _⟩ hv (fun v1 I1 L2 P3 nx1 q4 => ?_)
  obtain ⟨rfl, r5, rfl, hv⟩ := q4
  refine z_if_ne (tgt := 9) dX12_holds_4 (by decide) (fun q11 => ?_) (fun q11 => ?_)
  · have hv := hv.1 q11
    refine z_aload_n dX12_holds_9 rfl ?_
    refine z_sipush (v := 1400) dX12_holds_10 (by decide) ?_
    refine z_aload_n dX12_holds_13 rfl ?_
    refine z_getI dX12_holds_14 zf_X12_246 zn_160 zo_160 (fun _ _ _ _ _ => rfl) ?_
    refine z_callV (As := [.int 1400, .int (I1 160 32)]) (st := []) dX12_holds_17 zl_X12_407 zv_X12_work (by decide) rfl zn_160 zo_160 rfl rfl (Nat.le_of_ble_eq_true rfl) ⟨Nat.le_refl _, Nat.le_refl _⟩ ⟨Nat.le_refl _, Nat.le_refl _⟩ hv (fun v1 I6 L7 P8 nx1 q9 => ?_)
    obtain ⟨rfl, rfl, hv⟩ := q9
    refine z_iconst (v := 0) dX12_holds_20 (by decide) ?_
    refine z_istore_n (lv2 := [some (.ref 160), some (.int 0), none]) dX12_holds_21 (by decide) rfl rfl ?_
    refine z_iconst (v := 0) dX12_holds_22 (by decide) ?_
    refine z_istore_n (lv2 := [some (.ref 160), some (.int 0), some (.int 0)]) dX12_holds_23 (by decide) rfl rfl ?_
    exact hv
  · have hv := hv.2 q11
    refine z_iconst (v := (-1)) dX12_holds_7 (by decide) ?_
    exact z_ireturn dX12_holds_8 rfl rfl (Nat.le_refl _) (Nat.le_refl _) hv
abbrev gw_X12_deep (d : Nat) (Q : zQt) (pc : Nat) (lv : zV) (st : List Value) (I : zI) (L : zL) (P : zP) : Prop := zW zm_X12_deep (zRm d 0 0) 0 0 Q pc lv st I L P 205 0 0
def v_X12_deep_56 (d : Nat) (Q : zQt) (x1 : Int32) (x2 : Int32) (I : zI) (L : zL) (P : zP) : Prop :=
  vp_in x1 12288 ∧
  (((I 183 x1.toNatClampNeg) = 0 →
    Q (some (.int x2)) I L P 205
  ) ∧ (¬ (I 183 x1.toNatClampNeg) = 0 →
    ((98 ≤ x2 →
      Q (some (.int x2)) I L P 205
    ) ∧ (¬ 98 ≤ x2 →
      zMv zm_X12_allKnow d [.ref 160, .int 0] I L P (fun I32 L33 P34 =>
        gw_X12_deep (d + 1) Q 56 [some (.ref 160), some (.int x1), some (.int (x2 + 1))] [] I32 L33 P34
      )
    ))
  ))
set_option maxRecDepth 20000 in
theorem g_X12_deep_56 {d : Nat} {Q : zQt} {x1 : Int32} {x2 : Int32} {I : zI} {L : zL} {P : zP} (hP : zPk P) (hv : v_X12_deep_56 d Q x1 x2 I L P) : gw_X12_deep (d + 1) Q 56 [some (.ref 160), some (.int x1), some (.int x2)] [] I L P := by
  unfold v_X12_deep_56 at hv
  refine z_aload_n dX12_deep_56 rfl ?_
  refine z_getP dX12_deep_57 zf_X12_83 zn_160 zo_160 (fun _ _ _ _ _ => rfl) (hP 160 41 183 zp_160_41) ?_
  refine z_iload_n dX12_deep_60 rfl ?_
  obtain ⟨h31, hv⟩ := hv
  refine z_iaload dX12_deep_61 zn_183 zh_183 h31 ?_
  refine z_if_eq (tgt := 82) dX12_deep_62 (by decide) (fun q38 => ?_) (fun q38 => ?_)
  · have hv := hv.1 q38
    refine z_iload_n dX12_deep_82 rfl ?_
    exact z_ireturn dX12_deep_83 rfl rfl (Nat.le_refl _) (Nat.le_refl _) hv
  · have hv := hv.2 q38
    refine z_iload_n dX12_deep_65 rfl ?_
    refine z_bipush (v := 98) dX12_deep_66 (by decide) ?_
    refine z_icmp_ge (tgt := 82) dX12_deep_68 (by decide) (fun q37 => ?_) (fun q37 => ?_)
    · have hv := hv.1 q37
      refine z_iload_n dX12_deep_82 rfl ?_
      exact z_ireturn dX12_deep_83 rfl rfl (Nat.le_refl _) (Nat.le_refl _) hv
    · have hv := hv.2 q37
      refine z_iinc (v2 := x2 + 1) (lv2 := [some (.ref 160), some (.int x1), some (.int (x2 + 1))]) dX12_deep_71 rfl (by rfl) (by decide) rfl rfl ?_
      refine z_aload_n dX12_deep_74 rfl ?_
      refine z_iconst (v := 0) dX12_deep_75 (by decide) ?_
      refine z_callV (As := [.int 0]) (st := []) dX12_deep_76 zl_X12_394 zv_X12_allKnow (by decide) rfl zn_160 zo_160 rfl rfl (Nat.le_of_ble_eq_true rfl) ⟨Nat.le_refl _, Nat.le_refl _⟩ ⟨Nat.le_refl _, Nat.le_refl _⟩ hv (fun v1 I32 L33 P34 nx1 q35 => ?_)
      obtain ⟨rfl, rfl, hv⟩ := q35
      refine z_goto (tgt := 56) dX12_deep_79 (by decide) ?_
      exact hv
def v_X12_deep (d : Nat) (Q : zQt)  (I : zI) (L : zL) (P : zP) : Prop :=
  zMi zm_X12_readAlone d [.ref 160] I L P (fun r5 I1 L2 P3 =>
    ((¬ r5 = 0 →
      zMv zm_X12_work d [.ref 160, .int 1400, .int (I1 160 32)] I1 L2 P3 (fun I6 L7 P8 =>
        zMi zm_X12_theTrue d [.ref 160] I6 L7 P8 (fun r15 I11 L12 P13 =>
          zPk P13 ∧
          vp_in r15 12288 ∧
          ((¬ (I11 183 r15.toNatClampNeg) = 0 →
            zMi zm_X12_isCommon d [.ref 160, .int r15] I11 L12 P13 (fun r22 I18 L19 P20 =>
              ((r22 = 0 →
                zMv zm_X12_allKnow d [.ref 160, .int 0] I18 L19 P20 (fun I23 L24 P25 =>
                  gw_X12_deep (d + 1) Q 56 [some (.ref 160), some (.int r15), some (.int 0)] [] I23 L24 P25
                )
              ) ∧ (¬ r22 = 0 →
                Q (some (.int 99)) I18 L19 P20 205
              ))
            )
          ) ∧ ((I11 183 r15.toNatClampNeg) = 0 →
            Q (some (.int (-1))) I11 L12 P13 205
          ))
        )
      )
    ) ∧ (r5 = 0 →
      Q (some (.int (-1000000))) I1 L2 P3 205
    ))
  )
set_option maxRecDepth 20000 in
theorem g_X12_deep {d : Nat} {Q : zQt}  {I : zI} {L : zL} {P : zP} (hP : zPk P) (hv : v_X12_deep d Q  I L P) : zM zm_X12_deep (d + 1) 0 0 [.ref 160] I L P 205 Q := by
  unfold v_X12_deep at hv
  refine zM_of (lv0 := [some (.ref 160), none, none]) (by decide +kernel) (Nat.le_of_ble_eq_true rfl) rfl ?_
  refine z_aload_n dX12_deep_0 rfl ?_
  refine z_callV (As := []) (st := []) dX12_deep_1 zl_X12_403 zv_X12_readAlone (by decide) rfl zn_160 zo_160 rfl rfl (Nat.le_of_ble_eq_true rfl) ⟨Nat.le_refl _, Nat.le_refl _⟩ ⟨Nat.le_refl _, Nat.le_refl _⟩ hv (fun v1 I1 L2 P3 nx1 q4 => ?_)
  obtain ⟨rfl, r5, rfl, hv⟩ := q4
  refine z_if_ne (tgt := 11) dX12_deep_4 (by decide) (fun q30 => ?_) (fun q30 => ?_)
  · have hv := hv.1 q30
    refine z_aload_n dX12_deep_11 rfl ?_
    refine z_sipush (v := 1400) dX12_deep_12 (by decide) ?_
    refine z_aload_n dX12_deep_15 rfl ?_
    refine z_getI dX12_deep_16 zf_X12_246 zn_160 zo_160 (fun _ _ _ _ _ => rfl) ?_
    refine z_callV (As := [.int 1400, .int (I1 160 32)]) (st := []) dX12_deep_19 zl_X12_407 zv_X12_work (by decide) rfl zn_160 zo_160 rfl rfl (Nat.le_of_ble_eq_true rfl) ⟨Nat.le_refl _, Nat.le_refl _⟩ ⟨Nat.le_refl _, Nat.le_refl _⟩ hv (fun v1 I6 L7 P8 nx1 q9 => ?_)
    obtain ⟨rfl, rfl, hv⟩ := q9
    refine z_aload_n dX12_deep_22 rfl ?_
    refine z_callV (As := []) (st := []) dX12_deep_23 zl_X12_410 zv_X12_theTrue (by decide) rfl zn_160 zo_160 rfl rfl (Nat.le_of_ble_eq_true rfl) ⟨Nat.le_refl _, Nat.le_refl _⟩ ⟨Nat.le_refl _, Nat.le_refl _⟩ hv (fun v1 I11 L12 P13 nx1 q14 => ?_)
    obtain ⟨rfl, r15, rfl, hv⟩ := q14
    refine z_istore_n (lv2 := [some (.ref 160), some (.int r15), none]) dX12_deep_26 (by decide) rfl rfl ?_
    refine z_aload_n dX12_deep_27 rfl ?_
    obtain ⟨h16, hv⟩ := hv
    refine z_getP dX12_deep_28 zf_X12_83 zn_160 zo_160 (fun _ _ _ _ _ => rfl) (h16 160 41 183 zp_160_41) ?_
    refine z_iload_n dX12_deep_31 rfl ?_
    obtain ⟨h17, hv⟩ := hv
    refine z_iaload dX12_deep_32 zn_183 zh_183 h17 ?_
    refine z_if_ne (tgt := 38) dX12_deep_33 (by decide) (fun q29 => ?_) (fun q29 => ?_)
    · have hv := hv.1 q29
      refine z_aload_n dX12_deep_38 rfl ?_
      refine z_iload_n dX12_deep_39 rfl ?_
      refine z_callV (As := [.int r15]) (st := []) dX12_deep_40 zl_X12_413 zv_X12_isCommon (by decide) rfl zn_160 zo_160 rfl rfl (Nat.le_of_ble_eq_true rfl) ⟨Nat.le_refl _, Nat.le_refl _⟩ ⟨Nat.le_refl _, Nat.le_refl _⟩ hv (fun v1 I18 L19 P20 nx1 q21 => ?_)
      obtain ⟨rfl, r22, rfl, hv⟩ := q21
      refine z_if_eq (tgt := 49) dX12_deep_43 (by decide) (fun q28 => ?_) (fun q28 => ?_)
      · have hv := hv.1 q28
        refine z_iconst (v := 0) dX12_deep_49 (by decide) ?_
        refine z_istore_n (lv2 := [some (.ref 160), some (.int r15), some (.int 0)]) dX12_deep_50 (by decide) rfl rfl ?_
        refine z_aload_n dX12_deep_51 rfl ?_
        refine z_iconst (v := 0) dX12_deep_52 (by decide) ?_
        refine z_callV (As := [.int 0]) (st := []) dX12_deep_53 zl_X12_394 zv_X12_allKnow (by decide) rfl zn_160 zo_160 rfl rfl (Nat.le_of_ble_eq_true rfl) ⟨Nat.le_refl _, Nat.le_refl _⟩ ⟨Nat.le_refl _, Nat.le_refl _⟩ hv (fun v1 I23 L24 P25 nx1 q26 => ?_)
        obtain ⟨rfl, rfl, hv⟩ := q26
        exact hv
      · have hv := hv.2 q28
        refine z_bipush (v := 99) dX12_deep_46 (by decide) ?_
        exact z_ireturn dX12_deep_48 rfl rfl (Nat.le_refl _) (Nat.le_refl _) hv
    · have hv := hv.2 q29
      refine z_iconst (v := (-1)) dX12_deep_36 (by decide) ?_
      exact z_ireturn dX12_deep_37 rfl rfl (Nat.le_refl _) (Nat.le_refl _) hv
  · have hv := hv.2 q30
    refine z_ldc_w (v := (-1000000)) dX12_deep_7 zi_X12_406 ?_
    exact z_ireturn dX12_deep_10 rfl rfl (Nat.le_refl _) (Nat.le_refl _) hv
abbrev gw_X12_strike (d : Nat) (Q : zQt) (pc : Nat) (lv : zV) (st : List Value) (I : zI) (L : zL) (P : zP) : Prop := zW zm_X12_strike (zRm d 0 0) 0 0 Q pc lv st I L P 205 0 0
def v_X12_strike_23 (d : Nat) (Q : zQt) (x1 : Int32) (x2 : Int32) (I : zI) (L : zL) (P : zP) : Prop :=
  zMi zm_X12_worldMany d [.ref 160] I L P (fun r14 I10 L11 P12 =>
    ((r14 ≤ x2 →
      Q (some (.int x1)) I10 L11 P12 205
    ) ∧ (¬ r14 ≤ x2 →
      zPk P12 ∧
      vp_in x2 256 ∧
      (((I10 180 x2.toNatClampNeg) = 0 →
        (((I10 180 x2.toNatClampNeg) = 0 →
          ∀ I18 : zI, I18 = zuI I10 180 x2.toNatClampNeg 0 →
          gw_X12_strike (d + 1) Q 23 [some (.ref 160), some (.int (x1 + 0)), some (.int (x2 + 1))] [] I18 L11 P12
        ) ∧ (¬ (I10 180 x2.toNatClampNeg) = 0 →
          vp_in x2 12288 ∧
          (((I10 183 x2.toNatClampNeg) = 0 →
            ∀ I21 : zI, I21 = zuI I10 180 x2.toNatClampNeg 0 →
            gw_X12_strike (d + 1) Q 23 [some (.ref 160), some (.int (x1 + 0)), some (.int (x2 + 1))] [] I21 L11 P12
          ) ∧ (¬ (I10 183 x2.toNatClampNeg) = 0 →
            ∀ I23 : zI, I23 = zuI I10 180 x2.toNatClampNeg 1 →
            gw_X12_strike (d + 1) Q 23 [some (.ref 160), some (.int (x1 + 0)), some (.int (x2 + 1))] [] I23 L11 P12
          ))
        ))
      ) ∧ (¬ (I10 180 x2.toNatClampNeg) = 0 →
        vp_in x2 12288 ∧
        ((¬ (I10 183 x2.toNatClampNeg) = 0 →
          (((I10 180 x2.toNatClampNeg) = 0 →
            ∀ I28 : zI, I28 = zuI I10 180 x2.toNatClampNeg 0 →
            gw_X12_strike (d + 1) Q 23 [some (.ref 160), some (.int (x1 + 0)), some (.int (x2 + 1))] [] I28 L11 P12
          ) ∧ (¬ (I10 180 x2.toNatClampNeg) = 0 →
            (((I10 183 x2.toNatClampNeg) = 0 →
              ∀ I30 : zI, I30 = zuI I10 180 x2.toNatClampNeg 0 →
              gw_X12_strike (d + 1) Q 23 [some (.ref 160), some (.int (x1 + 0)), some (.int (x2 + 1))] [] I30 L11 P12
            ) ∧ (¬ (I10 183 x2.toNatClampNeg) = 0 →
              ∀ I32 : zI, I32 = zuI I10 180 x2.toNatClampNeg 1 →
              gw_X12_strike (d + 1) Q 23 [some (.ref 160), some (.int (x1 + 0)), some (.int (x2 + 1))] [] I32 L11 P12
            ))
          ))
        ) ∧ ((I10 183 x2.toNatClampNeg) = 0 →
          (((I10 180 x2.toNatClampNeg) = 0 →
            ∀ I36 : zI, I36 = zuI I10 180 x2.toNatClampNeg 0 →
            gw_X12_strike (d + 1) Q 23 [some (.ref 160), some (.int (x1 + 1)), some (.int (x2 + 1))] [] I36 L11 P12
          ) ∧ (¬ (I10 180 x2.toNatClampNeg) = 0 →
            (((I10 183 x2.toNatClampNeg) = 0 →
              ∀ I38 : zI, I38 = zuI I10 180 x2.toNatClampNeg 0 →
              gw_X12_strike (d + 1) Q 23 [some (.ref 160), some (.int (x1 + 1)), some (.int (x2 + 1))] [] I38 L11 P12
            ) ∧ (¬ (I10 183 x2.toNatClampNeg) = 0 →
              ∀ I40 : zI, I40 = zuI I10 180 x2.toNatClampNeg 1 →
              gw_X12_strike (d + 1) Q 23 [some (.ref 160), some (.int (x1 + 1)), some (.int (x2 + 1))] [] I40 L11 P12
            ))
          ))
        ))
      ))
    ))
  )
set_option maxRecDepth 20000 in
theorem g_X12_strike_23 {d : Nat} {Q : zQt} {x1 : Int32} {x2 : Int32} {I : zI} {L : zL} {P : zP} (hP : zPk P) (hv : v_X12_strike_23 d Q x1 x2 I L P) : gw_X12_strike (d + 1) Q 23 [some (.ref 160), some (.int x1), some (.int x2)] [] I L P := by
  unfold v_X12_strike_23 at hv
  refine z_iload_n dX12_strike_23 rfl ?_
  refine z_aload_n dX12_strike_24 rfl ?_
  refine z_callV (As := []) (st := [.int x2]) dX12_strike_25 zl_X12_346 zv_X12_worldMany (by decide) rfl zn_160 zo_160 rfl rfl (Nat.le_of_ble_eq_true rfl) ⟨Nat.le_refl _, Nat.le_refl _⟩ ⟨Nat.le_refl _, Nat.le_refl _⟩ hv (fun v1 I10 L11 P12 nx1 q13 => ?_)
  obtain ⟨rfl, r14, rfl, hv⟩ := q13
  refine z_icmp_ge (tgt := 92) dX12_strike_28 (by decide) (fun q45 => ?_) (fun q45 => ?_)
  · have hv := hv.1 q45
    refine z_iload_n dX12_strike_92 rfl ?_
    exact z_ireturn dX12_strike_93 rfl rfl (Nat.le_refl _) (Nat.le_refl _) hv
  · have hv := hv.2 q45
    refine z_iload_n dX12_strike_31 rfl ?_
    refine z_aload_n dX12_strike_32 rfl ?_
    obtain ⟨h15, hv⟩ := hv
    refine z_getP dX12_strike_33 zf_X12_74 zn_160 zo_160 (fun _ _ _ _ _ => rfl) (h15 160 35 180 zp_160_35) ?_
    refine z_iload_n dX12_strike_36 rfl ?_
    obtain ⟨h16, hv⟩ := hv
    refine z_zaload dX12_strike_37 zn_180 zh_180 h16 ?_
    refine z_if_eq (tgt := 54) dX12_strike_38 (by decide) (fun q44 => ?_) (fun q44 => ?_)
    · have hv := hv.1 q44
      refine z_iconst (v := 0) dX12_strike_54 (by decide) ?_
      refine z_iadd dX12_strike_55 ?_
      refine z_istore_n (lv2 := [some (.ref 160), some (.int (x1 + 0)), some (.int x2)]) dX12_strike_56 (by decide) rfl rfl ?_
      refine z_aload_n dX12_strike_57 rfl ?_
      refine z_getP dX12_strike_58 zf_X12_74 zn_160 zo_160 (fun _ _ _ _ _ => rfl) (h15 160 35 180 zp_160_35) ?_
      refine z_iload_n dX12_strike_61 rfl ?_
      refine z_aload_n dX12_strike_62 rfl ?_
      refine z_getP dX12_strike_63 zf_X12_74 zn_160 zo_160 (fun _ _ _ _ _ => rfl) (h15 160 35 180 zp_160_35) ?_
      refine z_iload_n dX12_strike_66 rfl ?_
      refine z_zaload dX12_strike_67 zn_180 zh_180 h16 ?_
      refine z_if_eq (tgt := 84) dX12_strike_68 (by decide) (fun q25 => ?_) (fun q25 => ?_)
      · have hv := hv.1 q25
        refine z_iconst (v := 0) dX12_strike_84 (by decide) ?_
        refine z_zastore (w := 0) dX12_strike_85 zn_180 zh_180 h16 (by decide) (z_nmI (fun I18 e17 => ?_))
        have hv := hv I18 e17
        refine z_iinc (v2 := x2 + 1) (lv2 := [some (.ref 160), some (.int (x1 + 0)), some (.int (x2 + 1))]) dX12_strike_86 rfl (by rfl) (by decide) rfl rfl ?_
        refine z_goto (tgt := 23) dX12_strike_89 (by decide) ?_
        exact hv
      · have hv := hv.2 q25
        refine z_aload_n dX12_strike_71 rfl ?_
        refine z_getP dX12_strike_72 zf_X12_83 zn_160 zo_160 (fun _ _ _ _ _ => rfl) (h15 160 41 183 zp_160_41) ?_
        refine z_iload_n dX12_strike_75 rfl ?_
        obtain ⟨h19, hv⟩ := hv
        refine z_iaload dX12_strike_76 zn_183 zh_183 h19 ?_
        refine z_if_eq (tgt := 84) dX12_strike_77 (by decide) (fun q24 => ?_) (fun q24 => ?_)
        · have hv := hv.1 q24
          refine z_iconst (v := 0) dX12_strike_84 (by decide) ?_
          refine z_zastore (w := 0) dX12_strike_85 zn_180 zh_180 h16 (by decide) (z_nmI (fun I21 e20 => ?_))
          have hv := hv I21 e20
          refine z_iinc (v2 := x2 + 1) (lv2 := [some (.ref 160), some (.int (x1 + 0)), some (.int (x2 + 1))]) dX12_strike_86 rfl (by rfl) (by decide) rfl rfl ?_
          refine z_goto (tgt := 23) dX12_strike_89 (by decide) ?_
          exact hv
        · have hv := hv.2 q24
          refine z_iconst (v := 1) dX12_strike_80 (by decide) ?_
          refine z_goto (tgt := 85) dX12_strike_81 (by decide) ?_
          refine z_zastore (w := 1) dX12_strike_85 zn_180 zh_180 h16 (by decide) (z_nmI (fun I23 e22 => ?_))
          have hv := hv I23 e22
          refine z_iinc (v2 := x2 + 1) (lv2 := [some (.ref 160), some (.int (x1 + 0)), some (.int (x2 + 1))]) dX12_strike_86 rfl (by rfl) (by decide) rfl rfl ?_
          refine z_goto (tgt := 23) dX12_strike_89 (by decide) ?_
          exact hv
    · have hv := hv.2 q44
      refine z_aload_n dX12_strike_41 rfl ?_
      refine z_getP dX12_strike_42 zf_X12_83 zn_160 zo_160 (fun _ _ _ _ _ => rfl) (h15 160 41 183 zp_160_41) ?_
      refine z_iload_n dX12_strike_45 rfl ?_
      obtain ⟨h26, hv⟩ := hv
      refine z_iaload dX12_strike_46 zn_183 zh_183 h26 ?_
      refine z_if_ne (tgt := 54) dX12_strike_47 (by decide) (fun q43 => ?_) (fun q43 => ?_)
      · have hv := hv.1 q43
        refine z_iconst (v := 0) dX12_strike_54 (by decide) ?_
        refine z_iadd dX12_strike_55 ?_
        refine z_istore_n (lv2 := [some (.ref 160), some (.int (x1 + 0)), some (.int x2)]) dX12_strike_56 (by decide) rfl rfl ?_
        refine z_aload_n dX12_strike_57 rfl ?_
        refine z_getP dX12_strike_58 zf_X12_74 zn_160 zo_160 (fun _ _ _ _ _ => rfl) (h15 160 35 180 zp_160_35) ?_
        refine z_iload_n dX12_strike_61 rfl ?_
        refine z_aload_n dX12_strike_62 rfl ?_
        refine z_getP dX12_strike_63 zf_X12_74 zn_160 zo_160 (fun _ _ _ _ _ => rfl) (h15 160 35 180 zp_160_35) ?_
        refine z_iload_n dX12_strike_66 rfl ?_
        refine z_zaload dX12_strike_67 zn_180 zh_180 h16 ?_
        refine z_if_eq (tgt := 84) dX12_strike_68 (by decide) (fun q34 => ?_) (fun q34 => ?_)
        · have hv := hv.1 q34
          refine z_iconst (v := 0) dX12_strike_84 (by decide) ?_
          refine z_zastore (w := 0) dX12_strike_85 zn_180 zh_180 h16 (by decide) (z_nmI (fun I28 e27 => ?_))
          have hv := hv I28 e27
          refine z_iinc (v2 := x2 + 1) (lv2 := [some (.ref 160), some (.int (x1 + 0)), some (.int (x2 + 1))]) dX12_strike_86 rfl (by rfl) (by decide) rfl rfl ?_
          refine z_goto (tgt := 23) dX12_strike_89 (by decide) ?_
          exact hv
        · have hv := hv.2 q34
          refine z_aload_n dX12_strike_71 rfl ?_
          refine z_getP dX12_strike_72 zf_X12_83 zn_160 zo_160 (fun _ _ _ _ _ => rfl) (h15 160 41 183 zp_160_41) ?_
          refine z_iload_n dX12_strike_75 rfl ?_
          refine z_iaload dX12_strike_76 zn_183 zh_183 h26 ?_
          refine z_if_eq (tgt := 84) dX12_strike_77 (by decide) (fun q33 => ?_) (fun q33 => ?_)
          · have hv := hv.1 q33
            refine z_iconst (v := 0) dX12_strike_84 (by decide) ?_
            refine z_zastore (w := 0) dX12_strike_85 zn_180 zh_180 h16 (by decide) (z_nmI (fun I30 e29 => ?_))
            have hv := hv I30 e29
            refine z_iinc (v2 := x2 + 1) (lv2 := [some (.ref 160), some (.int (x1 + 0)), some (.int (x2 + 1))]) dX12_strike_86 rfl (by rfl) (by decide) rfl rfl ?_
            refine z_goto (tgt := 23) dX12_strike_89 (by decide) ?_
            exact hv
          · have hv := hv.2 q33
            refine z_iconst (v := 1) dX12_strike_80 (by decide) ?_
            refine z_goto (tgt := 85) dX12_strike_81 (by decide) ?_
            refine z_zastore (w := 1) dX12_strike_85 zn_180 zh_180 h16 (by decide) (z_nmI (fun I32 e31 => ?_))
            have hv := hv I32 e31
            refine z_iinc (v2 := x2 + 1) (lv2 := [some (.ref 160), some (.int (x1 + 0)), some (.int (x2 + 1))]) dX12_strike_86 rfl (by rfl) (by decide) rfl rfl ?_
            refine z_goto (tgt := 23) dX12_strike_89 (by decide) ?_
            exact hv
      · have hv := hv.2 q43
        refine z_iconst (v := 1) dX12_strike_50 (by decide) ?_
        refine z_goto (tgt := 55) dX12_strike_51 (by decide) ?_
        refine z_iadd dX12_strike_55 ?_
        refine z_istore_n (lv2 := [some (.ref 160), some (.int (x1 + 1)), some (.int x2)]) dX12_strike_56 (by decide) rfl rfl ?_
        refine z_aload_n dX12_strike_57 rfl ?_
        refine z_getP dX12_strike_58 zf_X12_74 zn_160 zo_160 (fun _ _ _ _ _ => rfl) (h15 160 35 180 zp_160_35) ?_
        refine z_iload_n dX12_strike_61 rfl ?_
        refine z_aload_n dX12_strike_62 rfl ?_
        refine z_getP dX12_strike_63 zf_X12_74 zn_160 zo_160 (fun _ _ _ _ _ => rfl) (h15 160 35 180 zp_160_35) ?_
        refine z_iload_n dX12_strike_66 rfl ?_
        refine z_zaload dX12_strike_67 zn_180 zh_180 h16 ?_
        refine z_if_eq (tgt := 84) dX12_strike_68 (by decide) (fun q42 => ?_) (fun q42 => ?_)
        · have hv := hv.1 q42
          refine z_iconst (v := 0) dX12_strike_84 (by decide) ?_
          refine z_zastore (w := 0) dX12_strike_85 zn_180 zh_180 h16 (by decide) (z_nmI (fun I36 e35 => ?_))
          have hv := hv I36 e35
          refine z_iinc (v2 := x2 + 1) (lv2 := [some (.ref 160), some (.int (x1 + 1)), some (.int (x2 + 1))]) dX12_strike_86 rfl (by rfl) (by decide) rfl rfl ?_
          refine z_goto (tgt := 23) dX12_strike_89 (by decide) ?_
          exact hv
        · have hv := hv.2 q42
          refine z_aload_n dX12_strike_71 rfl ?_
          refine z_getP dX12_strike_72 zf_X12_83 zn_160 zo_160 (fun _ _ _ _ _ => rfl) (h15 160 41 183 zp_160_41) ?_
          refine z_iload_n dX12_strike_75 rfl ?_
          refine z_iaload dX12_strike_76 zn_183 zh_183 h26 ?_
          refine z_if_eq (tgt := 84) dX12_strike_77 (by decide) (fun q41 => ?_) (fun q41 => ?_)
          · have hv := hv.1 q41
            refine z_iconst (v := 0) dX12_strike_84 (by decide) ?_
            refine z_zastore (w := 0) dX12_strike_85 zn_180 zh_180 h16 (by decide) (z_nmI (fun I38 e37 => ?_))
            have hv := hv I38 e37
            refine z_iinc (v2 := x2 + 1) (lv2 := [some (.ref 160), some (.int (x1 + 1)), some (.int (x2 + 1))]) dX12_strike_86 rfl (by rfl) (by decide) rfl rfl ?_
            refine z_goto (tgt := 23) dX12_strike_89 (by decide) ?_
            exact hv
          · have hv := hv.2 q41
            refine z_iconst (v := 1) dX12_strike_80 (by decide) ?_
            refine z_goto (tgt := 85) dX12_strike_81 (by decide) ?_
            refine z_zastore (w := 1) dX12_strike_85 zn_180 zh_180 h16 (by decide) (z_nmI (fun I40 e39 => ?_))
            have hv := hv I40 e39
            refine z_iinc (v2 := x2 + 1) (lv2 := [some (.ref 160), some (.int (x1 + 1)), some (.int (x2 + 1))]) dX12_strike_86 rfl (by rfl) (by decide) rfl rfl ?_
            refine z_goto (tgt := 23) dX12_strike_89 (by decide) ?_
            exact hv
def v_X12_strike (d : Nat) (Q : zQt)  (I : zI) (L : zL) (P : zP) : Prop :=
  zMi zm_X12_theTrue d [.ref 160] I L P (fun r5 I1 L2 P3 =>
    vp_in r5 12288 ∧
    ((¬ (I1 183 r5.toNatClampNeg) = 0 →
      ∀ I7 : zI, I7 = zuI I1 160 46 0 →
      gw_X12_strike (d + 1) Q 23 [some (.ref 160), some (.int 0), some (.int 0)] [] I7 L2 P3
    ) ∧ ((I1 183 r5.toNatClampNeg) = 0 →
      Q (some (.int (-1))) I1 L2 P3 205
    ))
  )
set_option maxRecDepth 20000 in
theorem g_X12_strike {d : Nat} {Q : zQt}  {I : zI} {L : zL} {P : zP} (hP : zPk P) (hv : v_X12_strike d Q  I L P) : zM zm_X12_strike (d + 1) 0 0 [.ref 160] I L P 205 Q := by
  unfold v_X12_strike at hv
  refine zM_of (lv0 := [some (.ref 160), none, none]) (by decide +kernel) (Nat.le_of_ble_eq_true rfl) rfl ?_
  refine z_aload_n dX12_strike_0 rfl ?_
  refine z_getP dX12_strike_1 zf_X12_83 zn_160 zo_160 (fun _ _ _ _ _ => rfl) (hP 160 41 183 zp_160_41) ?_
  refine z_aload_n dX12_strike_4 rfl ?_
  refine z_callV (As := []) (st := [.ref 183]) dX12_strike_5 zl_X12_410 zv_X12_theTrue (by decide) rfl zn_160 zo_160 rfl rfl (Nat.le_of_ble_eq_true rfl) ⟨Nat.le_refl _, Nat.le_refl _⟩ ⟨Nat.le_refl _, Nat.le_refl _⟩ hv (fun v1 I1 L2 P3 nx1 q4 => ?_)
  obtain ⟨rfl, r5, rfl, hv⟩ := q4
  obtain ⟨h6, hv⟩ := hv
  refine z_iaload dX12_strike_8 zn_183 zh_183 h6 ?_
  refine z_if_ne (tgt := 14) dX12_strike_9 (by decide) (fun q9 => ?_) (fun q9 => ?_)
  · have hv := hv.1 q9
    refine z_aload_n dX12_strike_14 rfl ?_
    refine z_iconst (v := 0) dX12_strike_15 (by decide) ?_
    refine z_putI dX12_strike_16 zf_X12_349 zn_160 zo_160 (Or.inl rfl) (fun _ _ _ _ _ => rfl) (by decide) (by decide) (z_nmI (fun I7 e8 => ?_))
    have hv := hv I7 e8
    refine z_iconst (v := 0) dX12_strike_19 (by decide) ?_
    refine z_istore_n (lv2 := [some (.ref 160), some (.int 0), none]) dX12_strike_20 (by decide) rfl rfl ?_
    refine z_iconst (v := 0) dX12_strike_21 (by decide) ?_
    refine z_istore_n (lv2 := [some (.ref 160), some (.int 0), some (.int 0)]) dX12_strike_22 (by decide) rfl rfl ?_
    exact hv
  · have hv := hv.2 q9
    refine z_iconst (v := (-1)) dX12_strike_12 (by decide) ?_
    exact z_ireturn dX12_strike_13 rfl rfl (Nat.le_refl _) (Nat.le_refl _) hv
abbrev gw_X12_say (d : Nat) (Q : zQt) (pc : Nat) (lv : zV) (st : List Value) (I : zI) (L : zL) (P : zP) : Prop := zW zm_X12_say (zRm d 0 0) 0 0 Q pc lv st I L P 205 0 0
def v_X12_say (d : Nat) (Q : zQt)  (I : zI) (L : zL) (P : zP) : Prop :=
  zMi zm_X12_readAlone d [.ref 160] I L P (fun r5 I1 L2 P3 =>
    ((¬ r5 = 0 →
      zMv zm_X12_work d [.ref 160, .int 1400, .int (I1 160 32)] I1 L2 P3 (fun I6 L7 P8 =>
        zMi zm_X12_strike d [.ref 160] I6 L7 P8 (fun r15 I11 L12 P13 =>
          Q (some (.int r15)) I11 L12 P13 205
        )
      )
    ) ∧ (r5 = 0 →
      Q (some (.int (-1))) I1 L2 P3 205
    ))
  )
set_option maxRecDepth 20000 in
theorem g_X12_say {d : Nat} {Q : zQt}  {I : zI} {L : zL} {P : zP} (hP : zPk P) (hv : v_X12_say d Q  I L P) : zM zm_X12_say (d + 1) 0 0 [.ref 160] I L P 205 Q := by
  unfold v_X12_say at hv
  refine zM_of (lv0 := [some (.ref 160)]) (by decide +kernel) (Nat.le_of_ble_eq_true rfl) rfl ?_
  refine z_aload_n dX12_say_0 rfl ?_
  refine z_callV (As := []) (st := []) dX12_say_1 zl_X12_403 zv_X12_readAlone (by decide) rfl zn_160 zo_160 rfl rfl (Nat.le_of_ble_eq_true rfl) ⟨Nat.le_refl _, Nat.le_refl _⟩ ⟨Nat.le_refl _, Nat.le_refl _⟩ hv (fun v1 I1 L2 P3 nx1 q4 => ?_)
  obtain ⟨rfl, r5, rfl, hv⟩ := q4
  refine z_if_ne (tgt := 9) dX12_say_4 (by decide) (fun q16 => ?_) (fun q16 => ?_)
  · have hv := hv.1 q16
    refine z_aload_n dX12_say_9 rfl ?_
    refine z_sipush (v := 1400) dX12_say_10 (by decide) ?_
    refine z_aload_n dX12_say_13 rfl ?_
    refine z_getI dX12_say_14 zf_X12_246 zn_160 zo_160 (fun _ _ _ _ _ => rfl) ?_
    refine z_callV (As := [.int 1400, .int (I1 160 32)]) (st := []) dX12_say_17 zl_X12_407 zv_X12_work (by decide) rfl zn_160 zo_160 rfl rfl (Nat.le_of_ble_eq_true rfl) ⟨Nat.le_refl _, Nat.le_refl _⟩ ⟨Nat.le_refl _, Nat.le_refl _⟩ hv (fun v1 I6 L7 P8 nx1 q9 => ?_)
    obtain ⟨rfl, rfl, hv⟩ := q9
    refine z_aload_n dX12_say_20 rfl ?_
    refine z_callV (As := []) (st := []) dX12_say_21 zl_X12_416 zv_X12_strike (by decide) rfl zn_160 zo_160 rfl rfl (Nat.le_of_ble_eq_true rfl) ⟨Nat.le_refl _, Nat.le_refl _⟩ ⟨Nat.le_refl _, Nat.le_refl _⟩ hv (fun v1 I11 L12 P13 nx1 q14 => ?_)
    obtain ⟨rfl, r15, rfl, hv⟩ := q14
    exact z_ireturn dX12_say_24 rfl rfl (Nat.le_refl _) (Nat.le_refl _) hv
  · have hv := hv.2 q16
    refine z_iconst (v := (-1)) dX12_say_7 (by decide) ?_
    exact z_ireturn dX12_say_8 rfl rfl (Nat.le_refl _) (Nat.le_refl _) hv
abbrev gw_X12_saying (d : Nat) (Q : zQt) (pc : Nat) (lv : zV) (st : List Value) (I : zI) (L : zL) (P : zP) : Prop := zW zm_X12_saying (zRm d 0 0) 0 0 Q pc lv st I L P 205 0 0
def v_X12_saying (d : Nat) (Q : zQt) (p1 : Int32) (I : zI) (L : zL) (P : zP) : Prop :=
  vp_in (I 160 28) 2 ∧
  zMi zm_X12_isIn d [.int p1, .int 0, .int ((I 165 (I 160 28).toNatClampNeg) - 1)] I L P (fun r6 I2 L3 P4 =>
    ((¬ r6 = 0 →
      zPk P4 ∧
      vp_in (((6 : Int32) * (I2 160 28)) + p1) 12 ∧
      zMv zm_X12_work d [.ref 160, .int (I2 169 (((6 : Int32) * (I2 160 28)) + p1).toNatClampNeg), .int (I2 170 (((6 : Int32) * (I2 160 28)) + p1).toNatClampNeg)] I2 L3 P4 (fun I9 L10 P11 =>
        zMi zm_X12_strike d [.ref 160] I9 L10 P11 (fun r18 I14 L15 P16 =>
          Q (some (.int r18)) I14 L15 P16 205
        )
      )
    ) ∧ (r6 = 0 →
      Q (some (.int (-1))) I2 L3 P4 205
    ))
  )
set_option maxRecDepth 20000 in
theorem g_X12_saying {d : Nat} {Q : zQt} {p1 : Int32} {I : zI} {L : zL} {P : zP} (hP : zPk P) (hv : v_X12_saying d Q p1 I L P) : zM zm_X12_saying (d + 1) 0 0 [.ref 160, .int p1] I L P 205 Q := by
  unfold v_X12_saying at hv
  refine zM_of (lv0 := [some (.ref 160), some (.int p1)]) (by decide +kernel) (Nat.le_of_ble_eq_true rfl) rfl ?_
  refine z_iload_n dX12_saying_0 rfl ?_
  refine z_iconst (v := 0) dX12_saying_1 (by decide) ?_
  refine z_aload_n dX12_saying_2 rfl ?_
  refine z_getP dX12_saying_3 zf_X12_27 zn_160 zo_160 (fun _ _ _ _ _ => rfl) (hP 160 13 165 zp_160_13) ?_
  refine z_aload_n dX12_saying_6 rfl ?_
  refine z_getI dX12_saying_7 zf_X12_261 zn_160 zo_160 (fun _ _ _ _ _ => rfl) ?_
  obtain ⟨h1, hv⟩ := hv
  refine z_iaload dX12_saying_10 zn_165 zh_165 h1 ?_
  refine z_iconst (v := 1) dX12_saying_11 (by decide) ?_
  refine z_isub dX12_saying_12 ?_
  refine z_callS (As := [.int p1, .int 0, .int ((I 165 (I 160 28).toNatClampNeg) - 1)]) (st := []) dX12_saying_13 zl_X12_342 zs_X12_isIn rfl rfl (Nat.le_of_ble_eq_true rfl) ⟨Nat.le_refl _, Nat.le_refl _⟩ ⟨Nat.le_refl _, Nat.le_refl _⟩ hv (fun v1 I2 L3 P4 nx1 q5 => ?_)
  obtain ⟨rfl, r6, rfl, hv⟩ := q5
  refine z_if_ne (tgt := 21) dX12_saying_16 (by decide) (fun q19 => ?_) (fun q19 => ?_)
  · have hv := hv.1 q19
    refine z_aload_n dX12_saying_21 rfl ?_
    refine z_aload_n dX12_saying_22 rfl ?_
    obtain ⟨h7, hv⟩ := hv
    refine z_getP dX12_saying_23 zf_X12_39 zn_160 zo_160 (fun _ _ _ _ _ => rfl) (h7 160 17 169 zp_160_17) ?_
    refine z_bipush (v := 6) dX12_saying_26 (by decide) ?_
    refine z_aload_n dX12_saying_28 rfl ?_
    refine z_getI dX12_saying_29 zf_X12_261 zn_160 zo_160 (fun _ _ _ _ _ => rfl) ?_
    refine z_imul dX12_saying_32 ?_
    refine z_iload_n dX12_saying_33 rfl ?_
    refine z_iadd dX12_saying_34 ?_
    obtain ⟨h8, hv⟩ := hv
    refine z_iaload dX12_saying_35 zn_169 zh_169 h8 ?_
    refine z_aload_n dX12_saying_36 rfl ?_
    refine z_getP dX12_saying_37 zf_X12_42 zn_160 zo_160 (fun _ _ _ _ _ => rfl) (h7 160 18 170 zp_160_18) ?_
    refine z_bipush (v := 6) dX12_saying_40 (by decide) ?_
    refine z_aload_n dX12_saying_42 rfl ?_
    refine z_getI dX12_saying_43 zf_X12_261 zn_160 zo_160 (fun _ _ _ _ _ => rfl) ?_
    refine z_imul dX12_saying_46 ?_
    refine z_iload_n dX12_saying_47 rfl ?_
    refine z_iadd dX12_saying_48 ?_
    refine z_iaload dX12_saying_49 zn_170 zh_170 h8 ?_
    refine z_callV (As := [.int (I2 169 (((6 : Int32) * (I2 160 28)) + p1).toNatClampNeg), .int (I2 170 (((6 : Int32) * (I2 160 28)) + p1).toNatClampNeg)]) (st := []) dX12_saying_50 zl_X12_407 zv_X12_work (by decide) rfl zn_160 zo_160 rfl rfl (Nat.le_of_ble_eq_true rfl) ⟨Nat.le_refl _, Nat.le_refl _⟩ ⟨Nat.le_refl _, Nat.le_refl _⟩ hv (fun v1 I9 L10 P11 nx1 q12 => ?_)
    obtain ⟨rfl, rfl, hv⟩ := q12
    refine z_aload_n dX12_saying_53 rfl ?_
    refine z_callV (As := []) (st := []) dX12_saying_54 zl_X12_416 zv_X12_strike (by decide) rfl zn_160 zo_160 rfl rfl (Nat.le_of_ble_eq_true rfl) ⟨Nat.le_refl _, Nat.le_refl _⟩ ⟨Nat.le_refl _, Nat.le_refl _⟩ hv (fun v1 I14 L15 P16 nx1 q17 => ?_)
    obtain ⟨rfl, r18, rfl, hv⟩ := q17
    exact z_ireturn dX12_saying_57 rfl rfl (Nat.le_refl _) (Nat.le_refl _) hv
  · have hv := hv.2 q19
    refine z_iconst (v := (-1)) dX12_saying_19 (by decide) ?_
    exact z_ireturn dX12_saying_20 rfl rfl (Nat.le_refl _) (Nat.le_refl _) hv
abbrev gw_X12_whisper (d : Nat) (Q : zQt) (pc : Nat) (lv : zV) (st : List Value) (I : zI) (L : zL) (P : zP) : Prop := zW zm_X12_whisper (zRm d 0 0) 0 0 Q pc lv st I L P 205 0 0
def v_X12_whisper_43 (d : Nat) (Q : zQt) (p1 : Int32) (x2 : Int32) (I : zI) (L : zL) (P : zP) : Prop :=
  zMi zm_X12_worldMany d [.ref 160] I L P (fun r24 I20 L21 P22 =>
    ((r24 ≤ x2 →
      zPk P22 ∧
      vp_in (I20 160 38) 8 ∧
      ∀ I28 : zI, I28 = zuI I20 182 (I20 160 38).toNatClampNeg p1 →
      ∀ I29 : zI, I29 = zuI I28 160 38 ((I28 160 38) + 1) →
      ∀ I31 : zI, I31 = zuI I29 160 46 0 →
      zMi zm_X12_theTrue d [.ref 160] I31 L21 P22 (fun r37 I33 L34 P35 =>
        vp_in r37 12288 ∧
        (((I33 183 r37.toNatClampNeg) = 0 →
          Q (some (.int 0)) I33 L34 P35 205
        ) ∧ (¬ (I33 183 r37.toNatClampNeg) = 0 →
          Q (some (.int 1)) I33 L34 P35 205
        ))
      )
    ) ∧ (¬ r24 ≤ x2 →
      zPk P22 ∧
      vp_in x2 12288 ∧
      (((I20 183 x2.toNatClampNeg) = 0 →
        vp_in (((256 : Int32) * (I20 160 38)) + x2) 2048 ∧
        ∀ I44 : zI, I44 = zuI I20 181 (((256 : Int32) * (I20 160 38)) + x2).toNatClampNeg 0 →
        gw_X12_whisper (d + 1) Q 43 [some (.ref 160), some (.int p1), some (.int (x2 + 1))] [] I44 L21 P22
      ) ∧ (¬ (I20 183 x2.toNatClampNeg) = 0 →
        vp_in (((256 : Int32) * (I20 160 38)) + x2) 2048 ∧
        ∀ I47 : zI, I47 = zuI I20 181 (((256 : Int32) * (I20 160 38)) + x2).toNatClampNeg 1 →
        gw_X12_whisper (d + 1) Q 43 [some (.ref 160), some (.int p1), some (.int (x2 + 1))] [] I47 L21 P22
      ))
    ))
  )
set_option maxRecDepth 20000 in
theorem g_X12_whisper_43 {d : Nat} {Q : zQt} {p1 : Int32} {x2 : Int32} {I : zI} {L : zL} {P : zP} (hP : zPk P) (hv : v_X12_whisper_43 d Q p1 x2 I L P) : gw_X12_whisper (d + 1) Q 43 [some (.ref 160), some (.int p1), some (.int x2)] [] I L P := by
  unfold v_X12_whisper_43 at hv
  refine z_iload_n dX12_whisper_43 rfl ?_
  refine z_aload_n dX12_whisper_44 rfl ?_
  refine z_callV (As := []) (st := [.int x2]) dX12_whisper_45 zl_X12_346 zv_X12_worldMany (by decide) rfl zn_160 zo_160 rfl rfl (Nat.le_of_ble_eq_true rfl) ⟨Nat.le_refl _, Nat.le_refl _⟩ ⟨Nat.le_refl _, Nat.le_refl _⟩ hv (fun v1 I20 L21 P22 nx1 q23 => ?_)
  obtain ⟨rfl, r24, rfl, hv⟩ := q23
  refine z_icmp_ge (tgt := 86) dX12_whisper_48 (by decide) (fun q49 => ?_) (fun q49 => ?_)
  · have hv := hv.1 q49
    refine z_aload_n dX12_whisper_86 rfl ?_
    obtain ⟨h25, hv⟩ := hv
    refine z_getP dX12_whisper_87 zf_X12_80 zn_160 zo_160 (fun _ _ _ _ _ => rfl) (h25 160 37 182 zp_160_37) ?_
    refine z_aload_n dX12_whisper_90 rfl ?_
    refine z_getI dX12_whisper_91 zf_X12_353 zn_160 zo_160 (fun _ _ _ _ _ => rfl) ?_
    refine z_iload_n dX12_whisper_94 rfl ?_
    obtain ⟨h26, hv⟩ := hv
    refine z_iastore dX12_whisper_95 zn_182 zh_182 h26 (z_nmI (fun I28 e27 => ?_))
    have hv := hv I28 e27
    refine z_aload_n dX12_whisper_96 rfl ?_
    refine z_dup dX12_whisper_97 rfl ?_
    refine z_getI dX12_whisper_98 zf_X12_353 zn_160 zo_160 (fun _ _ _ _ _ => rfl) ?_
    refine z_iconst (v := 1) dX12_whisper_101 (by decide) ?_
    refine z_iadd dX12_whisper_102 ?_
    refine z_putI dX12_whisper_103 zf_X12_353 zn_160 zo_160 (Or.inl rfl) (fun _ _ _ _ _ => rfl) rfl rfl (z_nmI (fun I29 e30 => ?_))
    have hv := hv I29 e30
    refine z_aload_n dX12_whisper_106 rfl ?_
    refine z_iconst (v := 0) dX12_whisper_107 (by decide) ?_
    refine z_putI dX12_whisper_108 zf_X12_349 zn_160 zo_160 (Or.inl rfl) (fun _ _ _ _ _ => rfl) (by decide) (by decide) (z_nmI (fun I31 e32 => ?_))
    have hv := hv I31 e32
    refine z_aload_n dX12_whisper_111 rfl ?_
    refine z_getP dX12_whisper_112 zf_X12_83 zn_160 zo_160 (fun _ _ _ _ _ => rfl) (h25 160 41 183 zp_160_41) ?_
    refine z_aload_n dX12_whisper_115 rfl ?_
    refine z_callV (As := []) (st := [.ref 183]) dX12_whisper_116 zl_X12_410 zv_X12_theTrue (by decide) rfl zn_160 zo_160 rfl rfl (Nat.le_of_ble_eq_true rfl) ⟨Nat.le_refl _, Nat.le_refl _⟩ ⟨Nat.le_refl _, Nat.le_refl _⟩ hv (fun v1 I33 L34 P35 nx1 q36 => ?_)
    obtain ⟨rfl, r37, rfl, hv⟩ := q36
    obtain ⟨h38, hv⟩ := hv
    refine z_iaload dX12_whisper_119 zn_183 zh_183 h38 ?_
    refine z_if_eq (tgt := 127) dX12_whisper_120 (by decide) (fun q39 => ?_) (fun q39 => ?_)
    · have hv := hv.1 q39
      refine z_iconst (v := 0) dX12_whisper_127 (by decide) ?_
      exact z_ireturn dX12_whisper_128 rfl rfl (Nat.le_refl _) (Nat.le_refl _) hv
    · have hv := hv.2 q39
      refine z_iconst (v := 1) dX12_whisper_123 (by decide) ?_
      refine z_goto (tgt := 128) dX12_whisper_124 (by decide) ?_
      exact z_ireturn dX12_whisper_128 rfl rfl (Nat.le_refl _) (Nat.le_refl _) hv
  · have hv := hv.2 q49
    refine z_aload_n dX12_whisper_51 rfl ?_
    obtain ⟨h40, hv⟩ := hv
    refine z_getP dX12_whisper_52 zf_X12_77 zn_160 zo_160 (fun _ _ _ _ _ => rfl) (h40 160 36 181 zp_160_36) ?_
    refine z_sipush (v := 256) dX12_whisper_55 (by decide) ?_
    refine z_aload_n dX12_whisper_58 rfl ?_
    refine z_getI dX12_whisper_59 zf_X12_353 zn_160 zo_160 (fun _ _ _ _ _ => rfl) ?_
    refine z_imul dX12_whisper_62 ?_
    refine z_iload_n dX12_whisper_63 rfl ?_
    refine z_iadd dX12_whisper_64 ?_
    refine z_aload_n dX12_whisper_65 rfl ?_
    refine z_getP dX12_whisper_66 zf_X12_83 zn_160 zo_160 (fun _ _ _ _ _ => rfl) (h40 160 41 183 zp_160_41) ?_
    refine z_iload_n dX12_whisper_69 rfl ?_
    obtain ⟨h41, hv⟩ := hv
    refine z_iaload dX12_whisper_70 zn_183 zh_183 h41 ?_
    refine z_if_eq (tgt := 78) dX12_whisper_71 (by decide) (fun q48 => ?_) (fun q48 => ?_)
    · have hv := hv.1 q48
      refine z_iconst (v := 0) dX12_whisper_78 (by decide) ?_
      obtain ⟨h42, hv⟩ := hv
      refine z_zastore (w := 0) dX12_whisper_79 zn_181 zh_181 h42 (by decide) (z_nmI (fun I44 e43 => ?_))
      have hv := hv I44 e43
      refine z_iinc (v2 := x2 + 1) (lv2 := [some (.ref 160), some (.int p1), some (.int (x2 + 1))]) dX12_whisper_80 rfl (by rfl) (by decide) rfl rfl ?_
      refine z_goto (tgt := 43) dX12_whisper_83 (by decide) ?_
      exact hv
    · have hv := hv.2 q48
      refine z_iconst (v := 1) dX12_whisper_74 (by decide) ?_
      refine z_goto (tgt := 79) dX12_whisper_75 (by decide) ?_
      obtain ⟨h45, hv⟩ := hv
      refine z_zastore (w := 1) dX12_whisper_79 zn_181 zh_181 h45 (by decide) (z_nmI (fun I47 e46 => ?_))
      have hv := hv I47 e46
      refine z_iinc (v2 := x2 + 1) (lv2 := [some (.ref 160), some (.int p1), some (.int (x2 + 1))]) dX12_whisper_80 rfl (by rfl) (by decide) rfl rfl ?_
      refine z_goto (tgt := 43) dX12_whisper_83 (by decide) ?_
      exact hv
def v_X12_whisper (d : Nat) (Q : zQt) (p1 : Int32) (I : zI) (L : zL) (P : zP) : Prop :=
  zMi zm_X12_readAlone d [.ref 160] I L P (fun r5 I1 L2 P3 =>
    ((r5 = 0 →
      Q (some (.int (-1))) I1 L2 P3 205
    ) ∧ (¬ r5 = 0 →
      ((p1 < 0 →
        Q (some (.int (-1))) I1 L2 P3 205
      ) ∧ (¬ p1 < 0 →
        zMi zm_X12_worldMany d [.ref 160] I1 L2 P3 (fun r10 I6 L7 P8 =>
          ((r10 ≤ p1 →
            Q (some (.int (-1))) I6 L7 P8 205
          ) ∧ (¬ r10 ≤ p1 →
            ((¬ (I6 160 38) = 8 →
              zMv zm_X12_work d [.ref 160, .int 1400, .int (I6 160 32)] I6 L7 P8 (fun I11 L12 P13 =>
                gw_X12_whisper (d + 1) Q 43 [some (.ref 160), some (.int p1), some (.int 0)] [] I11 L12 P13
              )
            ) ∧ ((I6 160 38) = 8 →
              Q (some (.int (-1))) I6 L7 P8 205
            ))
          ))
        )
      ))
    ))
  )
set_option maxRecDepth 20000 in
theorem g_X12_whisper {d : Nat} {Q : zQt} {p1 : Int32} {I : zI} {L : zL} {P : zP} (hP : zPk P) (hv : v_X12_whisper d Q p1 I L P) : zM zm_X12_whisper (d + 1) 0 0 [.ref 160, .int p1] I L P 205 Q := by
  unfold v_X12_whisper at hv
  refine zM_of (lv0 := [some (.ref 160), some (.int p1), none]) (by decide +kernel) (Nat.le_of_ble_eq_true rfl) rfl ?_
  refine z_aload_n dX12_whisper_0 rfl ?_
  refine z_callV (As := []) (st := []) dX12_whisper_1 zl_X12_403 zv_X12_readAlone (by decide) rfl zn_160 zo_160 rfl rfl (Nat.le_of_ble_eq_true rfl) ⟨Nat.le_refl _, Nat.le_refl _⟩ ⟨Nat.le_refl _, Nat.le_refl _⟩ hv (fun v1 I1 L2 P3 nx1 q4 => ?_)
  obtain ⟨rfl, r5, rfl, hv⟩ := q4
  refine z_if_eq (tgt := 28) dX12_whisper_4 (by decide) (fun q19 => ?_) (fun q19 => ?_)
  · have hv := hv.1 q19
    refine z_iconst (v := (-1)) dX12_whisper_28 (by decide) ?_
    exact z_ireturn dX12_whisper_29 rfl rfl (Nat.le_refl _) (Nat.le_refl _) hv
  · have hv := hv.2 q19
    refine z_iload_n dX12_whisper_7 rfl ?_
    refine z_if_lt (tgt := 28) dX12_whisper_8 (by decide) (fun q18 => ?_) (fun q18 => ?_)
    · have hv := hv.1 q18
      refine z_iconst (v := (-1)) dX12_whisper_28 (by decide) ?_
      exact z_ireturn dX12_whisper_29 rfl rfl (Nat.le_refl _) (Nat.le_refl _) hv
    · have hv := hv.2 q18
      refine z_iload_n dX12_whisper_11 rfl ?_
      refine z_aload_n dX12_whisper_12 rfl ?_
      refine z_callV (As := []) (st := [.int p1]) dX12_whisper_13 zl_X12_346 zv_X12_worldMany (by decide) rfl zn_160 zo_160 rfl rfl (Nat.le_of_ble_eq_true rfl) ⟨Nat.le_refl _, Nat.le_refl _⟩ ⟨Nat.le_refl _, Nat.le_refl _⟩ hv (fun v1 I6 L7 P8 nx1 q9 => ?_)
      obtain ⟨rfl, r10, rfl, hv⟩ := q9
      refine z_icmp_ge (tgt := 28) dX12_whisper_16 (by decide) (fun q17 => ?_) (fun q17 => ?_)
      · have hv := hv.1 q17
        refine z_iconst (v := (-1)) dX12_whisper_28 (by decide) ?_
        exact z_ireturn dX12_whisper_29 rfl rfl (Nat.le_refl _) (Nat.le_refl _) hv
      · have hv := hv.2 q17
        refine z_aload_n dX12_whisper_19 rfl ?_
        refine z_getI dX12_whisper_20 zf_X12_353 zn_160 zo_160 (fun _ _ _ _ _ => rfl) ?_
        refine z_bipush (v := 8) dX12_whisper_23 (by decide) ?_
        refine z_icmp_ne (tgt := 30) dX12_whisper_25 (by decide) (fun q16 => ?_) (fun q16 => ?_)
        · have hv := hv.1 q16
          refine z_aload_n dX12_whisper_30 rfl ?_
          refine z_sipush (v := 1400) dX12_whisper_31 (by decide) ?_
          refine z_aload_n dX12_whisper_34 rfl ?_
          refine z_getI dX12_whisper_35 zf_X12_246 zn_160 zo_160 (fun _ _ _ _ _ => rfl) ?_
          refine z_callV (As := [.int 1400, .int (I6 160 32)]) (st := []) dX12_whisper_38 zl_X12_407 zv_X12_work (by decide) rfl zn_160 zo_160 rfl rfl (Nat.le_of_ble_eq_true rfl) ⟨Nat.le_refl _, Nat.le_refl _⟩ ⟨Nat.le_refl _, Nat.le_refl _⟩ hv (fun v1 I11 L12 P13 nx1 q14 => ?_)
          obtain ⟨rfl, rfl, hv⟩ := q14
          refine z_iconst (v := 0) dX12_whisper_41 (by decide) ?_
          refine z_istore_n (lv2 := [some (.ref 160), some (.int p1), some (.int 0)]) dX12_whisper_42 (by decide) rfl rfl ?_
          exact hv
        · have hv := hv.2 q16
          refine z_iconst (v := (-1)) dX12_whisper_28 (by decide) ?_
          exact z_ireturn dX12_whisper_29 rfl rfl (Nat.le_refl _) (Nat.le_refl _) hv
abbrev gw_X12_goersIn (d : Nat) (Q : zQt) (pc : Nat) (lv : zV) (st : List Value) (I : zI) (L : zL) (P : zP) : Prop := zW zm_X12_goersIn (zRm d 0 0) 0 0 Q pc lv st I L P 205 0 0
def v_X12_goersIn_139 (d : Nat) (Q : zQt) (p1 : Int32) (x2 : Int32) (x3 : Int32) (x4 : Int32) (x5 : Int32) (x6 : Int32) (I : zI) (L : zL) (P : zP) : Prop :=
  gw_X12_goersIn (d + 1) Q 53 [some (.ref 160), some (.int p1), some (.int x2), some (.int x3), some (.int x4), some (.int x5), some (.int (x6 + 1))] [] I L P
set_option maxRecDepth 20000 in
theorem g_X12_goersIn_139 {d : Nat} {Q : zQt} {p1 : Int32} {x2 : Int32} {x3 : Int32} {x4 : Int32} {x5 : Int32} {x6 : Int32} {I : zI} {L : zL} {P : zP} (hP : zPk P) (hv : v_X12_goersIn_139 d Q p1 x2 x3 x4 x5 x6 I L P) : gw_X12_goersIn (d + 1) Q 139 [some (.ref 160), some (.int p1), some (.int x2), some (.int x3), some (.int x4), some (.int x5), some (.int x6)] [] I L P := by
  unfold v_X12_goersIn_139 at hv
  refine z_iinc (v2 := x6 + 1) (lv2 := [some (.ref 160), some (.int p1), some (.int x2), some (.int x3), some (.int x4), some (.int x5), some (.int (x6 + 1))]) dX12_goersIn_139 rfl (by rfl) (by decide) rfl rfl ?_
  refine z_goto (tgt := 53) dX12_goersIn_142 (by decide) ?_
  exact hv
def v_X12_goersIn_137 (d : Nat) (Q : zQt) (p1 : Int32) (x2 : Int32) (x3 : Int32) (x4 : Int32) (x6 : Int32) (t0 : Int32) (I : zI) (L : zL) (P : zP) : Prop :=
  gw_X12_goersIn (d + 1) Q 139 [some (.ref 160), some (.int p1), some (.int x2), some (.int x3), some (.int x4), some (.int t0), some (.int x6)] [] I L P
set_option maxRecDepth 20000 in
theorem g_X12_goersIn_137 {d : Nat} {Q : zQt} {p1 : Int32} {x2 : Int32} {x3 : Int32} {x4 : Int32} {x6 : Int32} {t0 : Int32} {I : zI} {L : zL} {P : zP} (hP : zPk P) (hv : v_X12_goersIn_137 d Q p1 x2 x3 x4 x6 t0 I L P) : gw_X12_goersIn (d + 1) Q 137 [some (.ref 160), some (.int p1), some (.int x2), some (.int x3), some (.int x4), none, some (.int x6)] [.int t0] I L P := by
  unfold v_X12_goersIn_137 at hv
  refine z_istore (lv2 := [some (.ref 160), some (.int p1), some (.int x2), some (.int x3), some (.int x4), some (.int t0), some (.int x6)]) dX12_goersIn_137 (by decide) rfl rfl ?_
  exact hv
def v_X12_goersIn_53 (d : Nat) (Q : zQt) (p1 : Int32) (x2 : Int32) (x3 : Int32) (x4 : Int32) (x5 : Int32) (x6 : Int32) (I : zI) (L : zL) (P : zP) : Prop :=
  zMi zm_X12_worldMany d [.ref 160] I L P (fun r15 I11 L12 P13 =>
    ((r15 ≤ x6 →
      ((¬ x4 = 0 →
        gw_X12_goersIn (d + 1) Q 4 [some (.ref 160), some (.int p1), some (.int (x2 ||| ((1 : Int32) <<< (x3 &&& 31) : Int32) : Int32)), some (.int (x3 + 1)), none, none, none] [] I11 L12 P13
      ) ∧ (x4 = 0 →
        ((x5 = 0 →
          gw_X12_goersIn (d + 1) Q 4 [some (.ref 160), some (.int p1), some (.int x2), some (.int (x3 + 1)), none, none, none] [] I11 L12 P13
        ) ∧ (¬ x5 = 0 →
          zPk P13 ∧
          vp_in (I11 160 28) 2 ∧
          (((I11 171 (I11 160 28).toNatClampNeg) = 0 →
            gw_X12_goersIn (d + 1) Q 4 [some (.ref 160), some (.int p1), some (.int x2), some (.int (x3 + 1)), none, none, none] [] I11 L12 P13
          ) ∧ (¬ (I11 171 (I11 160 28).toNatClampNeg) = 0 →
            gw_X12_goersIn (d + 1) Q 4 [some (.ref 160), some (.int p1), some (.int (x2 ||| ((1 : Int32) <<< (x3 &&& 31) : Int32) : Int32)), some (.int (x3 + 1)), none, none, none] [] I11 L12 P13
          ))
        ))
      ))
    ) ∧ (¬ r15 ≤ x6 →
      ((¬ x4 = 0 →
        zPk P13 ∧
        vp_in x6 256 ∧
        (((I11 180 x6.toNatClampNeg) = 0 →
          gw_X12_goersIn (d + 1) Q 139 [some (.ref 160), some (.int p1), some (.int x2), some (.int x3), some (.int x4), some (.int x5), some (.int x6)] [] I11 L12 P13
        ) ∧ (¬ (I11 180 x6.toNatClampNeg) = 0 →
          zMi zm_X12_areLike d [.ref 160, .int x3, .int p1, .int x6] I11 L12 P13 (fun r27 I23 L24 P25 =>
            ((¬ r27 = 0 →
              ((x4 = 0 →
                ((x5 = 0 →
                  gw_X12_goersIn (d + 1) Q 137 [some (.ref 160), some (.int p1), some (.int x2), some (.int x3), some (.int 0), none, some (.int x6)] [.int 0] I23 L24 P25
                ) ∧ (¬ x5 = 0 →
                  ((¬ ((x6 >>> (x3 &&& 31) : Int32) &&& 1 : Int32) = 0 →
                    gw_X12_goersIn (d + 1) Q 137 [some (.ref 160), some (.int p1), some (.int x2), some (.int x3), some (.int 0), none, some (.int x6)] [.int 0] I23 L24 P25
                  ) ∧ (((x6 >>> (x3 &&& 31) : Int32) &&& 1 : Int32) = 0 →
                    gw_X12_goersIn (d + 1) Q 137 [some (.ref 160), some (.int p1), some (.int x2), some (.int x3), some (.int 0), none, some (.int x6)] [.int 1] I23 L24 P25
                  ))
                ))
              ) ∧ (¬ x4 = 0 →
                ((¬ ((x6 >>> (x3 &&& 31) : Int32) &&& 1 : Int32) = 1 →
                  ((x5 = 0 →
                    gw_X12_goersIn (d + 1) Q 137 [some (.ref 160), some (.int p1), some (.int x2), some (.int x3), some (.int 0), none, some (.int x6)] [.int 0] I23 L24 P25
                  ) ∧ (¬ x5 = 0 →
                    ((¬ ((x6 >>> (x3 &&& 31) : Int32) &&& 1 : Int32) = 0 →
                      gw_X12_goersIn (d + 1) Q 137 [some (.ref 160), some (.int p1), some (.int x2), some (.int x3), some (.int 0), none, some (.int x6)] [.int 0] I23 L24 P25
                    ) ∧ (((x6 >>> (x3 &&& 31) : Int32) &&& 1 : Int32) = 0 →
                      gw_X12_goersIn (d + 1) Q 137 [some (.ref 160), some (.int p1), some (.int x2), some (.int x3), some (.int 0), none, some (.int x6)] [.int 1] I23 L24 P25
                    ))
                  ))
                ) ∧ (((x6 >>> (x3 &&& 31) : Int32) &&& 1 : Int32) = 1 →
                  ((x5 = 0 →
                    gw_X12_goersIn (d + 1) Q 137 [some (.ref 160), some (.int p1), some (.int x2), some (.int x3), some (.int 1), none, some (.int x6)] [.int 0] I23 L24 P25
                  ) ∧ (¬ x5 = 0 →
                    ((¬ ((x6 >>> (x3 &&& 31) : Int32) &&& 1 : Int32) = 0 →
                      gw_X12_goersIn (d + 1) Q 137 [some (.ref 160), some (.int p1), some (.int x2), some (.int x3), some (.int 1), none, some (.int x6)] [.int 0] I23 L24 P25
                    ) ∧ (((x6 >>> (x3 &&& 31) : Int32) &&& 1 : Int32) = 0 →
                      gw_X12_goersIn (d + 1) Q 137 [some (.ref 160), some (.int p1), some (.int x2), some (.int x3), some (.int 1), none, some (.int x6)] [.int 1] I23 L24 P25
                    ))
                  ))
                ))
              ))
            ) ∧ (r27 = 0 →
              gw_X12_goersIn (d + 1) Q 139 [some (.ref 160), some (.int p1), some (.int x2), some (.int x3), some (.int x4), some (.int x5), some (.int x6)] [] I23 L24 P25
            ))
          )
        ))
      ) ∧ (x4 = 0 →
        ((x5 = 0 →
          ((¬ x4 = 0 →
            gw_X12_goersIn (d + 1) Q 4 [some (.ref 160), some (.int p1), some (.int (x2 ||| ((1 : Int32) <<< (x3 &&& 31) : Int32) : Int32)), some (.int (x3 + 1)), none, none, none] [] I11 L12 P13
          ) ∧ (x4 = 0 →
            ((x5 = 0 →
              gw_X12_goersIn (d + 1) Q 4 [some (.ref 160), some (.int p1), some (.int x2), some (.int (x3 + 1)), none, none, none] [] I11 L12 P13
            ) ∧ (¬ x5 = 0 →
              zPk P13 ∧
              vp_in (I11 160 28) 2 ∧
              (((I11 171 (I11 160 28).toNatClampNeg) = 0 →
                gw_X12_goersIn (d + 1) Q 4 [some (.ref 160), some (.int p1), some (.int x2), some (.int (x3 + 1)), none, none, none] [] I11 L12 P13
              ) ∧ (¬ (I11 171 (I11 160 28).toNatClampNeg) = 0 →
                gw_X12_goersIn (d + 1) Q 4 [some (.ref 160), some (.int p1), some (.int (x2 ||| ((1 : Int32) <<< (x3 &&& 31) : Int32) : Int32)), some (.int (x3 + 1)), none, none, none] [] I11 L12 P13
              ))
            ))
          ))
        ) ∧ (¬ x5 = 0 →
          zPk P13 ∧
          vp_in x6 256 ∧
          (((I11 180 x6.toNatClampNeg) = 0 →
            gw_X12_goersIn (d + 1) Q 139 [some (.ref 160), some (.int p1), some (.int x2), some (.int x3), some (.int x4), some (.int x5), some (.int x6)] [] I11 L12 P13
          ) ∧ (¬ (I11 180 x6.toNatClampNeg) = 0 →
            zMi zm_X12_areLike d [.ref 160, .int x3, .int p1, .int x6] I11 L12 P13 (fun r49 I45 L46 P47 =>
              ((¬ r49 = 0 →
                ((x4 = 0 →
                  ((x5 = 0 →
                    gw_X12_goersIn (d + 1) Q 137 [some (.ref 160), some (.int p1), some (.int x2), some (.int x3), some (.int 0), none, some (.int x6)] [.int 0] I45 L46 P47
                  ) ∧ (¬ x5 = 0 →
                    ((¬ ((x6 >>> (x3 &&& 31) : Int32) &&& 1 : Int32) = 0 →
                      gw_X12_goersIn (d + 1) Q 137 [some (.ref 160), some (.int p1), some (.int x2), some (.int x3), some (.int 0), none, some (.int x6)] [.int 0] I45 L46 P47
                    ) ∧ (((x6 >>> (x3 &&& 31) : Int32) &&& 1 : Int32) = 0 →
                      gw_X12_goersIn (d + 1) Q 137 [some (.ref 160), some (.int p1), some (.int x2), some (.int x3), some (.int 0), none, some (.int x6)] [.int 1] I45 L46 P47
                    ))
                  ))
                ) ∧ (¬ x4 = 0 →
                  ((¬ ((x6 >>> (x3 &&& 31) : Int32) &&& 1 : Int32) = 1 →
                    ((x5 = 0 →
                      gw_X12_goersIn (d + 1) Q 137 [some (.ref 160), some (.int p1), some (.int x2), some (.int x3), some (.int 0), none, some (.int x6)] [.int 0] I45 L46 P47
                    ) ∧ (¬ x5 = 0 →
                      ((¬ ((x6 >>> (x3 &&& 31) : Int32) &&& 1 : Int32) = 0 →
                        gw_X12_goersIn (d + 1) Q 137 [some (.ref 160), some (.int p1), some (.int x2), some (.int x3), some (.int 0), none, some (.int x6)] [.int 0] I45 L46 P47
                      ) ∧ (((x6 >>> (x3 &&& 31) : Int32) &&& 1 : Int32) = 0 →
                        gw_X12_goersIn (d + 1) Q 137 [some (.ref 160), some (.int p1), some (.int x2), some (.int x3), some (.int 0), none, some (.int x6)] [.int 1] I45 L46 P47
                      ))
                    ))
                  ) ∧ (((x6 >>> (x3 &&& 31) : Int32) &&& 1 : Int32) = 1 →
                    ((x5 = 0 →
                      gw_X12_goersIn (d + 1) Q 137 [some (.ref 160), some (.int p1), some (.int x2), some (.int x3), some (.int 1), none, some (.int x6)] [.int 0] I45 L46 P47
                    ) ∧ (¬ x5 = 0 →
                      ((¬ ((x6 >>> (x3 &&& 31) : Int32) &&& 1 : Int32) = 0 →
                        gw_X12_goersIn (d + 1) Q 137 [some (.ref 160), some (.int p1), some (.int x2), some (.int x3), some (.int 1), none, some (.int x6)] [.int 0] I45 L46 P47
                      ) ∧ (((x6 >>> (x3 &&& 31) : Int32) &&& 1 : Int32) = 0 →
                        gw_X12_goersIn (d + 1) Q 137 [some (.ref 160), some (.int p1), some (.int x2), some (.int x3), some (.int 1), none, some (.int x6)] [.int 1] I45 L46 P47
                      ))
                    ))
                  ))
                ))
              ) ∧ (r49 = 0 →
                gw_X12_goersIn (d + 1) Q 139 [some (.ref 160), some (.int p1), some (.int x2), some (.int x3), some (.int x4), some (.int x5), some (.int x6)] [] I45 L46 P47
              ))
            )
          ))
        ))
      ))
    ))
  )
set_option maxRecDepth 20000 in
theorem g_X12_goersIn_53 {d : Nat} {Q : zQt} {p1 : Int32} {x2 : Int32} {x3 : Int32} {x4 : Int32} {x5 : Int32} {x6 : Int32} {I : zI} {L : zL} {P : zP} (hP : zPk P) (hv : v_X12_goersIn_53 d Q p1 x2 x3 x4 x5 x6 I L P) : gw_X12_goersIn (d + 1) Q 53 [some (.ref 160), some (.int p1), some (.int x2), some (.int x3), some (.int x4), some (.int x5), some (.int x6)] [] I L P := by
  unfold v_X12_goersIn_53 at hv
  refine z_iload dX12_goersIn_53 rfl ?_
  refine z_aload_n dX12_goersIn_55 rfl ?_
  refine z_callV (As := []) (st := [.int x6]) dX12_goersIn_56 zl_X12_346 zv_X12_worldMany (by decide) rfl zn_160 zo_160 rfl rfl (Nat.le_of_ble_eq_true rfl) ⟨Nat.le_refl _, Nat.le_refl _⟩ ⟨Nat.le_refl _, Nat.le_refl _⟩ hv (fun v1 I11 L12 P13 nx1 q14 => ?_)
  obtain ⟨rfl, r15, rfl, hv⟩ := q14
  refine z_icmp_ge (tgt := 145) dX12_goersIn_59 (by decide) (fun q62 => ?_) (fun q62 => ?_)
  · have hv := hv.1 q62
    refine z_iload dX12_goersIn_145 rfl ?_
    refine z_if_ne (tgt := 167) dX12_goersIn_147 (by decide) (fun q20 => ?_) (fun q20 => ?_)
    · have hv := hv.1 q20
      refine z_iload_n dX12_goersIn_167 rfl ?_
      refine z_iconst (v := 1) dX12_goersIn_168 (by decide) ?_
      refine z_iload_n dX12_goersIn_169 rfl ?_
      refine z_ishl dX12_goersIn_170 ?_
      refine z_ior dX12_goersIn_171 ?_
      refine z_istore_n (lv2 := [some (.ref 160), some (.int p1), some (.int (x2 ||| ((1 : Int32) <<< (x3 &&& 31) : Int32) : Int32)), some (.int x3), some (.int x4), some (.int x5), some (.int x6)]) dX12_goersIn_172 (by decide) rfl rfl ?_
      refine z_iinc (v2 := x3 + 1) (lv2 := [some (.ref 160), some (.int p1), some (.int (x2 ||| ((1 : Int32) <<< (x3 &&& 31) : Int32) : Int32)), some (.int (x3 + 1)), some (.int x4), some (.int x5), some (.int x6)]) dX12_goersIn_173 rfl (by rfl) (by decide) rfl rfl ?_
      refine z_goto (tgt := 4) dX12_goersIn_176 (by decide) ?_
      exact z_sub (by exact ⟨rfl, ⟨rfl, ⟨rfl, ⟨rfl, trivial⟩⟩⟩⟩) hv
    · have hv := hv.2 q20
      refine z_iload dX12_goersIn_150 rfl ?_
      refine z_if_eq (tgt := 173) dX12_goersIn_152 (by decide) (fun q19 => ?_) (fun q19 => ?_)
      · have hv := hv.1 q19
        refine z_iinc (v2 := x3 + 1) (lv2 := [some (.ref 160), some (.int p1), some (.int x2), some (.int (x3 + 1)), some (.int x4), some (.int x5), some (.int x6)]) dX12_goersIn_173 rfl (by rfl) (by decide) rfl rfl ?_
        refine z_goto (tgt := 4) dX12_goersIn_176 (by decide) ?_
        exact z_sub (by exact ⟨rfl, ⟨rfl, ⟨rfl, ⟨rfl, trivial⟩⟩⟩⟩) hv
      · have hv := hv.2 q19
        refine z_aload_n dX12_goersIn_155 rfl ?_
        obtain ⟨h16, hv⟩ := hv
        refine z_getP dX12_goersIn_156 zf_X12_45 zn_160 zo_160 (fun _ _ _ _ _ => rfl) (h16 160 19 171 zp_160_19) ?_
        refine z_aload_n dX12_goersIn_159 rfl ?_
        refine z_getI dX12_goersIn_160 zf_X12_261 zn_160 zo_160 (fun _ _ _ _ _ => rfl) ?_
        obtain ⟨h17, hv⟩ := hv
        refine z_zaload dX12_goersIn_163 zn_171 zh_171 h17 ?_
        refine z_if_eq (tgt := 173) dX12_goersIn_164 (by decide) (fun q18 => ?_) (fun q18 => ?_)
        · have hv := hv.1 q18
          refine z_iinc (v2 := x3 + 1) (lv2 := [some (.ref 160), some (.int p1), some (.int x2), some (.int (x3 + 1)), some (.int x4), some (.int x5), some (.int x6)]) dX12_goersIn_173 rfl (by rfl) (by decide) rfl rfl ?_
          refine z_goto (tgt := 4) dX12_goersIn_176 (by decide) ?_
          exact z_sub (by exact ⟨rfl, ⟨rfl, ⟨rfl, ⟨rfl, trivial⟩⟩⟩⟩) hv
        · have hv := hv.2 q18
          refine z_iload_n dX12_goersIn_167 rfl ?_
          refine z_iconst (v := 1) dX12_goersIn_168 (by decide) ?_
          refine z_iload_n dX12_goersIn_169 rfl ?_
          refine z_ishl dX12_goersIn_170 ?_
          refine z_ior dX12_goersIn_171 ?_
          refine z_istore_n (lv2 := [some (.ref 160), some (.int p1), some (.int (x2 ||| ((1 : Int32) <<< (x3 &&& 31) : Int32) : Int32)), some (.int x3), some (.int x4), some (.int x5), some (.int x6)]) dX12_goersIn_172 (by decide) rfl rfl ?_
          refine z_iinc (v2 := x3 + 1) (lv2 := [some (.ref 160), some (.int p1), some (.int (x2 ||| ((1 : Int32) <<< (x3 &&& 31) : Int32) : Int32)), some (.int (x3 + 1)), some (.int x4), some (.int x5), some (.int x6)]) dX12_goersIn_173 rfl (by rfl) (by decide) rfl rfl ?_
          refine z_goto (tgt := 4) dX12_goersIn_176 (by decide) ?_
          exact z_sub (by exact ⟨rfl, ⟨rfl, ⟨rfl, ⟨rfl, trivial⟩⟩⟩⟩) hv
  · have hv := hv.2 q62
    refine z_iload dX12_goersIn_62 rfl ?_
    refine z_if_ne (tgt := 72) dX12_goersIn_64 (by decide) (fun q61 => ?_) (fun q61 => ?_)
    · have hv := hv.1 q61
      refine z_aload_n dX12_goersIn_72 rfl ?_
      obtain ⟨h21, hv⟩ := hv
      refine z_getP dX12_goersIn_73 zf_X12_74 zn_160 zo_160 (fun _ _ _ _ _ => rfl) (h21 160 35 180 zp_160_35) ?_
      refine z_iload dX12_goersIn_76 rfl ?_
      obtain ⟨h22, hv⟩ := hv
      refine z_zaload dX12_goersIn_78 zn_180 zh_180 h22 ?_
      refine z_if_eq (tgt := 139) dX12_goersIn_79 (by decide) (fun q37 => ?_) (fun q37 => ?_)
      · have hv := hv.1 q37
        exact hv
      · have hv := hv.2 q37
        refine z_aload_n dX12_goersIn_82 rfl ?_
        refine z_iload_n dX12_goersIn_83 rfl ?_
        refine z_iload_n dX12_goersIn_84 rfl ?_
        refine z_iload dX12_goersIn_85 rfl ?_
        refine z_callV (As := [.int x3, .int p1, .int x6]) (st := []) dX12_goersIn_87 zl_X12_371 zv_X12_areLike (by decide) rfl zn_160 zo_160 rfl rfl (Nat.le_of_ble_eq_true rfl) ⟨Nat.le_refl _, Nat.le_refl _⟩ ⟨Nat.le_refl _, Nat.le_refl _⟩ hv (fun v1 I23 L24 P25 nx1 q26 => ?_)
        obtain ⟨rfl, r27, rfl, hv⟩ := q26
        refine z_if_ne (tgt := 96) dX12_goersIn_90 (by decide) (fun q36 => ?_) (fun q36 => ?_)
        · have hv := hv.1 q36
          refine z_iload dX12_goersIn_96 rfl ?_
          refine z_if_eq (tgt := 115) dX12_goersIn_98 (by decide) (fun q35 => ?_) (fun q35 => ?_)
          · have hv := hv.1 q35
            refine z_iconst (v := 0) dX12_goersIn_115 (by decide) ?_
            refine z_istore (lv2 := [some (.ref 160), some (.int p1), some (.int x2), some (.int x3), some (.int 0), some (.int x5), some (.int x6)]) dX12_goersIn_116 (by decide) rfl rfl ?_
            refine z_iload dX12_goersIn_118 rfl ?_
            refine z_if_eq (tgt := 136) dX12_goersIn_120 (by decide) (fun q29 => ?_) (fun q29 => ?_)
            · have hv := hv.1 q29
              refine z_iconst (v := 0) dX12_goersIn_136 (by decide) ?_
              exact z_sub (by exact ⟨rfl, ⟨rfl, ⟨rfl, ⟨rfl, ⟨rfl, ⟨rfl, trivial⟩⟩⟩⟩⟩⟩) hv
            · have hv := hv.2 q29
              refine z_iload dX12_goersIn_123 rfl ?_
              refine z_iload_n dX12_goersIn_125 rfl ?_
              refine z_ishr dX12_goersIn_126 ?_
              refine z_iconst (v := 1) dX12_goersIn_127 (by decide) ?_
              refine z_iand dX12_goersIn_128 ?_
              refine z_if_ne (tgt := 136) dX12_goersIn_129 (by decide) (fun q28 => ?_) (fun q28 => ?_)
              · have hv := hv.1 q28
                refine z_iconst (v := 0) dX12_goersIn_136 (by decide) ?_
                exact z_sub (by exact ⟨rfl, ⟨rfl, ⟨rfl, ⟨rfl, ⟨rfl, ⟨rfl, trivial⟩⟩⟩⟩⟩⟩) hv
              · have hv := hv.2 q28
                refine z_iconst (v := 1) dX12_goersIn_132 (by decide) ?_
                refine z_goto (tgt := 137) dX12_goersIn_133 (by decide) ?_
                exact z_sub (by exact ⟨rfl, ⟨rfl, ⟨rfl, ⟨rfl, ⟨rfl, ⟨rfl, trivial⟩⟩⟩⟩⟩⟩) hv
          · have hv := hv.2 q35
            refine z_iload dX12_goersIn_101 rfl ?_
            refine z_iload_n dX12_goersIn_103 rfl ?_
            refine z_ishr dX12_goersIn_104 ?_
            refine z_iconst (v := 1) dX12_goersIn_105 (by decide) ?_
            refine z_iand dX12_goersIn_106 ?_
            refine z_iconst (v := 1) dX12_goersIn_107 (by decide) ?_
            refine z_icmp_ne (tgt := 115) dX12_goersIn_108 (by decide) (fun q34 => ?_) (fun q34 => ?_)
            · have hv := hv.1 q34
              refine z_iconst (v := 0) dX12_goersIn_115 (by decide) ?_
              refine z_istore (lv2 := [some (.ref 160), some (.int p1), some (.int x2), some (.int x3), some (.int 0), some (.int x5), some (.int x6)]) dX12_goersIn_116 (by decide) rfl rfl ?_
              refine z_iload dX12_goersIn_118 rfl ?_
              refine z_if_eq (tgt := 136) dX12_goersIn_120 (by decide) (fun q31 => ?_) (fun q31 => ?_)
              · have hv := hv.1 q31
                refine z_iconst (v := 0) dX12_goersIn_136 (by decide) ?_
                exact z_sub (by exact ⟨rfl, ⟨rfl, ⟨rfl, ⟨rfl, ⟨rfl, ⟨rfl, trivial⟩⟩⟩⟩⟩⟩) hv
              · have hv := hv.2 q31
                refine z_iload dX12_goersIn_123 rfl ?_
                refine z_iload_n dX12_goersIn_125 rfl ?_
                refine z_ishr dX12_goersIn_126 ?_
                refine z_iconst (v := 1) dX12_goersIn_127 (by decide) ?_
                refine z_iand dX12_goersIn_128 ?_
                refine z_if_ne (tgt := 136) dX12_goersIn_129 (by decide) (fun q30 => ?_) (fun q30 => ?_)
                · have hv := hv.1 q30
                  refine z_iconst (v := 0) dX12_goersIn_136 (by decide) ?_
                  exact z_sub (by exact ⟨rfl, ⟨rfl, ⟨rfl, ⟨rfl, ⟨rfl, ⟨rfl, trivial⟩⟩⟩⟩⟩⟩) hv
                · have hv := hv.2 q30
                  refine z_iconst (v := 1) dX12_goersIn_132 (by decide) ?_
                  refine z_goto (tgt := 137) dX12_goersIn_133 (by decide) ?_
                  exact z_sub (by exact ⟨rfl, ⟨rfl, ⟨rfl, ⟨rfl, ⟨rfl, ⟨rfl, trivial⟩⟩⟩⟩⟩⟩) hv
            · have hv := hv.2 q34
              refine z_iconst (v := 1) dX12_goersIn_111 (by decide) ?_
              refine z_goto (tgt := 116) dX12_goersIn_112 (by decide) ?_
              refine z_istore (lv2 := [some (.ref 160), some (.int p1), some (.int x2), some (.int x3), some (.int 1), some (.int x5), some (.int x6)]) dX12_goersIn_116 (by decide) rfl rfl ?_
              refine z_iload dX12_goersIn_118 rfl ?_
              refine z_if_eq (tgt := 136) dX12_goersIn_120 (by decide) (fun q33 => ?_) (fun q33 => ?_)
              · have hv := hv.1 q33
                refine z_iconst (v := 0) dX12_goersIn_136 (by decide) ?_
                exact z_sub (by exact ⟨rfl, ⟨rfl, ⟨rfl, ⟨rfl, ⟨rfl, ⟨rfl, trivial⟩⟩⟩⟩⟩⟩) hv
              · have hv := hv.2 q33
                refine z_iload dX12_goersIn_123 rfl ?_
                refine z_iload_n dX12_goersIn_125 rfl ?_
                refine z_ishr dX12_goersIn_126 ?_
                refine z_iconst (v := 1) dX12_goersIn_127 (by decide) ?_
                refine z_iand dX12_goersIn_128 ?_
                refine z_if_ne (tgt := 136) dX12_goersIn_129 (by decide) (fun q32 => ?_) (fun q32 => ?_)
                · have hv := hv.1 q32
                  refine z_iconst (v := 0) dX12_goersIn_136 (by decide) ?_
                  exact z_sub (by exact ⟨rfl, ⟨rfl, ⟨rfl, ⟨rfl, ⟨rfl, ⟨rfl, trivial⟩⟩⟩⟩⟩⟩) hv
                · have hv := hv.2 q32
                  refine z_iconst (v := 1) dX12_goersIn_132 (by decide) ?_
                  refine z_goto (tgt := 137) dX12_goersIn_133 (by decide) ?_
                  exact z_sub (by exact ⟨rfl, ⟨rfl, ⟨rfl, ⟨rfl, ⟨rfl, ⟨rfl, trivial⟩⟩⟩⟩⟩⟩) hv
        · have hv := hv.2 q36
          refine z_goto (tgt := 139) dX12_goersIn_93 (by decide) ?_
          exact hv
    · have hv := hv.2 q61
      refine z_iload dX12_goersIn_67 rfl ?_
      refine z_if_eq (tgt := 145) dX12_goersIn_69 (by decide) (fun q60 => ?_) (fun q60 => ?_)
      · have hv := hv.1 q60
        refine z_iload dX12_goersIn_145 rfl ?_
        refine z_if_ne (tgt := 167) dX12_goersIn_147 (by decide) (fun q42 => ?_) (fun q42 => ?_)
        · have hv := hv.1 q42
          refine z_iload_n dX12_goersIn_167 rfl ?_
          refine z_iconst (v := 1) dX12_goersIn_168 (by decide) ?_
          refine z_iload_n dX12_goersIn_169 rfl ?_
          refine z_ishl dX12_goersIn_170 ?_
          refine z_ior dX12_goersIn_171 ?_
          refine z_istore_n (lv2 := [some (.ref 160), some (.int p1), some (.int (x2 ||| ((1 : Int32) <<< (x3 &&& 31) : Int32) : Int32)), some (.int x3), some (.int x4), some (.int x5), some (.int x6)]) dX12_goersIn_172 (by decide) rfl rfl ?_
          refine z_iinc (v2 := x3 + 1) (lv2 := [some (.ref 160), some (.int p1), some (.int (x2 ||| ((1 : Int32) <<< (x3 &&& 31) : Int32) : Int32)), some (.int (x3 + 1)), some (.int x4), some (.int x5), some (.int x6)]) dX12_goersIn_173 rfl (by rfl) (by decide) rfl rfl ?_
          refine z_goto (tgt := 4) dX12_goersIn_176 (by decide) ?_
          exact z_sub (by exact ⟨rfl, ⟨rfl, ⟨rfl, ⟨rfl, trivial⟩⟩⟩⟩) hv
        · have hv := hv.2 q42
          refine z_iload dX12_goersIn_150 rfl ?_
          refine z_if_eq (tgt := 173) dX12_goersIn_152 (by decide) (fun q41 => ?_) (fun q41 => ?_)
          · have hv := hv.1 q41
            refine z_iinc (v2 := x3 + 1) (lv2 := [some (.ref 160), some (.int p1), some (.int x2), some (.int (x3 + 1)), some (.int x4), some (.int x5), some (.int x6)]) dX12_goersIn_173 rfl (by rfl) (by decide) rfl rfl ?_
            refine z_goto (tgt := 4) dX12_goersIn_176 (by decide) ?_
            exact z_sub (by exact ⟨rfl, ⟨rfl, ⟨rfl, ⟨rfl, trivial⟩⟩⟩⟩) hv
          · have hv := hv.2 q41
            refine z_aload_n dX12_goersIn_155 rfl ?_
            obtain ⟨h38, hv⟩ := hv
            refine z_getP dX12_goersIn_156 zf_X12_45 zn_160 zo_160 (fun _ _ _ _ _ => rfl) (h38 160 19 171 zp_160_19) ?_
            refine z_aload_n dX12_goersIn_159 rfl ?_
            refine z_getI dX12_goersIn_160 zf_X12_261 zn_160 zo_160 (fun _ _ _ _ _ => rfl) ?_
            obtain ⟨h39, hv⟩ := hv
            refine z_zaload dX12_goersIn_163 zn_171 zh_171 h39 ?_
            refine z_if_eq (tgt := 173) dX12_goersIn_164 (by decide) (fun q40 => ?_) (fun q40 => ?_)
            · have hv := hv.1 q40
              refine z_iinc (v2 := x3 + 1) (lv2 := [some (.ref 160), some (.int p1), some (.int x2), some (.int (x3 + 1)), some (.int x4), some (.int x5), some (.int x6)]) dX12_goersIn_173 rfl (by rfl) (by decide) rfl rfl ?_
              refine z_goto (tgt := 4) dX12_goersIn_176 (by decide) ?_
              exact z_sub (by exact ⟨rfl, ⟨rfl, ⟨rfl, ⟨rfl, trivial⟩⟩⟩⟩) hv
            · have hv := hv.2 q40
              refine z_iload_n dX12_goersIn_167 rfl ?_
              refine z_iconst (v := 1) dX12_goersIn_168 (by decide) ?_
              refine z_iload_n dX12_goersIn_169 rfl ?_
              refine z_ishl dX12_goersIn_170 ?_
              refine z_ior dX12_goersIn_171 ?_
              refine z_istore_n (lv2 := [some (.ref 160), some (.int p1), some (.int (x2 ||| ((1 : Int32) <<< (x3 &&& 31) : Int32) : Int32)), some (.int x3), some (.int x4), some (.int x5), some (.int x6)]) dX12_goersIn_172 (by decide) rfl rfl ?_
              refine z_iinc (v2 := x3 + 1) (lv2 := [some (.ref 160), some (.int p1), some (.int (x2 ||| ((1 : Int32) <<< (x3 &&& 31) : Int32) : Int32)), some (.int (x3 + 1)), some (.int x4), some (.int x5), some (.int x6)]) dX12_goersIn_173 rfl (by rfl) (by decide) rfl rfl ?_
              refine z_goto (tgt := 4) dX12_goersIn_176 (by decide) ?_
              exact z_sub (by exact ⟨rfl, ⟨rfl, ⟨rfl, ⟨rfl, trivial⟩⟩⟩⟩) hv
      · have hv := hv.2 q60
        refine z_aload_n dX12_goersIn_72 rfl ?_
        obtain ⟨h43, hv⟩ := hv
        refine z_getP dX12_goersIn_73 zf_X12_74 zn_160 zo_160 (fun _ _ _ _ _ => rfl) (h43 160 35 180 zp_160_35) ?_
        refine z_iload dX12_goersIn_76 rfl ?_
        obtain ⟨h44, hv⟩ := hv
        refine z_zaload dX12_goersIn_78 zn_180 zh_180 h44 ?_
        refine z_if_eq (tgt := 139) dX12_goersIn_79 (by decide) (fun q59 => ?_) (fun q59 => ?_)
        · have hv := hv.1 q59
          exact hv
        · have hv := hv.2 q59
          refine z_aload_n dX12_goersIn_82 rfl ?_
          refine z_iload_n dX12_goersIn_83 rfl ?_
          refine z_iload_n dX12_goersIn_84 rfl ?_
          refine z_iload dX12_goersIn_85 rfl ?_
          refine z_callV (As := [.int x3, .int p1, .int x6]) (st := []) dX12_goersIn_87 zl_X12_371 zv_X12_areLike (by decide) rfl zn_160 zo_160 rfl rfl (Nat.le_of_ble_eq_true rfl) ⟨Nat.le_refl _, Nat.le_refl _⟩ ⟨Nat.le_refl _, Nat.le_refl _⟩ hv (fun v1 I45 L46 P47 nx1 q48 => ?_)
          obtain ⟨rfl, r49, rfl, hv⟩ := q48
          refine z_if_ne (tgt := 96) dX12_goersIn_90 (by decide) (fun q58 => ?_) (fun q58 => ?_)
          · have hv := hv.1 q58
            refine z_iload dX12_goersIn_96 rfl ?_
            refine z_if_eq (tgt := 115) dX12_goersIn_98 (by decide) (fun q57 => ?_) (fun q57 => ?_)
            · have hv := hv.1 q57
              refine z_iconst (v := 0) dX12_goersIn_115 (by decide) ?_
              refine z_istore (lv2 := [some (.ref 160), some (.int p1), some (.int x2), some (.int x3), some (.int 0), some (.int x5), some (.int x6)]) dX12_goersIn_116 (by decide) rfl rfl ?_
              refine z_iload dX12_goersIn_118 rfl ?_
              refine z_if_eq (tgt := 136) dX12_goersIn_120 (by decide) (fun q51 => ?_) (fun q51 => ?_)
              · have hv := hv.1 q51
                refine z_iconst (v := 0) dX12_goersIn_136 (by decide) ?_
                exact z_sub (by exact ⟨rfl, ⟨rfl, ⟨rfl, ⟨rfl, ⟨rfl, ⟨rfl, trivial⟩⟩⟩⟩⟩⟩) hv
              · have hv := hv.2 q51
                refine z_iload dX12_goersIn_123 rfl ?_
                refine z_iload_n dX12_goersIn_125 rfl ?_
                refine z_ishr dX12_goersIn_126 ?_
                refine z_iconst (v := 1) dX12_goersIn_127 (by decide) ?_
                refine z_iand dX12_goersIn_128 ?_
                refine z_if_ne (tgt := 136) dX12_goersIn_129 (by decide) (fun q50 => ?_) (fun q50 => ?_)
                · have hv := hv.1 q50
                  refine z_iconst (v := 0) dX12_goersIn_136 (by decide) ?_
                  exact z_sub (by exact ⟨rfl, ⟨rfl, ⟨rfl, ⟨rfl, ⟨rfl, ⟨rfl, trivial⟩⟩⟩⟩⟩⟩) hv
                · have hv := hv.2 q50
                  refine z_iconst (v := 1) dX12_goersIn_132 (by decide) ?_
                  refine z_goto (tgt := 137) dX12_goersIn_133 (by decide) ?_
                  exact z_sub (by exact ⟨rfl, ⟨rfl, ⟨rfl, ⟨rfl, ⟨rfl, ⟨rfl, trivial⟩⟩⟩⟩⟩⟩) hv
            · have hv := hv.2 q57
              refine z_iload dX12_goersIn_101 rfl ?_
              refine z_iload_n dX12_goersIn_103 rfl ?_
              refine z_ishr dX12_goersIn_104 ?_
              refine z_iconst (v := 1) dX12_goersIn_105 (by decide) ?_
              refine z_iand dX12_goersIn_106 ?_
              refine z_iconst (v := 1) dX12_goersIn_107 (by decide) ?_
              refine z_icmp_ne (tgt := 115) dX12_goersIn_108 (by decide) (fun q56 => ?_) (fun q56 => ?_)
              · have hv := hv.1 q56
                refine z_iconst (v := 0) dX12_goersIn_115 (by decide) ?_
                refine z_istore (lv2 := [some (.ref 160), some (.int p1), some (.int x2), some (.int x3), some (.int 0), some (.int x5), some (.int x6)]) dX12_goersIn_116 (by decide) rfl rfl ?_
                refine z_iload dX12_goersIn_118 rfl ?_
                refine z_if_eq (tgt := 136) dX12_goersIn_120 (by decide) (fun q53 => ?_) (fun q53 => ?_)
                · have hv := hv.1 q53
                  refine z_iconst (v := 0) dX12_goersIn_136 (by decide) ?_
                  exact z_sub (by exact ⟨rfl, ⟨rfl, ⟨rfl, ⟨rfl, ⟨rfl, ⟨rfl, trivial⟩⟩⟩⟩⟩⟩) hv
                · have hv := hv.2 q53
                  refine z_iload dX12_goersIn_123 rfl ?_
                  refine z_iload_n dX12_goersIn_125 rfl ?_
                  refine z_ishr dX12_goersIn_126 ?_
                  refine z_iconst (v := 1) dX12_goersIn_127 (by decide) ?_
                  refine z_iand dX12_goersIn_128 ?_
                  refine z_if_ne (tgt := 136) dX12_goersIn_129 (by decide) (fun q52 => ?_) (fun q52 => ?_)
                  · have hv := hv.1 q52
                    refine z_iconst (v := 0) dX12_goersIn_136 (by decide) ?_
                    exact z_sub (by exact ⟨rfl, ⟨rfl, ⟨rfl, ⟨rfl, ⟨rfl, ⟨rfl, trivial⟩⟩⟩⟩⟩⟩) hv
                  · have hv := hv.2 q52
                    refine z_iconst (v := 1) dX12_goersIn_132 (by decide) ?_
                    refine z_goto (tgt := 137) dX12_goersIn_133 (by decide) ?_
                    exact z_sub (by exact ⟨rfl, ⟨rfl, ⟨rfl, ⟨rfl, ⟨rfl, ⟨rfl, trivial⟩⟩⟩⟩⟩⟩) hv
              · have hv := hv.2 q56
                refine z_iconst (v := 1) dX12_goersIn_111 (by decide) ?_
                refine z_goto (tgt := 116) dX12_goersIn_112 (by decide) ?_
                refine z_istore (lv2 := [some (.ref 160), some (.int p1), some (.int x2), some (.int x3), some (.int 1), some (.int x5), some (.int x6)]) dX12_goersIn_116 (by decide) rfl rfl ?_
                refine z_iload dX12_goersIn_118 rfl ?_
                refine z_if_eq (tgt := 136) dX12_goersIn_120 (by decide) (fun q55 => ?_) (fun q55 => ?_)
                · have hv := hv.1 q55
                  refine z_iconst (v := 0) dX12_goersIn_136 (by decide) ?_
                  exact z_sub (by exact ⟨rfl, ⟨rfl, ⟨rfl, ⟨rfl, ⟨rfl, ⟨rfl, trivial⟩⟩⟩⟩⟩⟩) hv
                · have hv := hv.2 q55
                  refine z_iload dX12_goersIn_123 rfl ?_
                  refine z_iload_n dX12_goersIn_125 rfl ?_
                  refine z_ishr dX12_goersIn_126 ?_
                  refine z_iconst (v := 1) dX12_goersIn_127 (by decide) ?_
                  refine z_iand dX12_goersIn_128 ?_
                  refine z_if_ne (tgt := 136) dX12_goersIn_129 (by decide) (fun q54 => ?_) (fun q54 => ?_)
                  · have hv := hv.1 q54
                    refine z_iconst (v := 0) dX12_goersIn_136 (by decide) ?_
                    exact z_sub (by exact ⟨rfl, ⟨rfl, ⟨rfl, ⟨rfl, ⟨rfl, ⟨rfl, trivial⟩⟩⟩⟩⟩⟩) hv
                  · have hv := hv.2 q54
                    refine z_iconst (v := 1) dX12_goersIn_132 (by decide) ?_
                    refine z_goto (tgt := 137) dX12_goersIn_133 (by decide) ?_
                    exact z_sub (by exact ⟨rfl, ⟨rfl, ⟨rfl, ⟨rfl, ⟨rfl, ⟨rfl, trivial⟩⟩⟩⟩⟩⟩) hv
          · have hv := hv.2 q58
            refine z_goto (tgt := 139) dX12_goersIn_93 (by decide) ?_
            exact hv
def v_X12_goersIn_4 (d : Nat) (Q : zQt) (p1 : Int32) (x2 : Int32) (x3 : Int32) (I : zI) (L : zL) (P : zP) : Prop :=
  zMi zm_X12_manyOf d [.ref 160] I L P (fun r5 I1 L2 P3 =>
    ((r5 ≤ x3 →
      Q (some (.int x2)) I1 L2 P3 205
    ) ∧ (¬ r5 ≤ x3 →
      (((((I1 160 40) >>> (x3 &&& 31) : Int32) &&& 1 : Int32) = 1 →
        gw_X12_goersIn (d + 1) Q 4 [some (.ref 160), some (.int p1), some (.int x2), some (.int (x3 + 1)), none, none, none] [] I1 L2 P3
      ) ∧ (¬ (((I1 160 40) >>> (x3 &&& 31) : Int32) &&& 1 : Int32) = 1 →
        zPk P3 ∧
        vp_in (((8 : Int32) * (I1 160 28)) + x3) 16 ∧
        (((I1 173 (((8 : Int32) * (I1 160 28)) + x3).toNatClampNeg) = 0 →
          gw_X12_goersIn (d + 1) Q 53 [some (.ref 160), some (.int p1), some (.int x2), some (.int x3), some (.int 1), some (.int 1), some (.int 0)] [] I1 L2 P3
        ) ∧ (¬ (I1 173 (((8 : Int32) * (I1 160 28)) + x3).toNatClampNeg) = 0 →
          gw_X12_goersIn (d + 1) Q 4 [some (.ref 160), some (.int p1), some (.int x2), some (.int (x3 + 1)), none, none, none] [] I1 L2 P3
        ))
      ))
    ))
  )
set_option maxRecDepth 20000 in
theorem g_X12_goersIn_4 {d : Nat} {Q : zQt} {p1 : Int32} {x2 : Int32} {x3 : Int32} {I : zI} {L : zL} {P : zP} (hP : zPk P) (hv : v_X12_goersIn_4 d Q p1 x2 x3 I L P) : gw_X12_goersIn (d + 1) Q 4 [some (.ref 160), some (.int p1), some (.int x2), some (.int x3), none, none, none] [] I L P := by
  unfold v_X12_goersIn_4 at hv
  refine z_iload_n dX12_goersIn_4 rfl ?_
  refine z_aload_n dX12_goersIn_5 rfl ?_
  refine z_callV (As := []) (st := [.int x3]) dX12_goersIn_6 zl_X12_339 zv_X12_manyOf (by decide) rfl zn_160 zo_160 rfl rfl (Nat.le_of_ble_eq_true rfl) ⟨Nat.le_refl _, Nat.le_refl _⟩ ⟨Nat.le_refl _, Nat.le_refl _⟩ hv (fun v1 I1 L2 P3 nx1 q4 => ?_)
  obtain ⟨rfl, r5, rfl, hv⟩ := q4
  refine z_icmp_ge (tgt := 179) dX12_goersIn_9 (by decide) (fun q10 => ?_) (fun q10 => ?_)
  · have hv := hv.1 q10
    refine z_iload_n dX12_goersIn_179 rfl ?_
    exact z_ireturn dX12_goersIn_180 rfl rfl (Nat.le_refl _) (Nat.le_refl _) hv
  · have hv := hv.2 q10
    refine z_aload_n dX12_goersIn_12 rfl ?_
    refine z_getI dX12_goersIn_13 zf_X12_359 zn_160 zo_160 (fun _ _ _ _ _ => rfl) ?_
    refine z_iload_n dX12_goersIn_16 rfl ?_
    refine z_ishr dX12_goersIn_17 ?_
    refine z_iconst (v := 1) dX12_goersIn_18 (by decide) ?_
    refine z_iand dX12_goersIn_19 ?_
    refine z_iconst (v := 1) dX12_goersIn_20 (by decide) ?_
    refine z_icmp_eq (tgt := 173) dX12_goersIn_21 (by decide) (fun q9 => ?_) (fun q9 => ?_)
    · have hv := hv.1 q9
      refine z_iinc (v2 := x3 + 1) (lv2 := [some (.ref 160), some (.int p1), some (.int x2), some (.int (x3 + 1)), none, none, none]) dX12_goersIn_173 rfl (by rfl) (by decide) rfl rfl ?_
      refine z_goto (tgt := 4) dX12_goersIn_176 (by decide) ?_
      exact hv
    · have hv := hv.2 q9
      refine z_aload_n dX12_goersIn_24 rfl ?_
      obtain ⟨h6, hv⟩ := hv
      refine z_getP dX12_goersIn_25 zf_X12_52 zn_160 zo_160 (fun _ _ _ _ _ => rfl) (h6 160 21 173 zp_160_21) ?_
      refine z_bipush (v := 8) dX12_goersIn_28 (by decide) ?_
      refine z_aload_n dX12_goersIn_30 rfl ?_
      refine z_getI dX12_goersIn_31 zf_X12_261 zn_160 zo_160 (fun _ _ _ _ _ => rfl) ?_
      refine z_imul dX12_goersIn_34 ?_
      refine z_iload_n dX12_goersIn_35 rfl ?_
      refine z_iadd dX12_goersIn_36 ?_
      obtain ⟨h7, hv⟩ := hv
      refine z_zaload dX12_goersIn_37 zn_173 zh_173 h7 ?_
      refine z_if_eq (tgt := 44) dX12_goersIn_38 (by decide) (fun q8 => ?_) (fun q8 => ?_)
      · have hv := hv.1 q8
        refine z_iconst (v := 1) dX12_goersIn_44 (by decide) ?_
        refine z_istore (lv2 := [some (.ref 160), some (.int p1), some (.int x2), some (.int x3), some (.int 1), none, none]) dX12_goersIn_45 (by decide) rfl rfl ?_
        refine z_iconst (v := 1) dX12_goersIn_47 (by decide) ?_
        refine z_istore (lv2 := [some (.ref 160), some (.int p1), some (.int x2), some (.int x3), some (.int 1), some (.int 1), none]) dX12_goersIn_48 (by decide) rfl rfl ?_
        refine z_iconst (v := 0) dX12_goersIn_50 (by decide) ?_
        refine z_istore (lv2 := [some (.ref 160), some (.int p1), some (.int x2), some (.int x3), some (.int 1), some (.int 1), some (.int 0)]) dX12_goersIn_51 (by decide) rfl rfl ?_
        exact hv
      · have hv := hv.2 q8
        refine z_goto (tgt := 173) dX12_goersIn_41 (by decide) ?_
        refine z_iinc (v2 := x3 + 1) (lv2 := [some (.ref 160), some (.int p1), some (.int x2), some (.int (x3 + 1)), none, none, none]) dX12_goersIn_173 rfl (by rfl) (by decide) rfl rfl ?_
        refine z_goto (tgt := 4) dX12_goersIn_176 (by decide) ?_
        exact hv
def v_X12_goersIn (d : Nat) (Q : zQt) (p1 : Int32) (I : zI) (L : zL) (P : zP) : Prop :=
  gw_X12_goersIn (d + 1) Q 4 [some (.ref 160), some (.int p1), some (.int 0), some (.int 0), none, none, none] [] I L P
set_option maxRecDepth 20000 in
theorem g_X12_goersIn {d : Nat} {Q : zQt} {p1 : Int32} {I : zI} {L : zL} {P : zP} (hP : zPk P) (hv : v_X12_goersIn d Q p1 I L P) : zM zm_X12_goersIn (d + 1) 0 0 [.ref 160, .int p1] I L P 205 Q := by
  unfold v_X12_goersIn at hv
  refine zM_of (lv0 := [some (.ref 160), some (.int p1), none, none, none, none, none]) (by decide +kernel) (Nat.le_of_ble_eq_true rfl) rfl ?_
  refine z_iconst (v := 0) dX12_goersIn_0 (by decide) ?_
  refine z_istore_n (lv2 := [some (.ref 160), some (.int p1), some (.int 0), none, none, none, none]) dX12_goersIn_1 (by decide) rfl rfl ?_
  refine z_iconst (v := 0) dX12_goersIn_2 (by decide) ?_
  refine z_istore_n (lv2 := [some (.ref 160), some (.int p1), some (.int 0), some (.int 0), none, none, none]) dX12_goersIn_3 (by decide) rfl rfl ?_
  exact hv
abbrev gw_X12_oneNight (d : Nat) (Q : zQt) (pc : Nat) (lv : zV) (st : List Value) (I : zI) (L : zL) (P : zP) : Prop := zW zm_X12_oneNight (zRm d 0 0) 0 0 Q pc lv st I L P 205 0 0
def v_X12_oneNight_58 (d : Nat) (Q : zQt) (x1 : Int32) (x2 : Int32) (I : zI) (L : zL) (P : zP) : Prop :=
  zMi zm_X12_worldMany d [.ref 160] I L P (fun r32 I28 L29 P30 =>
    ((r32 ≤ x2 →
      ∀ I33 : zI, I33 = zuI I28 160 40 ((I28 160 40) ||| x1 : Int32) →
      ∀ I35 : zI, I35 = zuI I33 160 39 ((I33 160 39) + 1) →
      Q (some (.int x1)) I35 L29 P30 205
    ) ∧ (¬ r32 ≤ x2 →
      zPk P30 ∧
      vp_in x2 256 ∧
      (((I28 180 x2.toNatClampNeg) = 0 →
        gw_X12_oneNight (d + 1) Q 58 [some (.ref 160), some (.int x1), some (.int (x2 + 1))] [] I28 L29 P30
      ) ∧ (¬ (I28 180 x2.toNatClampNeg) = 0 →
        ((¬ (I28 188 x2.toNatClampNeg) = x1 →
          ∀ I40 : zI, I40 = zuI I28 180 x2.toNatClampNeg 0 →
          ∀ I41 : zI, I41 = zuI I40 160 48 ((I40 160 48) + 1) →
          gw_X12_oneNight (d + 1) Q 58 [some (.ref 160), some (.int x1), some (.int (x2 + 1))] [] I41 L29 P30
        ) ∧ ((I28 188 x2.toNatClampNeg) = x1 →
          gw_X12_oneNight (d + 1) Q 58 [some (.ref 160), some (.int x1), some (.int (x2 + 1))] [] I28 L29 P30
        ))
      ))
    ))
  )
set_option maxRecDepth 20000 in
theorem g_X12_oneNight_58 {d : Nat} {Q : zQt} {x1 : Int32} {x2 : Int32} {I : zI} {L : zL} {P : zP} (hP : zPk P) (hv : v_X12_oneNight_58 d Q x1 x2 I L P) : gw_X12_oneNight (d + 1) Q 58 [some (.ref 160), some (.int x1), some (.int x2)] [] I L P := by
  unfold v_X12_oneNight_58 at hv
  refine z_iload_n dX12_oneNight_58 rfl ?_
  refine z_aload_n dX12_oneNight_59 rfl ?_
  refine z_callV (As := []) (st := [.int x2]) dX12_oneNight_60 zl_X12_346 zv_X12_worldMany (by decide) rfl zn_160 zo_160 rfl rfl (Nat.le_of_ble_eq_true rfl) ⟨Nat.le_refl _, Nat.le_refl _⟩ ⟨Nat.le_refl _, Nat.le_refl _⟩ hv (fun v1 I28 L29 P30 nx1 q31 => ?_)
  obtain ⟨rfl, r32, rfl, hv⟩ := q31
  refine z_icmp_ge (tgt := 111) dX12_oneNight_63 (by decide) (fun q45 => ?_) (fun q45 => ?_)
  · have hv := hv.1 q45
    refine z_aload_n dX12_oneNight_111 rfl ?_
    refine z_dup dX12_oneNight_112 rfl ?_
    refine z_getI dX12_oneNight_113 zf_X12_359 zn_160 zo_160 (fun _ _ _ _ _ => rfl) ?_
    refine z_iload_n dX12_oneNight_116 rfl ?_
    refine z_ior dX12_oneNight_117 ?_
    refine z_putI dX12_oneNight_118 zf_X12_359 zn_160 zo_160 (Or.inl rfl) (fun _ _ _ _ _ => rfl) rfl rfl (z_nmI (fun I33 e34 => ?_))
    have hv := hv I33 e34
    refine z_aload_n dX12_oneNight_121 rfl ?_
    refine z_dup dX12_oneNight_122 rfl ?_
    refine z_getI dX12_oneNight_123 zf_X12_356 zn_160 zo_160 (fun _ _ _ _ _ => rfl) ?_
    refine z_iconst (v := 1) dX12_oneNight_126 (by decide) ?_
    refine z_iadd dX12_oneNight_127 ?_
    refine z_putI dX12_oneNight_128 zf_X12_356 zn_160 zo_160 (Or.inl rfl) (fun _ _ _ _ _ => rfl) rfl rfl (z_nmI (fun I35 e36 => ?_))
    have hv := hv I35 e36
    refine z_iload_n dX12_oneNight_131 rfl ?_
    exact z_ireturn dX12_oneNight_132 rfl rfl (Nat.le_refl _) (Nat.le_refl _) hv
  · have hv := hv.2 q45
    refine z_aload_n dX12_oneNight_66 rfl ?_
    obtain ⟨h37, hv⟩ := hv
    refine z_getP dX12_oneNight_67 zf_X12_74 zn_160 zo_160 (fun _ _ _ _ _ => rfl) (h37 160 35 180 zp_160_35) ?_
    refine z_iload_n dX12_oneNight_70 rfl ?_
    obtain ⟨h38, hv⟩ := hv
    refine z_zaload dX12_oneNight_71 zn_180 zh_180 h38 ?_
    refine z_if_eq (tgt := 105) dX12_oneNight_72 (by decide) (fun q44 => ?_) (fun q44 => ?_)
    · have hv := hv.1 q44
      refine z_iinc (v2 := x2 + 1) (lv2 := [some (.ref 160), some (.int x1), some (.int (x2 + 1))]) dX12_oneNight_105 rfl (by rfl) (by decide) rfl rfl ?_
      refine z_goto (tgt := 58) dX12_oneNight_108 (by decide) ?_
      exact hv
    · have hv := hv.2 q44
      refine z_aload_n dX12_oneNight_75 rfl ?_
      refine z_getP dX12_oneNight_76 zf_X12_98 zn_160 zo_160 (fun _ _ _ _ _ => rfl) (h37 160 47 188 zp_160_47) ?_
      refine z_iload_n dX12_oneNight_79 rfl ?_
      refine z_iaload dX12_oneNight_80 zn_188 zh_188 h38 ?_
      refine z_iload_n dX12_oneNight_81 rfl ?_
      refine z_icmp_ne (tgt := 88) dX12_oneNight_82 (by decide) (fun q43 => ?_) (fun q43 => ?_)
      · have hv := hv.1 q43
        refine z_aload_n dX12_oneNight_88 rfl ?_
        refine z_getP dX12_oneNight_89 zf_X12_74 zn_160 zo_160 (fun _ _ _ _ _ => rfl) (h37 160 35 180 zp_160_35) ?_
        refine z_iload_n dX12_oneNight_92 rfl ?_
        refine z_iconst (v := 0) dX12_oneNight_93 (by decide) ?_
        refine z_zastore (w := 0) dX12_oneNight_94 zn_180 zh_180 h38 (by decide) (z_nmI (fun I40 e39 => ?_))
        have hv := hv I40 e39
        refine z_aload_n dX12_oneNight_95 rfl ?_
        refine z_dup dX12_oneNight_96 rfl ?_
        refine z_getI dX12_oneNight_97 zf_X12_422 zn_160 zo_160 (fun _ _ _ _ _ => rfl) ?_
        refine z_iconst (v := 1) dX12_oneNight_100 (by decide) ?_
        refine z_iadd dX12_oneNight_101 ?_
        refine z_putI dX12_oneNight_102 zf_X12_422 zn_160 zo_160 (Or.inl rfl) (fun _ _ _ _ _ => rfl) rfl rfl (z_nmI (fun I41 e42 => ?_))
        have hv := hv I41 e42
        refine z_iinc (v2 := x2 + 1) (lv2 := [some (.ref 160), some (.int x1), some (.int (x2 + 1))]) dX12_oneNight_105 rfl (by rfl) (by decide) rfl rfl ?_
        refine z_goto (tgt := 58) dX12_oneNight_108 (by decide) ?_
        exact hv
      · have hv := hv.2 q43
        refine z_goto (tgt := 105) dX12_oneNight_85 (by decide) ?_
        refine z_iinc (v2 := x2 + 1) (lv2 := [some (.ref 160), some (.int x1), some (.int (x2 + 1))]) dX12_oneNight_105 rfl (by rfl) (by decide) rfl rfl ?_
        refine z_goto (tgt := 58) dX12_oneNight_108 (by decide) ?_
        exact hv
def v_X12_oneNight_2 (d : Nat) (Q : zQt) (x1 : Int32) (I : zI) (L : zL) (P : zP) : Prop :=
  zMi zm_X12_worldMany d [.ref 160] I L P (fun r5 I1 L2 P3 =>
    ((r5 ≤ x1 →
      zPk P3 ∧
      zMi zm_X12_theTrue d [.ref 160] I1 L2 P3 (fun r11 I7 L8 P9 =>
        vp_in r11 256 ∧
        ∀ I13 : zI, I13 = zuI I7 160 46 0 →
        ∀ I15 : zI, I15 = zuI I13 160 48 0 →
        gw_X12_oneNight (d + 1) Q 58 [some (.ref 160), some (.int (I7 188 r11.toNatClampNeg)), some (.int 0)] [] I15 L8 P9
      )
    ) ∧ (¬ r5 ≤ x1 →
      zPk P3 ∧
      vp_in x1 256 ∧
      (((I1 180 x1.toNatClampNeg) = 0 →
        gw_X12_oneNight (d + 1) Q 2 [some (.ref 160), some (.int (x1 + 1)), none] [] I1 L2 P3
      ) ∧ (¬ (I1 180 x1.toNatClampNeg) = 0 →
        zMi zm_X12_goersIn d [.ref 160, .int x1] I1 L2 P3 (fun r23 I19 L20 P21 =>
          ∀ I25 : zI, I25 = zuI I19 188 x1.toNatClampNeg r23 →
          gw_X12_oneNight (d + 1) Q 2 [some (.ref 160), some (.int (x1 + 1)), none] [] I25 L20 P21
        )
      ))
    ))
  )
set_option maxRecDepth 20000 in
theorem g_X12_oneNight_2 {d : Nat} {Q : zQt} {x1 : Int32} {I : zI} {L : zL} {P : zP} (hP : zPk P) (hv : v_X12_oneNight_2 d Q x1 I L P) : gw_X12_oneNight (d + 1) Q 2 [some (.ref 160), some (.int x1), none] [] I L P := by
  unfold v_X12_oneNight_2 at hv
  refine z_iload_n dX12_oneNight_2 rfl ?_
  refine z_aload_n dX12_oneNight_3 rfl ?_
  refine z_callV (As := []) (st := [.int x1]) dX12_oneNight_4 zl_X12_346 zv_X12_worldMany (by decide) rfl zn_160 zo_160 rfl rfl (Nat.le_of_ble_eq_true rfl) ⟨Nat.le_refl _, Nat.le_refl _⟩ ⟨Nat.le_refl _, Nat.le_refl _⟩ hv (fun v1 I1 L2 P3 nx1 q4 => ?_)
  obtain ⟨rfl, r5, rfl, hv⟩ := q4
  refine z_icmp_ge (tgt := 36) dX12_oneNight_7 (by decide) (fun q27 => ?_) (fun q27 => ?_)
  · have hv := hv.1 q27
    refine z_aload_n dX12_oneNight_36 rfl ?_
    obtain ⟨h6, hv⟩ := hv
    refine z_getP dX12_oneNight_37 zf_X12_98 zn_160 zo_160 (fun _ _ _ _ _ => rfl) (h6 160 47 188 zp_160_47) ?_
    refine z_aload_n dX12_oneNight_40 rfl ?_
    refine z_callV (As := []) (st := [.ref 188]) dX12_oneNight_41 zl_X12_410 zv_X12_theTrue (by decide) rfl zn_160 zo_160 rfl rfl (Nat.le_of_ble_eq_true rfl) ⟨Nat.le_refl _, Nat.le_refl _⟩ ⟨Nat.le_refl _, Nat.le_refl _⟩ hv (fun v1 I7 L8 P9 nx1 q10 => ?_)
    obtain ⟨rfl, r11, rfl, hv⟩ := q10
    obtain ⟨h12, hv⟩ := hv
    refine z_iaload dX12_oneNight_44 zn_188 zh_188 h12 ?_
    refine z_istore_n (lv2 := [some (.ref 160), some (.int (I7 188 r11.toNatClampNeg)), none]) dX12_oneNight_45 (by decide) rfl rfl ?_
    refine z_aload_n dX12_oneNight_46 rfl ?_
    refine z_iconst (v := 0) dX12_oneNight_47 (by decide) ?_
    refine z_putI dX12_oneNight_48 zf_X12_349 zn_160 zo_160 (Or.inl rfl) (fun _ _ _ _ _ => rfl) (by decide) (by decide) (z_nmI (fun I13 e14 => ?_))
    have hv := hv I13 e14
    refine z_aload_n dX12_oneNight_51 rfl ?_
    refine z_iconst (v := 0) dX12_oneNight_52 (by decide) ?_
    refine z_putI dX12_oneNight_53 zf_X12_422 zn_160 zo_160 (Or.inl rfl) (fun _ _ _ _ _ => rfl) rfl rfl (z_nmI (fun I15 e16 => ?_))
    have hv := hv I15 e16
    refine z_iconst (v := 0) dX12_oneNight_56 (by decide) ?_
    refine z_istore_n (lv2 := [some (.ref 160), some (.int (I7 188 r11.toNatClampNeg)), some (.int 0)]) dX12_oneNight_57 (by decide) rfl rfl ?_
    exact hv
  · have hv := hv.2 q27
    refine z_aload_n dX12_oneNight_10 rfl ?_
    obtain ⟨h17, hv⟩ := hv
    refine z_getP dX12_oneNight_11 zf_X12_74 zn_160 zo_160 (fun _ _ _ _ _ => rfl) (h17 160 35 180 zp_160_35) ?_
    refine z_iload_n dX12_oneNight_14 rfl ?_
    obtain ⟨h18, hv⟩ := hv
    refine z_zaload dX12_oneNight_15 zn_180 zh_180 h18 ?_
    refine z_if_eq (tgt := 30) dX12_oneNight_16 (by decide) (fun q26 => ?_) (fun q26 => ?_)
    · have hv := hv.1 q26
      refine z_iinc (v2 := x1 + 1) (lv2 := [some (.ref 160), some (.int (x1 + 1)), none]) dX12_oneNight_30 rfl (by rfl) (by decide) rfl rfl ?_
      refine z_goto (tgt := 2) dX12_oneNight_33 (by decide) ?_
      exact hv
    · have hv := hv.2 q26
      refine z_aload_n dX12_oneNight_19 rfl ?_
      refine z_getP dX12_oneNight_20 zf_X12_98 zn_160 zo_160 (fun _ _ _ _ _ => rfl) (h17 160 47 188 zp_160_47) ?_
      refine z_iload_n dX12_oneNight_23 rfl ?_
      refine z_aload_n dX12_oneNight_24 rfl ?_
      refine z_iload_n dX12_oneNight_25 rfl ?_
      refine z_callV (As := [.int x1]) (st := [.int x1, .ref 188]) dX12_oneNight_26 zl_X12_419 zv_X12_goersIn (by decide) rfl zn_160 zo_160 rfl rfl (Nat.le_of_ble_eq_true rfl) ⟨Nat.le_refl _, Nat.le_refl _⟩ ⟨Nat.le_refl _, Nat.le_refl _⟩ hv (fun v1 I19 L20 P21 nx1 q22 => ?_)
      obtain ⟨rfl, r23, rfl, hv⟩ := q22
      refine z_iastore dX12_oneNight_29 zn_188 zh_188 h18 (z_nmI (fun I25 e24 => ?_))
      have hv := hv I25 e24
      refine z_iinc (v2 := x1 + 1) (lv2 := [some (.ref 160), some (.int (x1 + 1)), none]) dX12_oneNight_30 rfl (by rfl) (by decide) rfl rfl ?_
      refine z_goto (tgt := 2) dX12_oneNight_33 (by decide) ?_
      exact hv
def v_X12_oneNight (d : Nat) (Q : zQt)  (I : zI) (L : zL) (P : zP) : Prop :=
  gw_X12_oneNight (d + 1) Q 2 [some (.ref 160), some (.int 0), none] [] I L P
set_option maxRecDepth 20000 in
theorem g_X12_oneNight {d : Nat} {Q : zQt}  {I : zI} {L : zL} {P : zP} (hP : zPk P) (hv : v_X12_oneNight d Q  I L P) : zM zm_X12_oneNight (d + 1) 0 0 [.ref 160] I L P 205 Q := by
  unfold v_X12_oneNight at hv
  refine zM_of (lv0 := [some (.ref 160), none, none]) (by decide +kernel) (Nat.le_of_ble_eq_true rfl) rfl ?_
  refine z_iconst (v := 0) dX12_oneNight_0 (by decide) ?_
  refine z_istore_n (lv2 := [some (.ref 160), some (.int 0), none]) dX12_oneNight_1 (by decide) rfl rfl ?_
  exact hv
abbrev gw_X12_night (d : Nat) (Q : zQt) (pc : Nat) (lv : zV) (st : List Value) (I : zI) (L : zL) (P : zP) : Prop := zW zm_X12_night (zRm d 0 0) 0 0 Q pc lv st I L P 205 0 0
def v_X12_night (d : Nat) (Q : zQt)  (I : zI) (L : zL) (P : zP) : Prop :=
  ((¬ (I 160 39) = 300 →
    zMi zm_X12_oneNight d [.ref 160] I L P (fun r5 I1 L2 P3 =>
      Q (some (.int r5)) I1 L2 P3 205
    )
  ) ∧ ((I 160 39) = 300 →
    Q (some (.int (-1))) I L P 205
  ))
set_option maxRecDepth 20000 in
theorem g_X12_night {d : Nat} {Q : zQt}  {I : zI} {L : zL} {P : zP} (hP : zPk P) (hv : v_X12_night d Q  I L P) : zM zm_X12_night (d + 1) 0 0 [.ref 160] I L P 205 Q := by
  unfold v_X12_night at hv
  refine zM_of (lv0 := [some (.ref 160)]) (by decide +kernel) (Nat.le_of_ble_eq_true rfl) rfl ?_
  refine z_aload_n dX12_night_0 rfl ?_
  refine z_getI dX12_night_1 zf_X12_356 zn_160 zo_160 (fun _ _ _ _ _ => rfl) ?_
  refine z_sipush (v := 300) dX12_night_4 (by decide) ?_
  refine z_icmp_ne (tgt := 14) dX12_night_7 (by decide) (fun q6 => ?_) (fun q6 => ?_)
  · have hv := hv.1 q6
    refine z_aload_n dX12_night_14 rfl ?_
    refine z_callV (As := []) (st := []) dX12_night_15 zl_X12_425 zv_X12_oneNight (by decide) rfl zn_160 zo_160 rfl rfl (Nat.le_of_ble_eq_true rfl) ⟨Nat.le_refl _, Nat.le_refl _⟩ ⟨Nat.le_refl _, Nat.le_refl _⟩ hv (fun v1 I1 L2 P3 nx1 q4 => ?_)
    obtain ⟨rfl, r5, rfl, hv⟩ := q4
    exact z_ireturn dX12_night_18 rfl rfl (Nat.le_refl _) (Nat.le_refl _) hv
  · have hv := hv.2 q6
    refine z_iconst (v := (-1)) dX12_night_10 (by decide) ?_
    refine z_goto (tgt := 18) dX12_night_11 (by decide) ?_
    exact z_ireturn dX12_night_18 rfl rfl (Nat.le_refl _) (Nat.le_refl _) hv
abbrev gw_X12_gone (d : Nat) (Q : zQt) (pc : Nat) (lv : zV) (st : List Value) (I : zI) (L : zL) (P : zP) : Prop := zW zm_X12_gone (zRm d 0 0) 0 0 Q pc lv st I L P 205 0 0
def v_X12_gone (d : Nat) (Q : zQt)  (I : zI) (L : zL) (P : zP) : Prop :=
  Q (some (.int (I 160 40))) I L P 205
set_option maxRecDepth 20000 in
theorem g_X12_gone {d : Nat} {Q : zQt}  {I : zI} {L : zL} {P : zP} (hP : zPk P) (hv : v_X12_gone d Q  I L P) : zM zm_X12_gone d 0 0 [.ref 160] I L P 205 Q := by
  unfold v_X12_gone at hv
  refine zM_of (lv0 := [some (.ref 160)]) (by decide +kernel) (Nat.le_of_ble_eq_true rfl) rfl ?_
  refine z_aload_n dX12_gone_0 rfl ?_
  refine z_getI dX12_gone_1 zf_X12_359 zn_160 zo_160 (fun _ _ _ _ _ => rfl) ?_
  exact z_ireturn dX12_gone_4 rfl rfl (Nat.le_refl _) (Nat.le_refl _) hv
abbrev gw_X12_own (d : Nat) (Q : zQt) (pc : Nat) (lv : zV) (st : List Value) (I : zI) (L : zL) (P : zP) : Prop := zW zm_X12_own (zRm d 0 0) 0 0 Q pc lv st I L P 205 0 0
def v_X12_own_17 (d : Nat) (Q : zQt) (p1 : Int32) (x2 : Int32) (x3 : Int32) (x4 : Int32) (I : zI) (L : zL) (P : zP) : Prop :=
  zMi zm_X12_worldMany d [.ref 160] I L P (fun r11 I7 L8 P9 =>
    ((r11 ≤ x4 →
      ((x2 = 0 →
        ((x3 = 0 →
          Q (some (.int (-2))) I7 L8 P9 205
        ) ∧ (¬ x3 = 0 →
          Q (some (.int 0)) I7 L8 P9 205
        ))
      ) ∧ (¬ x2 = 0 →
        Q (some (.int 1)) I7 L8 P9 205
      ))
    ) ∧ (¬ r11 ≤ x4 →
      zPk P9 ∧
      vp_in x4 256 ∧
      (((I7 180 x4.toNatClampNeg) = 0 →
        gw_X12_own (d + 1) Q 17 [some (.ref 160), some (.int p1), some (.int x2), some (.int x3), some (.int (x4 + 1))] [] I7 L8 P9
      ) ∧ (¬ (I7 180 x4.toNatClampNeg) = 0 →
        zMi zm_X12_theTrue d [.ref 160] I7 L8 P9 (fun r20 I16 L17 P18 =>
          zMi zm_X12_areLike d [.ref 160, .int p1, .int r20, .int x4] I16 L17 P18 (fun r25 I21 L22 P23 =>
            ((¬ r25 = 0 →
              ((x2 = 0 →
                ((x3 = 0 →
                  gw_X12_own (d + 1) Q 17 [some (.ref 160), some (.int p1), some (.int 0), some (.int 0), some (.int (x4 + 1))] [] I21 L22 P23
                ) ∧ (¬ x3 = 0 →
                  ((¬ ((x4 >>> (p1 &&& 31) : Int32) &&& 1 : Int32) = 0 →
                    gw_X12_own (d + 1) Q 17 [some (.ref 160), some (.int p1), some (.int 0), some (.int 0), some (.int (x4 + 1))] [] I21 L22 P23
                  ) ∧ (((x4 >>> (p1 &&& 31) : Int32) &&& 1 : Int32) = 0 →
                    gw_X12_own (d + 1) Q 17 [some (.ref 160), some (.int p1), some (.int 0), some (.int 1), some (.int (x4 + 1))] [] I21 L22 P23
                  ))
                ))
              ) ∧ (¬ x2 = 0 →
                ((¬ ((x4 >>> (p1 &&& 31) : Int32) &&& 1 : Int32) = 1 →
                  ((x3 = 0 →
                    gw_X12_own (d + 1) Q 17 [some (.ref 160), some (.int p1), some (.int 0), some (.int 0), some (.int (x4 + 1))] [] I21 L22 P23
                  ) ∧ (¬ x3 = 0 →
                    ((¬ ((x4 >>> (p1 &&& 31) : Int32) &&& 1 : Int32) = 0 →
                      gw_X12_own (d + 1) Q 17 [some (.ref 160), some (.int p1), some (.int 0), some (.int 0), some (.int (x4 + 1))] [] I21 L22 P23
                    ) ∧ (((x4 >>> (p1 &&& 31) : Int32) &&& 1 : Int32) = 0 →
                      gw_X12_own (d + 1) Q 17 [some (.ref 160), some (.int p1), some (.int 0), some (.int 1), some (.int (x4 + 1))] [] I21 L22 P23
                    ))
                  ))
                ) ∧ (((x4 >>> (p1 &&& 31) : Int32) &&& 1 : Int32) = 1 →
                  ((x3 = 0 →
                    gw_X12_own (d + 1) Q 17 [some (.ref 160), some (.int p1), some (.int 1), some (.int 0), some (.int (x4 + 1))] [] I21 L22 P23
                  ) ∧ (¬ x3 = 0 →
                    ((¬ ((x4 >>> (p1 &&& 31) : Int32) &&& 1 : Int32) = 0 →
                      gw_X12_own (d + 1) Q 17 [some (.ref 160), some (.int p1), some (.int 1), some (.int 0), some (.int (x4 + 1))] [] I21 L22 P23
                    ) ∧ (((x4 >>> (p1 &&& 31) : Int32) &&& 1 : Int32) = 0 →
                      gw_X12_own (d + 1) Q 17 [some (.ref 160), some (.int p1), some (.int 1), some (.int 1), some (.int (x4 + 1))] [] I21 L22 P23
                    ))
                  ))
                ))
              ))
            ) ∧ (r25 = 0 →
              gw_X12_own (d + 1) Q 17 [some (.ref 160), some (.int p1), some (.int x2), some (.int x3), some (.int (x4 + 1))] [] I21 L22 P23
            ))
          )
        )
      ))
    ))
  )
set_option maxRecDepth 20000 in
theorem g_X12_own_17 {d : Nat} {Q : zQt} {p1 : Int32} {x2 : Int32} {x3 : Int32} {x4 : Int32} {I : zI} {L : zL} {P : zP} (hP : zPk P) (hv : v_X12_own_17 d Q p1 x2 x3 x4 I L P) : gw_X12_own (d + 1) Q 17 [some (.ref 160), some (.int p1), some (.int x2), some (.int x3), some (.int x4)] [] I L P := by
  unfold v_X12_own_17 at hv
  refine z_iload dX12_own_17 rfl ?_
  refine z_aload_n dX12_own_19 rfl ?_
  refine z_callV (As := []) (st := [.int x4]) dX12_own_20 zl_X12_346 zv_X12_worldMany (by decide) rfl zn_160 zo_160 rfl rfl (Nat.le_of_ble_eq_true rfl) ⟨Nat.le_refl _, Nat.le_refl _⟩ ⟨Nat.le_refl _, Nat.le_refl _⟩ hv (fun v1 I7 L8 P9 nx1 q10 => ?_)
  obtain ⟨rfl, r11, rfl, hv⟩ := q10
  refine z_icmp_ge (tgt := 98) dX12_own_23 (by decide) (fun q36 => ?_) (fun q36 => ?_)
  · have hv := hv.1 q36
    refine z_iload_n dX12_own_98 rfl ?_
    refine z_if_eq (tgt := 106) dX12_own_99 (by decide) (fun q13 => ?_) (fun q13 => ?_)
    · have hv := hv.1 q13
      refine z_iload_n dX12_own_106 rfl ?_
      refine z_if_eq (tgt := 114) dX12_own_107 (by decide) (fun q12 => ?_) (fun q12 => ?_)
      · have hv := hv.1 q12
        refine z_bipush (v := (-2)) dX12_own_114 (by decide) ?_
        exact z_ireturn dX12_own_116 rfl rfl (Nat.le_refl _) (Nat.le_refl _) hv
      · have hv := hv.2 q12
        refine z_iconst (v := 0) dX12_own_110 (by decide) ?_
        refine z_goto (tgt := 116) dX12_own_111 (by decide) ?_
        exact z_ireturn dX12_own_116 rfl rfl (Nat.le_refl _) (Nat.le_refl _) hv
    · have hv := hv.2 q13
      refine z_iconst (v := 1) dX12_own_102 (by decide) ?_
      refine z_goto (tgt := 116) dX12_own_103 (by decide) ?_
      exact z_ireturn dX12_own_116 rfl rfl (Nat.le_refl _) (Nat.le_refl _) hv
  · have hv := hv.2 q36
    refine z_aload_n dX12_own_26 rfl ?_
    obtain ⟨h14, hv⟩ := hv
    refine z_getP dX12_own_27 zf_X12_74 zn_160 zo_160 (fun _ _ _ _ _ => rfl) (h14 160 35 180 zp_160_35) ?_
    refine z_iload dX12_own_30 rfl ?_
    obtain ⟨h15, hv⟩ := hv
    refine z_zaload dX12_own_32 zn_180 zh_180 h15 ?_
    refine z_if_eq (tgt := 92) dX12_own_33 (by decide) (fun q35 => ?_) (fun q35 => ?_)
    · have hv := hv.1 q35
      refine z_iinc (v2 := x4 + 1) (lv2 := [some (.ref 160), some (.int p1), some (.int x2), some (.int x3), some (.int (x4 + 1))]) dX12_own_92 rfl (by rfl) (by decide) rfl rfl ?_
      refine z_goto (tgt := 17) dX12_own_95 (by decide) ?_
      exact hv
    · have hv := hv.2 q35
      refine z_aload_n dX12_own_36 rfl ?_
      refine z_iload_n dX12_own_37 rfl ?_
      refine z_aload_n dX12_own_38 rfl ?_
      refine z_callV (As := []) (st := [.int p1, .ref 160]) dX12_own_39 zl_X12_410 zv_X12_theTrue (by decide) rfl zn_160 zo_160 rfl rfl (Nat.le_of_ble_eq_true rfl) ⟨Nat.le_refl _, Nat.le_refl _⟩ ⟨Nat.le_refl _, Nat.le_refl _⟩ hv (fun v1 I16 L17 P18 nx1 q19 => ?_)
      obtain ⟨rfl, r20, rfl, hv⟩ := q19
      refine z_iload dX12_own_42 rfl ?_
      refine z_callV (As := [.int p1, .int r20, .int x4]) (st := []) dX12_own_44 zl_X12_371 zv_X12_areLike (by decide) rfl zn_160 zo_160 rfl rfl (Nat.le_of_ble_eq_true rfl) ⟨Nat.le_refl _, Nat.le_refl _⟩ ⟨Nat.le_refl _, Nat.le_refl _⟩ hv (fun v1 I21 L22 P23 nx1 q24 => ?_)
      obtain ⟨rfl, r25, rfl, hv⟩ := q24
      refine z_if_ne (tgt := 53) dX12_own_47 (by decide) (fun q34 => ?_) (fun q34 => ?_)
      · have hv := hv.1 q34
        refine z_iload_n dX12_own_53 rfl ?_
        refine z_if_eq (tgt := 71) dX12_own_54 (by decide) (fun q33 => ?_) (fun q33 => ?_)
        · have hv := hv.1 q33
          refine z_iconst (v := 0) dX12_own_71 (by decide) ?_
          refine z_istore_n (lv2 := [some (.ref 160), some (.int p1), some (.int 0), some (.int x3), some (.int x4)]) dX12_own_72 (by decide) rfl rfl ?_
          refine z_iload_n dX12_own_73 rfl ?_
          refine z_if_eq (tgt := 90) dX12_own_74 (by decide) (fun q27 => ?_) (fun q27 => ?_)
          · have hv := hv.1 q27
            refine z_iconst (v := 0) dX12_own_90 (by decide) ?_
            refine z_istore_n (lv2 := [some (.ref 160), some (.int p1), some (.int 0), some (.int 0), some (.int x4)]) dX12_own_91 (by decide) rfl rfl ?_
            refine z_iinc (v2 := x4 + 1) (lv2 := [some (.ref 160), some (.int p1), some (.int 0), some (.int 0), some (.int (x4 + 1))]) dX12_own_92 rfl (by rfl) (by decide) rfl rfl ?_
            refine z_goto (tgt := 17) dX12_own_95 (by decide) ?_
            exact hv
          · have hv := hv.2 q27
            refine z_iload dX12_own_77 rfl ?_
            refine z_iload_n dX12_own_79 rfl ?_
            refine z_ishr dX12_own_80 ?_
            refine z_iconst (v := 1) dX12_own_81 (by decide) ?_
            refine z_iand dX12_own_82 ?_
            refine z_if_ne (tgt := 90) dX12_own_83 (by decide) (fun q26 => ?_) (fun q26 => ?_)
            · have hv := hv.1 q26
              refine z_iconst (v := 0) dX12_own_90 (by decide) ?_
              refine z_istore_n (lv2 := [some (.ref 160), some (.int p1), some (.int 0), some (.int 0), some (.int x4)]) dX12_own_91 (by decide) rfl rfl ?_
              refine z_iinc (v2 := x4 + 1) (lv2 := [some (.ref 160), some (.int p1), some (.int 0), some (.int 0), some (.int (x4 + 1))]) dX12_own_92 rfl (by rfl) (by decide) rfl rfl ?_
              refine z_goto (tgt := 17) dX12_own_95 (by decide) ?_
              exact hv
            · have hv := hv.2 q26
              refine z_iconst (v := 1) dX12_own_86 (by decide) ?_
              refine z_goto (tgt := 91) dX12_own_87 (by decide) ?_
              refine z_istore_n (lv2 := [some (.ref 160), some (.int p1), some (.int 0), some (.int 1), some (.int x4)]) dX12_own_91 (by decide) rfl rfl ?_
              refine z_iinc (v2 := x4 + 1) (lv2 := [some (.ref 160), some (.int p1), some (.int 0), some (.int 1), some (.int (x4 + 1))]) dX12_own_92 rfl (by rfl) (by decide) rfl rfl ?_
              refine z_goto (tgt := 17) dX12_own_95 (by decide) ?_
              exact hv
        · have hv := hv.2 q33
          refine z_iload dX12_own_57 rfl ?_
          refine z_iload_n dX12_own_59 rfl ?_
          refine z_ishr dX12_own_60 ?_
          refine z_iconst (v := 1) dX12_own_61 (by decide) ?_
          refine z_iand dX12_own_62 ?_
          refine z_iconst (v := 1) dX12_own_63 (by decide) ?_
          refine z_icmp_ne (tgt := 71) dX12_own_64 (by decide) (fun q32 => ?_) (fun q32 => ?_)
          · have hv := hv.1 q32
            refine z_iconst (v := 0) dX12_own_71 (by decide) ?_
            refine z_istore_n (lv2 := [some (.ref 160), some (.int p1), some (.int 0), some (.int x3), some (.int x4)]) dX12_own_72 (by decide) rfl rfl ?_
            refine z_iload_n dX12_own_73 rfl ?_
            refine z_if_eq (tgt := 90) dX12_own_74 (by decide) (fun q29 => ?_) (fun q29 => ?_)
            · have hv := hv.1 q29
              refine z_iconst (v := 0) dX12_own_90 (by decide) ?_
              refine z_istore_n (lv2 := [some (.ref 160), some (.int p1), some (.int 0), some (.int 0), some (.int x4)]) dX12_own_91 (by decide) rfl rfl ?_
              refine z_iinc (v2 := x4 + 1) (lv2 := [some (.ref 160), some (.int p1), some (.int 0), some (.int 0), some (.int (x4 + 1))]) dX12_own_92 rfl (by rfl) (by decide) rfl rfl ?_
              refine z_goto (tgt := 17) dX12_own_95 (by decide) ?_
              exact hv
            · have hv := hv.2 q29
              refine z_iload dX12_own_77 rfl ?_
              refine z_iload_n dX12_own_79 rfl ?_
              refine z_ishr dX12_own_80 ?_
              refine z_iconst (v := 1) dX12_own_81 (by decide) ?_
              refine z_iand dX12_own_82 ?_
              refine z_if_ne (tgt := 90) dX12_own_83 (by decide) (fun q28 => ?_) (fun q28 => ?_)
              · have hv := hv.1 q28
                refine z_iconst (v := 0) dX12_own_90 (by decide) ?_
                refine z_istore_n (lv2 := [some (.ref 160), some (.int p1), some (.int 0), some (.int 0), some (.int x4)]) dX12_own_91 (by decide) rfl rfl ?_
                refine z_iinc (v2 := x4 + 1) (lv2 := [some (.ref 160), some (.int p1), some (.int 0), some (.int 0), some (.int (x4 + 1))]) dX12_own_92 rfl (by rfl) (by decide) rfl rfl ?_
                refine z_goto (tgt := 17) dX12_own_95 (by decide) ?_
                exact hv
              · have hv := hv.2 q28
                refine z_iconst (v := 1) dX12_own_86 (by decide) ?_
                refine z_goto (tgt := 91) dX12_own_87 (by decide) ?_
                refine z_istore_n (lv2 := [some (.ref 160), some (.int p1), some (.int 0), some (.int 1), some (.int x4)]) dX12_own_91 (by decide) rfl rfl ?_
                refine z_iinc (v2 := x4 + 1) (lv2 := [some (.ref 160), some (.int p1), some (.int 0), some (.int 1), some (.int (x4 + 1))]) dX12_own_92 rfl (by rfl) (by decide) rfl rfl ?_
                refine z_goto (tgt := 17) dX12_own_95 (by decide) ?_
                exact hv
          · have hv := hv.2 q32
            refine z_iconst (v := 1) dX12_own_67 (by decide) ?_
            refine z_goto (tgt := 72) dX12_own_68 (by decide) ?_
            refine z_istore_n (lv2 := [some (.ref 160), some (.int p1), some (.int 1), some (.int x3), some (.int x4)]) dX12_own_72 (by decide) rfl rfl ?_
            refine z_iload_n dX12_own_73 rfl ?_
            refine z_if_eq (tgt := 90) dX12_own_74 (by decide) (fun q31 => ?_) (fun q31 => ?_)
            · have hv := hv.1 q31
              refine z_iconst (v := 0) dX12_own_90 (by decide) ?_
              refine z_istore_n (lv2 := [some (.ref 160), some (.int p1), some (.int 1), some (.int 0), some (.int x4)]) dX12_own_91 (by decide) rfl rfl ?_
              refine z_iinc (v2 := x4 + 1) (lv2 := [some (.ref 160), some (.int p1), some (.int 1), some (.int 0), some (.int (x4 + 1))]) dX12_own_92 rfl (by rfl) (by decide) rfl rfl ?_
              refine z_goto (tgt := 17) dX12_own_95 (by decide) ?_
              exact hv
            · have hv := hv.2 q31
              refine z_iload dX12_own_77 rfl ?_
              refine z_iload_n dX12_own_79 rfl ?_
              refine z_ishr dX12_own_80 ?_
              refine z_iconst (v := 1) dX12_own_81 (by decide) ?_
              refine z_iand dX12_own_82 ?_
              refine z_if_ne (tgt := 90) dX12_own_83 (by decide) (fun q30 => ?_) (fun q30 => ?_)
              · have hv := hv.1 q30
                refine z_iconst (v := 0) dX12_own_90 (by decide) ?_
                refine z_istore_n (lv2 := [some (.ref 160), some (.int p1), some (.int 1), some (.int 0), some (.int x4)]) dX12_own_91 (by decide) rfl rfl ?_
                refine z_iinc (v2 := x4 + 1) (lv2 := [some (.ref 160), some (.int p1), some (.int 1), some (.int 0), some (.int (x4 + 1))]) dX12_own_92 rfl (by rfl) (by decide) rfl rfl ?_
                refine z_goto (tgt := 17) dX12_own_95 (by decide) ?_
                exact hv
              · have hv := hv.2 q30
                refine z_iconst (v := 1) dX12_own_86 (by decide) ?_
                refine z_goto (tgt := 91) dX12_own_87 (by decide) ?_
                refine z_istore_n (lv2 := [some (.ref 160), some (.int p1), some (.int 1), some (.int 1), some (.int x4)]) dX12_own_91 (by decide) rfl rfl ?_
                refine z_iinc (v2 := x4 + 1) (lv2 := [some (.ref 160), some (.int p1), some (.int 1), some (.int 1), some (.int (x4 + 1))]) dX12_own_92 rfl (by rfl) (by decide) rfl rfl ?_
                refine z_goto (tgt := 17) dX12_own_95 (by decide) ?_
                exact hv
      · have hv := hv.2 q34
        refine z_goto (tgt := 92) dX12_own_50 (by decide) ?_
        refine z_iinc (v2 := x4 + 1) (lv2 := [some (.ref 160), some (.int p1), some (.int x2), some (.int x3), some (.int (x4 + 1))]) dX12_own_92 rfl (by rfl) (by decide) rfl rfl ?_
        refine z_goto (tgt := 17) dX12_own_95 (by decide) ?_
        exact hv
def v_X12_own (d : Nat) (Q : zQt) (p1 : Int32) (I : zI) (L : zL) (P : zP) : Prop :=
  zMi zm_X12_isOne d [.ref 160, .int p1] I L P (fun r5 I1 L2 P3 =>
    ((¬ r5 = 0 →
      gw_X12_own (d + 1) Q 17 [some (.ref 160), some (.int p1), some (.int 1), some (.int 1), some (.int 0)] [] I1 L2 P3
    ) ∧ (r5 = 0 →
      Q (some (.int (-1))) I1 L2 P3 205
    ))
  )
set_option maxRecDepth 20000 in
theorem g_X12_own {d : Nat} {Q : zQt} {p1 : Int32} {I : zI} {L : zL} {P : zP} (hP : zPk P) (hv : v_X12_own d Q p1 I L P) : zM zm_X12_own (d + 1) 0 0 [.ref 160, .int p1] I L P 205 Q := by
  unfold v_X12_own at hv
  refine zM_of (lv0 := [some (.ref 160), some (.int p1), none, none, none]) (by decide +kernel) (Nat.le_of_ble_eq_true rfl) rfl ?_
  refine z_aload_n dX12_own_0 rfl ?_
  refine z_iload_n dX12_own_1 rfl ?_
  refine z_callV (As := [.int p1]) (st := []) dX12_own_2 zl_X12_365 zv_X12_isOne (by decide) rfl zn_160 zo_160 rfl rfl (Nat.le_of_ble_eq_true rfl) ⟨Nat.le_refl _, Nat.le_refl _⟩ ⟨Nat.le_refl _, Nat.le_refl _⟩ hv (fun v1 I1 L2 P3 nx1 q4 => ?_)
  obtain ⟨rfl, r5, rfl, hv⟩ := q4
  refine z_if_ne (tgt := 10) dX12_own_5 (by decide) (fun q6 => ?_) (fun q6 => ?_)
  · have hv := hv.1 q6
    refine z_iconst (v := 1) dX12_own_10 (by decide) ?_
    refine z_istore_n (lv2 := [some (.ref 160), some (.int p1), some (.int 1), none, none]) dX12_own_11 (by decide) rfl rfl ?_
    refine z_iconst (v := 1) dX12_own_12 (by decide) ?_
    refine z_istore_n (lv2 := [some (.ref 160), some (.int p1), some (.int 1), some (.int 1), none]) dX12_own_13 (by decide) rfl rfl ?_
    refine z_iconst (v := 0) dX12_own_14 (by decide) ?_
    refine z_istore (lv2 := [some (.ref 160), some (.int p1), some (.int 1), some (.int 1), some (.int 0)]) dX12_own_15 (by decide) rfl rfl ?_
    exact hv
  · have hv := hv.2 q6
    refine z_iconst (v := (-1)) dX12_own_8 (by decide) ?_
    exact z_ireturn dX12_own_9 rfl rfl (Nat.le_refl _) (Nat.le_refl _) hv
abbrev gw_X12_when (d : Nat) (Q : zQt) (pc : Nat) (lv : zV) (st : List Value) (I : zI) (L : zL) (P : zP) : Prop := zW zm_X12_when (zRm d 0 0) 0 0 Q pc lv st I L P 205 0 0
def v_X12_when_34 (d : Nat) (Q : zQt) (p1 : Int32) (x2 : Int32) (x3 : Int32) (x4 : Int32) (I : zI) (L : zL) (P : zP) : Prop :=
  ((x4 = 0 →
    zMv zm_X12_bring d [.ref 160, .int 3] I L P (fun I13 L14 P15 =>
      Q (some (.int x3)) I13 L14 P15 205
    )
  ) ∧ (¬ x4 = 0 →
    zMi zm_X12_oneNight d [.ref 160] I L P (fun r22 I18 L19 P20 =>
      ((¬ ((r22 >>> (p1 &&& 31) : Int32) &&& 1 : Int32) = 1 →
        ((0 ≤ x3 →
          gw_X12_when (d + 1) Q 34 [some (.ref 160), some (.int p1), some (.int (x2 + 1)), some (.int x3), some (.int 0), none] [] I18 L19 P20
        ) ∧ (¬ 0 ≤ x3 →
          ((¬ r22 = 0 →
            gw_X12_when (d + 1) Q 34 [some (.ref 160), some (.int p1), some (.int (x2 + 1)), some (.int x3), some (.int 1), none] [] I18 L19 P20
          ) ∧ (r22 = 0 →
            (((I18 160 48) ≤ 0 →
              gw_X12_when (d + 1) Q 34 [some (.ref 160), some (.int p1), some (.int (x2 + 1)), some (.int x3), some (.int 0), none] [] I18 L19 P20
            ) ∧ (¬ (I18 160 48) ≤ 0 →
              gw_X12_when (d + 1) Q 34 [some (.ref 160), some (.int p1), some (.int (x2 + 1)), some (.int x3), some (.int 1), none] [] I18 L19 P20
            ))
          ))
        ))
      ) ∧ (((r22 >>> (p1 &&& 31) : Int32) &&& 1 : Int32) = 1 →
        ((0 ≤ (x2 + 1) →
          gw_X12_when (d + 1) Q 34 [some (.ref 160), some (.int p1), some (.int (x2 + 1)), some (.int (x2 + 1)), some (.int 0), none] [] I18 L19 P20
        ) ∧ (¬ 0 ≤ (x2 + 1) →
          ((¬ r22 = 0 →
            gw_X12_when (d + 1) Q 34 [some (.ref 160), some (.int p1), some (.int (x2 + 1)), some (.int (x2 + 1)), some (.int 1), none] [] I18 L19 P20
          ) ∧ (r22 = 0 →
            (((I18 160 48) ≤ 0 →
              gw_X12_when (d + 1) Q 34 [some (.ref 160), some (.int p1), some (.int (x2 + 1)), some (.int (x2 + 1)), some (.int 0), none] [] I18 L19 P20
            ) ∧ (¬ (I18 160 48) ≤ 0 →
              gw_X12_when (d + 1) Q 34 [some (.ref 160), some (.int p1), some (.int (x2 + 1)), some (.int (x2 + 1)), some (.int 1), none] [] I18 L19 P20
            ))
          ))
        ))
      ))
    )
  ))
set_option maxRecDepth 20000 in
theorem g_X12_when_34 {d : Nat} {Q : zQt} {p1 : Int32} {x2 : Int32} {x3 : Int32} {x4 : Int32} {I : zI} {L : zL} {P : zP} (hP : zPk P) (hv : v_X12_when_34 d Q p1 x2 x3 x4 I L P) : gw_X12_when (d + 1) Q 34 [some (.ref 160), some (.int p1), some (.int x2), some (.int x3), some (.int x4), none] [] I L P := by
  unfold v_X12_when_34 at hv
  refine z_iload dX12_when_34 rfl ?_
  refine z_if_eq (tgt := 86) dX12_when_36 (by decide) (fun q30 => ?_) (fun q30 => ?_)
  · have hv := hv.1 q30
    refine z_aload_n dX12_when_86 rfl ?_
    refine z_iconst (v := 3) dX12_when_87 (by decide) ?_
    refine z_callV (As := [.int 3]) (st := []) dX12_when_88 zl_X12_431 zv_X12_bring (by decide) rfl zn_160 zo_160 rfl rfl (Nat.le_of_ble_eq_true rfl) ⟨Nat.le_refl _, Nat.le_refl _⟩ ⟨Nat.le_refl _, Nat.le_refl _⟩ hv (fun v1 I13 L14 P15 nx1 q16 => ?_)
    obtain ⟨rfl, rfl, hv⟩ := q16
    refine z_iload_n dX12_when_91 rfl ?_
    exact z_ireturn dX12_when_92 rfl rfl (Nat.le_refl _) (Nat.le_refl _) hv
  · have hv := hv.2 q30
    refine z_iinc (v2 := x2 + 1) (lv2 := [some (.ref 160), some (.int p1), some (.int (x2 + 1)), some (.int x3), some (.int x4), none]) dX12_when_39 rfl (by rfl) (by decide) rfl rfl ?_
    refine z_aload_n dX12_when_42 rfl ?_
    refine z_callV (As := []) (st := []) dX12_when_43 zl_X12_425 zv_X12_oneNight (by decide) rfl zn_160 zo_160 rfl rfl (Nat.le_of_ble_eq_true rfl) ⟨Nat.le_refl _, Nat.le_refl _⟩ ⟨Nat.le_refl _, Nat.le_refl _⟩ hv (fun v1 I18 L19 P20 nx1 q21 => ?_)
    obtain ⟨rfl, r22, rfl, hv⟩ := q21
    refine z_istore (lv2 := [some (.ref 160), some (.int p1), some (.int (x2 + 1)), some (.int x3), some (.int x4), some (.int r22)]) dX12_when_46 (by decide) rfl rfl ?_
    refine z_iload dX12_when_48 rfl ?_
    refine z_iload_n dX12_when_50 rfl ?_
    refine z_ishr dX12_when_51 ?_
    refine z_iconst (v := 1) dX12_when_52 (by decide) ?_
    refine z_iand dX12_when_53 ?_
    refine z_iconst (v := 1) dX12_when_54 (by decide) ?_
    refine z_icmp_ne (tgt := 60) dX12_when_55 (by decide) (fun q29 => ?_) (fun q29 => ?_)
    · have hv := hv.1 q29
      refine z_iload_n dX12_when_60 rfl ?_
      refine z_if_ge (tgt := 80) dX12_when_61 (by decide) (fun q25 => ?_) (fun q25 => ?_)
      · have hv := hv.1 q25
        refine z_iconst (v := 0) dX12_when_80 (by decide) ?_
        refine z_istore (lv2 := [some (.ref 160), some (.int p1), some (.int (x2 + 1)), some (.int x3), some (.int 0), some (.int r22)]) dX12_when_81 (by decide) rfl rfl ?_
        refine z_goto (tgt := 34) dX12_when_83 (by decide) ?_
        exact z_sub (by exact ⟨rfl, ⟨rfl, ⟨rfl, ⟨rfl, ⟨rfl, trivial⟩⟩⟩⟩⟩) hv
      · have hv := hv.2 q25
        refine z_iload dX12_when_64 rfl ?_
        refine z_if_ne (tgt := 76) dX12_when_66 (by decide) (fun q24 => ?_) (fun q24 => ?_)
        · have hv := hv.1 q24
          refine z_iconst (v := 1) dX12_when_76 (by decide) ?_
          refine z_goto (tgt := 81) dX12_when_77 (by decide) ?_
          refine z_istore (lv2 := [some (.ref 160), some (.int p1), some (.int (x2 + 1)), some (.int x3), some (.int 1), some (.int r22)]) dX12_when_81 (by decide) rfl rfl ?_
          refine z_goto (tgt := 34) dX12_when_83 (by decide) ?_
          exact z_sub (by exact ⟨rfl, ⟨rfl, ⟨rfl, ⟨rfl, ⟨rfl, trivial⟩⟩⟩⟩⟩) hv
        · have hv := hv.2 q24
          refine z_aload_n dX12_when_69 rfl ?_
          refine z_getI dX12_when_70 zf_X12_422 zn_160 zo_160 (fun _ _ _ _ _ => rfl) ?_
          refine z_if_le (tgt := 80) dX12_when_73 (by decide) (fun q23 => ?_) (fun q23 => ?_)
          · have hv := hv.1 q23
            refine z_iconst (v := 0) dX12_when_80 (by decide) ?_
            refine z_istore (lv2 := [some (.ref 160), some (.int p1), some (.int (x2 + 1)), some (.int x3), some (.int 0), some (.int r22)]) dX12_when_81 (by decide) rfl rfl ?_
            refine z_goto (tgt := 34) dX12_when_83 (by decide) ?_
            exact z_sub (by exact ⟨rfl, ⟨rfl, ⟨rfl, ⟨rfl, ⟨rfl, trivial⟩⟩⟩⟩⟩) hv
          · have hv := hv.2 q23
            refine z_iconst (v := 1) dX12_when_76 (by decide) ?_
            refine z_goto (tgt := 81) dX12_when_77 (by decide) ?_
            refine z_istore (lv2 := [some (.ref 160), some (.int p1), some (.int (x2 + 1)), some (.int x3), some (.int 1), some (.int r22)]) dX12_when_81 (by decide) rfl rfl ?_
            refine z_goto (tgt := 34) dX12_when_83 (by decide) ?_
            exact z_sub (by exact ⟨rfl, ⟨rfl, ⟨rfl, ⟨rfl, ⟨rfl, trivial⟩⟩⟩⟩⟩) hv
    · have hv := hv.2 q29
      refine z_iload_n dX12_when_58 rfl ?_
      refine z_istore_n (lv2 := [some (.ref 160), some (.int p1), some (.int (x2 + 1)), some (.int (x2 + 1)), some (.int x4), some (.int r22)]) dX12_when_59 (by decide) rfl rfl ?_
      refine z_iload_n dX12_when_60 rfl ?_
      refine z_if_ge (tgt := 80) dX12_when_61 (by decide) (fun q28 => ?_) (fun q28 => ?_)
      · have hv := hv.1 q28
        refine z_iconst (v := 0) dX12_when_80 (by decide) ?_
        refine z_istore (lv2 := [some (.ref 160), some (.int p1), some (.int (x2 + 1)), some (.int (x2 + 1)), some (.int 0), some (.int r22)]) dX12_when_81 (by decide) rfl rfl ?_
        refine z_goto (tgt := 34) dX12_when_83 (by decide) ?_
        exact z_sub (by exact ⟨rfl, ⟨rfl, ⟨rfl, ⟨rfl, ⟨rfl, trivial⟩⟩⟩⟩⟩) hv
      · have hv := hv.2 q28
        refine z_iload dX12_when_64 rfl ?_
        refine z_if_ne (tgt := 76) dX12_when_66 (by decide) (fun q27 => ?_) (fun q27 => ?_)
        · have hv := hv.1 q27
          refine z_iconst (v := 1) dX12_when_76 (by decide) ?_
          refine z_goto (tgt := 81) dX12_when_77 (by decide) ?_
          refine z_istore (lv2 := [some (.ref 160), some (.int p1), some (.int (x2 + 1)), some (.int (x2 + 1)), some (.int 1), some (.int r22)]) dX12_when_81 (by decide) rfl rfl ?_
          refine z_goto (tgt := 34) dX12_when_83 (by decide) ?_
          exact z_sub (by exact ⟨rfl, ⟨rfl, ⟨rfl, ⟨rfl, ⟨rfl, trivial⟩⟩⟩⟩⟩) hv
        · have hv := hv.2 q27
          refine z_aload_n dX12_when_69 rfl ?_
          refine z_getI dX12_when_70 zf_X12_422 zn_160 zo_160 (fun _ _ _ _ _ => rfl) ?_
          refine z_if_le (tgt := 80) dX12_when_73 (by decide) (fun q26 => ?_) (fun q26 => ?_)
          · have hv := hv.1 q26
            refine z_iconst (v := 0) dX12_when_80 (by decide) ?_
            refine z_istore (lv2 := [some (.ref 160), some (.int p1), some (.int (x2 + 1)), some (.int (x2 + 1)), some (.int 0), some (.int r22)]) dX12_when_81 (by decide) rfl rfl ?_
            refine z_goto (tgt := 34) dX12_when_83 (by decide) ?_
            exact z_sub (by exact ⟨rfl, ⟨rfl, ⟨rfl, ⟨rfl, ⟨rfl, trivial⟩⟩⟩⟩⟩) hv
          · have hv := hv.2 q26
            refine z_iconst (v := 1) dX12_when_76 (by decide) ?_
            refine z_goto (tgt := 81) dX12_when_77 (by decide) ?_
            refine z_istore (lv2 := [some (.ref 160), some (.int p1), some (.int (x2 + 1)), some (.int (x2 + 1)), some (.int 1), some (.int r22)]) dX12_when_81 (by decide) rfl rfl ?_
            refine z_goto (tgt := 34) dX12_when_83 (by decide) ?_
            exact z_sub (by exact ⟨rfl, ⟨rfl, ⟨rfl, ⟨rfl, ⟨rfl, trivial⟩⟩⟩⟩⟩) hv
def v_X12_when (d : Nat) (Q : zQt) (p1 : Int32) (I : zI) (L : zL) (P : zP) : Prop :=
  zMi zm_X12_isOne d [.ref 160, .int p1] I L P (fun r5 I1 L2 P3 =>
    ((r5 = 0 →
      Q (some (.int (-1))) I1 L2 P3 205
    ) ∧ (¬ r5 = 0 →
      ((¬ (((I1 160 40) >>> (p1 &&& 31) : Int32) &&& 1 : Int32) = 1 →
        zMv zm_X12_keep d [.ref 160, .int 3] I1 L2 P3 (fun I6 L7 P8 =>
          gw_X12_when (d + 1) Q 34 [some (.ref 160), some (.int p1), some (.int 0), some (.int (-1)), some (.int 1), none] [] I6 L7 P8
        )
      ) ∧ ((((I1 160 40) >>> (p1 &&& 31) : Int32) &&& 1 : Int32) = 1 →
        Q (some (.int (-1))) I1 L2 P3 205
      ))
    ))
  )
set_option maxRecDepth 20000 in
theorem g_X12_when {d : Nat} {Q : zQt} {p1 : Int32} {I : zI} {L : zL} {P : zP} (hP : zPk P) (hv : v_X12_when d Q p1 I L P) : zM zm_X12_when (d + 1) 0 0 [.ref 160, .int p1] I L P 205 Q := by
  unfold v_X12_when at hv
  refine zM_of (lv0 := [some (.ref 160), some (.int p1), none, none, none, none]) (by decide +kernel) (Nat.le_of_ble_eq_true rfl) rfl ?_
  refine z_aload_n dX12_when_0 rfl ?_
  refine z_iload_n dX12_when_1 rfl ?_
  refine z_callV (As := [.int p1]) (st := []) dX12_when_2 zl_X12_365 zv_X12_isOne (by decide) rfl zn_160 zo_160 rfl rfl (Nat.le_of_ble_eq_true rfl) ⟨Nat.le_refl _, Nat.le_refl _⟩ ⟨Nat.le_refl _, Nat.le_refl _⟩ hv (fun v1 I1 L2 P3 nx1 q4 => ?_)
  obtain ⟨rfl, r5, rfl, hv⟩ := q4
  refine z_if_eq (tgt := 20) dX12_when_5 (by decide) (fun q12 => ?_) (fun q12 => ?_)
  · have hv := hv.1 q12
    refine z_iconst (v := (-1)) dX12_when_20 (by decide) ?_
    exact z_ireturn dX12_when_21 rfl rfl (Nat.le_refl _) (Nat.le_refl _) hv
  · have hv := hv.2 q12
    refine z_aload_n dX12_when_8 rfl ?_
    refine z_getI dX12_when_9 zf_X12_359 zn_160 zo_160 (fun _ _ _ _ _ => rfl) ?_
    refine z_iload_n dX12_when_12 rfl ?_
    refine z_ishr dX12_when_13 ?_
    refine z_iconst (v := 1) dX12_when_14 (by decide) ?_
    refine z_iand dX12_when_15 ?_
    refine z_iconst (v := 1) dX12_when_16 (by decide) ?_
    refine z_icmp_ne (tgt := 22) dX12_when_17 (by decide) (fun q11 => ?_) (fun q11 => ?_)
    · have hv := hv.1 q11
      refine z_aload_n dX12_when_22 rfl ?_
      refine z_iconst (v := 3) dX12_when_23 (by decide) ?_
      refine z_callV (As := [.int 3]) (st := []) dX12_when_24 zl_X12_428 zv_X12_keep (by decide) rfl zn_160 zo_160 rfl rfl (Nat.le_of_ble_eq_true rfl) ⟨Nat.le_refl _, Nat.le_refl _⟩ ⟨Nat.le_refl _, Nat.le_refl _⟩ hv (fun v1 I6 L7 P8 nx1 q9 => ?_)
      obtain ⟨rfl, rfl, hv⟩ := q9
      refine z_iconst (v := 0) dX12_when_27 (by decide) ?_
      refine z_istore_n (lv2 := [some (.ref 160), some (.int p1), some (.int 0), none, none, none]) dX12_when_28 (by decide) rfl rfl ?_
      refine z_iconst (v := (-1)) dX12_when_29 (by decide) ?_
      refine z_istore_n (lv2 := [some (.ref 160), some (.int p1), some (.int 0), some (.int (-1)), none, none]) dX12_when_30 (by decide) rfl rfl ?_
      refine z_iconst (v := 1) dX12_when_31 (by decide) ?_
      refine z_istore (lv2 := [some (.ref 160), some (.int p1), some (.int 0), some (.int (-1)), some (.int 1), none]) dX12_when_32 (by decide) rfl rfl ?_
      exact hv
    · have hv := hv.2 q11
      refine z_iconst (v := (-1)) dX12_when_20 (by decide) ?_
      exact z_ireturn dX12_when_21 rfl rfl (Nat.le_refl _) (Nat.le_refl _) hv
abbrev gw_X12_fewest (d : Nat) (Q : zQt) (pc : Nat) (lv : zV) (st : List Value) (I : zI) (L : zL) (P : zP) : Prop := zW zm_X12_fewest (zRm d 0 0) 0 0 Q pc lv st I L P 205 0 0
def v_X12_fewest_34 (d : Nat) (Q : zQt) (p1 : Int32) (p2 : Int32) (x3 : Int32) (x4 : Int32) (I : zI) (L : zL) (P : zP) : Prop :=
  vp_in (I 160 28) 2 ∧
  ((((1 : Int32) <<< ((I 165 (I 160 28).toNatClampNeg) &&& 31) : Int32) ≤ x4 →
    Q (some (.int x3)) I L P 205
  ) ∧ (¬ ((1 : Int32) <<< ((I 165 (I 160 28).toNatClampNeg) &&& 31) : Int32) ≤ x4 →
    ((x3 < 0 →
      zMi zm_X12_goBy d [.ref 160, .int x4, .int p2] I L P (fun r24 I20 L21 P22 =>
        ((¬ r24 = p1 →
          zMv zm_X12_bring d [.ref 160, .int 3] I20 L21 P22 (fun I25 L26 P27 =>
            gw_X12_fewest (d + 1) Q 34 [some (.ref 160), some (.int p1), some (.int p2), some (.int x3), some (.int (x4 + 1))] [] I25 L26 P27
          )
        ) ∧ (r24 = p1 →
          zMv zm_X12_bring d [.ref 160, .int 3] I20 L21 P22 (fun I30 L31 P32 =>
            gw_X12_fewest (d + 1) Q 34 [some (.ref 160), some (.int p1), some (.int p2), some (.int x4), some (.int (x4 + 1))] [] I30 L31 P32
          )
        ))
      )
    ) ∧ (¬ x3 < 0 →
      zMi zm_X12_bitsOf d [.int x4] I L P (fun r40 I36 L37 P38 =>
        zMi zm_X12_bitsOf d [.int x3] I36 L37 P38 (fun r45 I41 L42 P43 =>
          ((r40 < r45 →
            zMi zm_X12_goBy d [.ref 160, .int x4, .int p2] I41 L42 P43 (fun r50 I46 L47 P48 =>
              ((¬ r50 = p1 →
                zMv zm_X12_bring d [.ref 160, .int 3] I46 L47 P48 (fun I51 L52 P53 =>
                  gw_X12_fewest (d + 1) Q 34 [some (.ref 160), some (.int p1), some (.int p2), some (.int x3), some (.int (x4 + 1))] [] I51 L52 P53
                )
              ) ∧ (r50 = p1 →
                zMv zm_X12_bring d [.ref 160, .int 3] I46 L47 P48 (fun I56 L57 P58 =>
                  gw_X12_fewest (d + 1) Q 34 [some (.ref 160), some (.int p1), some (.int p2), some (.int x4), some (.int (x4 + 1))] [] I56 L57 P58
                )
              ))
            )
          ) ∧ (¬ r40 < r45 →
            gw_X12_fewest (d + 1) Q 34 [some (.ref 160), some (.int p1), some (.int p2), some (.int x3), some (.int (x4 + 1))] [] I41 L42 P43
          ))
        )
      )
    ))
  ))
set_option maxRecDepth 20000 in
theorem g_X12_fewest_34 {d : Nat} {Q : zQt} {p1 : Int32} {p2 : Int32} {x3 : Int32} {x4 : Int32} {I : zI} {L : zL} {P : zP} (hP : zPk P) (hv : v_X12_fewest_34 d Q p1 p2 x3 x4 I L P) : gw_X12_fewest (d + 1) Q 34 [some (.ref 160), some (.int p1), some (.int p2), some (.int x3), some (.int x4)] [] I L P := by
  unfold v_X12_fewest_34 at hv
  refine z_iload dX12_fewest_34 rfl ?_
  refine z_iconst (v := 1) dX12_fewest_36 (by decide) ?_
  refine z_aload_n dX12_fewest_37 rfl ?_
  refine z_getP dX12_fewest_38 zf_X12_27 zn_160 zo_160 (fun _ _ _ _ _ => rfl) (hP 160 13 165 zp_160_13) ?_
  refine z_aload_n dX12_fewest_41 rfl ?_
  refine z_getI dX12_fewest_42 zf_X12_261 zn_160 zo_160 (fun _ _ _ _ _ => rfl) ?_
  obtain ⟨h19, hv⟩ := hv
  refine z_iaload dX12_fewest_45 zn_165 zh_165 h19 ?_
  refine z_ishl dX12_fewest_46 ?_
  refine z_icmp_ge (tgt := 94) dX12_fewest_47 (by decide) (fun q64 => ?_) (fun q64 => ?_)
  · have hv := hv.1 q64
    refine z_iload_n dX12_fewest_94 rfl ?_
    exact z_ireturn dX12_fewest_95 rfl rfl (Nat.le_refl _) (Nat.le_refl _) hv
  · have hv := hv.2 q64
    refine z_iload_n dX12_fewest_50 rfl ?_
    refine z_if_lt (tgt := 69) dX12_fewest_51 (by decide) (fun q63 => ?_) (fun q63 => ?_)
    · have hv := hv.1 q63
      refine z_aload_n dX12_fewest_69 rfl ?_
      refine z_iload dX12_fewest_70 rfl ?_
      refine z_iload_n dX12_fewest_72 rfl ?_
      refine z_callV (As := [.int x4, .int p2]) (st := []) dX12_fewest_73 zl_X12_434 zv_X12_goBy (by decide) rfl zn_160 zo_160 rfl rfl (Nat.le_of_ble_eq_true rfl) ⟨Nat.le_refl _, Nat.le_refl _⟩ ⟨Nat.le_refl _, Nat.le_refl _⟩ hv (fun v1 I20 L21 P22 nx1 q23 => ?_)
      obtain ⟨rfl, r24, rfl, hv⟩ := q23
      refine z_iload_n dX12_fewest_76 rfl ?_
      refine z_icmp_ne (tgt := 83) dX12_fewest_77 (by decide) (fun q35 => ?_) (fun q35 => ?_)
      · have hv := hv.1 q35
        refine z_aload_n dX12_fewest_83 rfl ?_
        refine z_iconst (v := 3) dX12_fewest_84 (by decide) ?_
        refine z_callV (As := [.int 3]) (st := []) dX12_fewest_85 zl_X12_431 zv_X12_bring (by decide) rfl zn_160 zo_160 rfl rfl (Nat.le_of_ble_eq_true rfl) ⟨Nat.le_refl _, Nat.le_refl _⟩ ⟨Nat.le_refl _, Nat.le_refl _⟩ hv (fun v1 I25 L26 P27 nx1 q28 => ?_)
        obtain ⟨rfl, rfl, hv⟩ := q28
        refine z_iinc (v2 := x4 + 1) (lv2 := [some (.ref 160), some (.int p1), some (.int p2), some (.int x3), some (.int (x4 + 1))]) dX12_fewest_88 rfl (by rfl) (by decide) rfl rfl ?_
        refine z_goto (tgt := 34) dX12_fewest_91 (by decide) ?_
        exact hv
      · have hv := hv.2 q35
        refine z_iload dX12_fewest_80 rfl ?_
        refine z_istore_n (lv2 := [some (.ref 160), some (.int p1), some (.int p2), some (.int x4), some (.int x4)]) dX12_fewest_82 (by decide) rfl rfl ?_
        refine z_aload_n dX12_fewest_83 rfl ?_
        refine z_iconst (v := 3) dX12_fewest_84 (by decide) ?_
        refine z_callV (As := [.int 3]) (st := []) dX12_fewest_85 zl_X12_431 zv_X12_bring (by decide) rfl zn_160 zo_160 rfl rfl (Nat.le_of_ble_eq_true rfl) ⟨Nat.le_refl _, Nat.le_refl _⟩ ⟨Nat.le_refl _, Nat.le_refl _⟩ hv (fun v1 I30 L31 P32 nx1 q33 => ?_)
        obtain ⟨rfl, rfl, hv⟩ := q33
        refine z_iinc (v2 := x4 + 1) (lv2 := [some (.ref 160), some (.int p1), some (.int p2), some (.int x4), some (.int (x4 + 1))]) dX12_fewest_88 rfl (by rfl) (by decide) rfl rfl ?_
        refine z_goto (tgt := 34) dX12_fewest_91 (by decide) ?_
        exact hv
    · have hv := hv.2 q63
      refine z_iload dX12_fewest_54 rfl ?_
      refine z_callS (As := [.int x4]) (st := []) dX12_fewest_56 zl_X12_384 zs_X12_bitsOf rfl rfl (Nat.le_of_ble_eq_true rfl) ⟨Nat.le_refl _, Nat.le_refl _⟩ ⟨Nat.le_refl _, Nat.le_refl _⟩ hv (fun v1 I36 L37 P38 nx1 q39 => ?_)
      obtain ⟨rfl, r40, rfl, hv⟩ := q39
      refine z_iload_n dX12_fewest_59 rfl ?_
      refine z_callS (As := [.int x3]) (st := [.int r40]) dX12_fewest_60 zl_X12_384 zs_X12_bitsOf rfl rfl (Nat.le_of_ble_eq_true rfl) ⟨Nat.le_refl _, Nat.le_refl _⟩ ⟨Nat.le_refl _, Nat.le_refl _⟩ hv (fun v1 I41 L42 P43 nx1 q44 => ?_)
      obtain ⟨rfl, r45, rfl, hv⟩ := q44
      refine z_icmp_lt (tgt := 69) dX12_fewest_63 (by decide) (fun q62 => ?_) (fun q62 => ?_)
      · have hv := hv.1 q62
        refine z_aload_n dX12_fewest_69 rfl ?_
        refine z_iload dX12_fewest_70 rfl ?_
        refine z_iload_n dX12_fewest_72 rfl ?_
        refine z_callV (As := [.int x4, .int p2]) (st := []) dX12_fewest_73 zl_X12_434 zv_X12_goBy (by decide) rfl zn_160 zo_160 rfl rfl (Nat.le_of_ble_eq_true rfl) ⟨Nat.le_refl _, Nat.le_refl _⟩ ⟨Nat.le_refl _, Nat.le_refl _⟩ hv (fun v1 I46 L47 P48 nx1 q49 => ?_)
        obtain ⟨rfl, r50, rfl, hv⟩ := q49
        refine z_iload_n dX12_fewest_76 rfl ?_
        refine z_icmp_ne (tgt := 83) dX12_fewest_77 (by decide) (fun q61 => ?_) (fun q61 => ?_)
        · have hv := hv.1 q61
          refine z_aload_n dX12_fewest_83 rfl ?_
          refine z_iconst (v := 3) dX12_fewest_84 (by decide) ?_
          refine z_callV (As := [.int 3]) (st := []) dX12_fewest_85 zl_X12_431 zv_X12_bring (by decide) rfl zn_160 zo_160 rfl rfl (Nat.le_of_ble_eq_true rfl) ⟨Nat.le_refl _, Nat.le_refl _⟩ ⟨Nat.le_refl _, Nat.le_refl _⟩ hv (fun v1 I51 L52 P53 nx1 q54 => ?_)
          obtain ⟨rfl, rfl, hv⟩ := q54
          refine z_iinc (v2 := x4 + 1) (lv2 := [some (.ref 160), some (.int p1), some (.int p2), some (.int x3), some (.int (x4 + 1))]) dX12_fewest_88 rfl (by rfl) (by decide) rfl rfl ?_
          refine z_goto (tgt := 34) dX12_fewest_91 (by decide) ?_
          exact hv
        · have hv := hv.2 q61
          refine z_iload dX12_fewest_80 rfl ?_
          refine z_istore_n (lv2 := [some (.ref 160), some (.int p1), some (.int p2), some (.int x4), some (.int x4)]) dX12_fewest_82 (by decide) rfl rfl ?_
          refine z_aload_n dX12_fewest_83 rfl ?_
          refine z_iconst (v := 3) dX12_fewest_84 (by decide) ?_
          refine z_callV (As := [.int 3]) (st := []) dX12_fewest_85 zl_X12_431 zv_X12_bring (by decide) rfl zn_160 zo_160 rfl rfl (Nat.le_of_ble_eq_true rfl) ⟨Nat.le_refl _, Nat.le_refl _⟩ ⟨Nat.le_refl _, Nat.le_refl _⟩ hv (fun v1 I56 L57 P58 nx1 q59 => ?_)
          obtain ⟨rfl, rfl, hv⟩ := q59
          refine z_iinc (v2 := x4 + 1) (lv2 := [some (.ref 160), some (.int p1), some (.int p2), some (.int x4), some (.int (x4 + 1))]) dX12_fewest_88 rfl (by rfl) (by decide) rfl rfl ?_
          refine z_goto (tgt := 34) dX12_fewest_91 (by decide) ?_
          exact hv
      · have hv := hv.2 q62
        refine z_goto (tgt := 88) dX12_fewest_66 (by decide) ?_
        refine z_iinc (v2 := x4 + 1) (lv2 := [some (.ref 160), some (.int p1), some (.int p2), some (.int x3), some (.int (x4 + 1))]) dX12_fewest_88 rfl (by rfl) (by decide) rfl rfl ?_
        refine z_goto (tgt := 34) dX12_fewest_91 (by decide) ?_
        exact hv
def v_X12_fewest (d : Nat) (Q : zQt) (p1 : Int32) (p2 : Int32) (I : zI) (L : zL) (P : zP) : Prop :=
  ((p1 < 0 →
    Q (some (.int (-1))) I L P 205
  ) ∧ (¬ p1 < 0 →
    zMi zm_X12_worldMany d [.ref 160] I L P (fun r5 I1 L2 P3 =>
      ((r5 ≤ p1 →
        Q (some (.int (-1))) I1 L2 P3 205
      ) ∧ (¬ r5 ≤ p1 →
        zMi zm_X12_isIn d [.int p2, .int 1, .int 12] I1 L2 P3 (fun r10 I6 L7 P8 =>
          ((¬ r10 = 0 →
            zMv zm_X12_keep d [.ref 160, .int 3] I6 L7 P8 (fun I11 L12 P13 =>
              gw_X12_fewest (d + 1) Q 34 [some (.ref 160), some (.int p1), some (.int p2), some (.int (-1)), some (.int 0)] [] I11 L12 P13
            )
          ) ∧ (r10 = 0 →
            Q (some (.int (-1))) I6 L7 P8 205
          ))
        )
      ))
    )
  ))
set_option maxRecDepth 20000 in
theorem g_X12_fewest {d : Nat} {Q : zQt} {p1 : Int32} {p2 : Int32} {I : zI} {L : zL} {P : zP} (hP : zPk P) (hv : v_X12_fewest d Q p1 p2 I L P) : zM zm_X12_fewest (d + 1) 0 0 [.ref 160, .int p1, .int p2] I L P 205 Q := by
  unfold v_X12_fewest at hv
  refine zM_of (lv0 := [some (.ref 160), some (.int p1), some (.int p2), none, none]) (by decide +kernel) (Nat.le_of_ble_eq_true rfl) rfl ?_
  refine z_iload_n dX12_fewest_0 rfl ?_
  refine z_if_lt (tgt := 22) dX12_fewest_1 (by decide) (fun q18 => ?_) (fun q18 => ?_)
  · have hv := hv.1 q18
    refine z_iconst (v := (-1)) dX12_fewest_22 (by decide) ?_
    exact z_ireturn dX12_fewest_23 rfl rfl (Nat.le_refl _) (Nat.le_refl _) hv
  · have hv := hv.2 q18
    refine z_iload_n dX12_fewest_4 rfl ?_
    refine z_aload_n dX12_fewest_5 rfl ?_
    refine z_callV (As := []) (st := [.int p1]) dX12_fewest_6 zl_X12_346 zv_X12_worldMany (by decide) rfl zn_160 zo_160 rfl rfl (Nat.le_of_ble_eq_true rfl) ⟨Nat.le_refl _, Nat.le_refl _⟩ ⟨Nat.le_refl _, Nat.le_refl _⟩ hv (fun v1 I1 L2 P3 nx1 q4 => ?_)
    obtain ⟨rfl, r5, rfl, hv⟩ := q4
    refine z_icmp_ge (tgt := 22) dX12_fewest_9 (by decide) (fun q17 => ?_) (fun q17 => ?_)
    · have hv := hv.1 q17
      refine z_iconst (v := (-1)) dX12_fewest_22 (by decide) ?_
      exact z_ireturn dX12_fewest_23 rfl rfl (Nat.le_refl _) (Nat.le_refl _) hv
    · have hv := hv.2 q17
      refine z_iload_n dX12_fewest_12 rfl ?_
      refine z_iconst (v := 1) dX12_fewest_13 (by decide) ?_
      refine z_bipush (v := 12) dX12_fewest_14 (by decide) ?_
      refine z_callS (As := [.int p2, .int 1, .int 12]) (st := []) dX12_fewest_16 zl_X12_342 zs_X12_isIn rfl rfl (Nat.le_of_ble_eq_true rfl) ⟨Nat.le_refl _, Nat.le_refl _⟩ ⟨Nat.le_refl _, Nat.le_refl _⟩ hv (fun v1 I6 L7 P8 nx1 q9 => ?_)
      obtain ⟨rfl, r10, rfl, hv⟩ := q9
      refine z_if_ne (tgt := 24) dX12_fewest_19 (by decide) (fun q16 => ?_) (fun q16 => ?_)
      · have hv := hv.1 q16
        refine z_iconst (v := (-1)) dX12_fewest_24 (by decide) ?_
        refine z_istore_n (lv2 := [some (.ref 160), some (.int p1), some (.int p2), some (.int (-1)), none]) dX12_fewest_25 (by decide) rfl rfl ?_
        refine z_aload_n dX12_fewest_26 rfl ?_
        refine z_iconst (v := 3) dX12_fewest_27 (by decide) ?_
        refine z_callV (As := [.int 3]) (st := []) dX12_fewest_28 zl_X12_428 zv_X12_keep (by decide) rfl zn_160 zo_160 rfl rfl (Nat.le_of_ble_eq_true rfl) ⟨Nat.le_refl _, Nat.le_refl _⟩ ⟨Nat.le_refl _, Nat.le_refl _⟩ hv (fun v1 I11 L12 P13 nx1 q14 => ?_)
        obtain ⟨rfl, rfl, hv⟩ := q14
        refine z_iconst (v := 0) dX12_fewest_31 (by decide) ?_
        refine z_istore (lv2 := [some (.ref 160), some (.int p1), some (.int p2), some (.int (-1)), some (.int 0)]) dX12_fewest_32 (by decide) rfl rfl ?_
        exact hv
      · have hv := hv.2 q16
        refine z_iconst (v := (-1)) dX12_fewest_22 (by decide) ?_
        exact z_ireturn dX12_fewest_23 rfl rfl (Nat.le_refl _) (Nat.le_refl _) hv
abbrev gw_X12_goBy (d : Nat) (Q : zQt) (pc : Nat) (lv : zV) (st : List Value) (I : zI) (L : zL) (P : zP) : Prop := zW zm_X12_goBy (zRm d 0 0) 0 0 Q pc lv st I L P 205 0 0
def v_X12_goBy_45 (d : Nat) (Q : zQt) (p2 : Int32) (x3 : Int32) (x4 : Int32) (I : zI) (L : zL) (P : zP) : Prop :=
  ((p2 ≤ x4 →
    Q (some (.int x3)) I L P 205
  ) ∧ (¬ p2 ≤ x4 →
    zMi zm_X12_oneNight d [.ref 160] I L P (fun r14 I10 L11 P12 =>
      gw_X12_goBy (d + 1) Q 45 [some (.ref 160), none, some (.int p2), some (.int (x3 ||| r14 : Int32)), some (.int (x4 + 1))] [] I10 L11 P12
    )
  ))
set_option maxRecDepth 20000 in
theorem g_X12_goBy_45 {d : Nat} {Q : zQt} {p2 : Int32} {x3 : Int32} {x4 : Int32} {I : zI} {L : zL} {P : zP} (hP : zPk P) (hv : v_X12_goBy_45 d Q p2 x3 x4 I L P) : gw_X12_goBy (d + 1) Q 45 [some (.ref 160), none, some (.int p2), some (.int x3), some (.int x4)] [] I L P := by
  unfold v_X12_goBy_45 at hv
  refine z_iload dX12_goBy_45 rfl ?_
  refine z_iload_n dX12_goBy_47 rfl ?_
  refine z_icmp_ge (tgt := 64) dX12_goBy_48 (by decide) (fun q15 => ?_) (fun q15 => ?_)
  · have hv := hv.1 q15
    refine z_iload_n dX12_goBy_64 rfl ?_
    exact z_ireturn dX12_goBy_65 rfl rfl (Nat.le_refl _) (Nat.le_refl _) hv
  · have hv := hv.2 q15
    refine z_iload_n dX12_goBy_51 rfl ?_
    refine z_aload_n dX12_goBy_52 rfl ?_
    refine z_callV (As := []) (st := [.int x3]) dX12_goBy_53 zl_X12_425 zv_X12_oneNight (by decide) rfl zn_160 zo_160 rfl rfl (Nat.le_of_ble_eq_true rfl) ⟨Nat.le_refl _, Nat.le_refl _⟩ ⟨Nat.le_refl _, Nat.le_refl _⟩ hv (fun v1 I10 L11 P12 nx1 q13 => ?_)
    obtain ⟨rfl, r14, rfl, hv⟩ := q13
    refine z_ior dX12_goBy_56 ?_
    refine z_istore_n (lv2 := [some (.ref 160), none, some (.int p2), some (.int (x3 ||| r14 : Int32)), some (.int x4)]) dX12_goBy_57 (by decide) rfl rfl ?_
    refine z_iinc (v2 := x4 + 1) (lv2 := [some (.ref 160), none, some (.int p2), some (.int (x3 ||| r14 : Int32)), some (.int (x4 + 1))]) dX12_goBy_58 rfl (by rfl) (by decide) rfl rfl ?_
    refine z_goto (tgt := 45) dX12_goBy_61 (by decide) ?_
    exact hv
def v_X12_goBy_2 (d : Nat) (Q : zQt) (p1 : Int32) (p2 : Int32) (x3 : Int32) (I : zI) (L : zL) (P : zP) : Prop :=
  vp_in (I 160 28) 2 ∧
  (((I 165 (I 160 28).toNatClampNeg) ≤ x3 →
    gw_X12_goBy (d + 1) Q 45 [some (.ref 160), none, some (.int p2), some (.int 0), some (.int 0)] [] I L P
  ) ∧ (¬ (I 165 (I 160 28).toNatClampNeg) ≤ x3 →
    ((¬ ((p1 >>> (x3 &&& 31) : Int32) &&& 1 : Int32) = 1 →
      gw_X12_goBy (d + 1) Q 2 [some (.ref 160), some (.int p1), some (.int p2), some (.int (x3 + 1)), none] [] I L P
    ) ∧ (((p1 >>> (x3 &&& 31) : Int32) &&& 1 : Int32) = 1 →
      zMi zm_X12_saying d [.ref 160, .int x3] I L P (fun r6 I2 L3 P4 =>
        ((0 ≤ r6 →
          gw_X12_goBy (d + 1) Q 2 [some (.ref 160), some (.int p1), some (.int p2), some (.int (x3 + 1)), none] [] I2 L3 P4
        ) ∧ (¬ 0 ≤ r6 →
          Q (some (.int (-1))) I2 L3 P4 205
        ))
      )
    ))
  ))
set_option maxRecDepth 20000 in
theorem g_X12_goBy_2 {d : Nat} {Q : zQt} {p1 : Int32} {p2 : Int32} {x3 : Int32} {I : zI} {L : zL} {P : zP} (hP : zPk P) (hv : v_X12_goBy_2 d Q p1 p2 x3 I L P) : gw_X12_goBy (d + 1) Q 2 [some (.ref 160), some (.int p1), some (.int p2), some (.int x3), none] [] I L P := by
  unfold v_X12_goBy_2 at hv
  refine z_iload_n dX12_goBy_2 rfl ?_
  refine z_aload_n dX12_goBy_3 rfl ?_
  refine z_getP dX12_goBy_4 zf_X12_27 zn_160 zo_160 (fun _ _ _ _ _ => rfl) (hP 160 13 165 zp_160_13) ?_
  refine z_aload_n dX12_goBy_7 rfl ?_
  refine z_getI dX12_goBy_8 zf_X12_261 zn_160 zo_160 (fun _ _ _ _ _ => rfl) ?_
  obtain ⟨h1, hv⟩ := hv
  refine z_iaload dX12_goBy_11 zn_165 zh_165 h1 ?_
  refine z_icmp_ge (tgt := 40) dX12_goBy_12 (by decide) (fun q9 => ?_) (fun q9 => ?_)
  · have hv := hv.1 q9
    refine z_iconst (v := 0) dX12_goBy_40 (by decide) ?_
    refine z_istore_n (lv2 := [some (.ref 160), some (.int p1), some (.int p2), some (.int 0), none]) dX12_goBy_41 (by decide) rfl rfl ?_
    refine z_iconst (v := 0) dX12_goBy_42 (by decide) ?_
    refine z_istore (lv2 := [some (.ref 160), some (.int p1), some (.int p2), some (.int 0), some (.int 0)]) dX12_goBy_43 (by decide) rfl rfl ?_
    exact z_sub (by exact ⟨rfl, ⟨rfl, ⟨rfl, ⟨rfl, trivial⟩⟩⟩⟩) hv
  · have hv := hv.2 q9
    refine z_iload_n dX12_goBy_15 rfl ?_
    refine z_iload_n dX12_goBy_16 rfl ?_
    refine z_ishr dX12_goBy_17 ?_
    refine z_iconst (v := 1) dX12_goBy_18 (by decide) ?_
    refine z_iand dX12_goBy_19 ?_
    refine z_iconst (v := 1) dX12_goBy_20 (by decide) ?_
    refine z_icmp_ne (tgt := 34) dX12_goBy_21 (by decide) (fun q8 => ?_) (fun q8 => ?_)
    · have hv := hv.1 q8
      refine z_iinc (v2 := x3 + 1) (lv2 := [some (.ref 160), some (.int p1), some (.int p2), some (.int (x3 + 1)), none]) dX12_goBy_34 rfl (by rfl) (by decide) rfl rfl ?_
      refine z_goto (tgt := 2) dX12_goBy_37 (by decide) ?_
      exact hv
    · have hv := hv.2 q8
      refine z_aload_n dX12_goBy_24 rfl ?_
      refine z_iload_n dX12_goBy_25 rfl ?_
      refine z_callV (As := [.int x3]) (st := []) dX12_goBy_26 zl_X12_438 zv_X12_saying (by decide) rfl zn_160 zo_160 rfl rfl (Nat.le_of_ble_eq_true rfl) ⟨Nat.le_refl _, Nat.le_refl _⟩ ⟨Nat.le_refl _, Nat.le_refl _⟩ hv (fun v1 I2 L3 P4 nx1 q5 => ?_)
      obtain ⟨rfl, r6, rfl, hv⟩ := q5
      refine z_if_ge (tgt := 34) dX12_goBy_29 (by decide) (fun q7 => ?_) (fun q7 => ?_)
      · have hv := hv.1 q7
        refine z_iinc (v2 := x3 + 1) (lv2 := [some (.ref 160), some (.int p1), some (.int p2), some (.int (x3 + 1)), none]) dX12_goBy_34 rfl (by rfl) (by decide) rfl rfl ?_
        refine z_goto (tgt := 2) dX12_goBy_37 (by decide) ?_
        exact hv
      · have hv := hv.2 q7
        refine z_iconst (v := (-1)) dX12_goBy_32 (by decide) ?_
        exact z_ireturn dX12_goBy_33 rfl rfl (Nat.le_refl _) (Nat.le_refl _) hv
def v_X12_goBy (d : Nat) (Q : zQt) (p1 : Int32) (p2 : Int32) (I : zI) (L : zL) (P : zP) : Prop :=
  gw_X12_goBy (d + 1) Q 2 [some (.ref 160), some (.int p1), some (.int p2), some (.int 0), none] [] I L P
set_option maxRecDepth 20000 in
theorem g_X12_goBy {d : Nat} {Q : zQt} {p1 : Int32} {p2 : Int32} {I : zI} {L : zL} {P : zP} (hP : zPk P) (hv : v_X12_goBy d Q p1 p2 I L P) : zM zm_X12_goBy (d + 1) 0 0 [.ref 160, .int p1, .int p2] I L P 205 Q := by
  unfold v_X12_goBy at hv
  refine zM_of (lv0 := [some (.ref 160), some (.int p1), some (.int p2), none, none]) (by decide +kernel) (Nat.le_of_ble_eq_true rfl) rfl ?_
  refine z_iconst (v := 0) dX12_goBy_0 (by decide) ?_
  refine z_istore_n (lv2 := [some (.ref 160), some (.int p1), some (.int p2), some (.int 0), none]) dX12_goBy_1 (by decide) rfl rfl ?_
  exact hv
abbrev gw_X12_sight (d : Nat) (Q : zQt) (pc : Nat) (lv : zV) (st : List Value) (I : zI) (L : zL) (P : zP) : Prop := zW zm_X12_sight (zRm d 0 0) 0 0 Q pc lv st I L P 205 0 0
def v_X12_sight (d : Nat) (Q : zQt) (p1 : Int32) (p2 : Int32) (p3 : Int32) (I : zI) (L : zL) (P : zP) : Prop :=
  zMi zm_X12_isOne d [.ref 160, .int p1] I L P (fun r5 I1 L2 P3 =>
    ((r5 = 0 →
      Q (some (.int (-1))) I1 L2 P3 205
    ) ∧ (¬ r5 = 0 →
      zMi zm_X12_isIn d [.int p2, .int 1, .int 12] I1 L2 P3 (fun r10 I6 L7 P8 =>
        ((r10 = 0 →
          Q (some (.int (-1))) I6 L7 P8 205
        ) ∧ (¬ r10 = 0 →
          ((¬ (I6 160 59) = 20 →
            zPk P8 ∧
            vp_in (I6 160 59) 20 ∧
            ∀ I14 : zI, I14 = zuI I6 189 (I6 160 59).toNatClampNeg p1 →
            vp_in (I14 160 59) 20 ∧
            ∀ I17 : zI, I17 = zuI I14 190 (I14 160 59).toNatClampNeg p2 →
            vp_in (I17 160 59) 20 ∧
            (p3 = 0 ∨ p3 = 1) ∧
            ∀ I20 : zI, I20 = zuI I17 197 (I17 160 59).toNatClampNeg p3 →
            vp_in (I20 160 59) 20 ∧
            ∀ I24 : zI, I24 = zuI I20 191 (I20 160 59).toNatClampNeg (I20 160 60) →
            vp_in (I24 160 59) 20 ∧
            ∀ I27 : zI, I27 = zuI I24 192 (I24 160 59).toNatClampNeg (-1) →
            ∀ I28 : zI, I28 = zuI I27 160 59 ((I27 160 59) + 1) →
            Q (some (.int ((I28 160 59) - 1))) I28 L7 P8 205
          ) ∧ ((I6 160 59) = 20 →
            Q (some (.int (-1))) I6 L7 P8 205
          ))
        ))
      )
    ))
  )
set_option maxRecDepth 20000 in
theorem g_X12_sight {d : Nat} {Q : zQt} {p1 : Int32} {p2 : Int32} {p3 : Int32} {I : zI} {L : zL} {P : zP} (hP : zPk P) (hv : v_X12_sight d Q p1 p2 p3 I L P) : zM zm_X12_sight (d + 1) 0 0 [.ref 160, .int p1, .int p2, .int p3] I L P 205 Q := by
  unfold v_X12_sight at hv
  refine zM_of (lv0 := [some (.ref 160), some (.int p1), some (.int p2), some (.int p3)]) (by decide +kernel) (Nat.le_of_ble_eq_true rfl) rfl ?_
  refine z_aload_n dX12_sight_0 rfl ?_
  refine z_iload_n dX12_sight_1 rfl ?_
  refine z_callV (As := [.int p1]) (st := []) dX12_sight_2 zl_X12_365 zv_X12_isOne (by decide) rfl zn_160 zo_160 rfl rfl (Nat.le_of_ble_eq_true rfl) ⟨Nat.le_refl _, Nat.le_refl _⟩ ⟨Nat.le_refl _, Nat.le_refl _⟩ hv (fun v1 I1 L2 P3 nx1 q4 => ?_)
  obtain ⟨rfl, r5, rfl, hv⟩ := q4
  refine z_if_eq (tgt := 27) dX12_sight_5 (by decide) (fun q32 => ?_) (fun q32 => ?_)
  · have hv := hv.1 q32
    refine z_iconst (v := (-1)) dX12_sight_27 (by decide) ?_
    exact z_ireturn dX12_sight_28 rfl rfl (Nat.le_refl _) (Nat.le_refl _) hv
  · have hv := hv.2 q32
    refine z_iload_n dX12_sight_8 rfl ?_
    refine z_iconst (v := 1) dX12_sight_9 (by decide) ?_
    refine z_bipush (v := 12) dX12_sight_10 (by decide) ?_
    refine z_callS (As := [.int p2, .int 1, .int 12]) (st := []) dX12_sight_12 zl_X12_342 zs_X12_isIn rfl rfl (Nat.le_of_ble_eq_true rfl) ⟨Nat.le_refl _, Nat.le_refl _⟩ ⟨Nat.le_refl _, Nat.le_refl _⟩ hv (fun v1 I6 L7 P8 nx1 q9 => ?_)
    obtain ⟨rfl, r10, rfl, hv⟩ := q9
    refine z_if_eq (tgt := 27) dX12_sight_15 (by decide) (fun q31 => ?_) (fun q31 => ?_)
    · have hv := hv.1 q31
      refine z_iconst (v := (-1)) dX12_sight_27 (by decide) ?_
      exact z_ireturn dX12_sight_28 rfl rfl (Nat.le_refl _) (Nat.le_refl _) hv
    · have hv := hv.2 q31
      refine z_aload_n dX12_sight_18 rfl ?_
      refine z_getI dX12_sight_19 zf_X12_267 zn_160 zo_160 (fun _ _ _ _ _ => rfl) ?_
      refine z_bipush (v := 20) dX12_sight_22 (by decide) ?_
      refine z_icmp_ne (tgt := 29) dX12_sight_24 (by decide) (fun q30 => ?_) (fun q30 => ?_)
      · have hv := hv.1 q30
        refine z_aload_n dX12_sight_29 rfl ?_
        obtain ⟨h11, hv⟩ := hv
        refine z_getP dX12_sight_30 zf_X12_101 zn_160 zo_160 (fun _ _ _ _ _ => rfl) (h11 160 49 189 zp_160_49) ?_
        refine z_aload_n dX12_sight_33 rfl ?_
        refine z_getI dX12_sight_34 zf_X12_267 zn_160 zo_160 (fun _ _ _ _ _ => rfl) ?_
        refine z_iload_n dX12_sight_37 rfl ?_
        obtain ⟨h12, hv⟩ := hv
        refine z_iastore dX12_sight_38 zn_189 zh_189 h12 (z_nmI (fun I14 e13 => ?_))
        have hv := hv I14 e13
        refine z_aload_n dX12_sight_39 rfl ?_
        refine z_getP dX12_sight_40 zf_X12_104 zn_160 zo_160 (fun _ _ _ _ _ => rfl) (h11 160 50 190 zp_160_50) ?_
        refine z_aload_n dX12_sight_43 rfl ?_
        refine z_getI dX12_sight_44 zf_X12_267 zn_160 zo_160 (fun _ _ _ _ _ => rfl) ?_
        refine z_iload_n dX12_sight_47 rfl ?_
        obtain ⟨h15, hv⟩ := hv
        refine z_iastore dX12_sight_48 zn_190 zh_190 h15 (z_nmI (fun I17 e16 => ?_))
        have hv := hv I17 e16
        refine z_aload_n dX12_sight_49 rfl ?_
        refine z_getP dX12_sight_50 zf_X12_125 zn_160 zo_160 (fun _ _ _ _ _ => rfl) (h11 160 57 197 zp_160_57) ?_
        refine z_aload_n dX12_sight_53 rfl ?_
        refine z_getI dX12_sight_54 zf_X12_267 zn_160 zo_160 (fun _ _ _ _ _ => rfl) ?_
        refine z_iload_n dX12_sight_57 rfl ?_
        obtain ⟨h18, hv⟩ := hv
        obtain ⟨h21, hv⟩ := hv
        refine z_zastore dX12_sight_58 zn_197 zh_197 h18 (zbn h21) (z_nmI (fun I20 e19 => ?_))
        have hv := hv I20 e19
        refine z_aload_n dX12_sight_59 rfl ?_
        refine z_getP dX12_sight_60 zf_X12_107 zn_160 zo_160 (fun _ _ _ _ _ => rfl) (h11 160 51 191 zp_160_51) ?_
        refine z_aload_n dX12_sight_63 rfl ?_
        refine z_getI dX12_sight_64 zf_X12_267 zn_160 zo_160 (fun _ _ _ _ _ => rfl) ?_
        refine z_aload_n dX12_sight_67 rfl ?_
        refine z_getI dX12_sight_68 zf_X12_441 zn_160 zo_160 (fun _ _ _ _ _ => rfl) ?_
        obtain ⟨h22, hv⟩ := hv
        refine z_iastore dX12_sight_71 zn_191 zh_191 h22 (z_nmI (fun I24 e23 => ?_))
        have hv := hv I24 e23
        refine z_aload_n dX12_sight_72 rfl ?_
        refine z_getP dX12_sight_73 zf_X12_110 zn_160 zo_160 (fun _ _ _ _ _ => rfl) (h11 160 52 192 zp_160_52) ?_
        refine z_aload_n dX12_sight_76 rfl ?_
        refine z_getI dX12_sight_77 zf_X12_267 zn_160 zo_160 (fun _ _ _ _ _ => rfl) ?_
        refine z_iconst (v := (-1)) dX12_sight_80 (by decide) ?_
        obtain ⟨h25, hv⟩ := hv
        refine z_iastore dX12_sight_81 zn_192 zh_192 h25 (z_nmI (fun I27 e26 => ?_))
        have hv := hv I27 e26
        refine z_aload_n dX12_sight_82 rfl ?_
        refine z_dup dX12_sight_83 rfl ?_
        refine z_getI dX12_sight_84 zf_X12_267 zn_160 zo_160 (fun _ _ _ _ _ => rfl) ?_
        refine z_iconst (v := 1) dX12_sight_87 (by decide) ?_
        refine z_iadd dX12_sight_88 ?_
        refine z_putI dX12_sight_89 zf_X12_267 zn_160 zo_160 (Or.inl rfl) (fun _ _ _ _ _ => rfl) rfl rfl (z_nmI (fun I28 e29 => ?_))
        have hv := hv I28 e29
        refine z_aload_n dX12_sight_92 rfl ?_
        refine z_getI dX12_sight_93 zf_X12_267 zn_160 zo_160 (fun _ _ _ _ _ => rfl) ?_
        refine z_iconst (v := 1) dX12_sight_96 (by decide) ?_
        refine z_isub dX12_sight_97 ?_
        exact z_ireturn dX12_sight_98 rfl rfl (Nat.le_refl _) (Nat.le_refl _) hv
      · have hv := hv.2 q30
        refine z_iconst (v := (-1)) dX12_sight_27 (by decide) ?_
        exact z_ireturn dX12_sight_28 rfl rfl (Nat.le_refl _) (Nat.le_refl _) hv
abbrev gw_X12_untell (d : Nat) (Q : zQt) (pc : Nat) (lv : zV) (st : List Value) (I : zI) (L : zL) (P : zP) : Prop := zW zm_X12_untell (zRm d 0 0) 0 0 Q pc lv st I L P 205 0 0
def v_X12_untell (d : Nat) (Q : zQt) (p1 : Int32) (I : zI) (L : zL) (P : zP) : Prop :=
  zMi zm_X12_isIn d [.int p1, .int 0, .int ((I 160 59) - 1)] I L P (fun r5 I1 L2 P3 =>
    ((r5 = 0 →
      Q (some (.int 0)) I1 L2 P3 205
    ) ∧ (¬ r5 = 0 →
      zPk P3 ∧
      vp_in p1 20 ∧
      (((I1 192 p1.toNatClampNeg) < 0 →
        ∀ I9 : zI, I9 = zuI I1 192 p1.toNatClampNeg (I1 160 60) →
        Q (some (.int 1)) I9 L2 P3 205
      ) ∧ (¬ (I1 192 p1.toNatClampNeg) < 0 →
        Q (some (.int 0)) I1 L2 P3 205
      ))
    ))
  )
set_option maxRecDepth 20000 in
theorem g_X12_untell {d : Nat} {Q : zQt} {p1 : Int32} {I : zI} {L : zL} {P : zP} (hP : zPk P) (hv : v_X12_untell d Q p1 I L P) : zM zm_X12_untell (d + 1) 0 0 [.ref 160, .int p1] I L P 205 Q := by
  unfold v_X12_untell at hv
  refine zM_of (lv0 := [some (.ref 160), some (.int p1)]) (by decide +kernel) (Nat.le_of_ble_eq_true rfl) rfl ?_
  refine z_iload_n dX12_untell_0 rfl ?_
  refine z_iconst (v := 0) dX12_untell_1 (by decide) ?_
  refine z_aload_n dX12_untell_2 rfl ?_
  refine z_getI dX12_untell_3 zf_X12_267 zn_160 zo_160 (fun _ _ _ _ _ => rfl) ?_
  refine z_iconst (v := 1) dX12_untell_6 (by decide) ?_
  refine z_isub dX12_untell_7 ?_
  refine z_callS (As := [.int p1, .int 0, .int ((I 160 59) - 1)]) (st := []) dX12_untell_8 zl_X12_342 zs_X12_isIn rfl rfl (Nat.le_of_ble_eq_true rfl) ⟨Nat.le_refl _, Nat.le_refl _⟩ ⟨Nat.le_refl _, Nat.le_refl _⟩ hv (fun v1 I1 L2 P3 nx1 q4 => ?_)
  obtain ⟨rfl, r5, rfl, hv⟩ := q4
  refine z_if_eq (tgt := 23) dX12_untell_11 (by decide) (fun q11 => ?_) (fun q11 => ?_)
  · have hv := hv.1 q11
    refine z_iconst (v := 0) dX12_untell_23 (by decide) ?_
    exact z_ireturn dX12_untell_24 rfl (by decide) (Nat.le_refl _) (Nat.le_refl _) hv
  · have hv := hv.2 q11
    refine z_aload_n dX12_untell_14 rfl ?_
    obtain ⟨h6, hv⟩ := hv
    refine z_getP dX12_untell_15 zf_X12_110 zn_160 zo_160 (fun _ _ _ _ _ => rfl) (h6 160 52 192 zp_160_52) ?_
    refine z_iload_n dX12_untell_18 rfl ?_
    obtain ⟨h7, hv⟩ := hv
    refine z_iaload dX12_untell_19 zn_192 zh_192 h7 ?_
    refine z_if_lt (tgt := 25) dX12_untell_20 (by decide) (fun q10 => ?_) (fun q10 => ?_)
    · have hv := hv.1 q10
      refine z_aload_n dX12_untell_25 rfl ?_
      refine z_getP dX12_untell_26 zf_X12_110 zn_160 zo_160 (fun _ _ _ _ _ => rfl) (h6 160 52 192 zp_160_52) ?_
      refine z_iload_n dX12_untell_29 rfl ?_
      refine z_aload_n dX12_untell_30 rfl ?_
      refine z_getI dX12_untell_31 zf_X12_441 zn_160 zo_160 (fun _ _ _ _ _ => rfl) ?_
      refine z_iastore dX12_untell_34 zn_192 zh_192 h7 (z_nmI (fun I9 e8 => ?_))
      have hv := hv I9 e8
      refine z_iconst (v := 1) dX12_untell_35 (by decide) ?_
      exact z_ireturn dX12_untell_36 rfl (by decide) (Nat.le_refl _) (Nat.le_refl _) hv
    · have hv := hv.2 q10
      refine z_iconst (v := 0) dX12_untell_23 (by decide) ?_
      exact z_ireturn dX12_untell_24 rfl (by decide) (Nat.le_refl _) (Nat.le_refl _) hv
abbrev gw_X12_later (d : Nat) (Q : zQt) (pc : Nat) (lv : zV) (st : List Value) (I : zI) (L : zL) (P : zP) : Prop := zW zm_X12_later (zRm d 0 0) 0 0 Q pc lv st I L P 205 0 0
def v_X12_later (d : Nat) (Q : zQt) (p1 : Int32) (I : zI) (L : zL) (P : zP) : Prop :=
  zMi zm_X12_isIn d [.int p1, .int 0, .int 1000] I L P (fun r5 I1 L2 P3 =>
    ((r5 = 0 →
      Q (some (.int (-1))) I1 L2 P3 205
    ) ∧ (¬ r5 = 0 →
      ((((I1 160 60) + p1) ≤ 100000 →
        ∀ I6 : zI, I6 = zuI I1 160 60 ((I1 160 60) + p1) →
        Q (some (.int (I6 160 60))) I6 L2 P3 205
      ) ∧ (¬ ((I1 160 60) + p1) ≤ 100000 →
        Q (some (.int (-1))) I1 L2 P3 205
      ))
    ))
  )
set_option maxRecDepth 20000 in
theorem g_X12_later {d : Nat} {Q : zQt} {p1 : Int32} {I : zI} {L : zL} {P : zP} (hP : zPk P) (hv : v_X12_later d Q p1 I L P) : zM zm_X12_later (d + 1) 0 0 [.ref 160, .int p1] I L P 205 Q := by
  unfold v_X12_later at hv
  refine zM_of (lv0 := [some (.ref 160), some (.int p1)]) (by decide +kernel) (Nat.le_of_ble_eq_true rfl) rfl ?_
  refine z_iload_n dX12_later_0 rfl ?_
  refine z_iconst (v := 0) dX12_later_1 (by decide) ?_
  refine z_sipush (v := 1000) dX12_later_2 (by decide) ?_
  refine z_callS (As := [.int p1, .int 0, .int 1000]) (st := []) dX12_later_5 zl_X12_342 zs_X12_isIn rfl rfl (Nat.le_of_ble_eq_true rfl) ⟨Nat.le_refl _, Nat.le_refl _⟩ ⟨Nat.le_refl _, Nat.le_refl _⟩ hv (fun v1 I1 L2 P3 nx1 q4 => ?_)
  obtain ⟨rfl, r5, rfl, hv⟩ := q4
  refine z_if_eq (tgt := 23) dX12_later_8 (by decide) (fun q9 => ?_) (fun q9 => ?_)
  · have hv := hv.1 q9
    refine z_iconst (v := (-1)) dX12_later_23 (by decide) ?_
    exact z_ireturn dX12_later_24 rfl rfl (Nat.le_refl _) (Nat.le_refl _) hv
  · have hv := hv.2 q9
    refine z_aload_n dX12_later_11 rfl ?_
    refine z_getI dX12_later_12 zf_X12_441 zn_160 zo_160 (fun _ _ _ _ _ => rfl) ?_
    refine z_iload_n dX12_later_15 rfl ?_
    refine z_iadd dX12_later_16 ?_
    refine z_ldc_w (v := 100000) dX12_later_17 zi_X12_444 ?_
    refine z_icmp_le (tgt := 25) dX12_later_20 (by decide) (fun q8 => ?_) (fun q8 => ?_)
    · have hv := hv.1 q8
      refine z_aload_n dX12_later_25 rfl ?_
      refine z_dup dX12_later_26 rfl ?_
      refine z_getI dX12_later_27 zf_X12_441 zn_160 zo_160 (fun _ _ _ _ _ => rfl) ?_
      refine z_iload_n dX12_later_30 rfl ?_
      refine z_iadd dX12_later_31 ?_
      refine z_putI dX12_later_32 zf_X12_441 zn_160 zo_160 (Or.inl rfl) (fun _ _ _ _ _ => rfl) rfl rfl (z_nmI (fun I6 e7 => ?_))
      have hv := hv I6 e7
      refine z_aload_n dX12_later_35 rfl ?_
      refine z_getI dX12_later_36 zf_X12_441 zn_160 zo_160 (fun _ _ _ _ _ => rfl) ?_
      exact z_ireturn dX12_later_39 rfl rfl (Nat.le_refl _) (Nat.le_refl _) hv
    · have hv := hv.2 q8
      refine z_iconst (v := (-1)) dX12_later_23 (by decide) ?_
      exact z_ireturn dX12_later_24 rfl rfl (Nat.le_refl _) (Nat.le_refl _) hv
abbrev gw_X12_goesIn (d : Nat) (Q : zQt) (pc : Nat) (lv : zV) (st : List Value) (I : zI) (L : zL) (P : zP) : Prop := zW zm_X12_goesIn (zRm d 0 0) 0 0 Q pc lv st I L P 205 0 0
def v_X12_goesIn_55 (d : Nat) (Q : zQt) (p1 : Int32) (x2 : Int32) (x3 : Int32) (x4 : Int32) (x5 : Int32) (x6 : Int32) (I : zI) (L : zL) (P : zP) : Prop :=
  zMi zm_X12_worldMany d [.ref 160] I L P (fun r16 I12 L13 P14 =>
    ((r16 ≤ x6 →
      ((¬ x4 = 0 →
        gw_X12_goesIn (d + 1) Q 4 [some (.ref 160), some (.int p1), some (.int (x2 ||| ((1 : Int32) <<< (x3 &&& 31) : Int32) : Int32)), some (.int (x3 + 1)), none, none, none] [] I12 L13 P14
      ) ∧ (x4 = 0 →
        ((x5 = 0 →
          gw_X12_goesIn (d + 1) Q 4 [some (.ref 160), some (.int p1), some (.int x2), some (.int (x3 + 1)), none, none, none] [] I12 L13 P14
        ) ∧ (¬ x5 = 0 →
          zPk P14 ∧
          vp_in (I12 160 28) 2 ∧
          (((I12 171 (I12 160 28).toNatClampNeg) = 0 →
            gw_X12_goesIn (d + 1) Q 4 [some (.ref 160), some (.int p1), some (.int x2), some (.int (x3 + 1)), none, none, none] [] I12 L13 P14
          ) ∧ (¬ (I12 171 (I12 160 28).toNatClampNeg) = 0 →
            gw_X12_goesIn (d + 1) Q 4 [some (.ref 160), some (.int p1), some (.int (x2 ||| ((1 : Int32) <<< (x3 &&& 31) : Int32) : Int32)), some (.int (x3 + 1)), none, none, none] [] I12 L13 P14
          ))
        ))
      ))
    ) ∧ (¬ r16 ≤ x6 →
      zPk P14 ∧
      vp_in x6 64 ∧
      vp_in p1 64 ∧
      ((¬ (I12 193 x6.toNatClampNeg) = (I12 193 p1.toNatClampNeg) →
        gw_X12_goesIn (d + 1) Q 55 [some (.ref 160), some (.int p1), some (.int x2), some (.int x3), some (.int x4), some (.int x5), some (.int (x6 + 1))] [] I12 L13 P14
      ) ∧ ((I12 193 x6.toNatClampNeg) = (I12 193 p1.toNatClampNeg) →
        zMi zm_X12_seesOf d [.ref 160, .int x3] I12 L13 P14 (fun r29 I25 L26 P27 =>
          ((((x6 ^^^ p1 : Int32) &&& r29 : Int32) = 0 →
            ((x4 = 0 →
              ((x5 = 0 →
                gw_X12_goesIn (d + 1) Q 55 [some (.ref 160), some (.int p1), some (.int x2), some (.int x3), some (.int 0), some (.int 0), some (.int (x6 + 1))] [] I25 L26 P27
              ) ∧ (¬ x5 = 0 →
                ((¬ ((x6 >>> (x3 &&& 31) : Int32) &&& 1 : Int32) = 0 →
                  gw_X12_goesIn (d + 1) Q 55 [some (.ref 160), some (.int p1), some (.int x2), some (.int x3), some (.int 0), some (.int 0), some (.int (x6 + 1))] [] I25 L26 P27
                ) ∧ (((x6 >>> (x3 &&& 31) : Int32) &&& 1 : Int32) = 0 →
                  gw_X12_goesIn (d + 1) Q 55 [some (.ref 160), some (.int p1), some (.int x2), some (.int x3), some (.int 0), some (.int 1), some (.int (x6 + 1))] [] I25 L26 P27
                ))
              ))
            ) ∧ (¬ x4 = 0 →
              ((¬ ((x6 >>> (x3 &&& 31) : Int32) &&& 1 : Int32) = 1 →
                ((x5 = 0 →
                  gw_X12_goesIn (d + 1) Q 55 [some (.ref 160), some (.int p1), some (.int x2), some (.int x3), some (.int 0), some (.int 0), some (.int (x6 + 1))] [] I25 L26 P27
                ) ∧ (¬ x5 = 0 →
                  ((¬ ((x6 >>> (x3 &&& 31) : Int32) &&& 1 : Int32) = 0 →
                    gw_X12_goesIn (d + 1) Q 55 [some (.ref 160), some (.int p1), some (.int x2), some (.int x3), some (.int 0), some (.int 0), some (.int (x6 + 1))] [] I25 L26 P27
                  ) ∧ (((x6 >>> (x3 &&& 31) : Int32) &&& 1 : Int32) = 0 →
                    gw_X12_goesIn (d + 1) Q 55 [some (.ref 160), some (.int p1), some (.int x2), some (.int x3), some (.int 0), some (.int 1), some (.int (x6 + 1))] [] I25 L26 P27
                  ))
                ))
              ) ∧ (((x6 >>> (x3 &&& 31) : Int32) &&& 1 : Int32) = 1 →
                ((x5 = 0 →
                  gw_X12_goesIn (d + 1) Q 55 [some (.ref 160), some (.int p1), some (.int x2), some (.int x3), some (.int 1), some (.int 0), some (.int (x6 + 1))] [] I25 L26 P27
                ) ∧ (¬ x5 = 0 →
                  ((¬ ((x6 >>> (x3 &&& 31) : Int32) &&& 1 : Int32) = 0 →
                    gw_X12_goesIn (d + 1) Q 55 [some (.ref 160), some (.int p1), some (.int x2), some (.int x3), some (.int 1), some (.int 0), some (.int (x6 + 1))] [] I25 L26 P27
                  ) ∧ (((x6 >>> (x3 &&& 31) : Int32) &&& 1 : Int32) = 0 →
                    gw_X12_goesIn (d + 1) Q 55 [some (.ref 160), some (.int p1), some (.int x2), some (.int x3), some (.int 1), some (.int 1), some (.int (x6 + 1))] [] I25 L26 P27
                  ))
                ))
              ))
            ))
          ) ∧ (¬ ((x6 ^^^ p1 : Int32) &&& r29 : Int32) = 0 →
            gw_X12_goesIn (d + 1) Q 55 [some (.ref 160), some (.int p1), some (.int x2), some (.int x3), some (.int x4), some (.int x5), some (.int (x6 + 1))] [] I25 L26 P27
          ))
        )
      ))
    ))
  )
set_option maxRecDepth 20000 in
theorem g_X12_goesIn_55 {d : Nat} {Q : zQt} {p1 : Int32} {x2 : Int32} {x3 : Int32} {x4 : Int32} {x5 : Int32} {x6 : Int32} {I : zI} {L : zL} {P : zP} (hP : zPk P) (hv : v_X12_goesIn_55 d Q p1 x2 x3 x4 x5 x6 I L P) : gw_X12_goesIn (d + 1) Q 55 [some (.ref 160), some (.int p1), some (.int x2), some (.int x3), some (.int x4), some (.int x5), some (.int x6)] [] I L P := by
  unfold v_X12_goesIn_55 at hv
  refine z_iload dX12_goesIn_55 rfl ?_
  refine z_aload_n dX12_goesIn_57 rfl ?_
  refine z_callV (As := []) (st := [.int x6]) dX12_goesIn_58 zl_X12_346 zv_X12_worldMany (by decide) rfl zn_160 zo_160 rfl rfl (Nat.le_of_ble_eq_true rfl) ⟨Nat.le_refl _, Nat.le_refl _⟩ ⟨Nat.le_refl _, Nat.le_refl _⟩ hv (fun v1 I12 L13 P14 nx1 q15 => ?_)
  obtain ⟨rfl, r16, rfl, hv⟩ := q15
  refine z_icmp_ge (tgt := 145) dX12_goesIn_61 (by decide) (fun q40 => ?_) (fun q40 => ?_)
  · have hv := hv.1 q40
    refine z_iload dX12_goesIn_145 rfl ?_
    refine z_if_ne (tgt := 167) dX12_goesIn_147 (by decide) (fun q21 => ?_) (fun q21 => ?_)
    · have hv := hv.1 q21
      refine z_iload_n dX12_goesIn_167 rfl ?_
      refine z_iconst (v := 1) dX12_goesIn_168 (by decide) ?_
      refine z_iload_n dX12_goesIn_169 rfl ?_
      refine z_ishl dX12_goesIn_170 ?_
      refine z_ior dX12_goesIn_171 ?_
      refine z_istore_n (lv2 := [some (.ref 160), some (.int p1), some (.int (x2 ||| ((1 : Int32) <<< (x3 &&& 31) : Int32) : Int32)), some (.int x3), some (.int x4), some (.int x5), some (.int x6)]) dX12_goesIn_172 (by decide) rfl rfl ?_
      refine z_iinc (v2 := x3 + 1) (lv2 := [some (.ref 160), some (.int p1), some (.int (x2 ||| ((1 : Int32) <<< (x3 &&& 31) : Int32) : Int32)), some (.int (x3 + 1)), some (.int x4), some (.int x5), some (.int x6)]) dX12_goesIn_173 rfl (by rfl) (by decide) rfl rfl ?_
      refine z_goto (tgt := 4) dX12_goesIn_176 (by decide) ?_
      exact z_sub (by exact ⟨rfl, ⟨rfl, ⟨rfl, ⟨rfl, trivial⟩⟩⟩⟩) hv
    · have hv := hv.2 q21
      refine z_iload dX12_goesIn_150 rfl ?_
      refine z_if_eq (tgt := 173) dX12_goesIn_152 (by decide) (fun q20 => ?_) (fun q20 => ?_)
      · have hv := hv.1 q20
        refine z_iinc (v2 := x3 + 1) (lv2 := [some (.ref 160), some (.int p1), some (.int x2), some (.int (x3 + 1)), some (.int x4), some (.int x5), some (.int x6)]) dX12_goesIn_173 rfl (by rfl) (by decide) rfl rfl ?_
        refine z_goto (tgt := 4) dX12_goesIn_176 (by decide) ?_
        exact z_sub (by exact ⟨rfl, ⟨rfl, ⟨rfl, ⟨rfl, trivial⟩⟩⟩⟩) hv
      · have hv := hv.2 q20
        refine z_aload_n dX12_goesIn_155 rfl ?_
        obtain ⟨h17, hv⟩ := hv
        refine z_getP dX12_goesIn_156 zf_X12_45 zn_160 zo_160 (fun _ _ _ _ _ => rfl) (h17 160 19 171 zp_160_19) ?_
        refine z_aload_n dX12_goesIn_159 rfl ?_
        refine z_getI dX12_goesIn_160 zf_X12_261 zn_160 zo_160 (fun _ _ _ _ _ => rfl) ?_
        obtain ⟨h18, hv⟩ := hv
        refine z_zaload dX12_goesIn_163 zn_171 zh_171 h18 ?_
        refine z_if_eq (tgt := 173) dX12_goesIn_164 (by decide) (fun q19 => ?_) (fun q19 => ?_)
        · have hv := hv.1 q19
          refine z_iinc (v2 := x3 + 1) (lv2 := [some (.ref 160), some (.int p1), some (.int x2), some (.int (x3 + 1)), some (.int x4), some (.int x5), some (.int x6)]) dX12_goesIn_173 rfl (by rfl) (by decide) rfl rfl ?_
          refine z_goto (tgt := 4) dX12_goesIn_176 (by decide) ?_
          exact z_sub (by exact ⟨rfl, ⟨rfl, ⟨rfl, ⟨rfl, trivial⟩⟩⟩⟩) hv
        · have hv := hv.2 q19
          refine z_iload_n dX12_goesIn_167 rfl ?_
          refine z_iconst (v := 1) dX12_goesIn_168 (by decide) ?_
          refine z_iload_n dX12_goesIn_169 rfl ?_
          refine z_ishl dX12_goesIn_170 ?_
          refine z_ior dX12_goesIn_171 ?_
          refine z_istore_n (lv2 := [some (.ref 160), some (.int p1), some (.int (x2 ||| ((1 : Int32) <<< (x3 &&& 31) : Int32) : Int32)), some (.int x3), some (.int x4), some (.int x5), some (.int x6)]) dX12_goesIn_172 (by decide) rfl rfl ?_
          refine z_iinc (v2 := x3 + 1) (lv2 := [some (.ref 160), some (.int p1), some (.int (x2 ||| ((1 : Int32) <<< (x3 &&& 31) : Int32) : Int32)), some (.int (x3 + 1)), some (.int x4), some (.int x5), some (.int x6)]) dX12_goesIn_173 rfl (by rfl) (by decide) rfl rfl ?_
          refine z_goto (tgt := 4) dX12_goesIn_176 (by decide) ?_
          exact z_sub (by exact ⟨rfl, ⟨rfl, ⟨rfl, ⟨rfl, trivial⟩⟩⟩⟩) hv
  · have hv := hv.2 q40
    refine z_aload_n dX12_goesIn_64 rfl ?_
    obtain ⟨h22, hv⟩ := hv
    refine z_getP dX12_goesIn_65 zf_X12_113 zn_160 zo_160 (fun _ _ _ _ _ => rfl) (h22 160 53 193 zp_160_53) ?_
    refine z_iload dX12_goesIn_68 rfl ?_
    obtain ⟨h23, hv⟩ := hv
    refine z_iaload dX12_goesIn_70 zn_193 zh_193 h23 ?_
    refine z_aload_n dX12_goesIn_71 rfl ?_
    refine z_getP dX12_goesIn_72 zf_X12_113 zn_160 zo_160 (fun _ _ _ _ _ => rfl) (h22 160 53 193 zp_160_53) ?_
    refine z_iload_n dX12_goesIn_75 rfl ?_
    obtain ⟨h24, hv⟩ := hv
    refine z_iaload dX12_goesIn_76 zn_193 zh_193 h24 ?_
    refine z_icmp_ne (tgt := 139) dX12_goesIn_77 (by decide) (fun q39 => ?_) (fun q39 => ?_)
    · have hv := hv.1 q39
      refine z_iinc (v2 := x6 + 1) (lv2 := [some (.ref 160), some (.int p1), some (.int x2), some (.int x3), some (.int x4), some (.int x5), some (.int (x6 + 1))]) dX12_goesIn_139 rfl (by rfl) (by decide) rfl rfl ?_
      refine z_goto (tgt := 55) dX12_goesIn_142 (by decide) ?_
      exact hv
    · have hv := hv.2 q39
      refine z_iload dX12_goesIn_80 rfl ?_
      refine z_iload_n dX12_goesIn_82 rfl ?_
      refine z_ixor dX12_goesIn_83 ?_
      refine z_aload_n dX12_goesIn_84 rfl ?_
      refine z_iload_n dX12_goesIn_85 rfl ?_
      refine z_callV (As := [.int x3]) (st := [.int (x6 ^^^ p1 : Int32)]) dX12_goesIn_86 zl_X12_362 zv_X12_seesOf (by decide) rfl zn_160 zo_160 rfl rfl (Nat.le_of_ble_eq_true rfl) ⟨Nat.le_refl _, Nat.le_refl _⟩ ⟨Nat.le_refl _, Nat.le_refl _⟩ hv (fun v1 I25 L26 P27 nx1 q28 => ?_)
      obtain ⟨rfl, r29, rfl, hv⟩ := q28
      refine z_iand dX12_goesIn_89 ?_
      refine z_if_eq (tgt := 96) dX12_goesIn_90 (by decide) (fun q38 => ?_) (fun q38 => ?_)
      · have hv := hv.1 q38
        refine z_iload dX12_goesIn_96 rfl ?_
        refine z_if_eq (tgt := 115) dX12_goesIn_98 (by decide) (fun q37 => ?_) (fun q37 => ?_)
        · have hv := hv.1 q37
          refine z_iconst (v := 0) dX12_goesIn_115 (by decide) ?_
          refine z_istore (lv2 := [some (.ref 160), some (.int p1), some (.int x2), some (.int x3), some (.int 0), some (.int x5), some (.int x6)]) dX12_goesIn_116 (by decide) rfl rfl ?_
          refine z_iload dX12_goesIn_118 rfl ?_
          refine z_if_eq (tgt := 136) dX12_goesIn_120 (by decide) (fun q31 => ?_) (fun q31 => ?_)
          · have hv := hv.1 q31
            refine z_iconst (v := 0) dX12_goesIn_136 (by decide) ?_
            refine z_istore (lv2 := [some (.ref 160), some (.int p1), some (.int x2), some (.int x3), some (.int 0), some (.int 0), some (.int x6)]) dX12_goesIn_137 (by decide) rfl rfl ?_
            refine z_iinc (v2 := x6 + 1) (lv2 := [some (.ref 160), some (.int p1), some (.int x2), some (.int x3), some (.int 0), some (.int 0), some (.int (x6 + 1))]) dX12_goesIn_139 rfl (by rfl) (by decide) rfl rfl ?_
            refine z_goto (tgt := 55) dX12_goesIn_142 (by decide) ?_
            exact hv
          · have hv := hv.2 q31
            refine z_iload dX12_goesIn_123 rfl ?_
            refine z_iload_n dX12_goesIn_125 rfl ?_
            refine z_ishr dX12_goesIn_126 ?_
            refine z_iconst (v := 1) dX12_goesIn_127 (by decide) ?_
            refine z_iand dX12_goesIn_128 ?_
            refine z_if_ne (tgt := 136) dX12_goesIn_129 (by decide) (fun q30 => ?_) (fun q30 => ?_)
            · have hv := hv.1 q30
              refine z_iconst (v := 0) dX12_goesIn_136 (by decide) ?_
              refine z_istore (lv2 := [some (.ref 160), some (.int p1), some (.int x2), some (.int x3), some (.int 0), some (.int 0), some (.int x6)]) dX12_goesIn_137 (by decide) rfl rfl ?_
              refine z_iinc (v2 := x6 + 1) (lv2 := [some (.ref 160), some (.int p1), some (.int x2), some (.int x3), some (.int 0), some (.int 0), some (.int (x6 + 1))]) dX12_goesIn_139 rfl (by rfl) (by decide) rfl rfl ?_
              refine z_goto (tgt := 55) dX12_goesIn_142 (by decide) ?_
              exact hv
            · have hv := hv.2 q30
              refine z_iconst (v := 1) dX12_goesIn_132 (by decide) ?_
              refine z_goto (tgt := 137) dX12_goesIn_133 (by decide) ?_
              refine z_istore (lv2 := [some (.ref 160), some (.int p1), some (.int x2), some (.int x3), some (.int 0), some (.int 1), some (.int x6)]) dX12_goesIn_137 (by decide) rfl rfl ?_
              refine z_iinc (v2 := x6 + 1) (lv2 := [some (.ref 160), some (.int p1), some (.int x2), some (.int x3), some (.int 0), some (.int 1), some (.int (x6 + 1))]) dX12_goesIn_139 rfl (by rfl) (by decide) rfl rfl ?_
              refine z_goto (tgt := 55) dX12_goesIn_142 (by decide) ?_
              exact hv
        · have hv := hv.2 q37
          refine z_iload dX12_goesIn_101 rfl ?_
          refine z_iload_n dX12_goesIn_103 rfl ?_
          refine z_ishr dX12_goesIn_104 ?_
          refine z_iconst (v := 1) dX12_goesIn_105 (by decide) ?_
          refine z_iand dX12_goesIn_106 ?_
          refine z_iconst (v := 1) dX12_goesIn_107 (by decide) ?_
          refine z_icmp_ne (tgt := 115) dX12_goesIn_108 (by decide) (fun q36 => ?_) (fun q36 => ?_)
          · have hv := hv.1 q36
            refine z_iconst (v := 0) dX12_goesIn_115 (by decide) ?_
            refine z_istore (lv2 := [some (.ref 160), some (.int p1), some (.int x2), some (.int x3), some (.int 0), some (.int x5), some (.int x6)]) dX12_goesIn_116 (by decide) rfl rfl ?_
            refine z_iload dX12_goesIn_118 rfl ?_
            refine z_if_eq (tgt := 136) dX12_goesIn_120 (by decide) (fun q33 => ?_) (fun q33 => ?_)
            · have hv := hv.1 q33
              refine z_iconst (v := 0) dX12_goesIn_136 (by decide) ?_
              refine z_istore (lv2 := [some (.ref 160), some (.int p1), some (.int x2), some (.int x3), some (.int 0), some (.int 0), some (.int x6)]) dX12_goesIn_137 (by decide) rfl rfl ?_
              refine z_iinc (v2 := x6 + 1) (lv2 := [some (.ref 160), some (.int p1), some (.int x2), some (.int x3), some (.int 0), some (.int 0), some (.int (x6 + 1))]) dX12_goesIn_139 rfl (by rfl) (by decide) rfl rfl ?_
              refine z_goto (tgt := 55) dX12_goesIn_142 (by decide) ?_
              exact hv
            · have hv := hv.2 q33
              refine z_iload dX12_goesIn_123 rfl ?_
              refine z_iload_n dX12_goesIn_125 rfl ?_
              refine z_ishr dX12_goesIn_126 ?_
              refine z_iconst (v := 1) dX12_goesIn_127 (by decide) ?_
              refine z_iand dX12_goesIn_128 ?_
              refine z_if_ne (tgt := 136) dX12_goesIn_129 (by decide) (fun q32 => ?_) (fun q32 => ?_)
              · have hv := hv.1 q32
                refine z_iconst (v := 0) dX12_goesIn_136 (by decide) ?_
                refine z_istore (lv2 := [some (.ref 160), some (.int p1), some (.int x2), some (.int x3), some (.int 0), some (.int 0), some (.int x6)]) dX12_goesIn_137 (by decide) rfl rfl ?_
                refine z_iinc (v2 := x6 + 1) (lv2 := [some (.ref 160), some (.int p1), some (.int x2), some (.int x3), some (.int 0), some (.int 0), some (.int (x6 + 1))]) dX12_goesIn_139 rfl (by rfl) (by decide) rfl rfl ?_
                refine z_goto (tgt := 55) dX12_goesIn_142 (by decide) ?_
                exact hv
              · have hv := hv.2 q32
                refine z_iconst (v := 1) dX12_goesIn_132 (by decide) ?_
                refine z_goto (tgt := 137) dX12_goesIn_133 (by decide) ?_
                refine z_istore (lv2 := [some (.ref 160), some (.int p1), some (.int x2), some (.int x3), some (.int 0), some (.int 1), some (.int x6)]) dX12_goesIn_137 (by decide) rfl rfl ?_
                refine z_iinc (v2 := x6 + 1) (lv2 := [some (.ref 160), some (.int p1), some (.int x2), some (.int x3), some (.int 0), some (.int 1), some (.int (x6 + 1))]) dX12_goesIn_139 rfl (by rfl) (by decide) rfl rfl ?_
                refine z_goto (tgt := 55) dX12_goesIn_142 (by decide) ?_
                exact hv
          · have hv := hv.2 q36
            refine z_iconst (v := 1) dX12_goesIn_111 (by decide) ?_
            refine z_goto (tgt := 116) dX12_goesIn_112 (by decide) ?_
            refine z_istore (lv2 := [some (.ref 160), some (.int p1), some (.int x2), some (.int x3), some (.int 1), some (.int x5), some (.int x6)]) dX12_goesIn_116 (by decide) rfl rfl ?_
            refine z_iload dX12_goesIn_118 rfl ?_
            refine z_if_eq (tgt := 136) dX12_goesIn_120 (by decide) (fun q35 => ?_) (fun q35 => ?_)
            · have hv := hv.1 q35
              refine z_iconst (v := 0) dX12_goesIn_136 (by decide) ?_
              refine z_istore (lv2 := [some (.ref 160), some (.int p1), some (.int x2), some (.int x3), some (.int 1), some (.int 0), some (.int x6)]) dX12_goesIn_137 (by decide) rfl rfl ?_
              refine z_iinc (v2 := x6 + 1) (lv2 := [some (.ref 160), some (.int p1), some (.int x2), some (.int x3), some (.int 1), some (.int 0), some (.int (x6 + 1))]) dX12_goesIn_139 rfl (by rfl) (by decide) rfl rfl ?_
              refine z_goto (tgt := 55) dX12_goesIn_142 (by decide) ?_
              exact hv
            · have hv := hv.2 q35
              refine z_iload dX12_goesIn_123 rfl ?_
              refine z_iload_n dX12_goesIn_125 rfl ?_
              refine z_ishr dX12_goesIn_126 ?_
              refine z_iconst (v := 1) dX12_goesIn_127 (by decide) ?_
              refine z_iand dX12_goesIn_128 ?_
              refine z_if_ne (tgt := 136) dX12_goesIn_129 (by decide) (fun q34 => ?_) (fun q34 => ?_)
              · have hv := hv.1 q34
                refine z_iconst (v := 0) dX12_goesIn_136 (by decide) ?_
                refine z_istore (lv2 := [some (.ref 160), some (.int p1), some (.int x2), some (.int x3), some (.int 1), some (.int 0), some (.int x6)]) dX12_goesIn_137 (by decide) rfl rfl ?_
                refine z_iinc (v2 := x6 + 1) (lv2 := [some (.ref 160), some (.int p1), some (.int x2), some (.int x3), some (.int 1), some (.int 0), some (.int (x6 + 1))]) dX12_goesIn_139 rfl (by rfl) (by decide) rfl rfl ?_
                refine z_goto (tgt := 55) dX12_goesIn_142 (by decide) ?_
                exact hv
              · have hv := hv.2 q34
                refine z_iconst (v := 1) dX12_goesIn_132 (by decide) ?_
                refine z_goto (tgt := 137) dX12_goesIn_133 (by decide) ?_
                refine z_istore (lv2 := [some (.ref 160), some (.int p1), some (.int x2), some (.int x3), some (.int 1), some (.int 1), some (.int x6)]) dX12_goesIn_137 (by decide) rfl rfl ?_
                refine z_iinc (v2 := x6 + 1) (lv2 := [some (.ref 160), some (.int p1), some (.int x2), some (.int x3), some (.int 1), some (.int 1), some (.int (x6 + 1))]) dX12_goesIn_139 rfl (by rfl) (by decide) rfl rfl ?_
                refine z_goto (tgt := 55) dX12_goesIn_142 (by decide) ?_
                exact hv
      · have hv := hv.2 q38
        refine z_goto (tgt := 139) dX12_goesIn_93 (by decide) ?_
        refine z_iinc (v2 := x6 + 1) (lv2 := [some (.ref 160), some (.int p1), some (.int x2), some (.int x3), some (.int x4), some (.int x5), some (.int (x6 + 1))]) dX12_goesIn_139 rfl (by rfl) (by decide) rfl rfl ?_
        refine z_goto (tgt := 55) dX12_goesIn_142 (by decide) ?_
        exact hv
def v_X12_goesIn_4 (d : Nat) (Q : zQt) (p1 : Int32) (x2 : Int32) (x3 : Int32) (I : zI) (L : zL) (P : zP) : Prop :=
  zMi zm_X12_manyOf d [.ref 160] I L P (fun r5 I1 L2 P3 =>
    ((r5 ≤ x3 →
      Q (some (.int x2)) I1 L2 P3 205
    ) ∧ (¬ r5 ≤ x3 →
      zPk P3 ∧
      vp_in p1 64 ∧
      (((((I1 194 p1.toNatClampNeg) >>> (x3 &&& 31) : Int32) &&& 1 : Int32) = 1 →
        gw_X12_goesIn (d + 1) Q 4 [some (.ref 160), some (.int p1), some (.int x2), some (.int (x3 + 1)), none, none, none] [] I1 L2 P3
      ) ∧ (¬ (((I1 194 p1.toNatClampNeg) >>> (x3 &&& 31) : Int32) &&& 1 : Int32) = 1 →
        vp_in (((8 : Int32) * (I1 160 28)) + x3) 16 ∧
        (((I1 173 (((8 : Int32) * (I1 160 28)) + x3).toNatClampNeg) = 0 →
          gw_X12_goesIn (d + 1) Q 55 [some (.ref 160), some (.int p1), some (.int x2), some (.int x3), some (.int 1), some (.int 1), some (.int 0)] [] I1 L2 P3
        ) ∧ (¬ (I1 173 (((8 : Int32) * (I1 160 28)) + x3).toNatClampNeg) = 0 →
          gw_X12_goesIn (d + 1) Q 4 [some (.ref 160), some (.int p1), some (.int x2), some (.int (x3 + 1)), none, none, none] [] I1 L2 P3
        ))
      ))
    ))
  )
set_option maxRecDepth 20000 in
theorem g_X12_goesIn_4 {d : Nat} {Q : zQt} {p1 : Int32} {x2 : Int32} {x3 : Int32} {I : zI} {L : zL} {P : zP} (hP : zPk P) (hv : v_X12_goesIn_4 d Q p1 x2 x3 I L P) : gw_X12_goesIn (d + 1) Q 4 [some (.ref 160), some (.int p1), some (.int x2), some (.int x3), none, none, none] [] I L P := by
  unfold v_X12_goesIn_4 at hv
  refine z_iload_n dX12_goesIn_4 rfl ?_
  refine z_aload_n dX12_goesIn_5 rfl ?_
  refine z_callV (As := []) (st := [.int x3]) dX12_goesIn_6 zl_X12_339 zv_X12_manyOf (by decide) rfl zn_160 zo_160 rfl rfl (Nat.le_of_ble_eq_true rfl) ⟨Nat.le_refl _, Nat.le_refl _⟩ ⟨Nat.le_refl _, Nat.le_refl _⟩ hv (fun v1 I1 L2 P3 nx1 q4 => ?_)
  obtain ⟨rfl, r5, rfl, hv⟩ := q4
  refine z_icmp_ge (tgt := 179) dX12_goesIn_9 (by decide) (fun q11 => ?_) (fun q11 => ?_)
  · have hv := hv.1 q11
    refine z_iload_n dX12_goesIn_179 rfl ?_
    exact z_ireturn dX12_goesIn_180 rfl rfl (Nat.le_refl _) (Nat.le_refl _) hv
  · have hv := hv.2 q11
    refine z_aload_n dX12_goesIn_12 rfl ?_
    obtain ⟨h6, hv⟩ := hv
    refine z_getP dX12_goesIn_13 zf_X12_116 zn_160 zo_160 (fun _ _ _ _ _ => rfl) (h6 160 54 194 zp_160_54) ?_
    refine z_iload_n dX12_goesIn_16 rfl ?_
    obtain ⟨h7, hv⟩ := hv
    refine z_iaload dX12_goesIn_17 zn_194 zh_194 h7 ?_
    refine z_iload_n dX12_goesIn_18 rfl ?_
    refine z_ishr dX12_goesIn_19 ?_
    refine z_iconst (v := 1) dX12_goesIn_20 (by decide) ?_
    refine z_iand dX12_goesIn_21 ?_
    refine z_iconst (v := 1) dX12_goesIn_22 (by decide) ?_
    refine z_icmp_eq (tgt := 173) dX12_goesIn_23 (by decide) (fun q10 => ?_) (fun q10 => ?_)
    · have hv := hv.1 q10
      refine z_iinc (v2 := x3 + 1) (lv2 := [some (.ref 160), some (.int p1), some (.int x2), some (.int (x3 + 1)), none, none, none]) dX12_goesIn_173 rfl (by rfl) (by decide) rfl rfl ?_
      refine z_goto (tgt := 4) dX12_goesIn_176 (by decide) ?_
      exact hv
    · have hv := hv.2 q10
      refine z_aload_n dX12_goesIn_26 rfl ?_
      refine z_getP dX12_goesIn_27 zf_X12_52 zn_160 zo_160 (fun _ _ _ _ _ => rfl) (h6 160 21 173 zp_160_21) ?_
      refine z_bipush (v := 8) dX12_goesIn_30 (by decide) ?_
      refine z_aload_n dX12_goesIn_32 rfl ?_
      refine z_getI dX12_goesIn_33 zf_X12_261 zn_160 zo_160 (fun _ _ _ _ _ => rfl) ?_
      refine z_imul dX12_goesIn_36 ?_
      refine z_iload_n dX12_goesIn_37 rfl ?_
      refine z_iadd dX12_goesIn_38 ?_
      obtain ⟨h8, hv⟩ := hv
      refine z_zaload dX12_goesIn_39 zn_173 zh_173 h8 ?_
      refine z_if_eq (tgt := 46) dX12_goesIn_40 (by decide) (fun q9 => ?_) (fun q9 => ?_)
      · have hv := hv.1 q9
        refine z_iconst (v := 1) dX12_goesIn_46 (by decide) ?_
        refine z_istore (lv2 := [some (.ref 160), some (.int p1), some (.int x2), some (.int x3), some (.int 1), none, none]) dX12_goesIn_47 (by decide) rfl rfl ?_
        refine z_iconst (v := 1) dX12_goesIn_49 (by decide) ?_
        refine z_istore (lv2 := [some (.ref 160), some (.int p1), some (.int x2), some (.int x3), some (.int 1), some (.int 1), none]) dX12_goesIn_50 (by decide) rfl rfl ?_
        refine z_iconst (v := 0) dX12_goesIn_52 (by decide) ?_
        refine z_istore (lv2 := [some (.ref 160), some (.int p1), some (.int x2), some (.int x3), some (.int 1), some (.int 1), some (.int 0)]) dX12_goesIn_53 (by decide) rfl rfl ?_
        exact hv
      · have hv := hv.2 q9
        refine z_goto (tgt := 173) dX12_goesIn_43 (by decide) ?_
        refine z_iinc (v2 := x3 + 1) (lv2 := [some (.ref 160), some (.int p1), some (.int x2), some (.int (x3 + 1)), none, none, none]) dX12_goesIn_173 rfl (by rfl) (by decide) rfl rfl ?_
        refine z_goto (tgt := 4) dX12_goesIn_176 (by decide) ?_
        exact hv
def v_X12_goesIn (d : Nat) (Q : zQt) (p1 : Int32) (I : zI) (L : zL) (P : zP) : Prop :=
  gw_X12_goesIn (d + 1) Q 4 [some (.ref 160), some (.int p1), some (.int 0), some (.int 0), none, none, none] [] I L P
set_option maxRecDepth 20000 in
theorem g_X12_goesIn {d : Nat} {Q : zQt} {p1 : Int32} {I : zI} {L : zL} {P : zP} (hP : zPk P) (hv : v_X12_goesIn d Q p1 I L P) : zM zm_X12_goesIn (d + 1) 0 0 [.ref 160, .int p1] I L P 205 Q := by
  unfold v_X12_goesIn at hv
  refine zM_of (lv0 := [some (.ref 160), some (.int p1), none, none, none, none, none]) (by decide +kernel) (Nat.le_of_ble_eq_true rfl) rfl ?_
  refine z_iconst (v := 0) dX12_goesIn_0 (by decide) ?_
  refine z_istore_n (lv2 := [some (.ref 160), some (.int p1), some (.int 0), none, none, none, none]) dX12_goesIn_1 (by decide) rfl rfl ?_
  refine z_iconst (v := 0) dX12_goesIn_2 (by decide) ?_
  refine z_istore_n (lv2 := [some (.ref 160), some (.int p1), some (.int 0), some (.int 0), none, none, none]) dX12_goesIn_3 (by decide) rfl rfl ?_
  exact hv
abbrev gw_X12_nightOfAll (d : Nat) (Q : zQt) (pc : Nat) (lv : zV) (st : List Value) (I : zI) (L : zL) (P : zP) : Prop := zW zm_X12_nightOfAll (zRm d 0 0) 0 0 Q pc lv st I L P 205 0 0
def v_X12_nightOfAll_169 (d : Nat) (Q : zQt) (p1 : Int32) (p2 : Int32) (x3 : Int32) (x4 : Int32) (I : zI) (L : zL) (P : zP) : Prop :=
  (((I 160 59) ≤ x4 →
    gw_X12_nightOfAll (d + 1) Q 131 [some (.ref 160), some (.int p1), some (.int p2), some (.int (x3 + 1)), none] [] I L P
  ) ∧ (¬ (I 160 59) ≤ x4 →
    vp_in x4 20 ∧
    ((¬ (I 190 x4.toNatClampNeg) = p1 →
      gw_X12_nightOfAll (d + 1) Q 169 [some (.ref 160), some (.int p1), some (.int p2), some (.int x3), some (.int (x4 + 1))] [] I L P
    ) ∧ ((I 190 x4.toNatClampNeg) = p1 →
      ((p2 < (I 191 x4.toNatClampNeg) →
        gw_X12_nightOfAll (d + 1) Q 169 [some (.ref 160), some (.int p1), some (.int p2), some (.int x3), some (.int (x4 + 1))] [] I L P
      ) ∧ (¬ p2 < (I 191 x4.toNatClampNeg) →
        (((I 192 x4.toNatClampNeg) < 0 →
          vp_in x3 64 ∧
          ((¬ (((I 195 x3.toNatClampNeg) >>> ((I 189 x4.toNatClampNeg) &&& 31) : Int32) &&& 1 : Int32) = 1 →
            ((0 = (I 197 x4.toNatClampNeg) →
              gw_X12_nightOfAll (d + 1) Q 169 [some (.ref 160), some (.int p1), some (.int p2), some (.int x3), some (.int (x4 + 1))] [] I L P
            ) ∧ (¬ 0 = (I 197 x4.toNatClampNeg) →
              ∀ I51 : zI, I51 = zuI I 198 x3.toNatClampNeg 0 →
              gw_X12_nightOfAll (d + 1) Q 169 [some (.ref 160), some (.int p1), some (.int p2), some (.int x3), some (.int (x4 + 1))] [] I51 L P
            ))
          ) ∧ ((((I 195 x3.toNatClampNeg) >>> ((I 189 x4.toNatClampNeg) &&& 31) : Int32) &&& 1 : Int32) = 1 →
            ((1 = (I 197 x4.toNatClampNeg) →
              gw_X12_nightOfAll (d + 1) Q 169 [some (.ref 160), some (.int p1), some (.int p2), some (.int x3), some (.int (x4 + 1))] [] I L P
            ) ∧ (¬ 1 = (I 197 x4.toNatClampNeg) →
              ∀ I54 : zI, I54 = zuI I 198 x3.toNatClampNeg 0 →
              gw_X12_nightOfAll (d + 1) Q 169 [some (.ref 160), some (.int p1), some (.int p2), some (.int x3), some (.int (x4 + 1))] [] I54 L P
            ))
          ))
        ) ∧ (¬ (I 192 x4.toNatClampNeg) < 0 →
          (((I 192 x4.toNatClampNeg) ≤ p2 →
            gw_X12_nightOfAll (d + 1) Q 169 [some (.ref 160), some (.int p1), some (.int p2), some (.int x3), some (.int (x4 + 1))] [] I L P
          ) ∧ (¬ (I 192 x4.toNatClampNeg) ≤ p2 →
            vp_in x3 64 ∧
            ((¬ (((I 195 x3.toNatClampNeg) >>> ((I 189 x4.toNatClampNeg) &&& 31) : Int32) &&& 1 : Int32) = 1 →
              ((0 = (I 197 x4.toNatClampNeg) →
                gw_X12_nightOfAll (d + 1) Q 169 [some (.ref 160), some (.int p1), some (.int p2), some (.int x3), some (.int (x4 + 1))] [] I L P
              ) ∧ (¬ 0 = (I 197 x4.toNatClampNeg) →
                ∀ I59 : zI, I59 = zuI I 198 x3.toNatClampNeg 0 →
                gw_X12_nightOfAll (d + 1) Q 169 [some (.ref 160), some (.int p1), some (.int p2), some (.int x3), some (.int (x4 + 1))] [] I59 L P
              ))
            ) ∧ ((((I 195 x3.toNatClampNeg) >>> ((I 189 x4.toNatClampNeg) &&& 31) : Int32) &&& 1 : Int32) = 1 →
              ((1 = (I 197 x4.toNatClampNeg) →
                gw_X12_nightOfAll (d + 1) Q 169 [some (.ref 160), some (.int p1), some (.int p2), some (.int x3), some (.int (x4 + 1))] [] I L P
              ) ∧ (¬ 1 = (I 197 x4.toNatClampNeg) →
                ∀ I62 : zI, I62 = zuI I 198 x3.toNatClampNeg 0 →
                gw_X12_nightOfAll (d + 1) Q 169 [some (.ref 160), some (.int p1), some (.int p2), some (.int x3), some (.int (x4 + 1))] [] I62 L P
              ))
            ))
          ))
        ))
      ))
    ))
  ))
set_option maxRecDepth 20000 in
theorem g_X12_nightOfAll_169 {d : Nat} {Q : zQt} {p1 : Int32} {p2 : Int32} {x3 : Int32} {x4 : Int32} {I : zI} {L : zL} {P : zP} (hP : zPk P) (hv : v_X12_nightOfAll_169 d Q p1 p2 x3 x4 I L P) : gw_X12_nightOfAll (d + 1) Q 169 [some (.ref 160), some (.int p1), some (.int p2), some (.int x3), some (.int x4)] [] I L P := by
  unfold v_X12_nightOfAll_169 at hv
  refine z_iload dX12_nightOfAll_169 rfl ?_
  refine z_aload_n dX12_nightOfAll_171 rfl ?_
  refine z_getI dX12_nightOfAll_172 zf_X12_267 zn_160 zo_160 (fun _ _ _ _ _ => rfl) ?_
  refine z_icmp_ge (tgt := 269) dX12_nightOfAll_175 (by decide) (fun q69 => ?_) (fun q69 => ?_)
  · have hv := hv.1 q69
    refine z_iinc (v2 := x3 + 1) (lv2 := [some (.ref 160), some (.int p1), some (.int p2), some (.int (x3 + 1)), some (.int x4)]) dX12_nightOfAll_269 rfl (by rfl) (by decide) rfl rfl ?_
    refine z_goto (tgt := 131) dX12_nightOfAll_272 (by decide) ?_
    exact z_sub (by exact ⟨rfl, ⟨rfl, ⟨rfl, ⟨rfl, trivial⟩⟩⟩⟩) hv
  · have hv := hv.2 q69
    refine z_aload_n dX12_nightOfAll_178 rfl ?_
    refine z_getP dX12_nightOfAll_179 zf_X12_104 zn_160 zo_160 (fun _ _ _ _ _ => rfl) (hP 160 50 190 zp_160_50) ?_
    refine z_iload dX12_nightOfAll_182 rfl ?_
    obtain ⟨h48, hv⟩ := hv
    refine z_iaload dX12_nightOfAll_184 zn_190 zh_190 h48 ?_
    refine z_iload_n dX12_nightOfAll_185 rfl ?_
    refine z_icmp_ne (tgt := 263) dX12_nightOfAll_186 (by decide) (fun q68 => ?_) (fun q68 => ?_)
    · have hv := hv.1 q68
      refine z_iinc (v2 := x4 + 1) (lv2 := [some (.ref 160), some (.int p1), some (.int p2), some (.int x3), some (.int (x4 + 1))]) dX12_nightOfAll_263 rfl (by rfl) (by decide) rfl rfl ?_
      refine z_goto (tgt := 169) dX12_nightOfAll_266 (by decide) ?_
      exact hv
    · have hv := hv.2 q68
      refine z_aload_n dX12_nightOfAll_189 rfl ?_
      refine z_getP dX12_nightOfAll_190 zf_X12_107 zn_160 zo_160 (fun _ _ _ _ _ => rfl) (hP 160 51 191 zp_160_51) ?_
      refine z_iload dX12_nightOfAll_193 rfl ?_
      refine z_iaload dX12_nightOfAll_195 zn_191 zh_191 h48 ?_
      refine z_iload_n dX12_nightOfAll_196 rfl ?_
      refine z_icmp_gt (tgt := 263) dX12_nightOfAll_197 (by decide) (fun q67 => ?_) (fun q67 => ?_)
      · have hv := hv.1 q67
        refine z_iinc (v2 := x4 + 1) (lv2 := [some (.ref 160), some (.int p1), some (.int p2), some (.int x3), some (.int (x4 + 1))]) dX12_nightOfAll_263 rfl (by rfl) (by decide) rfl rfl ?_
        refine z_goto (tgt := 169) dX12_nightOfAll_266 (by decide) ?_
        exact hv
      · have hv := hv.2 q67
        refine z_aload_n dX12_nightOfAll_200 rfl ?_
        refine z_getP dX12_nightOfAll_201 zf_X12_110 zn_160 zo_160 (fun _ _ _ _ _ => rfl) (hP 160 52 192 zp_160_52) ?_
        refine z_iload dX12_nightOfAll_204 rfl ?_
        refine z_iaload dX12_nightOfAll_206 zn_192 zh_192 h48 ?_
        refine z_if_lt (tgt := 221) dX12_nightOfAll_207 (by decide) (fun q66 => ?_) (fun q66 => ?_)
        · have hv := hv.1 q66
          refine z_aload_n dX12_nightOfAll_221 rfl ?_
          refine z_getP dX12_nightOfAll_222 zf_X12_119 zn_160 zo_160 (fun _ _ _ _ _ => rfl) (hP 160 55 195 zp_160_55) ?_
          refine z_iload_n dX12_nightOfAll_225 rfl ?_
          obtain ⟨h49, hv⟩ := hv
          refine z_iaload dX12_nightOfAll_226 zn_195 zh_195 h49 ?_
          refine z_aload_n dX12_nightOfAll_227 rfl ?_
          refine z_getP dX12_nightOfAll_228 zf_X12_101 zn_160 zo_160 (fun _ _ _ _ _ => rfl) (hP 160 49 189 zp_160_49) ?_
          refine z_iload dX12_nightOfAll_231 rfl ?_
          refine z_iaload dX12_nightOfAll_233 zn_189 zh_189 h48 ?_
          refine z_ishr dX12_nightOfAll_234 ?_
          refine z_iconst (v := 1) dX12_nightOfAll_235 (by decide) ?_
          refine z_iand dX12_nightOfAll_236 ?_
          refine z_iconst (v := 1) dX12_nightOfAll_237 (by decide) ?_
          refine z_icmp_ne (tgt := 245) dX12_nightOfAll_238 (by decide) (fun q56 => ?_) (fun q56 => ?_)
          · have hv := hv.1 q56
            refine z_iconst (v := 0) dX12_nightOfAll_245 (by decide) ?_
            refine z_aload_n dX12_nightOfAll_246 rfl ?_
            refine z_getP dX12_nightOfAll_247 zf_X12_125 zn_160 zo_160 (fun _ _ _ _ _ => rfl) (hP 160 57 197 zp_160_57) ?_
            refine z_iload dX12_nightOfAll_250 rfl ?_
            refine z_zaload dX12_nightOfAll_252 zn_197 zh_197 h48 ?_
            refine z_icmp_eq (tgt := 263) dX12_nightOfAll_253 (by decide) (fun q52 => ?_) (fun q52 => ?_)
            · have hv := hv.1 q52
              refine z_iinc (v2 := x4 + 1) (lv2 := [some (.ref 160), some (.int p1), some (.int p2), some (.int x3), some (.int (x4 + 1))]) dX12_nightOfAll_263 rfl (by rfl) (by decide) rfl rfl ?_
              refine z_goto (tgt := 169) dX12_nightOfAll_266 (by decide) ?_
              exact hv
            · have hv := hv.2 q52
              refine z_aload_n dX12_nightOfAll_256 rfl ?_
              refine z_getP dX12_nightOfAll_257 zf_X12_128 zn_160 zo_160 (fun _ _ _ _ _ => rfl) (hP 160 58 198 zp_160_58) ?_
              refine z_iload_n dX12_nightOfAll_260 rfl ?_
              refine z_iconst (v := 0) dX12_nightOfAll_261 (by decide) ?_
              refine z_zastore (w := 0) dX12_nightOfAll_262 zn_198 zh_198 h49 (by decide) (z_nmI (fun I51 e50 => ?_))
              have hv := hv I51 e50
              refine z_iinc (v2 := x4 + 1) (lv2 := [some (.ref 160), some (.int p1), some (.int p2), some (.int x3), some (.int (x4 + 1))]) dX12_nightOfAll_263 rfl (by rfl) (by decide) rfl rfl ?_
              refine z_goto (tgt := 169) dX12_nightOfAll_266 (by decide) ?_
              exact hv
          · have hv := hv.2 q56
            refine z_iconst (v := 1) dX12_nightOfAll_241 (by decide) ?_
            refine z_goto (tgt := 246) dX12_nightOfAll_242 (by decide) ?_
            refine z_aload_n dX12_nightOfAll_246 rfl ?_
            refine z_getP dX12_nightOfAll_247 zf_X12_125 zn_160 zo_160 (fun _ _ _ _ _ => rfl) (hP 160 57 197 zp_160_57) ?_
            refine z_iload dX12_nightOfAll_250 rfl ?_
            refine z_zaload dX12_nightOfAll_252 zn_197 zh_197 h48 ?_
            refine z_icmp_eq (tgt := 263) dX12_nightOfAll_253 (by decide) (fun q55 => ?_) (fun q55 => ?_)
            · have hv := hv.1 q55
              refine z_iinc (v2 := x4 + 1) (lv2 := [some (.ref 160), some (.int p1), some (.int p2), some (.int x3), some (.int (x4 + 1))]) dX12_nightOfAll_263 rfl (by rfl) (by decide) rfl rfl ?_
              refine z_goto (tgt := 169) dX12_nightOfAll_266 (by decide) ?_
              exact hv
            · have hv := hv.2 q55
              refine z_aload_n dX12_nightOfAll_256 rfl ?_
              refine z_getP dX12_nightOfAll_257 zf_X12_128 zn_160 zo_160 (fun _ _ _ _ _ => rfl) (hP 160 58 198 zp_160_58) ?_
              refine z_iload_n dX12_nightOfAll_260 rfl ?_
              refine z_iconst (v := 0) dX12_nightOfAll_261 (by decide) ?_
              refine z_zastore (w := 0) dX12_nightOfAll_262 zn_198 zh_198 h49 (by decide) (z_nmI (fun I54 e53 => ?_))
              have hv := hv I54 e53
              refine z_iinc (v2 := x4 + 1) (lv2 := [some (.ref 160), some (.int p1), some (.int p2), some (.int x3), some (.int (x4 + 1))]) dX12_nightOfAll_263 rfl (by rfl) (by decide) rfl rfl ?_
              refine z_goto (tgt := 169) dX12_nightOfAll_266 (by decide) ?_
              exact hv
        · have hv := hv.2 q66
          refine z_aload_n dX12_nightOfAll_210 rfl ?_
          refine z_getP dX12_nightOfAll_211 zf_X12_110 zn_160 zo_160 (fun _ _ _ _ _ => rfl) (hP 160 52 192 zp_160_52) ?_
          refine z_iload dX12_nightOfAll_214 rfl ?_
          refine z_iaload dX12_nightOfAll_216 zn_192 zh_192 h48 ?_
          refine z_iload_n dX12_nightOfAll_217 rfl ?_
          refine z_icmp_le (tgt := 263) dX12_nightOfAll_218 (by decide) (fun q65 => ?_) (fun q65 => ?_)
          · have hv := hv.1 q65
            refine z_iinc (v2 := x4 + 1) (lv2 := [some (.ref 160), some (.int p1), some (.int p2), some (.int x3), some (.int (x4 + 1))]) dX12_nightOfAll_263 rfl (by rfl) (by decide) rfl rfl ?_
            refine z_goto (tgt := 169) dX12_nightOfAll_266 (by decide) ?_
            exact hv
          · have hv := hv.2 q65
            refine z_aload_n dX12_nightOfAll_221 rfl ?_
            refine z_getP dX12_nightOfAll_222 zf_X12_119 zn_160 zo_160 (fun _ _ _ _ _ => rfl) (hP 160 55 195 zp_160_55) ?_
            refine z_iload_n dX12_nightOfAll_225 rfl ?_
            obtain ⟨h57, hv⟩ := hv
            refine z_iaload dX12_nightOfAll_226 zn_195 zh_195 h57 ?_
            refine z_aload_n dX12_nightOfAll_227 rfl ?_
            refine z_getP dX12_nightOfAll_228 zf_X12_101 zn_160 zo_160 (fun _ _ _ _ _ => rfl) (hP 160 49 189 zp_160_49) ?_
            refine z_iload dX12_nightOfAll_231 rfl ?_
            refine z_iaload dX12_nightOfAll_233 zn_189 zh_189 h48 ?_
            refine z_ishr dX12_nightOfAll_234 ?_
            refine z_iconst (v := 1) dX12_nightOfAll_235 (by decide) ?_
            refine z_iand dX12_nightOfAll_236 ?_
            refine z_iconst (v := 1) dX12_nightOfAll_237 (by decide) ?_
            refine z_icmp_ne (tgt := 245) dX12_nightOfAll_238 (by decide) (fun q64 => ?_) (fun q64 => ?_)
            · have hv := hv.1 q64
              refine z_iconst (v := 0) dX12_nightOfAll_245 (by decide) ?_
              refine z_aload_n dX12_nightOfAll_246 rfl ?_
              refine z_getP dX12_nightOfAll_247 zf_X12_125 zn_160 zo_160 (fun _ _ _ _ _ => rfl) (hP 160 57 197 zp_160_57) ?_
              refine z_iload dX12_nightOfAll_250 rfl ?_
              refine z_zaload dX12_nightOfAll_252 zn_197 zh_197 h48 ?_
              refine z_icmp_eq (tgt := 263) dX12_nightOfAll_253 (by decide) (fun q60 => ?_) (fun q60 => ?_)
              · have hv := hv.1 q60
                refine z_iinc (v2 := x4 + 1) (lv2 := [some (.ref 160), some (.int p1), some (.int p2), some (.int x3), some (.int (x4 + 1))]) dX12_nightOfAll_263 rfl (by rfl) (by decide) rfl rfl ?_
                refine z_goto (tgt := 169) dX12_nightOfAll_266 (by decide) ?_
                exact hv
              · have hv := hv.2 q60
                refine z_aload_n dX12_nightOfAll_256 rfl ?_
                refine z_getP dX12_nightOfAll_257 zf_X12_128 zn_160 zo_160 (fun _ _ _ _ _ => rfl) (hP 160 58 198 zp_160_58) ?_
                refine z_iload_n dX12_nightOfAll_260 rfl ?_
                refine z_iconst (v := 0) dX12_nightOfAll_261 (by decide) ?_
                refine z_zastore (w := 0) dX12_nightOfAll_262 zn_198 zh_198 h57 (by decide) (z_nmI (fun I59 e58 => ?_))
                have hv := hv I59 e58
                refine z_iinc (v2 := x4 + 1) (lv2 := [some (.ref 160), some (.int p1), some (.int p2), some (.int x3), some (.int (x4 + 1))]) dX12_nightOfAll_263 rfl (by rfl) (by decide) rfl rfl ?_
                refine z_goto (tgt := 169) dX12_nightOfAll_266 (by decide) ?_
                exact hv
            · have hv := hv.2 q64
              refine z_iconst (v := 1) dX12_nightOfAll_241 (by decide) ?_
              refine z_goto (tgt := 246) dX12_nightOfAll_242 (by decide) ?_
              refine z_aload_n dX12_nightOfAll_246 rfl ?_
              refine z_getP dX12_nightOfAll_247 zf_X12_125 zn_160 zo_160 (fun _ _ _ _ _ => rfl) (hP 160 57 197 zp_160_57) ?_
              refine z_iload dX12_nightOfAll_250 rfl ?_
              refine z_zaload dX12_nightOfAll_252 zn_197 zh_197 h48 ?_
              refine z_icmp_eq (tgt := 263) dX12_nightOfAll_253 (by decide) (fun q63 => ?_) (fun q63 => ?_)
              · have hv := hv.1 q63
                refine z_iinc (v2 := x4 + 1) (lv2 := [some (.ref 160), some (.int p1), some (.int p2), some (.int x3), some (.int (x4 + 1))]) dX12_nightOfAll_263 rfl (by rfl) (by decide) rfl rfl ?_
                refine z_goto (tgt := 169) dX12_nightOfAll_266 (by decide) ?_
                exact hv
              · have hv := hv.2 q63
                refine z_aload_n dX12_nightOfAll_256 rfl ?_
                refine z_getP dX12_nightOfAll_257 zf_X12_128 zn_160 zo_160 (fun _ _ _ _ _ => rfl) (hP 160 58 198 zp_160_58) ?_
                refine z_iload_n dX12_nightOfAll_260 rfl ?_
                refine z_iconst (v := 0) dX12_nightOfAll_261 (by decide) ?_
                refine z_zastore (w := 0) dX12_nightOfAll_262 zn_198 zh_198 h57 (by decide) (z_nmI (fun I62 e61 => ?_))
                have hv := hv I62 e61
                refine z_iinc (v2 := x4 + 1) (lv2 := [some (.ref 160), some (.int p1), some (.int p2), some (.int x3), some (.int (x4 + 1))]) dX12_nightOfAll_263 rfl (by rfl) (by decide) rfl rfl ?_
                refine z_goto (tgt := 169) dX12_nightOfAll_266 (by decide) ?_
                exact hv
def v_X12_nightOfAll_131 (d : Nat) (Q : zQt) (p1 : Int32) (p2 : Int32) (x3 : Int32) (I : zI) (L : zL) (P : zP) : Prop :=
  zMi zm_X12_worldMany d [.ref 160] I L P (fun r34 I30 L31 P32 =>
    ((r34 ≤ x3 →
      Q none I30 L31 P32 205
    ) ∧ (¬ r34 ≤ x3 →
      zPk P32 ∧
      vp_in x3 64 ∧
      ∀ I38 : zI, I38 = zuI I30 193 x3.toNatClampNeg (I30 196 x3.toNatClampNeg) →
      ∀ I40 : zI, I40 = zuI I38 194 x3.toNatClampNeg ((I38 194 x3.toNatClampNeg) ||| (I38 195 x3.toNatClampNeg) : Int32) →
      gw_X12_nightOfAll (d + 1) Q 169 [some (.ref 160), some (.int p1), some (.int p2), some (.int x3), some (.int 0)] [] I40 L31 P32
    ))
  )
set_option maxRecDepth 20000 in
theorem g_X12_nightOfAll_131 {d : Nat} {Q : zQt} {p1 : Int32} {p2 : Int32} {x3 : Int32} {I : zI} {L : zL} {P : zP} (hP : zPk P) (hv : v_X12_nightOfAll_131 d Q p1 p2 x3 I L P) : gw_X12_nightOfAll (d + 1) Q 131 [some (.ref 160), some (.int p1), some (.int p2), some (.int x3), none] [] I L P := by
  unfold v_X12_nightOfAll_131 at hv
  refine z_iload_n dX12_nightOfAll_131 rfl ?_
  refine z_aload_n dX12_nightOfAll_132 rfl ?_
  refine z_callV (As := []) (st := [.int x3]) dX12_nightOfAll_133 zl_X12_346 zv_X12_worldMany (by decide) rfl zn_160 zo_160 rfl rfl (Nat.le_of_ble_eq_true rfl) ⟨Nat.le_refl _, Nat.le_refl _⟩ ⟨Nat.le_refl _, Nat.le_refl _⟩ hv (fun v1 I30 L31 P32 nx1 q33 => ?_)
  obtain ⟨rfl, r34, rfl, hv⟩ := q33
  refine z_icmp_ge (tgt := 275) dX12_nightOfAll_136 (by decide) (fun q41 => ?_) (fun q41 => ?_)
  · have hv := hv.1 q41
    exact z_return dX12_nightOfAll_275 rfl (Nat.le_refl _) (Nat.le_refl _) hv
  · have hv := hv.2 q41
    refine z_aload_n dX12_nightOfAll_139 rfl ?_
    obtain ⟨h35, hv⟩ := hv
    refine z_getP dX12_nightOfAll_140 zf_X12_113 zn_160 zo_160 (fun _ _ _ _ _ => rfl) (h35 160 53 193 zp_160_53) ?_
    refine z_iload_n dX12_nightOfAll_143 rfl ?_
    refine z_aload_n dX12_nightOfAll_144 rfl ?_
    refine z_getP dX12_nightOfAll_145 zf_X12_122 zn_160 zo_160 (fun _ _ _ _ _ => rfl) (h35 160 56 196 zp_160_56) ?_
    refine z_iload_n dX12_nightOfAll_148 rfl ?_
    obtain ⟨h36, hv⟩ := hv
    refine z_iaload dX12_nightOfAll_149 zn_196 zh_196 h36 ?_
    refine z_iastore dX12_nightOfAll_150 zn_193 zh_193 h36 (z_nmI (fun I38 e37 => ?_))
    have hv := hv I38 e37
    refine z_aload_n dX12_nightOfAll_151 rfl ?_
    refine z_getP dX12_nightOfAll_152 zf_X12_116 zn_160 zo_160 (fun _ _ _ _ _ => rfl) (h35 160 54 194 zp_160_54) ?_
    refine z_iload_n dX12_nightOfAll_155 rfl ?_
    refine z_dup2 dX12_nightOfAll_156 rfl rfl ?_
    refine z_iaload dX12_nightOfAll_157 zn_194 zh_194 h36 ?_
    refine z_aload_n dX12_nightOfAll_158 rfl ?_
    refine z_getP dX12_nightOfAll_159 zf_X12_119 zn_160 zo_160 (fun _ _ _ _ _ => rfl) (h35 160 55 195 zp_160_55) ?_
    refine z_iload_n dX12_nightOfAll_162 rfl ?_
    refine z_iaload dX12_nightOfAll_163 zn_195 zh_195 h36 ?_
    refine z_ior dX12_nightOfAll_164 ?_
    refine z_iastore dX12_nightOfAll_165 zn_194 zh_194 h36 (z_nmI (fun I40 e39 => ?_))
    have hv := hv I40 e39
    refine z_iconst (v := 0) dX12_nightOfAll_166 (by decide) ?_
    refine z_istore (lv2 := [some (.ref 160), some (.int p1), some (.int p2), some (.int x3), some (.int 0)]) dX12_nightOfAll_167 (by decide) rfl rfl ?_
    exact hv
def v_X12_nightOfAll_77 (d : Nat) (Q : zQt) (p1 : Int32) (p2 : Int32) (x3 : Int32) (x4 : Int32) (I : zI) (L : zL) (P : zP) : Prop :=
  vp_in x4 64 ∧
  vp_in x3 64 ∧
  ((¬ (I 193 x4.toNatClampNeg) = (I 193 x3.toNatClampNeg) →
    gw_X12_nightOfAll (d + 1) Q 77 [some (.ref 160), some (.int p1), some (.int p2), some (.int x3), some (.int (x4 + 1))] [] I L P
  ) ∧ ((I 193 x4.toNatClampNeg) = (I 193 x3.toNatClampNeg) →
    (((I 195 x4.toNatClampNeg) = (I 195 x3.toNatClampNeg) →
      ∀ I45 : zI, I45 = zuI I 196 x3.toNatClampNeg x4 →
      gw_X12_nightOfAll (d + 1) Q 42 [some (.ref 160), some (.int p1), some (.int p2), some (.int (x3 + 1)), none] [] I45 L P
    ) ∧ (¬ (I 195 x4.toNatClampNeg) = (I 195 x3.toNatClampNeg) →
      gw_X12_nightOfAll (d + 1) Q 77 [some (.ref 160), some (.int p1), some (.int p2), some (.int x3), some (.int (x4 + 1))] [] I L P
    ))
  ))
set_option maxRecDepth 20000 in
theorem g_X12_nightOfAll_77 {d : Nat} {Q : zQt} {p1 : Int32} {p2 : Int32} {x3 : Int32} {x4 : Int32} {I : zI} {L : zL} {P : zP} (hP : zPk P) (hv : v_X12_nightOfAll_77 d Q p1 p2 x3 x4 I L P) : gw_X12_nightOfAll (d + 1) Q 77 [some (.ref 160), some (.int p1), some (.int p2), some (.int x3), some (.int x4)] [] I L P := by
  unfold v_X12_nightOfAll_77 at hv
  refine z_aload_n dX12_nightOfAll_77 rfl ?_
  refine z_getP dX12_nightOfAll_78 zf_X12_113 zn_160 zo_160 (fun _ _ _ _ _ => rfl) (hP 160 53 193 zp_160_53) ?_
  refine z_iload dX12_nightOfAll_81 rfl ?_
  obtain ⟨h42, hv⟩ := hv
  refine z_iaload dX12_nightOfAll_83 zn_193 zh_193 h42 ?_
  refine z_aload_n dX12_nightOfAll_84 rfl ?_
  refine z_getP dX12_nightOfAll_85 zf_X12_113 zn_160 zo_160 (fun _ _ _ _ _ => rfl) (hP 160 53 193 zp_160_53) ?_
  refine z_iload_n dX12_nightOfAll_88 rfl ?_
  obtain ⟨h43, hv⟩ := hv
  refine z_iaload dX12_nightOfAll_89 zn_193 zh_193 h43 ?_
  refine z_icmp_ne (tgt := 109) dX12_nightOfAll_90 (by decide) (fun q47 => ?_) (fun q47 => ?_)
  · have hv := hv.1 q47
    refine z_iinc (v2 := x4 + 1) (lv2 := [some (.ref 160), some (.int p1), some (.int p2), some (.int x3), some (.int (x4 + 1))]) dX12_nightOfAll_109 rfl (by rfl) (by decide) rfl rfl ?_
    refine z_goto (tgt := 77) dX12_nightOfAll_112 (by decide) ?_
    exact hv
  · have hv := hv.2 q47
    refine z_aload_n dX12_nightOfAll_93 rfl ?_
    refine z_getP dX12_nightOfAll_94 zf_X12_119 zn_160 zo_160 (fun _ _ _ _ _ => rfl) (hP 160 55 195 zp_160_55) ?_
    refine z_iload dX12_nightOfAll_97 rfl ?_
    refine z_iaload dX12_nightOfAll_99 zn_195 zh_195 h42 ?_
    refine z_aload_n dX12_nightOfAll_100 rfl ?_
    refine z_getP dX12_nightOfAll_101 zf_X12_119 zn_160 zo_160 (fun _ _ _ _ _ => rfl) (hP 160 55 195 zp_160_55) ?_
    refine z_iload_n dX12_nightOfAll_104 rfl ?_
    refine z_iaload dX12_nightOfAll_105 zn_195 zh_195 h43 ?_
    refine z_icmp_eq (tgt := 115) dX12_nightOfAll_106 (by decide) (fun q46 => ?_) (fun q46 => ?_)
    · have hv := hv.1 q46
      refine z_aload_n dX12_nightOfAll_115 rfl ?_
      refine z_getP dX12_nightOfAll_116 zf_X12_122 zn_160 zo_160 (fun _ _ _ _ _ => rfl) (hP 160 56 196 zp_160_56) ?_
      refine z_iload_n dX12_nightOfAll_119 rfl ?_
      refine z_iload dX12_nightOfAll_120 rfl ?_
      refine z_iastore dX12_nightOfAll_122 zn_196 zh_196 h43 (z_nmI (fun I45 e44 => ?_))
      have hv := hv I45 e44
      refine z_iinc (v2 := x3 + 1) (lv2 := [some (.ref 160), some (.int p1), some (.int p2), some (.int (x3 + 1)), some (.int x4)]) dX12_nightOfAll_123 rfl (by rfl) (by decide) rfl rfl ?_
      refine z_goto (tgt := 42) dX12_nightOfAll_126 (by decide) ?_
      exact z_sub (by exact ⟨rfl, ⟨rfl, ⟨rfl, ⟨rfl, trivial⟩⟩⟩⟩) hv
    · have hv := hv.2 q46
      refine z_iinc (v2 := x4 + 1) (lv2 := [some (.ref 160), some (.int p1), some (.int p2), some (.int x3), some (.int (x4 + 1))]) dX12_nightOfAll_109 rfl (by rfl) (by decide) rfl rfl ?_
      refine z_goto (tgt := 77) dX12_nightOfAll_112 (by decide) ?_
      exact hv
def v_X12_nightOfAll_42 (d : Nat) (Q : zQt) (p1 : Int32) (p2 : Int32) (x3 : Int32) (I : zI) (L : zL) (P : zP) : Prop :=
  zMi zm_X12_worldMany d [.ref 160] I L P (fun r23 I19 L20 P21 =>
    ((r23 ≤ x3 →
      gw_X12_nightOfAll (d + 1) Q 131 [some (.ref 160), some (.int p1), some (.int p2), some (.int 0), none] [] I19 L20 P21
    ) ∧ (¬ r23 ≤ x3 →
      zPk P21 ∧
      vp_in x3 64 ∧
      ∀ I27 : zI, I27 = zuI I19 196 x3.toNatClampNeg (I19 193 x3.toNatClampNeg) →
      ((0 ≤ (I27 193 x3.toNatClampNeg) →
        gw_X12_nightOfAll (d + 1) Q 77 [some (.ref 160), some (.int p1), some (.int p2), some (.int x3), some (.int 0)] [] I27 L20 P21
      ) ∧ (¬ 0 ≤ (I27 193 x3.toNatClampNeg) →
        gw_X12_nightOfAll (d + 1) Q 42 [some (.ref 160), some (.int p1), some (.int p2), some (.int (x3 + 1)), none] [] I27 L20 P21
      ))
    ))
  )
set_option maxRecDepth 20000 in
theorem g_X12_nightOfAll_42 {d : Nat} {Q : zQt} {p1 : Int32} {p2 : Int32} {x3 : Int32} {I : zI} {L : zL} {P : zP} (hP : zPk P) (hv : v_X12_nightOfAll_42 d Q p1 p2 x3 I L P) : gw_X12_nightOfAll (d + 1) Q 42 [some (.ref 160), some (.int p1), some (.int p2), some (.int x3), none] [] I L P := by
  unfold v_X12_nightOfAll_42 at hv
  refine z_iload_n dX12_nightOfAll_42 rfl ?_
  refine z_aload_n dX12_nightOfAll_43 rfl ?_
  refine z_callV (As := []) (st := [.int x3]) dX12_nightOfAll_44 zl_X12_346 zv_X12_worldMany (by decide) rfl zn_160 zo_160 rfl rfl (Nat.le_of_ble_eq_true rfl) ⟨Nat.le_refl _, Nat.le_refl _⟩ ⟨Nat.le_refl _, Nat.le_refl _⟩ hv (fun v1 I19 L20 P21 nx1 q22 => ?_)
  obtain ⟨rfl, r23, rfl, hv⟩ := q22
  refine z_icmp_ge (tgt := 129) dX12_nightOfAll_47 (by decide) (fun q29 => ?_) (fun q29 => ?_)
  · have hv := hv.1 q29
    refine z_iconst (v := 0) dX12_nightOfAll_129 (by decide) ?_
    refine z_istore_n (lv2 := [some (.ref 160), some (.int p1), some (.int p2), some (.int 0), none]) dX12_nightOfAll_130 (by decide) rfl rfl ?_
    exact hv
  · have hv := hv.2 q29
    refine z_aload_n dX12_nightOfAll_50 rfl ?_
    obtain ⟨h24, hv⟩ := hv
    refine z_getP dX12_nightOfAll_51 zf_X12_122 zn_160 zo_160 (fun _ _ _ _ _ => rfl) (h24 160 56 196 zp_160_56) ?_
    refine z_iload_n dX12_nightOfAll_54 rfl ?_
    refine z_aload_n dX12_nightOfAll_55 rfl ?_
    refine z_getP dX12_nightOfAll_56 zf_X12_113 zn_160 zo_160 (fun _ _ _ _ _ => rfl) (h24 160 53 193 zp_160_53) ?_
    refine z_iload_n dX12_nightOfAll_59 rfl ?_
    obtain ⟨h25, hv⟩ := hv
    refine z_iaload dX12_nightOfAll_60 zn_193 zh_193 h25 ?_
    refine z_iastore dX12_nightOfAll_61 zn_196 zh_196 h25 (z_nmI (fun I27 e26 => ?_))
    have hv := hv I27 e26
    refine z_aload_n dX12_nightOfAll_62 rfl ?_
    refine z_getP dX12_nightOfAll_63 zf_X12_113 zn_160 zo_160 (fun _ _ _ _ _ => rfl) (h24 160 53 193 zp_160_53) ?_
    refine z_iload_n dX12_nightOfAll_66 rfl ?_
    refine z_iaload dX12_nightOfAll_67 zn_193 zh_193 h25 ?_
    refine z_if_ge (tgt := 74) dX12_nightOfAll_68 (by decide) (fun q28 => ?_) (fun q28 => ?_)
    · have hv := hv.1 q28
      refine z_iconst (v := 0) dX12_nightOfAll_74 (by decide) ?_
      refine z_istore (lv2 := [some (.ref 160), some (.int p1), some (.int p2), some (.int x3), some (.int 0)]) dX12_nightOfAll_75 (by decide) rfl rfl ?_
      exact hv
    · have hv := hv.2 q28
      refine z_goto (tgt := 123) dX12_nightOfAll_71 (by decide) ?_
      refine z_iinc (v2 := x3 + 1) (lv2 := [some (.ref 160), some (.int p1), some (.int p2), some (.int (x3 + 1)), none]) dX12_nightOfAll_123 rfl (by rfl) (by decide) rfl rfl ?_
      refine z_goto (tgt := 42) dX12_nightOfAll_126 (by decide) ?_
      exact hv
def v_X12_nightOfAll_2 (d : Nat) (Q : zQt) (p1 : Int32) (p2 : Int32) (x3 : Int32) (I : zI) (L : zL) (P : zP) : Prop :=
  zMi zm_X12_worldMany d [.ref 160] I L P (fun r5 I1 L2 P3 =>
    ((r5 ≤ x3 →
      gw_X12_nightOfAll (d + 1) Q 42 [some (.ref 160), some (.int p1), some (.int p2), some (.int 0), none] [] I1 L2 P3
    ) ∧ (¬ r5 ≤ x3 →
      zPk P3 ∧
      vp_in x3 64 ∧
      ((0 ≤ (I1 193 x3.toNatClampNeg) →
        zMi zm_X12_goesIn d [.ref 160, .int x3] I1 L2 P3 (fun r12 I8 L9 P10 =>
          ∀ I14 : zI, I14 = zuI I8 195 x3.toNatClampNeg r12 →
          gw_X12_nightOfAll (d + 1) Q 2 [some (.ref 160), some (.int p1), some (.int p2), some (.int (x3 + 1)), none] [] I14 L9 P10
        )
      ) ∧ (¬ 0 ≤ (I1 193 x3.toNatClampNeg) →
        ∀ I16 : zI, I16 = zuI I1 195 x3.toNatClampNeg 0 →
        gw_X12_nightOfAll (d + 1) Q 2 [some (.ref 160), some (.int p1), some (.int p2), some (.int (x3 + 1)), none] [] I16 L2 P3
      ))
    ))
  )
set_option maxRecDepth 20000 in
theorem g_X12_nightOfAll_2 {d : Nat} {Q : zQt} {p1 : Int32} {p2 : Int32} {x3 : Int32} {I : zI} {L : zL} {P : zP} (hP : zPk P) (hv : v_X12_nightOfAll_2 d Q p1 p2 x3 I L P) : gw_X12_nightOfAll (d + 1) Q 2 [some (.ref 160), some (.int p1), some (.int p2), some (.int x3), none] [] I L P := by
  unfold v_X12_nightOfAll_2 at hv
  refine z_iload_n dX12_nightOfAll_2 rfl ?_
  refine z_aload_n dX12_nightOfAll_3 rfl ?_
  refine z_callV (As := []) (st := [.int x3]) dX12_nightOfAll_4 zl_X12_346 zv_X12_worldMany (by decide) rfl zn_160 zo_160 rfl rfl (Nat.le_of_ble_eq_true rfl) ⟨Nat.le_refl _, Nat.le_refl _⟩ ⟨Nat.le_refl _, Nat.le_refl _⟩ hv (fun v1 I1 L2 P3 nx1 q4 => ?_)
  obtain ⟨rfl, r5, rfl, hv⟩ := q4
  refine z_icmp_ge (tgt := 40) dX12_nightOfAll_7 (by decide) (fun q18 => ?_) (fun q18 => ?_)
  · have hv := hv.1 q18
    refine z_iconst (v := 0) dX12_nightOfAll_40 (by decide) ?_
    refine z_istore_n (lv2 := [some (.ref 160), some (.int p1), some (.int p2), some (.int 0), none]) dX12_nightOfAll_41 (by decide) rfl rfl ?_
    exact hv
  · have hv := hv.2 q18
    refine z_aload_n dX12_nightOfAll_10 rfl ?_
    obtain ⟨h6, hv⟩ := hv
    refine z_getP dX12_nightOfAll_11 zf_X12_119 zn_160 zo_160 (fun _ _ _ _ _ => rfl) (h6 160 55 195 zp_160_55) ?_
    refine z_iload_n dX12_nightOfAll_14 rfl ?_
    refine z_aload_n dX12_nightOfAll_15 rfl ?_
    refine z_getP dX12_nightOfAll_16 zf_X12_113 zn_160 zo_160 (fun _ _ _ _ _ => rfl) (h6 160 53 193 zp_160_53) ?_
    refine z_iload_n dX12_nightOfAll_19 rfl ?_
    obtain ⟨h7, hv⟩ := hv
    refine z_iaload dX12_nightOfAll_20 zn_193 zh_193 h7 ?_
    refine z_if_ge (tgt := 28) dX12_nightOfAll_21 (by decide) (fun q17 => ?_) (fun q17 => ?_)
    · have hv := hv.1 q17
      refine z_aload_n dX12_nightOfAll_28 rfl ?_
      refine z_iload_n dX12_nightOfAll_29 rfl ?_
      refine z_callV (As := [.int x3]) (st := [.int x3, .ref 195]) dX12_nightOfAll_30 zl_X12_445 zv_X12_goesIn (by decide) rfl zn_160 zo_160 rfl rfl (Nat.le_of_ble_eq_true rfl) ⟨Nat.le_refl _, Nat.le_refl _⟩ ⟨Nat.le_refl _, Nat.le_refl _⟩ hv (fun v1 I8 L9 P10 nx1 q11 => ?_)
      obtain ⟨rfl, r12, rfl, hv⟩ := q11
      refine z_iastore dX12_nightOfAll_33 zn_195 zh_195 h7 (z_nmI (fun I14 e13 => ?_))
      have hv := hv I14 e13
      refine z_iinc (v2 := x3 + 1) (lv2 := [some (.ref 160), some (.int p1), some (.int p2), some (.int (x3 + 1)), none]) dX12_nightOfAll_34 rfl (by rfl) (by decide) rfl rfl ?_
      refine z_goto (tgt := 2) dX12_nightOfAll_37 (by decide) ?_
      exact hv
    · have hv := hv.2 q17
      refine z_iconst (v := 0) dX12_nightOfAll_24 (by decide) ?_
      refine z_goto (tgt := 33) dX12_nightOfAll_25 (by decide) ?_
      refine z_iastore dX12_nightOfAll_33 zn_195 zh_195 h7 (z_nmI (fun I16 e15 => ?_))
      have hv := hv I16 e15
      refine z_iinc (v2 := x3 + 1) (lv2 := [some (.ref 160), some (.int p1), some (.int p2), some (.int (x3 + 1)), none]) dX12_nightOfAll_34 rfl (by rfl) (by decide) rfl rfl ?_
      refine z_goto (tgt := 2) dX12_nightOfAll_37 (by decide) ?_
      exact hv
def v_X12_nightOfAll (d : Nat) (Q : zQt) (p1 : Int32) (p2 : Int32) (I : zI) (L : zL) (P : zP) : Prop :=
  gw_X12_nightOfAll (d + 1) Q 2 [some (.ref 160), some (.int p1), some (.int p2), some (.int 0), none] [] I L P
set_option maxRecDepth 20000 in
theorem g_X12_nightOfAll {d : Nat} {Q : zQt} {p1 : Int32} {p2 : Int32} {I : zI} {L : zL} {P : zP} (hP : zPk P) (hv : v_X12_nightOfAll d Q p1 p2 I L P) : zM zm_X12_nightOfAll (d + 1) 0 0 [.ref 160, .int p1, .int p2] I L P 205 Q := by
  unfold v_X12_nightOfAll at hv
  refine zM_of (lv0 := [some (.ref 160), some (.int p1), some (.int p2), none, none]) (by decide +kernel) (Nat.le_of_ble_eq_true rfl) rfl ?_
  refine z_iconst (v := 0) dX12_nightOfAll_0 (by decide) ?_
  refine z_istore_n (lv2 := [some (.ref 160), some (.int p1), some (.int p2), some (.int 0), none]) dX12_nightOfAll_1 (by decide) rfl rfl ?_
  exact hv
abbrev gw_X12_fitsBy (d : Nat) (Q : zQt) (pc : Nat) (lv : zV) (st : List Value) (I : zI) (L : zL) (P : zP) : Prop := zW zm_X12_fitsBy (zRm d 0 0) 0 0 Q pc lv st I L P 205 0 0
def v_X12_fitsBy_138 (d : Nat) (Q : zQt) (p3 : Int32) (x4 : Int32) (x5 : Int32) (I : zI) (L : zL) (P : zP) : Prop :=
  zMi zm_X12_worldMany d [.ref 160] I L P (fun r74 I70 L71 P72 =>
    ((r74 ≤ x5 →
      Q (some (.int x4)) I70 L71 P72 205
    ) ∧ (¬ r74 ≤ x5 →
      zPk P72 ∧
      vp_in x5 64 ∧
      ((¬ (I70 198 x5.toNatClampNeg) = 0 →
        ∀ I77 : zI, I77 = zuI I70 160 61 ((I70 160 61) ||| ((1 : Int32) <<< (((x5 >>> (p3 &&& 31) : Int32) &&& 1 : Int32) &&& 31) : Int32) : Int32) →
        gw_X12_fitsBy (d + 1) Q 138 [some (.ref 160), none, none, some (.int p3), some (.int (x4 + 1)), some (.int (x5 + 1))] [] I77 L71 P72
      ) ∧ ((I70 198 x5.toNatClampNeg) = 0 →
        gw_X12_fitsBy (d + 1) Q 138 [some (.ref 160), none, none, some (.int p3), some (.int x4), some (.int (x5 + 1))] [] I70 L71 P72
      ))
    ))
  )
set_option maxRecDepth 20000 in
theorem g_X12_fitsBy_138 {d : Nat} {Q : zQt} {p3 : Int32} {x4 : Int32} {x5 : Int32} {I : zI} {L : zL} {P : zP} (hP : zPk P) (hv : v_X12_fitsBy_138 d Q p3 x4 x5 I L P) : gw_X12_fitsBy (d + 1) Q 138 [some (.ref 160), none, none, some (.int p3), some (.int x4), some (.int x5)] [] I L P := by
  unfold v_X12_fitsBy_138 at hv
  refine z_iload dX12_fitsBy_138 rfl ?_
  refine z_aload_n dX12_fitsBy_140 rfl ?_
  refine z_callV (As := []) (st := [.int x5]) dX12_fitsBy_141 zl_X12_346 zv_X12_worldMany (by decide) rfl zn_160 zo_160 rfl rfl (Nat.le_of_ble_eq_true rfl) ⟨Nat.le_refl _, Nat.le_refl _⟩ ⟨Nat.le_refl _, Nat.le_refl _⟩ hv (fun v1 I70 L71 P72 nx1 q73 => ?_)
  obtain ⟨rfl, r74, rfl, hv⟩ := q73
  refine z_icmp_ge (tgt := 186) dX12_fitsBy_144 (by decide) (fun q80 => ?_) (fun q80 => ?_)
  · have hv := hv.1 q80
    refine z_iload dX12_fitsBy_186 rfl ?_
    exact z_ireturn dX12_fitsBy_188 rfl rfl (Nat.le_refl _) (Nat.le_refl _) hv
  · have hv := hv.2 q80
    refine z_aload_n dX12_fitsBy_147 rfl ?_
    obtain ⟨h75, hv⟩ := hv
    refine z_getP dX12_fitsBy_148 zf_X12_128 zn_160 zo_160 (fun _ _ _ _ _ => rfl) (h75 160 58 198 zp_160_58) ?_
    refine z_iload dX12_fitsBy_151 rfl ?_
    obtain ⟨h76, hv⟩ := hv
    refine z_zaload dX12_fitsBy_153 zn_198 zh_198 h76 ?_
    refine z_if_ne (tgt := 160) dX12_fitsBy_154 (by decide) (fun q79 => ?_) (fun q79 => ?_)
    · have hv := hv.1 q79
      refine z_iinc (v2 := x4 + 1) (lv2 := [some (.ref 160), none, none, some (.int p3), some (.int (x4 + 1)), some (.int x5)]) dX12_fitsBy_160 rfl (by rfl) (by decide) rfl rfl ?_
      refine z_aload_n dX12_fitsBy_163 rfl ?_
      refine z_dup dX12_fitsBy_164 rfl ?_
      refine z_getI dX12_fitsBy_165 zf_X12_451 zn_160 zo_160 (fun _ _ _ _ _ => rfl) ?_
      refine z_iconst (v := 1) dX12_fitsBy_168 (by decide) ?_
      refine z_iload dX12_fitsBy_169 rfl ?_
      refine z_iload_n dX12_fitsBy_171 rfl ?_
      refine z_ishr dX12_fitsBy_172 ?_
      refine z_iconst (v := 1) dX12_fitsBy_173 (by decide) ?_
      refine z_iand dX12_fitsBy_174 ?_
      refine z_ishl dX12_fitsBy_175 ?_
      refine z_ior dX12_fitsBy_176 ?_
      refine z_putI dX12_fitsBy_177 zf_X12_451 zn_160 zo_160 (Or.inl rfl) (fun _ _ _ _ _ => rfl) rfl rfl (z_nmI (fun I77 e78 => ?_))
      have hv := hv I77 e78
      refine z_iinc (v2 := x5 + 1) (lv2 := [some (.ref 160), none, none, some (.int p3), some (.int (x4 + 1)), some (.int (x5 + 1))]) dX12_fitsBy_180 rfl (by rfl) (by decide) rfl rfl ?_
      refine z_goto (tgt := 138) dX12_fitsBy_183 (by decide) ?_
      exact hv
    · have hv := hv.2 q79
      refine z_goto (tgt := 180) dX12_fitsBy_157 (by decide) ?_
      refine z_iinc (v2 := x5 + 1) (lv2 := [some (.ref 160), none, none, some (.int p3), some (.int x4), some (.int (x5 + 1))]) dX12_fitsBy_180 rfl (by rfl) (by decide) rfl rfl ?_
      refine z_goto (tgt := 138) dX12_fitsBy_183 (by decide) ?_
      exact hv
def v_X12_fitsBy_112 (d : Nat) (Q : zQt) (p2 : Int32) (p3 : Int32) (x4 : Int32) (I : zI) (L : zL) (P : zP) : Prop :=
  ((12 < x4 →
    gw_X12_fitsBy (d + 1) Q 138 [some (.ref 160), none, none, some (.int p3), some (.int 0), some (.int 0)] [] I L P
  ) ∧ (¬ 12 < x4 →
    zMv zm_X12_nightOfAll d [.ref 160, .int x4, .int p2] I L P (fun I64 L65 P66 =>
      gw_X12_fitsBy (d + 1) Q 112 [some (.ref 160), none, some (.int p2), some (.int p3), some (.int (x4 + 1)), none] [] I64 L65 P66
    )
  ))
set_option maxRecDepth 20000 in
theorem g_X12_fitsBy_112 {d : Nat} {Q : zQt} {p2 : Int32} {p3 : Int32} {x4 : Int32} {I : zI} {L : zL} {P : zP} (hP : zPk P) (hv : v_X12_fitsBy_112 d Q p2 p3 x4 I L P) : gw_X12_fitsBy (d + 1) Q 112 [some (.ref 160), none, some (.int p2), some (.int p3), some (.int x4), none] [] I L P := by
  unfold v_X12_fitsBy_112 at hv
  refine z_iload dX12_fitsBy_112 rfl ?_
  refine z_bipush (v := 12) dX12_fitsBy_114 (by decide) ?_
  refine z_icmp_gt (tgt := 132) dX12_fitsBy_116 (by decide) (fun q69 => ?_) (fun q69 => ?_)
  · have hv := hv.1 q69
    refine z_iconst (v := 0) dX12_fitsBy_132 (by decide) ?_
    refine z_istore (lv2 := [some (.ref 160), none, some (.int p2), some (.int p3), some (.int 0), none]) dX12_fitsBy_133 (by decide) rfl rfl ?_
    refine z_iconst (v := 0) dX12_fitsBy_135 (by decide) ?_
    refine z_istore (lv2 := [some (.ref 160), none, some (.int p2), some (.int p3), some (.int 0), some (.int 0)]) dX12_fitsBy_136 (by decide) rfl rfl ?_
    exact z_sub (by exact ⟨rfl, ⟨rfl, ⟨rfl, ⟨rfl, trivial⟩⟩⟩⟩) hv
  · have hv := hv.2 q69
    refine z_aload_n dX12_fitsBy_119 rfl ?_
    refine z_iload dX12_fitsBy_120 rfl ?_
    refine z_iload_n dX12_fitsBy_122 rfl ?_
    refine z_callV (As := [.int x4, .int p2]) (st := []) dX12_fitsBy_123 zl_X12_448 zv_X12_nightOfAll (by decide) rfl zn_160 zo_160 rfl rfl (Nat.le_of_ble_eq_true rfl) ⟨Nat.le_refl _, Nat.le_refl _⟩ ⟨Nat.le_refl _, Nat.le_refl _⟩ hv (fun v1 I64 L65 P66 nx1 q67 => ?_)
    obtain ⟨rfl, rfl, hv⟩ := q67
    refine z_iinc (v2 := x4 + 1) (lv2 := [some (.ref 160), none, some (.int p2), some (.int p3), some (.int (x4 + 1)), none]) dX12_fitsBy_126 rfl (by rfl) (by decide) rfl rfl ?_
    refine z_goto (tgt := 112) dX12_fitsBy_129 (by decide) ?_
    exact hv
def v_X12_fitsBy_39 (d : Nat) (Q : zQt) (p1 : Int32) (p2 : Int32) (p3 : Int32) (x4 : Int32) (I : zI) (L : zL) (P : zP) : Prop :=
  zMi zm_X12_worldMany d [.ref 160] I L P (fun r12 I8 L9 P10 =>
    ((r12 ≤ x4 →
      gw_X12_fitsBy (d + 1) Q 112 [some (.ref 160), none, some (.int p2), some (.int p3), some (.int 1), none] [] I8 L9 P10
    ) ∧ (¬ r12 ≤ x4 →
      ((p1 < 0 →
        zPk P10 ∧
        (((1 : Int32) = 0 →
          vp_in x4 64 ∧
          ∀ I16 : zI, I16 = zuI I8 193 x4.toNatClampNeg (-1) →
          ∀ I18 : zI, I18 = zuI I16 198 x4.toNatClampNeg 1 →
          ∀ I20 : zI, I20 = zuI I18 194 x4.toNatClampNeg 0 →
          gw_X12_fitsBy (d + 1) Q 39 [some (.ref 160), some (.int p1), some (.int p2), some (.int p3), some (.int (x4 + 1)), none] [] I20 L9 P10
        ) ∧ (¬ (1 : Int32) = 0 →
          vp_in x4 64 ∧
          ∀ I23 : zI, I23 = zuI I8 193 x4.toNatClampNeg 0 →
          ∀ I25 : zI, I25 = zuI I23 198 x4.toNatClampNeg 1 →
          ∀ I27 : zI, I27 = zuI I25 194 x4.toNatClampNeg 0 →
          gw_X12_fitsBy (d + 1) Q 39 [some (.ref 160), some (.int p1), some (.int p2), some (.int p3), some (.int (x4 + 1)), none] [] I27 L9 P10
        ))
      ) ∧ (¬ p1 < 0 →
        zPk P10 ∧
        vp_in x4 12288 ∧
        (((I8 183 x4.toNatClampNeg) = 0 →
          (((0 : Int32) = 0 →
            vp_in x4 64 ∧
            ∀ I33 : zI, I33 = zuI I8 193 x4.toNatClampNeg (-1) →
            ∀ I35 : zI, I35 = zuI I33 198 x4.toNatClampNeg 0 →
            ∀ I37 : zI, I37 = zuI I35 194 x4.toNatClampNeg 0 →
            gw_X12_fitsBy (d + 1) Q 39 [some (.ref 160), some (.int p1), some (.int p2), some (.int p3), some (.int (x4 + 1)), none] [] I37 L9 P10
          ) ∧ (¬ (0 : Int32) = 0 →
            vp_in x4 64 ∧
            ∀ I40 : zI, I40 = zuI I8 193 x4.toNatClampNeg 0 →
            ∀ I42 : zI, I42 = zuI I40 198 x4.toNatClampNeg 0 →
            ∀ I44 : zI, I44 = zuI I42 194 x4.toNatClampNeg 0 →
            gw_X12_fitsBy (d + 1) Q 39 [some (.ref 160), some (.int p1), some (.int p2), some (.int p3), some (.int (x4 + 1)), none] [] I44 L9 P10
          ))
        ) ∧ (¬ (I8 183 x4.toNatClampNeg) = 0 →
          (((1 : Int32) = 0 →
            vp_in x4 64 ∧
            ∀ I48 : zI, I48 = zuI I8 193 x4.toNatClampNeg (-1) →
            ∀ I50 : zI, I50 = zuI I48 198 x4.toNatClampNeg 1 →
            ∀ I52 : zI, I52 = zuI I50 194 x4.toNatClampNeg 0 →
            gw_X12_fitsBy (d + 1) Q 39 [some (.ref 160), some (.int p1), some (.int p2), some (.int p3), some (.int (x4 + 1)), none] [] I52 L9 P10
          ) ∧ (¬ (1 : Int32) = 0 →
            vp_in x4 64 ∧
            ∀ I55 : zI, I55 = zuI I8 193 x4.toNatClampNeg 0 →
            ∀ I57 : zI, I57 = zuI I55 198 x4.toNatClampNeg 1 →
            ∀ I59 : zI, I59 = zuI I57 194 x4.toNatClampNeg 0 →
            gw_X12_fitsBy (d + 1) Q 39 [some (.ref 160), some (.int p1), some (.int p2), some (.int p3), some (.int (x4 + 1)), none] [] I59 L9 P10
          ))
        ))
      ))
    ))
  )
set_option maxRecDepth 20000 in
theorem g_X12_fitsBy_39 {d : Nat} {Q : zQt} {p1 : Int32} {p2 : Int32} {p3 : Int32} {x4 : Int32} {I : zI} {L : zL} {P : zP} (hP : zPk P) (hv : v_X12_fitsBy_39 d Q p1 p2 p3 x4 I L P) : gw_X12_fitsBy (d + 1) Q 39 [some (.ref 160), some (.int p1), some (.int p2), some (.int p3), some (.int x4), none] [] I L P := by
  unfold v_X12_fitsBy_39 at hv
  refine z_iload dX12_fitsBy_39 rfl ?_
  refine z_aload_n dX12_fitsBy_41 rfl ?_
  refine z_callV (As := []) (st := [.int x4]) dX12_fitsBy_42 zl_X12_346 zv_X12_worldMany (by decide) rfl zn_160 zo_160 rfl rfl (Nat.le_of_ble_eq_true rfl) ⟨Nat.le_refl _, Nat.le_refl _⟩ ⟨Nat.le_refl _, Nat.le_refl _⟩ hv (fun v1 I8 L9 P10 nx1 q11 => ?_)
  obtain ⟨rfl, r12, rfl, hv⟩ := q11
  refine z_icmp_ge (tgt := 109) dX12_fitsBy_45 (by decide) (fun q63 => ?_) (fun q63 => ?_)
  · have hv := hv.1 q63
    refine z_iconst (v := 1) dX12_fitsBy_109 (by decide) ?_
    refine z_istore (lv2 := [some (.ref 160), some (.int p1), some (.int p2), some (.int p3), some (.int 1), none]) dX12_fitsBy_110 (by decide) rfl rfl ?_
    exact z_sub (by exact ⟨rfl, ⟨rfl, ⟨rfl, ⟨rfl, trivial⟩⟩⟩⟩) hv
  · have hv := hv.2 q63
    refine z_iload_n dX12_fitsBy_48 rfl ?_
    refine z_if_lt (tgt := 62) dX12_fitsBy_49 (by decide) (fun q62 => ?_) (fun q62 => ?_)
    · have hv := hv.1 q62
      refine z_iconst (v := 1) dX12_fitsBy_62 (by decide) ?_
      refine z_goto (tgt := 67) dX12_fitsBy_63 (by decide) ?_
      refine z_istore (lv2 := [some (.ref 160), some (.int p1), some (.int p2), some (.int p3), some (.int x4), some (.int 1)]) dX12_fitsBy_67 (by decide) rfl rfl ?_
      refine z_aload_n dX12_fitsBy_69 rfl ?_
      obtain ⟨h13, hv⟩ := hv
      refine z_getP dX12_fitsBy_70 zf_X12_113 zn_160 zo_160 (fun _ _ _ _ _ => rfl) (h13 160 53 193 zp_160_53) ?_
      refine z_iload dX12_fitsBy_73 rfl ?_
      refine z_iload dX12_fitsBy_75 rfl ?_
      refine z_if_eq (tgt := 84) dX12_fitsBy_77 (by decide) (fun q28 => ?_) (fun q28 => ?_)
      · have hv := hv.1 q28
        refine z_iconst (v := (-1)) dX12_fitsBy_84 (by decide) ?_
        obtain ⟨h14, hv⟩ := hv
        refine z_iastore dX12_fitsBy_85 zn_193 zh_193 h14 (z_nmI (fun I16 e15 => ?_))
        have hv := hv I16 e15
        refine z_aload_n dX12_fitsBy_86 rfl ?_
        refine z_getP dX12_fitsBy_87 zf_X12_128 zn_160 zo_160 (fun _ _ _ _ _ => rfl) (h13 160 58 198 zp_160_58) ?_
        refine z_iload dX12_fitsBy_90 rfl ?_
        refine z_iload dX12_fitsBy_92 rfl ?_
        refine z_zastore (w := 1) dX12_fitsBy_94 zn_198 zh_198 h14 (by decide) (z_nmI (fun I18 e17 => ?_))
        have hv := hv I18 e17
        refine z_aload_n dX12_fitsBy_95 rfl ?_
        refine z_getP dX12_fitsBy_96 zf_X12_116 zn_160 zo_160 (fun _ _ _ _ _ => rfl) (h13 160 54 194 zp_160_54) ?_
        refine z_iload dX12_fitsBy_99 rfl ?_
        refine z_iconst (v := 0) dX12_fitsBy_101 (by decide) ?_
        refine z_iastore dX12_fitsBy_102 zn_194 zh_194 h14 (z_nmI (fun I20 e19 => ?_))
        have hv := hv I20 e19
        refine z_iinc (v2 := x4 + 1) (lv2 := [some (.ref 160), some (.int p1), some (.int p2), some (.int p3), some (.int (x4 + 1)), some (.int 1)]) dX12_fitsBy_103 rfl (by rfl) (by decide) rfl rfl ?_
        refine z_goto (tgt := 39) dX12_fitsBy_106 (by decide) ?_
        exact z_sub (by exact ⟨rfl, ⟨rfl, ⟨rfl, ⟨rfl, ⟨rfl, trivial⟩⟩⟩⟩⟩) hv
      · have hv := hv.2 q28
        refine z_iconst (v := 0) dX12_fitsBy_80 (by decide) ?_
        refine z_goto (tgt := 85) dX12_fitsBy_81 (by decide) ?_
        obtain ⟨h21, hv⟩ := hv
        refine z_iastore dX12_fitsBy_85 zn_193 zh_193 h21 (z_nmI (fun I23 e22 => ?_))
        have hv := hv I23 e22
        refine z_aload_n dX12_fitsBy_86 rfl ?_
        refine z_getP dX12_fitsBy_87 zf_X12_128 zn_160 zo_160 (fun _ _ _ _ _ => rfl) (h13 160 58 198 zp_160_58) ?_
        refine z_iload dX12_fitsBy_90 rfl ?_
        refine z_iload dX12_fitsBy_92 rfl ?_
        refine z_zastore (w := 1) dX12_fitsBy_94 zn_198 zh_198 h21 (by decide) (z_nmI (fun I25 e24 => ?_))
        have hv := hv I25 e24
        refine z_aload_n dX12_fitsBy_95 rfl ?_
        refine z_getP dX12_fitsBy_96 zf_X12_116 zn_160 zo_160 (fun _ _ _ _ _ => rfl) (h13 160 54 194 zp_160_54) ?_
        refine z_iload dX12_fitsBy_99 rfl ?_
        refine z_iconst (v := 0) dX12_fitsBy_101 (by decide) ?_
        refine z_iastore dX12_fitsBy_102 zn_194 zh_194 h21 (z_nmI (fun I27 e26 => ?_))
        have hv := hv I27 e26
        refine z_iinc (v2 := x4 + 1) (lv2 := [some (.ref 160), some (.int p1), some (.int p2), some (.int p3), some (.int (x4 + 1)), some (.int 1)]) dX12_fitsBy_103 rfl (by rfl) (by decide) rfl rfl ?_
        refine z_goto (tgt := 39) dX12_fitsBy_106 (by decide) ?_
        exact z_sub (by exact ⟨rfl, ⟨rfl, ⟨rfl, ⟨rfl, ⟨rfl, trivial⟩⟩⟩⟩⟩) hv
    · have hv := hv.2 q62
      refine z_aload_n dX12_fitsBy_52 rfl ?_
      obtain ⟨h29, hv⟩ := hv
      refine z_getP dX12_fitsBy_53 zf_X12_83 zn_160 zo_160 (fun _ _ _ _ _ => rfl) (h29 160 41 183 zp_160_41) ?_
      refine z_iload dX12_fitsBy_56 rfl ?_
      obtain ⟨h30, hv⟩ := hv
      refine z_iaload dX12_fitsBy_58 zn_183 zh_183 h30 ?_
      refine z_if_eq (tgt := 66) dX12_fitsBy_59 (by decide) (fun q61 => ?_) (fun q61 => ?_)
      · have hv := hv.1 q61
        refine z_iconst (v := 0) dX12_fitsBy_66 (by decide) ?_
        refine z_istore (lv2 := [some (.ref 160), some (.int p1), some (.int p2), some (.int p3), some (.int x4), some (.int 0)]) dX12_fitsBy_67 (by decide) rfl rfl ?_
        refine z_aload_n dX12_fitsBy_69 rfl ?_
        refine z_getP dX12_fitsBy_70 zf_X12_113 zn_160 zo_160 (fun _ _ _ _ _ => rfl) (h29 160 53 193 zp_160_53) ?_
        refine z_iload dX12_fitsBy_73 rfl ?_
        refine z_iload dX12_fitsBy_75 rfl ?_
        refine z_if_eq (tgt := 84) dX12_fitsBy_77 (by decide) (fun q45 => ?_) (fun q45 => ?_)
        · have hv := hv.1 q45
          refine z_iconst (v := (-1)) dX12_fitsBy_84 (by decide) ?_
          obtain ⟨h31, hv⟩ := hv
          refine z_iastore dX12_fitsBy_85 zn_193 zh_193 h31 (z_nmI (fun I33 e32 => ?_))
          have hv := hv I33 e32
          refine z_aload_n dX12_fitsBy_86 rfl ?_
          refine z_getP dX12_fitsBy_87 zf_X12_128 zn_160 zo_160 (fun _ _ _ _ _ => rfl) (h29 160 58 198 zp_160_58) ?_
          refine z_iload dX12_fitsBy_90 rfl ?_
          refine z_iload dX12_fitsBy_92 rfl ?_
          refine z_zastore (w := 0) dX12_fitsBy_94 zn_198 zh_198 h31 (by decide) (z_nmI (fun I35 e34 => ?_))
          have hv := hv I35 e34
          refine z_aload_n dX12_fitsBy_95 rfl ?_
          refine z_getP dX12_fitsBy_96 zf_X12_116 zn_160 zo_160 (fun _ _ _ _ _ => rfl) (h29 160 54 194 zp_160_54) ?_
          refine z_iload dX12_fitsBy_99 rfl ?_
          refine z_iconst (v := 0) dX12_fitsBy_101 (by decide) ?_
          refine z_iastore dX12_fitsBy_102 zn_194 zh_194 h31 (z_nmI (fun I37 e36 => ?_))
          have hv := hv I37 e36
          refine z_iinc (v2 := x4 + 1) (lv2 := [some (.ref 160), some (.int p1), some (.int p2), some (.int p3), some (.int (x4 + 1)), some (.int 0)]) dX12_fitsBy_103 rfl (by rfl) (by decide) rfl rfl ?_
          refine z_goto (tgt := 39) dX12_fitsBy_106 (by decide) ?_
          exact z_sub (by exact ⟨rfl, ⟨rfl, ⟨rfl, ⟨rfl, ⟨rfl, trivial⟩⟩⟩⟩⟩) hv
        · have hv := hv.2 q45
          refine z_iconst (v := 0) dX12_fitsBy_80 (by decide) ?_
          refine z_goto (tgt := 85) dX12_fitsBy_81 (by decide) ?_
          obtain ⟨h38, hv⟩ := hv
          refine z_iastore dX12_fitsBy_85 zn_193 zh_193 h38 (z_nmI (fun I40 e39 => ?_))
          have hv := hv I40 e39
          refine z_aload_n dX12_fitsBy_86 rfl ?_
          refine z_getP dX12_fitsBy_87 zf_X12_128 zn_160 zo_160 (fun _ _ _ _ _ => rfl) (h29 160 58 198 zp_160_58) ?_
          refine z_iload dX12_fitsBy_90 rfl ?_
          refine z_iload dX12_fitsBy_92 rfl ?_
          refine z_zastore (w := 0) dX12_fitsBy_94 zn_198 zh_198 h38 (by decide) (z_nmI (fun I42 e41 => ?_))
          have hv := hv I42 e41
          refine z_aload_n dX12_fitsBy_95 rfl ?_
          refine z_getP dX12_fitsBy_96 zf_X12_116 zn_160 zo_160 (fun _ _ _ _ _ => rfl) (h29 160 54 194 zp_160_54) ?_
          refine z_iload dX12_fitsBy_99 rfl ?_
          refine z_iconst (v := 0) dX12_fitsBy_101 (by decide) ?_
          refine z_iastore dX12_fitsBy_102 zn_194 zh_194 h38 (z_nmI (fun I44 e43 => ?_))
          have hv := hv I44 e43
          refine z_iinc (v2 := x4 + 1) (lv2 := [some (.ref 160), some (.int p1), some (.int p2), some (.int p3), some (.int (x4 + 1)), some (.int 0)]) dX12_fitsBy_103 rfl (by rfl) (by decide) rfl rfl ?_
          refine z_goto (tgt := 39) dX12_fitsBy_106 (by decide) ?_
          exact z_sub (by exact ⟨rfl, ⟨rfl, ⟨rfl, ⟨rfl, ⟨rfl, trivial⟩⟩⟩⟩⟩) hv
      · have hv := hv.2 q61
        refine z_iconst (v := 1) dX12_fitsBy_62 (by decide) ?_
        refine z_goto (tgt := 67) dX12_fitsBy_63 (by decide) ?_
        refine z_istore (lv2 := [some (.ref 160), some (.int p1), some (.int p2), some (.int p3), some (.int x4), some (.int 1)]) dX12_fitsBy_67 (by decide) rfl rfl ?_
        refine z_aload_n dX12_fitsBy_69 rfl ?_
        refine z_getP dX12_fitsBy_70 zf_X12_113 zn_160 zo_160 (fun _ _ _ _ _ => rfl) (h29 160 53 193 zp_160_53) ?_
        refine z_iload dX12_fitsBy_73 rfl ?_
        refine z_iload dX12_fitsBy_75 rfl ?_
        refine z_if_eq (tgt := 84) dX12_fitsBy_77 (by decide) (fun q60 => ?_) (fun q60 => ?_)
        · have hv := hv.1 q60
          refine z_iconst (v := (-1)) dX12_fitsBy_84 (by decide) ?_
          obtain ⟨h46, hv⟩ := hv
          refine z_iastore dX12_fitsBy_85 zn_193 zh_193 h46 (z_nmI (fun I48 e47 => ?_))
          have hv := hv I48 e47
          refine z_aload_n dX12_fitsBy_86 rfl ?_
          refine z_getP dX12_fitsBy_87 zf_X12_128 zn_160 zo_160 (fun _ _ _ _ _ => rfl) (h29 160 58 198 zp_160_58) ?_
          refine z_iload dX12_fitsBy_90 rfl ?_
          refine z_iload dX12_fitsBy_92 rfl ?_
          refine z_zastore (w := 1) dX12_fitsBy_94 zn_198 zh_198 h46 (by decide) (z_nmI (fun I50 e49 => ?_))
          have hv := hv I50 e49
          refine z_aload_n dX12_fitsBy_95 rfl ?_
          refine z_getP dX12_fitsBy_96 zf_X12_116 zn_160 zo_160 (fun _ _ _ _ _ => rfl) (h29 160 54 194 zp_160_54) ?_
          refine z_iload dX12_fitsBy_99 rfl ?_
          refine z_iconst (v := 0) dX12_fitsBy_101 (by decide) ?_
          refine z_iastore dX12_fitsBy_102 zn_194 zh_194 h46 (z_nmI (fun I52 e51 => ?_))
          have hv := hv I52 e51
          refine z_iinc (v2 := x4 + 1) (lv2 := [some (.ref 160), some (.int p1), some (.int p2), some (.int p3), some (.int (x4 + 1)), some (.int 1)]) dX12_fitsBy_103 rfl (by rfl) (by decide) rfl rfl ?_
          refine z_goto (tgt := 39) dX12_fitsBy_106 (by decide) ?_
          exact z_sub (by exact ⟨rfl, ⟨rfl, ⟨rfl, ⟨rfl, ⟨rfl, trivial⟩⟩⟩⟩⟩) hv
        · have hv := hv.2 q60
          refine z_iconst (v := 0) dX12_fitsBy_80 (by decide) ?_
          refine z_goto (tgt := 85) dX12_fitsBy_81 (by decide) ?_
          obtain ⟨h53, hv⟩ := hv
          refine z_iastore dX12_fitsBy_85 zn_193 zh_193 h53 (z_nmI (fun I55 e54 => ?_))
          have hv := hv I55 e54
          refine z_aload_n dX12_fitsBy_86 rfl ?_
          refine z_getP dX12_fitsBy_87 zf_X12_128 zn_160 zo_160 (fun _ _ _ _ _ => rfl) (h29 160 58 198 zp_160_58) ?_
          refine z_iload dX12_fitsBy_90 rfl ?_
          refine z_iload dX12_fitsBy_92 rfl ?_
          refine z_zastore (w := 1) dX12_fitsBy_94 zn_198 zh_198 h53 (by decide) (z_nmI (fun I57 e56 => ?_))
          have hv := hv I57 e56
          refine z_aload_n dX12_fitsBy_95 rfl ?_
          refine z_getP dX12_fitsBy_96 zf_X12_116 zn_160 zo_160 (fun _ _ _ _ _ => rfl) (h29 160 54 194 zp_160_54) ?_
          refine z_iload dX12_fitsBy_99 rfl ?_
          refine z_iconst (v := 0) dX12_fitsBy_101 (by decide) ?_
          refine z_iastore dX12_fitsBy_102 zn_194 zh_194 h53 (z_nmI (fun I59 e58 => ?_))
          have hv := hv I59 e58
          refine z_iinc (v2 := x4 + 1) (lv2 := [some (.ref 160), some (.int p1), some (.int p2), some (.int p3), some (.int (x4 + 1)), some (.int 1)]) dX12_fitsBy_103 rfl (by rfl) (by decide) rfl rfl ?_
          refine z_goto (tgt := 39) dX12_fitsBy_106 (by decide) ?_
          exact z_sub (by exact ⟨rfl, ⟨rfl, ⟨rfl, ⟨rfl, ⟨rfl, trivial⟩⟩⟩⟩⟩) hv
def v_X12_fitsBy (d : Nat) (Q : zQt) (p1 : Int32) (p2 : Int32) (p3 : Int32) (I : zI) (L : zL) (P : zP) : Prop :=
  ((p1 < 0 →
    gw_X12_fitsBy (d + 1) Q 39 [some (.ref 160), some (.int p1), some (.int p2), some (.int p3), some (.int 0), none] [] I L P
  ) ∧ (¬ p1 < 0 →
    vp_in (((6 : Int32) * (I 160 28)) + p1) 12 ∧
    zMv zm_X12_work d [.ref 160, .int (I 169 (((6 : Int32) * (I 160 28)) + p1).toNatClampNeg), .int (I 170 (((6 : Int32) * (I 160 28)) + p1).toNatClampNeg)] I L P (fun I2 L3 P4 =>
      gw_X12_fitsBy (d + 1) Q 39 [some (.ref 160), some (.int p1), some (.int p2), some (.int p3), some (.int 0), none] [] I2 L3 P4
    )
  ))
set_option maxRecDepth 20000 in
theorem g_X12_fitsBy {d : Nat} {Q : zQt} {p1 : Int32} {p2 : Int32} {p3 : Int32} {I : zI} {L : zL} {P : zP} (hP : zPk P) (hv : v_X12_fitsBy d Q p1 p2 p3 I L P) : zM zm_X12_fitsBy (d + 1) 0 0 [.ref 160, .int p1, .int p2, .int p3] I L P 205 Q := by
  unfold v_X12_fitsBy at hv
  refine zM_of (lv0 := [some (.ref 160), some (.int p1), some (.int p2), some (.int p3), none, none]) (by decide +kernel) (Nat.le_of_ble_eq_true rfl) rfl ?_
  refine z_iload_n dX12_fitsBy_0 rfl ?_
  refine z_if_lt (tgt := 36) dX12_fitsBy_1 (by decide) (fun q7 => ?_) (fun q7 => ?_)
  · have hv := hv.1 q7
    refine z_iconst (v := 0) dX12_fitsBy_36 (by decide) ?_
    refine z_istore (lv2 := [some (.ref 160), some (.int p1), some (.int p2), some (.int p3), some (.int 0), none]) dX12_fitsBy_37 (by decide) rfl rfl ?_
    exact hv
  · have hv := hv.2 q7
    refine z_aload_n dX12_fitsBy_4 rfl ?_
    refine z_aload_n dX12_fitsBy_5 rfl ?_
    refine z_getP dX12_fitsBy_6 zf_X12_39 zn_160 zo_160 (fun _ _ _ _ _ => rfl) (hP 160 17 169 zp_160_17) ?_
    refine z_bipush (v := 6) dX12_fitsBy_9 (by decide) ?_
    refine z_aload_n dX12_fitsBy_11 rfl ?_
    refine z_getI dX12_fitsBy_12 zf_X12_261 zn_160 zo_160 (fun _ _ _ _ _ => rfl) ?_
    refine z_imul dX12_fitsBy_15 ?_
    refine z_iload_n dX12_fitsBy_16 rfl ?_
    refine z_iadd dX12_fitsBy_17 ?_
    obtain ⟨h1, hv⟩ := hv
    refine z_iaload dX12_fitsBy_18 zn_169 zh_169 h1 ?_
    refine z_aload_n dX12_fitsBy_19 rfl ?_
    refine z_getP dX12_fitsBy_20 zf_X12_42 zn_160 zo_160 (fun _ _ _ _ _ => rfl) (hP 160 18 170 zp_160_18) ?_
    refine z_bipush (v := 6) dX12_fitsBy_23 (by decide) ?_
    refine z_aload_n dX12_fitsBy_25 rfl ?_
    refine z_getI dX12_fitsBy_26 zf_X12_261 zn_160 zo_160 (fun _ _ _ _ _ => rfl) ?_
    refine z_imul dX12_fitsBy_29 ?_
    refine z_iload_n dX12_fitsBy_30 rfl ?_
    refine z_iadd dX12_fitsBy_31 ?_
    refine z_iaload dX12_fitsBy_32 zn_170 zh_170 h1 ?_
    refine z_callV (As := [.int (I 169 (((6 : Int32) * (I 160 28)) + p1).toNatClampNeg), .int (I 170 (((6 : Int32) * (I 160 28)) + p1).toNatClampNeg)]) (st := []) dX12_fitsBy_33 zl_X12_407 zv_X12_work (by decide) rfl zn_160 zo_160 rfl rfl (Nat.le_of_ble_eq_true rfl) ⟨Nat.le_refl _, Nat.le_refl _⟩ ⟨Nat.le_refl _, Nat.le_refl _⟩ hv (fun v1 I2 L3 P4 nx1 q5 => ?_)
    obtain ⟨rfl, rfl, hv⟩ := q5
    refine z_iconst (v := 0) dX12_fitsBy_36 (by decide) ?_
    refine z_istore (lv2 := [some (.ref 160), some (.int p1), some (.int p2), some (.int p3), some (.int 0), none]) dX12_fitsBy_37 (by decide) rfl rfl ?_
    exact hv
abbrev gw_X12_fitsOf (d : Nat) (Q : zQt) (pc : Nat) (lv : zV) (st : List Value) (I : zI) (L : zL) (P : zP) : Prop := zW zm_X12_fitsOf (zRm d 0 0) 0 0 Q pc lv st I L P 205 0 0
def v_X12_fitsOf_19 (d : Nat) (Q : zQt) (p1 : Int32) (p2 : Int32) (x3 : Int32) (x4 : Int32) (I : zI) (L : zL) (P : zP) : Prop :=
  vp_in (I 160 28) 2 ∧
  (((I 165 (I 160 28).toNatClampNeg) ≤ x4 →
    zMv zm_X12_bring d [.ref 160, .int 3] I L P (fun I14 L15 P16 =>
      Q (some (.int x3)) I14 L15 P16 205
    )
  ) ∧ (¬ (I 165 (I 160 28).toNatClampNeg) ≤ x4 →
    zMi zm_X12_fitsBy d [.ref 160, .int x4, .int p1, .int p2] I L P (fun r23 I19 L20 P21 =>
      gw_X12_fitsOf (d + 1) Q 19 [some (.ref 160), some (.int p1), some (.int p2), some (.int (x3 + r23)), some (.int (x4 + 1))] [] I19 L20 P21
    )
  ))
set_option maxRecDepth 20000 in
theorem g_X12_fitsOf_19 {d : Nat} {Q : zQt} {p1 : Int32} {p2 : Int32} {x3 : Int32} {x4 : Int32} {I : zI} {L : zL} {P : zP} (hP : zPk P) (hv : v_X12_fitsOf_19 d Q p1 p2 x3 x4 I L P) : gw_X12_fitsOf (d + 1) Q 19 [some (.ref 160), some (.int p1), some (.int p2), some (.int x3), some (.int x4)] [] I L P := by
  unfold v_X12_fitsOf_19 at hv
  refine z_iload dX12_fitsOf_19 rfl ?_
  refine z_aload_n dX12_fitsOf_21 rfl ?_
  refine z_getP dX12_fitsOf_22 zf_X12_27 zn_160 zo_160 (fun _ _ _ _ _ => rfl) (hP 160 13 165 zp_160_13) ?_
  refine z_aload_n dX12_fitsOf_25 rfl ?_
  refine z_getI dX12_fitsOf_26 zf_X12_261 zn_160 zo_160 (fun _ _ _ _ _ => rfl) ?_
  obtain ⟨h13, hv⟩ := hv
  refine z_iaload dX12_fitsOf_29 zn_165 zh_165 h13 ?_
  refine z_icmp_ge (tgt := 50) dX12_fitsOf_30 (by decide) (fun q24 => ?_) (fun q24 => ?_)
  · have hv := hv.1 q24
    refine z_aload_n dX12_fitsOf_50 rfl ?_
    refine z_iconst (v := 3) dX12_fitsOf_51 (by decide) ?_
    refine z_callV (As := [.int 3]) (st := []) dX12_fitsOf_52 zl_X12_431 zv_X12_bring (by decide) rfl zn_160 zo_160 rfl rfl (Nat.le_of_ble_eq_true rfl) ⟨Nat.le_refl _, Nat.le_refl _⟩ ⟨Nat.le_refl _, Nat.le_refl _⟩ hv (fun v1 I14 L15 P16 nx1 q17 => ?_)
    obtain ⟨rfl, rfl, hv⟩ := q17
    refine z_iload_n dX12_fitsOf_55 rfl ?_
    exact z_ireturn dX12_fitsOf_56 rfl rfl (Nat.le_refl _) (Nat.le_refl _) hv
  · have hv := hv.2 q24
    refine z_iload_n dX12_fitsOf_33 rfl ?_
    refine z_aload_n dX12_fitsOf_34 rfl ?_
    refine z_iload dX12_fitsOf_35 rfl ?_
    refine z_iload_n dX12_fitsOf_37 rfl ?_
    refine z_iload_n dX12_fitsOf_38 rfl ?_
    refine z_callV (As := [.int x4, .int p1, .int p2]) (st := [.int x3]) dX12_fitsOf_39 zl_X12_454 zv_X12_fitsBy (by decide) rfl zn_160 zo_160 rfl rfl (Nat.le_of_ble_eq_true rfl) ⟨Nat.le_refl _, Nat.le_refl _⟩ ⟨Nat.le_refl _, Nat.le_refl _⟩ hv (fun v1 I19 L20 P21 nx1 q22 => ?_)
    obtain ⟨rfl, r23, rfl, hv⟩ := q22
    refine z_iadd dX12_fitsOf_42 ?_
    refine z_istore_n (lv2 := [some (.ref 160), some (.int p1), some (.int p2), some (.int (x3 + r23)), some (.int x4)]) dX12_fitsOf_43 (by decide) rfl rfl ?_
    refine z_iinc (v2 := x4 + 1) (lv2 := [some (.ref 160), some (.int p1), some (.int p2), some (.int (x3 + r23)), some (.int (x4 + 1))]) dX12_fitsOf_44 rfl (by rfl) (by decide) rfl rfl ?_
    refine z_goto (tgt := 19) dX12_fitsOf_47 (by decide) ?_
    exact hv
def v_X12_fitsOf (d : Nat) (Q : zQt) (p1 : Int32) (p2 : Int32) (I : zI) (L : zL) (P : zP) : Prop :=
  zMv zm_X12_keep d [.ref 160, .int 3] I L P (fun I1 L2 P3 =>
    zMv zm_X12_begin d [.ref 160] I1 L2 P3 (fun I6 L7 P8 =>
      ∀ I11 : zI, I11 = zuI I6 160 61 0 →
      gw_X12_fitsOf (d + 1) Q 19 [some (.ref 160), some (.int p1), some (.int p2), some (.int 0), some (.int (-1))] [] I11 L7 P8
    )
  )
set_option maxRecDepth 20000 in
theorem g_X12_fitsOf {d : Nat} {Q : zQt} {p1 : Int32} {p2 : Int32} {I : zI} {L : zL} {P : zP} (hP : zPk P) (hv : v_X12_fitsOf d Q p1 p2 I L P) : zM zm_X12_fitsOf (d + 1) 0 0 [.ref 160, .int p1, .int p2] I L P 205 Q := by
  unfold v_X12_fitsOf at hv
  refine zM_of (lv0 := [some (.ref 160), some (.int p1), some (.int p2), none, none]) (by decide +kernel) (Nat.le_of_ble_eq_true rfl) rfl ?_
  refine z_aload_n dX12_fitsOf_0 rfl ?_
  refine z_iconst (v := 3) dX12_fitsOf_1 (by decide) ?_
  refine z_callV (As := [.int 3]) (st := []) dX12_fitsOf_2 zl_X12_428 zv_X12_keep (by decide) rfl zn_160 zo_160 rfl rfl (Nat.le_of_ble_eq_true rfl) ⟨Nat.le_refl _, Nat.le_refl _⟩ ⟨Nat.le_refl _, Nat.le_refl _⟩ hv (fun v1 I1 L2 P3 nx1 q4 => ?_)
  obtain ⟨rfl, rfl, hv⟩ := q4
  refine z_aload_n dX12_fitsOf_5 rfl ?_
  refine z_callV (As := []) (st := []) dX12_fitsOf_6 zl_X12_152 zv_X12_begin (by decide) rfl zn_160 zo_160 rfl rfl (Nat.le_of_ble_eq_true rfl) ⟨Nat.le_refl _, Nat.le_refl _⟩ ⟨Nat.le_refl _, Nat.le_refl _⟩ hv (fun v1 I6 L7 P8 nx1 q9 => ?_)
  obtain ⟨rfl, rfl, hv⟩ := q9
  refine z_aload_n dX12_fitsOf_9 rfl ?_
  refine z_iconst (v := 0) dX12_fitsOf_10 (by decide) ?_
  refine z_putI dX12_fitsOf_11 zf_X12_451 zn_160 zo_160 (Or.inl rfl) (fun _ _ _ _ _ => rfl) rfl rfl (z_nmI (fun I11 e12 => ?_))
  have hv := hv I11 e12
  refine z_iconst (v := 0) dX12_fitsOf_14 (by decide) ?_
  refine z_istore_n (lv2 := [some (.ref 160), some (.int p1), some (.int p2), some (.int 0), none]) dX12_fitsOf_15 (by decide) rfl rfl ?_
  refine z_iconst (v := (-1)) dX12_fitsOf_16 (by decide) ?_
  refine z_istore (lv2 := [some (.ref 160), some (.int p1), some (.int p2), some (.int 0), some (.int (-1))]) dX12_fitsOf_17 (by decide) rfl rfl ?_
  exact hv
abbrev gw_X12_fits (d : Nat) (Q : zQt) (pc : Nat) (lv : zV) (st : List Value) (I : zI) (L : zL) (P : zP) : Prop := zW zm_X12_fits (zRm d 0 0) 0 0 Q pc lv st I L P 205 0 0
def v_X12_fits (d : Nat) (Q : zQt) (p1 : Int32) (I : zI) (L : zL) (P : zP) : Prop :=
  zMi zm_X12_manyOf d [.ref 160] I L P (fun r5 I1 L2 P3 =>
    ((r5 ≤ 6 →
      zMi zm_X12_fitsOf d [.ref 160, .int p1, .int 0] I1 L2 P3 (fun r10 I6 L7 P8 =>
        Q (some (.int r10)) I6 L7 P8 205
      )
    ) ∧ (¬ r5 ≤ 6 →
      Q (some (.int (-2))) I1 L2 P3 205
    ))
  )
set_option maxRecDepth 20000 in
theorem g_X12_fits {d : Nat} {Q : zQt} {p1 : Int32} {I : zI} {L : zL} {P : zP} (hP : zPk P) (hv : v_X12_fits d Q p1 I L P) : zM zm_X12_fits (d + 1) 0 0 [.ref 160, .int p1] I L P 205 Q := by
  unfold v_X12_fits at hv
  refine zM_of (lv0 := [some (.ref 160), some (.int p1)]) (by decide +kernel) (Nat.le_of_ble_eq_true rfl) rfl ?_
  refine z_aload_n dX12_fits_0 rfl ?_
  refine z_callV (As := []) (st := []) dX12_fits_1 zl_X12_339 zv_X12_manyOf (by decide) rfl zn_160 zo_160 rfl rfl (Nat.le_of_ble_eq_true rfl) ⟨Nat.le_refl _, Nat.le_refl _⟩ ⟨Nat.le_refl _, Nat.le_refl _⟩ hv (fun v1 I1 L2 P3 nx1 q4 => ?_)
  obtain ⟨rfl, r5, rfl, hv⟩ := q4
  refine z_bipush (v := 6) dX12_fits_4 (by decide) ?_
  refine z_icmp_le (tgt := 14) dX12_fits_6 (by decide) (fun q11 => ?_) (fun q11 => ?_)
  · have hv := hv.1 q11
    refine z_aload_n dX12_fits_14 rfl ?_
    refine z_iload_n dX12_fits_15 rfl ?_
    refine z_iconst (v := 0) dX12_fits_16 (by decide) ?_
    refine z_callV (As := [.int p1, .int 0]) (st := []) dX12_fits_17 zl_X12_457 zv_X12_fitsOf (by decide) rfl zn_160 zo_160 rfl rfl (Nat.le_of_ble_eq_true rfl) ⟨Nat.le_refl _, Nat.le_refl _⟩ ⟨Nat.le_refl _, Nat.le_refl _⟩ hv (fun v1 I6 L7 P8 nx1 q9 => ?_)
    obtain ⟨rfl, r10, rfl, hv⟩ := q9
    exact z_ireturn dX12_fits_20 rfl rfl (Nat.le_refl _) (Nat.le_refl _) hv
  · have hv := hv.2 q11
    refine z_bipush (v := (-2)) dX12_fits_9 (by decide) ?_
    refine z_goto (tgt := 20) dX12_fits_11 (by decide) ?_
    exact z_ireturn dX12_fits_20 rfl rfl (Nat.le_refl _) (Nat.le_refl _) hv
abbrev gw_X12_sure (d : Nat) (Q : zQt) (pc : Nat) (lv : zV) (st : List Value) (I : zI) (L : zL) (P : zP) : Prop := zW zm_X12_sure (zRm d 0 0) 0 0 Q pc lv st I L P 205 0 0
def v_X12_sure (d : Nat) (Q : zQt) (p1 : Int32) (p2 : Int32) (I : zI) (L : zL) (P : zP) : Prop :=
  zMi zm_X12_isOne d [.ref 160, .int p1] I L P (fun r5 I1 L2 P3 =>
    ((¬ r5 = 0 →
      zMi zm_X12_manyOf d [.ref 160] I1 L2 P3 (fun r10 I6 L7 P8 =>
        ((r10 ≤ 6 →
          zMi zm_X12_fitsOf d [.ref 160, .int p2, .int p1] I6 L7 P8 (fun r15 I11 L12 P13 =>
            ((¬ r15 = 0 →
              ((¬ (I11 160 61) = 3 →
                Q (some (.int ((I11 160 61) - 1))) I11 L12 P13 205
              ) ∧ ((I11 160 61) = 3 →
                Q (some (.int (-2))) I11 L12 P13 205
              ))
            ) ∧ (r15 = 0 →
              Q (some (.int (-1))) I11 L12 P13 205
            ))
          )
        ) ∧ (¬ r10 ≤ 6 →
          Q (some (.int (-3))) I6 L7 P8 205
        ))
      )
    ) ∧ (r5 = 0 →
      Q (some (.int (-1))) I1 L2 P3 205
    ))
  )
set_option maxRecDepth 20000 in
theorem g_X12_sure {d : Nat} {Q : zQt} {p1 : Int32} {p2 : Int32} {I : zI} {L : zL} {P : zP} (hP : zPk P) (hv : v_X12_sure d Q p1 p2 I L P) : zM zm_X12_sure (d + 1) 0 0 [.ref 160, .int p1, .int p2] I L P 205 Q := by
  unfold v_X12_sure at hv
  refine zM_of (lv0 := [some (.ref 160), some (.int p1), some (.int p2)]) (by decide +kernel) (Nat.le_of_ble_eq_true rfl) rfl ?_
  refine z_aload_n dX12_sure_0 rfl ?_
  refine z_iload_n dX12_sure_1 rfl ?_
  refine z_callV (As := [.int p1]) (st := []) dX12_sure_2 zl_X12_365 zv_X12_isOne (by decide) rfl zn_160 zo_160 rfl rfl (Nat.le_of_ble_eq_true rfl) ⟨Nat.le_refl _, Nat.le_refl _⟩ ⟨Nat.le_refl _, Nat.le_refl _⟩ hv (fun v1 I1 L2 P3 nx1 q4 => ?_)
  obtain ⟨rfl, r5, rfl, hv⟩ := q4
  refine z_if_ne (tgt := 10) dX12_sure_5 (by decide) (fun q19 => ?_) (fun q19 => ?_)
  · have hv := hv.1 q19
    refine z_aload_n dX12_sure_10 rfl ?_
    refine z_callV (As := []) (st := []) dX12_sure_11 zl_X12_339 zv_X12_manyOf (by decide) rfl zn_160 zo_160 rfl rfl (Nat.le_of_ble_eq_true rfl) ⟨Nat.le_refl _, Nat.le_refl _⟩ ⟨Nat.le_refl _, Nat.le_refl _⟩ hv (fun v1 I6 L7 P8 nx1 q9 => ?_)
    obtain ⟨rfl, r10, rfl, hv⟩ := q9
    refine z_bipush (v := 6) dX12_sure_14 (by decide) ?_
    refine z_icmp_le (tgt := 22) dX12_sure_16 (by decide) (fun q18 => ?_) (fun q18 => ?_)
    · have hv := hv.1 q18
      refine z_aload_n dX12_sure_22 rfl ?_
      refine z_iload_n dX12_sure_23 rfl ?_
      refine z_iload_n dX12_sure_24 rfl ?_
      refine z_callV (As := [.int p2, .int p1]) (st := []) dX12_sure_25 zl_X12_457 zv_X12_fitsOf (by decide) rfl zn_160 zo_160 rfl rfl (Nat.le_of_ble_eq_true rfl) ⟨Nat.le_refl _, Nat.le_refl _⟩ ⟨Nat.le_refl _, Nat.le_refl _⟩ hv (fun v1 I11 L12 P13 nx1 q14 => ?_)
      obtain ⟨rfl, r15, rfl, hv⟩ := q14
      refine z_if_ne (tgt := 35) dX12_sure_28 (by decide) (fun q17 => ?_) (fun q17 => ?_)
      · have hv := hv.1 q17
        refine z_aload_n dX12_sure_35 rfl ?_
        refine z_getI dX12_sure_36 zf_X12_451 zn_160 zo_160 (fun _ _ _ _ _ => rfl) ?_
        refine z_iconst (v := 3) dX12_sure_39 (by decide) ?_
        refine z_icmp_ne (tgt := 48) dX12_sure_40 (by decide) (fun q16 => ?_) (fun q16 => ?_)
        · have hv := hv.1 q16
          refine z_aload_n dX12_sure_48 rfl ?_
          refine z_getI dX12_sure_49 zf_X12_451 zn_160 zo_160 (fun _ _ _ _ _ => rfl) ?_
          refine z_iconst (v := 1) dX12_sure_52 (by decide) ?_
          refine z_isub dX12_sure_53 ?_
          exact z_ireturn dX12_sure_54 rfl rfl (Nat.le_refl _) (Nat.le_refl _) hv
        · have hv := hv.2 q16
          refine z_bipush (v := (-2)) dX12_sure_43 (by decide) ?_
          refine z_goto (tgt := 54) dX12_sure_45 (by decide) ?_
          exact z_ireturn dX12_sure_54 rfl rfl (Nat.le_refl _) (Nat.le_refl _) hv
      · have hv := hv.2 q17
        refine z_iconst (v := (-1)) dX12_sure_31 (by decide) ?_
        refine z_goto (tgt := 54) dX12_sure_32 (by decide) ?_
        exact z_ireturn dX12_sure_54 rfl rfl (Nat.le_refl _) (Nat.le_refl _) hv
    · have hv := hv.2 q18
      refine z_bipush (v := (-3)) dX12_sure_19 (by decide) ?_
      exact z_ireturn dX12_sure_21 rfl rfl (Nat.le_refl _) (Nat.le_refl _) hv
  · have hv := hv.2 q19
    refine z_iconst (v := (-1)) dX12_sure_8 (by decide) ?_
    exact z_ireturn dX12_sure_9 rfl rfl (Nat.le_refl _) (Nat.le_refl _) hv
abbrev gw_X12_keep (d : Nat) (Q : zQt) (pc : Nat) (lv : zV) (st : List Value) (I : zI) (L : zL) (P : zP) : Prop := zW zm_X12_keep (zRm d 0 0) 0 0 Q pc lv st I L P 205 0 0
def v_X12_keep_96 (d : Nat) (Q : zQt) (p1 : Int32) (x2 : Int32) (I : zI) (L : zL) (P : zP) : Prop :=
  ((2048 ≤ x2 →
    Q none I L P 205
  ) ∧ (¬ 2048 ≤ x2 →
    vp_in x2 2048 ∧
    vp_in (((2048 : Int32) * p1) + x2) 8192 ∧
    (I 181 x2.toNatClampNeg = 0 ∨ I 181 x2.toNatClampNeg = 1) ∧
    ∀ I22 : zI, I22 = zuI I 204 (((2048 : Int32) * p1) + x2).toNatClampNeg (I 181 x2.toNatClampNeg) →
    gw_X12_keep d Q 96 [some (.ref 160), some (.int p1), some (.int (x2 + 1))] [] I22 L P
  ))
set_option maxRecDepth 20000 in
theorem g_X12_keep_96 {d : Nat} {Q : zQt} {p1 : Int32} {x2 : Int32} {I : zI} {L : zL} {P : zP} (hP : zPk P) (hv : v_X12_keep_96 d Q p1 x2 I L P) : gw_X12_keep d Q 96 [some (.ref 160), some (.int p1), some (.int x2)] [] I L P := by
  unfold v_X12_keep_96 at hv
  refine z_iload_n dX12_keep_96 rfl ?_
  refine z_sipush (v := 2048) dX12_keep_97 (by decide) ?_
  refine z_icmp_ge (tgt := 127) dX12_keep_100 (by decide) (fun q24 => ?_) (fun q24 => ?_)
  · have hv := hv.1 q24
    exact z_return dX12_keep_127 rfl (Nat.le_refl _) (Nat.le_refl _) hv
  · have hv := hv.2 q24
    refine z_aload_n dX12_keep_103 rfl ?_
    refine z_getP dX12_keep_104 zf_X12_146 zn_160 zo_160 (fun _ _ _ _ _ => rfl) (hP 160 67 204 zp_160_67) ?_
    refine z_sipush (v := 2048) dX12_keep_107 (by decide) ?_
    refine z_iload_n dX12_keep_110 rfl ?_
    refine z_imul dX12_keep_111 ?_
    refine z_iload_n dX12_keep_112 rfl ?_
    refine z_iadd dX12_keep_113 ?_
    refine z_aload_n dX12_keep_114 rfl ?_
    refine z_getP dX12_keep_115 zf_X12_77 zn_160 zo_160 (fun _ _ _ _ _ => rfl) (hP 160 36 181 zp_160_36) ?_
    refine z_iload_n dX12_keep_118 rfl ?_
    obtain ⟨h19, hv⟩ := hv
    refine z_zaload dX12_keep_119 zn_181 zh_181 h19 ?_
    obtain ⟨h20, hv⟩ := hv
    obtain ⟨h23, hv⟩ := hv
    refine z_zastore dX12_keep_120 zn_204 zh_204 h20 (zbn h23) (z_nmI (fun I22 e21 => ?_))
    have hv := hv I22 e21
    refine z_iinc (v2 := x2 + 1) (lv2 := [some (.ref 160), some (.int p1), some (.int (x2 + 1))]) dX12_keep_121 rfl (by rfl) (by decide) rfl rfl ?_
    refine z_goto (tgt := 96) dX12_keep_124 (by decide) ?_
    exact hv
def v_X12_keep_65 (d : Nat) (Q : zQt) (p1 : Int32) (x2 : Int32) (I : zI) (L : zL) (P : zP) : Prop :=
  ((8 ≤ x2 →
    gw_X12_keep d Q 96 [some (.ref 160), some (.int p1), some (.int 0)] [] I L P
  ) ∧ (¬ 8 ≤ x2 →
    vp_in x2 8 ∧
    vp_in (((8 : Int32) * p1) + x2) 32 ∧
    ∀ I17 : zI, I17 = zuI I 202 (((8 : Int32) * p1) + x2).toNatClampNeg (I 182 x2.toNatClampNeg) →
    gw_X12_keep d Q 65 [some (.ref 160), some (.int p1), some (.int (x2 + 1))] [] I17 L P
  ))
set_option maxRecDepth 20000 in
theorem g_X12_keep_65 {d : Nat} {Q : zQt} {p1 : Int32} {x2 : Int32} {I : zI} {L : zL} {P : zP} (hP : zPk P) (hv : v_X12_keep_65 d Q p1 x2 I L P) : gw_X12_keep d Q 65 [some (.ref 160), some (.int p1), some (.int x2)] [] I L P := by
  unfold v_X12_keep_65 at hv
  refine z_iload_n dX12_keep_65 rfl ?_
  refine z_bipush (v := 8) dX12_keep_66 (by decide) ?_
  refine z_icmp_ge (tgt := 94) dX12_keep_68 (by decide) (fun q18 => ?_) (fun q18 => ?_)
  · have hv := hv.1 q18
    refine z_iconst (v := 0) dX12_keep_94 (by decide) ?_
    refine z_istore_n (lv2 := [some (.ref 160), some (.int p1), some (.int 0)]) dX12_keep_95 (by decide) rfl rfl ?_
    exact hv
  · have hv := hv.2 q18
    refine z_aload_n dX12_keep_71 rfl ?_
    refine z_getP dX12_keep_72 zf_X12_140 zn_160 zo_160 (fun _ _ _ _ _ => rfl) (hP 160 65 202 zp_160_65) ?_
    refine z_bipush (v := 8) dX12_keep_75 (by decide) ?_
    refine z_iload_n dX12_keep_77 rfl ?_
    refine z_imul dX12_keep_78 ?_
    refine z_iload_n dX12_keep_79 rfl ?_
    refine z_iadd dX12_keep_80 ?_
    refine z_aload_n dX12_keep_81 rfl ?_
    refine z_getP dX12_keep_82 zf_X12_80 zn_160 zo_160 (fun _ _ _ _ _ => rfl) (hP 160 37 182 zp_160_37) ?_
    refine z_iload_n dX12_keep_85 rfl ?_
    obtain ⟨h14, hv⟩ := hv
    refine z_iaload dX12_keep_86 zn_182 zh_182 h14 ?_
    obtain ⟨h15, hv⟩ := hv
    refine z_iastore dX12_keep_87 zn_202 zh_202 h15 (z_nmI (fun I17 e16 => ?_))
    have hv := hv I17 e16
    refine z_iinc (v2 := x2 + 1) (lv2 := [some (.ref 160), some (.int p1), some (.int (x2 + 1))]) dX12_keep_88 rfl (by rfl) (by decide) rfl rfl ?_
    refine z_goto (tgt := 65) dX12_keep_91 (by decide) ?_
    exact hv
def v_X12_keep_32 (d : Nat) (Q : zQt) (p1 : Int32) (x2 : Int32) (I : zI) (L : zL) (P : zP) : Prop :=
  ((256 ≤ x2 →
    gw_X12_keep d Q 65 [some (.ref 160), some (.int p1), some (.int 0)] [] I L P
  ) ∧ (¬ 256 ≤ x2 →
    vp_in x2 256 ∧
    vp_in (((256 : Int32) * p1) + x2) 1024 ∧
    (I 180 x2.toNatClampNeg = 0 ∨ I 180 x2.toNatClampNeg = 1) ∧
    ∀ I11 : zI, I11 = zuI I 203 (((256 : Int32) * p1) + x2).toNatClampNeg (I 180 x2.toNatClampNeg) →
    gw_X12_keep d Q 32 [some (.ref 160), some (.int p1), some (.int (x2 + 1))] [] I11 L P
  ))
set_option maxRecDepth 20000 in
theorem g_X12_keep_32 {d : Nat} {Q : zQt} {p1 : Int32} {x2 : Int32} {I : zI} {L : zL} {P : zP} (hP : zPk P) (hv : v_X12_keep_32 d Q p1 x2 I L P) : gw_X12_keep d Q 32 [some (.ref 160), some (.int p1), some (.int x2)] [] I L P := by
  unfold v_X12_keep_32 at hv
  refine z_iload_n dX12_keep_32 rfl ?_
  refine z_sipush (v := 256) dX12_keep_33 (by decide) ?_
  refine z_icmp_ge (tgt := 63) dX12_keep_36 (by decide) (fun q13 => ?_) (fun q13 => ?_)
  · have hv := hv.1 q13
    refine z_iconst (v := 0) dX12_keep_63 (by decide) ?_
    refine z_istore_n (lv2 := [some (.ref 160), some (.int p1), some (.int 0)]) dX12_keep_64 (by decide) rfl rfl ?_
    exact hv
  · have hv := hv.2 q13
    refine z_aload_n dX12_keep_39 rfl ?_
    refine z_getP dX12_keep_40 zf_X12_143 zn_160 zo_160 (fun _ _ _ _ _ => rfl) (hP 160 66 203 zp_160_66) ?_
    refine z_sipush (v := 256) dX12_keep_43 (by decide) ?_
    refine z_iload_n dX12_keep_46 rfl ?_
    refine z_imul dX12_keep_47 ?_
    refine z_iload_n dX12_keep_48 rfl ?_
    refine z_iadd dX12_keep_49 ?_
    refine z_aload_n dX12_keep_50 rfl ?_
    refine z_getP dX12_keep_51 zf_X12_74 zn_160 zo_160 (fun _ _ _ _ _ => rfl) (hP 160 35 180 zp_160_35) ?_
    refine z_iload_n dX12_keep_54 rfl ?_
    obtain ⟨h8, hv⟩ := hv
    refine z_zaload dX12_keep_55 zn_180 zh_180 h8 ?_
    obtain ⟨h9, hv⟩ := hv
    obtain ⟨h12, hv⟩ := hv
    refine z_zastore dX12_keep_56 zn_203 zh_203 h9 (zbn h12) (z_nmI (fun I11 e10 => ?_))
    have hv := hv I11 e10
    refine z_iinc (v2 := x2 + 1) (lv2 := [some (.ref 160), some (.int p1), some (.int (x2 + 1))]) dX12_keep_57 rfl (by rfl) (by decide) rfl rfl ?_
    refine z_goto (tgt := 32) dX12_keep_60 (by decide) ?_
    exact hv
def v_X12_keep (d : Nat) (Q : zQt) (p1 : Int32) (I : zI) (L : zL) (P : zP) : Prop :=
  vp_in p1 4 ∧
  ∀ I3 : zI, I3 = zuI I 199 p1.toNatClampNeg (I 160 39) →
  ∀ I5 : zI, I5 = zuI I3 200 p1.toNatClampNeg (I3 160 40) →
  ∀ I7 : zI, I7 = zuI I5 201 p1.toNatClampNeg (I5 160 38) →
  gw_X12_keep d Q 32 [some (.ref 160), some (.int p1), some (.int 0)] [] I7 L P
set_option maxRecDepth 20000 in
theorem g_X12_keep {d : Nat} {Q : zQt} {p1 : Int32} {I : zI} {L : zL} {P : zP} (hP : zPk P) (hv : v_X12_keep d Q p1 I L P) : zM zm_X12_keep d 0 0 [.ref 160, .int p1] I L P 205 Q := by
  unfold v_X12_keep at hv
  refine zM_of (lv0 := [some (.ref 160), some (.int p1), none]) (by decide +kernel) (Nat.le_of_ble_eq_true rfl) rfl ?_
  refine z_aload_n dX12_keep_0 rfl ?_
  refine z_getP dX12_keep_1 zf_X12_131 zn_160 zo_160 (fun _ _ _ _ _ => rfl) (hP 160 62 199 zp_160_62) ?_
  refine z_iload_n dX12_keep_4 rfl ?_
  refine z_aload_n dX12_keep_5 rfl ?_
  refine z_getI dX12_keep_6 zf_X12_356 zn_160 zo_160 (fun _ _ _ _ _ => rfl) ?_
  obtain ⟨h1, hv⟩ := hv
  refine z_iastore dX12_keep_9 zn_199 zh_199 h1 (z_nmI (fun I3 e2 => ?_))
  have hv := hv I3 e2
  refine z_aload_n dX12_keep_10 rfl ?_
  refine z_getP dX12_keep_11 zf_X12_134 zn_160 zo_160 (fun _ _ _ _ _ => rfl) (hP 160 63 200 zp_160_63) ?_
  refine z_iload_n dX12_keep_14 rfl ?_
  refine z_aload_n dX12_keep_15 rfl ?_
  refine z_getI dX12_keep_16 zf_X12_359 zn_160 zo_160 (fun _ _ _ _ _ => rfl) ?_
  refine z_iastore dX12_keep_19 zn_200 zh_200 h1 (z_nmI (fun I5 e4 => ?_))
  have hv := hv I5 e4
  refine z_aload_n dX12_keep_20 rfl ?_
  refine z_getP dX12_keep_21 zf_X12_137 zn_160 zo_160 (fun _ _ _ _ _ => rfl) (hP 160 64 201 zp_160_64) ?_
  refine z_iload_n dX12_keep_24 rfl ?_
  refine z_aload_n dX12_keep_25 rfl ?_
  refine z_getI dX12_keep_26 zf_X12_353 zn_160 zo_160 (fun _ _ _ _ _ => rfl) ?_
  refine z_iastore dX12_keep_29 zn_201 zh_201 h1 (z_nmI (fun I7 e6 => ?_))
  have hv := hv I7 e6
  refine z_iconst (v := 0) dX12_keep_30 (by decide) ?_
  refine z_istore_n (lv2 := [some (.ref 160), some (.int p1), some (.int 0)]) dX12_keep_31 (by decide) rfl rfl ?_
  exact hv
abbrev gw_X12_bring (d : Nat) (Q : zQt) (pc : Nat) (lv : zV) (st : List Value) (I : zI) (L : zL) (P : zP) : Prop := zW zm_X12_bring (zRm d 0 0) 0 0 Q pc lv st I L P 205 0 0
def v_X12_bring_101 (d : Nat) (Q : zQt) (p1 : Int32) (x2 : Int32) (I : zI) (L : zL) (P : zP) : Prop :=
  ((2048 ≤ x2 →
    Q none I L P 205
  ) ∧ (¬ 2048 ≤ x2 →
    vp_in (((2048 : Int32) * p1) + x2) 8192 ∧
    vp_in x2 2048 ∧
    (I 204 (((2048 : Int32) * p1) + x2).toNatClampNeg = 0 ∨ I 204 (((2048 : Int32) * p1) + x2).toNatClampNeg = 1) ∧
    ∀ I24 : zI, I24 = zuI I 181 x2.toNatClampNeg (I 204 (((2048 : Int32) * p1) + x2).toNatClampNeg) →
    gw_X12_bring d Q 101 [some (.ref 160), some (.int p1), some (.int (x2 + 1))] [] I24 L P
  ))
set_option maxRecDepth 20000 in
theorem g_X12_bring_101 {d : Nat} {Q : zQt} {p1 : Int32} {x2 : Int32} {I : zI} {L : zL} {P : zP} (hP : zPk P) (hv : v_X12_bring_101 d Q p1 x2 I L P) : gw_X12_bring d Q 101 [some (.ref 160), some (.int p1), some (.int x2)] [] I L P := by
  unfold v_X12_bring_101 at hv
  refine z_iload_n dX12_bring_101 rfl ?_
  refine z_sipush (v := 2048) dX12_bring_102 (by decide) ?_
  refine z_icmp_ge (tgt := 132) dX12_bring_105 (by decide) (fun q26 => ?_) (fun q26 => ?_)
  · have hv := hv.1 q26
    exact z_return dX12_bring_132 rfl (Nat.le_refl _) (Nat.le_refl _) hv
  · have hv := hv.2 q26
    refine z_aload_n dX12_bring_108 rfl ?_
    refine z_getP dX12_bring_109 zf_X12_77 zn_160 zo_160 (fun _ _ _ _ _ => rfl) (hP 160 36 181 zp_160_36) ?_
    refine z_iload_n dX12_bring_112 rfl ?_
    refine z_aload_n dX12_bring_113 rfl ?_
    refine z_getP dX12_bring_114 zf_X12_146 zn_160 zo_160 (fun _ _ _ _ _ => rfl) (hP 160 67 204 zp_160_67) ?_
    refine z_sipush (v := 2048) dX12_bring_117 (by decide) ?_
    refine z_iload_n dX12_bring_120 rfl ?_
    refine z_imul dX12_bring_121 ?_
    refine z_iload_n dX12_bring_122 rfl ?_
    refine z_iadd dX12_bring_123 ?_
    obtain ⟨h21, hv⟩ := hv
    refine z_zaload dX12_bring_124 zn_204 zh_204 h21 ?_
    obtain ⟨h22, hv⟩ := hv
    obtain ⟨h25, hv⟩ := hv
    refine z_zastore dX12_bring_125 zn_181 zh_181 h22 (zbn h25) (z_nmI (fun I24 e23 => ?_))
    have hv := hv I24 e23
    refine z_iinc (v2 := x2 + 1) (lv2 := [some (.ref 160), some (.int p1), some (.int (x2 + 1))]) dX12_bring_126 rfl (by rfl) (by decide) rfl rfl ?_
    refine z_goto (tgt := 101) dX12_bring_129 (by decide) ?_
    exact hv
def v_X12_bring_70 (d : Nat) (Q : zQt) (p1 : Int32) (x2 : Int32) (I : zI) (L : zL) (P : zP) : Prop :=
  ((8 ≤ x2 →
    gw_X12_bring d Q 101 [some (.ref 160), some (.int p1), some (.int 0)] [] I L P
  ) ∧ (¬ 8 ≤ x2 →
    vp_in (((8 : Int32) * p1) + x2) 32 ∧
    vp_in x2 8 ∧
    ∀ I19 : zI, I19 = zuI I 182 x2.toNatClampNeg (I 202 (((8 : Int32) * p1) + x2).toNatClampNeg) →
    gw_X12_bring d Q 70 [some (.ref 160), some (.int p1), some (.int (x2 + 1))] [] I19 L P
  ))
set_option maxRecDepth 20000 in
theorem g_X12_bring_70 {d : Nat} {Q : zQt} {p1 : Int32} {x2 : Int32} {I : zI} {L : zL} {P : zP} (hP : zPk P) (hv : v_X12_bring_70 d Q p1 x2 I L P) : gw_X12_bring d Q 70 [some (.ref 160), some (.int p1), some (.int x2)] [] I L P := by
  unfold v_X12_bring_70 at hv
  refine z_iload_n dX12_bring_70 rfl ?_
  refine z_bipush (v := 8) dX12_bring_71 (by decide) ?_
  refine z_icmp_ge (tgt := 99) dX12_bring_73 (by decide) (fun q20 => ?_) (fun q20 => ?_)
  · have hv := hv.1 q20
    refine z_iconst (v := 0) dX12_bring_99 (by decide) ?_
    refine z_istore_n (lv2 := [some (.ref 160), some (.int p1), some (.int 0)]) dX12_bring_100 (by decide) rfl rfl ?_
    exact hv
  · have hv := hv.2 q20
    refine z_aload_n dX12_bring_76 rfl ?_
    refine z_getP dX12_bring_77 zf_X12_80 zn_160 zo_160 (fun _ _ _ _ _ => rfl) (hP 160 37 182 zp_160_37) ?_
    refine z_iload_n dX12_bring_80 rfl ?_
    refine z_aload_n dX12_bring_81 rfl ?_
    refine z_getP dX12_bring_82 zf_X12_140 zn_160 zo_160 (fun _ _ _ _ _ => rfl) (hP 160 65 202 zp_160_65) ?_
    refine z_bipush (v := 8) dX12_bring_85 (by decide) ?_
    refine z_iload_n dX12_bring_87 rfl ?_
    refine z_imul dX12_bring_88 ?_
    refine z_iload_n dX12_bring_89 rfl ?_
    refine z_iadd dX12_bring_90 ?_
    obtain ⟨h16, hv⟩ := hv
    refine z_iaload dX12_bring_91 zn_202 zh_202 h16 ?_
    obtain ⟨h17, hv⟩ := hv
    refine z_iastore dX12_bring_92 zn_182 zh_182 h17 (z_nmI (fun I19 e18 => ?_))
    have hv := hv I19 e18
    refine z_iinc (v2 := x2 + 1) (lv2 := [some (.ref 160), some (.int p1), some (.int (x2 + 1))]) dX12_bring_93 rfl (by rfl) (by decide) rfl rfl ?_
    refine z_goto (tgt := 70) dX12_bring_96 (by decide) ?_
    exact hv
def v_X12_bring_37 (d : Nat) (Q : zQt) (p1 : Int32) (x2 : Int32) (I : zI) (L : zL) (P : zP) : Prop :=
  ((256 ≤ x2 →
    gw_X12_bring d Q 70 [some (.ref 160), some (.int p1), some (.int 0)] [] I L P
  ) ∧ (¬ 256 ≤ x2 →
    vp_in (((256 : Int32) * p1) + x2) 1024 ∧
    vp_in x2 256 ∧
    (I 203 (((256 : Int32) * p1) + x2).toNatClampNeg = 0 ∨ I 203 (((256 : Int32) * p1) + x2).toNatClampNeg = 1) ∧
    ∀ I13 : zI, I13 = zuI I 180 x2.toNatClampNeg (I 203 (((256 : Int32) * p1) + x2).toNatClampNeg) →
    gw_X12_bring d Q 37 [some (.ref 160), some (.int p1), some (.int (x2 + 1))] [] I13 L P
  ))
set_option maxRecDepth 20000 in
theorem g_X12_bring_37 {d : Nat} {Q : zQt} {p1 : Int32} {x2 : Int32} {I : zI} {L : zL} {P : zP} (hP : zPk P) (hv : v_X12_bring_37 d Q p1 x2 I L P) : gw_X12_bring d Q 37 [some (.ref 160), some (.int p1), some (.int x2)] [] I L P := by
  unfold v_X12_bring_37 at hv
  refine z_iload_n dX12_bring_37 rfl ?_
  refine z_sipush (v := 256) dX12_bring_38 (by decide) ?_
  refine z_icmp_ge (tgt := 68) dX12_bring_41 (by decide) (fun q15 => ?_) (fun q15 => ?_)
  · have hv := hv.1 q15
    refine z_iconst (v := 0) dX12_bring_68 (by decide) ?_
    refine z_istore_n (lv2 := [some (.ref 160), some (.int p1), some (.int 0)]) dX12_bring_69 (by decide) rfl rfl ?_
    exact hv
  · have hv := hv.2 q15
    refine z_aload_n dX12_bring_44 rfl ?_
    refine z_getP dX12_bring_45 zf_X12_74 zn_160 zo_160 (fun _ _ _ _ _ => rfl) (hP 160 35 180 zp_160_35) ?_
    refine z_iload_n dX12_bring_48 rfl ?_
    refine z_aload_n dX12_bring_49 rfl ?_
    refine z_getP dX12_bring_50 zf_X12_143 zn_160 zo_160 (fun _ _ _ _ _ => rfl) (hP 160 66 203 zp_160_66) ?_
    refine z_sipush (v := 256) dX12_bring_53 (by decide) ?_
    refine z_iload_n dX12_bring_56 rfl ?_
    refine z_imul dX12_bring_57 ?_
    refine z_iload_n dX12_bring_58 rfl ?_
    refine z_iadd dX12_bring_59 ?_
    obtain ⟨h10, hv⟩ := hv
    refine z_zaload dX12_bring_60 zn_203 zh_203 h10 ?_
    obtain ⟨h11, hv⟩ := hv
    obtain ⟨h14, hv⟩ := hv
    refine z_zastore dX12_bring_61 zn_180 zh_180 h11 (zbn h14) (z_nmI (fun I13 e12 => ?_))
    have hv := hv I13 e12
    refine z_iinc (v2 := x2 + 1) (lv2 := [some (.ref 160), some (.int p1), some (.int (x2 + 1))]) dX12_bring_62 rfl (by rfl) (by decide) rfl rfl ?_
    refine z_goto (tgt := 37) dX12_bring_65 (by decide) ?_
    exact hv
def v_X12_bring (d : Nat) (Q : zQt) (p1 : Int32) (I : zI) (L : zL) (P : zP) : Prop :=
  ∀ I1 : zI, I1 = zuI I 160 46 0 →
  vp_in p1 4 ∧
  ∀ I4 : zI, I4 = zuI I1 160 39 (I1 199 p1.toNatClampNeg) →
  ∀ I6 : zI, I6 = zuI I4 160 40 (I4 200 p1.toNatClampNeg) →
  ∀ I8 : zI, I8 = zuI I6 160 38 (I6 201 p1.toNatClampNeg) →
  gw_X12_bring d Q 37 [some (.ref 160), some (.int p1), some (.int 0)] [] I8 L P
set_option maxRecDepth 20000 in
theorem g_X12_bring {d : Nat} {Q : zQt} {p1 : Int32} {I : zI} {L : zL} {P : zP} (hP : zPk P) (hv : v_X12_bring d Q p1 I L P) : zM zm_X12_bring d 0 0 [.ref 160, .int p1] I L P 205 Q := by
  unfold v_X12_bring at hv
  refine zM_of (lv0 := [some (.ref 160), some (.int p1), none]) (by decide +kernel) (Nat.le_of_ble_eq_true rfl) rfl ?_
  refine z_aload_n dX12_bring_0 rfl ?_
  refine z_iconst (v := 0) dX12_bring_1 (by decide) ?_
  refine z_putI dX12_bring_2 zf_X12_349 zn_160 zo_160 (Or.inl rfl) (fun _ _ _ _ _ => rfl) (by decide) (by decide) (z_nmI (fun I1 e2 => ?_))
  have hv := hv I1 e2
  refine z_aload_n dX12_bring_5 rfl ?_
  refine z_aload_n dX12_bring_6 rfl ?_
  refine z_getP dX12_bring_7 zf_X12_131 zn_160 zo_160 (fun _ _ _ _ _ => rfl) (hP 160 62 199 zp_160_62) ?_
  refine z_iload_n dX12_bring_10 rfl ?_
  obtain ⟨h3, hv⟩ := hv
  refine z_iaload dX12_bring_11 zn_199 zh_199 h3 ?_
  refine z_putI dX12_bring_12 zf_X12_356 zn_160 zo_160 (Or.inl rfl) (fun _ _ _ _ _ => rfl) rfl rfl (z_nmI (fun I4 e5 => ?_))
  have hv := hv I4 e5
  refine z_aload_n dX12_bring_15 rfl ?_
  refine z_aload_n dX12_bring_16 rfl ?_
  refine z_getP dX12_bring_17 zf_X12_134 zn_160 zo_160 (fun _ _ _ _ _ => rfl) (hP 160 63 200 zp_160_63) ?_
  refine z_iload_n dX12_bring_20 rfl ?_
  refine z_iaload dX12_bring_21 zn_200 zh_200 h3 ?_
  refine z_putI dX12_bring_22 zf_X12_359 zn_160 zo_160 (Or.inl rfl) (fun _ _ _ _ _ => rfl) rfl rfl (z_nmI (fun I6 e7 => ?_))
  have hv := hv I6 e7
  refine z_aload_n dX12_bring_25 rfl ?_
  refine z_aload_n dX12_bring_26 rfl ?_
  refine z_getP dX12_bring_27 zf_X12_137 zn_160 zo_160 (fun _ _ _ _ _ => rfl) (hP 160 64 201 zp_160_64) ?_
  refine z_iload_n dX12_bring_30 rfl ?_
  refine z_iaload dX12_bring_31 zn_201 zh_201 h3 ?_
  refine z_putI dX12_bring_32 zf_X12_353 zn_160 zo_160 (Or.inl rfl) (fun _ _ _ _ _ => rfl) rfl rfl (z_nmI (fun I8 e9 => ?_))
  have hv := hv I8 e9
  refine z_iconst (v := 0) dX12_bring_35 (by decide) ?_
  refine z_istore_n (lv2 := [some (.ref 160), some (.int p1), some (.int 0)]) dX12_bring_36 (by decide) rfl rfl ?_
  exact hv
abbrev gw_X12_image (d : Nat) (Q : zQt) (pc : Nat) (lv : zV) (st : List Value) (I : zI) (L : zL) (P : zP) : Prop := zW zm_X12_image (zRm d 0 0) 0 0 Q pc lv st I L P 205 0 0
def v_X12_image (d : Nat) (Q : zQt) (p1 : Int32) (I : zI) (L : zL) (P : zP) : Prop :=
  zMi zm_X12_isIn d [.int p1, .int 0, .int 2] I L P (fun r5 I1 L2 P3 =>
    ((¬ r5 = 0 →
      zMv zm_X12_keep d [.ref 160, .int p1] I1 L2 P3 (fun I6 L7 P8 =>
        Q (some (.int (I6 160 39))) I6 L7 P8 205
      )
    ) ∧ (r5 = 0 →
      Q (some (.int (-1))) I1 L2 P3 205
    ))
  )
set_option maxRecDepth 20000 in
theorem g_X12_image {d : Nat} {Q : zQt} {p1 : Int32} {I : zI} {L : zL} {P : zP} (hP : zPk P) (hv : v_X12_image d Q p1 I L P) : zM zm_X12_image (d + 1) 0 0 [.ref 160, .int p1] I L P 205 Q := by
  unfold v_X12_image at hv
  refine zM_of (lv0 := [some (.ref 160), some (.int p1)]) (by decide +kernel) (Nat.le_of_ble_eq_true rfl) rfl ?_
  refine z_iload_n dX12_image_0 rfl ?_
  refine z_iconst (v := 0) dX12_image_1 (by decide) ?_
  refine z_iconst (v := 2) dX12_image_2 (by decide) ?_
  refine z_callS (As := [.int p1, .int 0, .int 2]) (st := []) dX12_image_3 zl_X12_342 zs_X12_isIn rfl rfl (Nat.le_of_ble_eq_true rfl) ⟨Nat.le_refl _, Nat.le_refl _⟩ ⟨Nat.le_refl _, Nat.le_refl _⟩ hv (fun v1 I1 L2 P3 nx1 q4 => ?_)
  obtain ⟨rfl, r5, rfl, hv⟩ := q4
  refine z_if_ne (tgt := 11) dX12_image_6 (by decide) (fun q11 => ?_) (fun q11 => ?_)
  · have hv := hv.1 q11
    refine z_aload_n dX12_image_11 rfl ?_
    refine z_iload_n dX12_image_12 rfl ?_
    refine z_callV (As := [.int p1]) (st := []) dX12_image_13 zl_X12_428 zv_X12_keep (by decide) rfl zn_160 zo_160 rfl rfl (Nat.le_of_ble_eq_true rfl) ⟨Nat.le_refl _, Nat.le_refl _⟩ ⟨Nat.le_refl _, Nat.le_refl _⟩ hv (fun v1 I6 L7 P8 nx1 q9 => ?_)
    obtain ⟨rfl, rfl, hv⟩ := q9
    refine z_aload_n dX12_image_16 rfl ?_
    refine z_getI dX12_image_17 zf_X12_356 zn_160 zo_160 (fun _ _ _ _ _ => rfl) ?_
    exact z_ireturn dX12_image_20 rfl rfl (Nat.le_refl _) (Nat.le_refl _) hv
  · have hv := hv.2 q11
    refine z_iconst (v := (-1)) dX12_image_9 (by decide) ?_
    exact z_ireturn dX12_image_10 rfl rfl (Nat.le_refl _) (Nat.le_refl _) hv
abbrev gw_X12_back (d : Nat) (Q : zQt) (pc : Nat) (lv : zV) (st : List Value) (I : zI) (L : zL) (P : zP) : Prop := zW zm_X12_back (zRm d 0 0) 0 0 Q pc lv st I L P 205 0 0
def v_X12_back (d : Nat) (Q : zQt) (p1 : Int32) (I : zI) (L : zL) (P : zP) : Prop :=
  zMi zm_X12_isIn d [.int p1, .int 0, .int 2] I L P (fun r5 I1 L2 P3 =>
    ((r5 = 0 →
      Q (some (.int (-1))) I1 L2 P3 205
    ) ∧ (¬ r5 = 0 →
      zPk P3 ∧
      vp_in p1 4 ∧
      ((0 ≤ (I1 199 p1.toNatClampNeg) →
        zMv zm_X12_bring d [.ref 160, .int p1] I1 L2 P3 (fun I8 L9 P10 =>
          Q (some (.int (I8 160 39))) I8 L9 P10 205
        )
      ) ∧ (¬ 0 ≤ (I1 199 p1.toNatClampNeg) →
        Q (some (.int (-1))) I1 L2 P3 205
      ))
    ))
  )
set_option maxRecDepth 20000 in
theorem g_X12_back {d : Nat} {Q : zQt} {p1 : Int32} {I : zI} {L : zL} {P : zP} (hP : zPk P) (hv : v_X12_back d Q p1 I L P) : zM zm_X12_back (d + 1) 0 0 [.ref 160, .int p1] I L P 205 Q := by
  unfold v_X12_back at hv
  refine zM_of (lv0 := [some (.ref 160), some (.int p1)]) (by decide +kernel) (Nat.le_of_ble_eq_true rfl) rfl ?_
  refine z_iload_n dX12_back_0 rfl ?_
  refine z_iconst (v := 0) dX12_back_1 (by decide) ?_
  refine z_iconst (v := 2) dX12_back_2 (by decide) ?_
  refine z_callS (As := [.int p1, .int 0, .int 2]) (st := []) dX12_back_3 zl_X12_342 zs_X12_isIn rfl rfl (Nat.le_of_ble_eq_true rfl) ⟨Nat.le_refl _, Nat.le_refl _⟩ ⟨Nat.le_refl _, Nat.le_refl _⟩ hv (fun v1 I1 L2 P3 nx1 q4 => ?_)
  obtain ⟨rfl, r5, rfl, hv⟩ := q4
  refine z_if_eq (tgt := 18) dX12_back_6 (by decide) (fun q14 => ?_) (fun q14 => ?_)
  · have hv := hv.1 q14
    refine z_iconst (v := (-1)) dX12_back_18 (by decide) ?_
    exact z_ireturn dX12_back_19 rfl rfl (Nat.le_refl _) (Nat.le_refl _) hv
  · have hv := hv.2 q14
    refine z_aload_n dX12_back_9 rfl ?_
    obtain ⟨h6, hv⟩ := hv
    refine z_getP dX12_back_10 zf_X12_131 zn_160 zo_160 (fun _ _ _ _ _ => rfl) (h6 160 62 199 zp_160_62) ?_
    refine z_iload_n dX12_back_13 rfl ?_
    obtain ⟨h7, hv⟩ := hv
    refine z_iaload dX12_back_14 zn_199 zh_199 h7 ?_
    refine z_if_ge (tgt := 20) dX12_back_15 (by decide) (fun q13 => ?_) (fun q13 => ?_)
    · have hv := hv.1 q13
      refine z_aload_n dX12_back_20 rfl ?_
      refine z_iload_n dX12_back_21 rfl ?_
      refine z_callV (As := [.int p1]) (st := []) dX12_back_22 zl_X12_431 zv_X12_bring (by decide) rfl zn_160 zo_160 rfl rfl (Nat.le_of_ble_eq_true rfl) ⟨Nat.le_refl _, Nat.le_refl _⟩ ⟨Nat.le_refl _, Nat.le_refl _⟩ hv (fun v1 I8 L9 P10 nx1 q11 => ?_)
      obtain ⟨rfl, rfl, hv⟩ := q11
      refine z_aload_n dX12_back_25 rfl ?_
      refine z_getI dX12_back_26 zf_X12_356 zn_160 zo_160 (fun _ _ _ _ _ => rfl) ?_
      exact z_ireturn dX12_back_29 rfl rfl (Nat.le_refl _) (Nat.le_refl _) hv
    · have hv := hv.2 q13
      refine z_iconst (v := (-1)) dX12_back_18 (by decide) ?_
      exact z_ireturn dX12_back_19 rfl rfl (Nat.le_refl _) (Nat.le_refl _) hv
abbrev gw_X12_about (d : Nat) (Q : zQt) (pc : Nat) (lv : zV) (st : List Value) (I : zI) (L : zL) (P : zP) : Prop := zW zm_X12_about (zRm d 0 0) 0 0 Q pc lv st I L P 205 0 0
def v_X12_about (d : Nat) (Q : zQt) (p1 : Int32) (I : zI) (L : zL) (P : zP) : Prop :=
  (p1 = 0 →
    zMi zm_X12_manyOf d [.ref 160] I L P (fun r5 I1 L2 P3 =>
      Q (some (.int r5)) I1 L2 P3 205
    )
  ) ∧
  (p1 = 1 →
    vp_in (I 160 28) 2 ∧
    Q (some (.int (I 165 (I 160 28).toNatClampNeg))) I L P 205
  ) ∧
  (p1 = 2 →
    zMi zm_X12_theTrue d [.ref 160] I L P (fun r11 I7 L8 P9 =>
      Q (some (.int r11)) I7 L8 P9 205
    )
  ) ∧
  (p1 = 3 →
    Q (some (.int (I 160 39))) I L P 205
  ) ∧
  (p1 = 4 →
    Q (some (.int (I 160 38))) I L P 205
  ) ∧
  (p1 = 5 →
    Q (some (.int (I 160 59))) I L P 205
  ) ∧
  (p1 = 6 →
    Q (some (.int (I 160 60))) I L P 205
  ) ∧
  (p1 = 7 →
    Q (some (.int (I 160 2))) I L P 205
  ) ∧
  (p1 = 8 →
    vp_in (I 160 28) 3 ∧
    Q (some (.int (I 166 (I 160 28).toNatClampNeg))) I L P 205
  ) ∧
  (¬ p1 = 0 → ¬ p1 = 1 → ¬ p1 = 2 → ¬ p1 = 3 → ¬ p1 = 4 → ¬ p1 = 5 → ¬ p1 = 6 → ¬ p1 = 7 → ¬ p1 = 8 →
    Q (some (.int (-1))) I L P 205
  )
set_option maxRecDepth 20000 in
theorem g_X12_about {d : Nat} {Q : zQt} {p1 : Int32} {I : zI} {L : zL} {P : zP} (hP : zPk P) (hv : v_X12_about d Q p1 I L P) : zM zm_X12_about (d + 1) 0 0 [.ref 160, .int p1] I L P 205 Q := by
  unfold v_X12_about at hv
  refine zM_of (lv0 := [some (.ref 160), some (.int p1)]) (by decide +kernel) (Nat.le_of_ble_eq_true rfl) rfl ?_
  refine z_iload_n dX12_about_0 rfl ?_
  by_cases q13 : p1 = 0
  · have hv := hv.1 q13
    refine z_tableIn (off := 51) (tgt := 52) dX12_about_1 (by rw [q13]; decide) (by rw [q13]; decide) (by rw [q13]; decide) (by decide) ?_
    refine z_aload_n dX12_about_52 rfl ?_
    refine z_callV (As := []) (st := []) dX12_about_53 zl_X12_339 zv_X12_manyOf (by decide) rfl zn_160 zo_160 rfl rfl (Nat.le_of_ble_eq_true rfl) ⟨Nat.le_refl _, Nat.le_refl _⟩ ⟨Nat.le_refl _, Nat.le_refl _⟩ hv (fun v1 I1 L2 P3 nx1 q4 => ?_)
    obtain ⟨rfl, r5, rfl, hv⟩ := q4
    exact z_ireturn dX12_about_56 rfl rfl (Nat.le_refl _) (Nat.le_refl _) hv
  by_cases q14 : p1 = 1
  · have hv := hv.2.1 q14
    refine z_tableIn (off := 56) (tgt := 57) dX12_about_1 (by rw [q14]; decide) (by rw [q14]; decide) (by rw [q14]; decide) (by decide) ?_
    refine z_aload_n dX12_about_57 rfl ?_
    refine z_getP dX12_about_58 zf_X12_27 zn_160 zo_160 (fun _ _ _ _ _ => rfl) (hP 160 13 165 zp_160_13) ?_
    refine z_aload_n dX12_about_61 rfl ?_
    refine z_getI dX12_about_62 zf_X12_261 zn_160 zo_160 (fun _ _ _ _ _ => rfl) ?_
    obtain ⟨h6, hv⟩ := hv
    refine z_iaload dX12_about_65 zn_165 zh_165 h6 ?_
    exact z_ireturn dX12_about_66 rfl rfl (Nat.le_refl _) (Nat.le_refl _) hv
  by_cases q15 : p1 = 2
  · have hv := hv.2.2.1 q15
    refine z_tableIn (off := 66) (tgt := 67) dX12_about_1 (by rw [q15]; decide) (by rw [q15]; decide) (by rw [q15]; decide) (by decide) ?_
    refine z_aload_n dX12_about_67 rfl ?_
    refine z_callV (As := []) (st := []) dX12_about_68 zl_X12_410 zv_X12_theTrue (by decide) rfl zn_160 zo_160 rfl rfl (Nat.le_of_ble_eq_true rfl) ⟨Nat.le_refl _, Nat.le_refl _⟩ ⟨Nat.le_refl _, Nat.le_refl _⟩ hv (fun v1 I7 L8 P9 nx1 q10 => ?_)
    obtain ⟨rfl, r11, rfl, hv⟩ := q10
    exact z_ireturn dX12_about_71 rfl rfl (Nat.le_refl _) (Nat.le_refl _) hv
  by_cases q16 : p1 = 3
  · have hv := hv.2.2.2.1 q16
    refine z_tableIn (off := 71) (tgt := 72) dX12_about_1 (by rw [q16]; decide) (by rw [q16]; decide) (by rw [q16]; decide) (by decide) ?_
    refine z_aload_n dX12_about_72 rfl ?_
    refine z_getI dX12_about_73 zf_X12_356 zn_160 zo_160 (fun _ _ _ _ _ => rfl) ?_
    exact z_ireturn dX12_about_76 rfl rfl (Nat.le_refl _) (Nat.le_refl _) hv
  by_cases q17 : p1 = 4
  · have hv := hv.2.2.2.2.1 q17
    refine z_tableIn (off := 76) (tgt := 77) dX12_about_1 (by rw [q17]; decide) (by rw [q17]; decide) (by rw [q17]; decide) (by decide) ?_
    refine z_aload_n dX12_about_77 rfl ?_
    refine z_getI dX12_about_78 zf_X12_353 zn_160 zo_160 (fun _ _ _ _ _ => rfl) ?_
    exact z_ireturn dX12_about_81 rfl rfl (Nat.le_refl _) (Nat.le_refl _) hv
  by_cases q18 : p1 = 5
  · have hv := hv.2.2.2.2.2.1 q18
    refine z_tableIn (off := 81) (tgt := 82) dX12_about_1 (by rw [q18]; decide) (by rw [q18]; decide) (by rw [q18]; decide) (by decide) ?_
    refine z_aload_n dX12_about_82 rfl ?_
    refine z_getI dX12_about_83 zf_X12_267 zn_160 zo_160 (fun _ _ _ _ _ => rfl) ?_
    exact z_ireturn dX12_about_86 rfl rfl (Nat.le_refl _) (Nat.le_refl _) hv
  by_cases q19 : p1 = 6
  · have hv := hv.2.2.2.2.2.2.1 q19
    refine z_tableIn (off := 86) (tgt := 87) dX12_about_1 (by rw [q19]; decide) (by rw [q19]; decide) (by rw [q19]; decide) (by decide) ?_
    refine z_aload_n dX12_about_87 rfl ?_
    refine z_getI dX12_about_88 zf_X12_441 zn_160 zo_160 (fun _ _ _ _ _ => rfl) ?_
    exact z_ireturn dX12_about_91 rfl rfl (Nat.le_refl _) (Nat.le_refl _) hv
  by_cases q20 : p1 = 7
  · have hv := hv.2.2.2.2.2.2.2.1 q20
    refine z_tableIn (off := 91) (tgt := 92) dX12_about_1 (by rw [q20]; decide) (by rw [q20]; decide) (by rw [q20]; decide) (by decide) ?_
    refine z_aload_n dX12_about_92 rfl ?_
    refine z_getI dX12_about_93 zf_X12_255 zn_160 zo_160 (fun _ _ _ _ _ => rfl) ?_
    exact z_ireturn dX12_about_96 rfl rfl (Nat.le_refl _) (Nat.le_refl _) hv
  by_cases q21 : p1 = 8
  · have hv := hv.2.2.2.2.2.2.2.2.1 q21
    refine z_tableIn (off := 96) (tgt := 97) dX12_about_1 (by rw [q21]; decide) (by rw [q21]; decide) (by rw [q21]; decide) (by decide) ?_
    refine z_aload_n dX12_about_97 rfl ?_
    refine z_getP dX12_about_98 zf_X12_30 zn_160 zo_160 (fun _ _ _ _ _ => rfl) (hP 160 14 166 zp_160_14) ?_
    refine z_aload_n dX12_about_101 rfl ?_
    refine z_getI dX12_about_102 zf_X12_261 zn_160 zo_160 (fun _ _ _ _ _ => rfl) ?_
    obtain ⟨h12, hv⟩ := hv
    refine z_iaload dX12_about_105 zn_166 zh_166 h12 ?_
    exact z_ireturn dX12_about_106 rfl rfl (Nat.le_refl _) (Nat.le_refl _) hv
  have hv := hv.2.2.2.2.2.2.2.2.2 q13 q14 q15 q16 q17 q18 q19 q20 q21
  have tq13 := lv_neT q13 (show (0 : Int32).toInt = 0 by decide)
  have tq14 := lv_neT q14 (show (1 : Int32).toInt = 1 by decide)
  have tq15 := lv_neT q15 (show (2 : Int32).toInt = 2 by decide)
  have tq16 := lv_neT q16 (show (3 : Int32).toInt = 3 by decide)
  have tq17 := lv_neT q17 (show (4 : Int32).toInt = 4 by decide)
  have tq18 := lv_neT q18 (show (5 : Int32).toInt = 5 by decide)
  have tq19 := lv_neT q19 (show (6 : Int32).toInt = 6 by decide)
  have tq20 := lv_neT q20 (show (7 : Int32).toInt = 7 by decide)
  have tq21 := lv_neT q21 (show (8 : Int32).toInt = 8 by decide)
  refine z_tableOut (tgt := 107) dX12_about_1 (by omega) (by decide) ?_
  refine z_iconst (v := (-1)) dX12_about_107 (by decide) ?_
  exact z_ireturn dX12_about_108 rfl rfl (Nat.le_refl _) (Nat.le_refl _) hv
abbrev gw_X12_feed (d : Nat) (Q : zQt) (pc : Nat) (lv : zV) (st : List Value) (I : zI) (L : zL) (P : zP) : Prop := zW zm_X12_feed (zRm d 0 0) 0 0 Q pc lv st I L P 205 0 0
def v_X12_feed_18 (d : Nat) (Q : zQt) (p1 : Int32) (p2 : Int32) (p3 : Int32) (p4 : Int32) (p5 : Int32) (x6 : Int32) (I : zI) (L : zL) (P : zP) : Prop :=
  ((20 ≤ x6 →
    ∀ I2 : zI, I2 = zuI I 160 2 ((I 160 2) + 20) →
    Q (some (.int (I2 160 2))) I2 L P 205
  ) ∧ (¬ 20 ≤ x6 →
    ((4 ≤ x6 →
      ((8 ≤ x6 →
        ((12 ≤ x6 →
          ((16 ≤ x6 →
            vp_in ((I 160 2) + x6) 1620 ∧
            ∀ I6 : zI, I6 = zuI I 161 ((I 160 2) + x6).toNatClampNeg (((p5 >>> (((24 : Int32) - ((8 : Int32) * (x6 &&& 3 : Int32))) &&& 31) : Int32) : Int32).toInt8.toInt32) →
            gw_X12_feed d Q 18 [some (.ref 160), some (.int p1), some (.int p2), some (.int p3), some (.int p4), some (.int p5), some (.int (x6 + 1)), none] [] I6 L P
          ) ∧ (¬ 16 ≤ x6 →
            vp_in ((I 160 2) + x6) 1620 ∧
            ∀ I9 : zI, I9 = zuI I 161 ((I 160 2) + x6).toNatClampNeg (((p4 >>> (((24 : Int32) - ((8 : Int32) * (x6 &&& 3 : Int32))) &&& 31) : Int32) : Int32).toInt8.toInt32) →
            gw_X12_feed d Q 18 [some (.ref 160), some (.int p1), some (.int p2), some (.int p3), some (.int p4), some (.int p5), some (.int (x6 + 1)), none] [] I9 L P
          ))
        ) ∧ (¬ 12 ≤ x6 →
          vp_in ((I 160 2) + x6) 1620 ∧
          ∀ I13 : zI, I13 = zuI I 161 ((I 160 2) + x6).toNatClampNeg (((p3 >>> (((24 : Int32) - ((8 : Int32) * (x6 &&& 3 : Int32))) &&& 31) : Int32) : Int32).toInt8.toInt32) →
          gw_X12_feed d Q 18 [some (.ref 160), some (.int p1), some (.int p2), some (.int p3), some (.int p4), some (.int p5), some (.int (x6 + 1)), none] [] I13 L P
        ))
      ) ∧ (¬ 8 ≤ x6 →
        vp_in ((I 160 2) + x6) 1620 ∧
        ∀ I17 : zI, I17 = zuI I 161 ((I 160 2) + x6).toNatClampNeg (((p2 >>> (((24 : Int32) - ((8 : Int32) * (x6 &&& 3 : Int32))) &&& 31) : Int32) : Int32).toInt8.toInt32) →
        gw_X12_feed d Q 18 [some (.ref 160), some (.int p1), some (.int p2), some (.int p3), some (.int p4), some (.int p5), some (.int (x6 + 1)), none] [] I17 L P
      ))
    ) ∧ (¬ 4 ≤ x6 →
      vp_in ((I 160 2) + x6) 1620 ∧
      ∀ I21 : zI, I21 = zuI I 161 ((I 160 2) + x6).toNatClampNeg (((p1 >>> (((24 : Int32) - ((8 : Int32) * (x6 &&& 3 : Int32))) &&& 31) : Int32) : Int32).toInt8.toInt32) →
      gw_X12_feed d Q 18 [some (.ref 160), some (.int p1), some (.int p2), some (.int p3), some (.int p4), some (.int p5), some (.int (x6 + 1)), none] [] I21 L P
    ))
  ))
set_option maxRecDepth 20000 in
theorem g_X12_feed_18 {d : Nat} {Q : zQt} {p1 : Int32} {p2 : Int32} {p3 : Int32} {p4 : Int32} {p5 : Int32} {x6 : Int32} {I : zI} {L : zL} {P : zP} (hP : zPk P) (hv : v_X12_feed_18 d Q p1 p2 p3 p4 p5 x6 I L P) : gw_X12_feed d Q 18 [some (.ref 160), some (.int p1), some (.int p2), some (.int p3), some (.int p4), some (.int p5), some (.int x6), none] [] I L P := by
  unfold v_X12_feed_18 at hv
  refine z_iload dX12_feed_18 rfl ?_
  refine z_bipush (v := 20) dX12_feed_20 (by decide) ?_
  refine z_icmp_ge (tgt := 105) dX12_feed_22 (by decide) (fun q23 => ?_) (fun q23 => ?_)
  · have hv := hv.1 q23
    refine z_aload_n dX12_feed_105 rfl ?_
    refine z_dup dX12_feed_106 rfl ?_
    refine z_getI dX12_feed_107 zf_X12_255 zn_160 zo_160 (fun _ _ _ _ _ => rfl) ?_
    refine z_bipush (v := 20) dX12_feed_110 (by decide) ?_
    refine z_iadd dX12_feed_112 ?_
    refine z_putI dX12_feed_113 zf_X12_255 zn_160 zo_160 (Or.inl rfl) (fun _ _ _ _ _ => rfl) rfl rfl (z_nmI (fun I2 e3 => ?_))
    have hv := hv I2 e3
    refine z_aload_n dX12_feed_116 rfl ?_
    refine z_getI dX12_feed_117 zf_X12_255 zn_160 zo_160 (fun _ _ _ _ _ => rfl) ?_
    exact z_ireturn dX12_feed_120 rfl rfl (Nat.le_refl _) (Nat.le_refl _) hv
  · have hv := hv.2 q23
    refine z_iload dX12_feed_25 rfl ?_
    refine z_iconst (v := 4) dX12_feed_27 (by decide) ?_
    refine z_icmp_ge (tgt := 35) dX12_feed_28 (by decide) (fun q22 => ?_) (fun q22 => ?_)
    · have hv := hv.1 q22
      refine z_iload dX12_feed_35 rfl ?_
      refine z_bipush (v := 8) dX12_feed_37 (by decide) ?_
      refine z_icmp_ge (tgt := 46) dX12_feed_39 (by decide) (fun q18 => ?_) (fun q18 => ?_)
      · have hv := hv.1 q18
        refine z_iload dX12_feed_46 rfl ?_
        refine z_bipush (v := 12) dX12_feed_48 (by decide) ?_
        refine z_icmp_ge (tgt := 57) dX12_feed_50 (by decide) (fun q14 => ?_) (fun q14 => ?_)
        · have hv := hv.1 q14
          refine z_iload dX12_feed_57 rfl ?_
          refine z_bipush (v := 16) dX12_feed_59 (by decide) ?_
          refine z_icmp_ge (tgt := 69) dX12_feed_61 (by decide) (fun q10 => ?_) (fun q10 => ?_)
          · have hv := hv.1 q10
            refine z_iload dX12_feed_69 rfl ?_
            refine z_istore (lv2 := [some (.ref 160), some (.int p1), some (.int p2), some (.int p3), some (.int p4), some (.int p5), some (.int x6), some (.int p5)]) dX12_feed_71 (by decide) rfl rfl ?_
            refine z_aload_n dX12_feed_73 rfl ?_
            refine z_getP dX12_feed_74 zf_X12_7 zn_160 zo_160 (fun _ _ _ _ _ => rfl) (hP 160 0 161 zp_160_0) ?_
            refine z_aload_n dX12_feed_77 rfl ?_
            refine z_getI dX12_feed_78 zf_X12_255 zn_160 zo_160 (fun _ _ _ _ _ => rfl) ?_
            refine z_iload dX12_feed_81 rfl ?_
            refine z_iadd dX12_feed_83 ?_
            refine z_iload dX12_feed_84 rfl ?_
            refine z_bipush (v := 24) dX12_feed_86 (by decide) ?_
            refine z_bipush (v := 8) dX12_feed_88 (by decide) ?_
            refine z_iload dX12_feed_90 rfl ?_
            refine z_iconst (v := 3) dX12_feed_92 (by decide) ?_
            refine z_iand dX12_feed_93 ?_
            refine z_imul dX12_feed_94 ?_
            refine z_isub dX12_feed_95 ?_
            refine z_ishr dX12_feed_96 ?_
            refine z_i2b dX12_feed_97 ?_
            obtain ⟨h4, hv⟩ := hv
            refine z_bastore dX12_feed_98 zn_161 zh_161 h4 (pk_nb _) (z_nmI (fun I6 e5 => ?_))
            have hv := hv I6 e5
            refine z_iinc (v2 := x6 + 1) (lv2 := [some (.ref 160), some (.int p1), some (.int p2), some (.int p3), some (.int p4), some (.int p5), some (.int (x6 + 1)), some (.int p5)]) dX12_feed_99 rfl (by rfl) (by decide) rfl rfl ?_
            refine z_goto (tgt := 18) dX12_feed_102 (by decide) ?_
            exact z_sub (by exact ⟨rfl, ⟨rfl, ⟨rfl, ⟨rfl, ⟨rfl, ⟨rfl, ⟨rfl, trivial⟩⟩⟩⟩⟩⟩⟩) hv
          · have hv := hv.2 q10
            refine z_iload dX12_feed_64 rfl ?_
            refine z_goto (tgt := 71) dX12_feed_66 (by decide) ?_
            refine z_istore (lv2 := [some (.ref 160), some (.int p1), some (.int p2), some (.int p3), some (.int p4), some (.int p5), some (.int x6), some (.int p4)]) dX12_feed_71 (by decide) rfl rfl ?_
            refine z_aload_n dX12_feed_73 rfl ?_
            refine z_getP dX12_feed_74 zf_X12_7 zn_160 zo_160 (fun _ _ _ _ _ => rfl) (hP 160 0 161 zp_160_0) ?_
            refine z_aload_n dX12_feed_77 rfl ?_
            refine z_getI dX12_feed_78 zf_X12_255 zn_160 zo_160 (fun _ _ _ _ _ => rfl) ?_
            refine z_iload dX12_feed_81 rfl ?_
            refine z_iadd dX12_feed_83 ?_
            refine z_iload dX12_feed_84 rfl ?_
            refine z_bipush (v := 24) dX12_feed_86 (by decide) ?_
            refine z_bipush (v := 8) dX12_feed_88 (by decide) ?_
            refine z_iload dX12_feed_90 rfl ?_
            refine z_iconst (v := 3) dX12_feed_92 (by decide) ?_
            refine z_iand dX12_feed_93 ?_
            refine z_imul dX12_feed_94 ?_
            refine z_isub dX12_feed_95 ?_
            refine z_ishr dX12_feed_96 ?_
            refine z_i2b dX12_feed_97 ?_
            obtain ⟨h7, hv⟩ := hv
            refine z_bastore dX12_feed_98 zn_161 zh_161 h7 (pk_nb _) (z_nmI (fun I9 e8 => ?_))
            have hv := hv I9 e8
            refine z_iinc (v2 := x6 + 1) (lv2 := [some (.ref 160), some (.int p1), some (.int p2), some (.int p3), some (.int p4), some (.int p5), some (.int (x6 + 1)), some (.int p4)]) dX12_feed_99 rfl (by rfl) (by decide) rfl rfl ?_
            refine z_goto (tgt := 18) dX12_feed_102 (by decide) ?_
            exact z_sub (by exact ⟨rfl, ⟨rfl, ⟨rfl, ⟨rfl, ⟨rfl, ⟨rfl, ⟨rfl, trivial⟩⟩⟩⟩⟩⟩⟩) hv
        · have hv := hv.2 q14
          refine z_iload_n dX12_feed_53 rfl ?_
          refine z_goto (tgt := 71) dX12_feed_54 (by decide) ?_
          refine z_istore (lv2 := [some (.ref 160), some (.int p1), some (.int p2), some (.int p3), some (.int p4), some (.int p5), some (.int x6), some (.int p3)]) dX12_feed_71 (by decide) rfl rfl ?_
          refine z_aload_n dX12_feed_73 rfl ?_
          refine z_getP dX12_feed_74 zf_X12_7 zn_160 zo_160 (fun _ _ _ _ _ => rfl) (hP 160 0 161 zp_160_0) ?_
          refine z_aload_n dX12_feed_77 rfl ?_
          refine z_getI dX12_feed_78 zf_X12_255 zn_160 zo_160 (fun _ _ _ _ _ => rfl) ?_
          refine z_iload dX12_feed_81 rfl ?_
          refine z_iadd dX12_feed_83 ?_
          refine z_iload dX12_feed_84 rfl ?_
          refine z_bipush (v := 24) dX12_feed_86 (by decide) ?_
          refine z_bipush (v := 8) dX12_feed_88 (by decide) ?_
          refine z_iload dX12_feed_90 rfl ?_
          refine z_iconst (v := 3) dX12_feed_92 (by decide) ?_
          refine z_iand dX12_feed_93 ?_
          refine z_imul dX12_feed_94 ?_
          refine z_isub dX12_feed_95 ?_
          refine z_ishr dX12_feed_96 ?_
          refine z_i2b dX12_feed_97 ?_
          obtain ⟨h11, hv⟩ := hv
          refine z_bastore dX12_feed_98 zn_161 zh_161 h11 (pk_nb _) (z_nmI (fun I13 e12 => ?_))
          have hv := hv I13 e12
          refine z_iinc (v2 := x6 + 1) (lv2 := [some (.ref 160), some (.int p1), some (.int p2), some (.int p3), some (.int p4), some (.int p5), some (.int (x6 + 1)), some (.int p3)]) dX12_feed_99 rfl (by rfl) (by decide) rfl rfl ?_
          refine z_goto (tgt := 18) dX12_feed_102 (by decide) ?_
          exact z_sub (by exact ⟨rfl, ⟨rfl, ⟨rfl, ⟨rfl, ⟨rfl, ⟨rfl, ⟨rfl, trivial⟩⟩⟩⟩⟩⟩⟩) hv
      · have hv := hv.2 q18
        refine z_iload_n dX12_feed_42 rfl ?_
        refine z_goto (tgt := 71) dX12_feed_43 (by decide) ?_
        refine z_istore (lv2 := [some (.ref 160), some (.int p1), some (.int p2), some (.int p3), some (.int p4), some (.int p5), some (.int x6), some (.int p2)]) dX12_feed_71 (by decide) rfl rfl ?_
        refine z_aload_n dX12_feed_73 rfl ?_
        refine z_getP dX12_feed_74 zf_X12_7 zn_160 zo_160 (fun _ _ _ _ _ => rfl) (hP 160 0 161 zp_160_0) ?_
        refine z_aload_n dX12_feed_77 rfl ?_
        refine z_getI dX12_feed_78 zf_X12_255 zn_160 zo_160 (fun _ _ _ _ _ => rfl) ?_
        refine z_iload dX12_feed_81 rfl ?_
        refine z_iadd dX12_feed_83 ?_
        refine z_iload dX12_feed_84 rfl ?_
        refine z_bipush (v := 24) dX12_feed_86 (by decide) ?_
        refine z_bipush (v := 8) dX12_feed_88 (by decide) ?_
        refine z_iload dX12_feed_90 rfl ?_
        refine z_iconst (v := 3) dX12_feed_92 (by decide) ?_
        refine z_iand dX12_feed_93 ?_
        refine z_imul dX12_feed_94 ?_
        refine z_isub dX12_feed_95 ?_
        refine z_ishr dX12_feed_96 ?_
        refine z_i2b dX12_feed_97 ?_
        obtain ⟨h15, hv⟩ := hv
        refine z_bastore dX12_feed_98 zn_161 zh_161 h15 (pk_nb _) (z_nmI (fun I17 e16 => ?_))
        have hv := hv I17 e16
        refine z_iinc (v2 := x6 + 1) (lv2 := [some (.ref 160), some (.int p1), some (.int p2), some (.int p3), some (.int p4), some (.int p5), some (.int (x6 + 1)), some (.int p2)]) dX12_feed_99 rfl (by rfl) (by decide) rfl rfl ?_
        refine z_goto (tgt := 18) dX12_feed_102 (by decide) ?_
        exact z_sub (by exact ⟨rfl, ⟨rfl, ⟨rfl, ⟨rfl, ⟨rfl, ⟨rfl, ⟨rfl, trivial⟩⟩⟩⟩⟩⟩⟩) hv
    · have hv := hv.2 q22
      refine z_iload_n dX12_feed_31 rfl ?_
      refine z_goto (tgt := 71) dX12_feed_32 (by decide) ?_
      refine z_istore (lv2 := [some (.ref 160), some (.int p1), some (.int p2), some (.int p3), some (.int p4), some (.int p5), some (.int x6), some (.int p1)]) dX12_feed_71 (by decide) rfl rfl ?_
      refine z_aload_n dX12_feed_73 rfl ?_
      refine z_getP dX12_feed_74 zf_X12_7 zn_160 zo_160 (fun _ _ _ _ _ => rfl) (hP 160 0 161 zp_160_0) ?_
      refine z_aload_n dX12_feed_77 rfl ?_
      refine z_getI dX12_feed_78 zf_X12_255 zn_160 zo_160 (fun _ _ _ _ _ => rfl) ?_
      refine z_iload dX12_feed_81 rfl ?_
      refine z_iadd dX12_feed_83 ?_
      refine z_iload dX12_feed_84 rfl ?_
      refine z_bipush (v := 24) dX12_feed_86 (by decide) ?_
      refine z_bipush (v := 8) dX12_feed_88 (by decide) ?_
      refine z_iload dX12_feed_90 rfl ?_
      refine z_iconst (v := 3) dX12_feed_92 (by decide) ?_
      refine z_iand dX12_feed_93 ?_
      refine z_imul dX12_feed_94 ?_
      refine z_isub dX12_feed_95 ?_
      refine z_ishr dX12_feed_96 ?_
      refine z_i2b dX12_feed_97 ?_
      obtain ⟨h19, hv⟩ := hv
      refine z_bastore dX12_feed_98 zn_161 zh_161 h19 (pk_nb _) (z_nmI (fun I21 e20 => ?_))
      have hv := hv I21 e20
      refine z_iinc (v2 := x6 + 1) (lv2 := [some (.ref 160), some (.int p1), some (.int p2), some (.int p3), some (.int p4), some (.int p5), some (.int (x6 + 1)), some (.int p1)]) dX12_feed_99 rfl (by rfl) (by decide) rfl rfl ?_
      refine z_goto (tgt := 18) dX12_feed_102 (by decide) ?_
      exact z_sub (by exact ⟨rfl, ⟨rfl, ⟨rfl, ⟨rfl, ⟨rfl, ⟨rfl, ⟨rfl, trivial⟩⟩⟩⟩⟩⟩⟩) hv
def v_X12_feed (d : Nat) (Q : zQt) (p1 : Int32) (p2 : Int32) (p3 : Int32) (p4 : Int32) (p5 : Int32) (I : zI) (L : zL) (P : zP) : Prop :=
  ((((I 160 2) + 20) ≤ 1600 →
    gw_X12_feed d Q 18 [some (.ref 160), some (.int p1), some (.int p2), some (.int p3), some (.int p4), some (.int p5), some (.int 0), none] [] I L P
  ) ∧ (¬ ((I 160 2) + 20) ≤ 1600 →
    Q (some (.int (-1))) I L P 205
  ))
set_option maxRecDepth 20000 in
theorem g_X12_feed {d : Nat} {Q : zQt} {p1 : Int32} {p2 : Int32} {p3 : Int32} {p4 : Int32} {p5 : Int32} {I : zI} {L : zL} {P : zP} (hP : zPk P) (hv : v_X12_feed d Q p1 p2 p3 p4 p5 I L P) : zM zm_X12_feed d 0 0 [.ref 160, .int p1, .int p2, .int p3, .int p4, .int p5] I L P 205 Q := by
  unfold v_X12_feed at hv
  refine zM_of (lv0 := [some (.ref 160), some (.int p1), some (.int p2), some (.int p3), some (.int p4), some (.int p5), none, none]) (by decide +kernel) (Nat.le_of_ble_eq_true rfl) rfl ?_
  refine z_aload_n dX12_feed_0 rfl ?_
  refine z_getI dX12_feed_1 zf_X12_255 zn_160 zo_160 (fun _ _ _ _ _ => rfl) ?_
  refine z_bipush (v := 20) dX12_feed_4 (by decide) ?_
  refine z_iadd dX12_feed_6 ?_
  refine z_sipush (v := 1600) dX12_feed_7 (by decide) ?_
  refine z_icmp_le (tgt := 15) dX12_feed_10 (by decide) (fun q1 => ?_) (fun q1 => ?_)
  · have hv := hv.1 q1
    refine z_iconst (v := 0) dX12_feed_15 (by decide) ?_
    refine z_istore (lv2 := [some (.ref 160), some (.int p1), some (.int p2), some (.int p3), some (.int p4), some (.int p5), some (.int 0), none]) dX12_feed_16 (by decide) rfl rfl ?_
    exact hv
  · have hv := hv.2 q1
    refine z_iconst (v := (-1)) dX12_feed_13 (by decide) ?_
    exact z_ireturn dX12_feed_14 rfl rfl (Nat.le_refl _) (Nat.le_refl _) hv
abbrev gw_X12_end (d : Nat) (Q : zQt) (pc : Nat) (lv : zV) (st : List Value) (I : zI) (L : zL) (P : zP) : Prop := zW zm_X12_end (zRm d 0 0) 0 0 Q pc lv st I L P 205 0 0
def v_X12_end (d : Nat) (Q : zQt) (p1 : Int32) (I : zI) (L : zL) (P : zP) : Prop :=
  ((p1 < 0 →
    Q (some (.int (-1))) I L P 205
  ) ∧ (¬ p1 < 0 →
    ((p1 ≤ (I 160 2) →
      ∀ I1 : zI, I1 = zuI I 160 2 p1 →
      Q (some (.int p1)) I1 L P 205
    ) ∧ (¬ p1 ≤ (I 160 2) →
      Q (some (.int (-1))) I L P 205
    ))
  ))
set_option maxRecDepth 20000 in
theorem g_X12_end {d : Nat} {Q : zQt} {p1 : Int32} {I : zI} {L : zL} {P : zP} (hP : zPk P) (hv : v_X12_end d Q p1 I L P) : zM zm_X12_end d 0 0 [.ref 160, .int p1] I L P 205 Q := by
  unfold v_X12_end at hv
  refine zM_of (lv0 := [some (.ref 160), some (.int p1)]) (by decide +kernel) (Nat.le_of_ble_eq_true rfl) rfl ?_
  refine z_iload_n dX12_end_0 rfl ?_
  refine z_if_lt (tgt := 12) dX12_end_1 (by decide) (fun q4 => ?_) (fun q4 => ?_)
  · have hv := hv.1 q4
    refine z_iconst (v := (-1)) dX12_end_12 (by decide) ?_
    exact z_ireturn dX12_end_13 rfl rfl (Nat.le_refl _) (Nat.le_refl _) hv
  · have hv := hv.2 q4
    refine z_iload_n dX12_end_4 rfl ?_
    refine z_aload_n dX12_end_5 rfl ?_
    refine z_getI dX12_end_6 zf_X12_255 zn_160 zo_160 (fun _ _ _ _ _ => rfl) ?_
    refine z_icmp_le (tgt := 14) dX12_end_9 (by decide) (fun q3 => ?_) (fun q3 => ?_)
    · have hv := hv.1 q3
      refine z_aload_n dX12_end_14 rfl ?_
      refine z_iload_n dX12_end_15 rfl ?_
      refine z_putI dX12_end_16 zf_X12_255 zn_160 zo_160 (Or.inl rfl) (fun _ _ _ _ _ => rfl) rfl rfl (z_nmI (fun I1 e2 => ?_))
      have hv := hv I1 e2
      refine z_iload_n dX12_end_19 rfl ?_
      exact z_ireturn dX12_end_20 rfl rfl (Nat.le_refl _) (Nat.le_refl _) hv
    · have hv := hv.2 q3
      refine z_iconst (v := (-1)) dX12_end_12 (by decide) ?_
      exact z_ireturn dX12_end_13 rfl rfl (Nat.le_refl _) (Nat.le_refl _) hv
