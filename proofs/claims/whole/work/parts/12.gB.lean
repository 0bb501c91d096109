abbrev gw_X1_nightOf (d : Nat) (Q : zQt) (pc : Nat) (lv : zV) (st : List Value) (I : zI) (L : zL) (P : zP) : Prop := zW zm_X1_nightOf (zRm d 0 0) 0 0 Q pc lv st I L P 205 0 0
def v_X1_nightOf (d : Nat) (Q : zQt) (p1 : Int32) (p2 : Int32) (I : zI) (L : zL) (P : zP) : Prop :=
  Q (some (.int ((p1 >>> (((4 : Int32) * p2) &&& 31) : Int32) &&& 15 : Int32))) I L P 205
set_option maxRecDepth 20000 in
theorem g_X1_nightOf {d : Nat} {Q : zQt} {p1 : Int32} {p2 : Int32} {I : zI} {L : zL} {P : zP} (hP : zPk P) (hv : v_X1_nightOf d Q p1 p2 I L P) : zM zm_X1_nightOf d 0 0 [.int p1, .int p2] I L P 205 Q := by
  unfold v_X1_nightOf at hv
  refine zM_of (lv0 := [some (.int p1), some (.int p2)]) (by decide +kernel) (Nat.le_of_ble_eq_true rfl) rfl ?_
  refine z_iload_n dX1_nightOf_0 rfl ?_
  refine z_iconst (v := 4) dX1_nightOf_1 (by decide) ?_
  refine z_iload_n dX1_nightOf_2 rfl ?_
  refine z_imul dX1_nightOf_3 ?_
  refine z_ishr dX1_nightOf_4 ?_
  refine z_bipush (v := 15) dX1_nightOf_5 (by decide) ?_
  refine z_iand dX1_nightOf_7 ?_
  exact z_ireturn dX1_nightOf_8 rfl rfl (Nat.le_refl _) (Nat.le_refl _) hv
abbrev gw_X1_learn (d : Nat) (Q : zQt) (pc : Nat) (lv : zV) (st : List Value) (I : zI) (L : zL) (P : zP) : Prop := zW zm_X1_learn (zRm d 0 0) 0 0 Q pc lv st I L P 205 0 0
def v_X1_learn_117 (d : Nat) (Q : zQt) (p1 : Nat) (x4 : Nat) (x5 : Int32) (x6 : Nat) (x7 : Int32) (I : zI) (L : zL) (P : zP) : Prop :=
  (p1 < 205 ∧ (zsh p1).1 = 2) ∧
  (((I p1 0) ≤ x7 →
    gw_X1_learn (d + 1) Q 97 [some (.ref 96), some (.ref p1), none, some (.ref 23), some (.ref x4), some (.int (x5 + 1)), none, none] [] I L P
  ) ∧ (¬ (I p1 0) ≤ x7 →
    zMv zm_X1_sendOne d [.ref 96, .int x7, .ref x6, .ref x4, .int x5] I L P (fun I54 L55 P56 =>
      gw_X1_learn (d + 1) Q 117 [some (.ref 96), some (.ref p1), none, some (.ref 23), some (.ref x4), some (.int x5), some (.ref x6), some (.int (x7 + 1))] [] I54 L55 P56
    )
  ))
set_option maxRecDepth 20000 in
theorem g_X1_learn_117 {d : Nat} {Q : zQt} {p1 : Nat} {x4 : Nat} {x5 : Int32} {x6 : Nat} {x7 : Int32} {I : zI} {L : zL} {P : zP} (hP : zPk P) (hv : v_X1_learn_117 d Q p1 x4 x5 x6 x7 I L P) : gw_X1_learn (d + 1) Q 117 [some (.ref 96), some (.ref p1), none, some (.ref 23), some (.ref x4), some (.int x5), some (.ref x6), some (.int x7)] [] I L P := by
  unfold v_X1_learn_117 at hv
  refine z_iload dX1_learn_117 rfl ?_
  refine z_aload_n dX1_learn_119 rfl ?_
  obtain ⟨h53, hv⟩ := hv
  refine z_getI dX1_learn_120 zf_X1_87 h53.1 h53.2 (fun _ _ _ _ _ => rfl) ?_
  refine z_icmp_ge (tgt := 144) dX1_learn_123 (by decide) (fun q59 => ?_) (fun q59 => ?_)
  · have hv := hv.1 q59
    refine z_iinc (v2 := x5 + 1) (lv2 := [some (.ref 96), some (.ref p1), none, some (.ref 23), some (.ref x4), some (.int (x5 + 1)), some (.ref x6), some (.int x7)]) dX1_learn_144 rfl (by rfl) (by decide) rfl rfl ?_
    refine z_goto (tgt := 97) dX1_learn_147 (by decide) ?_
    exact z_sub (by exact ⟨rfl, ⟨rfl, ⟨rfl, ⟨rfl, ⟨rfl, trivial⟩⟩⟩⟩⟩) hv
  · have hv := hv.2 q59
    refine z_aload_n dX1_learn_126 rfl ?_
    refine z_iload dX1_learn_127 rfl ?_
    refine z_aload dX1_learn_129 rfl ?_
    refine z_aload dX1_learn_131 rfl ?_
    refine z_iload dX1_learn_133 rfl ?_
    refine z_callV (As := [.int x7, .ref x6, .ref x4, .int x5]) (st := []) dX1_learn_135 zl_X1_90 zv_X1_sendOne (by decide) rfl zn_96 zo_96 rfl rfl (Nat.le_of_ble_eq_true rfl) ⟨Nat.le_refl _, Nat.le_refl _⟩ ⟨Nat.le_refl _, Nat.le_refl _⟩ hv (fun v1 I54 L55 P56 nx1 q57 => ?_)
    obtain ⟨rfl, rfl, hv⟩ := q57
    refine z_iinc (v2 := x7 + 1) (lv2 := [some (.ref 96), some (.ref p1), none, some (.ref 23), some (.ref x4), some (.int x5), some (.ref x6), some (.int (x7 + 1))]) dX1_learn_138 rfl (by rfl) (by decide) rfl rfl ?_
    refine z_goto (tgt := 117) dX1_learn_141 (by decide) ?_
    exact hv
def v_X1_learn_97 (d : Nat) (Q : zQt) (p1 : Nat) (x4 : Nat) (x5 : Int32) (I : zI) (L : zL) (P : zP) : Prop :=
  ((12 < x5 →
    Q none I L P 205
  ) ∧ (¬ 12 < x5 →
    zMr zm_X4_findGoers d [.ref 23, .ref 107] I L P (fun r51 I47 L48 P49 =>
      gw_X1_learn (d + 1) Q 117 [some (.ref 96), some (.ref p1), none, some (.ref 23), some (.ref x4), some (.int x5), some (.ref r51), some (.int 0)] [] I47 L48 P49
    )
  ))
set_option maxRecDepth 20000 in
theorem g_X1_learn_97 {d : Nat} {Q : zQt} {p1 : Nat} {x4 : Nat} {x5 : Int32} {I : zI} {L : zL} {P : zP} (hP : zPk P) (hv : v_X1_learn_97 d Q p1 x4 x5 I L P) : gw_X1_learn (d + 1) Q 97 [some (.ref 96), some (.ref p1), none, some (.ref 23), some (.ref x4), some (.int x5), none, none] [] I L P := by
  unfold v_X1_learn_97 at hv
  refine z_iload dX1_learn_97 rfl ?_
  refine z_bipush (v := 12) dX1_learn_99 (by decide) ?_
  refine z_icmp_gt (tgt := 150) dX1_learn_101 (by decide) (fun q52 => ?_) (fun q52 => ?_)
  · have hv := hv.1 q52
    exact z_return dX1_learn_150 rfl (Nat.le_refl _) (Nat.le_refl _) hv
  · have hv := hv.2 q52
    refine z_aload_n dX1_learn_104 rfl ?_
    refine z_aload_n dX1_learn_105 rfl ?_
    refine z_getP dX1_learn_106 zf_X1_44 zn_96 zo_96 (fun _ _ _ _ _ => rfl) (hP 96 1 107 zp_96_1) ?_
    refine z_callV (As := [.ref 107]) (st := []) dX1_learn_109 zl_X1_83 zv_X4_findGoers (by decide) rfl zn_23 zo_23 rfl rfl (Nat.le_of_ble_eq_true rfl) ⟨Nat.le_refl _, Nat.le_refl _⟩ ⟨Nat.le_refl _, Nat.le_refl _⟩ hv (fun v1 I47 L48 P49 nx1 q50 => ?_)
    obtain ⟨rfl, r51, rfl, hv⟩ := q50
    refine z_astore (lv2 := [some (.ref 96), some (.ref p1), none, some (.ref 23), some (.ref x4), some (.int x5), some (.ref r51), none]) dX1_learn_112 (by decide) rfl rfl ?_
    refine z_iconst (v := 0) dX1_learn_114 (by decide) ?_
    refine z_istore (lv2 := [some (.ref 96), some (.ref p1), none, some (.ref 23), some (.ref x4), some (.int x5), some (.ref r51), some (.int 0)]) dX1_learn_115 (by decide) rfl rfl ?_
    exact hv
def v_X1_learn_62 (d : Nat) (Q : zQt) (p1 : Nat) (x4 : Nat) (x5 : Int32) (I : zI) (L : zL) (P : zP) : Prop :=
  (((I 107 3) ≤ x5 →
    gw_X1_learn (d + 1) Q 97 [some (.ref 96), some (.ref p1), none, some (.ref 23), some (.ref x4), some (.int 1), none, none] [] I L P
  ) ∧ (¬ (I 107 3) ≤ x5 →
    vp_in x5 256 ∧
    ∃ n42, (x4 < 205 ∧ zsh x4 = (100, n42)) ∧
    vp_in (I 119 x5.toNatClampNeg) n42 ∧
    ∀ I45 : zI, I45 = zuI I x4 (I 119 x5.toNatClampNeg).toNatClampNeg 0 →
    gw_X1_learn (d + 1) Q 62 [some (.ref 96), some (.ref p1), none, some (.ref 23), some (.ref x4), some (.int (x5 + 1)), none, none] [] I45 L P
  ))
set_option maxRecDepth 20000 in
theorem g_X1_learn_62 {d : Nat} {Q : zQt} {p1 : Nat} {x4 : Nat} {x5 : Int32} {I : zI} {L : zL} {P : zP} (hP : zPk P) (hv : v_X1_learn_62 d Q p1 x4 x5 I L P) : gw_X1_learn (d + 1) Q 62 [some (.ref 96), some (.ref p1), none, some (.ref 23), some (.ref x4), some (.int x5), none, none] [] I L P := by
  unfold v_X1_learn_62 at hv
  refine z_iload dX1_learn_62 rfl ?_
  refine z_aload_n dX1_learn_64 rfl ?_
  refine z_getP dX1_learn_65 zf_X1_44 zn_96 zo_96 (fun _ _ _ _ _ => rfl) (hP 96 1 107 zp_96_1) ?_
  refine z_getI dX1_learn_68 zf_X1_75 zn_107 zo_107 (fun _ _ _ _ _ => rfl) ?_
  refine z_icmp_ge (tgt := 94) dX1_learn_71 (by decide) (fun q46 => ?_) (fun q46 => ?_)
  · have hv := hv.1 q46
    refine z_iconst (v := 1) dX1_learn_94 (by decide) ?_
    refine z_istore (lv2 := [some (.ref 96), some (.ref p1), none, some (.ref 23), some (.ref x4), some (.int 1), none, none]) dX1_learn_95 (by decide) rfl rfl ?_
    exact hv
  · have hv := hv.2 q46
    refine z_aload dX1_learn_74 rfl ?_
    refine z_aload_n dX1_learn_76 rfl ?_
    refine z_getP dX1_learn_77 zf_X1_44 zn_96 zo_96 (fun _ _ _ _ _ => rfl) (hP 96 1 107 zp_96_1) ?_
    refine z_getP dX1_learn_80 zf_X1_78 zn_107 zo_107 (fun _ _ _ _ _ => rfl) (hP 107 2 119 zp_107_2) ?_
    refine z_iload dX1_learn_83 rfl ?_
    obtain ⟨h40, hv⟩ := hv
    refine z_iaload dX1_learn_85 zn_119 zh_119 h40 ?_
    refine z_iconst (v := 0) dX1_learn_86 (by decide) ?_
    obtain ⟨n42, h41, hv⟩ := hv
    obtain ⟨h43, hv⟩ := hv
    refine z_iastore dX1_learn_87 h41.1 h41.2 h43 (z_nmI (fun I45 e44 => ?_))
    have hv := hv I45 e44
    refine z_iinc (v2 := x5 + 1) (lv2 := [some (.ref 96), some (.ref p1), none, some (.ref 23), some (.ref x4), some (.int (x5 + 1)), none, none]) dX1_learn_88 rfl (by rfl) (by decide) rfl rfl ?_
    refine z_goto (tgt := 62) dX1_learn_91 (by decide) ?_
    exact hv
def v_X1_learn (d : Nat) (Q : zQt) (p1 : Nat) (p2 : Int32) (I : zI) (L : zL) (P : zP) : Prop :=
  vp_in p2 7 ∧
  ∃ b2 : Nat, P 97 p2.toNatClampNeg = some b2 ∧
  zMv zm_J7_fill_53178 d [.ref b2, .int (-1)] I L P (fun I4 L5 P6 =>
    zPk P6 ∧
    zMv zm_J7_fill_53178 d [.ref 105, .int 0] I4 L5 P6 (fun I10 L11 P12 =>
      zPk P12 ∧
      zMv zm_X6_open d [.ref 107, .ref p1] I10 L11 P12 (fun I16 L17 P18 =>
        (p1 < 205 ∧ (zsh p1).1 = 2) ∧
        (((I16 p1 4) ≤ p2 →
          gw_X1_learn (d + 1) Q 62 [some (.ref 96), some (.ref p1), none, some (.ref 23), some (.ref b2), some (.int 0), none, none] [] I16 L17 P18
        ) ∧ (¬ (I16 p1 4) ≤ p2 →
          zPk P18 ∧
          zMv zm_X4_weighSaying d [.ref 23, .ref 107, .int p2] I16 L17 P18 (fun I23 L24 P25 =>
            zPk P25 ∧
            zMr zm_X4_result d [.ref 23] I23 L24 P25 (fun r33 I29 L30 P31 =>
              zMi zm_X6_keepSo d [.ref 107, .ref r33] I29 L30 P31 (fun r38 I34 L35 P36 =>
                gw_X1_learn (d + 1) Q 62 [some (.ref 96), some (.ref p1), none, some (.ref 23), some (.ref b2), some (.int 0), none, none] [] I34 L35 P36
              )
            )
          )
        ))
      )
    )
  )
set_option maxRecDepth 20000 in
theorem g_X1_learn {d : Nat} {Q : zQt} {p1 : Nat} {p2 : Int32} {I : zI} {L : zL} {P : zP} (hP : zPk P) (hv : v_X1_learn d Q p1 p2 I L P) : zM zm_X1_learn (d + 1) 0 0 [.ref 96, .ref p1, .int p2, .ref 23] I L P 205 Q := by
  unfold v_X1_learn at hv
  refine zM_of (lv0 := [some (.ref 96), some (.ref p1), some (.int p2), some (.ref 23), none, none, none, none]) (by decide +kernel) (Nat.le_of_ble_eq_true rfl) rfl ?_
  refine z_aload_n dX1_learn_0 rfl ?_
  refine z_getP dX1_learn_1 zf_X1_15 zn_96 zo_96 (fun _ _ _ _ _ => rfl) (hP 96 0 97 zp_96_0) ?_
  refine z_iload_n dX1_learn_4 rfl ?_
  obtain ⟨h1, hv⟩ := hv
  obtain ⟨b2, h3, hv⟩ := hv
  refine z_aaload dX1_learn_5 zn_97 zh_97 (Or.inl rfl) h1 h3 ?_
  refine z_astore (lv2 := [some (.ref 96), some (.ref p1), some (.int p2), some (.ref 23), some (.ref b2), none, none, none]) dX1_learn_6 (by decide) rfl rfl ?_
  refine z_aload dX1_learn_8 rfl ?_
  refine z_iconst (v := (-1)) dX1_learn_10 (by decide) ?_
  refine z_callS (As := [.ref b2, .int (-1)]) (st := []) dX1_learn_11 zl_X1_48 zs_J7_fill_53178 rfl rfl (Nat.le_of_ble_eq_true rfl) ⟨Nat.le_refl _, Nat.le_refl _⟩ ⟨Nat.le_refl _, Nat.le_refl _⟩ hv (fun v1 I4 L5 P6 nx1 q7 => ?_)
  obtain ⟨rfl, rfl, hv⟩ := q7
  refine z_aload_n dX1_learn_14 rfl ?_
  obtain ⟨h9, hv⟩ := hv
  refine z_getP dX1_learn_15 zf_X1_18 zn_96 zo_96 (fun _ _ _ _ _ => rfl) (h9 96 2 105 zp_96_2) ?_
  refine z_iconst (v := 0) dX1_learn_18 (by decide) ?_
  refine z_callS (As := [.ref 105, .int 0]) (st := []) dX1_learn_19 zl_X1_48 zs_J7_fill_53178 rfl rfl (Nat.le_of_ble_eq_true rfl) ⟨Nat.le_refl _, Nat.le_refl _⟩ ⟨Nat.le_refl _, Nat.le_refl _⟩ hv (fun v1 I10 L11 P12 nx1 q13 => ?_)
  obtain ⟨rfl, rfl, hv⟩ := q13
  refine z_aload_n dX1_learn_22 rfl ?_
  obtain ⟨h15, hv⟩ := hv
  refine z_getP dX1_learn_23 zf_X1_44 zn_96 zo_96 (fun _ _ _ _ _ => rfl) (h15 96 1 107 zp_96_1) ?_
  refine z_aload_n dX1_learn_26 rfl ?_
  refine z_callV (As := [.ref p1]) (st := []) dX1_learn_27 zl_X1_54 zv_X6_open (by decide) rfl zn_107 zo_107 rfl rfl (Nat.le_of_ble_eq_true rfl) ⟨Nat.le_refl _, Nat.le_refl _⟩ ⟨Nat.le_refl _, Nat.le_refl _⟩ hv (fun v1 I16 L17 P18 nx1 q19 => ?_)
  obtain ⟨rfl, rfl, hv⟩ := q19
  refine z_iload_n dX1_learn_30 rfl ?_
  refine z_aload_n dX1_learn_31 rfl ?_
  obtain ⟨h21, hv⟩ := hv
  refine z_getI dX1_learn_32 zf_X1_58 h21.1 h21.2 (fun _ _ _ _ _ => rfl) ?_
  refine z_icmp_ge (tgt := 59) dX1_learn_35 (by decide) (fun q39 => ?_) (fun q39 => ?_)
  · have hv := hv.1 q39
    refine z_iconst (v := 0) dX1_learn_59 (by decide) ?_
    refine z_istore (lv2 := [some (.ref 96), some (.ref p1), some (.int p2), some (.ref 23), some (.ref b2), some (.int 0), none, none]) dX1_learn_60 (by decide) rfl rfl ?_
    exact z_sub (by exact ⟨rfl, ⟨rfl, ⟨rfl, ⟨rfl, ⟨rfl, trivial⟩⟩⟩⟩⟩) hv
  · have hv := hv.2 q39
    refine z_aload_n dX1_learn_38 rfl ?_
    refine z_aload_n dX1_learn_39 rfl ?_
    obtain ⟨h22, hv⟩ := hv
    refine z_getP dX1_learn_40 zf_X1_44 zn_96 zo_96 (fun _ _ _ _ _ => rfl) (h22 96 1 107 zp_96_1) ?_
    refine z_iload_n dX1_learn_43 rfl ?_
    refine z_callV (As := [.ref 107, .int p2]) (st := []) dX1_learn_44 zl_X1_61 zv_X4_weighSaying (by decide) rfl zn_23 zo_23 rfl rfl (Nat.le_of_ble_eq_true rfl) ⟨Nat.le_refl _, Nat.le_refl _⟩ ⟨Nat.le_refl _, Nat.le_refl _⟩ hv (fun v1 I23 L24 P25 nx1 q26 => ?_)
    obtain ⟨rfl, rfl, hv⟩ := q26
    refine z_aload_n dX1_learn_47 rfl ?_
    obtain ⟨h28, hv⟩ := hv
    refine z_getP dX1_learn_48 zf_X1_44 zn_96 zo_96 (fun _ _ _ _ _ => rfl) (h28 96 1 107 zp_96_1) ?_
    refine z_aload_n dX1_learn_51 rfl ?_
    refine z_callV (As := []) (st := [.ref 107]) dX1_learn_52 zl_X1_67 zv_X4_result (by decide) rfl zn_23 zo_23 rfl rfl (Nat.le_of_ble_eq_true rfl) ⟨Nat.le_refl _, Nat.le_refl _⟩ ⟨Nat.le_refl _, Nat.le_refl _⟩ hv (fun v1 I29 L30 P31 nx1 q32 => ?_)
    obtain ⟨rfl, r33, rfl, hv⟩ := q32
    refine z_callV (As := [.ref r33]) (st := []) dX1_learn_55 zl_X1_71 zv_X6_keepSo (by decide) rfl zn_107 zo_107 rfl rfl (Nat.le_of_ble_eq_true rfl) ⟨Nat.le_refl _, Nat.le_refl _⟩ ⟨Nat.le_refl _, Nat.le_refl _⟩ hv (fun v1 I34 L35 P36 nx1 q37 => ?_)
    obtain ⟨rfl, r38, rfl, hv⟩ := q37
    refine z_pop dX1_learn_58 rfl ?_
    refine z_iconst (v := 0) dX1_learn_59 (by decide) ?_
    refine z_istore (lv2 := [some (.ref 96), some (.ref p1), some (.int p2), some (.ref 23), some (.ref b2), some (.int 0), none, none]) dX1_learn_60 (by decide) rfl rfl ?_
    exact z_sub (by exact ⟨rfl, ⟨rfl, ⟨rfl, ⟨rfl, ⟨rfl, trivial⟩⟩⟩⟩⟩) hv
abbrev gw_X1_sendOne (d : Nat) (Q : zQt) (pc : Nat) (lv : zV) (st : List Value) (I : zI) (L : zL) (P : zP) : Prop := zW zm_X1_sendOne (zRm d 0 0) 0 0 Q pc lv st I L P 205 0 0
def v_X1_sendOne_116 (d : Nat) (Q : zQt) (x5 : Int32) (x6 : Int32) (I : zI) (L : zL) (P : zP) : Prop :=
  ((¬ x5 = 1 →
    Q none I L P 205
  ) ∧ (x5 = 1 →
    ∃ b16 : Nat, P 107 1 = some b16 ∧
    (b16 < 205 ∧ (zsh b16).1 = 2) ∧
    (((I b16 0) ≤ x6 →
      Q none I L P 205
    ) ∧ (¬ (I b16 0) ≤ x6 →
      zMv zm_X10_split d [.ref 108, .int x6, .ref 106, .ref 107] I L P (fun I19 L20 P21 =>
        gw_X1_sendOne (d + 1) Q 116 [some (.ref 96), none, none, none, none, some (.int x5), some (.int (x6 + 1)), none] [] I19 L20 P21
      )
    ))
  ))
set_option maxRecDepth 20000 in
theorem g_X1_sendOne_116 {d : Nat} {Q : zQt} {x5 : Int32} {x6 : Int32} {I : zI} {L : zL} {P : zP} (hP : zPk P) (hv : v_X1_sendOne_116 d Q x5 x6 I L P) : gw_X1_sendOne (d + 1) Q 116 [some (.ref 96), none, none, none, none, some (.int x5), some (.int x6), none] [] I L P := by
  unfold v_X1_sendOne_116 at hv
  refine z_iload dX1_sendOne_116 rfl ?_
  refine z_iconst (v := 1) dX1_sendOne_118 (by decide) ?_
  refine z_icmp_ne (tgt := 163) dX1_sendOne_119 (by decide) (fun q25 => ?_) (fun q25 => ?_)
  · have hv := hv.1 q25
    exact z_return dX1_sendOne_163 rfl (Nat.le_refl _) (Nat.le_refl _) hv
  · have hv := hv.2 q25
    refine z_iload dX1_sendOne_122 rfl ?_
    refine z_aload_n dX1_sendOne_124 rfl ?_
    refine z_getP dX1_sendOne_125 zf_X1_44 zn_96 zo_96 (fun _ _ _ _ _ => rfl) (hP 96 1 107 zp_96_1) ?_
    obtain ⟨b16, h17, hv⟩ := hv
    refine z_getP dX1_sendOne_128 zf_X1_94 zn_107 zo_107 (fun _ _ _ _ _ => rfl) h17 ?_
    obtain ⟨h18, hv⟩ := hv
    refine z_getI dX1_sendOne_131 zf_X1_87 h18.1 h18.2 (fun _ _ _ _ _ => rfl) ?_
    refine z_icmp_ge (tgt := 163) dX1_sendOne_134 (by decide) (fun q24 => ?_) (fun q24 => ?_)
    · have hv := hv.1 q24
      exact z_return dX1_sendOne_163 rfl (Nat.le_refl _) (Nat.le_refl _) hv
    · have hv := hv.2 q24
      refine z_aload_n dX1_sendOne_137 rfl ?_
      refine z_getP dX1_sendOne_138 zf_X1_44 zn_96 zo_96 (fun _ _ _ _ _ => rfl) (hP 96 1 107 zp_96_1) ?_
      refine z_getP dX1_sendOne_141 zf_X1_98 zn_107 zo_107 (fun _ _ _ _ _ => rfl) (hP 107 0 108 zp_107_0) ?_
      refine z_iload dX1_sendOne_144 rfl ?_
      refine z_aload_n dX1_sendOne_146 rfl ?_
      refine z_getP dX1_sendOne_147 zf_X1_22 zn_96 zo_96 (fun _ _ _ _ _ => rfl) (hP 96 3 106 zp_96_3) ?_
      refine z_aload_n dX1_sendOne_150 rfl ?_
      refine z_getP dX1_sendOne_151 zf_X1_44 zn_96 zo_96 (fun _ _ _ _ _ => rfl) (hP 96 1 107 zp_96_1) ?_
      refine z_callV (As := [.int x6, .ref 106, .ref 107]) (st := []) dX1_sendOne_154 zl_X1_102 zv_X10_split (by decide) rfl zn_108 zo_108 rfl rfl (Nat.le_of_ble_eq_true rfl) ⟨Nat.le_refl _, Nat.le_refl _⟩ ⟨Nat.le_refl _, Nat.le_refl _⟩ hv (fun v1 I19 L20 P21 nx1 q22 => ?_)
      obtain ⟨rfl, rfl, hv⟩ := q22
      refine z_iinc (v2 := x6 + 1) (lv2 := [some (.ref 96), none, none, none, none, some (.int x5), some (.int (x6 + 1)), none]) dX1_sendOne_157 rfl (by rfl) (by decide) rfl rfl ?_
      refine z_goto (tgt := 116) dX1_sendOne_160 (by decide) ?_
      exact hv
def v_X1_sendOne_6 (d : Nat) (Q : zQt) (p1 : Int32) (p2 : Nat) (p3 : Nat) (p4 : Int32) (x5 : Int32) (x6 : Int32) (I : zI) (L : zL) (P : zP) : Prop :=
  (((I 107 3) ≤ x6 →
    gw_X1_sendOne (d + 1) Q 116 [some (.ref 96), none, none, none, none, some (.int x5), some (.int 0), none] [] I L P
  ) ∧ (¬ (I 107 3) ≤ x6 →
    vp_in x6 256 ∧
    ∃ n3, (p2 < 205 ∧ zsh p2 = (100, n3)) ∧
    vp_in (I 119 x6.toNatClampNeg) n3 ∧
    vp_in (I 119 x6.toNatClampNeg) 256 ∧
    ∀ I7 : zI, I7 = zuI I 106 (I 119 x6.toNatClampNeg).toNatClampNeg ((((I p2 (I 119 x6.toNatClampNeg).toNatClampNeg) &&& ((I 105 (I 119 x6.toNatClampNeg).toNatClampNeg) ^^^ (-1) : Int32) : Int32) >>> (p1 &&& 31) : Int32) &&& 1 : Int32) →
    ∀ I9 : zI, I9 = zuI I7 105 (I 119 x6.toNatClampNeg).toNatClampNeg ((I7 105 (I 119 x6.toNatClampNeg).toNatClampNeg) ||| ((I7 106 (I 119 x6.toNatClampNeg).toNatClampNeg) <<< (p1 &&& 31) : Int32) : Int32) →
    ∃ n11, (p3 < 205 ∧ zsh p3 = (100, n11)) ∧
    vp_in (I 119 x6.toNatClampNeg) n11 ∧
    ∀ I14 : zI, I14 = zuI I9 p3 (I 119 x6.toNatClampNeg).toNatClampNeg ((I9 p3 (I 119 x6.toNatClampNeg).toNatClampNeg) ||| (((I9 106 (I 119 x6.toNatClampNeg).toNatClampNeg) * p4) <<< (((4 : Int32) * p1) &&& 31) : Int32) : Int32) →
    gw_X1_sendOne (d + 1) Q 6 [some (.ref 96), some (.int p1), some (.ref p2), some (.ref p3), some (.int p4), some (.int (x5 ||| (I7 106 (I 119 x6.toNatClampNeg).toNatClampNeg) : Int32)), some (.int (x6 + 1)), none] [] I14 L P
  ))
set_option maxRecDepth 20000 in
theorem g_X1_sendOne_6 {d : Nat} {Q : zQt} {p1 : Int32} {p2 : Nat} {p3 : Nat} {p4 : Int32} {x5 : Int32} {x6 : Int32} {I : zI} {L : zL} {P : zP} (hP : zPk P) (hv : v_X1_sendOne_6 d Q p1 p2 p3 p4 x5 x6 I L P) : gw_X1_sendOne (d + 1) Q 6 [some (.ref 96), some (.int p1), some (.ref p2), some (.ref p3), some (.int p4), some (.int x5), some (.int x6), none] [] I L P := by
  unfold v_X1_sendOne_6 at hv
  refine z_iload dX1_sendOne_6 rfl ?_
  refine z_aload_n dX1_sendOne_8 rfl ?_
  refine z_getP dX1_sendOne_9 zf_X1_44 zn_96 zo_96 (fun _ _ _ _ _ => rfl) (hP 96 1 107 zp_96_1) ?_
  refine z_getI dX1_sendOne_12 zf_X1_75 zn_107 zo_107 (fun _ _ _ _ _ => rfl) ?_
  refine z_icmp_ge (tgt := 113) dX1_sendOne_15 (by decide) (fun q15 => ?_) (fun q15 => ?_)
  · have hv := hv.1 q15
    refine z_iconst (v := 0) dX1_sendOne_113 (by decide) ?_
    refine z_istore (lv2 := [some (.ref 96), some (.int p1), some (.ref p2), some (.ref p3), some (.int p4), some (.int x5), some (.int 0), none]) dX1_sendOne_114 (by decide) rfl rfl ?_
    exact z_sub (by exact ⟨rfl, ⟨rfl, ⟨rfl, trivial⟩⟩⟩) hv
  · have hv := hv.2 q15
    refine z_aload_n dX1_sendOne_18 rfl ?_
    refine z_getP dX1_sendOne_19 zf_X1_44 zn_96 zo_96 (fun _ _ _ _ _ => rfl) (hP 96 1 107 zp_96_1) ?_
    refine z_getP dX1_sendOne_22 zf_X1_78 zn_107 zo_107 (fun _ _ _ _ _ => rfl) (hP 107 2 119 zp_107_2) ?_
    refine z_iload dX1_sendOne_25 rfl ?_
    obtain ⟨h1, hv⟩ := hv
    refine z_iaload dX1_sendOne_27 zn_119 zh_119 h1 ?_
    refine z_istore (lv2 := [some (.ref 96), some (.int p1), some (.ref p2), some (.ref p3), some (.int p4), some (.int x5), some (.int x6), some (.int (I 119 x6.toNatClampNeg))]) dX1_sendOne_28 (by decide) rfl rfl ?_
    refine z_aload_n dX1_sendOne_30 rfl ?_
    refine z_getP dX1_sendOne_31 zf_X1_22 zn_96 zo_96 (fun _ _ _ _ _ => rfl) (hP 96 3 106 zp_96_3) ?_
    refine z_iload dX1_sendOne_34 rfl ?_
    refine z_aload_n dX1_sendOne_36 rfl ?_
    refine z_iload dX1_sendOne_37 rfl ?_
    obtain ⟨n3, h2, hv⟩ := hv
    obtain ⟨h4, hv⟩ := hv
    refine z_iaload dX1_sendOne_39 h2.1 h2.2 h4 ?_
    refine z_aload_n dX1_sendOne_40 rfl ?_
    refine z_getP dX1_sendOne_41 zf_X1_18 zn_96 zo_96 (fun _ _ _ _ _ => rfl) (hP 96 2 105 zp_96_2) ?_
    refine z_iload dX1_sendOne_44 rfl ?_
    obtain ⟨h5, hv⟩ := hv
    refine z_iaload dX1_sendOne_46 zn_105 zh_105 h5 ?_
    refine z_iconst (v := (-1)) dX1_sendOne_47 (by decide) ?_
    refine z_ixor dX1_sendOne_48 ?_
    refine z_iand dX1_sendOne_49 ?_
    refine z_iload_n dX1_sendOne_50 rfl ?_
    refine z_ishr dX1_sendOne_51 ?_
    refine z_iconst (v := 1) dX1_sendOne_52 (by decide) ?_
    refine z_iand dX1_sendOne_53 ?_
    refine z_iastore dX1_sendOne_54 zn_106 zh_106 h5 (z_nmI (fun I7 e6 => ?_))
    have hv := hv I7 e6
    refine z_iload dX1_sendOne_55 rfl ?_
    refine z_aload_n dX1_sendOne_57 rfl ?_
    refine z_getP dX1_sendOne_58 zf_X1_22 zn_96 zo_96 (fun _ _ _ _ _ => rfl) (hP 96 3 106 zp_96_3) ?_
    refine z_iload dX1_sendOne_61 rfl ?_
    refine z_iaload dX1_sendOne_63 zn_106 zh_106 h5 ?_
    refine z_ior dX1_sendOne_64 ?_
    refine z_istore (lv2 := [some (.ref 96), some (.int p1), some (.ref p2), some (.ref p3), some (.int p4), some (.int (x5 ||| (I7 106 (I 119 x6.toNatClampNeg).toNatClampNeg) : Int32)), some (.int x6), some (.int (I 119 x6.toNatClampNeg))]) dX1_sendOne_65 (by decide) rfl rfl ?_
    refine z_aload_n dX1_sendOne_67 rfl ?_
    refine z_getP dX1_sendOne_68 zf_X1_18 zn_96 zo_96 (fun _ _ _ _ _ => rfl) (hP 96 2 105 zp_96_2) ?_
    refine z_iload dX1_sendOne_71 rfl ?_
    refine z_dup2 dX1_sendOne_73 rfl rfl ?_
    refine z_iaload dX1_sendOne_74 zn_105 zh_105 h5 ?_
    refine z_aload_n dX1_sendOne_75 rfl ?_
    refine z_getP dX1_sendOne_76 zf_X1_22 zn_96 zo_96 (fun _ _ _ _ _ => rfl) (hP 96 3 106 zp_96_3) ?_
    refine z_iload dX1_sendOne_79 rfl ?_
    refine z_iaload dX1_sendOne_81 zn_106 zh_106 h5 ?_
    refine z_iload_n dX1_sendOne_82 rfl ?_
    refine z_ishl dX1_sendOne_83 ?_
    refine z_ior dX1_sendOne_84 ?_
    refine z_iastore dX1_sendOne_85 zn_105 zh_105 h5 (z_nmI (fun I9 e8 => ?_))
    have hv := hv I9 e8
    refine z_aload_n dX1_sendOne_86 rfl ?_
    refine z_iload dX1_sendOne_87 rfl ?_
    refine z_dup2 dX1_sendOne_89 rfl rfl ?_
    obtain ⟨n11, h10, hv⟩ := hv
    obtain ⟨h12, hv⟩ := hv
    refine z_iaload dX1_sendOne_90 h10.1 h10.2 h12 ?_
    refine z_aload_n dX1_sendOne_91 rfl ?_
    refine z_getP dX1_sendOne_92 zf_X1_22 zn_96 zo_96 (fun _ _ _ _ _ => rfl) (hP 96 3 106 zp_96_3) ?_
    refine z_iload dX1_sendOne_95 rfl ?_
    refine z_iaload dX1_sendOne_97 zn_106 zh_106 h5 ?_
    refine z_iload dX1_sendOne_98 rfl ?_
    refine z_imul dX1_sendOne_100 ?_
    refine z_iconst (v := 4) dX1_sendOne_101 (by decide) ?_
    refine z_iload_n dX1_sendOne_102 rfl ?_
    refine z_imul dX1_sendOne_103 ?_
    refine z_ishl dX1_sendOne_104 ?_
    refine z_ior dX1_sendOne_105 ?_
    refine z_iastore dX1_sendOne_106 h10.1 h10.2 h12 (z_nmI (fun I14 e13 => ?_))
    have hv := hv I14 e13
    refine z_iinc (v2 := x6 + 1) (lv2 := [some (.ref 96), some (.int p1), some (.ref p2), some (.ref p3), some (.int p4), some (.int (x5 ||| (I7 106 (I 119 x6.toNatClampNeg).toNatClampNeg) : Int32)), some (.int (x6 + 1)), some (.int (I 119 x6.toNatClampNeg))]) dX1_sendOne_107 rfl (by rfl) (by decide) rfl rfl ?_
    refine z_goto (tgt := 6) dX1_sendOne_110 (by decide) ?_
    exact z_sub (by exact ⟨rfl, ⟨rfl, ⟨rfl, ⟨rfl, ⟨rfl, ⟨rfl, ⟨rfl, trivial⟩⟩⟩⟩⟩⟩⟩) hv
def v_X1_sendOne (d : Nat) (Q : zQt) (p1 : Int32) (p2 : Nat) (p3 : Nat) (p4 : Int32) (I : zI) (L : zL) (P : zP) : Prop :=
  gw_X1_sendOne (d + 1) Q 6 [some (.ref 96), some (.int p1), some (.ref p2), some (.ref p3), some (.int p4), some (.int 0), some (.int 0), none] [] I L P
set_option maxRecDepth 20000 in
theorem g_X1_sendOne {d : Nat} {Q : zQt} {p1 : Int32} {p2 : Nat} {p3 : Nat} {p4 : Int32} {I : zI} {L : zL} {P : zP} (hP : zPk P) (hv : v_X1_sendOne d Q p1 p2 p3 p4 I L P) : zM zm_X1_sendOne (d + 1) 0 0 [.ref 96, .int p1, .ref p2, .ref p3, .int p4] I L P 205 Q := by
  unfold v_X1_sendOne at hv
  refine zM_of (lv0 := [some (.ref 96), some (.int p1), some (.ref p2), some (.ref p3), some (.int p4), none, none, none]) (by decide +kernel) (Nat.le_of_ble_eq_true rfl) rfl ?_
  refine z_iconst (v := 0) dX1_sendOne_0 (by decide) ?_
  refine z_istore (lv2 := [some (.ref 96), some (.int p1), some (.ref p2), some (.ref p3), some (.int p4), some (.int 0), none, none]) dX1_sendOne_1 (by decide) rfl rfl ?_
  refine z_iconst (v := 0) dX1_sendOne_3 (by decide) ?_
  refine z_istore (lv2 := [some (.ref 96), some (.int p1), some (.ref p2), some (.ref p3), some (.int p4), some (.int 0), some (.int 0), none]) dX1_sendOne_4 (by decide) rfl rfl ?_
  exact hv
abbrev gw_X1_scan (d : Nat) (Q : zQt) (pc : Nat) (lv : zV) (st : List Value) (I : zI) (L : zL) (P : zP) : Prop := zW zm_X1_scan (zRm d 0 0) 0 0 Q pc lv st I L P 205 0 0
def v_X1_scan_28 (d : Nat) (Q : zQt) (p1 : Nat) (p3 : Int32) (x4 : Int32) (x5 : Int32) (x6 : Int32) (I : zI) (L : zL) (P : zP) : Prop :=
  (p1 < 205 ∧ (zsh p1).1 = 2) ∧
  zMi zm_X2_worldCount d [.ref p1] I L P (fun r12 I8 L9 P10 =>
    ((r12 ≤ x6 →
      gw_X1_scan (d + 1) Q 16 [some (.ref 96), some (.ref p1), some (.ref 90), some (.int p3), some (.int x4), some (.int (x5 + 1)), none, none] [] I8 L9 P10
    ) ∧ (¬ r12 ≤ x6 →
      ((64 ≤ x6 →
        gw_X1_scan (d + 1) Q 16 [some (.ref 96), some (.ref p1), some (.ref 90), some (.int p3), some (.int x4), some (.int (x5 + 1)), none, none] [] I8 L9 P10
      ) ∧ (¬ 64 ≤ x6 →
        zPk P10 ∧
        vp_in x5 7 ∧
        ∃ b15 : Nat, P10 97 x5.toNatClampNeg = some b15 ∧
        ∃ n18, (b15 < 205 ∧ zsh b15 = (100, n18)) ∧
        vp_in x6 n18 ∧
        (((I8 b15 x6.toNatClampNeg) = (-1) →
          gw_X1_scan (d + 1) Q 28 [some (.ref 96), some (.ref p1), some (.ref 90), some (.int p3), some (.int x4), some (.int x5), some (.int (x6 + 1)), none] [] I8 L9 P10
        ) ∧ (¬ (I8 b15 x6.toNatClampNeg) = (-1) →
          zMi zm_X7_agree d [.ref 90, .int (I8 b15 x6.toNatClampNeg), .int p3] I8 L9 P10 (fun r24 I20 L21 P22 =>
            ((r24 = 0 →
              gw_X1_scan (d + 1) Q 28 [some (.ref 96), some (.ref p1), some (.ref 90), some (.int p3), some (.int x4), some (.int x5), some (.int (x6 + 1)), none] [] I20 L21 P22
            ) ∧ (¬ r24 = 0 →
              ∀ I25 : zI, I25 = zuI I20 96 5 ((I20 96 5) ||| x6 : Int32) →
              ∀ I27 : zI, I27 = zuI I25 96 6 ((I25 96 6) ||| (x6 ^^^ (-1) : Int32) : Int32) →
              gw_X1_scan (d + 1) Q 28 [some (.ref 96), some (.ref p1), some (.ref 90), some (.int p3), some (.int (x4 + 1)), some (.int x5), some (.int (x6 + 1)), none] [] I27 L21 P22
            ))
          )
        ))
      ))
    ))
  )
set_option maxRecDepth 20000 in
theorem g_X1_scan_28 {d : Nat} {Q : zQt} {p1 : Nat} {p3 : Int32} {x4 : Int32} {x5 : Int32} {x6 : Int32} {I : zI} {L : zL} {P : zP} (hP : zPk P) (hv : v_X1_scan_28 d Q p1 p3 x4 x5 x6 I L P) : gw_X1_scan (d + 1) Q 28 [some (.ref 96), some (.ref p1), some (.ref 90), some (.int p3), some (.int x4), some (.int x5), some (.int x6), none] [] I L P := by
  unfold v_X1_scan_28 at hv
  refine z_iload dX1_scan_28 rfl ?_
  refine z_aload_n dX1_scan_30 rfl ?_
  obtain ⟨h7, hv⟩ := hv
  refine z_callV (As := []) (st := [.int x6]) dX1_scan_31 zl_X1_106 zv_X2_worldCount (by decide) rfl h7.1 h7.2 rfl rfl (Nat.le_of_ble_eq_true rfl) ⟨Nat.le_refl _, Nat.le_refl _⟩ ⟨Nat.le_refl _, Nat.le_refl _⟩ hv (fun v1 I8 L9 P10 nx1 q11 => ?_)
  obtain ⟨rfl, r12, rfl, hv⟩ := q11
  refine z_icmp_ge (tgt := 105) dX1_scan_34 (by decide) (fun q32 => ?_) (fun q32 => ?_)
  · have hv := hv.1 q32
    refine z_iinc (v2 := x5 + 1) (lv2 := [some (.ref 96), some (.ref p1), some (.ref 90), some (.int p3), some (.int x4), some (.int (x5 + 1)), some (.int x6), none]) dX1_scan_105 rfl (by rfl) (by decide) rfl rfl ?_
    refine z_goto (tgt := 16) dX1_scan_108 (by decide) ?_
    exact z_sub (by exact ⟨rfl, ⟨rfl, ⟨rfl, ⟨rfl, ⟨rfl, ⟨rfl, trivial⟩⟩⟩⟩⟩⟩) hv
  · have hv := hv.2 q32
    refine z_iload dX1_scan_37 rfl ?_
    refine z_bipush (v := 64) dX1_scan_39 (by decide) ?_
    refine z_icmp_ge (tgt := 105) dX1_scan_41 (by decide) (fun q31 => ?_) (fun q31 => ?_)
    · have hv := hv.1 q31
      refine z_iinc (v2 := x5 + 1) (lv2 := [some (.ref 96), some (.ref p1), some (.ref 90), some (.int p3), some (.int x4), some (.int (x5 + 1)), some (.int x6), none]) dX1_scan_105 rfl (by rfl) (by decide) rfl rfl ?_
      refine z_goto (tgt := 16) dX1_scan_108 (by decide) ?_
      exact z_sub (by exact ⟨rfl, ⟨rfl, ⟨rfl, ⟨rfl, ⟨rfl, ⟨rfl, trivial⟩⟩⟩⟩⟩⟩) hv
    · have hv := hv.2 q31
      refine z_aload_n dX1_scan_44 rfl ?_
      obtain ⟨h13, hv⟩ := hv
      refine z_getP dX1_scan_45 zf_X1_15 zn_96 zo_96 (fun _ _ _ _ _ => rfl) (h13 96 0 97 zp_96_0) ?_
      refine z_iload dX1_scan_48 rfl ?_
      obtain ⟨h14, hv⟩ := hv
      obtain ⟨b15, h16, hv⟩ := hv
      refine z_aaload dX1_scan_50 zn_97 zh_97 (Or.inl rfl) h14 h16 ?_
      refine z_iload dX1_scan_51 rfl ?_
      obtain ⟨n18, h17, hv⟩ := hv
      obtain ⟨h19, hv⟩ := hv
      refine z_iaload dX1_scan_53 h17.1 h17.2 h19 ?_
      refine z_istore (lv2 := [some (.ref 96), some (.ref p1), some (.ref 90), some (.int p3), some (.int x4), some (.int x5), some (.int x6), some (.int (I8 b15 x6.toNatClampNeg))]) dX1_scan_54 (by decide) rfl rfl ?_
      refine z_iload dX1_scan_56 rfl ?_
      refine z_iconst (v := (-1)) dX1_scan_58 (by decide) ?_
      refine z_icmp_eq (tgt := 99) dX1_scan_59 (by decide) (fun q30 => ?_) (fun q30 => ?_)
      · have hv := hv.1 q30
        refine z_iinc (v2 := x6 + 1) (lv2 := [some (.ref 96), some (.ref p1), some (.ref 90), some (.int p3), some (.int x4), some (.int x5), some (.int (x6 + 1)), some (.int (I8 b15 x6.toNatClampNeg))]) dX1_scan_99 rfl (by rfl) (by decide) rfl rfl ?_
        refine z_goto (tgt := 28) dX1_scan_102 (by decide) ?_
        exact z_sub (by exact ⟨rfl, ⟨rfl, ⟨rfl, ⟨rfl, ⟨rfl, ⟨rfl, ⟨rfl, trivial⟩⟩⟩⟩⟩⟩⟩) hv
      · have hv := hv.2 q30
        refine z_aload_n dX1_scan_62 rfl ?_
        refine z_iload dX1_scan_63 rfl ?_
        refine z_iload_n dX1_scan_65 rfl ?_
        refine z_callV (As := [.int (I8 b15 x6.toNatClampNeg), .int p3]) (st := []) dX1_scan_66 zl_X1_110 zv_X7_agree (by decide) rfl zn_90 zo_90 rfl rfl (Nat.le_of_ble_eq_true rfl) ⟨Nat.le_refl _, Nat.le_refl _⟩ ⟨Nat.le_refl _, Nat.le_refl _⟩ hv (fun v1 I20 L21 P22 nx1 q23 => ?_)
        obtain ⟨rfl, r24, rfl, hv⟩ := q23
        refine z_if_eq (tgt := 99) dX1_scan_69 (by decide) (fun q29 => ?_) (fun q29 => ?_)
        · have hv := hv.1 q29
          refine z_iinc (v2 := x6 + 1) (lv2 := [some (.ref 96), some (.ref p1), some (.ref 90), some (.int p3), some (.int x4), some (.int x5), some (.int (x6 + 1)), some (.int (I8 b15 x6.toNatClampNeg))]) dX1_scan_99 rfl (by rfl) (by decide) rfl rfl ?_
          refine z_goto (tgt := 28) dX1_scan_102 (by decide) ?_
          exact z_sub (by exact ⟨rfl, ⟨rfl, ⟨rfl, ⟨rfl, ⟨rfl, ⟨rfl, ⟨rfl, trivial⟩⟩⟩⟩⟩⟩⟩) hv
        · have hv := hv.2 q29
          refine z_iinc (v2 := x4 + 1) (lv2 := [some (.ref 96), some (.ref p1), some (.ref 90), some (.int p3), some (.int (x4 + 1)), some (.int x5), some (.int x6), some (.int (I8 b15 x6.toNatClampNeg))]) dX1_scan_72 rfl (by rfl) (by decide) rfl rfl ?_
          refine z_aload_n dX1_scan_75 rfl ?_
          refine z_dup dX1_scan_76 rfl ?_
          refine z_getI dX1_scan_77 zf_X1_29 zn_96 zo_96 (fun _ _ _ _ _ => rfl) ?_
          refine z_iload dX1_scan_80 rfl ?_
          refine z_ior dX1_scan_82 ?_
          refine z_putI dX1_scan_83 zf_X1_29 zn_96 zo_96 (Or.inl rfl) (fun _ _ _ _ _ => rfl) rfl rfl (z_nmI (fun I25 e26 => ?_))
          have hv := hv I25 e26
          refine z_aload_n dX1_scan_86 rfl ?_
          refine z_dup dX1_scan_87 rfl ?_
          refine z_getI dX1_scan_88 zf_X1_33 zn_96 zo_96 (fun _ _ _ _ _ => rfl) ?_
          refine z_iload dX1_scan_91 rfl ?_
          refine z_iconst (v := (-1)) dX1_scan_93 (by decide) ?_
          refine z_ixor dX1_scan_94 ?_
          refine z_ior dX1_scan_95 ?_
          refine z_putI dX1_scan_96 zf_X1_33 zn_96 zo_96 (Or.inl rfl) (fun _ _ _ _ _ => rfl) rfl rfl (z_nmI (fun I27 e28 => ?_))
          have hv := hv I27 e28
          refine z_iinc (v2 := x6 + 1) (lv2 := [some (.ref 96), some (.ref p1), some (.ref 90), some (.int p3), some (.int (x4 + 1)), some (.int x5), some (.int (x6 + 1)), some (.int (I8 b15 x6.toNatClampNeg))]) dX1_scan_99 rfl (by rfl) (by decide) rfl rfl ?_
          refine z_goto (tgt := 28) dX1_scan_102 (by decide) ?_
          exact z_sub (by exact ⟨rfl, ⟨rfl, ⟨rfl, ⟨rfl, ⟨rfl, ⟨rfl, ⟨rfl, trivial⟩⟩⟩⟩⟩⟩⟩) hv
def v_X1_scan_16 (d : Nat) (Q : zQt) (p1 : Nat) (p3 : Int32) (x4 : Int32) (x5 : Int32) (I : zI) (L : zL) (P : zP) : Prop :=
  (p1 < 205 ∧ (zsh p1).1 = 2) ∧
  (((I p1 4) < x5 →
    Q (some (.int x4)) I L P 205
  ) ∧ (¬ (I p1 4) < x5 →
    gw_X1_scan (d + 1) Q 28 [some (.ref 96), some (.ref p1), some (.ref 90), some (.int p3), some (.int x4), some (.int x5), some (.int 0), none] [] I L P
  ))
set_option maxRecDepth 20000 in
theorem g_X1_scan_16 {d : Nat} {Q : zQt} {p1 : Nat} {p3 : Int32} {x4 : Int32} {x5 : Int32} {I : zI} {L : zL} {P : zP} (hP : zPk P) (hv : v_X1_scan_16 d Q p1 p3 x4 x5 I L P) : gw_X1_scan (d + 1) Q 16 [some (.ref 96), some (.ref p1), some (.ref 90), some (.int p3), some (.int x4), some (.int x5), none, none] [] I L P := by
  unfold v_X1_scan_16 at hv
  refine z_iload dX1_scan_16 rfl ?_
  refine z_aload_n dX1_scan_18 rfl ?_
  obtain ⟨h5, hv⟩ := hv
  refine z_getI dX1_scan_19 zf_X1_58 h5.1 h5.2 (fun _ _ _ _ _ => rfl) ?_
  refine z_icmp_gt (tgt := 111) dX1_scan_22 (by decide) (fun q6 => ?_) (fun q6 => ?_)
  · have hv := hv.1 q6
    refine z_iload dX1_scan_111 rfl ?_
    exact z_ireturn dX1_scan_113 rfl rfl (Nat.le_refl _) (Nat.le_refl _) hv
  · have hv := hv.2 q6
    refine z_iconst (v := 0) dX1_scan_25 (by decide) ?_
    refine z_istore (lv2 := [some (.ref 96), some (.ref p1), some (.ref 90), some (.int p3), some (.int x4), some (.int x5), some (.int 0), none]) dX1_scan_26 (by decide) rfl rfl ?_
    exact hv
def v_X1_scan (d : Nat) (Q : zQt) (p1 : Nat) (p3 : Int32) (I : zI) (L : zL) (P : zP) : Prop :=
  ∀ I1 : zI, I1 = zuI I 96 5 0 →
  ∀ I3 : zI, I3 = zuI I1 96 6 0 →
  gw_X1_scan (d + 1) Q 16 [some (.ref 96), some (.ref p1), some (.ref 90), some (.int p3), some (.int 0), some (.int 0), none, none] [] I3 L P
set_option maxRecDepth 20000 in
theorem g_X1_scan {d : Nat} {Q : zQt} {p1 : Nat} {p3 : Int32} {I : zI} {L : zL} {P : zP} (hP : zPk P) (hv : v_X1_scan d Q p1 p3 I L P) : zM zm_X1_scan (d + 1) 0 0 [.ref 96, .ref p1, .ref 90, .int p3] I L P 205 Q := by
  unfold v_X1_scan at hv
  refine zM_of (lv0 := [some (.ref 96), some (.ref p1), some (.ref 90), some (.int p3), none, none, none, none]) (by decide +kernel) (Nat.le_of_ble_eq_true rfl) rfl ?_
  refine z_iconst (v := 0) dX1_scan_0 (by decide) ?_
  refine z_istore (lv2 := [some (.ref 96), some (.ref p1), some (.ref 90), some (.int p3), some (.int 0), none, none, none]) dX1_scan_1 (by decide) rfl rfl ?_
  refine z_aload_n dX1_scan_3 rfl ?_
  refine z_iconst (v := 0) dX1_scan_4 (by decide) ?_
  refine z_putI dX1_scan_5 zf_X1_29 zn_96 zo_96 (Or.inl rfl) (fun _ _ _ _ _ => rfl) rfl rfl (z_nmI (fun I1 e2 => ?_))
  have hv := hv I1 e2
  refine z_aload_n dX1_scan_8 rfl ?_
  refine z_iconst (v := 0) dX1_scan_9 (by decide) ?_
  refine z_putI dX1_scan_10 zf_X1_33 zn_96 zo_96 (Or.inl rfl) (fun _ _ _ _ _ => rfl) rfl rfl (z_nmI (fun I3 e4 => ?_))
  have hv := hv I3 e4
  refine z_iconst (v := 0) dX1_scan_13 (by decide) ?_
  refine z_istore (lv2 := [some (.ref 96), some (.ref p1), some (.ref 90), some (.int p3), some (.int 0), some (.int 0), none, none]) dX1_scan_14 (by decide) rfl rfl ?_
  exact hv
abbrev gw_X4_result (d : Nat) (Q : zQt) (pc : Nat) (lv : zV) (st : List Value) (I : zI) (L : zL) (P : zP) : Prop := zW zm_X4_result (zRm d 0 0) 0 0 Q pc lv st I L P 205 0 0
def v_X4_result (d : Nat) (Q : zQt)  (I : zI) (L : zL) (P : zP) : Prop :=
  Q (some (.ref 25)) I L P 205
set_option maxRecDepth 20000 in
theorem g_X4_result {d : Nat} {Q : zQt}  {I : zI} {L : zL} {P : zP} (hP : zPk P) (hv : v_X4_result d Q  I L P) : zM zm_X4_result d 0 0 [.ref 23] I L P 205 Q := by
  unfold v_X4_result at hv
  refine zM_of (lv0 := [some (.ref 23)]) (by decide +kernel) (Nat.le_of_ble_eq_true rfl) rfl ?_
  refine z_aload_n dX4_result_0 rfl ?_
  refine z_getP dX4_result_1 zf_X4_15 zn_23 zo_23 (fun _ _ _ _ _ => rfl) (hP 23 0 24 zp_23_0) ?_
  refine z_iconst (v := 0) dX4_result_4 (by decide) ?_
  refine z_aaload dX4_result_5 zn_24 zh_24 (Or.inl rfl) (by unfold vp_in; decide) (hP 24 0 25 zp_24_0) ?_
  exact z_areturn dX4_result_6 rfl (Nat.le_refl _) (Nat.le_refl _) hv
abbrev gw_X4_weighSaying (d : Nat) (Q : zQt) (pc : Nat) (lv : zV) (st : List Value) (I : zI) (L : zL) (P : zP) : Prop := zW zm_X4_weighSaying (zRm d 0 0) 0 0 Q pc lv st I L P 205 0 0
def v_X4_weighSaying (d : Nat) (Q : zQt) (p1 : Nat) (p2 : Int32) (I : zI) (L : zL) (P : zP) : Prop :=
  (p1 < 205 ∧ (zsh p1).1 = 5) ∧
  ∃ b2 : Nat, P p1 1 = some b2 ∧
  ((p2 < 0 →
    Q none I L P 205
  ) ∧ (¬ p2 < 0 →
    (b2 < 205 ∧ (zsh b2).1 = 2) ∧
    (((I b2 4) ≤ p2 →
      Q none I L P 205
    ) ∧ (¬ (I b2 4) ≤ p2 →
      ∃ b5 : Nat, P b2 10 = some b5 ∧
      ∃ b7 : Nat, P b2 11 = some b7 ∧
      ∃ n10, (b7 < 205 ∧ zsh b7 = (100, n10)) ∧
      vp_in p2 n10 ∧
      vp_in (p2 + 1) n10 ∧
      zMv zm_X4_weigh d [.ref 23, .ref p1, .ref b5, .int (I b7 p2.toNatClampNeg), .int (I b7 (p2 + 1).toNatClampNeg)] I L P (fun I13 L14 P15 =>
        Q none I13 L14 P15 205
      )
    ))
  ))
set_option maxRecDepth 20000 in
theorem g_X4_weighSaying {d : Nat} {Q : zQt} {p1 : Nat} {p2 : Int32} {I : zI} {L : zL} {P : zP} (hP : zPk P) (hv : v_X4_weighSaying d Q p1 p2 I L P) : zM zm_X4_weighSaying (d + 1) 0 0 [.ref 23, .ref p1, .int p2] I L P 205 Q := by
  unfold v_X4_weighSaying at hv
  refine zM_of (lv0 := [some (.ref 23), some (.ref p1), some (.int p2), none]) (by decide +kernel) (Nat.le_of_ble_eq_true rfl) rfl ?_
  refine z_aload_n dX4_weighSaying_0 rfl ?_
  obtain ⟨h1, hv⟩ := hv
  obtain ⟨b2, h3, hv⟩ := hv
  refine z_getP dX4_weighSaying_1 zf_X4_35 h1.1 h1.2 (fun _ _ _ _ _ => rfl) h3 ?_
  refine z_astore_n (lv2 := [some (.ref 23), some (.ref p1), some (.int p2), some (.ref b2)]) dX4_weighSaying_4 (by decide) rfl rfl ?_
  refine z_iload_n dX4_weighSaying_5 rfl ?_
  refine z_if_lt (tgt := 40) dX4_weighSaying_6 (by decide) (fun q19 => ?_) (fun q19 => ?_)
  · have hv := hv.1 q19
    exact z_return dX4_weighSaying_40 rfl (Nat.le_refl _) (Nat.le_refl _) hv
  · have hv := hv.2 q19
    refine z_iload_n dX4_weighSaying_9 rfl ?_
    refine z_aload_n dX4_weighSaying_10 rfl ?_
    obtain ⟨h4, hv⟩ := hv
    refine z_getI dX4_weighSaying_11 zf_X4_41 h4.1 h4.2 (fun _ _ _ _ _ => rfl) ?_
    refine z_icmp_ge (tgt := 40) dX4_weighSaying_14 (by decide) (fun q18 => ?_) (fun q18 => ?_)
    · have hv := hv.1 q18
      exact z_return dX4_weighSaying_40 rfl (Nat.le_refl _) (Nat.le_refl _) hv
    · have hv := hv.2 q18
      refine z_aload_n dX4_weighSaying_17 rfl ?_
      refine z_aload_n dX4_weighSaying_18 rfl ?_
      refine z_aload_n dX4_weighSaying_19 rfl ?_
      obtain ⟨b5, h6, hv⟩ := hv
      refine z_getP dX4_weighSaying_20 zf_X4_44 h4.1 h4.2 (fun _ _ _ _ _ => rfl) h6 ?_
      refine z_aload_n dX4_weighSaying_23 rfl ?_
      obtain ⟨b7, h8, hv⟩ := hv
      refine z_getP dX4_weighSaying_24 zf_X4_48 h4.1 h4.2 (fun _ _ _ _ _ => rfl) h8 ?_
      refine z_iload_n dX4_weighSaying_27 rfl ?_
      obtain ⟨n10, h9, hv⟩ := hv
      obtain ⟨h11, hv⟩ := hv
      refine z_iaload dX4_weighSaying_28 h9.1 h9.2 h11 ?_
      refine z_aload_n dX4_weighSaying_29 rfl ?_
      refine z_getP dX4_weighSaying_30 zf_X4_48 h4.1 h4.2 (fun _ _ _ _ _ => rfl) h8 ?_
      refine z_iload_n dX4_weighSaying_33 rfl ?_
      refine z_iconst (v := 1) dX4_weighSaying_34 (by decide) ?_
      refine z_iadd dX4_weighSaying_35 ?_
      obtain ⟨h12, hv⟩ := hv
      refine z_iaload dX4_weighSaying_36 h9.1 h9.2 h12 ?_
      refine z_callV (As := [.ref p1, .ref b5, .int (I b7 p2.toNatClampNeg), .int (I b7 (p2 + 1).toNatClampNeg)]) (st := []) dX4_weighSaying_37 zl_X4_51 zv_X4_weigh (by decide) rfl zn_23 zo_23 rfl rfl (Nat.le_of_ble_eq_true rfl) ⟨Nat.le_refl _, Nat.le_refl _⟩ ⟨Nat.le_refl _, Nat.le_refl _⟩ hv (fun v1 I13 L14 P15 nx1 q16 => ?_)
      obtain ⟨rfl, rfl, hv⟩ := q16
      exact z_return dX4_weighSaying_40 rfl (Nat.le_refl _) (Nat.le_refl _) hv
abbrev gw_X4_weigh (d : Nat) (Q : zQt) (pc : Nat) (lv : zV) (st : List Value) (I : zI) (L : zL) (P : zP) : Prop := zW zm_X4_weigh (zRm d 0 0) 0 0 Q pc lv st I L P 205 0 0
def v_X4_weigh_8 (d : Nat) (Q : zQt) (p1 : Nat) (p2 : Nat) (p4 : Int32) (x5 : Int32) (I : zI) (L : zL) (P : zP) : Prop :=
  ((p4 ≤ x5 →
    Q none I L P 205
  ) ∧ (¬ p4 ≤ x5 →
    (p2 < 205 ∧ (zsh p2).1 = 0) ∧
    zMi zm_X0_kindAt d [.ref p2, .int x5] I L P (fun r8 I4 L5 P6 =>
      zMi zm_X3_isLeaf d [.int r8] I4 L5 P6 (fun r13 I9 L10 P11 =>
        ((r13 = 0 →
          zMi zm_X3_rankOf d [.int r8] I9 L10 P11 (fun r18 I14 L15 P16 =>
            ((r18 = (-1) →
              (((I14 23 5) < 1 →
                gw_X4_weigh (d + 1) Q 8 [some (.ref 23), some (.ref p1), some (.ref p2), none, some (.int p4), some (.int (x5 + 1)), none, none] [] I14 L15 P16
              ) ∧ (¬ (I14 23 5) < 1 →
                zPk P16 ∧
                vp_in ((I14 23 5) - 1) 44 ∧
                ∃ b21 : Nat, P16 24 ((I14 23 5) - 1).toNatClampNeg = some b21 ∧
                (r8 = 267 →
                  zMv zm_X4_negate d [.ref p1, .ref b21] I14 L15 P16 (fun I23 L24 P25 =>
                    gw_X4_weigh (d + 1) Q 8 [some (.ref 23), some (.ref p1), some (.ref p2), none, some (.int p4), some (.int (x5 + 1)), none, none] [] I23 L24 P25
                  )
                ) ∧
                (r8 = 270 →
                  zMi zm_X0_ofAt d [.ref p2, .int x5] I14 L15 P16 (fun r32 I28 L29 P30 =>
                    zMv zm_X4_knowsOne d [.ref 23, .ref p1, .int r32, .ref b21] I28 L29 P30 (fun I33 L34 P35 =>
                      gw_X4_weigh (d + 1) Q 8 [some (.ref 23), some (.ref p1), some (.ref p2), none, some (.int p4), some (.int (x5 + 1)), none, none] [] I33 L34 P35
                    )
                  )
                ) ∧
                (r8 = 271 →
                  zMv zm_X4_knowAll d [.ref 23, .ref p1, .ref b21] I14 L15 P16 (fun I38 L39 P40 =>
                    gw_X4_weigh (d + 1) Q 8 [some (.ref 23), some (.ref p1), some (.ref p2), none, some (.int p4), some (.int (x5 + 1)), none, none] [] I38 L39 P40
                  )
                ) ∧
                (¬ r8 = 267 → ¬ r8 = 270 → ¬ r8 = 271 →
                  zMv zm_X4_knowInCommon d [.ref 23, .ref p1, .ref b21] I14 L15 P16 (fun I43 L44 P45 =>
                    gw_X4_weigh (d + 1) Q 8 [some (.ref 23), some (.ref p1), some (.ref p2), none, some (.int p4), some (.int (x5 + 1)), none, none] [] I43 L44 P45
                  )
                )
              ))
            ) ∧ (¬ r18 = (-1) →
              zMv zm_X4_joinTop d [.ref 23, .ref p1, .int r8] I14 L15 P16 (fun I54 L55 P56 =>
                gw_X4_weigh (d + 1) Q 8 [some (.ref 23), some (.ref p1), some (.ref p2), none, some (.int p4), some (.int (x5 + 1)), none, none] [] I54 L55 P56
              )
            ))
          )
        ) ∧ (¬ r13 = 0 →
          zMi zm_X0_ofAt d [.ref p2, .int x5] I9 L10 P11 (fun r64 I60 L61 P62 =>
            zMv zm_X4_pushLeaf d [.ref 23, .ref p1, .int r8, .int r64] I60 L61 P62 (fun I65 L66 P67 =>
              gw_X4_weigh (d + 1) Q 8 [some (.ref 23), some (.ref p1), some (.ref p2), none, some (.int p4), some (.int (x5 + 1)), none, none] [] I65 L66 P67
            )
          )
        ))
      )
    )
  ))
set_option maxRecDepth 20000 in
theorem g_X4_weigh_8 {d : Nat} {Q : zQt} {p1 : Nat} {p2 : Nat} {p4 : Int32} {x5 : Int32} {I : zI} {L : zL} {P : zP} (hP : zPk P) (hv : v_X4_weigh_8 d Q p1 p2 p4 x5 I L P) : gw_X4_weigh (d + 1) Q 8 [some (.ref 23), some (.ref p1), some (.ref p2), none, some (.int p4), some (.int x5), none, none] [] I L P := by
  unfold v_X4_weigh_8 at hv
  refine z_iload dX4_weigh_8 rfl ?_
  refine z_iload dX4_weigh_10 rfl ?_
  refine z_icmp_ge (tgt := 172) dX4_weigh_12 (by decide) (fun q71 => ?_) (fun q71 => ?_)
  · have hv := hv.1 q71
    exact z_return dX4_weigh_172 rfl (Nat.le_refl _) (Nat.le_refl _) hv
  · have hv := hv.2 q71
    refine z_aload_n dX4_weigh_15 rfl ?_
    refine z_iload dX4_weigh_16 rfl ?_
    obtain ⟨h3, hv⟩ := hv
    refine z_callV (As := [.int x5]) (st := []) dX4_weigh_18 zl_X4_55 zv_X0_kindAt (by decide) rfl h3.1 h3.2 rfl rfl (Nat.le_of_ble_eq_true rfl) ⟨Nat.le_refl _, Nat.le_refl _⟩ ⟨Nat.le_refl _, Nat.le_refl _⟩ hv (fun v1 I4 L5 P6 nx1 q7 => ?_)
    obtain ⟨rfl, r8, rfl, hv⟩ := q7
    refine z_istore (lv2 := [some (.ref 23), some (.ref p1), some (.ref p2), none, some (.int p4), some (.int x5), some (.int r8), none]) dX4_weigh_21 (by decide) rfl rfl ?_
    refine z_iload dX4_weigh_23 rfl ?_
    refine z_callS (As := [.int r8]) (st := []) dX4_weigh_25 zl_X4_61 zs_X3_isLeaf rfl rfl (Nat.le_of_ble_eq_true rfl) ⟨Nat.le_refl _, Nat.le_refl _⟩ ⟨Nat.le_refl _, Nat.le_refl _⟩ hv (fun v1 I9 L10 P11 nx1 q12 => ?_)
    obtain ⟨rfl, r13, rfl, hv⟩ := q12
    refine z_if_eq (tgt := 47) dX4_weigh_28 (by decide) (fun q70 => ?_) (fun q70 => ?_)
    · have hv := hv.1 q70
      refine z_iload dX4_weigh_47 rfl ?_
      refine z_callS (As := [.int r8]) (st := []) dX4_weigh_49 zl_X4_74 zs_X3_rankOf rfl rfl (Nat.le_of_ble_eq_true rfl) ⟨Nat.le_refl _, Nat.le_refl _⟩ ⟨Nat.le_refl _, Nat.le_refl _⟩ hv (fun v1 I14 L15 P16 nx1 q17 => ?_)
      obtain ⟨rfl, r18, rfl, hv⟩ := q17
      refine z_iconst (v := (-1)) dX4_weigh_52 (by decide) ?_
      refine z_icmp_eq (tgt := 66) dX4_weigh_53 (by decide) (fun q59 => ?_) (fun q59 => ?_)
      · have hv := hv.1 q59
        refine z_aload_n dX4_weigh_66 rfl ?_
        refine z_getI dX4_weigh_67 zf_X4_31 zn_23 zo_23 (fun _ _ _ _ _ => rfl) ?_
        refine z_iconst (v := 1) dX4_weigh_70 (by decide) ?_
        refine z_icmp_lt (tgt := 166) dX4_weigh_71 (by decide) (fun q53 => ?_) (fun q53 => ?_)
        · have hv := hv.1 q53
          refine z_iinc (v2 := x5 + 1) (lv2 := [some (.ref 23), some (.ref p1), some (.ref p2), none, some (.int p4), some (.int (x5 + 1)), some (.int r8), none]) dX4_weigh_166 rfl (by rfl) (by decide) rfl rfl ?_
          refine z_goto (tgt := 8) dX4_weigh_169 (by decide) ?_
          exact z_sub (by exact ⟨rfl, ⟨rfl, ⟨rfl, ⟨rfl, ⟨rfl, trivial⟩⟩⟩⟩⟩) hv
        · have hv := hv.2 q53
          refine z_aload_n dX4_weigh_74 rfl ?_
          obtain ⟨h19, hv⟩ := hv
          refine z_getP dX4_weigh_75 zf_X4_15 zn_23 zo_23 (fun _ _ _ _ _ => rfl) (h19 23 0 24 zp_23_0) ?_
          refine z_aload_n dX4_weigh_78 rfl ?_
          refine z_getI dX4_weigh_79 zf_X4_31 zn_23 zo_23 (fun _ _ _ _ _ => rfl) ?_
          refine z_iconst (v := 1) dX4_weigh_82 (by decide) ?_
          refine z_isub dX4_weigh_83 ?_
          obtain ⟨h20, hv⟩ := hv
          obtain ⟨b21, h22, hv⟩ := hv
          refine z_aaload dX4_weigh_84 zn_24 zh_24 (Or.inl rfl) h20 h22 ?_
          refine z_astore (lv2 := [some (.ref 23), some (.ref p1), some (.ref p2), none, some (.int p4), some (.int x5), some (.int r8), some (.ref b21)]) dX4_weigh_85 (by decide) rfl rfl ?_
          refine z_iload dX4_weigh_87 rfl ?_
          by_cases q48 : r8 = 267
          · have hv := hv.1 q48
            refine z_tableIn (off := 35) (tgt := 124) dX4_weigh_89 (by rw [q48]; decide) (by rw [q48]; decide) (by rw [q48]; decide) (by decide) ?_
            refine z_aload_n dX4_weigh_124 rfl ?_
            refine z_aload dX4_weigh_125 rfl ?_
            refine z_callS (As := [.ref p1, .ref b21]) (st := []) dX4_weigh_127 zl_X4_81 zs_X4_negate rfl rfl (Nat.le_of_ble_eq_true rfl) ⟨Nat.le_refl _, Nat.le_refl _⟩ ⟨Nat.le_refl _, Nat.le_refl _⟩ hv (fun v1 I23 L24 P25 nx1 q26 => ?_)
            obtain ⟨rfl, rfl, hv⟩ := q26
            refine z_goto (tgt := 166) dX4_weigh_130 (by decide) ?_
            refine z_iinc (v2 := x5 + 1) (lv2 := [some (.ref 23), some (.ref p1), some (.ref p2), none, some (.int p4), some (.int (x5 + 1)), some (.int r8), some (.ref b21)]) dX4_weigh_166 rfl (by rfl) (by decide) rfl rfl ?_
            refine z_goto (tgt := 8) dX4_weigh_169 (by decide) ?_
            exact z_sub (by exact ⟨rfl, ⟨rfl, ⟨rfl, ⟨rfl, ⟨rfl, trivial⟩⟩⟩⟩⟩) hv
          by_cases q49 : r8 = 268
          · have hv := hv.2.2.2 (by rw [q49]; decide) (by rw [q49]; decide) (by rw [q49]; decide)
            refine z_tableIn (off := 70) (tgt := 159) dX4_weigh_89 (by rw [q49]; decide) (by rw [q49]; decide) (by rw [q49]; decide) (by decide) ?_
            refine z_aload_n dX4_weigh_159 rfl ?_
            refine z_aload_n dX4_weigh_160 rfl ?_
            refine z_aload dX4_weigh_161 rfl ?_
            refine z_callV (As := [.ref p1, .ref b21]) (st := []) dX4_weigh_163 zl_X4_92 zv_X4_knowInCommon (by decide) rfl zn_23 zo_23 rfl rfl (Nat.le_of_ble_eq_true rfl) ⟨Nat.le_refl _, Nat.le_refl _⟩ ⟨Nat.le_refl _, Nat.le_refl _⟩ hv (fun v1 I43 L44 P45 nx1 q46 => ?_)
            obtain ⟨rfl, rfl, hv⟩ := q46
            refine z_iinc (v2 := x5 + 1) (lv2 := [some (.ref 23), some (.ref p1), some (.ref p2), none, some (.int p4), some (.int (x5 + 1)), some (.int r8), some (.ref b21)]) dX4_weigh_166 rfl (by rfl) (by decide) rfl rfl ?_
            refine z_goto (tgt := 8) dX4_weigh_169 (by decide) ?_
            exact z_sub (by exact ⟨rfl, ⟨rfl, ⟨rfl, ⟨rfl, ⟨rfl, trivial⟩⟩⟩⟩⟩) hv
          by_cases q50 : r8 = 269
          · have hv := hv.2.2.2 (by rw [q50]; decide) (by rw [q50]; decide) (by rw [q50]; decide)
            refine z_tableIn (off := 70) (tgt := 159) dX4_weigh_89 (by rw [q50]; decide) (by rw [q50]; decide) (by rw [q50]; decide) (by decide) ?_
            refine z_aload_n dX4_weigh_159 rfl ?_
            refine z_aload_n dX4_weigh_160 rfl ?_
            refine z_aload dX4_weigh_161 rfl ?_
            refine z_callV (As := [.ref p1, .ref b21]) (st := []) dX4_weigh_163 zl_X4_92 zv_X4_knowInCommon (by decide) rfl zn_23 zo_23 rfl rfl (Nat.le_of_ble_eq_true rfl) ⟨Nat.le_refl _, Nat.le_refl _⟩ ⟨Nat.le_refl _, Nat.le_refl _⟩ hv (fun v1 I43 L44 P45 nx1 q46 => ?_)
            obtain ⟨rfl, rfl, hv⟩ := q46
            refine z_iinc (v2 := x5 + 1) (lv2 := [some (.ref 23), some (.ref p1), some (.ref p2), none, some (.int p4), some (.int (x5 + 1)), some (.int r8), some (.ref b21)]) dX4_weigh_166 rfl (by rfl) (by decide) rfl rfl ?_
            refine z_goto (tgt := 8) dX4_weigh_169 (by decide) ?_
            exact z_sub (by exact ⟨rfl, ⟨rfl, ⟨rfl, ⟨rfl, ⟨rfl, trivial⟩⟩⟩⟩⟩) hv
          by_cases q51 : r8 = 270
          · have hv := hv.2.1 q51
            refine z_tableIn (off := 44) (tgt := 133) dX4_weigh_89 (by rw [q51]; decide) (by rw [q51]; decide) (by rw [q51]; decide) (by decide) ?_
            refine z_aload_n dX4_weigh_133 rfl ?_
            refine z_aload_n dX4_weigh_134 rfl ?_
            refine z_aload_n dX4_weigh_135 rfl ?_
            refine z_iload dX4_weigh_136 rfl ?_
            refine z_callV (As := [.int x5]) (st := [.ref p1, .ref 23]) dX4_weigh_138 zl_X4_67 zv_X0_ofAt (by decide) rfl h3.1 h3.2 rfl rfl (Nat.le_of_ble_eq_true rfl) ⟨Nat.le_refl _, Nat.le_refl _⟩ ⟨Nat.le_refl _, Nat.le_refl _⟩ hv (fun v1 I28 L29 P30 nx1 q31 => ?_)
            obtain ⟨rfl, r32, rfl, hv⟩ := q31
            refine z_aload dX4_weigh_141 rfl ?_
            refine z_callV (As := [.ref p1, .int r32, .ref b21]) (st := []) dX4_weigh_143 zl_X4_85 zv_X4_knowsOne (by decide) rfl zn_23 zo_23 rfl rfl (Nat.le_of_ble_eq_true rfl) ⟨Nat.le_refl _, Nat.le_refl _⟩ ⟨Nat.le_refl _, Nat.le_refl _⟩ hv (fun v1 I33 L34 P35 nx1 q36 => ?_)
            obtain ⟨rfl, rfl, hv⟩ := q36
            refine z_goto (tgt := 166) dX4_weigh_146 (by decide) ?_
            refine z_iinc (v2 := x5 + 1) (lv2 := [some (.ref 23), some (.ref p1), some (.ref p2), none, some (.int p4), some (.int (x5 + 1)), some (.int r8), some (.ref b21)]) dX4_weigh_166 rfl (by rfl) (by decide) rfl rfl ?_
            refine z_goto (tgt := 8) dX4_weigh_169 (by decide) ?_
            exact z_sub (by exact ⟨rfl, ⟨rfl, ⟨rfl, ⟨rfl, ⟨rfl, trivial⟩⟩⟩⟩⟩) hv
          by_cases q52 : r8 = 271
          · have hv := hv.2.2.1 q52
            refine z_tableIn (off := 60) (tgt := 149) dX4_weigh_89 (by rw [q52]; decide) (by rw [q52]; decide) (by rw [q52]; decide) (by decide) ?_
            refine z_aload_n dX4_weigh_149 rfl ?_
            refine z_aload_n dX4_weigh_150 rfl ?_
            refine z_aload dX4_weigh_151 rfl ?_
            refine z_callV (As := [.ref p1, .ref b21]) (st := []) dX4_weigh_153 zl_X4_89 zv_X4_knowAll (by decide) rfl zn_23 zo_23 rfl rfl (Nat.le_of_ble_eq_true rfl) ⟨Nat.le_refl _, Nat.le_refl _⟩ ⟨Nat.le_refl _, Nat.le_refl _⟩ hv (fun v1 I38 L39 P40 nx1 q41 => ?_)
            obtain ⟨rfl, rfl, hv⟩ := q41
            refine z_goto (tgt := 166) dX4_weigh_156 (by decide) ?_
            refine z_iinc (v2 := x5 + 1) (lv2 := [some (.ref 23), some (.ref p1), some (.ref p2), none, some (.int p4), some (.int (x5 + 1)), some (.int r8), some (.ref b21)]) dX4_weigh_166 rfl (by rfl) (by decide) rfl rfl ?_
            refine z_goto (tgt := 8) dX4_weigh_169 (by decide) ?_
            exact z_sub (by exact ⟨rfl, ⟨rfl, ⟨rfl, ⟨rfl, ⟨rfl, trivial⟩⟩⟩⟩⟩) hv
          have hv := hv.2.2.2 q48 q51 q52
          have tq48 := lv_neT q48 (show (267 : Int32).toInt = 267 by decide)
          have tq49 := lv_neT q49 (show (268 : Int32).toInt = 268 by decide)
          have tq50 := lv_neT q50 (show (269 : Int32).toInt = 269 by decide)
          have tq51 := lv_neT q51 (show (270 : Int32).toInt = 270 by decide)
          have tq52 := lv_neT q52 (show (271 : Int32).toInt = 271 by decide)
          refine z_tableOut (tgt := 159) dX4_weigh_89 (by omega) (by decide) ?_
          refine z_aload_n dX4_weigh_159 rfl ?_
          refine z_aload_n dX4_weigh_160 rfl ?_
          refine z_aload dX4_weigh_161 rfl ?_
          refine z_callV (As := [.ref p1, .ref b21]) (st := []) dX4_weigh_163 zl_X4_92 zv_X4_knowInCommon (by decide) rfl zn_23 zo_23 rfl rfl (Nat.le_of_ble_eq_true rfl) ⟨Nat.le_refl _, Nat.le_refl _⟩ ⟨Nat.le_refl _, Nat.le_refl _⟩ hv (fun v1 I43 L44 P45 nx1 q46 => ?_)
          obtain ⟨rfl, rfl, hv⟩ := q46
          refine z_iinc (v2 := x5 + 1) (lv2 := [some (.ref 23), some (.ref p1), some (.ref p2), none, some (.int p4), some (.int (x5 + 1)), some (.int r8), some (.ref b21)]) dX4_weigh_166 rfl (by rfl) (by decide) rfl rfl ?_
          refine z_goto (tgt := 8) dX4_weigh_169 (by decide) ?_
          exact z_sub (by exact ⟨rfl, ⟨rfl, ⟨rfl, ⟨rfl, ⟨rfl, trivial⟩⟩⟩⟩⟩) hv
      · have hv := hv.2 q59
        refine z_aload_n dX4_weigh_56 rfl ?_
        refine z_aload_n dX4_weigh_57 rfl ?_
        refine z_iload dX4_weigh_58 rfl ?_
        refine z_callV (As := [.ref p1, .int r8]) (st := []) dX4_weigh_60 zl_X4_77 zv_X4_joinTop (by decide) rfl zn_23 zo_23 rfl rfl (Nat.le_of_ble_eq_true rfl) ⟨Nat.le_refl _, Nat.le_refl _⟩ ⟨Nat.le_refl _, Nat.le_refl _⟩ hv (fun v1 I54 L55 P56 nx1 q57 => ?_)
        obtain ⟨rfl, rfl, hv⟩ := q57
        refine z_goto (tgt := 166) dX4_weigh_63 (by decide) ?_
        refine z_iinc (v2 := x5 + 1) (lv2 := [some (.ref 23), some (.ref p1), some (.ref p2), none, some (.int p4), some (.int (x5 + 1)), some (.int r8), none]) dX4_weigh_166 rfl (by rfl) (by decide) rfl rfl ?_
        refine z_goto (tgt := 8) dX4_weigh_169 (by decide) ?_
        exact z_sub (by exact ⟨rfl, ⟨rfl, ⟨rfl, ⟨rfl, ⟨rfl, trivial⟩⟩⟩⟩⟩) hv
    · have hv := hv.2 q70
      refine z_aload_n dX4_weigh_31 rfl ?_
      refine z_aload_n dX4_weigh_32 rfl ?_
      refine z_iload dX4_weigh_33 rfl ?_
      refine z_aload_n dX4_weigh_35 rfl ?_
      refine z_iload dX4_weigh_36 rfl ?_
      refine z_callV (As := [.int x5]) (st := [.int r8, .ref p1, .ref 23]) dX4_weigh_38 zl_X4_67 zv_X0_ofAt (by decide) rfl h3.1 h3.2 rfl rfl (Nat.le_of_ble_eq_true rfl) ⟨Nat.le_refl _, Nat.le_refl _⟩ ⟨Nat.le_refl _, Nat.le_refl _⟩ hv (fun v1 I60 L61 P62 nx1 q63 => ?_)
      obtain ⟨rfl, r64, rfl, hv⟩ := q63
      refine z_callV (As := [.ref p1, .int r8, .int r64]) (st := []) dX4_weigh_41 zl_X4_70 zv_X4_pushLeaf (by decide) rfl zn_23 zo_23 rfl rfl (Nat.le_of_ble_eq_true rfl) ⟨Nat.le_refl _, Nat.le_refl _⟩ ⟨Nat.le_refl _, Nat.le_refl _⟩ hv (fun v1 I65 L66 P67 nx1 q68 => ?_)
      obtain ⟨rfl, rfl, hv⟩ := q68
      refine z_goto (tgt := 166) dX4_weigh_44 (by decide) ?_
      refine z_iinc (v2 := x5 + 1) (lv2 := [some (.ref 23), some (.ref p1), some (.ref p2), none, some (.int p4), some (.int (x5 + 1)), some (.int r8), none]) dX4_weigh_166 rfl (by rfl) (by decide) rfl rfl ?_
      refine z_goto (tgt := 8) dX4_weigh_169 (by decide) ?_
      exact z_sub (by exact ⟨rfl, ⟨rfl, ⟨rfl, ⟨rfl, ⟨rfl, trivial⟩⟩⟩⟩⟩) hv
def v_X4_weigh (d : Nat) (Q : zQt) (p1 : Nat) (p2 : Nat) (p3 : Int32) (p4 : Int32) (I : zI) (L : zL) (P : zP) : Prop :=
  ∀ I1 : zI, I1 = zuI I 23 5 0 →
  gw_X4_weigh (d + 1) Q 8 [some (.ref 23), some (.ref p1), some (.ref p2), none, some (.int p4), some (.int p3), none, none] [] I1 L P
set_option maxRecDepth 20000 in
theorem g_X4_weigh {d : Nat} {Q : zQt} {p1 : Nat} {p2 : Nat} {p3 : Int32} {p4 : Int32} {I : zI} {L : zL} {P : zP} (hP : zPk P) (hv : v_X4_weigh d Q p1 p2 p3 p4 I L P) : zM zm_X4_weigh (d + 1) 0 0 [.ref 23, .ref p1, .ref p2, .int p3, .int p4] I L P 205 Q := by
  unfold v_X4_weigh at hv
  refine zM_of (lv0 := [some (.ref 23), some (.ref p1), some (.ref p2), some (.int p3), some (.int p4), none, none, none]) (by decide +kernel) (Nat.le_of_ble_eq_true rfl) rfl ?_
  refine z_aload_n dX4_weigh_0 rfl ?_
  refine z_iconst (v := 0) dX4_weigh_1 (by decide) ?_
  refine z_putI dX4_weigh_2 zf_X4_31 zn_23 zo_23 (Or.inl rfl) (fun _ _ _ _ _ => rfl) rfl rfl (z_nmI (fun I1 e2 => ?_))
  have hv := hv I1 e2
  refine z_iload_n dX4_weigh_5 rfl ?_
  refine z_istore (lv2 := [some (.ref 23), some (.ref p1), some (.ref p2), some (.int p3), some (.int p4), some (.int p3), none, none]) dX4_weigh_6 (by decide) rfl rfl ?_
  exact z_sub (by exact ⟨rfl, ⟨rfl, ⟨rfl, ⟨rfl, ⟨rfl, trivial⟩⟩⟩⟩⟩) hv
abbrev gw_X4_pushLeaf (d : Nat) (Q : zQt) (pc : Nat) (lv : zV) (st : List Value) (I : zI) (L : zL) (P : zP) : Prop := zW zm_X4_pushLeaf (zRm d 0 0) 0 0 Q pc lv st I L P 205 0 0
def v_X4_pushLeaf_34 (d : Nat) (Q : zQt) (p1 : Nat) (p2 : Int32) (p3 : Int32) (x4 : Nat) (x5 : Int32) (I : zI) (L : zL) (P : zP) : Prop :=
  (p1 < 205 ∧ (zsh p1).1 = 5) ∧
  (((I p1 3) ≤ x5 →
    Q none I L P 205
  ) ∧ (¬ (I p1 3) ≤ x5 →
    ∃ b8 : Nat, P p1 2 = some b8 ∧
    ∃ n11, (b8 < 205 ∧ zsh b8 = (100, n11)) ∧
    vp_in x5 n11 ∧
    zMi zm_X4_leaf d [.int p2, .int p3, .int (I b8 x5.toNatClampNeg), .int (I p1 4)] I L P (fun r17 I13 L14 P15 =>
      ∃ n19, (x4 < 205 ∧ zsh x4 = (100, n19)) ∧
      vp_in (I b8 x5.toNatClampNeg) n19 ∧
      ∀ I22 : zI, I22 = zuI I13 x4 (I b8 x5.toNatClampNeg).toNatClampNeg r17 →
      gw_X4_pushLeaf (d + 1) Q 34 [none, some (.ref p1), some (.int p2), some (.int p3), some (.ref x4), some (.int (x5 + 1)), none] [] I22 L14 P15
    )
  ))
set_option maxRecDepth 20000 in
theorem g_X4_pushLeaf_34 {d : Nat} {Q : zQt} {p1 : Nat} {p2 : Int32} {p3 : Int32} {x4 : Nat} {x5 : Int32} {I : zI} {L : zL} {P : zP} (hP : zPk P) (hv : v_X4_pushLeaf_34 d Q p1 p2 p3 x4 x5 I L P) : gw_X4_pushLeaf (d + 1) Q 34 [none, some (.ref p1), some (.int p2), some (.int p3), some (.ref x4), some (.int x5), none] [] I L P := by
  unfold v_X4_pushLeaf_34 at hv
  refine z_iload dX4_pushLeaf_34 rfl ?_
  refine z_aload_n dX4_pushLeaf_36 rfl ?_
  obtain ⟨h7, hv⟩ := hv
  refine z_getI dX4_pushLeaf_37 zf_X4_95 h7.1 h7.2 (fun _ _ _ _ _ => rfl) ?_
  refine z_icmp_ge (tgt := 74) dX4_pushLeaf_40 (by decide) (fun q23 => ?_) (fun q23 => ?_)
  · have hv := hv.1 q23
    exact z_return dX4_pushLeaf_74 rfl (Nat.le_refl _) (Nat.le_refl _) hv
  · have hv := hv.2 q23
    refine z_aload_n dX4_pushLeaf_43 rfl ?_
    obtain ⟨b8, h9, hv⟩ := hv
    refine z_getP dX4_pushLeaf_44 zf_X4_98 h7.1 h7.2 (fun _ _ _ _ _ => rfl) h9 ?_
    refine z_iload dX4_pushLeaf_47 rfl ?_
    obtain ⟨n11, h10, hv⟩ := hv
    obtain ⟨h12, hv⟩ := hv
    refine z_iaload dX4_pushLeaf_49 h10.1 h10.2 h12 ?_
    refine z_istore (lv2 := [none, some (.ref p1), some (.int p2), some (.int p3), some (.ref x4), some (.int x5), some (.int (I b8 x5.toNatClampNeg))]) dX4_pushLeaf_50 (by decide) rfl rfl ?_
    refine z_aload dX4_pushLeaf_52 rfl ?_
    refine z_iload dX4_pushLeaf_54 rfl ?_
    refine z_iload_n dX4_pushLeaf_56 rfl ?_
    refine z_iload_n dX4_pushLeaf_57 rfl ?_
    refine z_iload dX4_pushLeaf_58 rfl ?_
    refine z_aload_n dX4_pushLeaf_60 rfl ?_
    refine z_getI dX4_pushLeaf_61 zf_X4_101 h7.1 h7.2 (fun _ _ _ _ _ => rfl) ?_
    refine z_callS (As := [.int p2, .int p3, .int (I b8 x5.toNatClampNeg), .int (I p1 4)]) (st := [.int (I b8 x5.toNatClampNeg), .ref x4]) dX4_pushLeaf_64 zl_X4_104 zs_X4_leaf rfl rfl (Nat.le_of_ble_eq_true rfl) ⟨Nat.le_refl _, Nat.le_refl _⟩ ⟨Nat.le_refl _, Nat.le_refl _⟩ hv (fun v1 I13 L14 P15 nx1 q16 => ?_)
    obtain ⟨rfl, r17, rfl, hv⟩ := q16
    obtain ⟨n19, h18, hv⟩ := hv
    obtain ⟨h20, hv⟩ := hv
    refine z_iastore dX4_pushLeaf_67 h18.1 h18.2 h20 (z_nmI (fun I22 e21 => ?_))
    have hv := hv I22 e21
    refine z_iinc (v2 := x5 + 1) (lv2 := [none, some (.ref p1), some (.int p2), some (.int p3), some (.ref x4), some (.int (x5 + 1)), some (.int (I b8 x5.toNatClampNeg))]) dX4_pushLeaf_68 rfl (by rfl) (by decide) rfl rfl ?_
    refine z_goto (tgt := 34) dX4_pushLeaf_71 (by decide) ?_
    exact z_sub (by exact ⟨rfl, ⟨rfl, ⟨rfl, ⟨rfl, ⟨rfl, trivial⟩⟩⟩⟩⟩) hv
def v_X4_pushLeaf (d : Nat) (Q : zQt) (p1 : Nat) (p2 : Int32) (p3 : Int32) (I : zI) (L : zL) (P : zP) : Prop :=
  (((I 23 5) < 44 →
    vp_in (I 23 5) 44 ∧
    ∃ b2 : Nat, P 24 (I 23 5).toNatClampNeg = some b2 ∧
    ∀ I4 : zI, I4 = zuI I 23 5 ((I 23 5) + 1) →
    gw_X4_pushLeaf (d + 1) Q 34 [none, some (.ref p1), some (.int p2), some (.int p3), some (.ref b2), some (.int 0), none] [] I4 L P
  ) ∧ (¬ (I 23 5) < 44 →
    Q none I L P 205
  ))
set_option maxRecDepth 20000 in
theorem g_X4_pushLeaf {d : Nat} {Q : zQt} {p1 : Nat} {p2 : Int32} {p3 : Int32} {I : zI} {L : zL} {P : zP} (hP : zPk P) (hv : v_X4_pushLeaf d Q p1 p2 p3 I L P) : zM zm_X4_pushLeaf (d + 1) 0 0 [.ref 23, .ref p1, .int p2, .int p3] I L P 205 Q := by
  unfold v_X4_pushLeaf at hv
  refine zM_of (lv0 := [some (.ref 23), some (.ref p1), some (.int p2), some (.int p3), none, none, none]) (by decide +kernel) (Nat.le_of_ble_eq_true rfl) rfl ?_
  refine z_aload_n dX4_pushLeaf_0 rfl ?_
  refine z_getI dX4_pushLeaf_1 zf_X4_31 zn_23 zo_23 (fun _ _ _ _ _ => rfl) ?_
  refine z_bipush (v := 44) dX4_pushLeaf_4 (by decide) ?_
  refine z_icmp_lt (tgt := 10) dX4_pushLeaf_6 (by decide) (fun q6 => ?_) (fun q6 => ?_)
  · have hv := hv.1 q6
    refine z_aload_n dX4_pushLeaf_10 rfl ?_
    refine z_getP dX4_pushLeaf_11 zf_X4_15 zn_23 zo_23 (fun _ _ _ _ _ => rfl) (hP 23 0 24 zp_23_0) ?_
    refine z_aload_n dX4_pushLeaf_14 rfl ?_
    refine z_getI dX4_pushLeaf_15 zf_X4_31 zn_23 zo_23 (fun _ _ _ _ _ => rfl) ?_
    obtain ⟨h1, hv⟩ := hv
    obtain ⟨b2, h3, hv⟩ := hv
    refine z_aaload dX4_pushLeaf_18 zn_24 zh_24 (Or.inl rfl) h1 h3 ?_
    refine z_astore (lv2 := [some (.ref 23), some (.ref p1), some (.int p2), some (.int p3), some (.ref b2), none, none]) dX4_pushLeaf_19 (by decide) rfl rfl ?_
    refine z_aload_n dX4_pushLeaf_21 rfl ?_
    refine z_dup dX4_pushLeaf_22 rfl ?_
    refine z_getI dX4_pushLeaf_23 zf_X4_31 zn_23 zo_23 (fun _ _ _ _ _ => rfl) ?_
    refine z_iconst (v := 1) dX4_pushLeaf_26 (by decide) ?_
    refine z_iadd dX4_pushLeaf_27 ?_
    refine z_putI dX4_pushLeaf_28 zf_X4_31 zn_23 zo_23 (Or.inl rfl) (fun _ _ _ _ _ => rfl) rfl rfl (z_nmI (fun I4 e5 => ?_))
    have hv := hv I4 e5
    refine z_iconst (v := 0) dX4_pushLeaf_31 (by decide) ?_
    refine z_istore (lv2 := [some (.ref 23), some (.ref p1), some (.int p2), some (.int p3), some (.ref b2), some (.int 0), none]) dX4_pushLeaf_32 (by decide) rfl rfl ?_
    exact z_sub (by exact ⟨rfl, ⟨rfl, ⟨rfl, ⟨rfl, ⟨rfl, trivial⟩⟩⟩⟩⟩) hv
  · have hv := hv.2 q6
    exact z_return dX4_pushLeaf_9 rfl (Nat.le_refl _) (Nat.le_refl _) hv
abbrev gw_X4_leaf (d : Nat) (Q : zQt) (pc : Nat) (lv : zV) (st : List Value) (I : zI) (L : zL) (P : zP) : Prop := zW zm_X4_leaf (zRm d 0 0) 0 0 Q pc lv st I L P 205 0 0
def v_X4_leaf (d : Nat) (Q : zQt) (p1 : Int32) (p2 : Int32) (p3 : Int32) (p4 : Int32) (I : zI) (L : zL) (P : zP) : Prop :=
  (p1 = 262 →
    Q (some (.int ((p3 >>> (p2 &&& 31) : Int32) &&& 1 : Int32))) I L P 205
  ) ∧
  (p1 = 268 →
    zMi zm_J6_bitCount_0f7a4 d [.int p3] I L P (fun r5 I1 L2 P3 =>
      Q (some (.int r5)) I1 L2 P3 205
    )
  ) ∧
  (p1 = 274 →
    Q (some (.int p2)) I L P 205
  ) ∧
  (¬ p1 = 262 → ¬ p1 = 268 → ¬ p1 = 274 →
    Q (some (.int ((p4 >>> (p2 &&& 31) : Int32) &&& 1 : Int32))) I L P 205
  )
set_option maxRecDepth 20000 in
theorem g_X4_leaf {d : Nat} {Q : zQt} {p1 : Int32} {p2 : Int32} {p3 : Int32} {p4 : Int32} {I : zI} {L : zL} {P : zP} (hP : zPk P) (hv : v_X4_leaf d Q p1 p2 p3 p4 I L P) : zM zm_X4_leaf (d + 1) 0 0 [.int p1, .int p2, .int p3, .int p4] I L P 205 Q := by
  unfold v_X4_leaf at hv
  refine zM_of (lv0 := [some (.int p1), some (.int p2), some (.int p3), some (.int p4)]) (by decide +kernel) (Nat.le_of_ble_eq_true rfl) rfl ?_
  refine z_iload_n dX4_leaf_0 rfl ?_
  by_cases q6 : p1 = 262
  · have hv := hv.1 q6
    refine z_lookup (off := 42) (tgt := 43) dX4_leaf_1 (by decide) (by rw [q6]; decide) (by decide) ?_
    refine z_iload_n dX4_leaf_43 rfl ?_
    refine z_iload_n dX4_leaf_44 rfl ?_
    refine z_ishr dX4_leaf_45 ?_
    refine z_iconst (v := 1) dX4_leaf_46 (by decide) ?_
    refine z_iand dX4_leaf_47 ?_
    exact z_ireturn dX4_leaf_48 rfl rfl (Nat.le_refl _) (Nat.le_refl _) hv
  by_cases q7 : p1 = 268
  · have hv := hv.2.1 q7
    refine z_lookup (off := 37) (tgt := 38) dX4_leaf_1 (by decide) (by rw [q7]; decide) (by decide) ?_
    refine z_iload_n dX4_leaf_38 rfl ?_
    refine z_callS (As := [.int p3]) (st := []) dX4_leaf_39 zl_X4_108 zs_J6_bitCount_0f7a4 rfl rfl (Nat.le_of_ble_eq_true rfl) ⟨Nat.le_refl _, Nat.le_refl _⟩ ⟨Nat.le_refl _, Nat.le_refl _⟩ hv (fun v1 I1 L2 P3 nx1 q4 => ?_)
    obtain ⟨rfl, r5, rfl, hv⟩ := q4
    exact z_ireturn dX4_leaf_42 rfl rfl (Nat.le_refl _) (Nat.le_refl _) hv
  by_cases q8 : p1 = 274
  · have hv := hv.2.2.1 q8
    refine z_lookup (off := 35) (tgt := 36) dX4_leaf_1 (by decide) (by rw [q8]; decide) (by decide) ?_
    refine z_iload_n dX4_leaf_36 rfl ?_
    exact z_ireturn dX4_leaf_37 rfl rfl (Nat.le_refl _) (Nat.le_refl _) hv
  have hv := hv.2.2.2 q6 q7 q8
  refine z_lookup (off := 48) (tgt := 49) dX4_leaf_1 (by decide) ((lv_osw q6 (by decide)).trans ((lv_osw q7 (by decide)).trans ((lv_osw q8 (by decide)).trans rfl))) (by decide) ?_
  refine z_iload_n dX4_leaf_49 rfl ?_
  refine z_iload_n dX4_leaf_50 rfl ?_
  refine z_ishr dX4_leaf_51 ?_
  refine z_iconst (v := 1) dX4_leaf_52 (by decide) ?_
  refine z_iand dX4_leaf_53 ?_
  exact z_ireturn dX4_leaf_54 rfl rfl (Nat.le_refl _) (Nat.le_refl _) hv
abbrev gw_X4_negate (d : Nat) (Q : zQt) (pc : Nat) (lv : zV) (st : List Value) (I : zI) (L : zL) (P : zP) : Prop := zW zm_X4_negate (zRm d 0 0) 0 0 Q pc lv st I L P 205 0 0
def v_X4_negate_2 (d : Nat) (Q : zQt) (p1 : Nat) (p2 : Nat) (x2 : Int32) (I : zI) (L : zL) (P : zP) : Prop :=
  (p1 < 205 ∧ (zsh p1).1 = 5) ∧
  (((I p1 3) ≤ x2 →
    Q none I L P 205
  ) ∧ (¬ (I p1 3) ≤ x2 →
    ∃ b2 : Nat, P p1 2 = some b2 ∧
    ∃ n5, (b2 < 205 ∧ zsh b2 = (100, n5)) ∧
    vp_in x2 n5 ∧
    ∃ n8, (p2 < 205 ∧ zsh p2 = (100, n8)) ∧
    vp_in (I b2 x2.toNatClampNeg) n8 ∧
    ((¬ (I p2 (I b2 x2.toNatClampNeg).toNatClampNeg) = 0 →
      ∀ I11 : zI, I11 = zuI I p2 (I b2 x2.toNatClampNeg).toNatClampNeg 0 →
      gw_X4_negate d Q 2 [some (.ref p1), some (.ref p2), some (.int (x2 + 1)), none] [] I11 L P
    ) ∧ ((I p2 (I b2 x2.toNatClampNeg).toNatClampNeg) = 0 →
      ∀ I13 : zI, I13 = zuI I p2 (I b2 x2.toNatClampNeg).toNatClampNeg 1 →
      gw_X4_negate d Q 2 [some (.ref p1), some (.ref p2), some (.int (x2 + 1)), none] [] I13 L P
    ))
  ))
set_option maxRecDepth 20000 in
theorem g_X4_negate_2 {d : Nat} {Q : zQt} {p1 : Nat} {p2 : Nat} {x2 : Int32} {I : zI} {L : zL} {P : zP} (hP : zPk P) (hv : v_X4_negate_2 d Q p1 p2 x2 I L P) : gw_X4_negate d Q 2 [some (.ref p1), some (.ref p2), some (.int x2), none] [] I L P := by
  unfold v_X4_negate_2 at hv
  refine z_iload_n dX4_negate_2 rfl ?_
  refine z_aload_n dX4_negate_3 rfl ?_
  obtain ⟨h1, hv⟩ := hv
  refine z_getI dX4_negate_4 zf_X4_95 h1.1 h1.2 (fun _ _ _ _ _ => rfl) ?_
  refine z_icmp_ge (tgt := 37) dX4_negate_7 (by decide) (fun q15 => ?_) (fun q15 => ?_)
  · have hv := hv.1 q15
    exact z_return dX4_negate_37 rfl (Nat.le_refl _) (Nat.le_refl _) hv
  · have hv := hv.2 q15
    refine z_aload_n dX4_negate_10 rfl ?_
    obtain ⟨b2, h3, hv⟩ := hv
    refine z_getP dX4_negate_11 zf_X4_98 h1.1 h1.2 (fun _ _ _ _ _ => rfl) h3 ?_
    refine z_iload_n dX4_negate_14 rfl ?_
    obtain ⟨n5, h4, hv⟩ := hv
    obtain ⟨h6, hv⟩ := hv
    refine z_iaload dX4_negate_15 h4.1 h4.2 h6 ?_
    refine z_istore_n (lv2 := [some (.ref p1), some (.ref p2), some (.int x2), some (.int (I b2 x2.toNatClampNeg))]) dX4_negate_16 (by decide) rfl rfl ?_
    refine z_aload_n dX4_negate_17 rfl ?_
    refine z_iload_n dX4_negate_18 rfl ?_
    refine z_aload_n dX4_negate_19 rfl ?_
    refine z_iload_n dX4_negate_20 rfl ?_
    obtain ⟨n8, h7, hv⟩ := hv
    obtain ⟨h9, hv⟩ := hv
    refine z_iaload dX4_negate_21 h7.1 h7.2 h9 ?_
    refine z_if_ne (tgt := 29) dX4_negate_22 (by decide) (fun q14 => ?_) (fun q14 => ?_)
    · have hv := hv.1 q14
      refine z_iconst (v := 0) dX4_negate_29 (by decide) ?_
      refine z_iastore dX4_negate_30 h7.1 h7.2 h9 (z_nmI (fun I11 e10 => ?_))
      have hv := hv I11 e10
      refine z_iinc (v2 := x2 + 1) (lv2 := [some (.ref p1), some (.ref p2), some (.int (x2 + 1)), some (.int (I b2 x2.toNatClampNeg))]) dX4_negate_31 rfl (by rfl) (by decide) rfl rfl ?_
      refine z_goto (tgt := 2) dX4_negate_34 (by decide) ?_
      exact z_sub (by exact ⟨rfl, ⟨rfl, ⟨rfl, trivial⟩⟩⟩) hv
    · have hv := hv.2 q14
      refine z_iconst (v := 1) dX4_negate_25 (by decide) ?_
      refine z_goto (tgt := 30) dX4_negate_26 (by decide) ?_
      refine z_iastore dX4_negate_30 h7.1 h7.2 h9 (z_nmI (fun I13 e12 => ?_))
      have hv := hv I13 e12
      refine z_iinc (v2 := x2 + 1) (lv2 := [some (.ref p1), some (.ref p2), some (.int (x2 + 1)), some (.int (I b2 x2.toNatClampNeg))]) dX4_negate_31 rfl (by rfl) (by decide) rfl rfl ?_
      refine z_goto (tgt := 2) dX4_negate_34 (by decide) ?_
      exact z_sub (by exact ⟨rfl, ⟨rfl, ⟨rfl, trivial⟩⟩⟩) hv
def v_X4_negate (d : Nat) (Q : zQt) (p1 : Nat) (p2 : Nat) (I : zI) (L : zL) (P : zP) : Prop :=
  gw_X4_negate d Q 2 [some (.ref p1), some (.ref p2), some (.int 0), none] [] I L P
set_option maxRecDepth 20000 in
theorem g_X4_negate {d : Nat} {Q : zQt} {p1 : Nat} {p2 : Nat} {I : zI} {L : zL} {P : zP} (hP : zPk P) (hv : v_X4_negate d Q p1 p2 I L P) : zM zm_X4_negate d 0 0 [.ref p1, .ref p2] I L P 205 Q := by
  unfold v_X4_negate at hv
  refine zM_of (lv0 := [some (.ref p1), some (.ref p2), none, none]) (by decide +kernel) (Nat.le_of_ble_eq_true rfl) rfl ?_
  refine z_iconst (v := 0) dX4_negate_0 (by decide) ?_
  refine z_istore_n (lv2 := [some (.ref p1), some (.ref p2), some (.int 0), none]) dX4_negate_1 (by decide) rfl rfl ?_
  exact hv
abbrev gw_X4_joinTop (d : Nat) (Q : zQt) (pc : Nat) (lv : zV) (st : List Value) (I : zI) (L : zL) (P : zP) : Prop := zW zm_X4_joinTop (zRm d 0 0) 0 0 Q pc lv st I L P 205 0 0
def v_X4_joinTop_45 (d : Nat) (Q : zQt) (p1 : Nat) (p2 : Int32) (x3 : Nat) (x4 : Nat) (x5 : Int32) (I : zI) (L : zL) (P : zP) : Prop :=
  (p1 < 205 ∧ (zsh p1).1 = 5) ∧
  (((I p1 3) ≤ x5 →
    Q none I L P 205
  ) ∧ (¬ (I p1 3) ≤ x5 →
    ∃ b11 : Nat, P p1 2 = some b11 ∧
    ∃ n14, (b11 < 205 ∧ zsh b11 = (100, n14)) ∧
    vp_in x5 n14 ∧
    ∃ n17, (x3 < 205 ∧ zsh x3 = (100, n17)) ∧
    vp_in (I b11 x5.toNatClampNeg) n17 ∧
    ∃ n20, (x4 < 205 ∧ zsh x4 = (100, n20)) ∧
    vp_in (I b11 x5.toNatClampNeg) n20 ∧
    zMi zm_X4_joined d [.int p2, .int (I x3 (I b11 x5.toNatClampNeg).toNatClampNeg), .int (I x4 (I b11 x5.toNatClampNeg).toNatClampNeg)] I L P (fun r26 I22 L23 P24 =>
      ∀ I28 : zI, I28 = zuI I22 x3 (I b11 x5.toNatClampNeg).toNatClampNeg r26 →
      gw_X4_joinTop (d + 1) Q 45 [none, some (.ref p1), some (.int p2), some (.ref x3), some (.ref x4), some (.int (x5 + 1)), none] [] I28 L23 P24
    )
  ))
set_option maxRecDepth 20000 in
theorem g_X4_joinTop_45 {d : Nat} {Q : zQt} {p1 : Nat} {p2 : Int32} {x3 : Nat} {x4 : Nat} {x5 : Int32} {I : zI} {L : zL} {P : zP} (hP : zPk P) (hv : v_X4_joinTop_45 d Q p1 p2 x3 x4 x5 I L P) : gw_X4_joinTop (d + 1) Q 45 [none, some (.ref p1), some (.int p2), some (.ref x3), some (.ref x4), some (.int x5), none] [] I L P := by
  unfold v_X4_joinTop_45 at hv
  refine z_iload dX4_joinTop_45 rfl ?_
  refine z_aload_n dX4_joinTop_47 rfl ?_
  obtain ⟨h10, hv⟩ := hv
  refine z_getI dX4_joinTop_48 zf_X4_95 h10.1 h10.2 (fun _ _ _ _ _ => rfl) ?_
  refine z_icmp_ge (tgt := 86) dX4_joinTop_51 (by decide) (fun q29 => ?_) (fun q29 => ?_)
  · have hv := hv.1 q29
    exact z_return dX4_joinTop_86 rfl (Nat.le_refl _) (Nat.le_refl _) hv
  · have hv := hv.2 q29
    refine z_aload_n dX4_joinTop_54 rfl ?_
    obtain ⟨b11, h12, hv⟩ := hv
    refine z_getP dX4_joinTop_55 zf_X4_98 h10.1 h10.2 (fun _ _ _ _ _ => rfl) h12 ?_
    refine z_iload dX4_joinTop_58 rfl ?_
    obtain ⟨n14, h13, hv⟩ := hv
    obtain ⟨h15, hv⟩ := hv
    refine z_iaload dX4_joinTop_60 h13.1 h13.2 h15 ?_
    refine z_istore (lv2 := [none, some (.ref p1), some (.int p2), some (.ref x3), some (.ref x4), some (.int x5), some (.int (I b11 x5.toNatClampNeg))]) dX4_joinTop_61 (by decide) rfl rfl ?_
    refine z_aload_n dX4_joinTop_63 rfl ?_
    refine z_iload dX4_joinTop_64 rfl ?_
    refine z_iload_n dX4_joinTop_66 rfl ?_
    refine z_aload_n dX4_joinTop_67 rfl ?_
    refine z_iload dX4_joinTop_68 rfl ?_
    obtain ⟨n17, h16, hv⟩ := hv
    obtain ⟨h18, hv⟩ := hv
    refine z_iaload dX4_joinTop_70 h16.1 h16.2 h18 ?_
    refine z_aload dX4_joinTop_71 rfl ?_
    refine z_iload dX4_joinTop_73 rfl ?_
    obtain ⟨n20, h19, hv⟩ := hv
    obtain ⟨h21, hv⟩ := hv
    refine z_iaload dX4_joinTop_75 h19.1 h19.2 h21 ?_
    refine z_callS (As := [.int p2, .int (I x3 (I b11 x5.toNatClampNeg).toNatClampNeg), .int (I x4 (I b11 x5.toNatClampNeg).toNatClampNeg)]) (st := [.int (I b11 x5.toNatClampNeg), .ref x3]) dX4_joinTop_76 zl_X4_113 zs_X4_joined rfl rfl (Nat.le_of_ble_eq_true rfl) ⟨Nat.le_refl _, Nat.le_refl _⟩ ⟨Nat.le_refl _, Nat.le_refl _⟩ hv (fun v1 I22 L23 P24 nx1 q25 => ?_)
    obtain ⟨rfl, r26, rfl, hv⟩ := q25
    refine z_iastore dX4_joinTop_79 h16.1 h16.2 h18 (z_nmI (fun I28 e27 => ?_))
    have hv := hv I28 e27
    refine z_iinc (v2 := x5 + 1) (lv2 := [none, some (.ref p1), some (.int p2), some (.ref x3), some (.ref x4), some (.int (x5 + 1)), some (.int (I b11 x5.toNatClampNeg))]) dX4_joinTop_80 rfl (by rfl) (by decide) rfl rfl ?_
    refine z_goto (tgt := 45) dX4_joinTop_83 (by decide) ?_
    exact z_sub (by exact ⟨rfl, ⟨rfl, ⟨rfl, ⟨rfl, ⟨rfl, trivial⟩⟩⟩⟩⟩) hv
def v_X4_joinTop (d : Nat) (Q : zQt) (p1 : Nat) (p2 : Int32) (I : zI) (L : zL) (P : zP) : Prop :=
  ((2 ≤ (I 23 5) →
    ∀ I1 : zI, I1 = zuI I 23 5 ((I 23 5) - 1) →
    vp_in ((I1 23 5) - 1) 44 ∧
    ∃ b4 : Nat, P 24 ((I1 23 5) - 1).toNatClampNeg = some b4 ∧
    vp_in (I1 23 5) 44 ∧
    ∃ b7 : Nat, P 24 (I1 23 5).toNatClampNeg = some b7 ∧
    gw_X4_joinTop (d + 1) Q 45 [none, some (.ref p1), some (.int p2), some (.ref b4), some (.ref b7), some (.int 0), none] [] I1 L P
  ) ∧ (¬ 2 ≤ (I 23 5) →
    Q none I L P 205
  ))
set_option maxRecDepth 20000 in
theorem g_X4_joinTop {d : Nat} {Q : zQt} {p1 : Nat} {p2 : Int32} {I : zI} {L : zL} {P : zP} (hP : zPk P) (hv : v_X4_joinTop d Q p1 p2 I L P) : zM zm_X4_joinTop (d + 1) 0 0 [.ref 23, .ref p1, .int p2] I L P 205 Q := by
  unfold v_X4_joinTop at hv
  refine zM_of (lv0 := [some (.ref 23), some (.ref p1), some (.int p2), none, none, none, none]) (by decide +kernel) (Nat.le_of_ble_eq_true rfl) rfl ?_
  refine z_aload_n dX4_joinTop_0 rfl ?_
  refine z_getI dX4_joinTop_1 zf_X4_31 zn_23 zo_23 (fun _ _ _ _ _ => rfl) ?_
  refine z_iconst (v := 2) dX4_joinTop_4 (by decide) ?_
  refine z_icmp_ge (tgt := 9) dX4_joinTop_5 (by decide) (fun q9 => ?_) (fun q9 => ?_)
  · have hv := hv.1 q9
    refine z_aload_n dX4_joinTop_9 rfl ?_
    refine z_dup dX4_joinTop_10 rfl ?_
    refine z_getI dX4_joinTop_11 zf_X4_31 zn_23 zo_23 (fun _ _ _ _ _ => rfl) ?_
    refine z_iconst (v := 1) dX4_joinTop_14 (by decide) ?_
    refine z_isub dX4_joinTop_15 ?_
    refine z_putI dX4_joinTop_16 zf_X4_31 zn_23 zo_23 (Or.inl rfl) (fun _ _ _ _ _ => rfl) rfl rfl (z_nmI (fun I1 e2 => ?_))
    have hv := hv I1 e2
    refine z_aload_n dX4_joinTop_19 rfl ?_
    refine z_getP dX4_joinTop_20 zf_X4_15 zn_23 zo_23 (fun _ _ _ _ _ => rfl) (hP 23 0 24 zp_23_0) ?_
    refine z_aload_n dX4_joinTop_23 rfl ?_
    refine z_getI dX4_joinTop_24 zf_X4_31 zn_23 zo_23 (fun _ _ _ _ _ => rfl) ?_
    refine z_iconst (v := 1) dX4_joinTop_27 (by decide) ?_
    refine z_isub dX4_joinTop_28 ?_
    obtain ⟨h3, hv⟩ := hv
    obtain ⟨b4, h5, hv⟩ := hv
    refine z_aaload dX4_joinTop_29 zn_24 zh_24 (Or.inl rfl) h3 h5 ?_
    refine z_astore_n (lv2 := [some (.ref 23), some (.ref p1), some (.int p2), some (.ref b4), none, none, none]) dX4_joinTop_30 (by decide) rfl rfl ?_
    refine z_aload_n dX4_joinTop_31 rfl ?_
    refine z_getP dX4_joinTop_32 zf_X4_15 zn_23 zo_23 (fun _ _ _ _ _ => rfl) (hP 23 0 24 zp_23_0) ?_
    refine z_aload_n dX4_joinTop_35 rfl ?_
    refine z_getI dX4_joinTop_36 zf_X4_31 zn_23 zo_23 (fun _ _ _ _ _ => rfl) ?_
    obtain ⟨h6, hv⟩ := hv
    obtain ⟨b7, h8, hv⟩ := hv
    refine z_aaload dX4_joinTop_39 zn_24 zh_24 (Or.inl rfl) h6 h8 ?_
    refine z_astore (lv2 := [some (.ref 23), some (.ref p1), some (.int p2), some (.ref b4), some (.ref b7), none, none]) dX4_joinTop_40 (by decide) rfl rfl ?_
    refine z_iconst (v := 0) dX4_joinTop_42 (by decide) ?_
    refine z_istore (lv2 := [some (.ref 23), some (.ref p1), some (.int p2), some (.ref b4), some (.ref b7), some (.int 0), none]) dX4_joinTop_43 (by decide) rfl rfl ?_
    exact z_sub (by exact ⟨rfl, ⟨rfl, ⟨rfl, ⟨rfl, ⟨rfl, trivial⟩⟩⟩⟩⟩) hv
  · have hv := hv.2 q9
    exact z_return dX4_joinTop_8 rfl (Nat.le_refl _) (Nat.le_refl _) hv
abbrev gw_X4_joined (d : Nat) (Q : zQt) (pc : Nat) (lv : zV) (st : List Value) (I : zI) (L : zL) (P : zP) : Prop := zW zm_X4_joined (zRm d 0 0) 0 0 Q pc lv st I L P 205 0 0
def v_X4_joined (d : Nat) (Q : zQt) (p1 : Int32) (p2 : Int32) (p3 : Int32) (I : zI) (L : zL) (P : zP) : Prop :=
  (p1 = 42 →
    Q (some (.int (p2 * p3))) I L P 205
  ) ∧
  (p1 = 43 →
    Q (some (.int (p2 + p3))) I L P 205
  ) ∧
  (p1 = 45 →
    Q (some (.int (p2 - p3))) I L P 205
  ) ∧
  (p1 = 47 →
    ((¬ p3 = 0 →
      ¬ p3 = 0 ∧
      Q (some (.int (p2 / p3))) I L P 205
    ) ∧ (p3 = 0 →
      Q (some (.int 0)) I L P 205
    ))
  ) ∧
  (p1 = 60 →
    ((p3 ≤ p2 →
      Q (some (.int 0)) I L P 205
    ) ∧ (¬ p3 ≤ p2 →
      Q (some (.int 1)) I L P 205
    ))
  ) ∧
  (p1 = 61 →
    ((¬ p2 = p3 →
      Q (some (.int 0)) I L P 205
    ) ∧ (p2 = p3 →
      Q (some (.int 1)) I L P 205
    ))
  ) ∧
  (p1 = 62 →
    ((p2 ≤ p3 →
      Q (some (.int 0)) I L P 205
    ) ∧ (¬ p2 ≤ p3 →
      Q (some (.int 1)) I L P 205
    ))
  ) ∧
  (p1 = 266 →
    ((p2 = 0 →
      Q (some (.int 0)) I L P 205
    ) ∧ (¬ p2 = 0 →
      ((p3 = 0 →
        Q (some (.int 0)) I L P 205
      ) ∧ (¬ p3 = 0 →
        Q (some (.int 1)) I L P 205
      ))
    ))
  ) ∧
  (¬ p1 = 42 → ¬ p1 = 43 → ¬ p1 = 45 → ¬ p1 = 47 → ¬ p1 = 60 → ¬ p1 = 61 → ¬ p1 = 62 → ¬ p1 = 266 →
    ((¬ p2 = 0 →
      Q (some (.int 1)) I L P 205
    ) ∧ (p2 = 0 →
      ((p3 = 0 →
        Q (some (.int 0)) I L P 205
      ) ∧ (¬ p3 = 0 →
        Q (some (.int 1)) I L P 205
      ))
    ))
  )
set_option maxRecDepth 20000 in
theorem g_X4_joined {d : Nat} {Q : zQt} {p1 : Int32} {p2 : Int32} {p3 : Int32} {I : zI} {L : zL} {P : zP} (hP : zPk P) (hv : v_X4_joined d Q p1 p2 p3 I L P) : zM zm_X4_joined d 0 0 [.int p1, .int p2, .int p3] I L P 205 Q := by
  unfold v_X4_joined at hv
  refine zM_of (lv0 := [some (.int p1), some (.int p2), some (.int p3)]) (by decide +kernel) (Nat.le_of_ble_eq_true rfl) rfl ?_
  refine z_iload_n dX4_joined_0 rfl ?_
  by_cases q10 : p1 = 42
  · have hv := hv.1 q10
    refine z_lookup (off := 83) (tgt := 84) dX4_joined_1 (by decide) (by rw [q10]; decide) (by decide) ?_
    refine z_iload_n dX4_joined_84 rfl ?_
    refine z_iload_n dX4_joined_85 rfl ?_
    refine z_imul dX4_joined_86 ?_
    exact z_ireturn dX4_joined_87 rfl rfl (Nat.le_refl _) (Nat.le_refl _) hv
  by_cases q11 : p1 = 43
  · have hv := hv.2.1 q11
    refine z_lookup (off := 75) (tgt := 76) dX4_joined_1 (by decide) (by rw [q11]; decide) (by decide) ?_
    refine z_iload_n dX4_joined_76 rfl ?_
    refine z_iload_n dX4_joined_77 rfl ?_
    refine z_iadd dX4_joined_78 ?_
    exact z_ireturn dX4_joined_79 rfl rfl (Nat.le_refl _) (Nat.le_refl _) hv
  by_cases q12 : p1 = 45
  · have hv := hv.2.2.1 q12
    refine z_lookup (off := 79) (tgt := 80) dX4_joined_1 (by decide) (by rw [q12]; decide) (by decide) ?_
    refine z_iload_n dX4_joined_80 rfl ?_
    refine z_iload_n dX4_joined_81 rfl ?_
    refine z_isub dX4_joined_82 ?_
    exact z_ireturn dX4_joined_83 rfl rfl (Nat.le_refl _) (Nat.le_refl _) hv
  by_cases q13 : p1 = 47
  · have hv := hv.2.2.2.1 q13
    refine z_lookup (off := 87) (tgt := 88) dX4_joined_1 (by decide) (by rw [q13]; decide) (by decide) ?_
    refine z_iload_n dX4_joined_88 rfl ?_
    refine z_if_ne (tgt := 96) dX4_joined_89 (by decide) (fun q2 => ?_) (fun q2 => ?_)
    · have hv := hv.1 q2
      refine z_iload_n dX4_joined_96 rfl ?_
      refine z_iload_n dX4_joined_97 rfl ?_
      obtain ⟨h1, hv⟩ := hv
      refine z_idiv dX4_joined_98 h1 ?_
      exact z_ireturn dX4_joined_99 rfl rfl (Nat.le_refl _) (Nat.le_refl _) hv
    · have hv := hv.2 q2
      refine z_iconst (v := 0) dX4_joined_92 (by decide) ?_
      refine z_goto (tgt := 99) dX4_joined_93 (by decide) ?_
      exact z_ireturn dX4_joined_99 rfl rfl (Nat.le_refl _) (Nat.le_refl _) hv
  by_cases q14 : p1 = 60
  · have hv := hv.2.2.2.2.1 q14
    refine z_lookup (off := 99) (tgt := 100) dX4_joined_1 (by decide) (by rw [q14]; decide) (by decide) ?_
    refine z_iload_n dX4_joined_100 rfl ?_
    refine z_iload_n dX4_joined_101 rfl ?_
    refine z_icmp_ge (tgt := 109) dX4_joined_102 (by decide) (fun q3 => ?_) (fun q3 => ?_)
    · have hv := hv.1 q3
      refine z_iconst (v := 0) dX4_joined_109 (by decide) ?_
      exact z_ireturn dX4_joined_110 rfl rfl (Nat.le_refl _) (Nat.le_refl _) hv
    · have hv := hv.2 q3
      refine z_iconst (v := 1) dX4_joined_105 (by decide) ?_
      refine z_goto (tgt := 110) dX4_joined_106 (by decide) ?_
      exact z_ireturn dX4_joined_110 rfl rfl (Nat.le_refl _) (Nat.le_refl _) hv
  by_cases q15 : p1 = 61
  · have hv := hv.2.2.2.2.2.1 q15
    refine z_lookup (off := 121) (tgt := 122) dX4_joined_1 (by decide) (by rw [q15]; decide) (by decide) ?_
    refine z_iload_n dX4_joined_122 rfl ?_
    refine z_iload_n dX4_joined_123 rfl ?_
    refine z_icmp_ne (tgt := 131) dX4_joined_124 (by decide) (fun q4 => ?_) (fun q4 => ?_)
    · have hv := hv.1 q4
      refine z_iconst (v := 0) dX4_joined_131 (by decide) ?_
      exact z_ireturn dX4_joined_132 rfl rfl (Nat.le_refl _) (Nat.le_refl _) hv
    · have hv := hv.2 q4
      refine z_iconst (v := 1) dX4_joined_127 (by decide) ?_
      refine z_goto (tgt := 132) dX4_joined_128 (by decide) ?_
      exact z_ireturn dX4_joined_132 rfl rfl (Nat.le_refl _) (Nat.le_refl _) hv
  by_cases q16 : p1 = 62
  · have hv := hv.2.2.2.2.2.2.1 q16
    refine z_lookup (off := 110) (tgt := 111) dX4_joined_1 (by decide) (by rw [q16]; decide) (by decide) ?_
    refine z_iload_n dX4_joined_111 rfl ?_
    refine z_iload_n dX4_joined_112 rfl ?_
    refine z_icmp_le (tgt := 120) dX4_joined_113 (by decide) (fun q5 => ?_) (fun q5 => ?_)
    · have hv := hv.1 q5
      refine z_iconst (v := 0) dX4_joined_120 (by decide) ?_
      exact z_ireturn dX4_joined_121 rfl rfl (Nat.le_refl _) (Nat.le_refl _) hv
    · have hv := hv.2 q5
      refine z_iconst (v := 1) dX4_joined_116 (by decide) ?_
      refine z_goto (tgt := 121) dX4_joined_117 (by decide) ?_
      exact z_ireturn dX4_joined_121 rfl rfl (Nat.le_refl _) (Nat.le_refl _) hv
  by_cases q17 : p1 = 266
  · have hv := hv.2.2.2.2.2.2.2.1 q17
    refine z_lookup (off := 132) (tgt := 133) dX4_joined_1 (by decide) (by rw [q17]; decide) (by decide) ?_
    refine z_iload_n dX4_joined_133 rfl ?_
    refine z_if_eq (tgt := 145) dX4_joined_134 (by decide) (fun q7 => ?_) (fun q7 => ?_)
    · have hv := hv.1 q7
      refine z_iconst (v := 0) dX4_joined_145 (by decide) ?_
      exact z_ireturn dX4_joined_146 rfl rfl (Nat.le_refl _) (Nat.le_refl _) hv
    · have hv := hv.2 q7
      refine z_iload_n dX4_joined_137 rfl ?_
      refine z_if_eq (tgt := 145) dX4_joined_138 (by decide) (fun q6 => ?_) (fun q6 => ?_)
      · have hv := hv.1 q6
        refine z_iconst (v := 0) dX4_joined_145 (by decide) ?_
        exact z_ireturn dX4_joined_146 rfl rfl (Nat.le_refl _) (Nat.le_refl _) hv
      · have hv := hv.2 q6
        refine z_iconst (v := 1) dX4_joined_141 (by decide) ?_
        refine z_goto (tgt := 146) dX4_joined_142 (by decide) ?_
        exact z_ireturn dX4_joined_146 rfl rfl (Nat.le_refl _) (Nat.le_refl _) hv
  have hv := hv.2.2.2.2.2.2.2.2 q10 q11 q12 q13 q14 q15 q16 q17
  refine z_lookup (off := 146) (tgt := 147) dX4_joined_1 (by decide) ((lv_osw q10 (by decide)).trans ((lv_osw q11 (by decide)).trans ((lv_osw q12 (by decide)).trans ((lv_osw q13 (by decide)).trans ((lv_osw q14 (by decide)).trans ((lv_osw q15 (by decide)).trans ((lv_osw q16 (by decide)).trans ((lv_osw q17 (by decide)).trans rfl)))))))) (by decide) ?_
  refine z_iload_n dX4_joined_147 rfl ?_
  refine z_if_ne (tgt := 155) dX4_joined_148 (by decide) (fun q9 => ?_) (fun q9 => ?_)
  · have hv := hv.1 q9
    refine z_iconst (v := 1) dX4_joined_155 (by decide) ?_
    refine z_goto (tgt := 160) dX4_joined_156 (by decide) ?_
    exact z_ireturn dX4_joined_160 rfl rfl (Nat.le_refl _) (Nat.le_refl _) hv
  · have hv := hv.2 q9
    refine z_iload_n dX4_joined_151 rfl ?_
    refine z_if_eq (tgt := 159) dX4_joined_152 (by decide) (fun q8 => ?_) (fun q8 => ?_)
    · have hv := hv.1 q8
      refine z_iconst (v := 0) dX4_joined_159 (by decide) ?_
      exact z_ireturn dX4_joined_160 rfl rfl (Nat.le_refl _) (Nat.le_refl _) hv
    · have hv := hv.2 q8
      refine z_iconst (v := 1) dX4_joined_155 (by decide) ?_
      refine z_goto (tgt := 160) dX4_joined_156 (by decide) ?_
      exact z_ireturn dX4_joined_160 rfl rfl (Nat.le_refl _) (Nat.le_refl _) hv
abbrev gw_X4_markKnown (d : Nat) (Q : zQt) (pc : Nat) (lv : zV) (st : List Value) (I : zI) (L : zL) (P : zP) : Prop := zW zm_X4_markKnown (zRm d 0 0) 0 0 Q pc lv st I L P 205 0 0
def v_X4_markKnown_36 (d : Nat) (Q : zQt) (p1 : Nat) (p2 : Nat) (p3 : Nat) (x4 : Int32) (I : zI) (L : zL) (P : zP) : Prop :=
  (p1 < 205 ∧ (zsh p1).1 = 5) ∧
  (((I p1 3) ≤ x4 →
    Q none I L P 205
  ) ∧ (¬ (I p1 3) ≤ x4 →
    ∃ b15 : Nat, P p1 2 = some b15 ∧
    ∃ n18, (b15 < 205 ∧ zsh b15 = (100, n18)) ∧
    vp_in x4 n18 ∧
    ∃ n21, (p3 < 205 ∧ zsh p3 = (100, n21)) ∧
    vp_in (I b15 x4.toNatClampNeg) n21 ∧
    ((¬ (I p3 (I b15 x4.toNatClampNeg).toNatClampNeg) = 0 →
      gw_X4_markKnown d Q 36 [some (.ref 23), some (.ref p1), some (.ref p2), some (.ref p3), some (.int (x4 + 1)), none] [] I L P
    ) ∧ ((I p3 (I b15 x4.toNatClampNeg).toNatClampNeg) = 0 →
      ∃ n24, (p2 < 205 ∧ zsh p2 = (100, n24)) ∧
      vp_in (I b15 x4.toNatClampNeg) n24 ∧
      vp_in (I p2 (I b15 x4.toNatClampNeg).toNatClampNeg) 256 ∧
      ∀ I28 : zI, I28 = zuI I 70 (I p2 (I b15 x4.toNatClampNeg).toNatClampNeg).toNatClampNeg 0 →
      gw_X4_markKnown d Q 36 [some (.ref 23), some (.ref p1), some (.ref p2), some (.ref p3), some (.int (x4 + 1)), none] [] I28 L P
    ))
  ))
set_option maxRecDepth 20000 in
theorem g_X4_markKnown_36 {d : Nat} {Q : zQt} {p1 : Nat} {p2 : Nat} {p3 : Nat} {x4 : Int32} {I : zI} {L : zL} {P : zP} (hP : zPk P) (hv : v_X4_markKnown_36 d Q p1 p2 p3 x4 I L P) : gw_X4_markKnown d Q 36 [some (.ref 23), some (.ref p1), some (.ref p2), some (.ref p3), some (.int x4), none] [] I L P := by
  unfold v_X4_markKnown_36 at hv
  refine z_iload dX4_markKnown_36 rfl ?_
  refine z_aload_n dX4_markKnown_38 rfl ?_
  obtain ⟨h14, hv⟩ := hv
  refine z_getI dX4_markKnown_39 zf_X4_95 h14.1 h14.2 (fun _ _ _ _ _ => rfl) ?_
  refine z_icmp_ge (tgt := 77) dX4_markKnown_42 (by decide) (fun q30 => ?_) (fun q30 => ?_)
  · have hv := hv.1 q30
    exact z_return dX4_markKnown_77 rfl (Nat.le_refl _) (Nat.le_refl _) hv
  · have hv := hv.2 q30
    refine z_aload_n dX4_markKnown_45 rfl ?_
    obtain ⟨b15, h16, hv⟩ := hv
    refine z_getP dX4_markKnown_46 zf_X4_98 h14.1 h14.2 (fun _ _ _ _ _ => rfl) h16 ?_
    refine z_iload dX4_markKnown_49 rfl ?_
    obtain ⟨n18, h17, hv⟩ := hv
    obtain ⟨h19, hv⟩ := hv
    refine z_iaload dX4_markKnown_51 h17.1 h17.2 h19 ?_
    refine z_istore (lv2 := [some (.ref 23), some (.ref p1), some (.ref p2), some (.ref p3), some (.int x4), some (.int (I b15 x4.toNatClampNeg))]) dX4_markKnown_52 (by decide) rfl rfl ?_
    refine z_aload_n dX4_markKnown_54 rfl ?_
    refine z_iload dX4_markKnown_55 rfl ?_
    obtain ⟨n21, h20, hv⟩ := hv
    obtain ⟨h22, hv⟩ := hv
    refine z_iaload dX4_markKnown_57 h20.1 h20.2 h22 ?_
    refine z_if_ne (tgt := 71) dX4_markKnown_58 (by decide) (fun q29 => ?_) (fun q29 => ?_)
    · have hv := hv.1 q29
      refine z_iinc (v2 := x4 + 1) (lv2 := [some (.ref 23), some (.ref p1), some (.ref p2), some (.ref p3), some (.int (x4 + 1)), some (.int (I b15 x4.toNatClampNeg))]) dX4_markKnown_71 rfl (by rfl) (by decide) rfl rfl ?_
      refine z_goto (tgt := 36) dX4_markKnown_74 (by decide) ?_
      exact z_sub (by exact ⟨rfl, ⟨rfl, ⟨rfl, ⟨rfl, ⟨rfl, trivial⟩⟩⟩⟩⟩) hv
    · have hv := hv.2 q29
      refine z_aload_n dX4_markKnown_61 rfl ?_
      refine z_getP dX4_markKnown_62 zf_X4_22 zn_23 zo_23 (fun _ _ _ _ _ => rfl) (hP 23 2 70 zp_23_2) ?_
      refine z_aload_n dX4_markKnown_65 rfl ?_
      refine z_iload dX4_markKnown_66 rfl ?_
      obtain ⟨n24, h23, hv⟩ := hv
      obtain ⟨h25, hv⟩ := hv
      refine z_iaload dX4_markKnown_68 h23.1 h23.2 h25 ?_
      refine z_iconst (v := 0) dX4_markKnown_69 (by decide) ?_
      obtain ⟨h26, hv⟩ := hv
      refine z_iastore dX4_markKnown_70 zn_70 zh_70 h26 (z_nmI (fun I28 e27 => ?_))
      have hv := hv I28 e27
      refine z_iinc (v2 := x4 + 1) (lv2 := [some (.ref 23), some (.ref p1), some (.ref p2), some (.ref p3), some (.int (x4 + 1)), some (.int (I b15 x4.toNatClampNeg))]) dX4_markKnown_71 rfl (by rfl) (by decide) rfl rfl ?_
      refine z_goto (tgt := 36) dX4_markKnown_74 (by decide) ?_
      exact z_sub (by exact ⟨rfl, ⟨rfl, ⟨rfl, ⟨rfl, ⟨rfl, trivial⟩⟩⟩⟩⟩) hv
def v_X4_markKnown_3 (d : Nat) (Q : zQt) (p1 : Nat) (p2 : Nat) (p3 : Nat) (x4 : Int32) (I : zI) (L : zL) (P : zP) : Prop :=
  (p1 < 205 ∧ (zsh p1).1 = 5) ∧
  (((I p1 3) ≤ x4 →
    gw_X4_markKnown d Q 36 [some (.ref 23), some (.ref p1), some (.ref p2), some (.ref p3), some (.int 0), none] [] I L P
  ) ∧ (¬ (I p1 3) ≤ x4 →
    ∃ b2 : Nat, P p1 2 = some b2 ∧
    ∃ n5, (b2 < 205 ∧ zsh b2 = (100, n5)) ∧
    vp_in x4 n5 ∧
    ∃ n8, (p2 < 205 ∧ zsh p2 = (100, n8)) ∧
    vp_in (I b2 x4.toNatClampNeg) n8 ∧
    vp_in (I p2 (I b2 x4.toNatClampNeg).toNatClampNeg) 256 ∧
    ∀ I12 : zI, I12 = zuI I 70 (I p2 (I b2 x4.toNatClampNeg).toNatClampNeg).toNatClampNeg 1 →
    gw_X4_markKnown d Q 3 [some (.ref 23), some (.ref p1), some (.ref p2), some (.ref p3), some (.int (x4 + 1)), none] [] I12 L P
  ))
set_option maxRecDepth 20000 in
theorem g_X4_markKnown_3 {d : Nat} {Q : zQt} {p1 : Nat} {p2 : Nat} {p3 : Nat} {x4 : Int32} {I : zI} {L : zL} {P : zP} (hP : zPk P) (hv : v_X4_markKnown_3 d Q p1 p2 p3 x4 I L P) : gw_X4_markKnown d Q 3 [some (.ref 23), some (.ref p1), some (.ref p2), some (.ref p3), some (.int x4), none] [] I L P := by
  unfold v_X4_markKnown_3 at hv
  refine z_iload dX4_markKnown_3 rfl ?_
  refine z_aload_n dX4_markKnown_5 rfl ?_
  obtain ⟨h1, hv⟩ := hv
  refine z_getI dX4_markKnown_6 zf_X4_95 h1.1 h1.2 (fun _ _ _ _ _ => rfl) ?_
  refine z_icmp_ge (tgt := 33) dX4_markKnown_9 (by decide) (fun q13 => ?_) (fun q13 => ?_)
  · have hv := hv.1 q13
    refine z_iconst (v := 0) dX4_markKnown_33 (by decide) ?_
    refine z_istore (lv2 := [some (.ref 23), some (.ref p1), some (.ref p2), some (.ref p3), some (.int 0), none]) dX4_markKnown_34 (by decide) rfl rfl ?_
    exact hv
  · have hv := hv.2 q13
    refine z_aload_n dX4_markKnown_12 rfl ?_
    refine z_getP dX4_markKnown_13 zf_X4_22 zn_23 zo_23 (fun _ _ _ _ _ => rfl) (hP 23 2 70 zp_23_2) ?_
    refine z_aload_n dX4_markKnown_16 rfl ?_
    refine z_aload_n dX4_markKnown_17 rfl ?_
    obtain ⟨b2, h3, hv⟩ := hv
    refine z_getP dX4_markKnown_18 zf_X4_98 h1.1 h1.2 (fun _ _ _ _ _ => rfl) h3 ?_
    refine z_iload dX4_markKnown_21 rfl ?_
    obtain ⟨n5, h4, hv⟩ := hv
    obtain ⟨h6, hv⟩ := hv
    refine z_iaload dX4_markKnown_23 h4.1 h4.2 h6 ?_
    obtain ⟨n8, h7, hv⟩ := hv
    obtain ⟨h9, hv⟩ := hv
    refine z_iaload dX4_markKnown_24 h7.1 h7.2 h9 ?_
    refine z_iconst (v := 1) dX4_markKnown_25 (by decide) ?_
    obtain ⟨h10, hv⟩ := hv
    refine z_iastore dX4_markKnown_26 zn_70 zh_70 h10 (z_nmI (fun I12 e11 => ?_))
    have hv := hv I12 e11
    refine z_iinc (v2 := x4 + 1) (lv2 := [some (.ref 23), some (.ref p1), some (.ref p2), some (.ref p3), some (.int (x4 + 1)), none]) dX4_markKnown_27 rfl (by rfl) (by decide) rfl rfl ?_
    refine z_goto (tgt := 3) dX4_markKnown_30 (by decide) ?_
    exact hv
def v_X4_markKnown (d : Nat) (Q : zQt) (p1 : Nat) (p2 : Nat) (p3 : Nat) (I : zI) (L : zL) (P : zP) : Prop :=
  gw_X4_markKnown d Q 3 [some (.ref 23), some (.ref p1), some (.ref p2), some (.ref p3), some (.int 0), none] [] I L P
set_option maxRecDepth 20000 in
theorem g_X4_markKnown {d : Nat} {Q : zQt} {p1 : Nat} {p2 : Nat} {p3 : Nat} {I : zI} {L : zL} {P : zP} (hP : zPk P) (hv : v_X4_markKnown d Q p1 p2 p3 I L P) : zM zm_X4_markKnown d 0 0 [.ref 23, .ref p1, .ref p2, .ref p3] I L P 205 Q := by
  unfold v_X4_markKnown at hv
  refine zM_of (lv0 := [some (.ref 23), some (.ref p1), some (.ref p2), some (.ref p3), none, none]) (by decide +kernel) (Nat.le_of_ble_eq_true rfl) rfl ?_
  refine z_iconst (v := 0) dX4_markKnown_0 (by decide) ?_
  refine z_istore (lv2 := [some (.ref 23), some (.ref p1), some (.ref p2), some (.ref p3), some (.int 0), none]) dX4_markKnown_1 (by decide) rfl rfl ?_
  exact hv
abbrev gw_X4_knowsOne (d : Nat) (Q : zQt) (pc : Nat) (lv : zV) (st : List Value) (I : zI) (L : zL) (P : zP) : Prop := zW zm_X4_knowsOne (zRm d 0 0) 0 0 Q pc lv st I L P 205 0 0
def v_X4_knowsOne_21 (d : Nat) (Q : zQt) (p1 : Nat) (p3 : Nat) (x4 : Nat) (x5 : Int32) (I : zI) (L : zL) (P : zP) : Prop :=
  (p1 < 205 ∧ (zsh p1).1 = 5) ∧
  (((I p1 3) ≤ x5 →
    Q none I L P 205
  ) ∧ (¬ (I p1 3) ≤ x5 →
    ∃ b16 : Nat, P p1 2 = some b16 ∧
    ∃ n19, (b16 < 205 ∧ zsh b16 = (100, n19)) ∧
    vp_in x5 n19 ∧
    ∃ n22, (x4 < 205 ∧ zsh x4 = (100, n22)) ∧
    vp_in (I b16 x5.toNatClampNeg) n22 ∧
    vp_in (I x4 (I b16 x5.toNatClampNeg).toNatClampNeg) 256 ∧
    ∃ n26, (p3 < 205 ∧ zsh p3 = (100, n26)) ∧
    vp_in (I b16 x5.toNatClampNeg) n26 ∧
    ∀ I29 : zI, I29 = zuI I p3 (I b16 x5.toNatClampNeg).toNatClampNeg (I 70 (I x4 (I b16 x5.toNatClampNeg).toNatClampNeg).toNatClampNeg) →
    gw_X4_knowsOne (d + 1) Q 21 [some (.ref 23), some (.ref p1), none, some (.ref p3), some (.ref x4), some (.int (x5 + 1)), none] [] I29 L P
  ))
set_option maxRecDepth 20000 in
theorem g_X4_knowsOne_21 {d : Nat} {Q : zQt} {p1 : Nat} {p3 : Nat} {x4 : Nat} {x5 : Int32} {I : zI} {L : zL} {P : zP} (hP : zPk P) (hv : v_X4_knowsOne_21 d Q p1 p3 x4 x5 I L P) : gw_X4_knowsOne (d + 1) Q 21 [some (.ref 23), some (.ref p1), none, some (.ref p3), some (.ref x4), some (.int x5), none] [] I L P := by
  unfold v_X4_knowsOne_21 at hv
  refine z_iload dX4_knowsOne_21 rfl ?_
  refine z_aload_n dX4_knowsOne_23 rfl ?_
  obtain ⟨h15, hv⟩ := hv
  refine z_getI dX4_knowsOne_24 zf_X4_95 h15.1 h15.2 (fun _ _ _ _ _ => rfl) ?_
  refine z_icmp_ge (tgt := 59) dX4_knowsOne_27 (by decide) (fun q30 => ?_) (fun q30 => ?_)
  · have hv := hv.1 q30
    exact z_return dX4_knowsOne_59 rfl (Nat.le_refl _) (Nat.le_refl _) hv
  · have hv := hv.2 q30
    refine z_aload_n dX4_knowsOne_30 rfl ?_
    obtain ⟨b16, h17, hv⟩ := hv
    refine z_getP dX4_knowsOne_31 zf_X4_98 h15.1 h15.2 (fun _ _ _ _ _ => rfl) h17 ?_
    refine z_iload dX4_knowsOne_34 rfl ?_
    obtain ⟨n19, h18, hv⟩ := hv
    obtain ⟨h20, hv⟩ := hv
    refine z_iaload dX4_knowsOne_36 h18.1 h18.2 h20 ?_
    refine z_istore (lv2 := [some (.ref 23), some (.ref p1), none, some (.ref p3), some (.ref x4), some (.int x5), some (.int (I b16 x5.toNatClampNeg))]) dX4_knowsOne_37 (by decide) rfl rfl ?_
    refine z_aload_n dX4_knowsOne_39 rfl ?_
    refine z_iload dX4_knowsOne_40 rfl ?_
    refine z_aload_n dX4_knowsOne_42 rfl ?_
    refine z_getP dX4_knowsOne_43 zf_X4_22 zn_23 zo_23 (fun _ _ _ _ _ => rfl) (hP 23 2 70 zp_23_2) ?_
    refine z_aload dX4_knowsOne_46 rfl ?_
    refine z_iload dX4_knowsOne_48 rfl ?_
    obtain ⟨n22, h21, hv⟩ := hv
    obtain ⟨h23, hv⟩ := hv
    refine z_iaload dX4_knowsOne_50 h21.1 h21.2 h23 ?_
    obtain ⟨h24, hv⟩ := hv
    refine z_iaload dX4_knowsOne_51 zn_70 zh_70 h24 ?_
    obtain ⟨n26, h25, hv⟩ := hv
    obtain ⟨h27, hv⟩ := hv
    refine z_iastore dX4_knowsOne_52 h25.1 h25.2 h27 (z_nmI (fun I29 e28 => ?_))
    have hv := hv I29 e28
    refine z_iinc (v2 := x5 + 1) (lv2 := [some (.ref 23), some (.ref p1), none, some (.ref p3), some (.ref x4), some (.int (x5 + 1)), some (.int (I b16 x5.toNatClampNeg))]) dX4_knowsOne_53 rfl (by rfl) (by decide) rfl rfl ?_
    refine z_goto (tgt := 21) dX4_knowsOne_56 (by decide) ?_
    exact z_sub (by exact ⟨rfl, ⟨rfl, ⟨rfl, ⟨rfl, ⟨rfl, trivial⟩⟩⟩⟩⟩) hv
def v_X4_knowsOne (d : Nat) (Q : zQt) (p1 : Nat) (p2 : Int32) (p3 : Nat) (I : zI) (L : zL) (P : zP) : Prop :=
  (p1 < 205 ∧ (zsh p1).1 = 5) ∧
  ∃ b2 : Nat, P p1 0 = some b2 ∧
  (b2 < 205 ∧ (zsh b2).1 = 9) ∧
  zMr zm_X10_of d [.ref b2, .int p2] I L P (fun r9 I5 L6 P7 =>
    zMv zm_X4_markKnown d [.ref 23, .ref p1, .ref r9, .ref p3] I5 L6 P7 (fun I10 L11 P12 =>
      gw_X4_knowsOne (d + 1) Q 21 [some (.ref 23), some (.ref p1), none, some (.ref p3), some (.ref r9), some (.int 0), none] [] I10 L11 P12
    )
  )
set_option maxRecDepth 20000 in
theorem g_X4_knowsOne {d : Nat} {Q : zQt} {p1 : Nat} {p2 : Int32} {p3 : Nat} {I : zI} {L : zL} {P : zP} (hP : zPk P) (hv : v_X4_knowsOne d Q p1 p2 p3 I L P) : zM zm_X4_knowsOne (d + 1) 0 0 [.ref 23, .ref p1, .int p2, .ref p3] I L P 205 Q := by
  unfold v_X4_knowsOne at hv
  refine zM_of (lv0 := [some (.ref 23), some (.ref p1), some (.int p2), some (.ref p3), none, none, none]) (by decide +kernel) (Nat.le_of_ble_eq_true rfl) rfl ?_
  refine z_aload_n dX4_knowsOne_0 rfl ?_
  obtain ⟨h1, hv⟩ := hv
  obtain ⟨b2, h3, hv⟩ := hv
  refine z_getP dX4_knowsOne_1 zf_X4_117 h1.1 h1.2 (fun _ _ _ _ _ => rfl) h3 ?_
  refine z_iload_n dX4_knowsOne_4 rfl ?_
  obtain ⟨h4, hv⟩ := hv
  refine z_callV (As := [.int p2]) (st := []) dX4_knowsOne_5 zl_X4_121 zv_X10_of (by decide) rfl h4.1 h4.2 rfl rfl (Nat.le_of_ble_eq_true rfl) ⟨Nat.le_refl _, Nat.le_refl _⟩ ⟨Nat.le_refl _, Nat.le_refl _⟩ hv (fun v1 I5 L6 P7 nx1 q8 => ?_)
  obtain ⟨rfl, r9, rfl, hv⟩ := q8
  refine z_astore (lv2 := [some (.ref 23), some (.ref p1), some (.int p2), some (.ref p3), some (.ref r9), none, none]) dX4_knowsOne_8 (by decide) rfl rfl ?_
  refine z_aload_n dX4_knowsOne_10 rfl ?_
  refine z_aload_n dX4_knowsOne_11 rfl ?_
  refine z_aload dX4_knowsOne_12 rfl ?_
  refine z_aload_n dX4_knowsOne_14 rfl ?_
  refine z_callV (As := [.ref p1, .ref r9, .ref p3]) (st := []) dX4_knowsOne_15 zl_X4_127 zv_X4_markKnown (by decide) rfl zn_23 zo_23 rfl rfl (Nat.le_of_ble_eq_true rfl) ⟨Nat.le_refl _, Nat.le_refl _⟩ ⟨Nat.le_refl _, Nat.le_refl _⟩ hv (fun v1 I10 L11 P12 nx1 q13 => ?_)
  obtain ⟨rfl, rfl, hv⟩ := q13
  refine z_iconst (v := 0) dX4_knowsOne_18 (by decide) ?_
  refine z_istore (lv2 := [some (.ref 23), some (.ref p1), some (.int p2), some (.ref p3), some (.ref r9), some (.int 0), none]) dX4_knowsOne_19 (by decide) rfl rfl ?_
  exact z_sub (by exact ⟨rfl, ⟨rfl, ⟨rfl, ⟨rfl, ⟨rfl, trivial⟩⟩⟩⟩⟩) hv
abbrev gw_X4_knowAll (d : Nat) (Q : zQt) (pc : Nat) (lv : zV) (st : List Value) (I : zI) (L : zL) (P : zP) : Prop := zW zm_X4_knowAll (zRm d 0 0) 0 0 Q pc lv st I L P 205 0 0
def v_X4_knowAll_42 (d : Nat) (Q : zQt) (p1 : Nat) (p2 : Nat) (x3 : Int32) (x4 : Nat) (x5 : Int32) (I : zI) (L : zL) (P : zP) : Prop :=
  (p1 < 205 ∧ (zsh p1).1 = 5) ∧
  (((I p1 3) ≤ x5 →
    gw_X4_knowAll (d + 1) Q 10 [some (.ref 23), some (.ref p1), some (.ref p2), some (.int (x3 + 1)), none, none, none] [] I L P
  ) ∧ (¬ (I p1 3) ≤ x5 →
    ∃ b30 : Nat, P p1 2 = some b30 ∧
    ∃ n33, (b30 < 205 ∧ zsh b30 = (100, n33)) ∧
    vp_in x5 n33 ∧
    vp_in (I b30 x5.toNatClampNeg) 256 ∧
    ∃ n37, (x4 < 205 ∧ zsh x4 = (100, n37)) ∧
    vp_in (I b30 x5.toNatClampNeg) n37 ∧
    vp_in (I x4 (I b30 x5.toNatClampNeg).toNatClampNeg) 256 ∧
    ∀ I41 : zI, I41 = zuI I 69 (I b30 x5.toNatClampNeg).toNatClampNeg ((I 69 (I b30 x5.toNatClampNeg).toNatClampNeg) &&& (I 70 (I x4 (I b30 x5.toNatClampNeg).toNatClampNeg).toNatClampNeg) : Int32) →
    gw_X4_knowAll (d + 1) Q 42 [some (.ref 23), some (.ref p1), some (.ref p2), some (.int x3), some (.ref x4), some (.int (x5 + 1)), none] [] I41 L P
  ))
set_option maxRecDepth 20000 in
theorem g_X4_knowAll_42 {d : Nat} {Q : zQt} {p1 : Nat} {p2 : Nat} {x3 : Int32} {x4 : Nat} {x5 : Int32} {I : zI} {L : zL} {P : zP} (hP : zPk P) (hv : v_X4_knowAll_42 d Q p1 p2 x3 x4 x5 I L P) : gw_X4_knowAll (d + 1) Q 42 [some (.ref 23), some (.ref p1), some (.ref p2), some (.int x3), some (.ref x4), some (.int x5), none] [] I L P := by
  unfold v_X4_knowAll_42 at hv
  refine z_iload dX4_knowAll_42 rfl ?_
  refine z_aload_n dX4_knowAll_44 rfl ?_
  obtain ⟨h29, hv⟩ := hv
  refine z_getI dX4_knowAll_45 zf_X4_95 h29.1 h29.2 (fun _ _ _ _ _ => rfl) ?_
  refine z_icmp_ge (tgt := 86) dX4_knowAll_48 (by decide) (fun q42 => ?_) (fun q42 => ?_)
  · have hv := hv.1 q42
    refine z_iinc (v2 := x3 + 1) (lv2 := [some (.ref 23), some (.ref p1), some (.ref p2), some (.int (x3 + 1)), some (.ref x4), some (.int x5), none]) dX4_knowAll_86 rfl (by rfl) (by decide) rfl rfl ?_
    refine z_goto (tgt := 10) dX4_knowAll_89 (by decide) ?_
    exact z_sub (by exact ⟨rfl, ⟨rfl, ⟨rfl, ⟨rfl, trivial⟩⟩⟩⟩) hv
  · have hv := hv.2 q42
    refine z_aload_n dX4_knowAll_51 rfl ?_
    obtain ⟨b30, h31, hv⟩ := hv
    refine z_getP dX4_knowAll_52 zf_X4_98 h29.1 h29.2 (fun _ _ _ _ _ => rfl) h31 ?_
    refine z_iload dX4_knowAll_55 rfl ?_
    obtain ⟨n33, h32, hv⟩ := hv
    obtain ⟨h34, hv⟩ := hv
    refine z_iaload dX4_knowAll_57 h32.1 h32.2 h34 ?_
    refine z_istore (lv2 := [some (.ref 23), some (.ref p1), some (.ref p2), some (.int x3), some (.ref x4), some (.int x5), some (.int (I b30 x5.toNatClampNeg))]) dX4_knowAll_58 (by decide) rfl rfl ?_
    refine z_aload_n dX4_knowAll_60 rfl ?_
    refine z_getP dX4_knowAll_61 zf_X4_18 zn_23 zo_23 (fun _ _ _ _ _ => rfl) (hP 23 1 69 zp_23_1) ?_
    refine z_iload dX4_knowAll_64 rfl ?_
    refine z_dup2 dX4_knowAll_66 rfl rfl ?_
    obtain ⟨h35, hv⟩ := hv
    refine z_iaload dX4_knowAll_67 zn_69 zh_69 h35 ?_
    refine z_aload_n dX4_knowAll_68 rfl ?_
    refine z_getP dX4_knowAll_69 zf_X4_22 zn_23 zo_23 (fun _ _ _ _ _ => rfl) (hP 23 2 70 zp_23_2) ?_
    refine z_aload dX4_knowAll_72 rfl ?_
    refine z_iload dX4_knowAll_74 rfl ?_
    obtain ⟨n37, h36, hv⟩ := hv
    obtain ⟨h38, hv⟩ := hv
    refine z_iaload dX4_knowAll_76 h36.1 h36.2 h38 ?_
    obtain ⟨h39, hv⟩ := hv
    refine z_iaload dX4_knowAll_77 zn_70 zh_70 h39 ?_
    refine z_iand dX4_knowAll_78 ?_
    refine z_iastore dX4_knowAll_79 zn_69 zh_69 h35 (z_nmI (fun I41 e40 => ?_))
    have hv := hv I41 e40
    refine z_iinc (v2 := x5 + 1) (lv2 := [some (.ref 23), some (.ref p1), some (.ref p2), some (.int x3), some (.ref x4), some (.int (x5 + 1)), some (.int (I b30 x5.toNatClampNeg))]) dX4_knowAll_80 rfl (by rfl) (by decide) rfl rfl ?_
    refine z_goto (tgt := 42) dX4_knowAll_83 (by decide) ?_
    exact z_sub (by exact ⟨rfl, ⟨rfl, ⟨rfl, ⟨rfl, ⟨rfl, ⟨rfl, trivial⟩⟩⟩⟩⟩⟩) hv
def v_X4_knowAll_10 (d : Nat) (Q : zQt) (p1 : Nat) (p2 : Nat) (x3 : Int32) (I : zI) (L : zL) (P : zP) : Prop :=
  (p1 < 205 ∧ (zsh p1).1 = 5) ∧
  ∃ b7 : Nat, P p1 1 = some b7 ∧
  (b7 < 205 ∧ (zsh b7).1 = 2) ∧
  (((I b7 0) ≤ x3 →
    ∃ n11, (p2 < 205 ∧ zsh p2 = (100, n11)) ∧
    (¬ (0 : Int32) < 0 ∧ ¬ (0 : Int32) < 0 ∧ ¬ (256 : Int32) < 0 ∧ (0 : Int32).toNatClampNeg + (256 : Int32).toNatClampNeg ≤ 256 ∧ (0 : Int32).toNatClampNeg + (256 : Int32).toNatClampNeg ≤ n11) ∧
    ∀ I13 : zI, I13 = zaI I p2 (va_cpy (I 69) (I p2) (0 : Int32).toNatClampNeg (0 : Int32).toNatClampNeg (256 : Int32).toNatClampNeg) →
    Q none I13 L P 205
  ) ∧ (¬ (I b7 0) ≤ x3 →
    ∃ b15 : Nat, P p1 0 = some b15 ∧
    (b15 < 205 ∧ (zsh b15).1 = 9) ∧
    zMr zm_X10_of d [.ref b15, .int x3] I L P (fun r22 I18 L19 P20 =>
      zMv zm_X4_markKnown d [.ref 23, .ref p1, .ref r22, .ref p2] I18 L19 P20 (fun I23 L24 P25 =>
        gw_X4_knowAll (d + 1) Q 42 [some (.ref 23), some (.ref p1), some (.ref p2), some (.int x3), some (.ref r22), some (.int 0), none] [] I23 L24 P25
      )
    )
  ))
set_option maxRecDepth 20000 in
theorem g_X4_knowAll_10 {d : Nat} {Q : zQt} {p1 : Nat} {p2 : Nat} {x3 : Int32} {I : zI} {L : zL} {P : zP} (hP : zPk P) (hv : v_X4_knowAll_10 d Q p1 p2 x3 I L P) : gw_X4_knowAll (d + 1) Q 10 [some (.ref 23), some (.ref p1), some (.ref p2), some (.int x3), none, none, none] [] I L P := by
  unfold v_X4_knowAll_10 at hv
  refine z_iload_n dX4_knowAll_10 rfl ?_
  refine z_aload_n dX4_knowAll_11 rfl ?_
  obtain ⟨h6, hv⟩ := hv
  obtain ⟨b7, h8, hv⟩ := hv
  refine z_getP dX4_knowAll_12 zf_X4_35 h6.1 h6.2 (fun _ _ _ _ _ => rfl) h8 ?_
  obtain ⟨h9, hv⟩ := hv
  refine z_getI dX4_knowAll_15 zf_X4_137 h9.1 h9.2 (fun _ _ _ _ _ => rfl) ?_
  refine z_icmp_ge (tgt := 92) dX4_knowAll_18 (by decide) (fun q28 => ?_) (fun q28 => ?_)
  · have hv := hv.1 q28
    refine z_aload_n dX4_knowAll_92 rfl ?_
    refine z_getP dX4_knowAll_93 zf_X4_18 zn_23 zo_23 (fun _ _ _ _ _ => rfl) (hP 23 1 69 zp_23_1) ?_
    refine z_iconst (v := 0) dX4_knowAll_96 (by decide) ?_
    refine z_aload_n dX4_knowAll_97 rfl ?_
    refine z_iconst (v := 0) dX4_knowAll_98 (by decide) ?_
    refine z_sipush (v := 256) dX4_knowAll_99 (by decide) ?_
    obtain ⟨n11, h10, hv⟩ := hv
    obtain ⟨h12, hv⟩ := hv
    refine z_copyI dX4_knowAll_102 zl_X4_140 rfl zn_69 h10.1 zh_69 h10.2 h12.1 h12.2.1 h12.2.2.1 h12.2.2.2.1 h12.2.2.2.2 (Nat.le_of_ble_eq_true rfl) ⟨Nat.le_add_left _ _, zr64 _⟩ (z_nmI (fun I13 e14 => ?_))
    have hv := hv I13 e14
    exact z_return dX4_knowAll_105 rfl (Nat.le_refl _) (Nat.le_refl _) hv
  · have hv := hv.2 q28
    refine z_aload_n dX4_knowAll_21 rfl ?_
    obtain ⟨b15, h16, hv⟩ := hv
    refine z_getP dX4_knowAll_22 zf_X4_117 h6.1 h6.2 (fun _ _ _ _ _ => rfl) h16 ?_
    refine z_iload_n dX4_knowAll_25 rfl ?_
    obtain ⟨h17, hv⟩ := hv
    refine z_callV (As := [.int x3]) (st := []) dX4_knowAll_26 zl_X4_121 zv_X10_of (by decide) rfl h17.1 h17.2 rfl rfl (Nat.le_of_ble_eq_true rfl) ⟨Nat.le_refl _, Nat.le_refl _⟩ ⟨Nat.le_refl _, Nat.le_refl _⟩ hv (fun v1 I18 L19 P20 nx1 q21 => ?_)
    obtain ⟨rfl, r22, rfl, hv⟩ := q21
    refine z_astore (lv2 := [some (.ref 23), some (.ref p1), some (.ref p2), some (.int x3), some (.ref r22), none, none]) dX4_knowAll_29 (by decide) rfl rfl ?_
    refine z_aload_n dX4_knowAll_31 rfl ?_
    refine z_aload_n dX4_knowAll_32 rfl ?_
    refine z_aload dX4_knowAll_33 rfl ?_
    refine z_aload_n dX4_knowAll_35 rfl ?_
    refine z_callV (As := [.ref p1, .ref r22, .ref p2]) (st := []) dX4_knowAll_36 zl_X4_127 zv_X4_markKnown (by decide) rfl zn_23 zo_23 rfl rfl (Nat.le_of_ble_eq_true rfl) ⟨Nat.le_refl _, Nat.le_refl _⟩ ⟨Nat.le_refl _, Nat.le_refl _⟩ hv (fun v1 I23 L24 P25 nx1 q26 => ?_)
    obtain ⟨rfl, rfl, hv⟩ := q26
    refine z_iconst (v := 0) dX4_knowAll_39 (by decide) ?_
    refine z_istore (lv2 := [some (.ref 23), some (.ref p1), some (.ref p2), some (.int x3), some (.ref r22), some (.int 0), none]) dX4_knowAll_40 (by decide) rfl rfl ?_
    exact hv
def v_X4_knowAll (d : Nat) (Q : zQt) (p1 : Nat) (p2 : Nat) (I : zI) (L : zL) (P : zP) : Prop :=
  zMv zm_J7_fill_53178 d [.ref 69, .int 1] I L P (fun I1 L2 P3 =>
    gw_X4_knowAll (d + 1) Q 10 [some (.ref 23), some (.ref p1), some (.ref p2), some (.int 0), none, none, none] [] I1 L2 P3
  )
set_option maxRecDepth 20000 in
theorem g_X4_knowAll {d : Nat} {Q : zQt} {p1 : Nat} {p2 : Nat} {I : zI} {L : zL} {P : zP} (hP : zPk P) (hv : v_X4_knowAll d Q p1 p2 I L P) : zM zm_X4_knowAll (d + 1) 0 0 [.ref 23, .ref p1, .ref p2] I L P 205 Q := by
  unfold v_X4_knowAll at hv
  refine zM_of (lv0 := [some (.ref 23), some (.ref p1), some (.ref p2), none, none, none, none]) (by decide +kernel) (Nat.le_of_ble_eq_true rfl) rfl ?_
  refine z_aload_n dX4_knowAll_0 rfl ?_
  refine z_getP dX4_knowAll_1 zf_X4_18 zn_23 zo_23 (fun _ _ _ _ _ => rfl) (hP 23 1 69 zp_23_1) ?_
  refine z_iconst (v := 1) dX4_knowAll_4 (by decide) ?_
  refine z_callS (As := [.ref 69, .int 1]) (st := []) dX4_knowAll_5 zl_X4_131 zs_J7_fill_53178 rfl rfl (Nat.le_of_ble_eq_true rfl) ⟨Nat.le_refl _, Nat.le_refl _⟩ ⟨Nat.le_refl _, Nat.le_refl _⟩ hv (fun v1 I1 L2 P3 nx1 q4 => ?_)
  obtain ⟨rfl, rfl, hv⟩ := q4
  refine z_iconst (v := 0) dX4_knowAll_8 (by decide) ?_
  refine z_istore_n (lv2 := [some (.ref 23), some (.ref p1), some (.ref p2), some (.int 0), none, none, none]) dX4_knowAll_9 (by decide) rfl rfl ?_
  exact hv
abbrev gw_X4_knowInCommon (d : Nat) (Q : zQt) (pc : Nat) (lv : zV) (st : List Value) (I : zI) (L : zL) (P : zP) : Prop := zW zm_X4_knowInCommon (zRm d 0 0) 0 0 Q pc lv st I L P 205 0 0
def v_X4_knowInCommon_58 (d : Nat) (Q : zQt) (p1 : Nat) (p2 : Nat) (x3 : Int32) (I : zI) (L : zL) (P : zP) : Prop :=
  (p1 < 205 ∧ (zsh p1).1 = 5) ∧
  (((I p1 3) ≤ x3 →
    Q none I L P 205
  ) ∧ (¬ (I p1 3) ≤ x3 →
    ∃ b32 : Nat, P p1 2 = some b32 ∧
    ∃ n35, (b32 < 205 ∧ zsh b32 = (100, n35)) ∧
    vp_in x3 n35 ∧
    zMi zm_X4_rootOf d [.ref 23, .int (I b32 x3.toNatClampNeg)] I L P (fun r41 I37 L38 P39 =>
      vp_in r41 256 ∧
      ∃ n44, (p2 < 205 ∧ zsh p2 = (100, n44)) ∧
      vp_in (I b32 x3.toNatClampNeg) n44 ∧
      ∀ I47 : zI, I47 = zuI I37 p2 (I b32 x3.toNatClampNeg).toNatClampNeg (I37 69 r41.toNatClampNeg) →
      gw_X4_knowInCommon (d + 1) Q 58 [some (.ref 23), some (.ref p1), some (.ref p2), some (.int (x3 + 1)), none] [] I47 L38 P39
    )
  ))
set_option maxRecDepth 20000 in
theorem g_X4_knowInCommon_58 {d : Nat} {Q : zQt} {p1 : Nat} {p2 : Nat} {x3 : Int32} {I : zI} {L : zL} {P : zP} (hP : zPk P) (hv : v_X4_knowInCommon_58 d Q p1 p2 x3 I L P) : gw_X4_knowInCommon (d + 1) Q 58 [some (.ref 23), some (.ref p1), some (.ref p2), some (.int x3), none] [] I L P := by
  unfold v_X4_knowInCommon_58 at hv
  refine z_iload_n dX4_knowInCommon_58 rfl ?_
  refine z_aload_n dX4_knowInCommon_59 rfl ?_
  obtain ⟨h31, hv⟩ := hv
  refine z_getI dX4_knowInCommon_60 zf_X4_95 h31.1 h31.2 (fun _ _ _ _ _ => rfl) ?_
  refine z_icmp_ge (tgt := 95) dX4_knowInCommon_63 (by decide) (fun q48 => ?_) (fun q48 => ?_)
  · have hv := hv.1 q48
    exact z_return dX4_knowInCommon_95 rfl (Nat.le_refl _) (Nat.le_refl _) hv
  · have hv := hv.2 q48
    refine z_aload_n dX4_knowInCommon_66 rfl ?_
    obtain ⟨b32, h33, hv⟩ := hv
    refine z_getP dX4_knowInCommon_67 zf_X4_98 h31.1 h31.2 (fun _ _ _ _ _ => rfl) h33 ?_
    refine z_iload_n dX4_knowInCommon_70 rfl ?_
    obtain ⟨n35, h34, hv⟩ := hv
    obtain ⟨h36, hv⟩ := hv
    refine z_iaload dX4_knowInCommon_71 h34.1 h34.2 h36 ?_
    refine z_istore (lv2 := [some (.ref 23), some (.ref p1), some (.ref p2), some (.int x3), some (.int (I b32 x3.toNatClampNeg))]) dX4_knowInCommon_72 (by decide) rfl rfl ?_
    refine z_aload_n dX4_knowInCommon_74 rfl ?_
    refine z_iload dX4_knowInCommon_75 rfl ?_
    refine z_aload_n dX4_knowInCommon_77 rfl ?_
    refine z_getP dX4_knowInCommon_78 zf_X4_18 zn_23 zo_23 (fun _ _ _ _ _ => rfl) (hP 23 1 69 zp_23_1) ?_
    refine z_aload_n dX4_knowInCommon_81 rfl ?_
    refine z_iload dX4_knowInCommon_82 rfl ?_
    refine z_callV (As := [.int (I b32 x3.toNatClampNeg)]) (st := [.ref 69, .int (I b32 x3.toNatClampNeg), .ref p2]) dX4_knowInCommon_84 zl_X4_150 zv_X4_rootOf (by decide) rfl zn_23 zo_23 rfl rfl (Nat.le_of_ble_eq_true rfl) ⟨Nat.le_refl _, Nat.le_refl _⟩ ⟨Nat.le_refl _, Nat.le_refl _⟩ hv (fun v1 I37 L38 P39 nx1 q40 => ?_)
    obtain ⟨rfl, r41, rfl, hv⟩ := q40
    obtain ⟨h42, hv⟩ := hv
    refine z_iaload dX4_knowInCommon_87 zn_69 zh_69 h42 ?_
    obtain ⟨n44, h43, hv⟩ := hv
    obtain ⟨h45, hv⟩ := hv
    refine z_iastore dX4_knowInCommon_88 h43.1 h43.2 h45 (z_nmI (fun I47 e46 => ?_))
    have hv := hv I47 e46
    refine z_iinc (v2 := x3 + 1) (lv2 := [some (.ref 23), some (.ref p1), some (.ref p2), some (.int (x3 + 1)), some (.int (I b32 x3.toNatClampNeg))]) dX4_knowInCommon_89 rfl (by rfl) (by decide) rfl rfl ?_
    refine z_goto (tgt := 58) dX4_knowInCommon_92 (by decide) ?_
    exact z_sub (by exact ⟨rfl, ⟨rfl, ⟨rfl, ⟨rfl, trivial⟩⟩⟩⟩) hv
def v_X4_knowInCommon_15 (d : Nat) (Q : zQt) (p1 : Nat) (p2 : Nat) (x3 : Int32) (I : zI) (L : zL) (P : zP) : Prop :=
  (p1 < 205 ∧ (zsh p1).1 = 5) ∧
  (((I p1 3) ≤ x3 →
    gw_X4_knowInCommon (d + 1) Q 58 [some (.ref 23), some (.ref p1), some (.ref p2), some (.int 0), none] [] I L P
  ) ∧ (¬ (I p1 3) ≤ x3 →
    ∃ b13 : Nat, P p1 2 = some b13 ∧
    ∃ n16, (b13 < 205 ∧ zsh b13 = (100, n16)) ∧
    vp_in x3 n16 ∧
    ∃ n19, (p2 < 205 ∧ zsh p2 = (100, n19)) ∧
    vp_in (I b13 x3.toNatClampNeg) n19 ∧
    ((¬ (I p2 (I b13 x3.toNatClampNeg).toNatClampNeg) = 0 →
      gw_X4_knowInCommon (d + 1) Q 15 [some (.ref 23), some (.ref p1), some (.ref p2), some (.int (x3 + 1)), none] [] I L P
    ) ∧ ((I p2 (I b13 x3.toNatClampNeg).toNatClampNeg) = 0 →
      zMi zm_X4_rootOf d [.ref 23, .int (I b13 x3.toNatClampNeg)] I L P (fun r25 I21 L22 P23 =>
        vp_in r25 256 ∧
        ∀ I28 : zI, I28 = zuI I21 69 r25.toNatClampNeg 0 →
        gw_X4_knowInCommon (d + 1) Q 15 [some (.ref 23), some (.ref p1), some (.ref p2), some (.int (x3 + 1)), none] [] I28 L22 P23
      )
    ))
  ))
set_option maxRecDepth 20000 in
theorem g_X4_knowInCommon_15 {d : Nat} {Q : zQt} {p1 : Nat} {p2 : Nat} {x3 : Int32} {I : zI} {L : zL} {P : zP} (hP : zPk P) (hv : v_X4_knowInCommon_15 d Q p1 p2 x3 I L P) : gw_X4_knowInCommon (d + 1) Q 15 [some (.ref 23), some (.ref p1), some (.ref p2), some (.int x3), none] [] I L P := by
  unfold v_X4_knowInCommon_15 at hv
  refine z_iload_n dX4_knowInCommon_15 rfl ?_
  refine z_aload_n dX4_knowInCommon_16 rfl ?_
  obtain ⟨h12, hv⟩ := hv
  refine z_getI dX4_knowInCommon_17 zf_X4_95 h12.1 h12.2 (fun _ _ _ _ _ => rfl) ?_
  refine z_icmp_ge (tgt := 56) dX4_knowInCommon_20 (by decide) (fun q30 => ?_) (fun q30 => ?_)
  · have hv := hv.1 q30
    refine z_iconst (v := 0) dX4_knowInCommon_56 (by decide) ?_
    refine z_istore_n (lv2 := [some (.ref 23), some (.ref p1), some (.ref p2), some (.int 0), none]) dX4_knowInCommon_57 (by decide) rfl rfl ?_
    exact hv
  · have hv := hv.2 q30
    refine z_aload_n dX4_knowInCommon_23 rfl ?_
    obtain ⟨b13, h14, hv⟩ := hv
    refine z_getP dX4_knowInCommon_24 zf_X4_98 h12.1 h12.2 (fun _ _ _ _ _ => rfl) h14 ?_
    refine z_iload_n dX4_knowInCommon_27 rfl ?_
    obtain ⟨n16, h15, hv⟩ := hv
    obtain ⟨h17, hv⟩ := hv
    refine z_iaload dX4_knowInCommon_28 h15.1 h15.2 h17 ?_
    refine z_istore (lv2 := [some (.ref 23), some (.ref p1), some (.ref p2), some (.int x3), some (.int (I b13 x3.toNatClampNeg))]) dX4_knowInCommon_29 (by decide) rfl rfl ?_
    refine z_aload_n dX4_knowInCommon_31 rfl ?_
    refine z_iload dX4_knowInCommon_32 rfl ?_
    obtain ⟨n19, h18, hv⟩ := hv
    obtain ⟨h20, hv⟩ := hv
    refine z_iaload dX4_knowInCommon_34 h18.1 h18.2 h20 ?_
    refine z_if_ne (tgt := 50) dX4_knowInCommon_35 (by decide) (fun q29 => ?_) (fun q29 => ?_)
    · have hv := hv.1 q29
      refine z_iinc (v2 := x3 + 1) (lv2 := [some (.ref 23), some (.ref p1), some (.ref p2), some (.int (x3 + 1)), some (.int (I b13 x3.toNatClampNeg))]) dX4_knowInCommon_50 rfl (by rfl) (by decide) rfl rfl ?_
      refine z_goto (tgt := 15) dX4_knowInCommon_53 (by decide) ?_
      exact z_sub (by exact ⟨rfl, ⟨rfl, ⟨rfl, ⟨rfl, trivial⟩⟩⟩⟩) hv
    · have hv := hv.2 q29
      refine z_aload_n dX4_knowInCommon_38 rfl ?_
      refine z_getP dX4_knowInCommon_39 zf_X4_18 zn_23 zo_23 (fun _ _ _ _ _ => rfl) (hP 23 1 69 zp_23_1) ?_
      refine z_aload_n dX4_knowInCommon_42 rfl ?_
      refine z_iload dX4_knowInCommon_43 rfl ?_
      refine z_callV (As := [.int (I b13 x3.toNatClampNeg)]) (st := [.ref 69]) dX4_knowInCommon_45 zl_X4_150 zv_X4_rootOf (by decide) rfl zn_23 zo_23 rfl rfl (Nat.le_of_ble_eq_true rfl) ⟨Nat.le_refl _, Nat.le_refl _⟩ ⟨Nat.le_refl _, Nat.le_refl _⟩ hv (fun v1 I21 L22 P23 nx1 q24 => ?_)
      obtain ⟨rfl, r25, rfl, hv⟩ := q24
      refine z_iconst (v := 0) dX4_knowInCommon_48 (by decide) ?_
      obtain ⟨h26, hv⟩ := hv
      refine z_iastore dX4_knowInCommon_49 zn_69 zh_69 h26 (z_nmI (fun I28 e27 => ?_))
      have hv := hv I28 e27
      refine z_iinc (v2 := x3 + 1) (lv2 := [some (.ref 23), some (.ref p1), some (.ref p2), some (.int (x3 + 1)), some (.int (I b13 x3.toNatClampNeg))]) dX4_knowInCommon_50 rfl (by rfl) (by decide) rfl rfl ?_
      refine z_goto (tgt := 15) dX4_knowInCommon_53 (by decide) ?_
      exact z_sub (by exact ⟨rfl, ⟨rfl, ⟨rfl, ⟨rfl, trivial⟩⟩⟩⟩) hv
def v_X4_knowInCommon (d : Nat) (Q : zQt) (p1 : Nat) (p2 : Nat) (I : zI) (L : zL) (P : zP) : Prop :=
  zMv zm_X4_linkGroups d [.ref 23, .ref p1] I L P (fun I1 L2 P3 =>
    zPk P3 ∧
    zMv zm_J7_fill_53178 d [.ref 69, .int 1] I1 L2 P3 (fun I7 L8 P9 =>
      gw_X4_knowInCommon (d + 1) Q 15 [some (.ref 23), some (.ref p1), some (.ref p2), some (.int 0), none] [] I7 L8 P9
    )
  )
set_option maxRecDepth 20000 in
theorem g_X4_knowInCommon {d : Nat} {Q : zQt} {p1 : Nat} {p2 : Nat} {I : zI} {L : zL} {P : zP} (hP : zPk P) (hv : v_X4_knowInCommon d Q p1 p2 I L P) : zM zm_X4_knowInCommon (d + 1) 0 0 [.ref 23, .ref p1, .ref p2] I L P 205 Q := by
  unfold v_X4_knowInCommon at hv
  refine zM_of (lv0 := [some (.ref 23), some (.ref p1), some (.ref p2), none, none]) (by decide +kernel) (Nat.le_of_ble_eq_true rfl) rfl ?_
  refine z_aload_n dX4_knowInCommon_0 rfl ?_
  refine z_aload_n dX4_knowInCommon_1 rfl ?_
  refine z_callV (As := [.ref p1]) (st := []) dX4_knowInCommon_2 zl_X4_146 zv_X4_linkGroups (by decide) rfl zn_23 zo_23 rfl rfl (Nat.le_of_ble_eq_true rfl) ⟨Nat.le_refl _, Nat.le_refl _⟩ ⟨Nat.le_refl _, Nat.le_refl _⟩ hv (fun v1 I1 L2 P3 nx1 q4 => ?_)
  obtain ⟨rfl, rfl, hv⟩ := q4
  refine z_aload_n dX4_knowInCommon_5 rfl ?_
  obtain ⟨h6, hv⟩ := hv
  refine z_getP dX4_knowInCommon_6 zf_X4_18 zn_23 zo_23 (fun _ _ _ _ _ => rfl) (h6 23 1 69 zp_23_1) ?_
  refine z_iconst (v := 1) dX4_knowInCommon_9 (by decide) ?_
  refine z_callS (As := [.ref 69, .int 1]) (st := []) dX4_knowInCommon_10 zl_X4_131 zs_J7_fill_53178 rfl rfl (Nat.le_of_ble_eq_true rfl) ⟨Nat.le_refl _, Nat.le_refl _⟩ ⟨Nat.le_refl _, Nat.le_refl _⟩ hv (fun v1 I7 L8 P9 nx1 q10 => ?_)
  obtain ⟨rfl, rfl, hv⟩ := q10
  refine z_iconst (v := 0) dX4_knowInCommon_13 (by decide) ?_
  refine z_istore_n (lv2 := [some (.ref 23), some (.ref p1), some (.ref p2), some (.int 0), none]) dX4_knowInCommon_14 (by decide) rfl rfl ?_
  exact hv
abbrev gw_X4_linkGroups (d : Nat) (Q : zQt) (pc : Nat) (lv : zV) (st : List Value) (I : zI) (L : zL) (P : zP) : Prop := zW zm_X4_linkGroups (zRm d 0 0) 0 0 Q pc lv st I L P 205 0 0
def v_X4_linkGroups_55 (d : Nat) (Q : zQt) (p1 : Nat) (x2 : Int32) (x3 : Nat) (x4 : Int32) (I : zI) (L : zL) (P : zP) : Prop :=
  (p1 < 205 ∧ (zsh p1).1 = 5) ∧
  (((I p1 3) ≤ x4 →
    gw_X4_linkGroups (d + 1) Q 24 [some (.ref 23), some (.ref p1), some (.int (x2 + 1)), none, none, none, none, none, none] [] I L P
  ) ∧ (¬ (I p1 3) ≤ x4 →
    ∃ b25 : Nat, P p1 2 = some b25 ∧
    ∃ n28, (b25 < 205 ∧ zsh b25 = (100, n28)) ∧
    vp_in x4 n28 ∧
    ∃ n31, (x3 < 205 ∧ zsh x3 = (100, n31)) ∧
    vp_in (I b25 x4.toNatClampNeg) n31 ∧
    vp_in (I x3 (I b25 x4.toNatClampNeg).toNatClampNeg) 256 ∧
    ((¬ (I 70 (I x3 (I b25 x4.toNatClampNeg).toNatClampNeg).toNatClampNeg) = (-1) →
      zMi zm_X4_rootOf d [.ref 23, .int (I 70 (I x3 (I b25 x4.toNatClampNeg).toNatClampNeg).toNatClampNeg)] I L P (fun r38 I34 L35 P36 =>
        zMi zm_X4_rootOf d [.ref 23, .int (I b25 x4.toNatClampNeg)] I34 L35 P36 (fun r43 I39 L40 P41 =>
          zPk P41 ∧
          vp_in (if r38 < r43 then r43 else r38) 256 ∧
          ∀ I47 : zI, I47 = zuI I39 71 (if r38 < r43 then r43 else r38).toNatClampNeg (if r43 < r38 then r43 else r38) →
          gw_X4_linkGroups (d + 1) Q 55 [some (.ref 23), some (.ref p1), some (.int x2), some (.ref x3), some (.int (x4 + 1)), none, none, none, none] [] I47 L40 P41
        )
      )
    ) ∧ ((I 70 (I x3 (I b25 x4.toNatClampNeg).toNatClampNeg).toNatClampNeg) = (-1) →
      ∀ I49 : zI, I49 = zuI I 70 (I x3 (I b25 x4.toNatClampNeg).toNatClampNeg).toNatClampNeg (I b25 x4.toNatClampNeg) →
      gw_X4_linkGroups (d + 1) Q 55 [some (.ref 23), some (.ref p1), some (.int x2), some (.ref x3), some (.int (x4 + 1)), none, none, none, none] [] I49 L P
    ))
  ))
set_option maxRecDepth 20000 in
theorem g_X4_linkGroups_55 {d : Nat} {Q : zQt} {p1 : Nat} {x2 : Int32} {x3 : Nat} {x4 : Int32} {I : zI} {L : zL} {P : zP} (hP : zPk P) (hv : v_X4_linkGroups_55 d Q p1 x2 x3 x4 I L P) : gw_X4_linkGroups (d + 1) Q 55 [some (.ref 23), some (.ref p1), some (.int x2), some (.ref x3), some (.int x4), none, none, none, none] [] I L P := by
  unfold v_X4_linkGroups_55 at hv
  refine z_iload dX4_linkGroups_55 rfl ?_
  refine z_aload_n dX4_linkGroups_57 rfl ?_
  obtain ⟨h24, hv⟩ := hv
  refine z_getI dX4_linkGroups_58 zf_X4_95 h24.1 h24.2 (fun _ _ _ _ _ => rfl) ?_
  refine z_icmp_ge (tgt := 145) dX4_linkGroups_61 (by decide) (fun q51 => ?_) (fun q51 => ?_)
  · have hv := hv.1 q51
    refine z_iinc (v2 := x2 + 1) (lv2 := [some (.ref 23), some (.ref p1), some (.int (x2 + 1)), some (.ref x3), some (.int x4), none, none, none, none]) dX4_linkGroups_145 rfl (by rfl) (by decide) rfl rfl ?_
    refine z_goto (tgt := 24) dX4_linkGroups_148 (by decide) ?_
    exact z_sub (by exact ⟨rfl, ⟨rfl, ⟨rfl, trivial⟩⟩⟩) hv
  · have hv := hv.2 q51
    refine z_aload_n dX4_linkGroups_64 rfl ?_
    obtain ⟨b25, h26, hv⟩ := hv
    refine z_getP dX4_linkGroups_65 zf_X4_98 h24.1 h24.2 (fun _ _ _ _ _ => rfl) h26 ?_
    refine z_iload dX4_linkGroups_68 rfl ?_
    obtain ⟨n28, h27, hv⟩ := hv
    obtain ⟨h29, hv⟩ := hv
    refine z_iaload dX4_linkGroups_70 h27.1 h27.2 h29 ?_
    refine z_istore (lv2 := [some (.ref 23), some (.ref p1), some (.int x2), some (.ref x3), some (.int x4), some (.int (I b25 x4.toNatClampNeg)), none, none, none]) dX4_linkGroups_71 (by decide) rfl rfl ?_
    refine z_aload_n dX4_linkGroups_73 rfl ?_
    refine z_getP dX4_linkGroups_74 zf_X4_22 zn_23 zo_23 (fun _ _ _ _ _ => rfl) (hP 23 2 70 zp_23_2) ?_
    refine z_aload_n dX4_linkGroups_77 rfl ?_
    refine z_iload dX4_linkGroups_78 rfl ?_
    obtain ⟨n31, h30, hv⟩ := hv
    obtain ⟨h32, hv⟩ := hv
    refine z_iaload dX4_linkGroups_80 h30.1 h30.2 h32 ?_
    obtain ⟨h33, hv⟩ := hv
    refine z_iaload dX4_linkGroups_81 zn_70 zh_70 h33 ?_
    refine z_istore (lv2 := [some (.ref 23), some (.ref p1), some (.int x2), some (.ref x3), some (.int x4), some (.int (I b25 x4.toNatClampNeg)), some (.int (I 70 (I x3 (I b25 x4.toNatClampNeg).toNatClampNeg).toNatClampNeg)), none, none]) dX4_linkGroups_82 (by decide) rfl rfl ?_
    refine z_iload dX4_linkGroups_84 rfl ?_
    refine z_iconst (v := (-1)) dX4_linkGroups_86 (by decide) ?_
    refine z_icmp_ne (tgt := 104) dX4_linkGroups_87 (by decide) (fun q50 => ?_) (fun q50 => ?_)
    · have hv := hv.1 q50
      refine z_aload_n dX4_linkGroups_104 rfl ?_
      refine z_iload dX4_linkGroups_105 rfl ?_
      refine z_callV (As := [.int (I 70 (I x3 (I b25 x4.toNatClampNeg).toNatClampNeg).toNatClampNeg)]) (st := []) dX4_linkGroups_107 zl_X4_150 zv_X4_rootOf (by decide) rfl zn_23 zo_23 rfl rfl (Nat.le_of_ble_eq_true rfl) ⟨Nat.le_refl _, Nat.le_refl _⟩ ⟨Nat.le_refl _, Nat.le_refl _⟩ hv (fun v1 I34 L35 P36 nx1 q37 => ?_)
      obtain ⟨rfl, r38, rfl, hv⟩ := q37
      refine z_istore (lv2 := [some (.ref 23), some (.ref p1), some (.int x2), some (.ref x3), some (.int x4), some (.int (I b25 x4.toNatClampNeg)), some (.int (I 70 (I x3 (I b25 x4.toNatClampNeg).toNatClampNeg).toNatClampNeg)), some (.int r38), none]) dX4_linkGroups_110 (by decide) rfl rfl ?_
      refine z_aload_n dX4_linkGroups_112 rfl ?_
      refine z_iload dX4_linkGroups_113 rfl ?_
      refine z_callV (As := [.int (I b25 x4.toNatClampNeg)]) (st := []) dX4_linkGroups_115 zl_X4_150 zv_X4_rootOf (by decide) rfl zn_23 zo_23 rfl rfl (Nat.le_of_ble_eq_true rfl) ⟨Nat.le_refl _, Nat.le_refl _⟩ ⟨Nat.le_refl _, Nat.le_refl _⟩ hv (fun v1 I39 L40 P41 nx1 q42 => ?_)
      obtain ⟨rfl, r43, rfl, hv⟩ := q42
      refine z_istore (lv2 := [some (.ref 23), some (.ref p1), some (.int x2), some (.ref x3), some (.int x4), some (.int (I b25 x4.toNatClampNeg)), some (.int (I 70 (I x3 (I b25 x4.toNatClampNeg).toNatClampNeg).toNatClampNeg)), some (.int r38), some (.int r43)]) dX4_linkGroups_118 (by decide) rfl rfl ?_
      refine z_aload_n dX4_linkGroups_120 rfl ?_
      obtain ⟨h44, hv⟩ := hv
      refine z_getP dX4_linkGroups_121 zf_X4_25 zn_23 zo_23 (fun _ _ _ _ _ => rfl) (h44 23 3 71 zp_23_3) ?_
      refine z_iload dX4_linkGroups_124 rfl ?_
      refine z_iload dX4_linkGroups_126 rfl ?_
      refine z_mmax dX4_linkGroups_128 zl_X4_153 (Nat.le_of_ble_eq_true rfl) ⟨Nat.le_add_left _ _, zr64 _⟩ (Nat.zero_le _) (Nat.zero_le _) ?_
      refine z_iload dX4_linkGroups_131 rfl ?_
      refine z_iload dX4_linkGroups_133 rfl ?_
      refine z_mmin dX4_linkGroups_135 zl_X4_159 (Nat.le_of_ble_eq_true rfl) ⟨Nat.le_add_left _ _, zr64 _⟩ (Nat.zero_le _) (Nat.zero_le _) ?_
      obtain ⟨h45, hv⟩ := hv
      refine z_iastore dX4_linkGroups_138 zn_71 zh_71 h45 (z_nmI (fun I47 e46 => ?_))
      have hv := hv I47 e46
      refine z_iinc (v2 := x4 + 1) (lv2 := [some (.ref 23), some (.ref p1), some (.int x2), some (.ref x3), some (.int (x4 + 1)), some (.int (I b25 x4.toNatClampNeg)), some (.int (I 70 (I x3 (I b25 x4.toNatClampNeg).toNatClampNeg).toNatClampNeg)), some (.int r38), some (.int r43)]) dX4_linkGroups_139 rfl (by rfl) (by decide) rfl rfl ?_
      refine z_goto (tgt := 55) dX4_linkGroups_142 (by decide) ?_
      exact z_sub (by exact ⟨rfl, ⟨rfl, ⟨rfl, ⟨rfl, ⟨rfl, trivial⟩⟩⟩⟩⟩) hv
    · have hv := hv.2 q50
      refine z_aload_n dX4_linkGroups_90 rfl ?_
      refine z_getP dX4_linkGroups_91 zf_X4_22 zn_23 zo_23 (fun _ _ _ _ _ => rfl) (hP 23 2 70 zp_23_2) ?_
      refine z_aload_n dX4_linkGroups_94 rfl ?_
      refine z_iload dX4_linkGroups_95 rfl ?_
      refine z_iaload dX4_linkGroups_97 h30.1 h30.2 h32 ?_
      refine z_iload dX4_linkGroups_98 rfl ?_
      refine z_iastore dX4_linkGroups_100 zn_70 zh_70 h33 (z_nmI (fun I49 e48 => ?_))
      have hv := hv I49 e48
      refine z_goto (tgt := 139) dX4_linkGroups_101 (by decide) ?_
      refine z_iinc (v2 := x4 + 1) (lv2 := [some (.ref 23), some (.ref p1), some (.int x2), some (.ref x3), some (.int (x4 + 1)), some (.int (I b25 x4.toNatClampNeg)), some (.int (I 70 (I x3 (I b25 x4.toNatClampNeg).toNatClampNeg).toNatClampNeg)), none, none]) dX4_linkGroups_139 rfl (by rfl) (by decide) rfl rfl ?_
      refine z_goto (tgt := 55) dX4_linkGroups_142 (by decide) ?_
      exact z_sub (by exact ⟨rfl, ⟨rfl, ⟨rfl, ⟨rfl, ⟨rfl, trivial⟩⟩⟩⟩⟩) hv
def v_X4_linkGroups_24 (d : Nat) (Q : zQt) (p1 : Nat) (x2 : Int32) (I : zI) (L : zL) (P : zP) : Prop :=
  (p1 < 205 ∧ (zsh p1).1 = 5) ∧
  ∃ b6 : Nat, P p1 1 = some b6 ∧
  (b6 < 205 ∧ (zsh b6).1 = 2) ∧
  (((I b6 0) ≤ x2 →
    Q none I L P 205
  ) ∧ (¬ (I b6 0) ≤ x2 →
    ∃ b9 : Nat, P p1 0 = some b9 ∧
    (b9 < 205 ∧ (zsh b9).1 = 9) ∧
    zMr zm_X10_of d [.ref b9, .int x2] I L P (fun r16 I12 L13 P14 =>
      zPk P14 ∧
      zMv zm_J7_fill_53178 d [.ref 70, .int (-1)] I12 L13 P14 (fun I18 L19 P20 =>
        gw_X4_linkGroups (d + 1) Q 55 [some (.ref 23), some (.ref p1), some (.int x2), some (.ref r16), some (.int 0), none, none, none, none] [] I18 L19 P20
      )
    )
  ))
set_option maxRecDepth 20000 in
theorem g_X4_linkGroups_24 {d : Nat} {Q : zQt} {p1 : Nat} {x2 : Int32} {I : zI} {L : zL} {P : zP} (hP : zPk P) (hv : v_X4_linkGroups_24 d Q p1 x2 I L P) : gw_X4_linkGroups (d + 1) Q 24 [some (.ref 23), some (.ref p1), some (.int x2), none, none, none, none, none, none] [] I L P := by
  unfold v_X4_linkGroups_24 at hv
  refine z_iload_n dX4_linkGroups_24 rfl ?_
  refine z_aload_n dX4_linkGroups_25 rfl ?_
  obtain ⟨h5, hv⟩ := hv
  obtain ⟨b6, h7, hv⟩ := hv
  refine z_getP dX4_linkGroups_26 zf_X4_35 h5.1 h5.2 (fun _ _ _ _ _ => rfl) h7 ?_
  obtain ⟨h8, hv⟩ := hv
  refine z_getI dX4_linkGroups_29 zf_X4_137 h8.1 h8.2 (fun _ _ _ _ _ => rfl) ?_
  refine z_icmp_ge (tgt := 151) dX4_linkGroups_32 (by decide) (fun q23 => ?_) (fun q23 => ?_)
  · have hv := hv.1 q23
    exact z_return dX4_linkGroups_151 rfl (Nat.le_refl _) (Nat.le_refl _) hv
  · have hv := hv.2 q23
    refine z_aload_n dX4_linkGroups_35 rfl ?_
    obtain ⟨b9, h10, hv⟩ := hv
    refine z_getP dX4_linkGroups_36 zf_X4_117 h5.1 h5.2 (fun _ _ _ _ _ => rfl) h10 ?_
    refine z_iload_n dX4_linkGroups_39 rfl ?_
    obtain ⟨h11, hv⟩ := hv
    refine z_callV (As := [.int x2]) (st := []) dX4_linkGroups_40 zl_X4_121 zv_X10_of (by decide) rfl h11.1 h11.2 rfl rfl (Nat.le_of_ble_eq_true rfl) ⟨Nat.le_refl _, Nat.le_refl _⟩ ⟨Nat.le_refl _, Nat.le_refl _⟩ hv (fun v1 I12 L13 P14 nx1 q15 => ?_)
    obtain ⟨rfl, r16, rfl, hv⟩ := q15
    refine z_astore_n (lv2 := [some (.ref 23), some (.ref p1), some (.int x2), some (.ref r16), none, none, none, none, none]) dX4_linkGroups_43 (by decide) rfl rfl ?_
    refine z_aload_n dX4_linkGroups_44 rfl ?_
    obtain ⟨h17, hv⟩ := hv
    refine z_getP dX4_linkGroups_45 zf_X4_22 zn_23 zo_23 (fun _ _ _ _ _ => rfl) (h17 23 2 70 zp_23_2) ?_
    refine z_iconst (v := (-1)) dX4_linkGroups_48 (by decide) ?_
    refine z_callS (As := [.ref 70, .int (-1)]) (st := []) dX4_linkGroups_49 zl_X4_131 zs_J7_fill_53178 rfl rfl (Nat.le_of_ble_eq_true rfl) ⟨Nat.le_refl _, Nat.le_refl _⟩ ⟨Nat.le_refl _, Nat.le_refl _⟩ hv (fun v1 I18 L19 P20 nx1 q21 => ?_)
    obtain ⟨rfl, rfl, hv⟩ := q21
    refine z_iconst (v := 0) dX4_linkGroups_52 (by decide) ?_
    refine z_istore (lv2 := [some (.ref 23), some (.ref p1), some (.int x2), some (.ref r16), some (.int 0), none, none, none, none]) dX4_linkGroups_53 (by decide) rfl rfl ?_
    exact hv
def v_X4_linkGroups_2 (d : Nat) (Q : zQt) (p1 : Nat) (x2 : Int32) (I : zI) (L : zL) (P : zP) : Prop :=
  ((256 ≤ x2 →
    gw_X4_linkGroups (d + 1) Q 24 [some (.ref 23), some (.ref p1), some (.int 0), none, none, none, none, none, none] [] I L P
  ) ∧ (¬ 256 ≤ x2 →
    vp_in x2 256 ∧
    ∀ I3 : zI, I3 = zuI I 71 x2.toNatClampNeg x2 →
    gw_X4_linkGroups (d + 1) Q 2 [some (.ref 23), some (.ref p1), some (.int (x2 + 1)), none, none, none, none, none, none] [] I3 L P
  ))
set_option maxRecDepth 20000 in
theorem g_X4_linkGroups_2 {d : Nat} {Q : zQt} {p1 : Nat} {x2 : Int32} {I : zI} {L : zL} {P : zP} (hP : zPk P) (hv : v_X4_linkGroups_2 d Q p1 x2 I L P) : gw_X4_linkGroups (d + 1) Q 2 [some (.ref 23), some (.ref p1), some (.int x2), none, none, none, none, none, none] [] I L P := by
  unfold v_X4_linkGroups_2 at hv
  refine z_iload_n dX4_linkGroups_2 rfl ?_
  refine z_sipush (v := 256) dX4_linkGroups_3 (by decide) ?_
  refine z_icmp_ge (tgt := 22) dX4_linkGroups_6 (by decide) (fun q4 => ?_) (fun q4 => ?_)
  · have hv := hv.1 q4
    refine z_iconst (v := 0) dX4_linkGroups_22 (by decide) ?_
    refine z_istore_n (lv2 := [some (.ref 23), some (.ref p1), some (.int 0), none, none, none, none, none, none]) dX4_linkGroups_23 (by decide) rfl rfl ?_
    exact hv
  · have hv := hv.2 q4
    refine z_aload_n dX4_linkGroups_9 rfl ?_
    refine z_getP dX4_linkGroups_10 zf_X4_25 zn_23 zo_23 (fun _ _ _ _ _ => rfl) (hP 23 3 71 zp_23_3) ?_
    refine z_iload_n dX4_linkGroups_13 rfl ?_
    refine z_iload_n dX4_linkGroups_14 rfl ?_
    obtain ⟨h1, hv⟩ := hv
    refine z_iastore dX4_linkGroups_15 zn_71 zh_71 h1 (z_nmI (fun I3 e2 => ?_))
    have hv := hv I3 e2
    refine z_iinc (v2 := x2 + 1) (lv2 := [some (.ref 23), some (.ref p1), some (.int (x2 + 1)), none, none, none, none, none, none]) dX4_linkGroups_16 rfl (by rfl) (by decide) rfl rfl ?_
    refine z_goto (tgt := 2) dX4_linkGroups_19 (by decide) ?_
    exact hv
def v_X4_linkGroups (d : Nat) (Q : zQt) (p1 : Nat) (I : zI) (L : zL) (P : zP) : Prop :=
  gw_X4_linkGroups (d + 1) Q 2 [some (.ref 23), some (.ref p1), some (.int 0), none, none, none, none, none, none] [] I L P
set_option maxRecDepth 20000 in
theorem g_X4_linkGroups {d : Nat} {Q : zQt} {p1 : Nat} {I : zI} {L : zL} {P : zP} (hP : zPk P) (hv : v_X4_linkGroups d Q p1 I L P) : zM zm_X4_linkGroups (d + 1) 0 0 [.ref 23, .ref p1] I L P 205 Q := by
  unfold v_X4_linkGroups at hv
  refine zM_of (lv0 := [some (.ref 23), some (.ref p1), none, none, none, none, none, none, none]) (by decide +kernel) (Nat.le_of_ble_eq_true rfl) rfl ?_
  refine z_iconst (v := 0) dX4_linkGroups_0 (by decide) ?_
  refine z_istore_n (lv2 := [some (.ref 23), some (.ref p1), some (.int 0), none, none, none, none, none, none]) dX4_linkGroups_1 (by decide) rfl rfl ?_
  exact hv
abbrev gw_X4_rootOf (d : Nat) (Q : zQt) (pc : Nat) (lv : zV) (st : List Value) (I : zI) (L : zL) (P : zP) : Prop := zW zm_X4_rootOf (zRm d 0 0) 0 0 Q pc lv st I L P 205 0 0
def v_X4_rootOf_4 (d : Nat) (Q : zQt) (x2 : Int32) (x3 : Int32) (I : zI) (L : zL) (P : zP) : Prop :=
  ((256 ≤ x3 →
    Q (some (.int x2)) I L P 205
  ) ∧ (¬ 256 ≤ x3 →
    vp_in x2 256 ∧
    (((I 71 x2.toNatClampNeg) = x2 →
      Q (some (.int x2)) I L P 205
    ) ∧ (¬ (I 71 x2.toNatClampNeg) = x2 →
      vp_in (I 71 x2.toNatClampNeg) 256 ∧
      ∀ I4 : zI, I4 = zuI I 71 x2.toNatClampNeg (I 71 (I 71 x2.toNatClampNeg).toNatClampNeg) →
      gw_X4_rootOf d Q 4 [some (.ref 23), none, some (.int (I4 71 x2.toNatClampNeg)), some (.int (x3 + 1))] [] I4 L P
    ))
  ))
set_option maxRecDepth 20000 in
theorem g_X4_rootOf_4 {d : Nat} {Q : zQt} {x2 : Int32} {x3 : Int32} {I : zI} {L : zL} {P : zP} (hP : zPk P) (hv : v_X4_rootOf_4 d Q x2 x3 I L P) : gw_X4_rootOf d Q 4 [some (.ref 23), none, some (.int x2), some (.int x3)] [] I L P := by
  unfold v_X4_rootOf_4 at hv
  refine z_iload_n dX4_rootOf_4 rfl ?_
  refine z_sipush (v := 256) dX4_rootOf_5 (by decide) ?_
  refine z_icmp_ge (tgt := 51) dX4_rootOf_8 (by decide) (fun q6 => ?_) (fun q6 => ?_)
  · have hv := hv.1 q6
    refine z_iload_n dX4_rootOf_51 rfl ?_
    exact z_ireturn dX4_rootOf_52 rfl rfl (Nat.le_refl _) (Nat.le_refl _) hv
  · have hv := hv.2 q6
    refine z_aload_n dX4_rootOf_11 rfl ?_
    refine z_getP dX4_rootOf_12 zf_X4_25 zn_23 zo_23 (fun _ _ _ _ _ => rfl) (hP 23 3 71 zp_23_3) ?_
    refine z_iload_n dX4_rootOf_15 rfl ?_
    obtain ⟨h1, hv⟩ := hv
    refine z_iaload dX4_rootOf_16 zn_71 zh_71 h1 ?_
    refine z_iload_n dX4_rootOf_17 rfl ?_
    refine z_icmp_eq (tgt := 51) dX4_rootOf_18 (by decide) (fun q5 => ?_) (fun q5 => ?_)
    · have hv := hv.1 q5
      refine z_iload_n dX4_rootOf_51 rfl ?_
      exact z_ireturn dX4_rootOf_52 rfl rfl (Nat.le_refl _) (Nat.le_refl _) hv
    · have hv := hv.2 q5
      refine z_aload_n dX4_rootOf_21 rfl ?_
      refine z_getP dX4_rootOf_22 zf_X4_25 zn_23 zo_23 (fun _ _ _ _ _ => rfl) (hP 23 3 71 zp_23_3) ?_
      refine z_iload_n dX4_rootOf_25 rfl ?_
      refine z_aload_n dX4_rootOf_26 rfl ?_
      refine z_getP dX4_rootOf_27 zf_X4_25 zn_23 zo_23 (fun _ _ _ _ _ => rfl) (hP 23 3 71 zp_23_3) ?_
      refine z_aload_n dX4_rootOf_30 rfl ?_
      refine z_getP dX4_rootOf_31 zf_X4_25 zn_23 zo_23 (fun _ _ _ _ _ => rfl) (hP 23 3 71 zp_23_3) ?_
      refine z_iload_n dX4_rootOf_34 rfl ?_
      refine z_iaload dX4_rootOf_35 zn_71 zh_71 h1 ?_
      obtain ⟨h2, hv⟩ := hv
      refine z_iaload dX4_rootOf_36 zn_71 zh_71 h2 ?_
      refine z_iastore dX4_rootOf_37 zn_71 zh_71 h1 (z_nmI (fun I4 e3 => ?_))
      have hv := hv I4 e3
      refine z_aload_n dX4_rootOf_38 rfl ?_
      refine z_getP dX4_rootOf_39 zf_X4_25 zn_23 zo_23 (fun _ _ _ _ _ => rfl) (hP 23 3 71 zp_23_3) ?_
      refine z_iload_n dX4_rootOf_42 rfl ?_
      refine z_iaload dX4_rootOf_43 zn_71 zh_71 h1 ?_
      refine z_istore_n (lv2 := [some (.ref 23), none, some (.int (I4 71 x2.toNatClampNeg)), some (.int x3)]) dX4_rootOf_44 (by decide) rfl rfl ?_
      refine z_iinc (v2 := x3 + 1) (lv2 := [some (.ref 23), none, some (.int (I4 71 x2.toNatClampNeg)), some (.int (x3 + 1))]) dX4_rootOf_45 rfl (by rfl) (by decide) rfl rfl ?_
      refine z_goto (tgt := 4) dX4_rootOf_48 (by decide) ?_
      exact hv
def v_X4_rootOf (d : Nat) (Q : zQt) (p1 : Int32) (I : zI) (L : zL) (P : zP) : Prop :=
  gw_X4_rootOf d Q 4 [some (.ref 23), none, some (.int p1), some (.int 0)] [] I L P
set_option maxRecDepth 20000 in
theorem g_X4_rootOf {d : Nat} {Q : zQt} {p1 : Int32} {I : zI} {L : zL} {P : zP} (hP : zPk P) (hv : v_X4_rootOf d Q p1 I L P) : zM zm_X4_rootOf d 0 0 [.ref 23, .int p1] I L P 205 Q := by
  unfold v_X4_rootOf at hv
  refine zM_of (lv0 := [some (.ref 23), some (.int p1), none, none]) (by decide +kernel) (Nat.le_of_ble_eq_true rfl) rfl ?_
  refine z_iload_n dX4_rootOf_0 rfl ?_
  refine z_istore_n (lv2 := [some (.ref 23), some (.int p1), some (.int p1), none]) dX4_rootOf_1 (by decide) rfl rfl ?_
  refine z_iconst (v := 0) dX4_rootOf_2 (by decide) ?_
  refine z_istore_n (lv2 := [some (.ref 23), some (.int p1), some (.int p1), some (.int 0)]) dX4_rootOf_3 (by decide) rfl rfl ?_
  exact z_sub (by exact ⟨rfl, ⟨rfl, ⟨rfl, trivial⟩⟩⟩) hv
abbrev gw_X4_depth (d : Nat) (Q : zQt) (pc : Nat) (lv : zV) (st : List Value) (I : zI) (L : zL) (P : zP) : Prop := zW zm_X4_depth (zRm d 0 0) 0 0 Q pc lv st I L P 205 0 0
def v_X4_depth_62 (d : Nat) (Q : zQt) (p1 : Nat) (x2 : Int32) (x5 : Int32) (I : zI) (L : zL) (P : zP) : Prop :=
  ((98 ≤ x5 →
    Q (some (.int 98)) I L P 205
  ) ∧ (¬ 98 ≤ x5 →
    zMv zm_X4_knowAll d [.ref 23, .ref p1, .ref 25] I L P (fun I16 L17 P18 =>
      vp_in x2 256 ∧
      ((¬ (I16 25 x2.toNatClampNeg) = 0 →
        gw_X4_depth (d + 1) Q 62 [some (.ref 23), some (.ref p1), some (.int x2), some (.ref 25), none, some (.int (x5 + 1))] [] I16 L17 P18
      ) ∧ ((I16 25 x2.toNatClampNeg) = 0 →
        Q (some (.int x5)) I16 L17 P18 205
      ))
    )
  ))
set_option maxRecDepth 20000 in
theorem g_X4_depth_62 {d : Nat} {Q : zQt} {p1 : Nat} {x2 : Int32} {x5 : Int32} {I : zI} {L : zL} {P : zP} (hP : zPk P) (hv : v_X4_depth_62 d Q p1 x2 x5 I L P) : gw_X4_depth (d + 1) Q 62 [some (.ref 23), some (.ref p1), some (.int x2), some (.ref 25), none, some (.int x5)] [] I L P := by
  unfold v_X4_depth_62 at hv
  refine z_iload dX4_depth_62 rfl ?_
  refine z_bipush (v := 98) dX4_depth_64 (by decide) ?_
  refine z_icmp_ge (tgt := 90) dX4_depth_66 (by decide) (fun q23 => ?_) (fun q23 => ?_)
  · have hv := hv.1 q23
    refine z_bipush (v := 98) dX4_depth_90 (by decide) ?_
    exact z_ireturn dX4_depth_92 rfl rfl (Nat.le_refl _) (Nat.le_refl _) hv
  · have hv := hv.2 q23
    refine z_aload_n dX4_depth_69 rfl ?_
    refine z_aload_n dX4_depth_70 rfl ?_
    refine z_aload_n dX4_depth_71 rfl ?_
    refine z_callV (As := [.ref p1, .ref 25]) (st := []) dX4_depth_72 zl_X4_89 zv_X4_knowAll (by decide) rfl zn_23 zo_23 rfl rfl (Nat.le_of_ble_eq_true rfl) ⟨Nat.le_refl _, Nat.le_refl _⟩ ⟨Nat.le_refl _, Nat.le_refl _⟩ hv (fun v1 I16 L17 P18 nx1 q19 => ?_)
    obtain ⟨rfl, rfl, hv⟩ := q19
    refine z_aload_n dX4_depth_75 rfl ?_
    refine z_iload_n dX4_depth_76 rfl ?_
    obtain ⟨h21, hv⟩ := hv
    refine z_iaload dX4_depth_77 zn_25 zh_25 h21 ?_
    refine z_if_ne (tgt := 84) dX4_depth_78 (by decide) (fun q22 => ?_) (fun q22 => ?_)
    · have hv := hv.1 q22
      refine z_iinc (v2 := x5 + 1) (lv2 := [some (.ref 23), some (.ref p1), some (.int x2), some (.ref 25), none, some (.int (x5 + 1))]) dX4_depth_84 rfl (by rfl) (by decide) rfl rfl ?_
      refine z_goto (tgt := 62) dX4_depth_87 (by decide) ?_
      exact hv
    · have hv := hv.2 q22
      refine z_iload dX4_depth_81 rfl ?_
      exact z_ireturn dX4_depth_83 rfl rfl (Nat.le_refl _) (Nat.le_refl _) hv
def v_X4_depth (d : Nat) (Q : zQt) (p1 : Nat) (I : zI) (L : zL) (P : zP) : Prop :=
  (p1 < 205 ∧ (zsh p1).1 = 5) ∧
  ∃ b2 : Nat, P p1 1 = some b2 ∧
  (b2 < 205 ∧ (zsh b2).1 = 2) ∧
  vp_in (I b2 1) 256 ∧
  ((¬ (I 25 (I b2 1).toNatClampNeg) = 0 →
    (¬ (0 : Int32) < 0 ∧ ¬ (0 : Int32) < 0 ∧ ¬ (256 : Int32) < 0 ∧ (0 : Int32).toNatClampNeg + (256 : Int32).toNatClampNeg ≤ 256 ∧ (0 : Int32).toNatClampNeg + (256 : Int32).toNatClampNeg ≤ 256) ∧
    ∀ I7 : zI, I7 = zaI I 26 (va_cpy (I 25) (I 26) (0 : Int32).toNatClampNeg (0 : Int32).toNatClampNeg (256 : Int32).toNatClampNeg) →
    zMv zm_X4_knowInCommon d [.ref 23, .ref p1, .ref 26] I7 L P (fun I9 L10 P11 =>
      (((I9 26 (I b2 1).toNatClampNeg) = 0 →
        gw_X4_depth (d + 1) Q 62 [some (.ref 23), some (.ref p1), some (.int (I b2 1)), some (.ref 25), none, some (.int 0)] [] I9 L10 P11
      ) ∧ (¬ (I9 26 (I b2 1).toNatClampNeg) = 0 →
        Q (some (.int 99)) I9 L10 P11 205
      ))
    )
  ) ∧ ((I 25 (I b2 1).toNatClampNeg) = 0 →
    Q (some (.int (-1))) I L P 205
  ))
set_option maxRecDepth 20000 in
theorem g_X4_depth {d : Nat} {Q : zQt} {p1 : Nat} {I : zI} {L : zL} {P : zP} (hP : zPk P) (hv : v_X4_depth d Q p1 I L P) : zM zm_X4_depth (d + 1) 0 0 [.ref 23, .ref p1] I L P 205 Q := by
  unfold v_X4_depth at hv
  refine zM_of (lv0 := [some (.ref 23), some (.ref p1), none, none, none, none]) (by decide +kernel) (Nat.le_of_ble_eq_true rfl) rfl ?_
  refine z_aload_n dX4_depth_0 rfl ?_
  obtain ⟨h1, hv⟩ := hv
  obtain ⟨b2, h3, hv⟩ := hv
  refine z_getP dX4_depth_1 zf_X4_35 h1.1 h1.2 (fun _ _ _ _ _ => rfl) h3 ?_
  obtain ⟨h4, hv⟩ := hv
  refine z_getI dX4_depth_4 zf_X4_162 h4.1 h4.2 (fun _ _ _ _ _ => rfl) ?_
  refine z_istore_n (lv2 := [some (.ref 23), some (.ref p1), some (.int (I b2 1)), none, none, none]) dX4_depth_7 (by decide) rfl rfl ?_
  refine z_aload_n dX4_depth_8 rfl ?_
  refine z_getP dX4_depth_9 zf_X4_15 zn_23 zo_23 (fun _ _ _ _ _ => rfl) (hP 23 0 24 zp_23_0) ?_
  refine z_iconst (v := 0) dX4_depth_12 (by decide) ?_
  refine z_aaload dX4_depth_13 zn_24 zh_24 (Or.inl rfl) (by unfold vp_in; decide) (hP 24 0 25 zp_24_0) ?_
  refine z_astore_n (lv2 := [some (.ref 23), some (.ref p1), some (.int (I b2 1)), some (.ref 25), none, none]) dX4_depth_14 (by decide) rfl rfl ?_
  refine z_aload_n dX4_depth_15 rfl ?_
  refine z_getP dX4_depth_16 zf_X4_15 zn_23 zo_23 (fun _ _ _ _ _ => rfl) (hP 23 0 24 zp_23_0) ?_
  refine z_iconst (v := 1) dX4_depth_19 (by decide) ?_
  refine z_aaload dX4_depth_20 zn_24 zh_24 (Or.inl rfl) (by unfold vp_in; decide) (hP 24 1 26 zp_24_1) ?_
  refine z_astore (lv2 := [some (.ref 23), some (.ref p1), some (.int (I b2 1)), some (.ref 25), some (.ref 26), none]) dX4_depth_21 (by decide) rfl rfl ?_
  refine z_aload_n dX4_depth_23 rfl ?_
  refine z_iload_n dX4_depth_24 rfl ?_
  obtain ⟨h5, hv⟩ := hv
  refine z_iaload dX4_depth_25 zn_25 zh_25 h5 ?_
  refine z_if_ne (tgt := 31) dX4_depth_26 (by decide) (fun q15 => ?_) (fun q15 => ?_)
  · have hv := hv.1 q15
    refine z_aload_n dX4_depth_31 rfl ?_
    refine z_iconst (v := 0) dX4_depth_32 (by decide) ?_
    refine z_aload dX4_depth_33 rfl ?_
    refine z_iconst (v := 0) dX4_depth_35 (by decide) ?_
    refine z_sipush (v := 256) dX4_depth_36 (by decide) ?_
    obtain ⟨h6, hv⟩ := hv
    refine z_copyI dX4_depth_39 zl_X4_140 rfl zn_25 zn_26 zh_25 zh_26 h6.1 h6.2.1 h6.2.2.1 h6.2.2.2.1 h6.2.2.2.2 (Nat.le_of_ble_eq_true rfl) ⟨Nat.le_add_left _ _, zr64 _⟩ (z_nmI (fun I7 e8 => ?_))
    have hv := hv I7 e8
    refine z_aload_n dX4_depth_42 rfl ?_
    refine z_aload_n dX4_depth_43 rfl ?_
    refine z_aload dX4_depth_44 rfl ?_
    refine z_callV (As := [.ref p1, .ref 26]) (st := []) dX4_depth_46 zl_X4_92 zv_X4_knowInCommon (by decide) rfl zn_23 zo_23 rfl rfl (Nat.le_of_ble_eq_true rfl) ⟨Nat.le_refl _, Nat.le_refl _⟩ ⟨Nat.le_refl _, Nat.le_refl _⟩ hv (fun v1 I9 L10 P11 nx1 q12 => ?_)
    obtain ⟨rfl, rfl, hv⟩ := q12
    refine z_aload dX4_depth_49 rfl ?_
    refine z_iload_n dX4_depth_51 rfl ?_
    refine z_iaload dX4_depth_52 zn_26 zh_26 h5 ?_
    refine z_if_eq (tgt := 59) dX4_depth_53 (by decide) (fun q14 => ?_) (fun q14 => ?_)
    · have hv := hv.1 q14
      refine z_iconst (v := 0) dX4_depth_59 (by decide) ?_
      refine z_istore (lv2 := [some (.ref 23), some (.ref p1), some (.int (I b2 1)), some (.ref 25), some (.ref 26), some (.int 0)]) dX4_depth_60 (by decide) rfl rfl ?_
      exact z_sub (by exact ⟨rfl, ⟨rfl, ⟨rfl, ⟨rfl, ⟨rfl, trivial⟩⟩⟩⟩⟩) hv
    · have hv := hv.2 q14
      refine z_bipush (v := 99) dX4_depth_56 (by decide) ?_
      exact z_ireturn dX4_depth_58 rfl rfl (Nat.le_refl _) (Nat.le_refl _) hv
  · have hv := hv.2 q15
    refine z_iconst (v := (-1)) dX4_depth_29 (by decide) ?_
    exact z_ireturn dX4_depth_30 rfl rfl (Nat.le_refl _) (Nat.le_refl _) hv
abbrev gw_X4_ownMark (d : Nat) (Q : zQt) (pc : Nat) (lv : zV) (st : List Value) (I : zI) (L : zL) (P : zP) : Prop := zW zm_X4_ownMark (zRm d 0 0) 0 0 Q pc lv st I L P 205 0 0
def v_X4_ownMark (d : Nat) (Q : zQt) (p1 : Nat) (p2 : Int32) (I : zI) (L : zL) (P : zP) : Prop :=
  (p1 < 205 ∧ (zsh p1).1 = 5) ∧
  ∃ b2 : Nat, P p1 0 = some b2 ∧
  (b2 < 205 ∧ (zsh b2).1 = 9) ∧
  zMr zm_X10_of d [.ref b2, .int p2] I L P (fun r9 I5 L6 P7 =>
    zMv zm_X4_markOwn d [.ref 23, .ref p1, .int p2, .ref r9] I5 L6 P7 (fun I10 L11 P12 =>
      zPk P12 ∧
      ∃ b16 : Nat, P12 p1 1 = some b16 ∧
      (b16 < 205 ∧ (zsh b16).1 = 2) ∧
      ∃ n20, (r9 < 205 ∧ zsh r9 = (100, n20)) ∧
      vp_in (I10 b16 1) n20 ∧
      vp_in (I10 r9 (I10 b16 1).toNatClampNeg) 256 ∧
      ((I10 70 (I10 r9 (I10 b16 1).toNatClampNeg).toNatClampNeg) = 1 →
        Q (some (.int 1)) I10 L11 P12 205
      ) ∧
      ((I10 70 (I10 r9 (I10 b16 1).toNatClampNeg).toNatClampNeg) = 2 →
        Q (some (.int 0)) I10 L11 P12 205
      ) ∧
      (¬ (I10 70 (I10 r9 (I10 b16 1).toNatClampNeg).toNatClampNeg) = 1 → ¬ (I10 70 (I10 r9 (I10 b16 1).toNatClampNeg).toNatClampNeg) = 2 →
        Q (some (.int (-2))) I10 L11 P12 205
      )
    )
  )
set_option maxRecDepth 20000 in
theorem g_X4_ownMark {d : Nat} {Q : zQt} {p1 : Nat} {p2 : Int32} {I : zI} {L : zL} {P : zP} (hP : zPk P) (hv : v_X4_ownMark d Q p1 p2 I L P) : zM zm_X4_ownMark (d + 1) 0 0 [.ref 23, .ref p1, .int p2] I L P 205 Q := by
  unfold v_X4_ownMark at hv
  refine zM_of (lv0 := [some (.ref 23), some (.ref p1), some (.int p2), none]) (by decide +kernel) (Nat.le_of_ble_eq_true rfl) rfl ?_
  refine z_aload_n dX4_ownMark_0 rfl ?_
  obtain ⟨h1, hv⟩ := hv
  obtain ⟨b2, h3, hv⟩ := hv
  refine z_getP dX4_ownMark_1 zf_X4_117 h1.1 h1.2 (fun _ _ _ _ _ => rfl) h3 ?_
  refine z_iload_n dX4_ownMark_4 rfl ?_
  obtain ⟨h4, hv⟩ := hv
  refine z_callV (As := [.int p2]) (st := []) dX4_ownMark_5 zl_X4_121 zv_X10_of (by decide) rfl h4.1 h4.2 rfl rfl (Nat.le_of_ble_eq_true rfl) ⟨Nat.le_refl _, Nat.le_refl _⟩ ⟨Nat.le_refl _, Nat.le_refl _⟩ hv (fun v1 I5 L6 P7 nx1 q8 => ?_)
  obtain ⟨rfl, r9, rfl, hv⟩ := q8
  refine z_astore_n (lv2 := [some (.ref 23), some (.ref p1), some (.int p2), some (.ref r9)]) dX4_ownMark_8 (by decide) rfl rfl ?_
  refine z_aload_n dX4_ownMark_9 rfl ?_
  refine z_aload_n dX4_ownMark_10 rfl ?_
  refine z_iload_n dX4_ownMark_11 rfl ?_
  refine z_aload_n dX4_ownMark_12 rfl ?_
  refine z_callV (As := [.ref p1, .int p2, .ref r9]) (st := []) dX4_ownMark_13 zl_X4_165 zv_X4_markOwn (by decide) rfl zn_23 zo_23 rfl rfl (Nat.le_of_ble_eq_true rfl) ⟨Nat.le_refl _, Nat.le_refl _⟩ ⟨Nat.le_refl _, Nat.le_refl _⟩ hv (fun v1 I10 L11 P12 nx1 q13 => ?_)
  obtain ⟨rfl, rfl, hv⟩ := q13
  refine z_aload_n dX4_ownMark_16 rfl ?_
  obtain ⟨h15, hv⟩ := hv
  refine z_getP dX4_ownMark_17 zf_X4_22 zn_23 zo_23 (fun _ _ _ _ _ => rfl) (h15 23 2 70 zp_23_2) ?_
  refine z_aload_n dX4_ownMark_20 rfl ?_
  refine z_aload_n dX4_ownMark_21 rfl ?_
  obtain ⟨b16, h17, hv⟩ := hv
  refine z_getP dX4_ownMark_22 zf_X4_35 h1.1 h1.2 (fun _ _ _ _ _ => rfl) h17 ?_
  obtain ⟨h18, hv⟩ := hv
  refine z_getI dX4_ownMark_25 zf_X4_162 h18.1 h18.2 (fun _ _ _ _ _ => rfl) ?_
  obtain ⟨n20, h19, hv⟩ := hv
  obtain ⟨h21, hv⟩ := hv
  refine z_iaload dX4_ownMark_28 h19.1 h19.2 h21 ?_
  obtain ⟨h22, hv⟩ := hv
  refine z_iaload dX4_ownMark_29 zn_70 zh_70 h22 ?_
  by_cases q23 : (I10 70 (I10 r9 (I10 b16 1).toNatClampNeg).toNatClampNeg) = 1
  · have hv := hv.1 q23
    refine z_lookup (off := 26) (tgt := 56) dX4_ownMark_30 (by decide) (by rw [q23]; decide) (by decide) ?_
    refine z_iconst (v := 1) dX4_ownMark_56 (by decide) ?_
    exact z_ireturn dX4_ownMark_57 rfl rfl (Nat.le_refl _) (Nat.le_refl _) hv
  by_cases q24 : (I10 70 (I10 r9 (I10 b16 1).toNatClampNeg).toNatClampNeg) = 2
  · have hv := hv.2.1 q24
    refine z_lookup (off := 28) (tgt := 58) dX4_ownMark_30 (by decide) (by rw [q24]; decide) (by decide) ?_
    refine z_iconst (v := 0) dX4_ownMark_58 (by decide) ?_
    exact z_ireturn dX4_ownMark_59 rfl rfl (Nat.le_refl _) (Nat.le_refl _) hv
  have hv := hv.2.2 q23 q24
  refine z_lookup (off := 30) (tgt := 60) dX4_ownMark_30 (by decide) ((lv_osw q23 (by decide)).trans ((lv_osw q24 (by decide)).trans rfl)) (by decide) ?_
  refine z_bipush (v := (-2)) dX4_ownMark_60 (by decide) ?_
  exact z_ireturn dX4_ownMark_62 rfl rfl (Nat.le_refl _) (Nat.le_refl _) hv
abbrev gw_X4_markOwn (d : Nat) (Q : zQt) (pc : Nat) (lv : zV) (st : List Value) (I : zI) (L : zL) (P : zP) : Prop := zW zm_X4_markOwn (zRm d 0 0) 0 0 Q pc lv st I L P 205 0 0
def v_X4_markOwn_36 (d : Nat) (Q : zQt) (p1 : Nat) (p2 : Int32) (p3 : Nat) (x4 : Int32) (I : zI) (L : zL) (P : zP) : Prop :=
  (p1 < 205 ∧ (zsh p1).1 = 5) ∧
  (((I p1 3) ≤ x4 →
    Q none I L P 205
  ) ∧ (¬ (I p1 3) ≤ x4 →
    ∃ b15 : Nat, P p1 2 = some b15 ∧
    ∃ n18, (b15 < 205 ∧ zsh b15 = (100, n18)) ∧
    vp_in x4 n18 ∧
    ∃ n21, (p3 < 205 ∧ zsh p3 = (100, n21)) ∧
    vp_in (I b15 x4.toNatClampNeg) n21 ∧
    vp_in (I p3 (I b15 x4.toNatClampNeg).toNatClampNeg) 256 ∧
    ((¬ (((I b15 x4.toNatClampNeg) >>> (p2 &&& 31) : Int32) &&& 1 : Int32) = 1 →
      ∀ I25 : zI, I25 = zuI I 70 (I p3 (I b15 x4.toNatClampNeg).toNatClampNeg).toNatClampNeg ((I 70 (I p3 (I b15 x4.toNatClampNeg).toNatClampNeg).toNatClampNeg) ||| 2 : Int32) →
      gw_X4_markOwn d Q 36 [some (.ref 23), some (.ref p1), some (.int p2), some (.ref p3), some (.int (x4 + 1)), none] [] I25 L P
    ) ∧ ((((I b15 x4.toNatClampNeg) >>> (p2 &&& 31) : Int32) &&& 1 : Int32) = 1 →
      ∀ I27 : zI, I27 = zuI I 70 (I p3 (I b15 x4.toNatClampNeg).toNatClampNeg).toNatClampNeg ((I 70 (I p3 (I b15 x4.toNatClampNeg).toNatClampNeg).toNatClampNeg) ||| 1 : Int32) →
      gw_X4_markOwn d Q 36 [some (.ref 23), some (.ref p1), some (.int p2), some (.ref p3), some (.int (x4 + 1)), none] [] I27 L P
    ))
  ))
set_option maxRecDepth 20000 in
theorem g_X4_markOwn_36 {d : Nat} {Q : zQt} {p1 : Nat} {p2 : Int32} {p3 : Nat} {x4 : Int32} {I : zI} {L : zL} {P : zP} (hP : zPk P) (hv : v_X4_markOwn_36 d Q p1 p2 p3 x4 I L P) : gw_X4_markOwn d Q 36 [some (.ref 23), some (.ref p1), some (.int p2), some (.ref p3), some (.int x4), none] [] I L P := by
  unfold v_X4_markOwn_36 at hv
  refine z_iload dX4_markOwn_36 rfl ?_
  refine z_aload_n dX4_markOwn_38 rfl ?_
  obtain ⟨h14, hv⟩ := hv
  refine z_getI dX4_markOwn_39 zf_X4_95 h14.1 h14.2 (fun _ _ _ _ _ => rfl) ?_
  refine z_icmp_ge (tgt := 87) dX4_markOwn_42 (by decide) (fun q29 => ?_) (fun q29 => ?_)
  · have hv := hv.1 q29
    exact z_return dX4_markOwn_87 rfl (Nat.le_refl _) (Nat.le_refl _) hv
  · have hv := hv.2 q29
    refine z_aload_n dX4_markOwn_45 rfl ?_
    obtain ⟨b15, h16, hv⟩ := hv
    refine z_getP dX4_markOwn_46 zf_X4_98 h14.1 h14.2 (fun _ _ _ _ _ => rfl) h16 ?_
    refine z_iload dX4_markOwn_49 rfl ?_
    obtain ⟨n18, h17, hv⟩ := hv
    obtain ⟨h19, hv⟩ := hv
    refine z_iaload dX4_markOwn_51 h17.1 h17.2 h19 ?_
    refine z_istore (lv2 := [some (.ref 23), some (.ref p1), some (.int p2), some (.ref p3), some (.int x4), some (.int (I b15 x4.toNatClampNeg))]) dX4_markOwn_52 (by decide) rfl rfl ?_
    refine z_aload_n dX4_markOwn_54 rfl ?_
    refine z_getP dX4_markOwn_55 zf_X4_22 zn_23 zo_23 (fun _ _ _ _ _ => rfl) (hP 23 2 70 zp_23_2) ?_
    refine z_aload_n dX4_markOwn_58 rfl ?_
    refine z_iload dX4_markOwn_59 rfl ?_
    obtain ⟨n21, h20, hv⟩ := hv
    obtain ⟨h22, hv⟩ := hv
    refine z_iaload dX4_markOwn_61 h20.1 h20.2 h22 ?_
    refine z_dup2 dX4_markOwn_62 rfl rfl ?_
    obtain ⟨h23, hv⟩ := hv
    refine z_iaload dX4_markOwn_63 zn_70 zh_70 h23 ?_
    refine z_iload dX4_markOwn_64 rfl ?_
    refine z_iload_n dX4_markOwn_66 rfl ?_
    refine z_ishr dX4_markOwn_67 ?_
    refine z_iconst (v := 1) dX4_markOwn_68 (by decide) ?_
    refine z_iand dX4_markOwn_69 ?_
    refine z_iconst (v := 1) dX4_markOwn_70 (by decide) ?_
    refine z_icmp_ne (tgt := 78) dX4_markOwn_71 (by decide) (fun q28 => ?_) (fun q28 => ?_)
    · have hv := hv.1 q28
      refine z_iconst (v := 2) dX4_markOwn_78 (by decide) ?_
      refine z_ior dX4_markOwn_79 ?_
      refine z_iastore dX4_markOwn_80 zn_70 zh_70 h23 (z_nmI (fun I25 e24 => ?_))
      have hv := hv I25 e24
      refine z_iinc (v2 := x4 + 1) (lv2 := [some (.ref 23), some (.ref p1), some (.int p2), some (.ref p3), some (.int (x4 + 1)), some (.int (I b15 x4.toNatClampNeg))]) dX4_markOwn_81 rfl (by rfl) (by decide) rfl rfl ?_
      refine z_goto (tgt := 36) dX4_markOwn_84 (by decide) ?_
      exact z_sub (by exact ⟨rfl, ⟨rfl, ⟨rfl, ⟨rfl, ⟨rfl, trivial⟩⟩⟩⟩⟩) hv
    · have hv := hv.2 q28
      refine z_iconst (v := 1) dX4_markOwn_74 (by decide) ?_
      refine z_goto (tgt := 79) dX4_markOwn_75 (by decide) ?_
      refine z_ior dX4_markOwn_79 ?_
      refine z_iastore dX4_markOwn_80 zn_70 zh_70 h23 (z_nmI (fun I27 e26 => ?_))
      have hv := hv I27 e26
      refine z_iinc (v2 := x4 + 1) (lv2 := [some (.ref 23), some (.ref p1), some (.int p2), some (.ref p3), some (.int (x4 + 1)), some (.int (I b15 x4.toNatClampNeg))]) dX4_markOwn_81 rfl (by rfl) (by decide) rfl rfl ?_
      refine z_goto (tgt := 36) dX4_markOwn_84 (by decide) ?_
      exact z_sub (by exact ⟨rfl, ⟨rfl, ⟨rfl, ⟨rfl, ⟨rfl, trivial⟩⟩⟩⟩⟩) hv
def v_X4_markOwn_3 (d : Nat) (Q : zQt) (p1 : Nat) (p2 : Int32) (p3 : Nat) (x4 : Int32) (I : zI) (L : zL) (P : zP) : Prop :=
  (p1 < 205 ∧ (zsh p1).1 = 5) ∧
  (((I p1 3) ≤ x4 →
    gw_X4_markOwn d Q 36 [some (.ref 23), some (.ref p1), some (.int p2), some (.ref p3), some (.int 0), none] [] I L P
  ) ∧ (¬ (I p1 3) ≤ x4 →
    ∃ b2 : Nat, P p1 2 = some b2 ∧
    ∃ n5, (b2 < 205 ∧ zsh b2 = (100, n5)) ∧
    vp_in x4 n5 ∧
    ∃ n8, (p3 < 205 ∧ zsh p3 = (100, n8)) ∧
    vp_in (I b2 x4.toNatClampNeg) n8 ∧
    vp_in (I p3 (I b2 x4.toNatClampNeg).toNatClampNeg) 256 ∧
    ∀ I12 : zI, I12 = zuI I 70 (I p3 (I b2 x4.toNatClampNeg).toNatClampNeg).toNatClampNeg 0 →
    gw_X4_markOwn d Q 3 [some (.ref 23), some (.ref p1), some (.int p2), some (.ref p3), some (.int (x4 + 1)), none] [] I12 L P
  ))
set_option maxRecDepth 20000 in
theorem g_X4_markOwn_3 {d : Nat} {Q : zQt} {p1 : Nat} {p2 : Int32} {p3 : Nat} {x4 : Int32} {I : zI} {L : zL} {P : zP} (hP : zPk P) (hv : v_X4_markOwn_3 d Q p1 p2 p3 x4 I L P) : gw_X4_markOwn d Q 3 [some (.ref 23), some (.ref p1), some (.int p2), some (.ref p3), some (.int x4), none] [] I L P := by
  unfold v_X4_markOwn_3 at hv
  refine z_iload dX4_markOwn_3 rfl ?_
  refine z_aload_n dX4_markOwn_5 rfl ?_
  obtain ⟨h1, hv⟩ := hv
  refine z_getI dX4_markOwn_6 zf_X4_95 h1.1 h1.2 (fun _ _ _ _ _ => rfl) ?_
  refine z_icmp_ge (tgt := 33) dX4_markOwn_9 (by decide) (fun q13 => ?_) (fun q13 => ?_)
  · have hv := hv.1 q13
    refine z_iconst (v := 0) dX4_markOwn_33 (by decide) ?_
    refine z_istore (lv2 := [some (.ref 23), some (.ref p1), some (.int p2), some (.ref p3), some (.int 0), none]) dX4_markOwn_34 (by decide) rfl rfl ?_
    exact hv
  · have hv := hv.2 q13
    refine z_aload_n dX4_markOwn_12 rfl ?_
    refine z_getP dX4_markOwn_13 zf_X4_22 zn_23 zo_23 (fun _ _ _ _ _ => rfl) (hP 23 2 70 zp_23_2) ?_
    refine z_aload_n dX4_markOwn_16 rfl ?_
    refine z_aload_n dX4_markOwn_17 rfl ?_
    obtain ⟨b2, h3, hv⟩ := hv
    refine z_getP dX4_markOwn_18 zf_X4_98 h1.1 h1.2 (fun _ _ _ _ _ => rfl) h3 ?_
    refine z_iload dX4_markOwn_21 rfl ?_
    obtain ⟨n5, h4, hv⟩ := hv
    obtain ⟨h6, hv⟩ := hv
    refine z_iaload dX4_markOwn_23 h4.1 h4.2 h6 ?_
    obtain ⟨n8, h7, hv⟩ := hv
    obtain ⟨h9, hv⟩ := hv
    refine z_iaload dX4_markOwn_24 h7.1 h7.2 h9 ?_
    refine z_iconst (v := 0) dX4_markOwn_25 (by decide) ?_
    obtain ⟨h10, hv⟩ := hv
    refine z_iastore dX4_markOwn_26 zn_70 zh_70 h10 (z_nmI (fun I12 e11 => ?_))
    have hv := hv I12 e11
    refine z_iinc (v2 := x4 + 1) (lv2 := [some (.ref 23), some (.ref p1), some (.int p2), some (.ref p3), some (.int (x4 + 1)), none]) dX4_markOwn_27 rfl (by rfl) (by decide) rfl rfl ?_
    refine z_goto (tgt := 3) dX4_markOwn_30 (by decide) ?_
    exact hv
def v_X4_markOwn (d : Nat) (Q : zQt) (p1 : Nat) (p2 : Int32) (p3 : Nat) (I : zI) (L : zL) (P : zP) : Prop :=
  gw_X4_markOwn d Q 3 [some (.ref 23), some (.ref p1), some (.int p2), some (.ref p3), some (.int 0), none] [] I L P
set_option maxRecDepth 20000 in
theorem g_X4_markOwn {d : Nat} {Q : zQt} {p1 : Nat} {p2 : Int32} {p3 : Nat} {I : zI} {L : zL} {P : zP} (hP : zPk P) (hv : v_X4_markOwn d Q p1 p2 p3 I L P) : zM zm_X4_markOwn d 0 0 [.ref 23, .ref p1, .int p2, .ref p3] I L P 205 Q := by
  unfold v_X4_markOwn at hv
  refine zM_of (lv0 := [some (.ref 23), some (.ref p1), some (.int p2), some (.ref p3), none, none]) (by decide +kernel) (Nat.le_of_ble_eq_true rfl) rfl ?_
  refine z_iconst (v := 0) dX4_markOwn_0 (by decide) ?_
  refine z_istore (lv2 := [some (.ref 23), some (.ref p1), some (.int p2), some (.ref p3), some (.int 0), none]) dX4_markOwn_1 (by decide) rfl rfl ?_
  exact hv
abbrev gw_X4_findGoers (d : Nat) (Q : zQt) (pc : Nat) (lv : zV) (st : List Value) (I : zI) (L : zL) (P : zP) : Prop := zW zm_X4_findGoers (zRm d 0 0) 0 0 Q pc lv st I L P 205 0 0
def v_X4_findGoers_67 (d : Nat) (Q : zQt) (p1 : Nat) (x2 : Int32) (x3 : Int32) (x4 : Nat) (x5 : Int32) (I : zI) (L : zL) (P : zP) : Prop :=
  (p1 < 205 ∧ (zsh p1).1 = 5) ∧
  (((I p1 3) ≤ x5 →
    gw_X4_findGoers (d + 1) Q 23 [some (.ref 23), some (.ref p1), some (.int x2), some (.int (x3 + 1)), none, none, none, none] [] I L P
  ) ∧ (¬ (I p1 3) ≤ x5 →
    ∃ b30 : Nat, P p1 2 = some b30 ∧
    ∃ n33, (b30 < 205 ∧ zsh b30 = (100, n33)) ∧
    vp_in x5 n33 ∧
    ∃ n36, (x4 < 205 ∧ zsh x4 = (100, n36)) ∧
    vp_in (I b30 x5.toNatClampNeg) n36 ∧
    vp_in (I x4 (I b30 x5.toNatClampNeg).toNatClampNeg) 256 ∧
    (((I 70 (I x4 (I b30 x5.toNatClampNeg).toNatClampNeg).toNatClampNeg) = 1 →
      vp_in (I b30 x5.toNatClampNeg) 256 ∧
      ∀ I41 : zI, I41 = zuI I 72 (I b30 x5.toNatClampNeg).toNatClampNeg ((I 72 (I b30 x5.toNatClampNeg).toNatClampNeg) ||| ((1 : Int32) <<< (x3 &&& 31) : Int32) : Int32) →
      gw_X4_findGoers (d + 1) Q 67 [some (.ref 23), some (.ref p1), some (.int x2), some (.int x3), some (.ref x4), some (.int (x5 + 1)), none, none] [] I41 L P
    ) ∧ (¬ (I 70 (I x4 (I b30 x5.toNatClampNeg).toNatClampNeg).toNatClampNeg) = 1 →
      ((¬ (I 70 (I x4 (I b30 x5.toNatClampNeg).toNatClampNeg).toNatClampNeg) = 2 →
        gw_X4_findGoers (d + 1) Q 67 [some (.ref 23), some (.ref p1), some (.int x2), some (.int x3), some (.ref x4), some (.int (x5 + 1)), none, none] [] I L P
      ) ∧ ((I 70 (I x4 (I b30 x5.toNatClampNeg).toNatClampNeg).toNatClampNeg) = 2 →
        ∃ b42 : Nat, P p1 1 = some b42 ∧
        (b42 < 205 ∧ (zsh b42).1 = 2) ∧
        (((I b42 7) = 0 →
          gw_X4_findGoers (d + 1) Q 67 [some (.ref 23), some (.ref p1), some (.int x2), some (.int x3), some (.ref x4), some (.int (x5 + 1)), none, none] [] I L P
        ) ∧ (¬ (I b42 7) = 0 →
          vp_in (I b30 x5.toNatClampNeg) 256 ∧
          ∀ I47 : zI, I47 = zuI I 72 (I b30 x5.toNatClampNeg).toNatClampNeg ((I 72 (I b30 x5.toNatClampNeg).toNatClampNeg) ||| ((1 : Int32) <<< (x3 &&& 31) : Int32) : Int32) →
          gw_X4_findGoers (d + 1) Q 67 [some (.ref 23), some (.ref p1), some (.int x2), some (.int x3), some (.ref x4), some (.int (x5 + 1)), none, none] [] I47 L P
        ))
      ))
    ))
  ))
set_option maxRecDepth 20000 in
theorem g_X4_findGoers_67 {d : Nat} {Q : zQt} {p1 : Nat} {x2 : Int32} {x3 : Int32} {x4 : Nat} {x5 : Int32} {I : zI} {L : zL} {P : zP} (hP : zPk P) (hv : v_X4_findGoers_67 d Q p1 x2 x3 x4 x5 I L P) : gw_X4_findGoers (d + 1) Q 67 [some (.ref 23), some (.ref p1), some (.int x2), some (.int x3), some (.ref x4), some (.int x5), none, none] [] I L P := by
  unfold v_X4_findGoers_67 at hv
  refine z_iload dX4_findGoers_67 rfl ?_
  refine z_aload_n dX4_findGoers_69 rfl ?_
  obtain ⟨h29, hv⟩ := hv
  refine z_getI dX4_findGoers_70 zf_X4_95 h29.1 h29.2 (fun _ _ _ _ _ => rfl) ?_
  refine z_icmp_ge (tgt := 138) dX4_findGoers_73 (by decide) (fun q51 => ?_) (fun q51 => ?_)
  · have hv := hv.1 q51
    refine z_iinc (v2 := x3 + 1) (lv2 := [some (.ref 23), some (.ref p1), some (.int x2), some (.int (x3 + 1)), some (.ref x4), some (.int x5), none, none]) dX4_findGoers_138 rfl (by rfl) (by decide) rfl rfl ?_
    refine z_goto (tgt := 23) dX4_findGoers_141 (by decide) ?_
    exact z_sub (by exact ⟨rfl, ⟨rfl, ⟨rfl, ⟨rfl, trivial⟩⟩⟩⟩) hv
  · have hv := hv.2 q51
    refine z_aload_n dX4_findGoers_76 rfl ?_
    obtain ⟨b30, h31, hv⟩ := hv
    refine z_getP dX4_findGoers_77 zf_X4_98 h29.1 h29.2 (fun _ _ _ _ _ => rfl) h31 ?_
    refine z_iload dX4_findGoers_80 rfl ?_
    obtain ⟨n33, h32, hv⟩ := hv
    obtain ⟨h34, hv⟩ := hv
    refine z_iaload dX4_findGoers_82 h32.1 h32.2 h34 ?_
    refine z_istore (lv2 := [some (.ref 23), some (.ref p1), some (.int x2), some (.int x3), some (.ref x4), some (.int x5), some (.int (I b30 x5.toNatClampNeg)), none]) dX4_findGoers_83 (by decide) rfl rfl ?_
    refine z_aload_n dX4_findGoers_85 rfl ?_
    refine z_getP dX4_findGoers_86 zf_X4_22 zn_23 zo_23 (fun _ _ _ _ _ => rfl) (hP 23 2 70 zp_23_2) ?_
    refine z_aload dX4_findGoers_89 rfl ?_
    refine z_iload dX4_findGoers_91 rfl ?_
    obtain ⟨n36, h35, hv⟩ := hv
    obtain ⟨h37, hv⟩ := hv
    refine z_iaload dX4_findGoers_93 h35.1 h35.2 h37 ?_
    obtain ⟨h38, hv⟩ := hv
    refine z_iaload dX4_findGoers_94 zn_70 zh_70 h38 ?_
    refine z_istore (lv2 := [some (.ref 23), some (.ref p1), some (.int x2), some (.int x3), some (.ref x4), some (.int x5), some (.int (I b30 x5.toNatClampNeg)), some (.int (I 70 (I x4 (I b30 x5.toNatClampNeg).toNatClampNeg).toNatClampNeg))]) dX4_findGoers_95 (by decide) rfl rfl ?_
    refine z_iload dX4_findGoers_97 rfl ?_
    refine z_iconst (v := 1) dX4_findGoers_99 (by decide) ?_
    refine z_icmp_eq (tgt := 119) dX4_findGoers_100 (by decide) (fun q50 => ?_) (fun q50 => ?_)
    · have hv := hv.1 q50
      refine z_aload_n dX4_findGoers_119 rfl ?_
      refine z_getP dX4_findGoers_120 zf_X4_28 zn_23 zo_23 (fun _ _ _ _ _ => rfl) (hP 23 4 72 zp_23_4) ?_
      refine z_iload dX4_findGoers_123 rfl ?_
      refine z_dup2 dX4_findGoers_125 rfl rfl ?_
      obtain ⟨h39, hv⟩ := hv
      refine z_iaload dX4_findGoers_126 zn_72 zh_72 h39 ?_
      refine z_iconst (v := 1) dX4_findGoers_127 (by decide) ?_
      refine z_iload_n dX4_findGoers_128 rfl ?_
      refine z_ishl dX4_findGoers_129 ?_
      refine z_ior dX4_findGoers_130 ?_
      refine z_iastore dX4_findGoers_131 zn_72 zh_72 h39 (z_nmI (fun I41 e40 => ?_))
      have hv := hv I41 e40
      refine z_iinc (v2 := x5 + 1) (lv2 := [some (.ref 23), some (.ref p1), some (.int x2), some (.int x3), some (.ref x4), some (.int (x5 + 1)), some (.int (I b30 x5.toNatClampNeg)), some (.int (I 70 (I x4 (I b30 x5.toNatClampNeg).toNatClampNeg).toNatClampNeg))]) dX4_findGoers_132 rfl (by rfl) (by decide) rfl rfl ?_
      refine z_goto (tgt := 67) dX4_findGoers_135 (by decide) ?_
      exact z_sub (by exact ⟨rfl, ⟨rfl, ⟨rfl, ⟨rfl, ⟨rfl, ⟨rfl, trivial⟩⟩⟩⟩⟩⟩) hv
    · have hv := hv.2 q50
      refine z_iload dX4_findGoers_103 rfl ?_
      refine z_iconst (v := 2) dX4_findGoers_105 (by decide) ?_
      refine z_icmp_ne (tgt := 132) dX4_findGoers_106 (by decide) (fun q49 => ?_) (fun q49 => ?_)
      · have hv := hv.1 q49
        refine z_iinc (v2 := x5 + 1) (lv2 := [some (.ref 23), some (.ref p1), some (.int x2), some (.int x3), some (.ref x4), some (.int (x5 + 1)), some (.int (I b30 x5.toNatClampNeg)), some (.int (I 70 (I x4 (I b30 x5.toNatClampNeg).toNatClampNeg).toNatClampNeg))]) dX4_findGoers_132 rfl (by rfl) (by decide) rfl rfl ?_
        refine z_goto (tgt := 67) dX4_findGoers_135 (by decide) ?_
        exact z_sub (by exact ⟨rfl, ⟨rfl, ⟨rfl, ⟨rfl, ⟨rfl, ⟨rfl, trivial⟩⟩⟩⟩⟩⟩) hv
      · have hv := hv.2 q49
        refine z_aload_n dX4_findGoers_109 rfl ?_
        obtain ⟨b42, h43, hv⟩ := hv
        refine z_getP dX4_findGoers_110 zf_X4_35 h29.1 h29.2 (fun _ _ _ _ _ => rfl) h43 ?_
        obtain ⟨h44, hv⟩ := hv
        refine z_getI dX4_findGoers_113 zf_X4_171 h44.1 h44.2 (fun _ _ _ _ _ => rfl) ?_
        refine z_if_eq (tgt := 132) dX4_findGoers_116 (by decide) (fun q48 => ?_) (fun q48 => ?_)
        · have hv := hv.1 q48
          refine z_iinc (v2 := x5 + 1) (lv2 := [some (.ref 23), some (.ref p1), some (.int x2), some (.int x3), some (.ref x4), some (.int (x5 + 1)), some (.int (I b30 x5.toNatClampNeg)), some (.int (I 70 (I x4 (I b30 x5.toNatClampNeg).toNatClampNeg).toNatClampNeg))]) dX4_findGoers_132 rfl (by rfl) (by decide) rfl rfl ?_
          refine z_goto (tgt := 67) dX4_findGoers_135 (by decide) ?_
          exact z_sub (by exact ⟨rfl, ⟨rfl, ⟨rfl, ⟨rfl, ⟨rfl, ⟨rfl, trivial⟩⟩⟩⟩⟩⟩) hv
        · have hv := hv.2 q48
          refine z_aload_n dX4_findGoers_119 rfl ?_
          refine z_getP dX4_findGoers_120 zf_X4_28 zn_23 zo_23 (fun _ _ _ _ _ => rfl) (hP 23 4 72 zp_23_4) ?_
          refine z_iload dX4_findGoers_123 rfl ?_
          refine z_dup2 dX4_findGoers_125 rfl rfl ?_
          obtain ⟨h45, hv⟩ := hv
          refine z_iaload dX4_findGoers_126 zn_72 zh_72 h45 ?_
          refine z_iconst (v := 1) dX4_findGoers_127 (by decide) ?_
          refine z_iload_n dX4_findGoers_128 rfl ?_
          refine z_ishl dX4_findGoers_129 ?_
          refine z_ior dX4_findGoers_130 ?_
          refine z_iastore dX4_findGoers_131 zn_72 zh_72 h45 (z_nmI (fun I47 e46 => ?_))
          have hv := hv I47 e46
          refine z_iinc (v2 := x5 + 1) (lv2 := [some (.ref 23), some (.ref p1), some (.int x2), some (.int x3), some (.ref x4), some (.int (x5 + 1)), some (.int (I b30 x5.toNatClampNeg)), some (.int (I 70 (I x4 (I b30 x5.toNatClampNeg).toNatClampNeg).toNatClampNeg))]) dX4_findGoers_132 rfl (by rfl) (by decide) rfl rfl ?_
          refine z_goto (tgt := 67) dX4_findGoers_135 (by decide) ?_
          exact z_sub (by exact ⟨rfl, ⟨rfl, ⟨rfl, ⟨rfl, ⟨rfl, ⟨rfl, trivial⟩⟩⟩⟩⟩⟩) hv
def v_X4_findGoers_23 (d : Nat) (Q : zQt) (p1 : Nat) (x2 : Int32) (x3 : Int32) (I : zI) (L : zL) (P : zP) : Prop :=
  (p1 < 205 ∧ (zsh p1).1 = 5) ∧
  ∃ b11 : Nat, P p1 1 = some b11 ∧
  (b11 < 205 ∧ (zsh b11).1 = 2) ∧
  (((I b11 0) ≤ x3 →
    Q (some (.ref 72)) I L P 205
  ) ∧ (¬ (I b11 0) ≤ x3 →
    ((¬ ((x2 >>> (x3 &&& 31) : Int32) &&& 1 : Int32) = 1 →
      ∃ b14 : Nat, P p1 0 = some b14 ∧
      (b14 < 205 ∧ (zsh b14).1 = 9) ∧
      zMr zm_X10_of d [.ref b14, .int x3] I L P (fun r21 I17 L18 P19 =>
        zMv zm_X4_markOwn d [.ref 23, .ref p1, .int x3, .ref r21] I17 L18 P19 (fun I22 L23 P24 =>
          gw_X4_findGoers (d + 1) Q 67 [some (.ref 23), some (.ref p1), some (.int x2), some (.int x3), some (.ref r21), some (.int 0), none, none] [] I22 L23 P24
        )
      )
    ) ∧ (((x2 >>> (x3 &&& 31) : Int32) &&& 1 : Int32) = 1 →
      gw_X4_findGoers (d + 1) Q 23 [some (.ref 23), some (.ref p1), some (.int x2), some (.int (x3 + 1)), none, none, none, none] [] I L P
    ))
  ))
set_option maxRecDepth 20000 in
theorem g_X4_findGoers_23 {d : Nat} {Q : zQt} {p1 : Nat} {x2 : Int32} {x3 : Int32} {I : zI} {L : zL} {P : zP} (hP : zPk P) (hv : v_X4_findGoers_23 d Q p1 x2 x3 I L P) : gw_X4_findGoers (d + 1) Q 23 [some (.ref 23), some (.ref p1), some (.int x2), some (.int x3), none, none, none, none] [] I L P := by
  unfold v_X4_findGoers_23 at hv
  refine z_iload_n dX4_findGoers_23 rfl ?_
  refine z_aload_n dX4_findGoers_24 rfl ?_
  obtain ⟨h10, hv⟩ := hv
  obtain ⟨b11, h12, hv⟩ := hv
  refine z_getP dX4_findGoers_25 zf_X4_35 h10.1 h10.2 (fun _ _ _ _ _ => rfl) h12 ?_
  obtain ⟨h13, hv⟩ := hv
  refine z_getI dX4_findGoers_28 zf_X4_137 h13.1 h13.2 (fun _ _ _ _ _ => rfl) ?_
  refine z_icmp_ge (tgt := 144) dX4_findGoers_31 (by decide) (fun q28 => ?_) (fun q28 => ?_)
  · have hv := hv.1 q28
    refine z_aload_n dX4_findGoers_144 rfl ?_
    refine z_getP dX4_findGoers_145 zf_X4_28 zn_23 zo_23 (fun _ _ _ _ _ => rfl) (hP 23 4 72 zp_23_4) ?_
    exact z_areturn dX4_findGoers_148 rfl (Nat.le_refl _) (Nat.le_refl _) hv
  · have hv := hv.2 q28
    refine z_iload_n dX4_findGoers_34 rfl ?_
    refine z_iload_n dX4_findGoers_35 rfl ?_
    refine z_ishr dX4_findGoers_36 ?_
    refine z_iconst (v := 1) dX4_findGoers_37 (by decide) ?_
    refine z_iand dX4_findGoers_38 ?_
    refine z_iconst (v := 1) dX4_findGoers_39 (by decide) ?_
    refine z_icmp_ne (tgt := 46) dX4_findGoers_40 (by decide) (fun q27 => ?_) (fun q27 => ?_)
    · have hv := hv.1 q27
      refine z_aload_n dX4_findGoers_46 rfl ?_
      obtain ⟨b14, h15, hv⟩ := hv
      refine z_getP dX4_findGoers_47 zf_X4_117 h10.1 h10.2 (fun _ _ _ _ _ => rfl) h15 ?_
      refine z_iload_n dX4_findGoers_50 rfl ?_
      obtain ⟨h16, hv⟩ := hv
      refine z_callV (As := [.int x3]) (st := []) dX4_findGoers_51 zl_X4_121 zv_X10_of (by decide) rfl h16.1 h16.2 rfl rfl (Nat.le_of_ble_eq_true rfl) ⟨Nat.le_refl _, Nat.le_refl _⟩ ⟨Nat.le_refl _, Nat.le_refl _⟩ hv (fun v1 I17 L18 P19 nx1 q20 => ?_)
      obtain ⟨rfl, r21, rfl, hv⟩ := q20
      refine z_astore (lv2 := [some (.ref 23), some (.ref p1), some (.int x2), some (.int x3), some (.ref r21), none, none, none]) dX4_findGoers_54 (by decide) rfl rfl ?_
      refine z_aload_n dX4_findGoers_56 rfl ?_
      refine z_aload_n dX4_findGoers_57 rfl ?_
      refine z_iload_n dX4_findGoers_58 rfl ?_
      refine z_aload dX4_findGoers_59 rfl ?_
      refine z_callV (As := [.ref p1, .int x3, .ref r21]) (st := []) dX4_findGoers_61 zl_X4_165 zv_X4_markOwn (by decide) rfl zn_23 zo_23 rfl rfl (Nat.le_of_ble_eq_true rfl) ⟨Nat.le_refl _, Nat.le_refl _⟩ ⟨Nat.le_refl _, Nat.le_refl _⟩ hv (fun v1 I22 L23 P24 nx1 q25 => ?_)
      obtain ⟨rfl, rfl, hv⟩ := q25
      refine z_iconst (v := 0) dX4_findGoers_64 (by decide) ?_
      refine z_istore (lv2 := [some (.ref 23), some (.ref p1), some (.int x2), some (.int x3), some (.ref r21), some (.int 0), none, none]) dX4_findGoers_65 (by decide) rfl rfl ?_
      exact hv
    · have hv := hv.2 q27
      refine z_goto (tgt := 138) dX4_findGoers_43 (by decide) ?_
      refine z_iinc (v2 := x3 + 1) (lv2 := [some (.ref 23), some (.ref p1), some (.int x2), some (.int (x3 + 1)), none, none, none, none]) dX4_findGoers_138 rfl (by rfl) (by decide) rfl rfl ?_
      refine z_goto (tgt := 23) dX4_findGoers_141 (by decide) ?_
      exact hv
def v_X4_findGoers (d : Nat) (Q : zQt) (p1 : Nat) (I : zI) (L : zL) (P : zP) : Prop :=
  zMv zm_J7_fill_53178 d [.ref 72, .int 0] I L P (fun I1 L2 P3 =>
    (p1 < 205 ∧ (zsh p1).1 = 5) ∧
    ∃ b7 : Nat, P3 p1 1 = some b7 ∧
    (b7 < 205 ∧ (zsh b7).1 = 2) ∧
    gw_X4_findGoers (d + 1) Q 23 [some (.ref 23), some (.ref p1), some (.int ((I1 p1 4) ||| (I1 b7 2) : Int32)), some (.int 0), none, none, none, none] [] I1 L2 P3
  )
set_option maxRecDepth 20000 in
theorem g_X4_findGoers {d : Nat} {Q : zQt} {p1 : Nat} {I : zI} {L : zL} {P : zP} (hP : zPk P) (hv : v_X4_findGoers d Q p1 I L P) : zM zm_X4_findGoers (d + 1) 0 0 [.ref 23, .ref p1] I L P 205 Q := by
  unfold v_X4_findGoers at hv
  refine zM_of (lv0 := [some (.ref 23), some (.ref p1), none, none, none, none, none, none]) (by decide +kernel) (Nat.le_of_ble_eq_true rfl) rfl ?_
  refine z_aload_n dX4_findGoers_0 rfl ?_
  refine z_getP dX4_findGoers_1 zf_X4_28 zn_23 zo_23 (fun _ _ _ _ _ => rfl) (hP 23 4 72 zp_23_4) ?_
  refine z_iconst (v := 0) dX4_findGoers_4 (by decide) ?_
  refine z_callS (As := [.ref 72, .int 0]) (st := []) dX4_findGoers_5 zl_X4_131 zs_J7_fill_53178 rfl rfl (Nat.le_of_ble_eq_true rfl) ⟨Nat.le_refl _, Nat.le_refl _⟩ ⟨Nat.le_refl _, Nat.le_refl _⟩ hv (fun v1 I1 L2 P3 nx1 q4 => ?_)
  obtain ⟨rfl, rfl, hv⟩ := q4
  refine z_aload_n dX4_findGoers_8 rfl ?_
  obtain ⟨h6, hv⟩ := hv
  refine z_getI dX4_findGoers_9 zf_X4_101 h6.1 h6.2 (fun _ _ _ _ _ => rfl) ?_
  refine z_aload_n dX4_findGoers_12 rfl ?_
  obtain ⟨b7, h8, hv⟩ := hv
  refine z_getP dX4_findGoers_13 zf_X4_35 h6.1 h6.2 (fun _ _ _ _ _ => rfl) h8 ?_
  obtain ⟨h9, hv⟩ := hv
  refine z_getI dX4_findGoers_16 zf_X4_168 h9.1 h9.2 (fun _ _ _ _ _ => rfl) ?_
  refine z_ior dX4_findGoers_19 ?_
  refine z_istore_n (lv2 := [some (.ref 23), some (.ref p1), some (.int ((I1 p1 4) ||| (I1 b7 2) : Int32)), none, none, none, none, none]) dX4_findGoers_20 (by decide) rfl rfl ?_
  refine z_iconst (v := 0) dX4_findGoers_21 (by decide) ?_
  refine z_istore_n (lv2 := [some (.ref 23), some (.ref p1), some (.int ((I1 p1 4) ||| (I1 b7 2) : Int32)), some (.int 0), none, none, none, none]) dX4_findGoers_22 (by decide) rfl rfl ?_
  exact hv
abbrev gw_X4_pass (d : Nat) (Q : zQt) (pc : Nat) (lv : zV) (st : List Value) (I : zI) (L : zL) (P : zP) : Prop := zW zm_X4_pass (zRm d 0 0) 0 0 Q pc lv st I L P 205 0 0
def v_X4_pass (d : Nat) (Q : zQt) (p1 : Nat) (I : zI) (L : zL) (P : zP) : Prop :=
  zMr zm_X4_findGoers d [.ref 23, .ref p1] I L P (fun r5 I1 L2 P3 =>
    zPk P3 ∧
    (p1 < 205 ∧ (zsh p1).1 = 5) ∧
    ∃ b8 : Nat, P3 p1 1 = some b8 ∧
    (b8 < 205 ∧ (zsh b8).1 = 2) ∧
    vp_in (I1 b8 1) 256 ∧
    zMv zm_X6_keepEqual d [.ref p1, .ref 72, .int (I1 72 (I1 b8 1).toNatClampNeg)] I1 L2 P3 (fun I12 L13 P14 =>
      ∀ I17 : zI, I17 = zuI I12 p1 4 ((I12 p1 4) ||| (I1 72 (I1 b8 1).toNatClampNeg) : Int32) →
      ∀ I19 : zI, I19 = zuI I17 p1 5 ((I17 p1 5) + 1) →
      Q (some (.int (I1 72 (I1 b8 1).toNatClampNeg))) I19 L13 P14 205
    )
  )
set_option maxRecDepth 20000 in
theorem g_X4_pass {d : Nat} {Q : zQt} {p1 : Nat} {I : zI} {L : zL} {P : zP} (hP : zPk P) (hv : v_X4_pass d Q p1 I L P) : zM zm_X4_pass (d + 1) 0 0 [.ref 23, .ref p1] I L P 205 Q := by
  unfold v_X4_pass at hv
  refine zM_of (lv0 := [some (.ref 23), some (.ref p1), none]) (by decide +kernel) (Nat.le_of_ble_eq_true rfl) rfl ?_
  refine z_aload_n dX4_pass_0 rfl ?_
  refine z_aload_n dX4_pass_1 rfl ?_
  refine z_callV (As := [.ref p1]) (st := []) dX4_pass_2 zl_X4_175 zv_X4_findGoers (by decide) rfl zn_23 zo_23 rfl rfl (Nat.le_of_ble_eq_true rfl) ⟨Nat.le_refl _, Nat.le_refl _⟩ ⟨Nat.le_refl _, Nat.le_refl _⟩ hv (fun v1 I1 L2 P3 nx1 q4 => ?_)
  obtain ⟨rfl, r5, rfl, hv⟩ := q4
  refine z_pop dX4_pass_5 rfl ?_
  refine z_aload_n dX4_pass_6 rfl ?_
  obtain ⟨h6, hv⟩ := hv
  refine z_getP dX4_pass_7 zf_X4_28 zn_23 zo_23 (fun _ _ _ _ _ => rfl) (h6 23 4 72 zp_23_4) ?_
  refine z_aload_n dX4_pass_10 rfl ?_
  obtain ⟨h7, hv⟩ := hv
  obtain ⟨b8, h9, hv⟩ := hv
  refine z_getP dX4_pass_11 zf_X4_35 h7.1 h7.2 (fun _ _ _ _ _ => rfl) h9 ?_
  obtain ⟨h10, hv⟩ := hv
  refine z_getI dX4_pass_14 zf_X4_162 h10.1 h10.2 (fun _ _ _ _ _ => rfl) ?_
  obtain ⟨h11, hv⟩ := hv
  refine z_iaload dX4_pass_17 zn_72 zh_72 h11 ?_
  refine z_istore_n (lv2 := [some (.ref 23), some (.ref p1), some (.int (I1 72 (I1 b8 1).toNatClampNeg))]) dX4_pass_18 (by decide) rfl rfl ?_
  refine z_aload_n dX4_pass_19 rfl ?_
  refine z_aload_n dX4_pass_20 rfl ?_
  refine z_getP dX4_pass_21 zf_X4_28 zn_23 zo_23 (fun _ _ _ _ _ => rfl) (h6 23 4 72 zp_23_4) ?_
  refine z_iload_n dX4_pass_24 rfl ?_
  refine z_callV (As := [.ref 72, .int (I1 72 (I1 b8 1).toNatClampNeg)]) (st := []) dX4_pass_25 zl_X4_179 zv_X6_keepEqual (by decide) rfl h7.1 h7.2 rfl rfl (Nat.le_of_ble_eq_true rfl) ⟨Nat.le_refl _, Nat.le_refl _⟩ ⟨Nat.le_refl _, Nat.le_refl _⟩ hv (fun v1 I12 L13 P14 nx1 q15 => ?_)
  obtain ⟨rfl, rfl, hv⟩ := q15
  refine z_aload_n dX4_pass_28 rfl ?_
  refine z_dup dX4_pass_29 rfl ?_
  refine z_getI dX4_pass_30 zf_X4_101 h7.1 h7.2 (fun _ _ _ _ _ => rfl) ?_
  refine z_iload_n dX4_pass_33 rfl ?_
  refine z_ior dX4_pass_34 ?_
  refine z_putI dX4_pass_35 zf_X4_101 h7.1 h7.2 (Or.inl rfl) (fun _ _ _ _ _ => rfl) rfl rfl (z_nmI (fun I17 e18 => ?_))
  have hv := hv I17 e18
  refine z_aload_n dX4_pass_38 rfl ?_
  refine z_dup dX4_pass_39 rfl ?_
  refine z_getI dX4_pass_40 zf_X4_182 h7.1 h7.2 (fun _ _ _ _ _ => rfl) ?_
  refine z_iconst (v := 1) dX4_pass_43 (by decide) ?_
  refine z_iadd dX4_pass_44 ?_
  refine z_putI dX4_pass_45 zf_X4_182 h7.1 h7.2 (Or.inl rfl) (fun _ _ _ _ _ => rfl) rfl rfl (z_nmI (fun I19 e20 => ?_))
  have hv := hv I19 e20
  refine z_iload_n dX4_pass_48 rfl ?_
  exact z_ireturn dX4_pass_49 rfl rfl (Nat.le_refl _) (Nat.le_refl _) hv
