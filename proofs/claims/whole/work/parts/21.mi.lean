/-! ===== the model: boxes ===== -/
/-- 0 and 1 alone -/
def MZ (I : zI) : Prop := (∀ w, w < 256 → I 180 w = 0 ∨ I 180 w = 1) ∧ ∀ j, j < 2048 → I 181 j = 0 ∨ I 181 j = 1
def MZb (I : zI) (b : Nat) : Prop := (∀ w, w < 256 → I 203 (256 * b + w) = 0 ∨ I 203 (256 * b + w) = 1) ∧ ∀ j, j < 2048 → I 204 (2048 * b + j) = 0 ∨ I 204 (2048 * b + j) = 1
theorem MZ_MO {I : zI} (hB : MB I) (h : MZ I) : MO I := fun w hw => h.1 w (by have := vN_le hB; omega)
abbrev gw_X12_keep (d : Nat) (Q : zQt) (pc : Nat) (lv : zV) (st : List Value) (I : zI) (L : zL) (P : zP) : Prop := zW zm_X12_keep (zRm d 0 0) 0 0 Q pc lv st I L P 205 0 0
abbrev v_X12_keep_96 (d : Nat) (Q : zQt) (p1 : Int32) (x2 : Int32) (I : zI) (L : zL) (P : zP) : Prop :=
  ((2048 ≤ x2 →
    Q none I L P 205
  ) ∧ (¬ 2048 ≤ x2 →
    vp_in x2 2048 ∧
    vp_in (((2048 : Int32) * p1) + x2) 8192 ∧
    (I 181 x2.toNatClampNeg = 0 ∨ I 181 x2.toNatClampNeg = 1) ∧
    ∀ I23 : zI, I23 = zuI I 204 (((2048 : Int32) * p1) + x2).toNatClampNeg (I 181 x2.toNatClampNeg) →
    gw_X12_keep d Q 96 [some (.ref 160), some (.int p1), some (.int (x2 + 1))] [] I23 L P
  ))
set_option maxRecDepth 20000 in
theorem g_X12_keep_96 {d : Nat} {Q : zQt} {p1 : Int32} {x2 : Int32} {I : zI} {L : zL} {P : zP} (hP : zPk P) (hv : v_X12_keep_96 d Q p1 x2 I L P) : gw_X12_keep d Q 96 [some (.ref 160), some (.int p1), some (.int x2)] [] I L P := by
  unfold v_X12_keep_96 at hv
  refine z_iload_n dX12_keep_96 rfl ?_
  refine z_sipush (v := 2048) dX12_keep_97 (by decide) ?_
  refine z_icmp_ge (tgt := 127) dX12_keep_100 (by decide) (fun q19 => ?_) (fun q19 => ?_)
  · have hv := hv.1 q19
    exact z_return dX12_keep_127 rfl (Nat.le_refl _) (Nat.le_refl _) hv
  · have hv := hv.2 q19
    refine z_aload_n dX12_keep_103 rfl ?_
    refine z_getP dX12_keep_104 zf_X12_146 zn_160 zo_160 (fun _ _ _ _ _ => rfl) (hP 160 67 204 zp_160_67) ?_
    refine z_sipush (v := 2048) dX12_keep_107 (by decide) ?_
    refine z_iload_n dX12_keep_110 rfl ?_
    refine z_imul dX12_keep_111 ?_
    refine z_iload_n dX12_keep_112 rfl ?_
    refine z_iadd dX12_keep_113 ?_
    refine z_aload_n dX12_keep_114 rfl ?_
    refine z_getP dX12_keep_115 zf_X12_77 zn_160 zo_160 (fun _ _ _ _ _ => rfl) (hP 160 36 181 zp_160_36) ?_
    refine z_iload_n dX12_keep_118 rfl ?_
    obtain ⟨h20, hv⟩ := hv
    refine z_zaload dX12_keep_119 zn_181 zh_181 h20 ?_
    obtain ⟨h21, hv⟩ := hv
    obtain ⟨h24, hv⟩ := hv
    refine z_zastore dX12_keep_120 zn_204 zh_204 h21 (zbn h24) (z_nmI (fun I23 e22 => ?_))
    have hv := hv I23 e22
    refine z_iinc (v2 := x2 + 1) (lv2 := [some (.ref 160), some (.int p1), some (.int (x2 + 1))]) dX12_keep_121 rfl (by rfl) (by decide) rfl rfl ?_
    refine z_goto (tgt := 96) dX12_keep_124 (by decide) ?_
    exact hv
abbrev v_X12_keep_65 (d : Nat) (Q : zQt) (p1 : Int32) (x2 : Int32) (I : zI) (L : zL) (P : zP) : Prop :=
  ((8 ≤ x2 →
    gw_X12_keep d Q 96 [some (.ref 160), some (.int p1), some (.int 0)] [] I L P
  ) ∧ (¬ 8 ≤ x2 →
    vp_in x2 8 ∧
    vp_in (((8 : Int32) * p1) + x2) 32 ∧
    ∀ I18 : zI, I18 = zuI I 202 (((8 : Int32) * p1) + x2).toNatClampNeg (I 182 x2.toNatClampNeg) →
    gw_X12_keep d Q 65 [some (.ref 160), some (.int p1), some (.int (x2 + 1))] [] I18 L P
  ))
set_option maxRecDepth 20000 in
theorem g_X12_keep_65 {d : Nat} {Q : zQt} {p1 : Int32} {x2 : Int32} {I : zI} {L : zL} {P : zP} (hP : zPk P) (hv : v_X12_keep_65 d Q p1 x2 I L P) : gw_X12_keep d Q 65 [some (.ref 160), some (.int p1), some (.int x2)] [] I L P := by
  unfold v_X12_keep_65 at hv
  refine z_iload_n dX12_keep_65 rfl ?_
  refine z_bipush (v := 8) dX12_keep_66 (by decide) ?_
  refine z_icmp_ge (tgt := 94) dX12_keep_68 (by decide) (fun q14 => ?_) (fun q14 => ?_)
  · have hv := hv.1 q14
    refine z_iconst (v := 0) dX12_keep_94 (by decide) ?_
    refine z_istore_n (lv2 := [some (.ref 160), some (.int p1), some (.int 0)]) dX12_keep_95 (by decide) rfl rfl ?_
    exact hv
  · have hv := hv.2 q14
    refine z_aload_n dX12_keep_71 rfl ?_
    refine z_getP dX12_keep_72 zf_X12_140 zn_160 zo_160 (fun _ _ _ _ _ => rfl) (hP 160 65 202 zp_160_65) ?_
    refine z_bipush (v := 8) dX12_keep_75 (by decide) ?_
    refine z_iload_n dX12_keep_77 rfl ?_
    refine z_imul dX12_keep_78 ?_
    refine z_iload_n dX12_keep_79 rfl ?_
    refine z_iadd dX12_keep_80 ?_
    refine z_aload_n dX12_keep_81 rfl ?_
    refine z_getP dX12_keep_82 zf_X12_80 zn_160 zo_160 (fun _ _ _ _ _ => rfl) (hP 160 37 182 zp_160_37) ?_
    refine z_iload_n dX12_keep_85 rfl ?_
    obtain ⟨h15, hv⟩ := hv
    refine z_iaload dX12_keep_86 zn_182 zh_182 h15 ?_
    obtain ⟨h16, hv⟩ := hv
    refine z_iastore dX12_keep_87 zn_202 zh_202 h16 (z_nmI (fun I18 e17 => ?_))
    have hv := hv I18 e17
    refine z_iinc (v2 := x2 + 1) (lv2 := [some (.ref 160), some (.int p1), some (.int (x2 + 1))]) dX12_keep_88 rfl (by rfl) (by decide) rfl rfl ?_
    refine z_goto (tgt := 65) dX12_keep_91 (by decide) ?_
    exact hv
abbrev v_X12_keep_32 (d : Nat) (Q : zQt) (p1 : Int32) (x2 : Int32) (I : zI) (L : zL) (P : zP) : Prop :=
  ((256 ≤ x2 →
    gw_X12_keep d Q 65 [some (.ref 160), some (.int p1), some (.int 0)] [] I L P
  ) ∧ (¬ 256 ≤ x2 →
    vp_in x2 256 ∧
    vp_in (((256 : Int32) * p1) + x2) 1024 ∧
    (I 180 x2.toNatClampNeg = 0 ∨ I 180 x2.toNatClampNeg = 1) ∧
    ∀ I12 : zI, I12 = zuI I 203 (((256 : Int32) * p1) + x2).toNatClampNeg (I 180 x2.toNatClampNeg) →
    gw_X12_keep d Q 32 [some (.ref 160), some (.int p1), some (.int (x2 + 1))] [] I12 L P
  ))
set_option maxRecDepth 20000 in
theorem g_X12_keep_32 {d : Nat} {Q : zQt} {p1 : Int32} {x2 : Int32} {I : zI} {L : zL} {P : zP} (hP : zPk P) (hv : v_X12_keep_32 d Q p1 x2 I L P) : gw_X12_keep d Q 32 [some (.ref 160), some (.int p1), some (.int x2)] [] I L P := by
  unfold v_X12_keep_32 at hv
  refine z_iload_n dX12_keep_32 rfl ?_
  refine z_sipush (v := 256) dX12_keep_33 (by decide) ?_
  refine z_icmp_ge (tgt := 63) dX12_keep_36 (by decide) (fun q8 => ?_) (fun q8 => ?_)
  · have hv := hv.1 q8
    refine z_iconst (v := 0) dX12_keep_63 (by decide) ?_
    refine z_istore_n (lv2 := [some (.ref 160), some (.int p1), some (.int 0)]) dX12_keep_64 (by decide) rfl rfl ?_
    exact hv
  · have hv := hv.2 q8
    refine z_aload_n dX12_keep_39 rfl ?_
    refine z_getP dX12_keep_40 zf_X12_143 zn_160 zo_160 (fun _ _ _ _ _ => rfl) (hP 160 66 203 zp_160_66) ?_
    refine z_sipush (v := 256) dX12_keep_43 (by decide) ?_
    refine z_iload_n dX12_keep_46 rfl ?_
    refine z_imul dX12_keep_47 ?_
    refine z_iload_n dX12_keep_48 rfl ?_
    refine z_iadd dX12_keep_49 ?_
    refine z_aload_n dX12_keep_50 rfl ?_
    refine z_getP dX12_keep_51 zf_X12_74 zn_160 zo_160 (fun _ _ _ _ _ => rfl) (hP 160 35 180 zp_160_35) ?_
    refine z_iload_n dX12_keep_54 rfl ?_
    obtain ⟨h9, hv⟩ := hv
    refine z_zaload dX12_keep_55 zn_180 zh_180 h9 ?_
    obtain ⟨h10, hv⟩ := hv
    obtain ⟨h13, hv⟩ := hv
    refine z_zastore dX12_keep_56 zn_203 zh_203 h10 (zbn h13) (z_nmI (fun I12 e11 => ?_))
    have hv := hv I12 e11
    refine z_iinc (v2 := x2 + 1) (lv2 := [some (.ref 160), some (.int p1), some (.int (x2 + 1))]) dX12_keep_57 rfl (by rfl) (by decide) rfl rfl ?_
    refine z_goto (tgt := 32) dX12_keep_60 (by decide) ?_
    exact hv
abbrev v_X12_keep (d : Nat) (Q : zQt) (p1 : Int32) (I : zI) (L : zL) (P : zP) : Prop :=
  vp_in p1 4 ∧
  ∀ I3 : zI, I3 = zuI I 199 p1.toNatClampNeg (I 160 39) →
  ∀ I5 : zI, I5 = zuI I3 200 p1.toNatClampNeg (I3 160 40) →
  ∀ I7 : zI, I7 = zuI I5 201 p1.toNatClampNeg (I5 160 38) →
  gw_X12_keep d Q 32 [some (.ref 160), some (.int p1), some (.int 0)] [] I7 L P
set_option maxRecDepth 20000 in
theorem g_X12_keep {d : Nat} {Q : zQt} {p1 : Int32} {I : zI} {L : zL} {P : zP} (hP : zPk P) (hv : v_X12_keep d Q p1 I L P) : zM zm_X12_keep d 0 0 [.ref 160, .int p1] I L P 205 Q := by
  unfold v_X12_keep at hv
  refine zM_of (lv0 := [some (.ref 160), some (.int p1), none]) (by decide +kernel) (Nat.le_of_ble_eq_true rfl) rfl ?_
  refine z_aload_n dX12_keep_0 rfl ?_
  refine z_getP dX12_keep_1 zf_X12_131 zn_160 zo_160 (fun _ _ _ _ _ => rfl) (hP 160 62 199 zp_160_62) ?_
  refine z_iload_n dX12_keep_4 rfl ?_
  refine z_aload_n dX12_keep_5 rfl ?_
  refine z_getI dX12_keep_6 zf_X12_356 zn_160 zo_160 (fun _ _ _ _ _ => rfl) ?_
  obtain ⟨h1, hv⟩ := hv
  refine z_iastore dX12_keep_9 zn_199 zh_199 h1 (z_nmI (fun I3 e2 => ?_))
  have hv := hv I3 e2
  refine z_aload_n dX12_keep_10 rfl ?_
  refine z_getP dX12_keep_11 zf_X12_134 zn_160 zo_160 (fun _ _ _ _ _ => rfl) (hP 160 63 200 zp_160_63) ?_
  refine z_iload_n dX12_keep_14 rfl ?_
  refine z_aload_n dX12_keep_15 rfl ?_
  refine z_getI dX12_keep_16 zf_X12_359 zn_160 zo_160 (fun _ _ _ _ _ => rfl) ?_
  refine z_iastore dX12_keep_19 zn_200 zh_200 h1 (z_nmI (fun I5 e4 => ?_))
  have hv := hv I5 e4
  refine z_aload_n dX12_keep_20 rfl ?_
  refine z_getP dX12_keep_21 zf_X12_137 zn_160 zo_160 (fun _ _ _ _ _ => rfl) (hP 160 64 201 zp_160_64) ?_
  refine z_iload_n dX12_keep_24 rfl ?_
  refine z_aload_n dX12_keep_25 rfl ?_
  refine z_getI dX12_keep_26 zf_X12_353 zn_160 zo_160 (fun _ _ _ _ _ => rfl) ?_
  refine z_iastore dX12_keep_29 zn_201 zh_201 h1 (z_nmI (fun I7 e6 => ?_))
  have hv := hv I7 e6
  refine z_iconst (v := 0) dX12_keep_30 (by decide) ?_
  refine z_istore_n (lv2 := [some (.ref 160), some (.int p1), some (.int 0)]) dX12_keep_31 (by decide) rfl rfl ?_
  exact hv
abbrev gw_X12_bring (d : Nat) (Q : zQt) (pc : Nat) (lv : zV) (st : List Value) (I : zI) (L : zL) (P : zP) : Prop := zW zm_X12_bring (zRm d 0 0) 0 0 Q pc lv st I L P 205 0 0
abbrev v_X12_bring_101 (d : Nat) (Q : zQt) (p1 : Int32) (x2 : Int32) (I : zI) (L : zL) (P : zP) : Prop :=
  ((2048 ≤ x2 →
    Q none I L P 205
  ) ∧ (¬ 2048 ≤ x2 →
    vp_in (((2048 : Int32) * p1) + x2) 8192 ∧
    vp_in x2 2048 ∧
    (I 204 (((2048 : Int32) * p1) + x2).toNatClampNeg = 0 ∨ I 204 (((2048 : Int32) * p1) + x2).toNatClampNeg = 1) ∧
    ∀ I25 : zI, I25 = zuI I 181 x2.toNatClampNeg (I 204 (((2048 : Int32) * p1) + x2).toNatClampNeg) →
    gw_X12_bring d Q 101 [some (.ref 160), some (.int p1), some (.int (x2 + 1))] [] I25 L P
  ))
set_option maxRecDepth 20000 in
theorem g_X12_bring_101 {d : Nat} {Q : zQt} {p1 : Int32} {x2 : Int32} {I : zI} {L : zL} {P : zP} (hP : zPk P) (hv : v_X12_bring_101 d Q p1 x2 I L P) : gw_X12_bring d Q 101 [some (.ref 160), some (.int p1), some (.int x2)] [] I L P := by
  unfold v_X12_bring_101 at hv
  refine z_iload_n dX12_bring_101 rfl ?_
  refine z_sipush (v := 2048) dX12_bring_102 (by decide) ?_
  refine z_icmp_ge (tgt := 132) dX12_bring_105 (by decide) (fun q21 => ?_) (fun q21 => ?_)
  · have hv := hv.1 q21
    exact z_return dX12_bring_132 rfl (Nat.le_refl _) (Nat.le_refl _) hv
  · have hv := hv.2 q21
    refine z_aload_n dX12_bring_108 rfl ?_
    refine z_getP dX12_bring_109 zf_X12_77 zn_160 zo_160 (fun _ _ _ _ _ => rfl) (hP 160 36 181 zp_160_36) ?_
    refine z_iload_n dX12_bring_112 rfl ?_
    refine z_aload_n dX12_bring_113 rfl ?_
    refine z_getP dX12_bring_114 zf_X12_146 zn_160 zo_160 (fun _ _ _ _ _ => rfl) (hP 160 67 204 zp_160_67) ?_
    refine z_sipush (v := 2048) dX12_bring_117 (by decide) ?_
    refine z_iload_n dX12_bring_120 rfl ?_
    refine z_imul dX12_bring_121 ?_
    refine z_iload_n dX12_bring_122 rfl ?_
    refine z_iadd dX12_bring_123 ?_
    obtain ⟨h22, hv⟩ := hv
    refine z_zaload dX12_bring_124 zn_204 zh_204 h22 ?_
    obtain ⟨h23, hv⟩ := hv
    obtain ⟨h26, hv⟩ := hv
    refine z_zastore dX12_bring_125 zn_181 zh_181 h23 (zbn h26) (z_nmI (fun I25 e24 => ?_))
    have hv := hv I25 e24
    refine z_iinc (v2 := x2 + 1) (lv2 := [some (.ref 160), some (.int p1), some (.int (x2 + 1))]) dX12_bring_126 rfl (by rfl) (by decide) rfl rfl ?_
    refine z_goto (tgt := 101) dX12_bring_129 (by decide) ?_
    exact hv
abbrev v_X12_bring_70 (d : Nat) (Q : zQt) (p1 : Int32) (x2 : Int32) (I : zI) (L : zL) (P : zP) : Prop :=
  ((8 ≤ x2 →
    gw_X12_bring d Q 101 [some (.ref 160), some (.int p1), some (.int 0)] [] I L P
  ) ∧ (¬ 8 ≤ x2 →
    vp_in (((8 : Int32) * p1) + x2) 32 ∧
    vp_in x2 8 ∧
    ∀ I20 : zI, I20 = zuI I 182 x2.toNatClampNeg (I 202 (((8 : Int32) * p1) + x2).toNatClampNeg) →
    gw_X12_bring d Q 70 [some (.ref 160), some (.int p1), some (.int (x2 + 1))] [] I20 L P
  ))
set_option maxRecDepth 20000 in
theorem g_X12_bring_70 {d : Nat} {Q : zQt} {p1 : Int32} {x2 : Int32} {I : zI} {L : zL} {P : zP} (hP : zPk P) (hv : v_X12_bring_70 d Q p1 x2 I L P) : gw_X12_bring d Q 70 [some (.ref 160), some (.int p1), some (.int x2)] [] I L P := by
  unfold v_X12_bring_70 at hv
  refine z_iload_n dX12_bring_70 rfl ?_
  refine z_bipush (v := 8) dX12_bring_71 (by decide) ?_
  refine z_icmp_ge (tgt := 99) dX12_bring_73 (by decide) (fun q16 => ?_) (fun q16 => ?_)
  · have hv := hv.1 q16
    refine z_iconst (v := 0) dX12_bring_99 (by decide) ?_
    refine z_istore_n (lv2 := [some (.ref 160), some (.int p1), some (.int 0)]) dX12_bring_100 (by decide) rfl rfl ?_
    exact hv
  · have hv := hv.2 q16
    refine z_aload_n dX12_bring_76 rfl ?_
    refine z_getP dX12_bring_77 zf_X12_80 zn_160 zo_160 (fun _ _ _ _ _ => rfl) (hP 160 37 182 zp_160_37) ?_
    refine z_iload_n dX12_bring_80 rfl ?_
    refine z_aload_n dX12_bring_81 rfl ?_
    refine z_getP dX12_bring_82 zf_X12_140 zn_160 zo_160 (fun _ _ _ _ _ => rfl) (hP 160 65 202 zp_160_65) ?_
    refine z_bipush (v := 8) dX12_bring_85 (by decide) ?_
    refine z_iload_n dX12_bring_87 rfl ?_
    refine z_imul dX12_bring_88 ?_
    refine z_iload_n dX12_bring_89 rfl ?_
    refine z_iadd dX12_bring_90 ?_
    obtain ⟨h17, hv⟩ := hv
    refine z_iaload dX12_bring_91 zn_202 zh_202 h17 ?_
    obtain ⟨h18, hv⟩ := hv
    refine z_iastore dX12_bring_92 zn_182 zh_182 h18 (z_nmI (fun I20 e19 => ?_))
    have hv := hv I20 e19
    refine z_iinc (v2 := x2 + 1) (lv2 := [some (.ref 160), some (.int p1), some (.int (x2 + 1))]) dX12_bring_93 rfl (by rfl) (by decide) rfl rfl ?_
    refine z_goto (tgt := 70) dX12_bring_96 (by decide) ?_
    exact hv
abbrev v_X12_bring_37 (d : Nat) (Q : zQt) (p1 : Int32) (x2 : Int32) (I : zI) (L : zL) (P : zP) : Prop :=
  ((256 ≤ x2 →
    gw_X12_bring d Q 70 [some (.ref 160), some (.int p1), some (.int 0)] [] I L P
  ) ∧ (¬ 256 ≤ x2 →
    vp_in (((256 : Int32) * p1) + x2) 1024 ∧
    vp_in x2 256 ∧
    (I 203 (((256 : Int32) * p1) + x2).toNatClampNeg = 0 ∨ I 203 (((256 : Int32) * p1) + x2).toNatClampNeg = 1) ∧
    ∀ I14 : zI, I14 = zuI I 180 x2.toNatClampNeg (I 203 (((256 : Int32) * p1) + x2).toNatClampNeg) →
    gw_X12_bring d Q 37 [some (.ref 160), some (.int p1), some (.int (x2 + 1))] [] I14 L P
  ))
set_option maxRecDepth 20000 in
theorem g_X12_bring_37 {d : Nat} {Q : zQt} {p1 : Int32} {x2 : Int32} {I : zI} {L : zL} {P : zP} (hP : zPk P) (hv : v_X12_bring_37 d Q p1 x2 I L P) : gw_X12_bring d Q 37 [some (.ref 160), some (.int p1), some (.int x2)] [] I L P := by
  unfold v_X12_bring_37 at hv
  refine z_iload_n dX12_bring_37 rfl ?_
  refine z_sipush (v := 256) dX12_bring_38 (by decide) ?_
  refine z_icmp_ge (tgt := 68) dX12_bring_41 (by decide) (fun q10 => ?_) (fun q10 => ?_)
  · have hv := hv.1 q10
    refine z_iconst (v := 0) dX12_bring_68 (by decide) ?_
    refine z_istore_n (lv2 := [some (.ref 160), some (.int p1), some (.int 0)]) dX12_bring_69 (by decide) rfl rfl ?_
    exact hv
  · have hv := hv.2 q10
    refine z_aload_n dX12_bring_44 rfl ?_
    refine z_getP dX12_bring_45 zf_X12_74 zn_160 zo_160 (fun _ _ _ _ _ => rfl) (hP 160 35 180 zp_160_35) ?_
    refine z_iload_n dX12_bring_48 rfl ?_
    refine z_aload_n dX12_bring_49 rfl ?_
    refine z_getP dX12_bring_50 zf_X12_143 zn_160 zo_160 (fun _ _ _ _ _ => rfl) (hP 160 66 203 zp_160_66) ?_
    refine z_sipush (v := 256) dX12_bring_53 (by decide) ?_
    refine z_iload_n dX12_bring_56 rfl ?_
    refine z_imul dX12_bring_57 ?_
    refine z_iload_n dX12_bring_58 rfl ?_
    refine z_iadd dX12_bring_59 ?_
    obtain ⟨h11, hv⟩ := hv
    refine z_zaload dX12_bring_60 zn_203 zh_203 h11 ?_
    obtain ⟨h12, hv⟩ := hv
    obtain ⟨h15, hv⟩ := hv
    refine z_zastore dX12_bring_61 zn_180 zh_180 h12 (zbn h15) (z_nmI (fun I14 e13 => ?_))
    have hv := hv I14 e13
    refine z_iinc (v2 := x2 + 1) (lv2 := [some (.ref 160), some (.int p1), some (.int (x2 + 1))]) dX12_bring_62 rfl (by rfl) (by decide) rfl rfl ?_
    refine z_goto (tgt := 37) dX12_bring_65 (by decide) ?_
    exact hv
abbrev v_X12_bring (d : Nat) (Q : zQt) (p1 : Int32) (I : zI) (L : zL) (P : zP) : Prop :=
  ∀ I1 : zI, I1 = zuI I 160 46 0 →
  vp_in p1 4 ∧
  ∀ I4 : zI, I4 = zuI I1 160 39 (I1 199 p1.toNatClampNeg) →
  ∀ I6 : zI, I6 = zuI I4 160 40 (I4 200 p1.toNatClampNeg) →
  ∀ I8 : zI, I8 = zuI I6 160 38 (I6 201 p1.toNatClampNeg) →
  gw_X12_bring d Q 37 [some (.ref 160), some (.int p1), some (.int 0)] [] I8 L P
set_option maxRecDepth 20000 in
theorem g_X12_bring {d : Nat} {Q : zQt} {p1 : Int32} {I : zI} {L : zL} {P : zP} (hP : zPk P) (hv : v_X12_bring d Q p1 I L P) : zM zm_X12_bring d 0 0 [.ref 160, .int p1] I L P 205 Q := by
  unfold v_X12_bring at hv
  refine zM_of (lv0 := [some (.ref 160), some (.int p1), none]) (by decide +kernel) (Nat.le_of_ble_eq_true rfl) rfl ?_
  refine z_aload_n dX12_bring_0 rfl ?_
  refine z_iconst (v := 0) dX12_bring_1 (by decide) ?_
  refine z_putI dX12_bring_2 zf_X12_349 zn_160 zo_160 (Or.inl rfl) (fun _ _ _ _ _ => rfl) (by decide) (by decide) (z_nmI (fun I1 e2 => ?_))
  have hv := hv I1 e2
  refine z_aload_n dX12_bring_5 rfl ?_
  refine z_aload_n dX12_bring_6 rfl ?_
  refine z_getP dX12_bring_7 zf_X12_131 zn_160 zo_160 (fun _ _ _ _ _ => rfl) (hP 160 62 199 zp_160_62) ?_
  refine z_iload_n dX12_bring_10 rfl ?_
  obtain ⟨h3, hv⟩ := hv
  refine z_iaload dX12_bring_11 zn_199 zh_199 h3 ?_
  refine z_putI dX12_bring_12 zf_X12_356 zn_160 zo_160 (Or.inl rfl) (fun _ _ _ _ _ => rfl) rfl rfl (z_nmI (fun I4 e5 => ?_))
  have hv := hv I4 e5
  refine z_aload_n dX12_bring_15 rfl ?_
  refine z_aload_n dX12_bring_16 rfl ?_
  refine z_getP dX12_bring_17 zf_X12_134 zn_160 zo_160 (fun _ _ _ _ _ => rfl) (hP 160 63 200 zp_160_63) ?_
  refine z_iload_n dX12_bring_20 rfl ?_
  refine z_iaload dX12_bring_21 zn_200 zh_200 h3 ?_
  refine z_putI dX12_bring_22 zf_X12_359 zn_160 zo_160 (Or.inl rfl) (fun _ _ _ _ _ => rfl) rfl rfl (z_nmI (fun I6 e7 => ?_))
  have hv := hv I6 e7
  refine z_aload_n dX12_bring_25 rfl ?_
  refine z_aload_n dX12_bring_26 rfl ?_
  refine z_getP dX12_bring_27 zf_X12_137 zn_160 zo_160 (fun _ _ _ _ _ => rfl) (hP 160 64 201 zp_160_64) ?_
  refine z_iload_n dX12_bring_30 rfl ?_
  refine z_iaload dX12_bring_31 zn_201 zh_201 h3 ?_
  refine z_putI dX12_bring_32 zf_X12_353 zn_160 zo_160 (Or.inl rfl) (fun _ _ _ _ _ => rfl) rfl rfl (z_nmI (fun I8 e9 => ?_))
  have hv := hv I8 e9
  refine z_iconst (v := 0) dX12_bring_35 (by decide) ?_
  refine z_istore_n (lv2 := [some (.ref 160), some (.int p1), some (.int 0)]) dX12_bring_36 (by decide) rfl rfl ?_
  exact hv
theorem lp_X12_keep_96 {d : Nat} {Q : zQt} {I0 : zI} {L : zL} {P : zP} {b : Nat} (hP : zPk P) (hb : b < 4) (hz : ∀ j, j < 2048 → I0 181 (j) = 0 ∨ I0 181 (j) = 1)
    (k : ∀ I, zFr [204] [] I0 I → (∀ j, ¬ (2048 * b ≤ j ∧ j < 2048 * b + 2048) → I 204 j = I0 204 j) → (∀ j, j < 2048 → I 204 (2048 * b + j) = I0 181 (j)) → Q none I L P 205) :
    ∀ n i I, i + n = 2048 → zFr [204] [] I0 I → (∀ j, ¬ (2048 * b ≤ j ∧ j < 2048 * b + i) → I 204 j = I0 204 j) → (∀ j, j < i → I 204 (2048 * b + j) = I0 181 (j)) →
      gw_X12_keep d Q 96 [some (.ref 160), some (.int (nI b)), some (.int (nI i))] [] I L P := by
  intro n
  induction n with
  | zero =>
    intro i I hi hf h1 h2
    have : i = 2048 := by omega
    subst this
    exact g_X12_keep_96 hP ⟨fun _ => k I hf h1 h2, fun q => absurd (by decide) q⟩
  | succ n ih =>
    intro i I hi hf h1 h2
    have er : ((2048 : Int32) * nI b) + nI i = nI (2048 * b + i) := by rw [show (2048 : Int32) = nI 2048 from rfl, pk_mul, nI_add]
    have es : I 181 = I0 181 := hf.1 181 (by decide) (by decide)
    refine g_X12_keep_96 hP ⟨fun q => absurd q (nI_ge (b := 2048) (by omega) (by decide)), fun _ => ⟨nx_in (by omega) (by decide), by rw [er]; exact nx_in (by omega) (by decide), ?_, fun I1 e1 => ?_⟩⟩
    · rw [nI_cl (by omega), es]
      exact hz i (by omega)
    · rw [er, nI_cl (show 2048 * b + i < 2 ^ 31 by omega), nI_cl (show i < 2 ^ 31 by omega), es] at e1
      subst e1
      rw [nI_1]
      refine ih (i + 1) _ (by omega) (zFr_c hf (by decide) (by decide)) (fun j hj => ?_) (fun j hj => ?_)
      · rw [zuI_o (by omega)]
        exact h1 j (by omega)
      · rcases Nat.lt_succ_iff_lt_or_eq.mp hj with h | h
        · rw [zuI_o (by omega)]; exact h2 j h
        · subst h; exact zuI_v _ _ _ _
theorem lp_X12_keep_65 {d : Nat} {Q : zQt} {I0 : zI} {L : zL} {P : zP} {b : Nat} (hP : zPk P) (hb : b < 4)
    (k : ∀ I, zFr [202] [] I0 I → (∀ j, ¬ (8 * b ≤ j ∧ j < 8 * b + 8) → I 202 j = I0 202 j) → (∀ j, j < 8 → I 202 (8 * b + j) = I0 182 (j)) → gw_X12_keep d Q 96 [some (.ref 160), some (.int (nI b)), some (.int 0)] [] I L P) :
    ∀ n i I, i + n = 8 → zFr [202] [] I0 I → (∀ j, ¬ (8 * b ≤ j ∧ j < 8 * b + i) → I 202 j = I0 202 j) → (∀ j, j < i → I 202 (8 * b + j) = I0 182 (j)) →
      gw_X12_keep d Q 65 [some (.ref 160), some (.int (nI b)), some (.int (nI i))] [] I L P := by
  intro n
  induction n with
  | zero =>
    intro i I hi hf h1 h2
    have : i = 8 := by omega
    subst this
    exact g_X12_keep_65 hP ⟨fun _ => k I hf h1 h2, fun q => absurd (by decide) q⟩
  | succ n ih =>
    intro i I hi hf h1 h2
    have er : ((8 : Int32) * nI b) + nI i = nI (8 * b + i) := by rw [show (8 : Int32) = nI 8 from rfl, pk_mul, nI_add]
    have es : I 182 = I0 182 := hf.1 182 (by decide) (by decide)
    refine g_X12_keep_65 hP ⟨fun q => absurd q (nI_ge (b := 8) (by omega) (by decide)), fun _ => ⟨nx_in (by omega) (by decide), by rw [er]; exact nx_in (by omega) (by decide), fun I1 e1 => ?_⟩⟩
    rw [er, nI_cl (show 8 * b + i < 2 ^ 31 by omega), nI_cl (show i < 2 ^ 31 by omega), es] at e1
    subst e1
    rw [nI_1]
    refine ih (i + 1) _ (by omega) (zFr_c hf (by decide) (by decide)) (fun j hj => ?_) (fun j hj => ?_)
    · rw [zuI_o (by omega)]
      exact h1 j (by omega)
    · rcases Nat.lt_succ_iff_lt_or_eq.mp hj with h | h
      · rw [zuI_o (by omega)]; exact h2 j h
      · subst h; exact zuI_v _ _ _ _
theorem lp_X12_keep_32 {d : Nat} {Q : zQt} {I0 : zI} {L : zL} {P : zP} {b : Nat} (hP : zPk P) (hb : b < 4) (hz : ∀ j, j < 256 → I0 180 (j) = 0 ∨ I0 180 (j) = 1)
    (k : ∀ I, zFr [203] [] I0 I → (∀ j, ¬ (256 * b ≤ j ∧ j < 256 * b + 256) → I 203 j = I0 203 j) → (∀ j, j < 256 → I 203 (256 * b + j) = I0 180 (j)) → gw_X12_keep d Q 65 [some (.ref 160), some (.int (nI b)), some (.int 0)] [] I L P) :
    ∀ n i I, i + n = 256 → zFr [203] [] I0 I → (∀ j, ¬ (256 * b ≤ j ∧ j < 256 * b + i) → I 203 j = I0 203 j) → (∀ j, j < i → I 203 (256 * b + j) = I0 180 (j)) →
      gw_X12_keep d Q 32 [some (.ref 160), some (.int (nI b)), some (.int (nI i))] [] I L P := by
  intro n
  induction n with
  | zero =>
    intro i I hi hf h1 h2
    have : i = 256 := by omega
    subst this
    exact g_X12_keep_32 hP ⟨fun _ => k I hf h1 h2, fun q => absurd (by decide) q⟩
  | succ n ih =>
    intro i I hi hf h1 h2
    have er : ((256 : Int32) * nI b) + nI i = nI (256 * b + i) := by rw [show (256 : Int32) = nI 256 from rfl, pk_mul, nI_add]
    have es : I 180 = I0 180 := hf.1 180 (by decide) (by decide)
    refine g_X12_keep_32 hP ⟨fun q => absurd q (nI_ge (b := 256) (by omega) (by decide)), fun _ => ⟨nx_in (by omega) (by decide), by rw [er]; exact nx_in (by omega) (by decide), ?_, fun I1 e1 => ?_⟩⟩
    · rw [nI_cl (by omega), es]
      exact hz i (by omega)
    · rw [er, nI_cl (show 256 * b + i < 2 ^ 31 by omega), nI_cl (show i < 2 ^ 31 by omega), es] at e1
      subst e1
      rw [nI_1]
      refine ih (i + 1) _ (by omega) (zFr_c hf (by decide) (by decide)) (fun j hj => ?_) (fun j hj => ?_)
      · rw [zuI_o (by omega)]
        exact h1 j (by omega)
      · rcases Nat.lt_succ_iff_lt_or_eq.mp hj with h | h
        · rw [zuI_o (by omega)]; exact h2 j h
        · subst h; exact zuI_v _ _ _ _
theorem lp_X12_bring_101 {d : Nat} {Q : zQt} {I0 : zI} {L : zL} {P : zP} {b : Nat} (hP : zPk P) (hb : b < 4) (hz : ∀ j, j < 2048 → I0 204 (2048 * b + j) = 0 ∨ I0 204 (2048 * b + j) = 1)
    (k : ∀ I, zFr [181] [] I0 I → (∀ j, ¬ (j < 2048) → I 181 j = I0 181 j) → (∀ j, j < 2048 → I 181 (j) = I0 204 (2048 * b + j)) → Q none I L P 205) :
    ∀ n i I, i + n = 2048 → zFr [181] [] I0 I → (∀ j, ¬ (j < i) → I 181 j = I0 181 j) → (∀ j, j < i → I 181 (j) = I0 204 (2048 * b + j)) →
      gw_X12_bring d Q 101 [some (.ref 160), some (.int (nI b)), some (.int (nI i))] [] I L P := by
  intro n
  induction n with
  | zero =>
    intro i I hi hf h1 h2
    have : i = 2048 := by omega
    subst this
    exact g_X12_bring_101 hP ⟨fun _ => k I hf h1 h2, fun q => absurd (by decide) q⟩
  | succ n ih =>
    intro i I hi hf h1 h2
    have er : ((2048 : Int32) * nI b) + nI i = nI (2048 * b + i) := by rw [show (2048 : Int32) = nI 2048 from rfl, pk_mul, nI_add]
    have es : I 204 = I0 204 := hf.1 204 (by decide) (by decide)
    refine g_X12_bring_101 hP ⟨fun q => absurd q (nI_ge (b := 2048) (by omega) (by decide)), fun _ => ⟨by rw [er]; exact nx_in (by omega) (by decide), nx_in (by omega) (by decide), ?_, fun I1 e1 => ?_⟩⟩
    · rw [er, nI_cl (by omega), es]
      exact hz i (by omega)
    · rw [er, nI_cl (show 2048 * b + i < 2 ^ 31 by omega), nI_cl (show i < 2 ^ 31 by omega), es] at e1
      subst e1
      rw [nI_1]
      refine ih (i + 1) _ (by omega) (zFr_c hf (by decide) (by decide)) (fun j hj => ?_) (fun j hj => ?_)
      · rw [zuI_o (by omega)]
        exact h1 j (by omega)
      · rcases Nat.lt_succ_iff_lt_or_eq.mp hj with h | h
        · rw [zuI_o (by omega)]; exact h2 j h
        · subst h; exact zuI_v _ _ _ _
theorem lp_X12_bring_70 {d : Nat} {Q : zQt} {I0 : zI} {L : zL} {P : zP} {b : Nat} (hP : zPk P) (hb : b < 4)
    (k : ∀ I, zFr [182] [] I0 I → (∀ j, ¬ (j < 8) → I 182 j = I0 182 j) → (∀ j, j < 8 → I 182 (j) = I0 202 (8 * b + j)) → gw_X12_bring d Q 101 [some (.ref 160), some (.int (nI b)), some (.int 0)] [] I L P) :
    ∀ n i I, i + n = 8 → zFr [182] [] I0 I → (∀ j, ¬ (j < i) → I 182 j = I0 182 j) → (∀ j, j < i → I 182 (j) = I0 202 (8 * b + j)) →
      gw_X12_bring d Q 70 [some (.ref 160), some (.int (nI b)), some (.int (nI i))] [] I L P := by
  intro n
  induction n with
  | zero =>
    intro i I hi hf h1 h2
    have : i = 8 := by omega
    subst this
    exact g_X12_bring_70 hP ⟨fun _ => k I hf h1 h2, fun q => absurd (by decide) q⟩
  | succ n ih =>
    intro i I hi hf h1 h2
    have er : ((8 : Int32) * nI b) + nI i = nI (8 * b + i) := by rw [show (8 : Int32) = nI 8 from rfl, pk_mul, nI_add]
    have es : I 202 = I0 202 := hf.1 202 (by decide) (by decide)
    refine g_X12_bring_70 hP ⟨fun q => absurd q (nI_ge (b := 8) (by omega) (by decide)), fun _ => ⟨by rw [er]; exact nx_in (by omega) (by decide), nx_in (by omega) (by decide), fun I1 e1 => ?_⟩⟩
    rw [er, nI_cl (show 8 * b + i < 2 ^ 31 by omega), nI_cl (show i < 2 ^ 31 by omega), es] at e1
    subst e1
    rw [nI_1]
    refine ih (i + 1) _ (by omega) (zFr_c hf (by decide) (by decide)) (fun j hj => ?_) (fun j hj => ?_)
    · rw [zuI_o (by omega)]
      exact h1 j (by omega)
    · rcases Nat.lt_succ_iff_lt_or_eq.mp hj with h | h
      · rw [zuI_o (by omega)]; exact h2 j h
      · subst h; exact zuI_v _ _ _ _
theorem lp_X12_bring_37 {d : Nat} {Q : zQt} {I0 : zI} {L : zL} {P : zP} {b : Nat} (hP : zPk P) (hb : b < 4) (hz : ∀ j, j < 256 → I0 203 (256 * b + j) = 0 ∨ I0 203 (256 * b + j) = 1)
    (k : ∀ I, zFr [180] [] I0 I → (∀ j, ¬ (j < 256) → I 180 j = I0 180 j) → (∀ j, j < 256 → I 180 (j) = I0 203 (256 * b + j)) → gw_X12_bring d Q 70 [some (.ref 160), some (.int (nI b)), some (.int 0)] [] I L P) :
    ∀ n i I, i + n = 256 → zFr [180] [] I0 I → (∀ j, ¬ (j < i) → I 180 j = I0 180 j) → (∀ j, j < i → I 180 (j) = I0 203 (256 * b + j)) →
      gw_X12_bring d Q 37 [some (.ref 160), some (.int (nI b)), some (.int (nI i))] [] I L P := by
  intro n
  induction n with
  | zero =>
    intro i I hi hf h1 h2
    have : i = 256 := by omega
    subst this
    exact g_X12_bring_37 hP ⟨fun _ => k I hf h1 h2, fun q => absurd (by decide) q⟩
  | succ n ih =>
    intro i I hi hf h1 h2
    have er : ((256 : Int32) * nI b) + nI i = nI (256 * b + i) := by rw [show (256 : Int32) = nI 256 from rfl, pk_mul, nI_add]
    have es : I 203 = I0 203 := hf.1 203 (by decide) (by decide)
    refine g_X12_bring_37 hP ⟨fun q => absurd q (nI_ge (b := 256) (by omega) (by decide)), fun _ => ⟨by rw [er]; exact nx_in (by omega) (by decide), nx_in (by omega) (by decide), ?_, fun I1 e1 => ?_⟩⟩
    · rw [er, nI_cl (by omega), es]
      exact hz i (by omega)
    · rw [er, nI_cl (show 256 * b + i < 2 ^ 31 by omega), nI_cl (show i < 2 ^ 31 by omega), es] at e1
      subst e1
      rw [nI_1]
      refine ih (i + 1) _ (by omega) (zFr_c hf (by decide) (by decide)) (fun j hj => ?_) (fun j hj => ?_)
      · rw [zuI_o (by omega)]
        exact h1 j (by omega)
      · rcases Nat.lt_succ_iff_lt_or_eq.mp hj with h | h
        · rw [zuI_o (by omega)]; exact h2 j h
        · subst h; exact zuI_v _ _ _ _
/-- the box b of I holds the scene of I0 -/
def bHd (I : zI) (b : Nat) (I0 : zI) : Prop := I 199 b = I0 160 39 ∧ I 200 b = I0 160 40 ∧ I 201 b = I0 160 38 ∧ (∀ j, j < 256 → I 203 (256 * b + j) = I0 180 j) ∧ (∀ j, j < 8 → I 202 (8 * b + j) = I0 182 j) ∧ ∀ j, j < 2048 → I 204 (2048 * b + j) = I0 181 j
/-- the other boxes stay -/
def bOt (I I' : zI) (b : Nat) : Prop := ∀ c, c ≠ b → I' 199 c = I 199 c ∧ I' 200 c = I 200 c ∧ I' 201 c = I 201 c ∧ (∀ j, j < 256 → I' 203 (256 * c + j) = I 203 (256 * c + j)) ∧ (∀ j, j < 8 → I' 202 (8 * c + j) = I 202 (8 * c + j)) ∧ ∀ j, j < 2048 → I' 204 (2048 * c + j) = I 204 (2048 * c + j)
theorem sp_X12_keep {d : Nat} {I : zI} {L : zL} {P : zP} {b : Nat} (hP : zPk P) (hb : b < 4) (hZ : MZ I) {K : zI → zL → zP → Prop} (k : ∀ I', zFr [199, 200, 201, 202, 203, 204] [] I I' → bHd I' b I → bOt I I' b → K I' L P) : zMv zm_X12_keep d [.ref 160, .int (nI b)] I L P K := by
  have cb : (nI b).toNatClampNeg = b := nI_cl (by omega)
  refine g_X12_keep hP ⟨nx_in (by omega) (by decide), fun I1 e1 I2 e2 I3 e3 => ?_⟩
  rw [cb] at e1 e2 e3
  subst e1
  subst e2
  subst e3
  have f : zFr [199, 200, 201] [] I (zuI (zuI (zuI I 199 b (I 160 39)) 200 b (zuI I 199 b (I 160 39) 160 40)) 201 b (zuI (zuI I 199 b (I 160 39)) 200 b (zuI I 199 b (I 160 39) 160 40) 160 38)) := zFr_c (zFr_c (zFr_c (zFr_rf _ _ _) (by decide) (by decide)) (by decide) (by decide)) (by decide) (by decide)
  have s1 : ∀ c, (zuI (zuI (zuI I 199 b (I 160 39)) 200 b (zuI I 199 b (I 160 39) 160 40)) 201 b (zuI (zuI I 199 b (I 160 39)) 200 b (zuI I 199 b (I 160 39) 160 40) 160 38)) 199 c = upd (I 199) b (I 160 39) c := fun c => by rw [zuI_ne (by decide), zuI_ne (by decide), zuI_at]
  have s2 : ∀ c, (zuI (zuI (zuI I 199 b (I 160 39)) 200 b (zuI I 199 b (I 160 39) 160 40)) 201 b (zuI (zuI I 199 b (I 160 39)) 200 b (zuI I 199 b (I 160 39) 160 40) 160 38)) 200 c = upd (I 200) b (I 160 40) c := fun c => by rw [zuI_ne (by decide), zuI_at, zuI_ne (by decide), zuI_ne (by decide)]
  have s3 : ∀ c, (zuI (zuI (zuI I 199 b (I 160 39)) 200 b (zuI I 199 b (I 160 39) 160 40)) 201 b (zuI (zuI I 199 b (I 160 39)) 200 b (zuI I 199 b (I 160 39) 160 40) 160 38)) 201 c = upd (I 201) b (I 160 38) c := fun c => by rw [zuI_at, zuI_ne (by decide), zuI_ne (by decide), zuI_ne (by decide), zuI_ne (by decide)]
  generalize (zuI (zuI (zuI I 199 b (I 160 39)) 200 b (zuI I 199 b (I 160 39) 160 40)) 201 b (zuI (zuI I 199 b (I 160 39)) 200 b (zuI I 199 b (I 160 39) 160 40) 160 38)) = J at f s1 s2 s3
  refine lp_X12_keep_32 hP hb (fun j hj => by rw [f.1 180 (by decide) (by decide)]; exact hZ.1 j hj) (fun J1 a1 a2 a3 => ?_) 256 0 J rfl (zFr_rf _ _ _) (fun _ _ => rfl) (fun j hj => absurd hj (Nat.not_lt_zero j))
  refine lp_X12_keep_65 hP hb (fun J2 b1 b2 b3 => ?_) 8 0 J1 rfl (zFr_rf _ _ _) (fun _ _ => rfl) (fun j hj => absurd hj (Nat.not_lt_zero j))
  refine lp_X12_keep_96 hP hb (fun j hj => by rw [b1.1 181 (by decide) (by decide), a1.1 181 (by decide) (by decide), f.1 181 (by decide) (by decide)]; exact hZ.2 j hj) (fun J3 c1 c2 c3 => qv (k J3 ?_ ⟨?_, ?_, ?_, ?_, ?_, ?_⟩ (fun c hc => ⟨?_, ?_, ?_, ?_, ?_, ?_⟩))) 2048 0 J2 rfl (zFr_rf _ _ _) (fun _ _ => rfl) (fun j hj => absurd hj (Nat.not_lt_zero j))
  · exact zFr_tr (zFr_tr (zFr_wk f (by decide) (by decide)) (zFr_wk a1 (by decide) (by decide))) (zFr_tr (zFr_wk b1 (by decide) (by decide)) (zFr_wk c1 (by decide) (by decide)))
  · rw [c1.1 199 (by decide) (by decide), b1.1 199 (by decide) (by decide), a1.1 199 (by decide) (by decide), s1, pk_us]
  · rw [c1.1 200 (by decide) (by decide), b1.1 200 (by decide) (by decide), a1.1 200 (by decide) (by decide), s2, pk_us]
  · rw [c1.1 201 (by decide) (by decide), b1.1 201 (by decide) (by decide), a1.1 201 (by decide) (by decide), s3, pk_us]
  · intro j hj
    rw [c1.1 203 (by decide) (by decide), b1.1 203 (by decide) (by decide), a3 j hj, f.1 180 (by decide) (by decide)]
  · intro j hj
    rw [c1.1 202 (by decide) (by decide), b3 j hj, a1.1 182 (by decide) (by decide), f.1 182 (by decide) (by decide)]
  · intro j hj
    rw [c3 j hj, b1.1 181 (by decide) (by decide), a1.1 181 (by decide) (by decide), f.1 181 (by decide) (by decide)]
  · rw [c1.1 199 (by decide) (by decide), b1.1 199 (by decide) (by decide), a1.1 199 (by decide) (by decide), s1, pk_un hc]
  · rw [c1.1 200 (by decide) (by decide), b1.1 200 (by decide) (by decide), a1.1 200 (by decide) (by decide), s2, pk_un hc]
  · rw [c1.1 201 (by decide) (by decide), b1.1 201 (by decide) (by decide), a1.1 201 (by decide) (by decide), s3, pk_un hc]
  · intro j hj
    rw [c1.1 203 (by decide) (by decide), b1.1 203 (by decide) (by decide), a2 _ (by omega), f.1 203 (by decide) (by decide)]
  · intro j hj
    rw [c1.1 202 (by decide) (by decide), b2 _ (by omega), a1.1 202 (by decide) (by decide), f.1 202 (by decide) (by decide)]
  · intro j hj
    rw [c2 _ (by omega), b1.1 204 (by decide) (by decide), a1.1 204 (by decide) (by decide), f.1 204 (by decide) (by decide)]
theorem sp_X12_bring {d : Nat} {I : zI} {L : zL} {P : zP} {b : Nat} (hP : zPk P) (hb : b < 4) (hZ : MZb I b) {K : zI → zL → zP → Prop} (k : ∀ I', zFr [180, 181, 182] [38, 39, 40, 46] I I' → bHd I b I' → I' 160 46 = 0 → ((∀ j, ¬ j < 2048 → I' 181 j = I 181 j) ∧ ∀ j, ¬ j < 8 → I' 182 j = I 182 j) → K I' L P) : zMv zm_X12_bring d [.ref 160, .int (nI b)] I L P K := by
  have cb : (nI b).toNatClampNeg = b := nI_cl (by omega)
  refine g_X12_bring hP (fun I1 e1 => ⟨nx_in (by omega) (by decide), fun I2 e2 I3 e3 I4 e4 => ?_⟩)
  rw [cb] at e2 e3 e4
  subst e1
  rw [zuI_ne (by decide)] at e2
  subst e2
  rw [zuI_ne (by decide), zuI_ne (by decide)] at e3
  subst e3
  rw [zuI_ne (by decide), zuI_ne (by decide), zuI_ne (by decide)] at e4
  subst e4
  have f : zFr [] [38, 39, 40, 46] I (zuI (zuI (zuI (zuI I 160 46 0) 160 39 (I 199 b)) 160 40 (I 200 b)) 160 38 (I 201 b)) := zFr_s (zFr_s (zFr_s (zFr_s (zFr_rf _ _ _) (by decide)) (by decide)) (by decide)) (by decide)
  have s1 : (zuI (zuI (zuI (zuI I 160 46 0) 160 39 (I 199 b)) 160 40 (I 200 b)) 160 38 (I 201 b)) 160 39 = I 199 b := by rw [zuI_o (by decide), zuI_o (by decide), zuI_v]
  have s2 : (zuI (zuI (zuI (zuI I 160 46 0) 160 39 (I 199 b)) 160 40 (I 200 b)) 160 38 (I 201 b)) 160 40 = I 200 b := by rw [zuI_o (by decide), zuI_v]
  have s3 : (zuI (zuI (zuI (zuI I 160 46 0) 160 39 (I 199 b)) 160 40 (I 200 b)) 160 38 (I 201 b)) 160 38 = I 201 b := by rw [zuI_v]
  have s4 : (zuI (zuI (zuI (zuI I 160 46 0) 160 39 (I 199 b)) 160 40 (I 200 b)) 160 38 (I 201 b)) 160 46 = 0 := by rw [zuI_o (by decide), zuI_o (by decide), zuI_o (by decide), zuI_v]
  generalize (zuI (zuI (zuI (zuI I 160 46 0) 160 39 (I 199 b)) 160 40 (I 200 b)) 160 38 (I 201 b)) = J at f s1 s2 s3 s4
  refine lp_X12_bring_37 hP hb (fun j hj => by rw [f.1 203 (by decide) (by decide)]; exact hZ.1 j hj) (fun J1 a1 a2 a3 => ?_) 256 0 J rfl (zFr_rf _ _ _) (fun _ _ => rfl) (fun j hj => absurd hj (Nat.not_lt_zero j))
  refine lp_X12_bring_70 hP hb (fun J2 b1 b2 b3 => ?_) 8 0 J1 rfl (zFr_rf _ _ _) (fun _ _ => rfl) (fun j hj => absurd hj (Nat.not_lt_zero j))
  refine lp_X12_bring_101 hP hb (fun j hj => by rw [b1.1 204 (by decide) (by decide), a1.1 204 (by decide) (by decide), f.1 204 (by decide) (by decide)]; exact hZ.2 j hj) (fun J3 c1 c2 c3 => qv (k J3 ?_ ⟨?_, ?_, ?_, ?_, ?_, ?_⟩ ?_ ⟨fun j hj => ?_, fun j hj => ?_⟩)) 2048 0 J2 rfl (zFr_rf _ _ _) (fun _ _ => rfl) (fun j hj => absurd hj (Nat.not_lt_zero j))
  · exact zFr_tr (zFr_tr (zFr_wk f (by decide) (by decide)) (zFr_wk a1 (by decide) (by decide))) (zFr_tr (zFr_wk b1 (by decide) (by decide)) (zFr_wk c1 (by decide) (by decide)))
  · rw [c1.2 39 (by decide), b1.2 39 (by decide), a1.2 39 (by decide), s1]
  · rw [c1.2 40 (by decide), b1.2 40 (by decide), a1.2 40 (by decide), s2]
  · rw [c1.2 38 (by decide), b1.2 38 (by decide), a1.2 38 (by decide), s3]
  · intro j hj
    rw [c1.1 180 (by decide) (by decide), b1.1 180 (by decide) (by decide), a3 j hj, f.1 203 (by decide) (by decide)]
  · intro j hj
    rw [c1.1 182 (by decide) (by decide), b3 j hj, a1.1 202 (by decide) (by decide), f.1 202 (by decide) (by decide)]
  · intro j hj
    rw [c3 j hj, b1.1 204 (by decide) (by decide), a1.1 204 (by decide) (by decide), f.1 204 (by decide) (by decide)]
  · rw [c1.2 46 (by decide), b1.2 46 (by decide), a1.2 46 (by decide), s4]
  · rw [c2 j hj, b1.1 181 (by decide) (by decide), a1.1 181 (by decide) (by decide), f.1 181 (by decide) (by decide)]
  · rw [c1.1 182 (by decide) (by decide), b2 j hj, a1.1 182 (by decide) (by decide), f.1 182 (by decide) (by decide)]
abbrev gw_X12_begin (d : Nat) (Q : zQt) (pc : Nat) (lv : zV) (st : List Value) (I : zI) (L : zL) (P : zP) : Prop := zW zm_X12_begin (zRm d 0 0) 0 0 Q pc lv st I L P 205 0 0
abbrev v_X12_begin_2 (d : Nat) (Q : zQt) (x1 : Int32) (I : zI) (L : zL) (P : zP) : Prop :=
  ((256 ≤ x1 →
    ∀ I2 : zI, I2 = zuI I 160 46 0 →
    ∀ I4 : zI, I4 = zuI I2 160 38 0 →
    ∀ I6 : zI, I6 = zuI I4 160 39 0 →
    ∀ I8 : zI, I8 = zuI I6 160 40 0 →
    Q none I8 L P 205
  ) ∧ (¬ 256 ≤ x1 →
    MB I ∧
    (((nI (vN I)) ≤ x1 →
      vp_in x1 256 ∧
      ∀ I16 : zI, I16 = zuI I 180 x1.toNatClampNeg 0 →
      gw_X12_begin (d + 1) Q 2 [some (.ref 160), some (.int (x1 + 1))] [] I16 L P
    ) ∧ (¬ (nI (vN I)) ≤ x1 →
      vp_in x1 256 ∧
      ∀ I19 : zI, I19 = zuI I 180 x1.toNatClampNeg 1 →
      gw_X12_begin (d + 1) Q 2 [some (.ref 160), some (.int (x1 + 1))] [] I19 L P
    ))
  ))
set_option maxRecDepth 20000 in
theorem g_X12_begin_2 {d : Nat} {Q : zQt} {x1 : Int32} {I : zI} {L : zL} {P : zP} (hP : zPk P) (hd : 1 ≤ d) (hv : v_X12_begin_2 d Q x1 I L P) : gw_X12_begin (d + 1) Q 2 [some (.ref 160), some (.int x1)] [] I L P := by
  unfold v_X12_begin_2 at hv
  refine z_iload_n dX12_begin_2 rfl ?_
  refine z_sipush (v := 256) dX12_begin_3 (by decide) ?_
  refine z_icmp_ge (tgt := 34) dX12_begin_6 (by decide) (fun q1 => ?_) (fun q1 => ?_)
  · have hv := hv.1 q1
    refine z_aload_n dX12_begin_34 rfl ?_
    refine z_iconst (v := 0) dX12_begin_35 (by decide) ?_
    refine z_putI dX12_begin_36 zf_X12_349 zn_160 zo_160 (Or.inl rfl) (fun _ _ _ _ _ => rfl) (by decide) (by decide) (z_nmI (fun I2 e3 => ?_))
    have hv := hv I2 e3
    refine z_aload_n dX12_begin_39 rfl ?_
    refine z_iconst (v := 0) dX12_begin_40 (by decide) ?_
    refine z_putI dX12_begin_41 zf_X12_353 zn_160 zo_160 (Or.inl rfl) (fun _ _ _ _ _ => rfl) rfl rfl (z_nmI (fun I4 e5 => ?_))
    have hv := hv I4 e5
    refine z_aload_n dX12_begin_44 rfl ?_
    refine z_iconst (v := 0) dX12_begin_45 (by decide) ?_
    refine z_putI dX12_begin_46 zf_X12_356 zn_160 zo_160 (Or.inl rfl) (fun _ _ _ _ _ => rfl) rfl rfl (z_nmI (fun I6 e7 => ?_))
    have hv := hv I6 e7
    refine z_aload_n dX12_begin_49 rfl ?_
    refine z_iconst (v := 0) dX12_begin_50 (by decide) ?_
    refine z_putI dX12_begin_51 zf_X12_359 zn_160 zo_160 (Or.inl rfl) (fun _ _ _ _ _ => rfl) rfl rfl (z_nmI (fun I8 e9 => ?_))
    have hv := hv I8 e9
    exact z_return dX12_begin_54 rfl (Nat.le_refl _) (Nat.le_refl _) hv
  · have hv := hv.2 q1
    refine z_aload_n dX12_begin_9 rfl ?_
    refine z_getP dX12_begin_10 zf_X12_74 zn_160 zo_160 (fun _ _ _ _ _ => rfl) (hP 160 35 180 zp_160_35) ?_
    refine z_iload_n dX12_begin_13 rfl ?_
    refine z_iload_n dX12_begin_14 rfl ?_
    refine z_aload_n dX12_begin_15 rfl ?_
    obtain ⟨h10, hv⟩ := hv
    refine z_callV (As := []) (st := [.int x1, .int x1, .ref 180]) dX12_begin_16 zl_X12_346 zv_X12_worldMany (by decide) rfl zn_160 zo_160 rfl rfl (Nat.le_of_ble_eq_true rfl) ⟨Nat.le_refl _, Nat.le_refl _⟩ ⟨Nat.le_refl _, Nat.le_refl _⟩ (sp_X12_worldMany hP h10 (by omega) (K := fun r I' L' P' => nI (vN I) = r ∧ I = I' ∧ L = L' ∧ P = P') ⟨rfl, rfl, rfl, rfl⟩) (fun v1 I2 L2 P2 nx1 q12 => ?_)
    obtain ⟨rfl, r11, rfl, rfl, rfl, rfl, rfl⟩ := q12
    refine z_icmp_ge (tgt := 26) dX12_begin_19 (by decide) (fun q13 => ?_) (fun q13 => ?_)
    · have hv := hv.1 q13
      refine z_iconst (v := 0) dX12_begin_26 (by decide) ?_
      obtain ⟨h14, hv⟩ := hv
      refine z_zastore (w := 0) dX12_begin_27 zn_180 zh_180 h14 (by decide) (z_nmI (fun I16 e15 => ?_))
      have hv := hv I16 e15
      refine z_iinc (v2 := x1 + 1) (lv2 := [some (.ref 160), some (.int (x1 + 1))]) dX12_begin_28 rfl (by rfl) (by decide) rfl rfl ?_
      refine z_goto (tgt := 2) dX12_begin_31 (by decide) ?_
      exact hv
    · have hv := hv.2 q13
      refine z_iconst (v := 1) dX12_begin_22 (by decide) ?_
      refine z_goto (tgt := 27) dX12_begin_23 (by decide) ?_
      obtain ⟨h17, hv⟩ := hv
      refine z_zastore (w := 1) dX12_begin_27 zn_180 zh_180 h17 (by decide) (z_nmI (fun I19 e18 => ?_))
      have hv := hv I19 e18
      refine z_iinc (v2 := x1 + 1) (lv2 := [some (.ref 160), some (.int (x1 + 1))]) dX12_begin_28 rfl (by rfl) (by decide) rfl rfl ?_
      refine z_goto (tgt := 2) dX12_begin_31 (by decide) ?_
      exact hv
abbrev v_X12_begin (d : Nat) (Q : zQt)  (I : zI) (L : zL) (P : zP) : Prop :=
  gw_X12_begin (d + 1) Q 2 [some (.ref 160), some (.int 0)] [] I L P
set_option maxRecDepth 20000 in
theorem g_X12_begin {d : Nat} {Q : zQt}  {I : zI} {L : zL} {P : zP} (hP : zPk P) (hd : 1 ≤ d) (hv : v_X12_begin d Q  I L P) : zM zm_X12_begin (d + 1) 0 0 [.ref 160] I L P 205 Q := by
  unfold v_X12_begin at hv
  refine zM_of (lv0 := [some (.ref 160), none]) (by decide +kernel) (Nat.le_of_ble_eq_true rfl) rfl ?_
  refine z_iconst (v := 0) dX12_begin_0 (by decide) ?_
  refine z_istore_n (lv2 := [some (.ref 160), some (.int 0)]) dX12_begin_1 (by decide) rfl rfl ?_
  exact hv
theorem lp_X12_begin {d : Nat} {Q : zQt} {I0 : zI} {L : zL} {P : zP} (hP : zPk P) (hB : MB I0) (hd : 1 ≤ d)
    (k : ∀ I, zFr [180] [] I0 I → (∀ w, w < 256 → I 180 w = bP (w < vN I0)) → Q none (zuI (zuI (zuI (zuI I 160 46 0) 160 38 0) 160 39 0) 160 40 0) L P 205) :
    ∀ n i I, i + n = 256 → zFr [180] [] I0 I → (∀ w, w < i → I 180 w = bP (w < vN I0)) →
      gw_X12_begin (d + 1) Q 2 [some (.ref 160), some (.int (nI i))] [] I L P := by
  have hN := vN_le hB
  intro n
  induction n with
  | zero =>
    intro i I hi hf h1
    have : i = 256 := by omega
    subst this
    refine g_X12_begin_2 hP (by omega) ⟨fun _ I1 e1 I2 e2 I3 e3 I4 e4 => ?_, fun q => absurd (by decide) q⟩
    subst e1; subst e2; subst e3; subst e4
    exact k I hf h1
  | succ n ih =>
    intro i I hi hf h1
    have eN := vN_fr hf (by decide) (by decide)
    have step : ∀ v : Int32, v = bP (i < vN I0) → ∀ I1, I1 = zuI I 180 (nI i).toNatClampNeg v → gw_X12_begin (d + 1) Q 2 [some (.ref 160), some (.int (nI i + 1))] [] I1 L P := by
      intro v hv I1 e1
      rw [nI_cl (by omega)] at e1
      subst e1
      rw [nI_1]
      refine ih (i + 1) _ (by omega) (zFr_c hf (by decide) (by decide)) (fun w hw => ?_)
      rcases Nat.lt_succ_iff_lt_or_eq.mp hw with h | h
      · rw [zuI_o (by omega)]; exact h1 w h
      · subst h; rw [zuI_v]; exact hv
    refine g_X12_begin_2 hP (by omega) ⟨fun q => absurd q (nI_ge (b := 256) (by omega) (by decide)), fun _ => ⟨MB_fr hf (by decide) (by decide) hB, fun q => ⟨nx_in (by omega) (by decide), step 0 ?_⟩, fun q => ⟨nx_in (by omega) (by decide), step 1 ?_⟩⟩⟩
    · rw [eN, nI_leI (by omega) (by omega)] at q
      exact (bP_f (by omega)).symm
    · rw [eN, nI_leI (by omega) (by omega)] at q
      exact (bP_t (by omega)).symm
theorem sp_X12_begin {d : Nat} {I : zI} {L : zL} {P : zP} (hP : zPk P) (hB : MB I) (hd : 2 ≤ d) {K : zI → zL → zP → Prop} (k : ∀ I', zFr [180] [38, 39, 40, 46] I I' → (∀ w, w < 256 → I' 180 w = bP (w < vN I)) → I' 160 38 = 0 → I' 160 39 = 0 → I' 160 40 = 0 → I' 160 46 = 0 → K I' L P) : zMv zm_X12_begin d [.ref 160] I L P K := by
  obtain ⟨d, rfl⟩ : ∃ e, d = e + 1 := ⟨d - 1, by omega⟩
  refine g_X12_begin hP (by omega) (lp_X12_begin hP hB (by omega) (fun I1 a1 a2 => qv (k _ ?_ ?_ ?_ ?_ ?_ ?_)) 256 0 I rfl (zFr_rf _ _ _) (fun j hj => absurd hj (Nat.not_lt_zero j)))
  · exact zFr_s (zFr_s (zFr_s (zFr_s (zFr_wk a1 (by decide) (by decide)) (by decide)) (by decide)) (by decide)) (by decide)
  · intro w hw
    rw [zuI_ne (by decide), zuI_ne (by decide), zuI_ne (by decide), zuI_ne (by decide)]; exact a2 w hw
  · rw [zuI_o (by decide), zuI_o (by decide), zuI_v]
  · rw [zuI_o (by decide), zuI_v]
  · rw [zuI_v]
  · rw [zuI_o (by decide), zuI_o (by decide), zuI_o (by decide), zuI_v]
