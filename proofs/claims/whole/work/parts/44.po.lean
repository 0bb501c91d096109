/-! ===== the model: the tape, a text begins, a formula alone ===== -/
def zBy (x : Int32) : Prop := narrow .byte (.int x) = .int x
theorem zBy_8 (x : Int32) : zBy x.toInt8.toInt32 := by
  show Value.int x.toInt8.toInt32.toInt8.toInt32 = _
  rw [Int8.toInt8_toInt32]
def vTp (I : zI) : Nat := (I 160 2).toNatClampNeg
def MTp (I : zI) : Prop := vTp I ≤ 1600 ∧ I 160 2 = nI (vTp I) ∧ ∀ k, zBy (I 161 k)
/-- the byte k of five numbers -/
def fdB (a b c d e : Int32) (k : Nat) : Int32 := ((((if k < 4 then a else if k < 8 then b else if k < 12 then c else if k < 16 then d else e) >>> (nI (24 - 8 * (k % 4)) &&& 31) : Int32) : Int32).toInt8.toInt32)
abbrev gw_X12_feed (d : Nat) (Q : zQt) (pc : Nat) (lv : zV) (st : List Value) (I : zI) (L : zL) (P : zP) : Prop := zW zm_X12_feed (zRm d 0 0) 0 0 Q pc lv st I L P 205 0 0
abbrev v_X12_feed_18 (d : Nat) (Q : zQt) (p1 : Int32) (p2 : Int32) (p3 : Int32) (p4 : Int32) (p5 : Int32) (x6 : Int32) (I : zI) (L : zL) (P : zP) : Prop :=
  ((20 ≤ x6 →
    ∀ I3 : zI, I3 = zuI I 160 2 ((I 160 2) + 20) →
    Q (some (.int (I3 160 2))) I3 L P 205
  ) ∧ (¬ 20 ≤ x6 →
    ((4 ≤ x6 →
      ((8 ≤ x6 →
        ((12 ≤ x6 →
          ((16 ≤ x6 →
            vp_in ((I 160 2) + x6) 1620 ∧
            ∀ I11 : zI, I11 = zuI I 161 ((I 160 2) + x6).toNatClampNeg (((p5 >>> (((24 : Int32) - ((8 : Int32) * (x6 &&& 3 : Int32))) &&& 31) : Int32) : Int32).toInt8.toInt32) →
            gw_X12_feed d Q 18 [some (.ref 160), some (.int p1), some (.int p2), some (.int p3), some (.int p4), some (.int p5), some (.int (x6 + 1)), none] [] I11 L P
          ) ∧ (¬ 16 ≤ x6 →
            vp_in ((I 160 2) + x6) 1620 ∧
            ∀ I14 : zI, I14 = zuI I 161 ((I 160 2) + x6).toNatClampNeg (((p4 >>> (((24 : Int32) - ((8 : Int32) * (x6 &&& 3 : Int32))) &&& 31) : Int32) : Int32).toInt8.toInt32) →
            gw_X12_feed d Q 18 [some (.ref 160), some (.int p1), some (.int p2), some (.int p3), some (.int p4), some (.int p5), some (.int (x6 + 1)), none] [] I14 L P
          ))
        ) ∧ (¬ 12 ≤ x6 →
          vp_in ((I 160 2) + x6) 1620 ∧
          ∀ I17 : zI, I17 = zuI I 161 ((I 160 2) + x6).toNatClampNeg (((p3 >>> (((24 : Int32) - ((8 : Int32) * (x6 &&& 3 : Int32))) &&& 31) : Int32) : Int32).toInt8.toInt32) →
          gw_X12_feed d Q 18 [some (.ref 160), some (.int p1), some (.int p2), some (.int p3), some (.int p4), some (.int p5), some (.int (x6 + 1)), none] [] I17 L P
        ))
      ) ∧ (¬ 8 ≤ x6 →
        vp_in ((I 160 2) + x6) 1620 ∧
        ∀ I20 : zI, I20 = zuI I 161 ((I 160 2) + x6).toNatClampNeg (((p2 >>> (((24 : Int32) - ((8 : Int32) * (x6 &&& 3 : Int32))) &&& 31) : Int32) : Int32).toInt8.toInt32) →
        gw_X12_feed d Q 18 [some (.ref 160), some (.int p1), some (.int p2), some (.int p3), some (.int p4), some (.int p5), some (.int (x6 + 1)), none] [] I20 L P
      ))
    ) ∧ (¬ 4 ≤ x6 →
      vp_in ((I 160 2) + x6) 1620 ∧
      ∀ I23 : zI, I23 = zuI I 161 ((I 160 2) + x6).toNatClampNeg (((p1 >>> (((24 : Int32) - ((8 : Int32) * (x6 &&& 3 : Int32))) &&& 31) : Int32) : Int32).toInt8.toInt32) →
      gw_X12_feed d Q 18 [some (.ref 160), some (.int p1), some (.int p2), some (.int p3), some (.int p4), some (.int p5), some (.int (x6 + 1)), none] [] I23 L P
    ))
  ))
set_option maxRecDepth 20000 in
theorem g_X12_feed_18 {d : Nat} {Q : zQt} {p1 : Int32} {p2 : Int32} {p3 : Int32} {p4 : Int32} {p5 : Int32} {x6 : Int32} {I : zI} {L : zL} {P : zP} (hP : zPk P) (hv : v_X12_feed_18 d Q p1 p2 p3 p4 p5 x6 I L P) : gw_X12_feed d Q 18 [some (.ref 160), some (.int p1), some (.int p2), some (.int p3), some (.int p4), some (.int p5), some (.int x6), none] [] I L P := by
  unfold v_X12_feed_18 at hv
  refine z_iload dX12_feed_18 rfl ?_
  refine z_bipush (v := 20) dX12_feed_20 (by decide) ?_
  refine z_icmp_ge (tgt := 105) dX12_feed_22 (by decide) (fun q2 => ?_) (fun q2 => ?_)
  · have hv := hv.1 q2
    refine z_aload_n dX12_feed_105 rfl ?_
    refine z_dup dX12_feed_106 rfl ?_
    refine z_getI dX12_feed_107 zf_X12_255 zn_160 zo_160 (fun _ _ _ _ _ => rfl) ?_
    refine z_bipush (v := 20) dX12_feed_110 (by decide) ?_
    refine z_iadd dX12_feed_112 ?_
    refine z_putI dX12_feed_113 zf_X12_255 zn_160 zo_160 (Or.inl rfl) (fun _ _ _ _ _ => rfl) rfl rfl (z_nmI (fun I3 e4 => ?_))
    have hv := hv I3 e4
    refine z_aload_n dX12_feed_116 rfl ?_
    refine z_getI dX12_feed_117 zf_X12_255 zn_160 zo_160 (fun _ _ _ _ _ => rfl) ?_
    exact z_ireturn dX12_feed_120 rfl rfl (Nat.le_refl _) (Nat.le_refl _) hv
  · have hv := hv.2 q2
    refine z_iload dX12_feed_25 rfl ?_
    refine z_iconst (v := 4) dX12_feed_27 (by decide) ?_
    refine z_icmp_ge (tgt := 35) dX12_feed_28 (by decide) (fun q5 => ?_) (fun q5 => ?_)
    · have hv := hv.1 q5
      refine z_iload dX12_feed_35 rfl ?_
      refine z_bipush (v := 8) dX12_feed_37 (by decide) ?_
      refine z_icmp_ge (tgt := 46) dX12_feed_39 (by decide) (fun q6 => ?_) (fun q6 => ?_)
      · have hv := hv.1 q6
        refine z_iload dX12_feed_46 rfl ?_
        refine z_bipush (v := 12) dX12_feed_48 (by decide) ?_
        refine z_icmp_ge (tgt := 57) dX12_feed_50 (by decide) (fun q7 => ?_) (fun q7 => ?_)
        · have hv := hv.1 q7
          refine z_iload dX12_feed_57 rfl ?_
          refine z_bipush (v := 16) dX12_feed_59 (by decide) ?_
          refine z_icmp_ge (tgt := 69) dX12_feed_61 (by decide) (fun q8 => ?_) (fun q8 => ?_)
          · have hv := hv.1 q8
            refine z_iload dX12_feed_69 rfl ?_
            refine z_istore (lv2 := [some (.ref 160), some (.int p1), some (.int p2), some (.int p3), some (.int p4), some (.int p5), some (.int x6), some (.int p5)]) dX12_feed_71 (by decide) rfl rfl ?_
            refine z_aload_n dX12_feed_73 rfl ?_
            refine z_getP dX12_feed_74 zf_X12_7 zn_160 zo_160 (fun _ _ _ _ _ => rfl) (hP 160 0 161 zp_160_0) ?_
            refine z_aload_n dX12_feed_77 rfl ?_
            refine z_getI dX12_feed_78 zf_X12_255 zn_160 zo_160 (fun _ _ _ _ _ => rfl) ?_
            refine z_iload dX12_feed_81 rfl ?_
            refine z_iadd dX12_feed_83 ?_
            refine z_iload dX12_feed_84 rfl ?_
            refine z_bipush (v := 24) dX12_feed_86 (by decide) ?_
            refine z_bipush (v := 8) dX12_feed_88 (by decide) ?_
            refine z_iload dX12_feed_90 rfl ?_
            refine z_iconst (v := 3) dX12_feed_92 (by decide) ?_
            refine z_iand dX12_feed_93 ?_
            refine z_imul dX12_feed_94 ?_
            refine z_isub dX12_feed_95 ?_
            refine z_ishr dX12_feed_96 ?_
            refine z_i2b dX12_feed_97 ?_
            obtain ⟨h9, hv⟩ := hv
            refine z_bastore dX12_feed_98 zn_161 zh_161 h9 (pk_nb _) (z_nmI (fun I11 e10 => ?_))
            have hv := hv I11 e10
            refine z_iinc (v2 := x6 + 1) (lv2 := [some (.ref 160), some (.int p1), some (.int p2), some (.int p3), some (.int p4), some (.int p5), some (.int (x6 + 1)), some (.int p5)]) dX12_feed_99 rfl (by rfl) (by decide) rfl rfl ?_
            refine z_goto (tgt := 18) dX12_feed_102 (by decide) ?_
            exact z_sub (by exact ⟨rfl, ⟨rfl, ⟨rfl, ⟨rfl, ⟨rfl, ⟨rfl, ⟨rfl, trivial⟩⟩⟩⟩⟩⟩⟩) hv
          · have hv := hv.2 q8
            refine z_iload dX12_feed_64 rfl ?_
            refine z_goto (tgt := 71) dX12_feed_66 (by decide) ?_
            refine z_istore (lv2 := [some (.ref 160), some (.int p1), some (.int p2), some (.int p3), some (.int p4), some (.int p5), some (.int x6), some (.int p4)]) dX12_feed_71 (by decide) rfl rfl ?_
            refine z_aload_n dX12_feed_73 rfl ?_
            refine z_getP dX12_feed_74 zf_X12_7 zn_160 zo_160 (fun _ _ _ _ _ => rfl) (hP 160 0 161 zp_160_0) ?_
            refine z_aload_n dX12_feed_77 rfl ?_
            refine z_getI dX12_feed_78 zf_X12_255 zn_160 zo_160 (fun _ _ _ _ _ => rfl) ?_
            refine z_iload dX12_feed_81 rfl ?_
            refine z_iadd dX12_feed_83 ?_
            refine z_iload dX12_feed_84 rfl ?_
            refine z_bipush (v := 24) dX12_feed_86 (by decide) ?_
            refine z_bipush (v := 8) dX12_feed_88 (by decide) ?_
            refine z_iload dX12_feed_90 rfl ?_
            refine z_iconst (v := 3) dX12_feed_92 (by decide) ?_
            refine z_iand dX12_feed_93 ?_
            refine z_imul dX12_feed_94 ?_
            refine z_isub dX12_feed_95 ?_
            refine z_ishr dX12_feed_96 ?_
            refine z_i2b dX12_feed_97 ?_
            obtain ⟨h12, hv⟩ := hv
            refine z_bastore dX12_feed_98 zn_161 zh_161 h12 (pk_nb _) (z_nmI (fun I14 e13 => ?_))
            have hv := hv I14 e13
            refine z_iinc (v2 := x6 + 1) (lv2 := [some (.ref 160), some (.int p1), some (.int p2), some (.int p3), some (.int p4), some (.int p5), some (.int (x6 + 1)), some (.int p4)]) dX12_feed_99 rfl (by rfl) (by decide) rfl rfl ?_
            refine z_goto (tgt := 18) dX12_feed_102 (by decide) ?_
            exact z_sub (by exact ⟨rfl, ⟨rfl, ⟨rfl, ⟨rfl, ⟨rfl, ⟨rfl, ⟨rfl, trivial⟩⟩⟩⟩⟩⟩⟩) hv
        · have hv := hv.2 q7
          refine z_iload_n dX12_feed_53 rfl ?_
          refine z_goto (tgt := 71) dX12_feed_54 (by decide) ?_
          refine z_istore (lv2 := [some (.ref 160), some (.int p1), some (.int p2), some (.int p3), some (.int p4), some (.int p5), some (.int x6), some (.int p3)]) dX12_feed_71 (by decide) rfl rfl ?_
          refine z_aload_n dX12_feed_73 rfl ?_
          refine z_getP dX12_feed_74 zf_X12_7 zn_160 zo_160 (fun _ _ _ _ _ => rfl) (hP 160 0 161 zp_160_0) ?_
          refine z_aload_n dX12_feed_77 rfl ?_
          refine z_getI dX12_feed_78 zf_X12_255 zn_160 zo_160 (fun _ _ _ _ _ => rfl) ?_
          refine z_iload dX12_feed_81 rfl ?_
          refine z_iadd dX12_feed_83 ?_
          refine z_iload dX12_feed_84 rfl ?_
          refine z_bipush (v := 24) dX12_feed_86 (by decide) ?_
          refine z_bipush (v := 8) dX12_feed_88 (by decide) ?_
          refine z_iload dX12_feed_90 rfl ?_
          refine z_iconst (v := 3) dX12_feed_92 (by decide) ?_
          refine z_iand dX12_feed_93 ?_
          refine z_imul dX12_feed_94 ?_
          refine z_isub dX12_feed_95 ?_
          refine z_ishr dX12_feed_96 ?_
          refine z_i2b dX12_feed_97 ?_
          obtain ⟨h15, hv⟩ := hv
          refine z_bastore dX12_feed_98 zn_161 zh_161 h15 (pk_nb _) (z_nmI (fun I17 e16 => ?_))
          have hv := hv I17 e16
          refine z_iinc (v2 := x6 + 1) (lv2 := [some (.ref 160), some (.int p1), some (.int p2), some (.int p3), some (.int p4), some (.int p5), some (.int (x6 + 1)), some (.int p3)]) dX12_feed_99 rfl (by rfl) (by decide) rfl rfl ?_
          refine z_goto (tgt := 18) dX12_feed_102 (by decide) ?_
          exact z_sub (by exact ⟨rfl, ⟨rfl, ⟨rfl, ⟨rfl, ⟨rfl, ⟨rfl, ⟨rfl, trivial⟩⟩⟩⟩⟩⟩⟩) hv
      · have hv := hv.2 q6
        refine z_iload_n dX12_feed_42 rfl ?_
        refine z_goto (tgt := 71) dX12_feed_43 (by decide) ?_
        refine z_istore (lv2 := [some (.ref 160), some (.int p1), some (.int p2), some (.int p3), some (.int p4), some (.int p5), some (.int x6), some (.int p2)]) dX12_feed_71 (by decide) rfl rfl ?_
        refine z_aload_n dX12_feed_73 rfl ?_
        refine z_getP dX12_feed_74 zf_X12_7 zn_160 zo_160 (fun _ _ _ _ _ => rfl) (hP 160 0 161 zp_160_0) ?_
        refine z_aload_n dX12_feed_77 rfl ?_
        refine z_getI dX12_feed_78 zf_X12_255 zn_160 zo_160 (fun _ _ _ _ _ => rfl) ?_
        refine z_iload dX12_feed_81 rfl ?_
        refine z_iadd dX12_feed_83 ?_
        refine z_iload dX12_feed_84 rfl ?_
        refine z_bipush (v := 24) dX12_feed_86 (by decide) ?_
        refine z_bipush (v := 8) dX12_feed_88 (by decide) ?_
        refine z_iload dX12_feed_90 rfl ?_
        refine z_iconst (v := 3) dX12_feed_92 (by decide) ?_
        refine z_iand dX12_feed_93 ?_
        refine z_imul dX12_feed_94 ?_
        refine z_isub dX12_feed_95 ?_
        refine z_ishr dX12_feed_96 ?_
        refine z_i2b dX12_feed_97 ?_
        obtain ⟨h18, hv⟩ := hv
        refine z_bastore dX12_feed_98 zn_161 zh_161 h18 (pk_nb _) (z_nmI (fun I20 e19 => ?_))
        have hv := hv I20 e19
        refine z_iinc (v2 := x6 + 1) (lv2 := [some (.ref 160), some (.int p1), some (.int p2), some (.int p3), some (.int p4), some (.int p5), some (.int (x6 + 1)), some (.int p2)]) dX12_feed_99 rfl (by rfl) (by decide) rfl rfl ?_
        refine z_goto (tgt := 18) dX12_feed_102 (by decide) ?_
        exact z_sub (by exact ⟨rfl, ⟨rfl, ⟨rfl, ⟨rfl, ⟨rfl, ⟨rfl, ⟨rfl, trivial⟩⟩⟩⟩⟩⟩⟩) hv
    · have hv := hv.2 q5
      refine z_iload_n dX12_feed_31 rfl ?_
      refine z_goto (tgt := 71) dX12_feed_32 (by decide) ?_
      refine z_istore (lv2 := [some (.ref 160), some (.int p1), some (.int p2), some (.int p3), some (.int p4), some (.int p5), some (.int x6), some (.int p1)]) dX12_feed_71 (by decide) rfl rfl ?_
      refine z_aload_n dX12_feed_73 rfl ?_
      refine z_getP dX12_feed_74 zf_X12_7 zn_160 zo_160 (fun _ _ _ _ _ => rfl) (hP 160 0 161 zp_160_0) ?_
      refine z_aload_n dX12_feed_77 rfl ?_
      refine z_getI dX12_feed_78 zf_X12_255 zn_160 zo_160 (fun _ _ _ _ _ => rfl) ?_
      refine z_iload dX12_feed_81 rfl ?_
      refine z_iadd dX12_feed_83 ?_
      refine z_iload dX12_feed_84 rfl ?_
      refine z_bipush (v := 24) dX12_feed_86 (by decide) ?_
      refine z_bipush (v := 8) dX12_feed_88 (by decide) ?_
      refine z_iload dX12_feed_90 rfl ?_
      refine z_iconst (v := 3) dX12_feed_92 (by decide) ?_
      refine z_iand dX12_feed_93 ?_
      refine z_imul dX12_feed_94 ?_
      refine z_isub dX12_feed_95 ?_
      refine z_ishr dX12_feed_96 ?_
      refine z_i2b dX12_feed_97 ?_
      obtain ⟨h21, hv⟩ := hv
      refine z_bastore dX12_feed_98 zn_161 zh_161 h21 (pk_nb _) (z_nmI (fun I23 e22 => ?_))
      have hv := hv I23 e22
      refine z_iinc (v2 := x6 + 1) (lv2 := [some (.ref 160), some (.int p1), some (.int p2), some (.int p3), some (.int p4), some (.int p5), some (.int (x6 + 1)), some (.int p1)]) dX12_feed_99 rfl (by rfl) (by decide) rfl rfl ?_
      refine z_goto (tgt := 18) dX12_feed_102 (by decide) ?_
      exact z_sub (by exact ⟨rfl, ⟨rfl, ⟨rfl, ⟨rfl, ⟨rfl, ⟨rfl, ⟨rfl, trivial⟩⟩⟩⟩⟩⟩⟩) hv
abbrev v_X12_feed (d : Nat) (Q : zQt) (p1 : Int32) (p2 : Int32) (p3 : Int32) (p4 : Int32) (p5 : Int32) (I : zI) (L : zL) (P : zP) : Prop :=
  ((((I 160 2) + 20) ≤ 1600 →
    gw_X12_feed d Q 18 [some (.ref 160), some (.int p1), some (.int p2), some (.int p3), some (.int p4), some (.int p5), some (.int 0), none] [] I L P
  ) ∧ (¬ ((I 160 2) + 20) ≤ 1600 →
    Q (some (.int (-1))) I L P 205
  ))
set_option maxRecDepth 20000 in
theorem g_X12_feed {d : Nat} {Q : zQt} {p1 : Int32} {p2 : Int32} {p3 : Int32} {p4 : Int32} {p5 : Int32} {I : zI} {L : zL} {P : zP} (hP : zPk P) (hv : v_X12_feed d Q p1 p2 p3 p4 p5 I L P) : zM zm_X12_feed d 0 0 [.ref 160, .int p1, .int p2, .int p3, .int p4, .int p5] I L P 205 Q := by
  unfold v_X12_feed at hv
  refine zM_of (lv0 := [some (.ref 160), some (.int p1), some (.int p2), some (.int p3), some (.int p4), some (.int p5), none, none]) (by decide +kernel) (Nat.le_of_ble_eq_true rfl) rfl ?_
  refine z_aload_n dX12_feed_0 rfl ?_
  refine z_getI dX12_feed_1 zf_X12_255 zn_160 zo_160 (fun _ _ _ _ _ => rfl) ?_
  refine z_bipush (v := 20) dX12_feed_4 (by decide) ?_
  refine z_iadd dX12_feed_6 ?_
  refine z_sipush (v := 1600) dX12_feed_7 (by decide) ?_
  refine z_icmp_le (tgt := 15) dX12_feed_10 (by decide) (fun q1 => ?_) (fun q1 => ?_)
  · have hv := hv.1 q1
    refine z_iconst (v := 0) dX12_feed_15 (by decide) ?_
    refine z_istore (lv2 := [some (.ref 160), some (.int p1), some (.int p2), some (.int p3), some (.int p4), some (.int p5), some (.int 0), none]) dX12_feed_16 (by decide) rfl rfl ?_
    exact hv
  · have hv := hv.2 q1
    refine z_iconst (v := (-1)) dX12_feed_13 (by decide) ?_
    exact z_ireturn dX12_feed_14 rfl rfl (Nat.le_refl _) (Nat.le_refl _) hv
theorem lp_X12_feed {dd : Nat} {Q : zQt} {I0 : zI} {L : zL} {P : zP} {a b c d e : Int32} {t : Nat} (hP : zPk P) (ht : t ≤ 1580) (h2 : I0 160 2 = nI t)
    (kk : ∀ I, zFr [161] [2] I0 I → I 160 2 = nI (t + 20) → (∀ k, k < 20 → I 161 (t + k) = fdB a b c d e k) → (∀ k, ¬ (t ≤ k ∧ k < t + 20) → I 161 k = I0 161 k) → Q (some (.int (nI (t + 20)))) I L P 205) :
    ∀ m i I, i + m = 20 → zFr [161] [] I0 I → (∀ k, k < i → I 161 (t + k) = fdB a b c d e k) → (∀ k, ¬ (t ≤ k ∧ k < t + i) → I 161 k = I0 161 k) →
      gw_X12_feed dd Q 18 [some (.ref 160), some (.int a), some (.int b), some (.int c), some (.int d), some (.int e), some (.int (nI i)), none] [] I L P := by
  intro m
  induction m with
  | zero =>
    intro i I hi hf h1 h3
    have : i = 20 := by omega
    subst this
    refine g_X12_feed_18 hP ⟨fun _ I1 e1 => ?_, fun q => absurd (by decide) q⟩
    have e2 : I 160 2 + 20 = nI (t + 20) := by rw [hf.2 2 (by simp), h2, show (20 : Int32) = nI 20 from rfl, nI_add]
    rw [e2] at e1
    subst e1
    rw [zuI_v]
    exact kk _ (zFr_s (zFr_wk hf (by decide) (by simp)) (by decide)) (zuI_v _ _ _ _) (fun k hk => by rw [zuI_ne (by decide)]; exact h1 k hk) (fun k hk => by rw [zuI_ne (by decide)]; exact h3 k hk)
  | succ m ih =>
    intro i I hi hf h1 h3
    have ei : I 160 2 + nI i = nI (t + i) := by rw [hf.2 2 (by simp), h2, nI_add]
    have z : ∀ j, (j < 2 ^ 31) → ((nI j ≤ nI i) ↔ j ≤ i) := fun j hj => nI_leI hj (by omega)
    have z4 : (4 : Int32) ≤ nI i ↔ 4 ≤ i := z 4 (by decide)
    have z8 : (8 : Int32) ≤ nI i ↔ 8 ≤ i := z 8 (by decide)
    have z12 : (12 : Int32) ≤ nI i ↔ 12 ≤ i := z 12 (by decide)
    have z16 : (16 : Int32) ≤ nI i ↔ 16 ≤ i := z 16 (by decide)
    have z20 : (20 : Int32) ≤ nI i ↔ 20 ≤ i := z 20 (by decide)
    have es : ((24 : Int32) - ((8 : Int32) * (nI i &&& 3 : Int32))) = nI (24 - 8 * (i % 4)) := by
      have : (nI i &&& 3 : Int32) = nI (i % 4) := nx_mask i 2
      rw [this, show (8 : Int32) = nI 8 from rfl, pk_mul, show (24 : Int32) = nI 24 from rfl, pk_sub (by omega)]
    have next : ∀ v, v = (if i < 4 then a else if i < 8 then b else if i < 12 then c else if i < 16 then d else e) → vp_in (I 160 2 + nI i) 1620 ∧ ∀ I11 : zI, I11 = zuI I 161 ((I 160 2) + nI i).toNatClampNeg (((v >>> (((24 : Int32) - ((8 : Int32) * (nI i &&& 3 : Int32))) &&& 31) : Int32) : Int32).toInt8.toInt32) →
        gw_X12_feed dd Q 18 [some (.ref 160), some (.int a), some (.int b), some (.int c), some (.int d), some (.int e), some (.int (nI i + 1)), none] [] I11 L P := by
      intro v ev
      rw [ei, es, ev]
      refine ⟨nx_in (by omega) (by decide), fun I1 e1 => ?_⟩
      rw [nI_cl (by omega)] at e1
      subst e1
      rw [nI_1]
      refine ih (i + 1) _ (by omega) (zFr_c hf (by decide) (by decide)) (fun k hk => ?_) (fun k hk => ?_)
      · rcases Nat.lt_succ_iff_lt_or_eq.mp hk with q | q
        · rw [zuI_o (by omega)]; exact h1 k q
        · subst q; rw [zuI_v]; rfl
      · rw [zuI_o (by omega)]; exact h3 k (by omega)
    refine g_X12_feed_18 hP ?_
    unfold v_X12_feed_18
    rw [z4, z8, z12, z16, z20]
    refine ⟨fun q => absurd q (by omega), fun _ => ⟨fun q4 => ⟨fun q8 => ⟨fun q12 => ⟨fun q16 => next e ?_, fun q16 => next d ?_⟩, fun q12 => next c ?_⟩, fun q8 => next b ?_⟩, fun q4 => next a ?_⟩⟩
    · rw [if_neg (by omega), if_neg (by omega), if_neg (by omega), if_neg (by omega)]
    · rw [if_neg (by omega), if_neg (by omega), if_neg (by omega), if_pos (by omega)]
    · rw [if_neg (by omega), if_neg (by omega), if_pos (by omega)]
    · rw [if_neg (by omega), if_pos (by omega)]
    · rw [if_pos (by omega)]
theorem sp_X12_feed {dd : Nat} {I : zI} {L : zL} {P : zP} {a b c d e : Int32} (hP : zPk P) (hT : MTp I) {K : Int32 → zI → zL → zP → Prop}
    (k0 : ¬ vTp I + 20 ≤ 1600 → K (-1) I L P) (kk : vTp I + 20 ≤ 1600 → ∀ I', zFr [161] [2] I I' → I' 160 2 = nI (vTp I + 20) → (∀ k, k < 20 → I' 161 (vTp I + k) = fdB a b c d e k) → (∀ k, ¬ (vTp I ≤ k ∧ k < vTp I + 20) → I' 161 k = I 161 k) → K (nI (vTp I + 20)) I' L P) : zMi zm_X12_feed dd [.ref 160, .int a, .int b, .int c, .int d, .int e] I L P K := by
  have e2 : I 160 2 + 20 = nI (vTp I + 20) := by rw [hT.2.1, show (20 : Int32) = nI 20 from rfl, nI_add]
  have h := hT.1
  have z : nI (vTp I + 20) ≤ 1600 ↔ vTp I + 20 ≤ 1600 := nI_leI (b := 1600) (by omega) (by decide)
  refine g_X12_feed hP ?_
  unfold v_X12_feed
  rw [e2, z]
  refine ⟨fun q => lp_X12_feed hP (by omega) hT.2.1 (fun I' a1 a2 a3 a4 => qi (kk q I' a1 a2 a3 a4)) 20 0 I rfl (zFr_rf _ _ _) (fun k hk => absurd hk (Nat.not_lt_zero k)) (fun _ _ => rfl), fun q => qi (k0 q)⟩
abbrev gw_X12_beginText (d : Nat) (Q : zQt) (pc : Nat) (lv : zV) (st : List Value) (I : zI) (L : zL) (P : zP) : Prop := zW zm_X12_beginText (zRm d 0 0) 0 0 Q pc lv st I L P 205 0 0
abbrev v_X12_beginText_20 (d : Nat) (Q : zQt) (x1 : Int32) (I : zI) (L : zL) (P : zP) : Prop :=
  (((I 160 3) ≤ x1 →
    ∀ I8 : zI, I8 = zuI I 160 2 0 →
    ∀ I10 : zI, I10 = zuI I8 160 7 0 →
    Q none I10 L P 205
  ) ∧ (¬ (I 160 3) ≤ x1 →
    vp_in x1 1620 ∧
    vp_in x1 1600 ∧
    narrow .byte (.int (I 161 x1.toNatClampNeg)) = .int (I 161 x1.toNatClampNeg) ∧
    ∀ I15 : zI, I15 = zuI I 162 x1.toNatClampNeg (I 161 x1.toNatClampNeg) →
    gw_X12_beginText d Q 20 [some (.ref 160), some (.int (x1 + 1))] [] I15 L P
  ))
set_option maxRecDepth 20000 in
theorem g_X12_beginText_20 {d : Nat} {Q : zQt} {x1 : Int32} {I : zI} {L : zL} {P : zP} (hP : zPk P) (hv : v_X12_beginText_20 d Q x1 I L P) : gw_X12_beginText d Q 20 [some (.ref 160), some (.int x1)] [] I L P := by
  unfold v_X12_beginText_20 at hv
  refine z_iload_n dX12_beginText_20 rfl ?_
  refine z_aload_n dX12_beginText_21 rfl ?_
  refine z_getI dX12_beginText_22 zf_X12_155 zn_160 zo_160 (fun _ _ _ _ _ => rfl) ?_
  refine z_icmp_ge (tgt := 46) dX12_beginText_25 (by decide) (fun q7 => ?_) (fun q7 => ?_)
  · have hv := hv.1 q7
    refine z_aload_n dX12_beginText_46 rfl ?_
    refine z_iconst (v := 0) dX12_beginText_47 (by decide) ?_
    refine z_putI dX12_beginText_48 zf_X12_255 zn_160 zo_160 (Or.inl rfl) (fun _ _ _ _ _ => rfl) rfl rfl (z_nmI (fun I8 e9 => ?_))
    have hv := hv I8 e9
    refine z_aload_n dX12_beginText_51 rfl ?_
    refine z_iconst (v := 0) dX12_beginText_52 (by decide) ?_
    refine z_putI dX12_beginText_53 zf_X12_195 zn_160 zo_160 (Or.inl rfl) (fun _ _ _ _ _ => rfl) rfl rfl (z_nmI (fun I10 e11 => ?_))
    have hv := hv I10 e11
    exact z_return dX12_beginText_56 rfl (Nat.le_refl _) (Nat.le_refl _) hv
  · have hv := hv.2 q7
    refine z_aload_n dX12_beginText_28 rfl ?_
    refine z_getP dX12_beginText_29 zf_X12_13 zn_160 zo_160 (fun _ _ _ _ _ => rfl) (hP 160 1 162 zp_160_1) ?_
    refine z_iload_n dX12_beginText_32 rfl ?_
    refine z_aload_n dX12_beginText_33 rfl ?_
    refine z_getP dX12_beginText_34 zf_X12_7 zn_160 zo_160 (fun _ _ _ _ _ => rfl) (hP 160 0 161 zp_160_0) ?_
    refine z_iload_n dX12_beginText_37 rfl ?_
    obtain ⟨h12, hv⟩ := hv
    refine z_baload dX12_beginText_38 zn_161 zh_161 h12 ?_
    obtain ⟨h13, hv⟩ := hv
    obtain ⟨h16, hv⟩ := hv
    refine z_bastore dX12_beginText_39 zn_162 zh_162 h13 h16 (z_nmI (fun I15 e14 => ?_))
    have hv := hv I15 e14
    refine z_iinc (v2 := x1 + 1) (lv2 := [some (.ref 160), some (.int (x1 + 1))]) dX12_beginText_40 rfl (by rfl) (by decide) rfl rfl ?_
    refine z_goto (tgt := 20) dX12_beginText_43 (by decide) ?_
    exact hv
abbrev v_X12_beginText (d : Nat) (Q : zQt)  (I : zI) (L : zL) (P : zP) : Prop :=
  ∀ I1 : zI, I1 = zuI I 160 4 0 →
  ∀ I3 : zI, I3 = zuI I1 160 5 (-1) →
  ∀ I5 : zI, I5 = zuI I3 160 3 (I3 160 2) →
  gw_X12_beginText d Q 20 [some (.ref 160), some (.int 0)] [] I5 L P
set_option maxRecDepth 20000 in
theorem g_X12_beginText {d : Nat} {Q : zQt}  {I : zI} {L : zL} {P : zP} (hP : zPk P) (hv : v_X12_beginText d Q  I L P) : zM zm_X12_beginText d 0 0 [.ref 160] I L P 205 Q := by
  unfold v_X12_beginText at hv
  refine zM_of (lv0 := [some (.ref 160), none]) (by decide +kernel) (Nat.le_of_ble_eq_true rfl) rfl ?_
  refine z_aload_n dX12_beginText_0 rfl ?_
  refine z_iconst (v := 0) dX12_beginText_1 (by decide) ?_
  refine z_putI dX12_beginText_2 zf_X12_158 zn_160 zo_160 (Or.inl rfl) (fun _ _ _ _ _ => rfl) rfl rfl (z_nmI (fun I1 e2 => ?_))
  have hv := hv I1 e2
  refine z_aload_n dX12_beginText_5 rfl ?_
  refine z_iconst (v := (-1)) dX12_beginText_6 (by decide) ?_
  refine z_putI dX12_beginText_7 zf_X12_16 zn_160 zo_160 (Or.inl rfl) (fun _ _ _ _ _ => rfl) rfl rfl (z_nmI (fun I3 e4 => ?_))
  have hv := hv I3 e4
  refine z_aload_n dX12_beginText_10 rfl ?_
  refine z_aload_n dX12_beginText_11 rfl ?_
  refine z_getI dX12_beginText_12 zf_X12_255 zn_160 zo_160 (fun _ _ _ _ _ => rfl) ?_
  refine z_putI dX12_beginText_15 zf_X12_155 zn_160 zo_160 (Or.inl rfl) (fun _ _ _ _ _ => rfl) rfl rfl (z_nmI (fun I5 e6 => ?_))
  have hv := hv I5 e6
  refine z_iconst (v := 0) dX12_beginText_18 (by decide) ?_
  refine z_istore_n (lv2 := [some (.ref 160), some (.int 0)]) dX12_beginText_19 (by decide) rfl rfl ?_
  exact hv
theorem lp_X12_beginText {d : Nat} {Q : zQt} {I0 : zI} {L : zL} {P : zP} {t : Nat} (hP : zPk P) (ht : t ≤ 1600) (h3 : I0 160 3 = nI t) (hb : ∀ k, zBy (I0 161 k))
    (kk : ∀ I, zFr [162] [2, 7] I0 I → I 160 2 = 0 → I 160 7 = 0 → (∀ k, k < t → I 162 k = I0 161 k) → Q none I L P 205) :
    ∀ m i I, i + m = t → zFr [162] [] I0 I → (∀ k, k < i → I 162 k = I0 161 k) → gw_X12_beginText d Q 20 [some (.ref 160), some (.int (nI i))] [] I L P := by
  intro m
  induction m with
  | zero =>
    intro i I hi hf h1
    have : i = t := by omega
    subst this
    refine g_X12_beginText_20 hP ⟨fun _ I1 e1 I2 e2 => ?_, fun q => absurd (by rw [hf.2 3 (by simp), h3]; exact nI_le (Nat.le_refl _) (by omega)) q⟩
    subst e1
    subst e2
    exact kk _ (zFr_s (zFr_s (zFr_wk hf (by decide) (by simp)) (by decide)) (by decide)) (by rw [zuI_o (by decide), zuI_v]) (zuI_v _ _ _ _) (fun k hk => by rw [zuI_ne (by decide), zuI_ne (by decide)]; exact h1 k hk)
  | succ m ih =>
    intro i I hi hf h1
    refine g_X12_beginText_20 hP ⟨fun q => absurd q (by rw [hf.2 3 (by simp), h3]; exact nI_ge (by omega) (by omega)), fun _ => ⟨nx_in (by omega) (by decide), nx_in (by omega) (by decide), ?_, fun I1 e1 => ?_⟩⟩
    · rw [nI_cl (by omega), hf.1 161 (by decide) (by decide)]; exact hb i
    · rw [nI_cl (by omega), hf.1 161 (by decide) (by decide)] at e1
      subst e1
      rw [nI_1]
      refine ih (i + 1) _ (by omega) (zFr_c hf (by decide) (by decide)) (fun k hk => ?_)
      rcases Nat.lt_succ_iff_lt_or_eq.mp hk with q | q
      · rw [zuI_o (by omega)]; exact h1 k q
      · subst q; exact zuI_v _ _ _ _
theorem sp_X12_beginText {d : Nat} {I : zI} {L : zL} {P : zP} (hP : zPk P) (hT : MTp I) {K : zI → zL → zP → Prop}
    (kk : ∀ I', zFr [162] [2, 3, 4, 5, 7] I I' → I' 160 2 = 0 → I' 160 7 = nI 0 → I' 160 4 = 0 → I' 160 5 = -1 → MX I' → vSz I' = vTp I → (∀ k, k < vTp I → I' 162 k = I 161 k) → K I' L P) : zMv zm_X12_beginText d [.ref 160] I L P K := by
  refine g_X12_beginText hP (fun I1 e1 I2 e2 I3 e3 => ?_)
  subst e1
  subst e2
  rw [zuI_o (by decide), zuI_o (by decide)] at e3
  have f : zFr [] [3, 4, 5] I I3 := by rw [e3]; exact zFr_s (zFr_s (zFr_s (zFr_rf _ _ _) (by decide)) (by decide)) (by decide)
  have s3 : I3 160 3 = nI (vTp I) := by rw [e3, zuI_v]; exact hT.2.1
  have s4 : I3 160 4 = 0 := by rw [e3, zuI_o (by decide), zuI_o (by decide), zuI_v]
  have s5 : I3 160 5 = -1 := by rw [e3, zuI_o (by decide), zuI_v]
  have e161 : I3 161 = I 161 := f.1 161 (by simp) (by decide)
  clear e3
  refine lp_X12_beginText hP hT.1 s3 (fun k => by rw [e161]; exact hT.2.2 k) (fun I4 a1 a2 a3 a4 => qv (kk I4 ?_ a2 a3 ?_ ?_ ⟨?_, ?_⟩ ?_ (fun k hk => by rw [a4 k hk, e161]))) (vTp I) 0 I3 (by omega) (zFr_rf _ _ _) (fun k hk => absurd hk (Nat.not_lt_zero k))
  · exact zFr_tr (zFr_wk f (by simp) (by decide)) (zFr_wk a1 (by decide) (by decide))
  · rw [a1.2 4 (by decide), s4]
  · rw [a1.2 5 (by decide), s5]
  · unfold vSz; rw [a1.2 3 (by decide), s3, nI_cl (by have := hT.1; omega)]; exact hT.1
  · unfold vSz; rw [a1.2 3 (by decide), s3, nI_cl (by have := hT.1; omega)]
  · unfold vSz; rw [a1.2 3 (by decide), s3, nI_cl (by have := hT.1; omega)]
/-- the sayings of the island that is told lie in its own bank -/
def MCb (I : zI) : Prop := ∀ i, i < vNs I → 700 * vB I ≤ vSf I i ∧ vSf I i + vSl I i ≤ 700 * vB I + 700
theorem MC_lo {cs sl : List Nat} {I0 I : zI} (h : zFr cs sl I0 I) (h1 : 28 ∉ sl) (h2 : 163 ∉ cs) (h3 : 165 ∉ cs) (h4 : 169 ∉ cs) (h5 : 170 ∉ cs) (hl : ∀ k, k < 1400 → I 175 k = I0 175 k ∧ I 176 k = I0 176 k) (hB : MB I0) (hb : MCb I0) (hm : MC I0) : MC I ∧ MCb I ∧ ∀ i, i < vNs I0 → vSy I i = vSy I0 i := by
  have b2 := hB.1.1
  have eB := vB_fr h h1
  have eN := vNs_fr h h1 h3
  have eF := vSf_fr h h1 h4
  have eL := vSl_fr h h1 h4 h5
  have eY : ∀ i, i < vNs I0 → vSy I i = vSy I0 i := by
    intro i hi
    unfold vSy
    rw [eF, eL]
    have := hb i hi
    exact vCd_k _ _ (fun k a b => hl k (by omega))
  refine ⟨⟨by rw [eN]; exact hm.1, by rw [eB, h.1 165 h3 (by decide), eN]; exact hm.2.1, fun i hi => ?_⟩, fun i hi => ?_, eY⟩
  · rw [eN] at hi
    rw [eB, eF, eL, eY i hi, h.1 169 h4 (by decide), h.1 170 h5 (by decide), vNp_fr h h1 h2]
    exact hm.2.2 i hi
  · rw [eN] at hi
    rw [eB, eF, eL]
    exact hb i hi
