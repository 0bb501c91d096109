/-! ===== the class: a formula weighed; hear, depth ===== -/
abbrev gw_X4_weigh (d : Nat) (Q : zQt) (pc : Nat) (lv : zV) (st : List Value) (I : zI) (L : zL) (P : zP) : Prop := zW zm_X4_weigh (zRm d 0 0) 0 0 Q pc lv st I L P 205 0 0
abbrev v_X4_weigh_8 (d : Nat) (Q : zQt) (p1 : Nat) (p2 : Nat) (p4 : Int32) (x5 : Int32) (I : zI) (L : zL) (P : zP) : Prop :=
  ((p4 ≤ x5 →
    Q none I L P 205
  ) ∧ (¬ p4 ≤ x5 →
    (p2 < 205 ∧ (zsh p2).1 = 0) ∧
    zMi zm_X0_kindAt d [.ref p2, .int x5] I L P (fun r9 I5 L6 P7 =>
      zPk P7 ∧
      (((bP (kLf r9)) = 0 →
        (((kRk r9) = (-1) →
          (((I5 23 5) < 1 →
            gw_X4_weigh (d + 1) Q 8 [some (.ref 23), some (.ref p1), some (.ref p2), none, some (.int p4), some (.int (x5 + 1)), none, none] [] I5 L6 P7
          ) ∧ (¬ (I5 23 5) < 1 →
            vp_in ((I5 23 5) - 1) 44 ∧
            ∃ b19 : Nat, P7 24 ((I5 23 5) - 1).toNatClampNeg = some b19 ∧
            (r9 = 267 →
              zMv zm_X4_negate d [.ref p1, .ref b19] I5 L6 P7 (fun I21 L22 P23 =>
                gw_X4_weigh (d + 1) Q 8 [some (.ref 23), some (.ref p1), some (.ref p2), none, some (.int p4), some (.int (x5 + 1)), none, none] [] I21 L22 P23
              )
            ) ∧
            (r9 = 270 →
              zMi zm_X0_ofAt d [.ref p2, .int x5] I5 L6 P7 (fun r30 I26 L27 P28 =>
                zMv zm_X4_knowsOne d [.ref 23, .ref p1, .int r30, .ref b19] I26 L27 P28 (fun I31 L32 P33 =>
                  gw_X4_weigh (d + 1) Q 8 [some (.ref 23), some (.ref p1), some (.ref p2), none, some (.int p4), some (.int (x5 + 1)), none, none] [] I31 L32 P33
                )
              )
            ) ∧
            (r9 = 271 →
              zMv zm_X4_knowAll d [.ref 23, .ref p1, .ref b19] I5 L6 P7 (fun I36 L37 P38 =>
                gw_X4_weigh (d + 1) Q 8 [some (.ref 23), some (.ref p1), some (.ref p2), none, some (.int p4), some (.int (x5 + 1)), none, none] [] I36 L37 P38
              )
            ) ∧
            (¬ r9 = 267 → ¬ r9 = 270 → ¬ r9 = 271 →
              zMv zm_X4_knowInCommon d [.ref 23, .ref p1, .ref b19] I5 L6 P7 (fun I41 L42 P43 =>
                gw_X4_weigh (d + 1) Q 8 [some (.ref 23), some (.ref p1), some (.ref p2), none, some (.int p4), some (.int (x5 + 1)), none, none] [] I41 L42 P43
              )
            )
          ))
        ) ∧ (¬ (kRk r9) = (-1) →
          zMv zm_X4_joinTop d [.ref 23, .ref p1, .int r9] I5 L6 P7 (fun I51 L52 P53 =>
            gw_X4_weigh (d + 1) Q 8 [some (.ref 23), some (.ref p1), some (.ref p2), none, some (.int p4), some (.int (x5 + 1)), none, none] [] I51 L52 P53
          )
        ))
      ) ∧ (¬ (bP (kLf r9)) = 0 →
        zMi zm_X0_ofAt d [.ref p2, .int x5] I5 L6 P7 (fun r60 I56 L57 P58 =>
          zMv zm_X4_pushLeaf d [.ref 23, .ref p1, .int r9, .int r60] I56 L57 P58 (fun I61 L62 P63 =>
            gw_X4_weigh (d + 1) Q 8 [some (.ref 23), some (.ref p1), some (.ref p2), none, some (.int p4), some (.int (x5 + 1)), none, none] [] I61 L62 P63
          )
        )
      ))
    )
  ))
set_option maxRecDepth 20000 in
theorem g_X4_weigh_8 {d : Nat} {Q : zQt} {p1 : Nat} {p2 : Nat} {p4 : Int32} {x5 : Int32} {I : zI} {L : zL} {P : zP} (hP : zPk P) (hv : v_X4_weigh_8 d Q p1 p2 p4 x5 I L P) : gw_X4_weigh (d + 1) Q 8 [some (.ref 23), some (.ref p1), some (.ref p2), none, some (.int p4), some (.int x5), none, none] [] I L P := by
  unfold v_X4_weigh_8 at hv
  refine z_iload dX4_weigh_8 rfl ?_
  refine z_iload dX4_weigh_10 rfl ?_
  refine z_icmp_ge (tgt := 172) dX4_weigh_12 (by decide) (fun q3 => ?_) (fun q3 => ?_)
  · have hv := hv.1 q3
    exact z_return dX4_weigh_172 rfl (Nat.le_refl _) (Nat.le_refl _) hv
  · have hv := hv.2 q3
    refine z_aload_n dX4_weigh_15 rfl ?_
    refine z_iload dX4_weigh_16 rfl ?_
    obtain ⟨h4, hv⟩ := hv
    refine z_callV (As := [.int x5]) (st := []) dX4_weigh_18 zl_X4_55 zv_X0_kindAt (by decide) rfl h4.1 h4.2 rfl rfl (Nat.le_of_ble_eq_true rfl) ⟨Nat.le_refl _, Nat.le_refl _⟩ ⟨Nat.le_refl _, Nat.le_refl _⟩ hv (fun v1 I5 L6 P7 nx1 q8 => ?_)
    obtain ⟨rfl, r9, rfl, hv⟩ := q8
    refine z_istore (lv2 := [some (.ref 23), some (.ref p1), some (.ref p2), none, some (.int p4), some (.int x5), some (.int r9), none]) dX4_weigh_21 (by decide) rfl rfl ?_
    refine z_iload dX4_weigh_23 rfl ?_
    obtain ⟨h10, hv⟩ := hv
    refine z_callS (As := [.int r9]) (st := []) dX4_weigh_25 zl_X4_61 zs_X3_isLeaf rfl rfl (Nat.le_of_ble_eq_true rfl) ⟨Nat.le_refl _, Nat.le_refl _⟩ ⟨Nat.le_refl _, Nat.le_refl _⟩ (sp_X3_isLeaf h10 (K := fun r I' L' P' => bP (kLf r9) = r ∧ I5 = I' ∧ L6 = L' ∧ P7 = P') ⟨rfl, rfl, rfl, rfl⟩) (fun v1 I2 L2 P2 nx1 q12 => ?_)
    obtain ⟨rfl, r11, rfl, rfl, rfl, rfl, rfl⟩ := q12
    refine z_if_eq (tgt := 47) dX4_weigh_28 (by decide) (fun q13 => ?_) (fun q13 => ?_)
    · have hv := hv.1 q13
      refine z_iload dX4_weigh_47 rfl ?_
      refine z_callS (As := [.int r9]) (st := []) dX4_weigh_49 zl_X4_74 zs_X3_rankOf rfl rfl (Nat.le_of_ble_eq_true rfl) ⟨Nat.le_refl _, Nat.le_refl _⟩ ⟨Nat.le_refl _, Nat.le_refl _⟩ (sp_X3_rankOf h10 (K := fun r I' L' P' => kRk r9 = r ∧ I5 = I' ∧ L6 = L' ∧ P7 = P') ⟨rfl, rfl, rfl, rfl⟩) (fun v1 I2 L2 P2 nx1 q15 => ?_)
      obtain ⟨rfl, r14, rfl, rfl, rfl, rfl, rfl⟩ := q15
      refine z_iconst (v := (-1)) dX4_weigh_52 (by decide) ?_
      refine z_icmp_eq (tgt := 66) dX4_weigh_53 (by decide) (fun q16 => ?_) (fun q16 => ?_)
      · have hv := hv.1 q16
        refine z_aload_n dX4_weigh_66 rfl ?_
        refine z_getI dX4_weigh_67 zf_X4_31 zn_23 zo_23 (fun _ _ _ _ _ => rfl) ?_
        refine z_iconst (v := 1) dX4_weigh_70 (by decide) ?_
        refine z_icmp_lt (tgt := 166) dX4_weigh_71 (by decide) (fun q17 => ?_) (fun q17 => ?_)
        · have hv := hv.1 q17
          refine z_iinc (v2 := x5 + 1) (lv2 := [some (.ref 23), some (.ref p1), some (.ref p2), none, some (.int p4), some (.int (x5 + 1)), some (.int r9), none]) dX4_weigh_166 rfl (by rfl) (by decide) rfl rfl ?_
          refine z_goto (tgt := 8) dX4_weigh_169 (by decide) ?_
          exact z_sub (by exact ⟨rfl, ⟨rfl, ⟨rfl, ⟨rfl, ⟨rfl, trivial⟩⟩⟩⟩⟩) hv
        · have hv := hv.2 q17
          refine z_aload_n dX4_weigh_74 rfl ?_
          refine z_getP dX4_weigh_75 zf_X4_15 zn_23 zo_23 (fun _ _ _ _ _ => rfl) (h10 23 0 24 zp_23_0) ?_
          refine z_aload_n dX4_weigh_78 rfl ?_
          refine z_getI dX4_weigh_79 zf_X4_31 zn_23 zo_23 (fun _ _ _ _ _ => rfl) ?_
          refine z_iconst (v := 1) dX4_weigh_82 (by decide) ?_
          refine z_isub dX4_weigh_83 ?_
          obtain ⟨h18, hv⟩ := hv
          obtain ⟨b19, h20, hv⟩ := hv
          refine z_aaload dX4_weigh_84 zn_24 zh_24 (Or.inl rfl) h18 h20 ?_
          refine z_astore (lv2 := [some (.ref 23), some (.ref p1), some (.ref p2), none, some (.int p4), some (.int x5), some (.int r9), some (.ref b19)]) dX4_weigh_85 (by decide) rfl rfl ?_
          refine z_iload dX4_weigh_87 rfl ?_
          by_cases q46 : r9 = 267
          · have hv := hv.1 q46
            refine z_tableIn (off := 35) (tgt := 124) dX4_weigh_89 (by rw [q46]; decide) (by rw [q46]; decide) (by rw [q46]; decide) (by decide) ?_
            refine z_aload_n dX4_weigh_124 rfl ?_
            refine z_aload dX4_weigh_125 rfl ?_
            refine z_callS (As := [.ref p1, .ref b19]) (st := []) dX4_weigh_127 zl_X4_81 zs_X4_negate rfl rfl (Nat.le_of_ble_eq_true rfl) ⟨Nat.le_refl _, Nat.le_refl _⟩ ⟨Nat.le_refl _, Nat.le_refl _⟩ hv (fun v1 I21 L22 P23 nx1 q24 => ?_)
            obtain ⟨rfl, rfl, hv⟩ := q24
            refine z_goto (tgt := 166) dX4_weigh_130 (by decide) ?_
            refine z_iinc (v2 := x5 + 1) (lv2 := [some (.ref 23), some (.ref p1), some (.ref p2), none, some (.int p4), some (.int (x5 + 1)), some (.int r9), some (.ref b19)]) dX4_weigh_166 rfl (by rfl) (by decide) rfl rfl ?_
            refine z_goto (tgt := 8) dX4_weigh_169 (by decide) ?_
            exact z_sub (by exact ⟨rfl, ⟨rfl, ⟨rfl, ⟨rfl, ⟨rfl, trivial⟩⟩⟩⟩⟩) hv
          by_cases q47 : r9 = 268
          · have hv := hv.2.2.2 (by rw [q47]; decide) (by rw [q47]; decide) (by rw [q47]; decide)
            refine z_tableIn (off := 70) (tgt := 159) dX4_weigh_89 (by rw [q47]; decide) (by rw [q47]; decide) (by rw [q47]; decide) (by decide) ?_
            refine z_aload_n dX4_weigh_159 rfl ?_
            refine z_aload_n dX4_weigh_160 rfl ?_
            refine z_aload dX4_weigh_161 rfl ?_
            refine z_callV (As := [.ref p1, .ref b19]) (st := []) dX4_weigh_163 zl_X4_92 zv_X4_knowInCommon (by decide) rfl zn_23 zo_23 rfl rfl (Nat.le_of_ble_eq_true rfl) ⟨Nat.le_refl _, Nat.le_refl _⟩ ⟨Nat.le_refl _, Nat.le_refl _⟩ hv (fun v1 I41 L42 P43 nx1 q44 => ?_)
            obtain ⟨rfl, rfl, hv⟩ := q44
            refine z_iinc (v2 := x5 + 1) (lv2 := [some (.ref 23), some (.ref p1), some (.ref p2), none, some (.int p4), some (.int (x5 + 1)), some (.int r9), some (.ref b19)]) dX4_weigh_166 rfl (by rfl) (by decide) rfl rfl ?_
            refine z_goto (tgt := 8) dX4_weigh_169 (by decide) ?_
            exact z_sub (by exact ⟨rfl, ⟨rfl, ⟨rfl, ⟨rfl, ⟨rfl, trivial⟩⟩⟩⟩⟩) hv
          by_cases q48 : r9 = 269
          · have hv := hv.2.2.2 (by rw [q48]; decide) (by rw [q48]; decide) (by rw [q48]; decide)
            refine z_tableIn (off := 70) (tgt := 159) dX4_weigh_89 (by rw [q48]; decide) (by rw [q48]; decide) (by rw [q48]; decide) (by decide) ?_
            refine z_aload_n dX4_weigh_159 rfl ?_
            refine z_aload_n dX4_weigh_160 rfl ?_
            refine z_aload dX4_weigh_161 rfl ?_
            refine z_callV (As := [.ref p1, .ref b19]) (st := []) dX4_weigh_163 zl_X4_92 zv_X4_knowInCommon (by decide) rfl zn_23 zo_23 rfl rfl (Nat.le_of_ble_eq_true rfl) ⟨Nat.le_refl _, Nat.le_refl _⟩ ⟨Nat.le_refl _, Nat.le_refl _⟩ hv (fun v1 I41 L42 P43 nx1 q44 => ?_)
            obtain ⟨rfl, rfl, hv⟩ := q44
            refine z_iinc (v2 := x5 + 1) (lv2 := [some (.ref 23), some (.ref p1), some (.ref p2), none, some (.int p4), some (.int (x5 + 1)), some (.int r9), some (.ref b19)]) dX4_weigh_166 rfl (by rfl) (by decide) rfl rfl ?_
            refine z_goto (tgt := 8) dX4_weigh_169 (by decide) ?_
            exact z_sub (by exact ⟨rfl, ⟨rfl, ⟨rfl, ⟨rfl, ⟨rfl, trivial⟩⟩⟩⟩⟩) hv
          by_cases q49 : r9 = 270
          · have hv := hv.2.1 q49
            refine z_tableIn (off := 44) (tgt := 133) dX4_weigh_89 (by rw [q49]; decide) (by rw [q49]; decide) (by rw [q49]; decide) (by decide) ?_
            refine z_aload_n dX4_weigh_133 rfl ?_
            refine z_aload_n dX4_weigh_134 rfl ?_
            refine z_aload_n dX4_weigh_135 rfl ?_
            refine z_iload dX4_weigh_136 rfl ?_
            refine z_callV (As := [.int x5]) (st := [.ref p1, .ref 23]) dX4_weigh_138 zl_X4_67 zv_X0_ofAt (by decide) rfl h4.1 h4.2 rfl rfl (Nat.le_of_ble_eq_true rfl) ⟨Nat.le_refl _, Nat.le_refl _⟩ ⟨Nat.le_refl _, Nat.le_refl _⟩ hv (fun v1 I26 L27 P28 nx1 q29 => ?_)
            obtain ⟨rfl, r30, rfl, hv⟩ := q29
            refine z_aload dX4_weigh_141 rfl ?_
            refine z_callV (As := [.ref p1, .int r30, .ref b19]) (st := []) dX4_weigh_143 zl_X4_85 zv_X4_knowsOne (by decide) rfl zn_23 zo_23 rfl rfl (Nat.le_of_ble_eq_true rfl) ⟨Nat.le_refl _, Nat.le_refl _⟩ ⟨Nat.le_refl _, Nat.le_refl _⟩ hv (fun v1 I31 L32 P33 nx1 q34 => ?_)
            obtain ⟨rfl, rfl, hv⟩ := q34
            refine z_goto (tgt := 166) dX4_weigh_146 (by decide) ?_
            refine z_iinc (v2 := x5 + 1) (lv2 := [some (.ref 23), some (.ref p1), some (.ref p2), none, some (.int p4), some (.int (x5 + 1)), some (.int r9), some (.ref b19)]) dX4_weigh_166 rfl (by rfl) (by decide) rfl rfl ?_
            refine z_goto (tgt := 8) dX4_weigh_169 (by decide) ?_
            exact z_sub (by exact ⟨rfl, ⟨rfl, ⟨rfl, ⟨rfl, ⟨rfl, trivial⟩⟩⟩⟩⟩) hv
          by_cases q50 : r9 = 271
          · have hv := hv.2.2.1 q50
            refine z_tableIn (off := 60) (tgt := 149) dX4_weigh_89 (by rw [q50]; decide) (by rw [q50]; decide) (by rw [q50]; decide) (by decide) ?_
            refine z_aload_n dX4_weigh_149 rfl ?_
            refine z_aload_n dX4_weigh_150 rfl ?_
            refine z_aload dX4_weigh_151 rfl ?_
            refine z_callV (As := [.ref p1, .ref b19]) (st := []) dX4_weigh_153 zl_X4_89 zv_X4_knowAll (by decide) rfl zn_23 zo_23 rfl rfl (Nat.le_of_ble_eq_true rfl) ⟨Nat.le_refl _, Nat.le_refl _⟩ ⟨Nat.le_refl _, Nat.le_refl _⟩ hv (fun v1 I36 L37 P38 nx1 q39 => ?_)
            obtain ⟨rfl, rfl, hv⟩ := q39
            refine z_goto (tgt := 166) dX4_weigh_156 (by decide) ?_
            refine z_iinc (v2 := x5 + 1) (lv2 := [some (.ref 23), some (.ref p1), some (.ref p2), none, some (.int p4), some (.int (x5 + 1)), some (.int r9), some (.ref b19)]) dX4_weigh_166 rfl (by rfl) (by decide) rfl rfl ?_
            refine z_goto (tgt := 8) dX4_weigh_169 (by decide) ?_
            exact z_sub (by exact ⟨rfl, ⟨rfl, ⟨rfl, ⟨rfl, ⟨rfl, trivial⟩⟩⟩⟩⟩) hv
          have hv := hv.2.2.2 q46 q49 q50
          have tq46 := lv_neT q46 (show (267 : Int32).toInt = 267 by decide)
          have tq47 := lv_neT q47 (show (268 : Int32).toInt = 268 by decide)
          have tq48 := lv_neT q48 (show (269 : Int32).toInt = 269 by decide)
          have tq49 := lv_neT q49 (show (270 : Int32).toInt = 270 by decide)
          have tq50 := lv_neT q50 (show (271 : Int32).toInt = 271 by decide)
          refine z_tableOut (tgt := 159) dX4_weigh_89 (by omega) (by decide) ?_
          refine z_aload_n dX4_weigh_159 rfl ?_
          refine z_aload_n dX4_weigh_160 rfl ?_
          refine z_aload dX4_weigh_161 rfl ?_
          refine z_callV (As := [.ref p1, .ref b19]) (st := []) dX4_weigh_163 zl_X4_92 zv_X4_knowInCommon (by decide) rfl zn_23 zo_23 rfl rfl (Nat.le_of_ble_eq_true rfl) ⟨Nat.le_refl _, Nat.le_refl _⟩ ⟨Nat.le_refl _, Nat.le_refl _⟩ hv (fun v1 I41 L42 P43 nx1 q44 => ?_)
          obtain ⟨rfl, rfl, hv⟩ := q44
          refine z_iinc (v2 := x5 + 1) (lv2 := [some (.ref 23), some (.ref p1), some (.ref p2), none, some (.int p4), some (.int (x5 + 1)), some (.int r9), some (.ref b19)]) dX4_weigh_166 rfl (by rfl) (by decide) rfl rfl ?_
          refine z_goto (tgt := 8) dX4_weigh_169 (by decide) ?_
          exact z_sub (by exact ⟨rfl, ⟨rfl, ⟨rfl, ⟨rfl, ⟨rfl, trivial⟩⟩⟩⟩⟩) hv
      · have hv := hv.2 q16
        refine z_aload_n dX4_weigh_56 rfl ?_
        refine z_aload_n dX4_weigh_57 rfl ?_
        refine z_iload dX4_weigh_58 rfl ?_
        refine z_callV (As := [.ref p1, .int r9]) (st := []) dX4_weigh_60 zl_X4_77 zv_X4_joinTop (by decide) rfl zn_23 zo_23 rfl rfl (Nat.le_of_ble_eq_true rfl) ⟨Nat.le_refl _, Nat.le_refl _⟩ ⟨Nat.le_refl _, Nat.le_refl _⟩ hv (fun v1 I51 L52 P53 nx1 q54 => ?_)
        obtain ⟨rfl, rfl, hv⟩ := q54
        refine z_goto (tgt := 166) dX4_weigh_63 (by decide) ?_
        refine z_iinc (v2 := x5 + 1) (lv2 := [some (.ref 23), some (.ref p1), some (.ref p2), none, some (.int p4), some (.int (x5 + 1)), some (.int r9), none]) dX4_weigh_166 rfl (by rfl) (by decide) rfl rfl ?_
        refine z_goto (tgt := 8) dX4_weigh_169 (by decide) ?_
        exact z_sub (by exact ⟨rfl, ⟨rfl, ⟨rfl, ⟨rfl, ⟨rfl, trivial⟩⟩⟩⟩⟩) hv
    · have hv := hv.2 q13
      refine z_aload_n dX4_weigh_31 rfl ?_
      refine z_aload_n dX4_weigh_32 rfl ?_
      refine z_iload dX4_weigh_33 rfl ?_
      refine z_aload_n dX4_weigh_35 rfl ?_
      refine z_iload dX4_weigh_36 rfl ?_
      refine z_callV (As := [.int x5]) (st := [.int r9, .ref p1, .ref 23]) dX4_weigh_38 zl_X4_67 zv_X0_ofAt (by decide) rfl h4.1 h4.2 rfl rfl (Nat.le_of_ble_eq_true rfl) ⟨Nat.le_refl _, Nat.le_refl _⟩ ⟨Nat.le_refl _, Nat.le_refl _⟩ hv (fun v1 I56 L57 P58 nx1 q59 => ?_)
      obtain ⟨rfl, r60, rfl, hv⟩ := q59
      refine z_callV (As := [.ref p1, .int r9, .int r60]) (st := []) dX4_weigh_41 zl_X4_70 zv_X4_pushLeaf (by decide) rfl zn_23 zo_23 rfl rfl (Nat.le_of_ble_eq_true rfl) ⟨Nat.le_refl _, Nat.le_refl _⟩ ⟨Nat.le_refl _, Nat.le_refl _⟩ hv (fun v1 I61 L62 P63 nx1 q64 => ?_)
      obtain ⟨rfl, rfl, hv⟩ := q64
      refine z_goto (tgt := 166) dX4_weigh_44 (by decide) ?_
      refine z_iinc (v2 := x5 + 1) (lv2 := [some (.ref 23), some (.ref p1), some (.ref p2), none, some (.int p4), some (.int (x5 + 1)), some (.int r9), none]) dX4_weigh_166 rfl (by rfl) (by decide) rfl rfl ?_
      refine z_goto (tgt := 8) dX4_weigh_169 (by decide) ?_
      exact z_sub (by exact ⟨rfl, ⟨rfl, ⟨rfl, ⟨rfl, ⟨rfl, trivial⟩⟩⟩⟩⟩) hv
abbrev v_X4_weigh (d : Nat) (Q : zQt) (p1 : Nat) (p2 : Nat) (p3 : Int32) (p4 : Int32) (I : zI) (L : zL) (P : zP) : Prop :=
  ∀ I1 : zI, I1 = zuI I 23 5 0 →
  gw_X4_weigh (d + 1) Q 8 [some (.ref 23), some (.ref p1), some (.ref p2), none, some (.int p4), some (.int p3), none, none] [] I1 L P
set_option maxRecDepth 20000 in
theorem g_X4_weigh {d : Nat} {Q : zQt} {p1 : Nat} {p2 : Nat} {p3 : Int32} {p4 : Int32} {I : zI} {L : zL} {P : zP} (hP : zPk P) (hv : v_X4_weigh d Q p1 p2 p3 p4 I L P) : zM zm_X4_weigh (d + 1) 0 0 [.ref 23, .ref p1, .ref p2, .int p3, .int p4] I L P 205 Q := by
  unfold v_X4_weigh at hv
  refine zM_of (lv0 := [some (.ref 23), some (.ref p1), some (.ref p2), some (.int p3), some (.int p4), none, none, none]) (by decide +kernel) (Nat.le_of_ble_eq_true rfl) rfl ?_
  refine z_aload_n dX4_weigh_0 rfl ?_
  refine z_iconst (v := 0) dX4_weigh_1 (by decide) ?_
  refine z_putI dX4_weigh_2 zf_X4_31 zn_23 zo_23 (Or.inl rfl) (fun _ _ _ _ _ => rfl) rfl rfl (z_nmI (fun I1 e2 => ?_))
  have hv := hv I1 e2
  refine z_iload_n dX4_weigh_5 rfl ?_
  refine z_istore (lv2 := [some (.ref 23), some (.ref p1), some (.ref p2), some (.int p3), some (.int p4), some (.int p3), none, none]) dX4_weigh_6 (by decide) rfl rfl ?_
  exact z_sub (by exact ⟨rfl, ⟨rfl, ⟨rfl, ⟨rfl, ⟨rfl, trivial⟩⟩⟩⟩⟩) hv
/-- nothing but the mind's rows has changed -/
def wMf (I0 I : zI) : Prop := ∀ a, ¬ (a = 23 ∨ (25 ≤ a ∧ a ≤ 71)) → I a = I0 a
theorem wMf_rf (I : zI) : wMf I I := fun _ _ => rfl
theorem wMf_tr {I0 I1 I2 : zI} (h1 : wMf I0 I1) (h2 : wMf I1 I2) : wMf I0 I2 := fun a h => (h2 a h).trans (h1 a h)
theorem wMf_of {cs : List Nat} {I0 I : zI} (h : cFr cs I0 I) (hc : ∀ a ∈ cs, a = 23 ∨ (25 ≤ a ∧ a ≤ 71)) : wMf I0 I := fun a ha => h a (fun z => ha (hc a z))
/-- the rows hold R -/
def cRw (I : zI) (xs : List Nat) (h : Nat) (R : Nat → Nat → Int32) : Prop := ∀ j, j < h → ∀ w ∈ xs, I (25 + j) w = R j w
theorem cRw_up {I I' : zI} {xs : List Nat} {h j : Nat} {R : Nat → Nat → Int32} {f : Nat → Int32} (hR : cRw I xs h R) (hf : ∀ i, i < h → i ≠ j → I' (25 + i) = I (25 + i)) (hj : ∀ w ∈ xs, I' (25 + j) w = f w) (h' : Nat) (hh : ∀ i, i < h' → i < h ∨ i = j) : cRw I' xs h' (va_up R j f) := by
  intro i hi w hw
  by_cases e : i = j
  · subst e; rw [va_up_self]; exact hj w hw
  · rw [va_up_ne _ _ e]
    have := (hh i hi).resolve_right e
    rw [hf i this e]
    exact hR i this w hw
section WG
variable {d : Nat} {Q : zQt} {I0 : zI} {L : zL} {P : zP} {s l v t np N c n : Nat} {xs : List Nat} {g : Nat → Nat → Nat} {gn : Int32}
/-- all that weighing rests on -/
def wH (P : zP) (s l v t np N : Nat) (xs : List Nat) (g : Nat → Nat → Nat) (I : zI) : Prop := sc s l v ∧ cS s l I xs ∧ xs.Nodup ∧ (∀ w ∈ xs, w < N) ∧ P s 1 = some t ∧ iH t np I ∧ ∀ p, p < np → cG v p I xs (g p)
theorem wH_fr {I I' : zI} (h : wH P s l v t np N xs g I) (hf : ∀ a, (a = s ∨ a = l ∨ a = t ∨ (v ≤ a ∧ a ≤ v + 10)) → I' a = I a) : wH P s l v t np N xs g I' := by
  obtain ⟨h1, h2, h3, h4, h5, h6, h7⟩ := h
  exact ⟨h1, cS_c h2 (by rw [hf s (Or.inl rfl)]) (hf l (Or.inr (Or.inl rfl))), h3, h4, h5, iH_c h6 (hf t (Or.inr (Or.inr (Or.inl rfl)))), fun p hp => cG_c (h7 p hp) (hf (v + 2 + p) (Or.inr (Or.inr (Or.inr ⟨by omega, by have := h6.2.1; omega⟩))))⟩
theorem wH_w {I I' : zI} (h : wH P s l v t np N xs g I) (hf : wMf I I') : wH P s l v t np N xs g I' := by
  have h1 := h.1
  have h2 := h.2.2.2.2.2.1.1
  unfold sc at h1
  unfold il at h2
  exact wH_fr h (fun a ha => hf a (by omega))
theorem eNd_h {k : Nat} {x : Int32} {h : Nat} (hn : eNd np (nI (mcK k)) x h) (hk : k = 267 ∨ k = 270 ∨ k = 271 ∨ k = 272) : 1 ≤ h := by
  rcases hk with rfl | rfl | rfl | rfl
  · unfold eNd at hn; rw [if_neg (by decide), if_neg (by decide), if_pos (by decide)] at hn; exact hn
  · unfold eNd at hn; rw [if_neg (by decide), if_pos (by decide)] at hn; exact hn.1
  · unfold eNd at hn; rw [if_neg (by decide), if_neg (by decide), if_pos (by decide)] at hn; exact hn
  · unfold eNd at hn; rw [if_neg (by decide), if_neg (by decide), if_pos (by decide)] at hn; exact hn
theorem lp_X4_weigh (hP : zPk P) (hW : wH P s l v t np N xs g I0) (hc : co c) (hn : I0 c 1 = nI n) (h6 : n ≤ 600) (hgn : I0 s 4 = gn) (hd : 2 ≤ d) {Rn : Nat → Nat → Int32} {hnn : Nat}
    (kk : ∀ I, wMf I0 I → I 23 5 = nI hnn → cRw I xs hnn Rn → Q none I L P 205) :
    ∀ (ys : Cd) (i h : Nat) (R : Nat → Nat → Int32) (I : zI), i + ys.length ≤ n → cT c I0 i ys → (∀ x ∈ ys, cE np x) → wMf I0 I → I 23 5 = nI h → h ≤ 44 → cRw I xs h R → eOk np (cMp ys) h → eHs (cMp ys) h = hnn → eRun np N (xo xs) (gk g) gn (cMp ys) h R = Rn →
      gw_X4_weigh (d + 1) Q 8 [some (.ref 23), some (.ref s), some (.ref c), none, some (.int (nI (i + ys.length))), some (.int (nI i)), none, none] [] I L P := by
  have hc2 := hc
  unfold co at hc2
  obtain ⟨c1, c2, c3⟩ := co_P hc hP
  have hsc := hW.1
  have hsc2 := hsc
  unfold sc at hsc2
  intro ys
  induction ys with
  | nil =>
    intro i h R I hi hT hE hf h5 h44 hR hok hhs hrn
    refine g_X4_weigh_8 hP ⟨fun _ => ?_, fun q => absurd (nI_le (by simp) (by rw [List.length_nil] at hi; omega)) q⟩
    have e1 : h = hnn := hhs
    have e2 : R = Rn := hrn
    subst e1
    subst e2
    exact kk I hf h5 hR
  | cons x ys ih =>
    intro i h R I hi hT hE hf h5 h44 hR hok hhs hrn
    have hW1 := wH_w hW hf
    obtain ⟨-, w2, w3, w4, w5, w6, w7⟩ := hW1
    rw [List.length_cons] at hi
    have enx : nI i + 1 = nI (i + 1) := nI_1 i
    have eto : i + (x :: ys).length = (i + 1) + ys.length := by rw [List.length_cons]; omega
    have ec : I c = I0 c := hf c (by omega)
    have ec1 : I (c + 1) = I0 (c + 1) := hf (c + 1) (by omega)
    have ex : I (c + 1) i = enc x := by rw [ec1]; exact hT 0 x rfl
    have hT' : cT c I0 (i + 1) ys := fun j y hy => by
      have := hT (j + 1) y (by simpa using hy)
      rw [← this]
      congr 1
      omega
    have hE' : ∀ y ∈ ys, cE np y := fun y hy => hE y (by simp [hy])
    have en : I c 1 = nI n := by rw [ec]; exact hn
    have hnp := w6.2.1
    have hok1 : eNd np (nI (mcK x.1)) x.2 h := hok.1
    have hok2 : eOk np (cMp ys) (eHt (nI (mcK x.1)) h) := hok.2
    have hhs : eHs (cMp ys) (eHt (nI (mcK x.1)) h) = hnn := hhs
    have hrn : eRun np N (xo xs) (gk g) gn (cMp ys) (eHt (nI (mcK x.1)) h) (eSt np N (xo xs) (gk g) gn (nI (mcK x.1)) x.2 h R) = Rn := hrn
    have h4 : I s 4 = gn := by rw [hf s (by omega)]; exact hgn
    have next : ∀ (I' : zI) (h' : Nat) (R' : Nat → Nat → Int32), wMf I I' → I' 23 5 = nI h' → h' ≤ 44 → eHt (nI (mcK x.1)) h = h' → eSt np N (xo xs) (gk g) gn (nI (mcK x.1)) x.2 h R = R' → cRw I' xs h' R' → gw_X4_weigh (d + 1) Q 8 [some (.ref 23), some (.ref s), some (.ref c), none, some (.int (nI (i + (x :: ys).length))), some (.int (nI i + 1)), none, none] [] I' L P := by
      intro I' h' R' f1 f2 f3 f4 f5 f6
      rw [enx, eto]
      rw [f4] at hok2 hhs
      rw [f4, f5] at hrn
      exact ih (i + 1) h' R' I' (by omega) hT' hE' (wMf_tr hf f1) f2 f3 f6 hok2 hhs hrn
    have go : ∀ {k m : Nat}, x.1 = k → x.2 = nI m → k < 512 → m < 16384 → ∀ (K : Int32 → zI → zL → zP → Prop), K (nI k) I L P → zMi zm_X0_kindAt d [.ref c, .int (nI i)] I L P K := by
      intro k m e1 e2 hk hm K hK
      exact sp_X0_kindAt hP hc en (by omega) h6 hk hm (by rw [ex, ← e1, ← e2]) hK
    have ofa : ∀ {k m : Nat}, x.1 = k → x.2 = nI m → k < 512 → m < 16384 → ∀ (K : Int32 → zI → zL → zP → Prop), K (nI m) I L P → zMi zm_X0_ofAt d [.ref c, .int (nI i)] I L P K := by
      intro k m e1 e2 hk hm K hK
      exact sp_X0_ofAt hP hc en (by omega) h6 hk hm (by rw [ex, ← e1, ← e2]) hK
    have rows : ∀ j, j < 44 → ∀ {I' : zI} {cs : List Nat}, cFr cs I I' → (∀ a ∈ cs, a = 23 ∨ a = 25 + j ∨ (69 ≤ a ∧ a ≤ 71)) → ∀ q, q < 44 → q ≠ j → I' (25 + q) = I (25 + q) := by
      intro j hj I' cs hcs hcl q hq hqj
      exact hcs (25 + q) (fun z => by have := hcl _ z; omega)
    have start : ¬ nI (i + (x :: ys).length) ≤ nI i := nI_ge (by rw [eto]; omega) (by rw [eto]; omega)
    -- a leaf
    have leaf : ∀ {k m : Nat}, x.1 = k → x.2 = nI m → (k = 274 ∨ k = 268 ∨ k = 262 ∨ k = 269) → m < 16384 → gw_X4_weigh (d + 1) Q 8 [some (.ref 23), some (.ref s), some (.ref c), none, some (.int (nI (i + (x :: ys).length))), some (.int (nI i)), none, none] [] I L P := by
      intro k m e1 e2 hk hm
      have hk5 : k < 512 := by omega
      have hlf : kLf (nI k) := by unfold kLf; rcases hk with rfl | rfl | rfl | rfl <;> decide
      have c1' : nI (mcK k) = 110 ∨ nI (mcK k) = 109 ∨ nI (mcK k) = 104 ∨ nI (mcK k) = 103 := by rcases hk with rfl | rfl | rfl | rfl <;> decide
      rw [e1] at hok1
      have hh : h < 44 := by unfold eNd at hok1; rw [if_pos c1'] at hok1; exact hok1
      refine g_X4_weigh_8 hP ⟨fun q => absurd q start, fun _ => ⟨c1, go e1 e2 hk5 hm _ ⟨hP, fun q => absurd hlf (bP_0.mp q), fun _ => ofa e1 e2 hk5 hm _ ?_⟩⟩⟩
      refine sp_X4_pushLeaf hP hsc w2 hk hh h5 (by omega) (fun I' f1 f2 f3 => ?_)
      refine next I' (h + 1) (va_up R h (sLf (nI (mcK k)) x.2 gn)) (wMf_of f1 (by simp; omega)) f2 (by omega) ?_ ?_ ?_
      · rw [e1]; unfold eHt; rw [if_pos c1']
      · rw [e1]; unfold eSt; rw [if_pos c1']
      · exact cRw_up hR (fun q hq hne => rows h hh f1 (by simp) q (by omega) hne) (fun w hw => by rw [f3 w hw, e2, h4]) (h + 1) (fun q hq => by omega)
    -- what changes the top row
    have top : ∀ {k m : Nat} (f : Nat → Int32), x.1 = k → x.2 = nI m → (k = 267 ∨ k = 270 ∨ k = 271 ∨ k = 272) → m < 16384 → eSt np N (xo xs) (gk g) gn (nI (mcK k)) x.2 h R = va_up R (h - 1) f →
        (∀ K : zI → zL → zP → Prop, (∀ I' cs, cFr cs I I' → (∀ a ∈ cs, a = 23 ∨ a = 25 + (h - 1) ∨ (69 ≤ a ∧ a ≤ 71)) → I' 23 5 = nI h → (∀ w ∈ xs, I' (25 + (h - 1)) w = f w) → K I' L P) → (k = 267 → zMv zm_X4_negate d [.ref s, .ref (25 + (h - 1))] I L P K) ∧ (k = 270 → zMi zm_X0_ofAt d [.ref c, .int (nI i)] I L P (fun r30 I26 L27 P28 => zMv zm_X4_knowsOne d [.ref 23, .ref s, .int r30, .ref (25 + (h - 1))] I26 L27 P28 K)) ∧ (k = 271 → zMv zm_X4_knowAll d [.ref 23, .ref s, .ref (25 + (h - 1))] I L P K) ∧ (k = 272 → zMv zm_X4_knowInCommon d [.ref 23, .ref s, .ref (25 + (h - 1))] I L P K)) →
        gw_X4_weigh (d + 1) Q 8 [some (.ref 23), some (.ref s), some (.ref c), none, some (.int (nI (i + (x :: ys).length))), some (.int (nI i)), none, none] [] I L P := by
      intro k m f e1 e2 hk hm he hrun
      have hk5 : k < 512 := by omega
      have hlf : ¬ kLf (nI k) := by unfold kLf; rcases hk with rfl | rfl | rfl | rfl <;> decide
      have hrk : kRk (nI k) = -1 := by unfold kRk; rcases hk with rfl | rfl | rfl | rfl <;> decide
      rw [e1] at hok1
      have hh := eNd_h hok1 hk
      have hht : eHt (nI (mcK x.1)) h = h := by rw [e1]; unfold eHt; rcases hk with rfl | rfl | rfl | rfl <;> rw [if_neg (by decide), if_pos (by decide)]
      have fin : ∀ I' cs, cFr cs I I' → (∀ a ∈ cs, a = 23 ∨ a = 25 + (h - 1) ∨ (69 ≤ a ∧ a ≤ 71)) → I' 23 5 = nI h → (∀ w ∈ xs, I' (25 + (h - 1)) w = f w) → gw_X4_weigh (d + 1) Q 8 [some (.ref 23), some (.ref s), some (.ref c), none, some (.int (nI (i + (x :: ys).length))), some (.int (nI i + 1)), none, none] [] I' L P := by
        intro I' cs g1 g2 g3 g4
        exact next I' h (va_up R (h - 1) f) (wMf_of g1 (fun a ha => by have := g2 a ha; omega)) g3 h44 hht (by rw [e1]; exact he) (cRw_up hR (fun q hq hne => rows (h - 1) (by omega) g1 g2 q (by omega) hne) g4 h (fun q hq => by omega))
      have hr := hrun (fun I' L' P' => gw_X4_weigh (d + 1) Q 8 [some (.ref 23), some (.ref s), some (.ref c), none, some (.int (nI (i + (x :: ys).length))), some (.int (nI i + 1)), none, none] [] I' L' P') fin
      have e5 : I 23 5 - 1 = nI (h - 1) := by rw [h5, show (1 : Int32) = nI 1 from rfl, pk_sub hh]
      refine g_X4_weigh_8 hP ⟨fun q => absurd q start, fun _ => ⟨c1, go e1 e2 hk5 hm _ ⟨hP, fun _ => ⟨fun _ => ⟨fun q => absurd q ?_, fun _ => ⟨?_, 25 + (h - 1), ?_, ?_, ?_, ?_, ?_⟩⟩, fun q => absurd hrk q⟩, fun q => absurd (bP_n.mp q) hlf⟩⟩⟩
      · rw [h5, show (1 : Int32) = nI 1 from rfl]; exact nI_nlt hh (by omega)
      · rw [e5]; exact nx_in (by omega) (by decide)
      · rw [e5, nI_cl (by omega)]; exact hP _ _ _ (rw_k (h - 1) (by omega)).1
      · intro q; exact hr.1 ((nI_eq (b := 267) (by omega) (by decide)).mp q)
      · intro q; exact hr.2.1 ((nI_eq (b := 270) (by omega) (by decide)).mp q)
      · intro q; exact hr.2.2.1 ((nI_eq (b := 271) (by omega) (by decide)).mp q)
      · intro q1 q2 q3
        refine hr.2.2.2 ?_
        rcases hk with rfl | rfl | rfl | rfl
        · exact absurd rfl q1
        · exact absurd rfl q2
        · exact absurd rfl q3
        · rfl
    have top5 : ∀ {I' : zI} {cs : List Nat}, cFr cs I I' → 23 ∉ cs → I' 23 5 = nI h := fun f1 f2 => by rw [f1 23 f2]; exact h5
    rcases hE x (by simp) with ⟨e1, m, hm, e2⟩ | ⟨e1, p, hp, e2⟩ | ⟨e1, e2⟩
    · exact leaf e1 e2 (Or.inl rfl) (by omega)
    · rcases e1 with e1 | e1 | e1
      · exact leaf e1 e2 (Or.inr (Or.inr (Or.inl rfl))) (by omega)
      · exact leaf e1 e2 (Or.inr (Or.inr (Or.inr rfl))) (by omega)
      · have hh := eNd_h (by rw [e1] at hok1; exact hok1) (k := 270) (Or.inr (Or.inl rfl))
        refine top (fun w => bP (xo xs w ∧ sKn N (xo xs) (gk g x.2.toNatClampNeg) (R (h - 1)) w)) e1 e2 (Or.inr (Or.inl rfl)) (by omega) ?_ (fun K hK => ⟨fun q => absurd q (by decide), fun _ => ?_, fun q => absurd q (by decide), fun q => absurd q (by decide)⟩)
        · unfold eSt; rw [if_neg (by decide), if_neg (by decide), if_pos (by decide)]
        · refine ofa e1 e2 (by decide) (by omega) _ (sp_X4_knowsOne hP hsc (by omega) ⟨by omega, by omega⟩ w2 (w7 p hp) (by omega) (fun I' f1 f2 => hK I' _ f1 (by simp) (top5 f1 (by simp only [List.mem_cons, List.not_mem_nil, or_false]; omega)) (fun w hw => ?_)))
          rw [f2 w hw]
          refine bP_c ⟨fun z => ⟨hw, ?_⟩, fun z => ?_⟩
          · rw [e2, nI_cl (by omega)]
            intro u _ hu hgu
            rw [← hR (h - 1) (by omega) u hu]
            exact z u hu hgu
          · intro u hu hgu
            rw [hR (h - 1) (by omega) u hu]
            have := z.2
            rw [e2, nI_cl (by omega)] at this
            exact this u (w4 u hu) hu hgu
    · rcases e1 with e1 | e1 | e1 | e1 | e1
      · exact leaf e1 (e2.trans (rfl : (0 : Int32) = nI 0)) (Or.inr (Or.inl rfl)) (by decide)
      · have hh := eNd_h (by rw [e1] at hok1; exact hok1) (k := 271) (Or.inr (Or.inr (Or.inl rfl)))
        refine top (fun w => bP (xo xs w ∧ sAl np N (xo xs) (gk g) (R (h - 1)) w)) e1 (e2.trans (rfl : (0 : Int32) = nI 0)) (Or.inr (Or.inr (Or.inl rfl))) (by decide) ?_ (fun K hK => ⟨fun q => absurd q (by decide), fun q => absurd q (by decide), fun _ => ?_, fun q => absurd q (by decide)⟩)
        · unfold eSt; rw [if_neg (by decide), if_neg (by decide), if_neg (by decide), if_pos (by decide)]
        · refine sp_X4_knowAll hP hsc ⟨by omega, by omega⟩ w2 w3 w5 w6 w7 (by omega) (fun I' f1 f2 => hK I' _ f1 (by simp) (top5 f1 (by simp only [List.mem_cons, List.not_mem_nil, or_false]; omega)) (fun w hw => ?_))
          rw [f2 w hw]
          refine bP_c ⟨fun z => ⟨hw, fun p hp u _ hu hgu => ?_⟩, fun z p hp u hu hgu => ?_⟩
          · rw [← hR (h - 1) (by omega) u hu]; exact z p hp u hu hgu
          · rw [hR (h - 1) (by omega) u hu]; exact z.2 p hp u (w4 u hu) hu hgu
      · have hh := eNd_h (by rw [e1] at hok1; exact hok1) (k := 272) (Or.inr (Or.inr (Or.inr rfl)))
        refine top (fun w => bP (xo xs w ∧ sCm np N (xo xs) (gk g) (R (h - 1)) w)) e1 (e2.trans (rfl : (0 : Int32) = nI 0)) (Or.inr (Or.inr (Or.inr rfl))) (by decide) ?_ (fun K hK => ⟨fun q => absurd q (by decide), fun q => absurd q (by decide), fun q => absurd q (by decide), fun _ => ?_⟩)
        · unfold eSt; rw [if_neg (by decide), if_neg (by decide), if_neg (by decide), if_neg (by decide), if_pos (by decide)]
        · refine sp_X4_knowInCommon hP hsc ⟨by omega, by omega⟩ w2 w4 w5 w6 w7 (by omega) (fun I' f1 f2 => hK I' _ f1 (by simp) (top5 f1 (by simp only [List.mem_cons, List.not_mem_nil, or_false]; omega)) (fun w hw => ?_))
          rw [f2 w hw]
          refine bP_c ⟨fun z => ⟨hw, fun u a1 hu hgu => ?_⟩, fun z u a1 hu hgu => ?_⟩
          · rw [← hR (h - 1) (by omega) u hu]; exact z u a1 hu hgu
          · rw [hR (h - 1) (by omega) u hu]; exact z.2 u a1 hu hgu
      · have hh := eNd_h (by rw [e1] at hok1; exact hok1) (k := 267) (Or.inl rfl)
        refine top (fun w => if R (h - 1) w = 0 then 1 else 0) e1 (e2.trans (rfl : (0 : Int32) = nI 0)) (Or.inl rfl) (by decide) ?_ (fun K hK => ⟨fun _ => ?_, fun q => absurd q (by decide), fun q => absurd q (by decide), fun q => absurd q (by decide)⟩)
        · unfold eSt; rw [if_neg (by decide), if_pos (by decide)]
        · refine sp_X4_negate hP hsc ⟨by omega, by omega⟩ w2 w3 (fun I' f1 f2 => hK I' _ f1 (by simp) (top5 f1 (by simp only [List.mem_cons, List.not_mem_nil, or_false]; omega)) (fun w hw => ?_))
          rw [f2 w hw, hR (h - 1) (by omega) w hw]
      · have hk5 : x.1 < 512 := by rcases rkH_k e1 with z | z | z | z | z | z | z | z | z <;> omega
        obtain ⟨kf, kr, hk2, n1, n2, n3, n4, n5⟩ : ¬ kLf (nI x.1) ∧ ¬ kRk (nI x.1) = -1 ∧ eHt (nI (mcK x.1)) h = h - 1 ∧ ¬ (nI (mcK x.1) = 110 ∨ nI (mcK x.1) = 109 ∨ nI (mcK x.1) = 104 ∨ nI (mcK x.1) = 103) ∧ ¬ nI (mcK x.1) = 126 ∧ ¬ nI (mcK x.1) = 107 ∧ ¬ nI (mcK x.1) = 97 ∧ ¬ nI (mcK x.1) = 99 := by
          rcases rkH_k e1 with z | z | z | z | z | z | z | z | z <;> rw [z] <;> exact ⟨by unfold kLf; decide, by unfold kRk; decide, by unfold eHt; rw [if_neg (by decide), if_neg (by decide)], by decide, by decide, by decide, by decide, by decide⟩
        have hh : 2 ≤ h := by
          unfold eNd at hok1
          rw [if_neg n1, if_neg n3, if_neg (by rintro (z | z | z) <;> contradiction)] at hok1
          exact hok1
        obtain ⟨h', rfl⟩ : ∃ e, h = e + 2 := ⟨h - 2, by omega⟩
        refine g_X4_weigh_8 hP ⟨fun q => absurd q start, fun _ => ⟨c1, go (k := x.1) rfl (e2.trans (rfl : (0 : Int32) = nI 0)) hk5 (by decide) _ ⟨hP, fun _ => ⟨fun q => absurd q kr, fun _ => ?_⟩, fun q => absurd (bP_n.mp q) kf⟩⟩⟩
        refine sp_X4_joinTop hP hsc w2 w3 e1 (by omega) h5 (by omega) (fun I' f1 f2 f3 => ?_)
        refine next I' (h' + 1) (va_up R h' (fun w => sTwo (nI (mcK x.1)) (R h' w) (R (h' + 1) w))) (wMf_of f1 (by simp; omega)) f2 (by omega) hk2 ?_ ?_
        · unfold eSt; rw [if_neg n1, if_neg n2, if_neg n3, if_neg n4, if_neg n5]; rfl
        · refine cRw_up hR (fun q hq hne => rows h' (by omega) f1 (by simp) q (by omega) hne) (fun w hw => ?_) (h' + 1) (fun q hq => by omega)
          rw [f3 w hw, hR h' (by omega) w hw, hR (h' + 1) (by omega) w hw]
theorem sp_X4_weigh {I : zI} {i : Nat} {cs : Cd} (hP : zPk P) (hW : wH P s l v t np N xs g I) (hc : co c) (hn : I c 1 = nI n) (h6 : n ≤ 600) (hgn : I s 4 = gn) (hi : i + cs.length ≤ n) (hT : cT c I i cs) (hE : ∀ x ∈ cs, cE np x) (hG : eGd np (cMp cs)) (hd : 3 ≤ d) {K : zI → zL → zP → Prop}
    (kk : ∀ I', wMf I I' → (∀ w ∈ xs, I' 25 w = eRun np N (xo xs) (gk g) gn (cMp cs) 0 (fun _ _ => 0) 0 w) → K I' L P) : zMv zm_X4_weigh d [.ref 23, .ref s, .ref c, .int (nI i), .int (nI (i + cs.length))] I L P K := by
  obtain ⟨d, rfl⟩ : ∃ e, d = e + 1 := ⟨d - 1, by omega⟩
  have hc2 := hc
  unfold co at hc2
  have h1 := hW.1
  unfold sc at h1
  refine g_X4_weigh hP (fun I1 e1 => ?_)
  have f1 : wMf I I1 := by rw [e1]; exact fun a ha => zuI_ne (by omega)
  have e5 : I1 23 5 = nI 0 := by rw [e1, zuI_v]; rfl
  refine lp_X4_weigh (I0 := I1) (n := n) (np := np) (N := N) (g := g) (gn := gn) (hnn := 1) (Rn := eRun np N (xo xs) (gk g) gn (cMp cs) 0 (fun _ _ => 0)) hP (wH_w hW f1) hc (by rw [f1 c (by omega)]; exact hn) h6 (by rw [f1 s (by omega)]; exact hgn) (by omega) (fun I2 g1 g2 g3 => qv (kk I2 (wMf_tr f1 g1) (fun w hw => g3 0 (by omega) w hw))) cs i 0 (fun _ _ => 0) I1 hi (fun j x hx => by rw [f1 (c + 1) (by omega)]; exact hT j x hx) hE (wMf_rf _) e5 (by omega) (fun j hj => absurd hj (Nat.not_lt_zero j)) hG.1 hG.2 rfl
end WG
