/-! ===== the model: what fits ===== -/
def fLk (I : zI) (p a b : Nat) : Prop := (b ^^^ a) &&& vSee I p = 0
/-- p goes in w, if pa parts what has been seen and gn are gone there -/
def fGo (I : zI) (pa : Nat → Int32) (gn w : Nat) : Nat → Prop := sGo (vN I) (fun v => pa v = pa w) (fLk I) gn (vSty I) (vOwn I) w
noncomputable def fGs (I : zI) (pa : Nat → Int32) (gn w : Nat) : Nat := bset (fGo I pa gn w) (vNp I)
theorem vN_64 {I : zI} (h : vNp I ≤ 6) : vN I ≤ 64 := Nat.pow_le_pow_right (by decide) h
theorem vSee_lt {I : zI} (h : MB I) (p : Nat) : vSee I p < 256 := by
  have := vN_le h
  have : vSee I p < vN I := Nat.mod_lt _ (vN_pos I)
  omega
abbrev gw_X12_goesIn (d : Nat) (Q : zQt) (pc : Nat) (lv : zV) (st : List Value) (I : zI) (L : zL) (P : zP) : Prop := zW zm_X12_goesIn (zRm d 0 0) 0 0 Q pc lv st I L P 205 0 0
abbrev v_X12_goesIn_137 (d : Nat) (Q : zQt) (p1 : Int32) (x2 : Int32) (x3 : Int32) (x4 : Int32) (x6 : Int32) (t0 : Int32) (I : zI) (L : zL) (P : zP) : Prop :=
  gw_X12_goesIn (d + 1) Q 55 [some (.ref 160), some (.int p1), some (.int x2), some (.int x3), some (.int x4), some (.int t0), some (.int (x6 + 1))] [] I L P
set_option maxRecDepth 20000 in
theorem g_X12_goesIn_137 {d : Nat} {Q : zQt} {p1 : Int32} {x2 : Int32} {x3 : Int32} {x4 : Int32} {x6 : Int32} {t0 : Int32} {I : zI} {L : zL} {P : zP} (hP : zPk P) (hd : 1 ≤ d) (hv : v_X12_goesIn_137 d Q p1 x2 x3 x4 x6 t0 I L P) : gw_X12_goesIn (d + 1) Q 137 [some (.ref 160), some (.int p1), some (.int x2), some (.int x3), some (.int x4), none, some (.int x6)] [.int t0] I L P := by
  unfold v_X12_goesIn_137 at hv
  refine z_istore (lv2 := [some (.ref 160), some (.int p1), some (.int x2), some (.int x3), some (.int x4), some (.int t0), some (.int x6)]) dX12_goesIn_137 (by decide) rfl rfl ?_
  refine z_iinc (v2 := x6 + 1) (lv2 := [some (.ref 160), some (.int p1), some (.int x2), some (.int x3), some (.int x4), some (.int t0), some (.int (x6 + 1))]) dX12_goesIn_139 rfl (by rfl) (by decide) rfl rfl ?_
  refine z_goto (tgt := 55) dX12_goesIn_142 (by decide) ?_
  exact hv
abbrev v_X12_goesIn_116 (d : Nat) (Q : zQt) (p1 : Int32) (x2 : Int32) (x3 : Int32) (x5 : Int32) (x6 : Int32) (t0 : Int32) (I : zI) (L : zL) (P : zP) : Prop :=
  ((x5 = 0 →
    gw_X12_goesIn (d + 1) Q 137 [some (.ref 160), some (.int p1), some (.int x2), some (.int x3), some (.int t0), none, some (.int x6)] [.int 0] I L P
  ) ∧ (¬ x5 = 0 →
    ((¬ ((x6 >>> (x3 &&& 31) : Int32) &&& 1 : Int32) = 0 →
      gw_X12_goesIn (d + 1) Q 137 [some (.ref 160), some (.int p1), some (.int x2), some (.int x3), some (.int t0), none, some (.int x6)] [.int 0] I L P
    ) ∧ (((x6 >>> (x3 &&& 31) : Int32) &&& 1 : Int32) = 0 →
      gw_X12_goesIn (d + 1) Q 137 [some (.ref 160), some (.int p1), some (.int x2), some (.int x3), some (.int t0), none, some (.int x6)] [.int 1] I L P
    ))
  ))
set_option maxRecDepth 20000 in
theorem g_X12_goesIn_116 {d : Nat} {Q : zQt} {p1 : Int32} {x2 : Int32} {x3 : Int32} {x5 : Int32} {x6 : Int32} {t0 : Int32} {I : zI} {L : zL} {P : zP} (hP : zPk P) (hd : 1 ≤ d) (hv : v_X12_goesIn_116 d Q p1 x2 x3 x5 x6 t0 I L P) : gw_X12_goesIn (d + 1) Q 116 [some (.ref 160), some (.int p1), some (.int x2), some (.int x3), none, some (.int x5), some (.int x6)] [.int t0] I L P := by
  unfold v_X12_goesIn_116 at hv
  refine z_istore (lv2 := [some (.ref 160), some (.int p1), some (.int x2), some (.int x3), some (.int t0), some (.int x5), some (.int x6)]) dX12_goesIn_116 (by decide) rfl rfl ?_
  refine z_iload dX12_goesIn_118 rfl ?_
  refine z_if_eq (tgt := 136) dX12_goesIn_120 (by decide) (fun q28 => ?_) (fun q28 => ?_)
  · have hv := hv.1 q28
    refine z_iconst (v := 0) dX12_goesIn_136 (by decide) ?_
    exact z_sub (by exact ⟨rfl, ⟨rfl, ⟨rfl, ⟨rfl, ⟨rfl, ⟨rfl, trivial⟩⟩⟩⟩⟩⟩) hv
  · have hv := hv.2 q28
    refine z_iload dX12_goesIn_123 rfl ?_
    refine z_iload_n dX12_goesIn_125 rfl ?_
    refine z_ishr dX12_goesIn_126 ?_
    refine z_iconst (v := 1) dX12_goesIn_127 (by decide) ?_
    refine z_iand dX12_goesIn_128 ?_
    refine z_if_ne (tgt := 136) dX12_goesIn_129 (by decide) (fun q29 => ?_) (fun q29 => ?_)
    · have hv := hv.1 q29
      refine z_iconst (v := 0) dX12_goesIn_136 (by decide) ?_
      exact z_sub (by exact ⟨rfl, ⟨rfl, ⟨rfl, ⟨rfl, ⟨rfl, ⟨rfl, trivial⟩⟩⟩⟩⟩⟩) hv
    · have hv := hv.2 q29
      refine z_iconst (v := 1) dX12_goesIn_132 (by decide) ?_
      refine z_goto (tgt := 137) dX12_goesIn_133 (by decide) ?_
      exact z_sub (by exact ⟨rfl, ⟨rfl, ⟨rfl, ⟨rfl, ⟨rfl, ⟨rfl, trivial⟩⟩⟩⟩⟩⟩) hv
abbrev v_X12_goesIn_55 (d : Nat) (Q : zQt) (p1 : Int32) (x2 : Int32) (x3 : Int32) (x4 : Int32) (x5 : Int32) (x6 : Int32) (I : zI) (L : zL) (P : zP) : Prop :=
  MB I ∧
  (((nI (vN I)) ≤ x6 →
    ((¬ x4 = 0 →
      gw_X12_goesIn (d + 1) Q 4 [some (.ref 160), some (.int p1), some (.int (x2 ||| ((1 : Int32) <<< (x3 &&& 31) : Int32) : Int32)), some (.int (x3 + 1)), none, none, none] [] I L P
    ) ∧ (x4 = 0 →
      ((x5 = 0 →
        gw_X12_goesIn (d + 1) Q 4 [some (.ref 160), some (.int p1), some (.int x2), some (.int (x3 + 1)), none, none, none] [] I L P
      ) ∧ (¬ x5 = 0 →
        vp_in (I 160 28) 2 ∧
        (((I 171 (I 160 28).toNatClampNeg) = 0 →
          gw_X12_goesIn (d + 1) Q 4 [some (.ref 160), some (.int p1), some (.int x2), some (.int (x3 + 1)), none, none, none] [] I L P
        ) ∧ (¬ (I 171 (I 160 28).toNatClampNeg) = 0 →
          gw_X12_goesIn (d + 1) Q 4 [some (.ref 160), some (.int p1), some (.int (x2 ||| ((1 : Int32) <<< (x3 &&& 31) : Int32) : Int32)), some (.int (x3 + 1)), none, none, none] [] I L P
        ))
      ))
    ))
  ) ∧ (¬ (nI (vN I)) ≤ x6 →
    vp_in x6 64 ∧
    vp_in p1 64 ∧
    ((¬ (I 193 x6.toNatClampNeg) = (I 193 p1.toNatClampNeg) →
      gw_X12_goesIn (d + 1) Q 55 [some (.ref 160), some (.int p1), some (.int x2), some (.int x3), some (.int x4), some (.int x5), some (.int (x6 + 1))] [] I L P
    ) ∧ ((I 193 x6.toNatClampNeg) = (I 193 p1.toNatClampNeg) →
      zMi zm_X12_seesOf d [.ref 160, .int x3] I L P (fun r24 I20 L21 P22 =>
        ((((x6 ^^^ p1 : Int32) &&& r24 : Int32) = 0 →
          ((x4 = 0 →
            gw_X12_goesIn (d + 1) Q 116 [some (.ref 160), some (.int p1), some (.int x2), some (.int x3), none, some (.int x5), some (.int x6)] [.int 0] I20 L21 P22
          ) ∧ (¬ x4 = 0 →
            ((¬ ((x6 >>> (x3 &&& 31) : Int32) &&& 1 : Int32) = 1 →
              gw_X12_goesIn (d + 1) Q 116 [some (.ref 160), some (.int p1), some (.int x2), some (.int x3), none, some (.int x5), some (.int x6)] [.int 0] I20 L21 P22
            ) ∧ (((x6 >>> (x3 &&& 31) : Int32) &&& 1 : Int32) = 1 →
              gw_X12_goesIn (d + 1) Q 116 [some (.ref 160), some (.int p1), some (.int x2), some (.int x3), none, some (.int x5), some (.int x6)] [.int 1] I20 L21 P22
            ))
          ))
        ) ∧ (¬ ((x6 ^^^ p1 : Int32) &&& r24 : Int32) = 0 →
          gw_X12_goesIn (d + 1) Q 55 [some (.ref 160), some (.int p1), some (.int x2), some (.int x3), some (.int x4), some (.int x5), some (.int (x6 + 1))] [] I20 L21 P22
        ))
      )
    ))
  ))
set_option maxRecDepth 20000 in
theorem g_X12_goesIn_55 {d : Nat} {Q : zQt} {p1 : Int32} {x2 : Int32} {x3 : Int32} {x4 : Int32} {x5 : Int32} {x6 : Int32} {I : zI} {L : zL} {P : zP} (hP : zPk P) (hd : 1 ≤ d) (hv : v_X12_goesIn_55 d Q p1 x2 x3 x4 x5 x6 I L P) : gw_X12_goesIn (d + 1) Q 55 [some (.ref 160), some (.int p1), some (.int x2), some (.int x3), some (.int x4), some (.int x5), some (.int x6)] [] I L P := by
  unfold v_X12_goesIn_55 at hv
  refine z_iload dX12_goesIn_55 rfl ?_
  refine z_aload_n dX12_goesIn_57 rfl ?_
  obtain ⟨h9, hv⟩ := hv
  refine z_callV (As := []) (st := [.int x6]) dX12_goesIn_58 zl_X12_346 zv_X12_worldMany (by decide) rfl zn_160 zo_160 rfl rfl (Nat.le_of_ble_eq_true rfl) ⟨Nat.le_refl _, Nat.le_refl _⟩ ⟨Nat.le_refl _, Nat.le_refl _⟩ (sp_X12_worldMany hP h9 (by omega) (K := fun r I' L' P' => nI (vN I) = r ∧ I = I' ∧ L = L' ∧ P = P') ⟨rfl, rfl, rfl, rfl⟩) (fun v1 I2 L2 P2 nx1 q11 => ?_)
  obtain ⟨rfl, r10, rfl, rfl, rfl, rfl, rfl⟩ := q11
  refine z_icmp_ge (tgt := 145) dX12_goesIn_61 (by decide) (fun q12 => ?_) (fun q12 => ?_)
  · have hv := hv.1 q12
    refine z_iload dX12_goesIn_145 rfl ?_
    refine z_if_ne (tgt := 167) dX12_goesIn_147 (by decide) (fun q13 => ?_) (fun q13 => ?_)
    · have hv := hv.1 q13
      refine z_iload_n dX12_goesIn_167 rfl ?_
      refine z_iconst (v := 1) dX12_goesIn_168 (by decide) ?_
      refine z_iload_n dX12_goesIn_169 rfl ?_
      refine z_ishl dX12_goesIn_170 ?_
      refine z_ior dX12_goesIn_171 ?_
      refine z_istore_n (lv2 := [some (.ref 160), some (.int p1), some (.int (x2 ||| ((1 : Int32) <<< (x3 &&& 31) : Int32) : Int32)), some (.int x3), some (.int x4), some (.int x5), some (.int x6)]) dX12_goesIn_172 (by decide) rfl rfl ?_
      refine z_iinc (v2 := x3 + 1) (lv2 := [some (.ref 160), some (.int p1), some (.int (x2 ||| ((1 : Int32) <<< (x3 &&& 31) : Int32) : Int32)), some (.int (x3 + 1)), some (.int x4), some (.int x5), some (.int x6)]) dX12_goesIn_173 rfl (by rfl) (by decide) rfl rfl ?_
      refine z_goto (tgt := 4) dX12_goesIn_176 (by decide) ?_
      exact z_sub (by exact ⟨rfl, ⟨rfl, ⟨rfl, ⟨rfl, trivial⟩⟩⟩⟩) hv
    · have hv := hv.2 q13
      refine z_iload dX12_goesIn_150 rfl ?_
      refine z_if_eq (tgt := 173) dX12_goesIn_152 (by decide) (fun q14 => ?_) (fun q14 => ?_)
      · have hv := hv.1 q14
        refine z_iinc (v2 := x3 + 1) (lv2 := [some (.ref 160), some (.int p1), some (.int x2), some (.int (x3 + 1)), some (.int x4), some (.int x5), some (.int x6)]) dX12_goesIn_173 rfl (by rfl) (by decide) rfl rfl ?_
        refine z_goto (tgt := 4) dX12_goesIn_176 (by decide) ?_
        exact z_sub (by exact ⟨rfl, ⟨rfl, ⟨rfl, ⟨rfl, trivial⟩⟩⟩⟩) hv
      · have hv := hv.2 q14
        refine z_aload_n dX12_goesIn_155 rfl ?_
        refine z_getP dX12_goesIn_156 zf_X12_45 zn_160 zo_160 (fun _ _ _ _ _ => rfl) (hP 160 19 171 zp_160_19) ?_
        refine z_aload_n dX12_goesIn_159 rfl ?_
        refine z_getI dX12_goesIn_160 zf_X12_261 zn_160 zo_160 (fun _ _ _ _ _ => rfl) ?_
        obtain ⟨h15, hv⟩ := hv
        refine z_zaload dX12_goesIn_163 zn_171 zh_171 h15 ?_
        refine z_if_eq (tgt := 173) dX12_goesIn_164 (by decide) (fun q16 => ?_) (fun q16 => ?_)
        · have hv := hv.1 q16
          refine z_iinc (v2 := x3 + 1) (lv2 := [some (.ref 160), some (.int p1), some (.int x2), some (.int (x3 + 1)), some (.int x4), some (.int x5), some (.int x6)]) dX12_goesIn_173 rfl (by rfl) (by decide) rfl rfl ?_
          refine z_goto (tgt := 4) dX12_goesIn_176 (by decide) ?_
          exact z_sub (by exact ⟨rfl, ⟨rfl, ⟨rfl, ⟨rfl, trivial⟩⟩⟩⟩) hv
        · have hv := hv.2 q16
          refine z_iload_n dX12_goesIn_167 rfl ?_
          refine z_iconst (v := 1) dX12_goesIn_168 (by decide) ?_
          refine z_iload_n dX12_goesIn_169 rfl ?_
          refine z_ishl dX12_goesIn_170 ?_
          refine z_ior dX12_goesIn_171 ?_
          refine z_istore_n (lv2 := [some (.ref 160), some (.int p1), some (.int (x2 ||| ((1 : Int32) <<< (x3 &&& 31) : Int32) : Int32)), some (.int x3), some (.int x4), some (.int x5), some (.int x6)]) dX12_goesIn_172 (by decide) rfl rfl ?_
          refine z_iinc (v2 := x3 + 1) (lv2 := [some (.ref 160), some (.int p1), some (.int (x2 ||| ((1 : Int32) <<< (x3 &&& 31) : Int32) : Int32)), some (.int (x3 + 1)), some (.int x4), some (.int x5), some (.int x6)]) dX12_goesIn_173 rfl (by rfl) (by decide) rfl rfl ?_
          refine z_goto (tgt := 4) dX12_goesIn_176 (by decide) ?_
          exact z_sub (by exact ⟨rfl, ⟨rfl, ⟨rfl, ⟨rfl, trivial⟩⟩⟩⟩) hv
  · have hv := hv.2 q12
    refine z_aload_n dX12_goesIn_64 rfl ?_
    refine z_getP dX12_goesIn_65 zf_X12_113 zn_160 zo_160 (fun _ _ _ _ _ => rfl) (hP 160 53 193 zp_160_53) ?_
    refine z_iload dX12_goesIn_68 rfl ?_
    obtain ⟨h17, hv⟩ := hv
    refine z_iaload dX12_goesIn_70 zn_193 zh_193 h17 ?_
    refine z_aload_n dX12_goesIn_71 rfl ?_
    refine z_getP dX12_goesIn_72 zf_X12_113 zn_160 zo_160 (fun _ _ _ _ _ => rfl) (hP 160 53 193 zp_160_53) ?_
    refine z_iload_n dX12_goesIn_75 rfl ?_
    obtain ⟨h18, hv⟩ := hv
    refine z_iaload dX12_goesIn_76 zn_193 zh_193 h18 ?_
    refine z_icmp_ne (tgt := 139) dX12_goesIn_77 (by decide) (fun q19 => ?_) (fun q19 => ?_)
    · have hv := hv.1 q19
      refine z_iinc (v2 := x6 + 1) (lv2 := [some (.ref 160), some (.int p1), some (.int x2), some (.int x3), some (.int x4), some (.int x5), some (.int (x6 + 1))]) dX12_goesIn_139 rfl (by rfl) (by decide) rfl rfl ?_
      refine z_goto (tgt := 55) dX12_goesIn_142 (by decide) ?_
      exact hv
    · have hv := hv.2 q19
      refine z_iload dX12_goesIn_80 rfl ?_
      refine z_iload_n dX12_goesIn_82 rfl ?_
      refine z_ixor dX12_goesIn_83 ?_
      refine z_aload_n dX12_goesIn_84 rfl ?_
      refine z_iload_n dX12_goesIn_85 rfl ?_
      refine z_callV (As := [.int x3]) (st := [.int (x6 ^^^ p1 : Int32)]) dX12_goesIn_86 zl_X12_362 zv_X12_seesOf (by decide) rfl zn_160 zo_160 rfl rfl (Nat.le_of_ble_eq_true rfl) ⟨Nat.le_refl _, Nat.le_refl _⟩ ⟨Nat.le_refl _, Nat.le_refl _⟩ hv (fun v1 I20 L21 P22 nx1 q23 => ?_)
      obtain ⟨rfl, r24, rfl, hv⟩ := q23
      refine z_iand dX12_goesIn_89 ?_
      refine z_if_eq (tgt := 96) dX12_goesIn_90 (by decide) (fun q25 => ?_) (fun q25 => ?_)
      · have hv := hv.1 q25
        refine z_iload dX12_goesIn_96 rfl ?_
        refine z_if_eq (tgt := 115) dX12_goesIn_98 (by decide) (fun q26 => ?_) (fun q26 => ?_)
        · have hv := hv.1 q26
          refine z_iconst (v := 0) dX12_goesIn_115 (by decide) ?_
          exact z_sub (by exact ⟨rfl, ⟨rfl, ⟨rfl, ⟨rfl, ⟨rfl, ⟨rfl, trivial⟩⟩⟩⟩⟩⟩) hv
        · have hv := hv.2 q26
          refine z_iload dX12_goesIn_101 rfl ?_
          refine z_iload_n dX12_goesIn_103 rfl ?_
          refine z_ishr dX12_goesIn_104 ?_
          refine z_iconst (v := 1) dX12_goesIn_105 (by decide) ?_
          refine z_iand dX12_goesIn_106 ?_
          refine z_iconst (v := 1) dX12_goesIn_107 (by decide) ?_
          refine z_icmp_ne (tgt := 115) dX12_goesIn_108 (by decide) (fun q27 => ?_) (fun q27 => ?_)
          · have hv := hv.1 q27
            refine z_iconst (v := 0) dX12_goesIn_115 (by decide) ?_
            exact z_sub (by exact ⟨rfl, ⟨rfl, ⟨rfl, ⟨rfl, ⟨rfl, ⟨rfl, trivial⟩⟩⟩⟩⟩⟩) hv
          · have hv := hv.2 q27
            refine z_iconst (v := 1) dX12_goesIn_111 (by decide) ?_
            refine z_goto (tgt := 116) dX12_goesIn_112 (by decide) ?_
            exact z_sub (by exact ⟨rfl, ⟨rfl, ⟨rfl, ⟨rfl, ⟨rfl, ⟨rfl, trivial⟩⟩⟩⟩⟩⟩) hv
      · have hv := hv.2 q25
        refine z_goto (tgt := 139) dX12_goesIn_93 (by decide) ?_
        refine z_iinc (v2 := x6 + 1) (lv2 := [some (.ref 160), some (.int p1), some (.int x2), some (.int x3), some (.int x4), some (.int x5), some (.int (x6 + 1))]) dX12_goesIn_139 rfl (by rfl) (by decide) rfl rfl ?_
        refine z_goto (tgt := 55) dX12_goesIn_142 (by decide) ?_
        exact hv
abbrev v_X12_goesIn_4 (d : Nat) (Q : zQt) (p1 : Int32) (x2 : Int32) (x3 : Int32) (I : zI) (L : zL) (P : zP) : Prop :=
  MB I ∧
  (((nI (vNp I)) ≤ x3 →
    Q (some (.int x2)) I L P 205
  ) ∧ (¬ (nI (vNp I)) ≤ x3 →
    vp_in p1 64 ∧
    (((((I 194 p1.toNatClampNeg) >>> (x3 &&& 31) : Int32) &&& 1 : Int32) = 1 →
      gw_X12_goesIn (d + 1) Q 4 [some (.ref 160), some (.int p1), some (.int x2), some (.int (x3 + 1)), none, none, none] [] I L P
    ) ∧ (¬ (((I 194 p1.toNatClampNeg) >>> (x3 &&& 31) : Int32) &&& 1 : Int32) = 1 →
      vp_in (((8 : Int32) * (I 160 28)) + x3) 16 ∧
      (((I 173 (((8 : Int32) * (I 160 28)) + x3).toNatClampNeg) = 0 →
        gw_X12_goesIn (d + 1) Q 55 [some (.ref 160), some (.int p1), some (.int x2), some (.int x3), some (.int 1), some (.int 1), some (.int 0)] [] I L P
      ) ∧ (¬ (I 173 (((8 : Int32) * (I 160 28)) + x3).toNatClampNeg) = 0 →
        gw_X12_goesIn (d + 1) Q 4 [some (.ref 160), some (.int p1), some (.int x2), some (.int (x3 + 1)), none, none, none] [] I L P
      ))
    ))
  ))
set_option maxRecDepth 20000 in
theorem g_X12_goesIn_4 {d : Nat} {Q : zQt} {p1 : Int32} {x2 : Int32} {x3 : Int32} {I : zI} {L : zL} {P : zP} (hP : zPk P) (hd : 1 ≤ d) (hv : v_X12_goesIn_4 d Q p1 x2 x3 I L P) : gw_X12_goesIn (d + 1) Q 4 [some (.ref 160), some (.int p1), some (.int x2), some (.int x3), none, none, none] [] I L P := by
  unfold v_X12_goesIn_4 at hv
  refine z_iload_n dX12_goesIn_4 rfl ?_
  refine z_aload_n dX12_goesIn_5 rfl ?_
  obtain ⟨h1, hv⟩ := hv
  refine z_callV (As := []) (st := [.int x3]) dX12_goesIn_6 zl_X12_339 zv_X12_manyOf (by decide) rfl zn_160 zo_160 rfl rfl (Nat.le_of_ble_eq_true rfl) ⟨Nat.le_refl _, Nat.le_refl _⟩ ⟨Nat.le_refl _, Nat.le_refl _⟩ (sp_X12_manyOf hP h1 (K := fun r I' L' P' => nI (vNp I) = r ∧ I = I' ∧ L = L' ∧ P = P') ⟨rfl, rfl, rfl, rfl⟩) (fun v1 I2 L2 P2 nx1 q3 => ?_)
  obtain ⟨rfl, r2, rfl, rfl, rfl, rfl, rfl⟩ := q3
  refine z_icmp_ge (tgt := 179) dX12_goesIn_9 (by decide) (fun q4 => ?_) (fun q4 => ?_)
  · have hv := hv.1 q4
    refine z_iload_n dX12_goesIn_179 rfl ?_
    exact z_ireturn dX12_goesIn_180 rfl rfl (Nat.le_refl _) (Nat.le_refl _) hv
  · have hv := hv.2 q4
    refine z_aload_n dX12_goesIn_12 rfl ?_
    refine z_getP dX12_goesIn_13 zf_X12_116 zn_160 zo_160 (fun _ _ _ _ _ => rfl) (hP 160 54 194 zp_160_54) ?_
    refine z_iload_n dX12_goesIn_16 rfl ?_
    obtain ⟨h5, hv⟩ := hv
    refine z_iaload dX12_goesIn_17 zn_194 zh_194 h5 ?_
    refine z_iload_n dX12_goesIn_18 rfl ?_
    refine z_ishr dX12_goesIn_19 ?_
    refine z_iconst (v := 1) dX12_goesIn_20 (by decide) ?_
    refine z_iand dX12_goesIn_21 ?_
    refine z_iconst (v := 1) dX12_goesIn_22 (by decide) ?_
    refine z_icmp_eq (tgt := 173) dX12_goesIn_23 (by decide) (fun q6 => ?_) (fun q6 => ?_)
    · have hv := hv.1 q6
      refine z_iinc (v2 := x3 + 1) (lv2 := [some (.ref 160), some (.int p1), some (.int x2), some (.int (x3 + 1)), none, none, none]) dX12_goesIn_173 rfl (by rfl) (by decide) rfl rfl ?_
      refine z_goto (tgt := 4) dX12_goesIn_176 (by decide) ?_
      exact hv
    · have hv := hv.2 q6
      refine z_aload_n dX12_goesIn_26 rfl ?_
      refine z_getP dX12_goesIn_27 zf_X12_52 zn_160 zo_160 (fun _ _ _ _ _ => rfl) (hP 160 21 173 zp_160_21) ?_
      refine z_bipush (v := 8) dX12_goesIn_30 (by decide) ?_
      refine z_aload_n dX12_goesIn_32 rfl ?_
      refine z_getI dX12_goesIn_33 zf_X12_261 zn_160 zo_160 (fun _ _ _ _ _ => rfl) ?_
      refine z_imul dX12_goesIn_36 ?_
      refine z_iload_n dX12_goesIn_37 rfl ?_
      refine z_iadd dX12_goesIn_38 ?_
      obtain ⟨h7, hv⟩ := hv
      refine z_zaload dX12_goesIn_39 zn_173 zh_173 h7 ?_
      refine z_if_eq (tgt := 46) dX12_goesIn_40 (by decide) (fun q8 => ?_) (fun q8 => ?_)
      · have hv := hv.1 q8
        refine z_iconst (v := 1) dX12_goesIn_46 (by decide) ?_
        refine z_istore (lv2 := [some (.ref 160), some (.int p1), some (.int x2), some (.int x3), some (.int 1), none, none]) dX12_goesIn_47 (by decide) rfl rfl ?_
        refine z_iconst (v := 1) dX12_goesIn_49 (by decide) ?_
        refine z_istore (lv2 := [some (.ref 160), some (.int p1), some (.int x2), some (.int x3), some (.int 1), some (.int 1), none]) dX12_goesIn_50 (by decide) rfl rfl ?_
        refine z_iconst (v := 0) dX12_goesIn_52 (by decide) ?_
        refine z_istore (lv2 := [some (.ref 160), some (.int p1), some (.int x2), some (.int x3), some (.int 1), some (.int 1), some (.int 0)]) dX12_goesIn_53 (by decide) rfl rfl ?_
        exact hv
      · have hv := hv.2 q8
        refine z_goto (tgt := 173) dX12_goesIn_43 (by decide) ?_
        refine z_iinc (v2 := x3 + 1) (lv2 := [some (.ref 160), some (.int p1), some (.int x2), some (.int (x3 + 1)), none, none, none]) dX12_goesIn_173 rfl (by rfl) (by decide) rfl rfl ?_
        refine z_goto (tgt := 4) dX12_goesIn_176 (by decide) ?_
        exact hv
abbrev v_X12_goesIn (d : Nat) (Q : zQt) (p1 : Int32) (I : zI) (L : zL) (P : zP) : Prop :=
  gw_X12_goesIn (d + 1) Q 4 [some (.ref 160), some (.int p1), some (.int 0), some (.int 0), none, none, none] [] I L P
set_option maxRecDepth 20000 in
theorem g_X12_goesIn {d : Nat} {Q : zQt} {p1 : Int32} {I : zI} {L : zL} {P : zP} (hP : zPk P) (hd : 1 ≤ d) (hv : v_X12_goesIn d Q p1 I L P) : zM zm_X12_goesIn (d + 1) 0 0 [.ref 160, .int p1] I L P 205 Q := by
  unfold v_X12_goesIn at hv
  refine zM_of (lv0 := [some (.ref 160), some (.int p1), none, none, none, none, none]) (by decide +kernel) (Nat.le_of_ble_eq_true rfl) rfl ?_
  refine z_iconst (v := 0) dX12_goesIn_0 (by decide) ?_
  refine z_istore_n (lv2 := [some (.ref 160), some (.int p1), some (.int 0), none, none, none, none]) dX12_goesIn_1 (by decide) rfl rfl ?_
  refine z_iconst (v := 0) dX12_goesIn_2 (by decide) ?_
  refine z_istore_n (lv2 := [some (.ref 160), some (.int p1), some (.int 0), some (.int 0), none, none, none]) dX12_goesIn_3 (by decide) rfl rfl ?_
  exact hv
theorem lp_X12_goesIn_55 {d : Nat} {Q : zQt} {I : zI} {L : zL} {P : zP} {w p gn : Nat} {x2 : Int32} (hP : zPk P) (hE : ME I) (h6 : vNp I ≤ 6) (hw : w < vN I) (hp : p < vNp I) (hd : 3 ≤ d) (hg : ¬ gn.testBit p = true) (hst : ¬ vSty I p)
    (k : ∀ m, m = (@ite _ (fGo I (I 193) gn w p) (Classical.propDecidable _) (x2 ||| ((1 : Int32) <<< (nI p &&& 31) : Int32) : Int32) x2) → gw_X12_goesIn (d + 1) Q 4 [some (.ref 160), some (.int (nI w)), some (.int m), some (.int (nI p + 1)), none, none, none] [] I L P) :
    ∀ n i x4 x5, i + n = vN I → x4 = bP (∀ v, v < i → I 193 v = I 193 w → fLk I p w v → v.testBit p = true) → x5 = bP (∀ v, v < i → I 193 v = I 193 w → fLk I p w v → v.testBit p = false) →
      gw_X12_goesIn (d + 1) Q 55 [some (.ref 160), some (.int (nI w)), some (.int x2), some (.int (nI p)), some (.int x4), some (.int x5), some (.int (nI i))] [] I L P := by
  have hN := vN_64 h6
  have hnp := hE.1.2.1
  have hb := hE.1.1.1
  intro n
  induction n with
  | zero =>
    intro i x4 x5 hi e4 e5
    have hi2 : i = vN I := by omega
    subst hi2
    refine g_X12_goesIn_55 hP (by omega) ⟨hE.1, fun _ => ⟨fun q3 => k _ (if_pos ?_).symm, fun q3 => ⟨fun q4 => k _ (if_neg ?_).symm, fun q4 => ⟨by rw [hE.1.1.2]; exact nx_in hb (by decide), fun q5 => k _ (if_neg ?_).symm, fun q5 => k _ (if_pos ?_).symm⟩⟩⟩, fun q => absurd (nI_le (Nat.le_refl _) (by omega)) q⟩
    · rw [e4, bP_n] at q3
      exact ⟨hg, hst, Or.inl q3⟩
    · rw [e4, bP_0] at q3
      rw [e5, bP_0] at q4
      exact fun h => h.2.2.elim q3 (fun z => q4 z.1)
    · rw [e4, bP_0] at q3
      exact fun h => h.2.2.elim q3 (fun z => z.2 q5)
    · rw [e5, bP_n] at q4
      exact ⟨hg, hst, Or.inr ⟨q4, q5⟩⟩
  | succ n ih =>
    intro i x4 x5 hi e4 e5
    have skip : ¬ (I 193 i = I 193 w ∧ fLk I p w i) → gw_X12_goesIn (d + 1) Q 55 [some (.ref 160), some (.int (nI w)), some (.int x2), some (.int (nI p)), some (.int x4), some (.int x5), some (.int (nI i + 1))] [] I L P := by
      intro hc
      rw [nI_1]
      refine ih (i + 1) x4 x5 (by omega) (e4.trans (bP_c ?_)) (e5.trans (bP_c ?_))
      · refine ⟨fun h v hv pv lv => ?_, fun h v hv => h v (by omega)⟩
        rcases Nat.lt_succ_iff_lt_or_eq.mp hv with q | q
        · exact h v q pv lv
        · subst q; exact absurd ⟨pv, lv⟩ hc
      · refine ⟨fun h v hv pv lv => ?_, fun h v hv => h v (by omega)⟩
        rcases Nat.lt_succ_iff_lt_or_eq.mp hv with q | q
        · exact h v q pv lv
        · subst q; exact absurd ⟨pv, lv⟩ hc
    have full : I 193 i = I 193 w → fLk I p w i → ∀ t4 : Int32, t4 = bP (∀ v, v < i + 1 → I 193 v = I 193 w → fLk I p w v → v.testBit p = true) → gw_X12_goesIn (d + 1) Q 116 [some (.ref 160), some (.int (nI w)), some (.int x2), some (.int (nI p)), none, some (.int x5), some (.int (nI i))] [.int t4] I L P := by
      intro pi li t4 et4
      have last : ∀ t5 : Int32, t5 = bP (∀ v, v < i + 1 → I 193 v = I 193 w → fLk I p w v → v.testBit p = false) → gw_X12_goesIn (d + 1) Q 137 [some (.ref 160), some (.int (nI w)), some (.int x2), some (.int (nI p)), some (.int t4), none, some (.int (nI i))] [.int t5] I L P := by
        intro t5 et5
        refine g_X12_goesIn_137 hP (by omega) ?_
        unfold v_X12_goesIn_137
        rw [nI_1]
        exact ih (i + 1) t4 t5 (by omega) et4 et5
      refine g_X12_goesIn_116 hP (by omega) ⟨fun q => last 0 ?_, fun q => ⟨fun q2 => last 0 ?_, fun q2 => last 1 ?_⟩⟩
      · rw [e5, bP_0] at q
        exact (bP_f (fun h => q (fun v hv => h v (by omega)))).symm
      · rw [nx_bit0 (by omega) (by omega)] at q2
        exact (bP_f (fun h => q2 (h i (by omega) pi li))).symm
      · rw [e5, bP_n] at q
        rw [nx_bit0 (by omega) (by omega)] at q2
        refine (bP_t (fun v hv pv lv => ?_)).symm
        rcases Nat.lt_succ_iff_lt_or_eq.mp hv with z | z
        · exact q v z pv lv
        · subst z; exact q2
    refine g_X12_goesIn_55 hP (by omega) ⟨hE.1, fun q => absurd q (nI_ge (by omega) (by omega)), fun _ => ⟨nx_in (by omega) (by decide), nx_in (by omega) (by decide), fun q => skip ?_, fun q => ?_⟩⟩
    · rw [nI_cl (by omega), nI_cl (by omega)] at q
      exact fun h => q h.1
    · rw [nI_cl (by omega), nI_cl (by omega)] at q
      refine sp_X12_seesOf hP hE.1 hE.2.1 hp (by omega) ⟨fun q2 => ?_, fun q2 => skip ?_⟩
      · have hx : (i ^^^ w) &&& vSee I p < 2 ^ 31 := Nat.lt_of_le_of_lt Nat.and_le_right (by have := vSee_lt hE.1 p; omega)
        rw [nx_xor, nx_and, nI_zero hx] at q2
        have q2 : fLk I p w i := q2
        refine ⟨fun q3 => full q q2 0 ?_, fun q3 => ⟨fun q4 => full q q2 0 ?_, fun q4 => full q q2 1 ?_⟩⟩
        · rw [e4, bP_0] at q3
          exact (bP_f (fun h => q3 (fun v hv => h v (by omega)))).symm
        · rw [nx_bit1 (by omega) (by omega)] at q4
          exact (bP_f (fun h => q4 (h i (by omega) q q2))).symm
        · rw [e4, bP_n] at q3
          rw [nx_bit1 (by omega) (by omega)] at q4
          refine (bP_t (fun v hv pv lv => ?_)).symm
          rcases Nat.lt_succ_iff_lt_or_eq.mp hv with z | z
          · exact q3 v z pv lv
          · subst z; exact q4
      · have hx : (i ^^^ w) &&& vSee I p < 2 ^ 31 := Nat.lt_of_le_of_lt Nat.and_le_right (by have := vSee_lt hE.1 p; omega)
        rw [nx_xor, nx_and, nI_zero hx] at q2
        exact fun h => q2 h.2
theorem lp_X12_goesIn_4 {d : Nat} {Q : zQt} {I : zI} {L : zL} {P : zP} {w gn : Nat} (hP : zPk P) (hE : ME I) (h6 : vNp I ≤ 6) (hg : gn < 256) (eg : I 194 w = nI gn) (hw : w < vN I) (hd : 3 ≤ d) (k : Q (some (.int (nI (fGs I (I 193) gn w)))) I L P 205) :
    ∀ n p, p + n = vNp I → gw_X12_goesIn (d + 1) Q 4 [some (.ref 160), some (.int (nI w)), some (.int (nI (bset (fGo I (I 193) gn w) p))), some (.int (nI p)), none, none, none] [] I L P := by
  have hN := vN_64 h6
  have hnp := hE.1.2.1
  have hb := hE.1.1.1
  intro n
  induction n with
  | zero =>
    intro p hp
    have hp2 : p = vNp I := by omega
    subst hp2
    exact g_X12_goesIn_4 hP (by omega) ⟨hE.1, fun _ => k, fun q => absurd (nI_le (Nat.le_refl _) (by omega)) q⟩
  | succ n ih =>
    intro p hp
    have e1 : ((8 : Int32) * (I 160 28)) + nI p = nI (8 * vB I + p) := by
      rw [hE.1.1.2, show (8 : Int32) = nI 8 from rfl, pk_mul, nI_add]
    have no : ¬ fGo I (I 193) gn w p → gw_X12_goesIn (d + 1) Q 4 [some (.ref 160), some (.int (nI w)), some (.int (nI (bset (fGo I (I 193) gn w) p))), some (.int (nI p + 1)), none, none, none] [] I L P := by
      intro h
      rw [nI_1, ← bset_f h]
      exact ih (p + 1) (by omega)
    refine g_X12_goesIn_4 hP (by omega) ⟨hE.1, fun q => absurd q (nI_ge (by omega) (by omega)), fun _ => ⟨nx_in (by omega) (by decide), fun q => no ?_, fun q => ⟨by rw [e1]; exact nx_in (by omega) (by decide), fun q2 => ?_, fun q2 => no ?_⟩⟩⟩
    · rw [nI_cl (by omega), eg, nx_bit1 (by omega) (by omega)] at q
      exact fun h => h.1 q
    · rw [nI_cl (by omega), eg, nx_bit1 (by omega) (by omega)] at q
      rw [e1, nI_cl (by omega)] at q2
      have hst : ¬ vSty I p := fun h => h q2
      refine lp_X12_goesIn_55 hP hE h6 hw (by omega) hd q hst (fun m em => ?_) (vN I) 0 1 1 (by omega) (bP_t (fun v hv => absurd hv (Nat.not_lt_zero v))).symm (bP_t (fun v hv => absurd hv (Nat.not_lt_zero v))).symm
      by_cases h : fGo I (I 193) gn w p
      · rw [if_pos h, nx_set (by omega), ← bset_t h] at em
        rw [em, nI_1]
        exact ih (p + 1) (by omega)
      · rw [if_neg h] at em
        rw [em]
        exact no h
    · rw [e1, nI_cl (by omega)] at q2
      exact fun h => h.2.1 q2
theorem sp_X12_goesIn {d : Nat} {I : zI} {L : zL} {P : zP} {w gn : Nat} (hP : zPk P) (hE : ME I) (h6 : vNp I ≤ 6) (hg : gn < 256) (eg : I 194 w = nI gn) (hw : w < vN I) (hd : 4 ≤ d) {K : Int32 → zI → zL → zP → Prop} (k : K (nI (fGs I (I 193) gn w)) I L P) : zMi zm_X12_goesIn d [.ref 160, .int (nI w)] I L P K := by
  obtain ⟨d, rfl⟩ : ∃ e, d = e + 1 := ⟨d - 1, by omega⟩
  exact g_X12_goesIn hP (by omega) (lp_X12_goesIn_4 hP hE h6 hg eg hw (by omega) (qi k) (vNp I) 0 (by omega))
