/-! ===== the class: guesses, learnt ===== -/
abbrev gw_X1_learn (d : Nat) (Q : zQt) (pc : Nat) (lv : zV) (st : List Value) (I : zI) (L : zL) (P : zP) : Prop := zW zm_X1_learn (zRm d 0 0) 0 0 Q pc lv st I L P 205 0 0
abbrev v_X1_learn_117 (d : Nat) (Q : zQt) (p1 : Nat) (x4 : Nat) (x5 : Int32) (x6 : Nat) (x7 : Int32) (I : zI) (L : zL) (P : zP) : Prop :=
  (p1 < 205 ∧ (zsh p1).1 = 2) ∧
  (((I p1 0) ≤ x7 →
    gw_X1_learn (d + 1) Q 97 [some (.ref 96), some (.ref p1), none, some (.ref 23), some (.ref x4), some (.int (x5 + 1)), none, none] [] I L P
  ) ∧ (¬ (I p1 0) ≤ x7 →
    zMv zm_X1_sendOne d [.ref 96, .int x7, .ref x6, .ref x4, .int x5] I L P (fun I55 L56 P57 =>
      gw_X1_learn (d + 1) Q 117 [some (.ref 96), some (.ref p1), none, some (.ref 23), some (.ref x4), some (.int x5), some (.ref x6), some (.int (x7 + 1))] [] I55 L56 P57
    )
  ))
set_option maxRecDepth 20000 in
theorem g_X1_learn_117 {d : Nat} {Q : zQt} {p1 : Nat} {x4 : Nat} {x5 : Int32} {x6 : Nat} {x7 : Int32} {I : zI} {L : zL} {P : zP} (hP : zPk P) (hv : v_X1_learn_117 d Q p1 x4 x5 x6 x7 I L P) : gw_X1_learn (d + 1) Q 117 [some (.ref 96), some (.ref p1), none, some (.ref 23), some (.ref x4), some (.int x5), some (.ref x6), some (.int x7)] [] I L P := by
  unfold v_X1_learn_117 at hv
  refine z_iload dX1_learn_117 rfl ?_
  refine z_aload_n dX1_learn_119 rfl ?_
  obtain ⟨h53, hv⟩ := hv
  refine z_getI dX1_learn_120 zf_X1_87 h53.1 h53.2 (fun _ _ _ _ _ => rfl) ?_
  refine z_icmp_ge (tgt := 144) dX1_learn_123 (by decide) (fun q54 => ?_) (fun q54 => ?_)
  · have hv := hv.1 q54
    refine z_iinc (v2 := x5 + 1) (lv2 := [some (.ref 96), some (.ref p1), none, some (.ref 23), some (.ref x4), some (.int (x5 + 1)), some (.ref x6), some (.int x7)]) dX1_learn_144 rfl (by rfl) (by decide) rfl rfl ?_
    refine z_goto (tgt := 97) dX1_learn_147 (by decide) ?_
    exact z_sub (by exact ⟨rfl, ⟨rfl, ⟨rfl, ⟨rfl, ⟨rfl, trivial⟩⟩⟩⟩⟩) hv
  · have hv := hv.2 q54
    refine z_aload_n dX1_learn_126 rfl ?_
    refine z_iload dX1_learn_127 rfl ?_
    refine z_aload dX1_learn_129 rfl ?_
    refine z_aload dX1_learn_131 rfl ?_
    refine z_iload dX1_learn_133 rfl ?_
    refine z_callV (As := [.int x7, .ref x6, .ref x4, .int x5]) (st := []) dX1_learn_135 zl_X1_90 zv_X1_sendOne (by decide) rfl zn_96 zo_96 rfl rfl (Nat.le_of_ble_eq_true rfl) ⟨Nat.le_refl _, Nat.le_refl _⟩ ⟨Nat.le_refl _, Nat.le_refl _⟩ hv (fun v1 I55 L56 P57 nx1 q58 => ?_)
    obtain ⟨rfl, rfl, hv⟩ := q58
    refine z_iinc (v2 := x7 + 1) (lv2 := [some (.ref 96), some (.ref p1), none, some (.ref 23), some (.ref x4), some (.int x5), some (.ref x6), some (.int (x7 + 1))]) dX1_learn_138 rfl (by rfl) (by decide) rfl rfl ?_
    refine z_goto (tgt := 117) dX1_learn_141 (by decide) ?_
    exact hv
abbrev v_X1_learn_97 (d : Nat) (Q : zQt) (p1 : Nat) (x4 : Nat) (x5 : Int32) (I : zI) (L : zL) (P : zP) : Prop :=
  ((12 < x5 →
    Q none I L P 205
  ) ∧ (¬ 12 < x5 →
    zMr zm_X4_findGoers d [.ref 23, .ref 107] I L P (fun r52 I48 L49 P50 =>
      gw_X1_learn (d + 1) Q 117 [some (.ref 96), some (.ref p1), none, some (.ref 23), some (.ref x4), some (.int x5), some (.ref r52), some (.int 0)] [] I48 L49 P50
    )
  ))
set_option maxRecDepth 20000 in
theorem g_X1_learn_97 {d : Nat} {Q : zQt} {p1 : Nat} {x4 : Nat} {x5 : Int32} {I : zI} {L : zL} {P : zP} (hP : zPk P) (hv : v_X1_learn_97 d Q p1 x4 x5 I L P) : gw_X1_learn (d + 1) Q 97 [some (.ref 96), some (.ref p1), none, some (.ref 23), some (.ref x4), some (.int x5), none, none] [] I L P := by
  unfold v_X1_learn_97 at hv
  refine z_iload dX1_learn_97 rfl ?_
  refine z_bipush (v := 12) dX1_learn_99 (by decide) ?_
  refine z_icmp_gt (tgt := 150) dX1_learn_101 (by decide) (fun q47 => ?_) (fun q47 => ?_)
  · have hv := hv.1 q47
    exact z_return dX1_learn_150 rfl (Nat.le_refl _) (Nat.le_refl _) hv
  · have hv := hv.2 q47
    refine z_aload_n dX1_learn_104 rfl ?_
    refine z_aload_n dX1_learn_105 rfl ?_
    refine z_getP dX1_learn_106 zf_X1_44 zn_96 zo_96 (fun _ _ _ _ _ => rfl) (hP 96 1 107 zp_96_1) ?_
    refine z_callV (As := [.ref 107]) (st := []) dX1_learn_109 zl_X1_83 zv_X4_findGoers (by decide) rfl zn_23 zo_23 rfl rfl (Nat.le_of_ble_eq_true rfl) ⟨Nat.le_refl _, Nat.le_refl _⟩ ⟨Nat.le_refl _, Nat.le_refl _⟩ hv (fun v1 I48 L49 P50 nx1 q51 => ?_)
    obtain ⟨rfl, r52, rfl, hv⟩ := q51
    refine z_astore (lv2 := [some (.ref 96), some (.ref p1), none, some (.ref 23), some (.ref x4), some (.int x5), some (.ref r52), none]) dX1_learn_112 (by decide) rfl rfl ?_
    refine z_iconst (v := 0) dX1_learn_114 (by decide) ?_
    refine z_istore (lv2 := [some (.ref 96), some (.ref p1), none, some (.ref 23), some (.ref x4), some (.int x5), some (.ref r52), some (.int 0)]) dX1_learn_115 (by decide) rfl rfl ?_
    exact hv
abbrev v_X1_learn_62 (d : Nat) (Q : zQt) (p1 : Nat) (x4 : Nat) (x5 : Int32) (I : zI) (L : zL) (P : zP) : Prop :=
  (((I 107 3) ≤ x5 →
    gw_X1_learn (d + 1) Q 97 [some (.ref 96), some (.ref p1), none, some (.ref 23), some (.ref x4), some (.int 1), none, none] [] I L P
  ) ∧ (¬ (I 107 3) ≤ x5 →
    vp_in x5 256 ∧
    ∃ n43, (x4 < 205 ∧ zsh x4 = (100, n43)) ∧
    vp_in (I 119 x5.toNatClampNeg) n43 ∧
    ∀ I46 : zI, I46 = zuI I x4 (I 119 x5.toNatClampNeg).toNatClampNeg 0 →
    gw_X1_learn (d + 1) Q 62 [some (.ref 96), some (.ref p1), none, some (.ref 23), some (.ref x4), some (.int (x5 + 1)), none, none] [] I46 L P
  ))
set_option maxRecDepth 20000 in
theorem g_X1_learn_62 {d : Nat} {Q : zQt} {p1 : Nat} {x4 : Nat} {x5 : Int32} {I : zI} {L : zL} {P : zP} (hP : zPk P) (hv : v_X1_learn_62 d Q p1 x4 x5 I L P) : gw_X1_learn (d + 1) Q 62 [some (.ref 96), some (.ref p1), none, some (.ref 23), some (.ref x4), some (.int x5), none, none] [] I L P := by
  unfold v_X1_learn_62 at hv
  refine z_iload dX1_learn_62 rfl ?_
  refine z_aload_n dX1_learn_64 rfl ?_
  refine z_getP dX1_learn_65 zf_X1_44 zn_96 zo_96 (fun _ _ _ _ _ => rfl) (hP 96 1 107 zp_96_1) ?_
  refine z_getI dX1_learn_68 zf_X1_75 zn_107 zo_107 (fun _ _ _ _ _ => rfl) ?_
  refine z_icmp_ge (tgt := 94) dX1_learn_71 (by decide) (fun q40 => ?_) (fun q40 => ?_)
  · have hv := hv.1 q40
    refine z_iconst (v := 1) dX1_learn_94 (by decide) ?_
    refine z_istore (lv2 := [some (.ref 96), some (.ref p1), none, some (.ref 23), some (.ref x4), some (.int 1), none, none]) dX1_learn_95 (by decide) rfl rfl ?_
    exact hv
  · have hv := hv.2 q40
    refine z_aload dX1_learn_74 rfl ?_
    refine z_aload_n dX1_learn_76 rfl ?_
    refine z_getP dX1_learn_77 zf_X1_44 zn_96 zo_96 (fun _ _ _ _ _ => rfl) (hP 96 1 107 zp_96_1) ?_
    refine z_getP dX1_learn_80 zf_X1_78 zn_107 zo_107 (fun _ _ _ _ _ => rfl) (hP 107 2 119 zp_107_2) ?_
    refine z_iload dX1_learn_83 rfl ?_
    obtain ⟨h41, hv⟩ := hv
    refine z_iaload dX1_learn_85 zn_119 zh_119 h41 ?_
    refine z_iconst (v := 0) dX1_learn_86 (by decide) ?_
    obtain ⟨n43, h42, hv⟩ := hv
    obtain ⟨h44, hv⟩ := hv
    refine z_iastore dX1_learn_87 h42.1 h42.2 h44 (z_nmI (fun I46 e45 => ?_))
    have hv := hv I46 e45
    refine z_iinc (v2 := x5 + 1) (lv2 := [some (.ref 96), some (.ref p1), none, some (.ref 23), some (.ref x4), some (.int (x5 + 1)), none, none]) dX1_learn_88 rfl (by rfl) (by decide) rfl rfl ?_
    refine z_goto (tgt := 62) dX1_learn_91 (by decide) ?_
    exact hv
abbrev v_X1_learn (d : Nat) (Q : zQt) (p1 : Nat) (p2 : Int32) (I : zI) (L : zL) (P : zP) : Prop :=
  vp_in p2 7 ∧
  ∃ b2 : Nat, P 97 p2.toNatClampNeg = some b2 ∧
  zMv zm_J7_fill_53178 d [.ref b2, .int (-1)] I L P (fun I4 L5 P6 =>
    zPk P6 ∧
    zMv zm_J7_fill_53178 d [.ref 105, .int 0] I4 L5 P6 (fun I10 L11 P12 =>
      zPk P12 ∧
      zMv zm_X6_open d [.ref 107, .ref p1] I10 L11 P12 (fun I16 L17 P18 =>
        (p1 < 205 ∧ (zsh p1).1 = 2) ∧
        (((I16 p1 4) ≤ p2 →
          gw_X1_learn (d + 1) Q 62 [some (.ref 96), some (.ref p1), none, some (.ref 23), some (.ref b2), some (.int 0), none, none] [] I16 L17 P18
        ) ∧ (¬ (I16 p1 4) ≤ p2 →
          zPk P18 ∧
          zMv zm_X4_weighSaying d [.ref 23, .ref 107, .int p2] I16 L17 P18 (fun I24 L25 P26 =>
            zPk P26 ∧
            zMr zm_X4_result d [.ref 23] I24 L25 P26 (fun r34 I30 L31 P32 =>
              zMi zm_X6_keepSo d [.ref 107, .ref r34] I30 L31 P32 (fun r39 I35 L36 P37 =>
                gw_X1_learn (d + 1) Q 62 [some (.ref 96), some (.ref p1), none, some (.ref 23), some (.ref b2), some (.int 0), none, none] [] I35 L36 P37
              )
            )
          )
        ))
      )
    )
  )
set_option maxRecDepth 20000 in
theorem g_X1_learn {d : Nat} {Q : zQt} {p1 : Nat} {p2 : Int32} {I : zI} {L : zL} {P : zP} (hP : zPk P) (hv : v_X1_learn d Q p1 p2 I L P) : zM zm_X1_learn (d + 1) 0 0 [.ref 96, .ref p1, .int p2, .ref 23] I L P 205 Q := by
  unfold v_X1_learn at hv
  refine zM_of (lv0 := [some (.ref 96), some (.ref p1), some (.int p2), some (.ref 23), none, none, none, none]) (by decide +kernel) (Nat.le_of_ble_eq_true rfl) rfl ?_
  refine z_aload_n dX1_learn_0 rfl ?_
  refine z_getP dX1_learn_1 zf_X1_15 zn_96 zo_96 (fun _ _ _ _ _ => rfl) (hP 96 0 97 zp_96_0) ?_
  refine z_iload_n dX1_learn_4 rfl ?_
  obtain ⟨h1, hv⟩ := hv
  obtain ⟨b2, h3, hv⟩ := hv
  refine z_aaload dX1_learn_5 zn_97 zh_97 (Or.inl rfl) h1 h3 ?_
  refine z_astore (lv2 := [some (.ref 96), some (.ref p1), some (.int p2), some (.ref 23), some (.ref b2), none, none, none]) dX1_learn_6 (by decide) rfl rfl ?_
  refine z_aload dX1_learn_8 rfl ?_
  refine z_iconst (v := (-1)) dX1_learn_10 (by decide) ?_
  refine z_callS (As := [.ref b2, .int (-1)]) (st := []) dX1_learn_11 zl_X1_48 zs_J7_fill_53178 rfl rfl (Nat.le_of_ble_eq_true rfl) ⟨Nat.le_refl _, Nat.le_refl _⟩ ⟨Nat.le_refl _, Nat.le_refl _⟩ hv (fun v1 I4 L5 P6 nx1 q7 => ?_)
  obtain ⟨rfl, rfl, hv⟩ := q7
  refine z_aload_n dX1_learn_14 rfl ?_
  obtain ⟨h9, hv⟩ := hv
  refine z_getP dX1_learn_15 zf_X1_18 zn_96 zo_96 (fun _ _ _ _ _ => rfl) (h9 96 2 105 zp_96_2) ?_
  refine z_iconst (v := 0) dX1_learn_18 (by decide) ?_
  refine z_callS (As := [.ref 105, .int 0]) (st := []) dX1_learn_19 zl_X1_48 zs_J7_fill_53178 rfl rfl (Nat.le_of_ble_eq_true rfl) ⟨Nat.le_refl _, Nat.le_refl _⟩ ⟨Nat.le_refl _, Nat.le_refl _⟩ hv (fun v1 I10 L11 P12 nx1 q13 => ?_)
  obtain ⟨rfl, rfl, hv⟩ := q13
  refine z_aload_n dX1_learn_22 rfl ?_
  obtain ⟨h15, hv⟩ := hv
  refine z_getP dX1_learn_23 zf_X1_44 zn_96 zo_96 (fun _ _ _ _ _ => rfl) (h15 96 1 107 zp_96_1) ?_
  refine z_aload_n dX1_learn_26 rfl ?_
  refine z_callV (As := [.ref p1]) (st := []) dX1_learn_27 zl_X1_54 zv_X6_open (by decide) rfl zn_107 zo_107 rfl rfl (Nat.le_of_ble_eq_true rfl) ⟨Nat.le_refl _, Nat.le_refl _⟩ ⟨Nat.le_refl _, Nat.le_refl _⟩ hv (fun v1 I16 L17 P18 nx1 q19 => ?_)
  obtain ⟨rfl, rfl, hv⟩ := q19
  refine z_iload_n dX1_learn_30 rfl ?_
  refine z_aload_n dX1_learn_31 rfl ?_
  obtain ⟨h21, hv⟩ := hv
  refine z_getI dX1_learn_32 zf_X1_58 h21.1 h21.2 (fun _ _ _ _ _ => rfl) ?_
  refine z_icmp_ge (tgt := 59) dX1_learn_35 (by decide) (fun q22 => ?_) (fun q22 => ?_)
  · have hv := hv.1 q22
    refine z_iconst (v := 0) dX1_learn_59 (by decide) ?_
    refine z_istore (lv2 := [some (.ref 96), some (.ref p1), some (.int p2), some (.ref 23), some (.ref b2), some (.int 0), none, none]) dX1_learn_60 (by decide) rfl rfl ?_
    exact z_sub (by exact ⟨rfl, ⟨rfl, ⟨rfl, ⟨rfl, ⟨rfl, trivial⟩⟩⟩⟩⟩) hv
  · have hv := hv.2 q22
    refine z_aload_n dX1_learn_38 rfl ?_
    refine z_aload_n dX1_learn_39 rfl ?_
    obtain ⟨h23, hv⟩ := hv
    refine z_getP dX1_learn_40 zf_X1_44 zn_96 zo_96 (fun _ _ _ _ _ => rfl) (h23 96 1 107 zp_96_1) ?_
    refine z_iload_n dX1_learn_43 rfl ?_
    refine z_callV (As := [.ref 107, .int p2]) (st := []) dX1_learn_44 zl_X1_61 zv_X4_weighSaying (by decide) rfl zn_23 zo_23 rfl rfl (Nat.le_of_ble_eq_true rfl) ⟨Nat.le_refl _, Nat.le_refl _⟩ ⟨Nat.le_refl _, Nat.le_refl _⟩ hv (fun v1 I24 L25 P26 nx1 q27 => ?_)
    obtain ⟨rfl, rfl, hv⟩ := q27
    refine z_aload_n dX1_learn_47 rfl ?_
    obtain ⟨h29, hv⟩ := hv
    refine z_getP dX1_learn_48 zf_X1_44 zn_96 zo_96 (fun _ _ _ _ _ => rfl) (h29 96 1 107 zp_96_1) ?_
    refine z_aload_n dX1_learn_51 rfl ?_
    refine z_callV (As := []) (st := [.ref 107]) dX1_learn_52 zl_X1_67 zv_X4_result (by decide) rfl zn_23 zo_23 rfl rfl (Nat.le_of_ble_eq_true rfl) ⟨Nat.le_refl _, Nat.le_refl _⟩ ⟨Nat.le_refl _, Nat.le_refl _⟩ hv (fun v1 I30 L31 P32 nx1 q33 => ?_)
    obtain ⟨rfl, r34, rfl, hv⟩ := q33
    refine z_callV (As := [.ref r34]) (st := []) dX1_learn_55 zl_X1_71 zv_X6_keepSo (by decide) rfl zn_107 zo_107 rfl rfl (Nat.le_of_ble_eq_true rfl) ⟨Nat.le_refl _, Nat.le_refl _⟩ ⟨Nat.le_refl _, Nat.le_refl _⟩ hv (fun v1 I35 L36 P37 nx1 q38 => ?_)
    obtain ⟨rfl, r39, rfl, hv⟩ := q38
    refine z_pop dX1_learn_58 rfl ?_
    refine z_iconst (v := 0) dX1_learn_59 (by decide) ?_
    refine z_istore (lv2 := [some (.ref 96), some (.ref p1), some (.int p2), some (.ref 23), some (.ref b2), some (.int 0), none, none]) dX1_learn_60 (by decide) rfl rfl ?_
    exact z_sub (by exact ⟨rfl, ⟨rfl, ⟨rfl, ⟨rfl, ⟨rfl, trivial⟩⟩⟩⟩⟩) hv
def lFr (c : Nat) (I0 I : zI) : Prop := ∀ a, ¬ (a = 23 ∨ (25 ≤ a ∧ a ≤ 72) ∨ (105 ≤ a ∧ a ≤ 119) ∨ a = c) → I a = I0 a
theorem lFr_tr {c : Nat} {I0 I1 I2 : zI} (h1 : lFr c I0 I1) (h2 : lFr c I1 I2) : lFr c I0 I2 := fun a h => (h2 a h).trans (h1 a h)
theorem lFr_of {c : Nat} {cs : List Nat} {I0 I : zI} (h : cFr cs I0 I) (hc : ∀ a ∈ cs, a = 23 ∨ (25 ≤ a ∧ a ≤ 72) ∨ (105 ≤ a ∧ a ≤ 119) ∨ a = c) : lFr c I0 I := fun a ha => h a (fun z => ha (hc a z))
/-- the worlds that the saying i leaves; the last: nothing was said -/
def iS (M : zI) (i : Nat) : Nat → Prop := if i < vNs M then fIn M (i + 1) else fIn M 0
theorem and_x {a b s : Nat} : b &&& s = a &&& s ↔ (b ^^^ a) &&& s = 0 := by
  constructor
  · intro h
    apply Nat.eq_of_testBit_eq
    intro i
    have := congrArg (fun x => x.testBit i) h
    simp only [Nat.testBit_and] at this
    rw [Nat.testBit_and, Nat.testBit_xor, Nat.zero_testBit]
    revert this
    cases b.testBit i <;> cases a.testBit i <;> cases s.testBit i <;> decide
  · intro h
    apply Nat.eq_of_testBit_eq
    intro i
    have := congrArg (fun x => x.testBit i) h
    simp only [Nat.testBit_and, Nat.testBit_xor, Nat.zero_testBit] at this
    rw [Nat.testBit_and, Nat.testBit_and]
    revert this
    cases b.testBit i <;> cases a.testBit i <;> cases s.testBit i <;> decide
theorem bset_tb {x np : Nat} (h : x < 2 ^ np) : bset (fun q => x.testBit q = true) np = x := by
  apply Nat.eq_of_testBit_eq
  intro i
  have e : (bset (fun q => x.testBit q = true) np).testBit i = true ↔ x.testBit i = true := by
    rw [bset_bit]
    refine ⟨fun z => z.2, fun z => ⟨?_, z⟩⟩
    exact Classical.byContradiction (fun y => by
      rw [Nat.testBit_lt_two_pow (Nat.lt_of_lt_of_le h (p2m (by omega)))] at z; cases z)
  cases h1 : (bset (fun q => x.testBit q = true) np).testBit i <;> cases h2 : x.testBit i <;> simp_all
section LN
variable {d : Nat} {M : zI} {L : zL} {P : zP} {t st n c : Nat} {inn : Nat → Prop} {g : Nat → Nat → Nat} {b : Nat → Nat} {cd : Nat → Cd}
theorem fGj_lt (w : Nat) : fGj M inn n w < 2 ^ vNp M := by
  unfold fGj fGe
  by_cases q : inn w
  · rw [if_pos q]; exact bset_lt _ _
  · rw [if_neg q]; exact pw0 _
theorem gQ_up (h : gQ M inn n (vNp M) g) : gQ M inn (n + 1) 0 g := by
  intro p hp a b ha hb ia ib
  rw [h p hp a b ha hb ia ib]
  show _ ↔ (fLk M p a b ∧ ((fNN M inn n).1 b a ∧ fGj M inn n b = fGj M inn n a)) ∧ _
  constructor
  · rintro ⟨⟨h1, h2⟩, h3⟩
    refine ⟨⟨h1, h2, ?_⟩, fun q hq => absurd hq (Nat.not_lt_zero q)⟩
    rw [← bset_tb (fGj_lt (M := M) (inn := inn) (n := n) b), ← bset_tb (fGj_lt (M := M) (inn := inn) (n := n) a)]
    exact bset_c h3
  · rintro ⟨⟨h1, h2, h3⟩, -⟩
    exact ⟨⟨h1, h2⟩, fun q _ => by rw [h3]⟩
theorem lRo_up {I : zI} (h : lRo M I inn n (vNp M) c) : lRo M I inn (n + 1) 0 c := by
  intro w hw iw
  obtain ⟨h1, h2⟩ := h w hw iw
  refine ⟨?_, ?_⟩
  · rw [h1]
    refine nIe ?_
    unfold gaI
    rw [bset_tb (fGj_lt w)]
    show _ = ((fNN M inn n).2 w ||| fGj M inn n w) ||| 0
    rw [Nat.or_zero]
  · rw [h2]
    refine nIe (wd_c (fun p hp => ?_))
    unfold nbI
    rw [if_pos hp, if_neg (Nat.not_lt_zero p)]
theorem lGo_of {I I' : zI} (hw : lW P t M I inn g) (hg : gQ M inn n 0 g) (hst : ∀ p, p < vNp M → (st.testBit p = true ↔ vSty M p)) (h : ∀ w ∈ lP inn (vN M), I' 72 w = nI (bset (cGo (vN M) (lP inn (vN M)) g (vOwn M) (0 ||| st) w) (vNp M))) : lGo M I' inn n (fun w => bset (cGo (vN M) (lP inn (vN M)) g (vOwn M) (0 ||| st) w) (vNp M)) := by
  have hnp := hw.2.2.2.2.2.1.2.1
  intro w hww iw
  refine ⟨h w (lP_mem.mpr ⟨hww, iw⟩), Nat.lt_of_lt_of_le (bset_lt _ _) (pw8 hnp), fun p hp => ?_⟩
  show _ ↔ (bset (cGo (vN M) (lP inn (vN M)) g (vOwn M) (0 ||| st) w) (vNp M)).testBit p = true ∧ _
  unfold fGj fGe
  rw [if_pos iw, bset_bit, bset_bit]
  have ag : ∀ bb, sHas (vN M) (xo (lP inn (vN M))) (gk g p) p w bb ↔ sHas (vN M) (fun v => (fNN M inn n).1 v w) (fLk M p) p w bb := by
    intro bb
    constructor
    · intro h1 v hv ev lv
      have iv := fNN_in n v w ev
      exact h1 v hv (lP_mem.mpr ⟨hv, iv⟩) ((hg p hp w v hww hv iw iv).mpr ⟨⟨lv, ev⟩, fun q hq => absurd hq (Nat.not_lt_zero q)⟩)
    · intro h1 v hv xv gv
      have iv := (lP_mem.mp xv).2
      have := (hg p hp w v hww hv iw iv).mp gv
      exact h1 v hv this.1.2 this.1.1
  unfold cGo sGo
  rw [ag true, ag false, Nat.zero_or, hst p hp]
  constructor
  · rintro ⟨h1, h2, h3, h4⟩; exact ⟨⟨h1, h3, h4⟩, h2⟩
  · rintro ⟨⟨h1, h3, h4⟩, h2⟩; exact ⟨h1, h2, h3, h4⟩
/-- the nights of a saying are known -/
def gN (M I : zI) (i c : Nat) : Prop := ∀ w, w < vN M → (iS M i w → I c w = nI (wd (fun p => nbF M (iS M i) w p 12) (vNp M))) ∧ (¬ iS M i w → I c w = -1)
theorem sp_X1_learn {I : zI} {i : Nat} (hP : zPk P) (hB : MB M) (h6 : vNp M ≤ 6) (hR : tR M I t st b cd) (hi : i ≤ vNs M) (hns : vNs M ≤ 6) (hd : 5 ≤ d) {K : zI → zL → zP → Prop}
    (kk : ∀ I', lFr (98 + i) I I' → gN M I' i (98 + i) → K I' L (zuP P 107 1 (some t))) : zMv zm_X1_learn d [.ref 96, .ref t, .int (nI i), .ref 23] I L P K := by
  obtain ⟨d, rfl⟩ : ∃ e, d = e + 1 := ⟨d - 1, by omega⟩
  obtain ⟨r1, r2, r3, r4, r5, r6, r7⟩ := hR
  have hil := r1.1
  have hil2 := hil
  unfold il at hil2
  have hN := vN_64 h6
  have hsc : sc 107 119 108 := Or.inr (Or.inr (Or.inl ⟨rfl, rfl, rfl⟩))
  have hP1 : zPk (zuP P 107 1 (some t)) := zPk_u (zst_s1 hsc) hP
  have h97 : ∀ i, i < 7 → zst 97 i = some (98 + i) ∧ (98 + i < 205 ∧ zsh (98 + i) = (100, 64)) := by decide +kernel
  obtain ⟨c1, c2⟩ := h97 i (by omega)
  have hci : 98 ≤ 98 + i ∧ 98 + i ≤ 104 := by omega
  -- the nights
  have nights : ∀ m n J g, n + m = 12 → lFr (98 + i) I J → lW (zuP P 107 1 (some t)) t M J (iS M i) g → gQ M (iS M i) n 0 g → lRo M J (iS M i) n 0 (98 + i) → J 107 4 = nI 0 → (∀ w, w < vN M → ¬ iS M i w → J (98 + i) w = -1) → gw_X1_learn (d + 1) (fun v I' L' P' nx' => nx' = 205 ∧ v = none ∧ K I' L' P') 97 [some (.ref 96), some (.ref t), none, some (.ref 23), some (.ref (98 + i)), some (.int (nI (n + 1))), none, none] [] J L (zuP P 107 1 (some t)) := by
    intro m
    induction m with
    | zero =>
      intro n J g hn hf hW hg hro h4 hno
      have : n = 12 := by omega
      subst this
      refine g_X1_learn_97 hP1 ⟨fun _ => qv (kk J hf (fun w hw => ⟨fun iw => ?_, fun iw => hno w hw iw⟩)), fun z => absurd (by decide) z⟩
      rw [(hro w hw iw).2]
      exact nIe (wd_c (fun p _ => if_neg (Nat.not_lt_zero p)))
    | succ m ih =>
      intro n J g hn hf hW hg hro h4 hno
      have hR1 : tR M J t st b cd := tR_c ⟨r1, r2, r3, r4, r5, r6, r7⟩ (fun a h1 h2 => hf a (by omega))
      have hW' := hW
      obtain ⟨w1, w2, w3, w4, w5, w6, w7⟩ := hW'
      refine g_X1_learn_97 hP1 ⟨fun z => absurd z (by rw [show (12 : Int32) = nI 12 from rfl]; exact nI_nlt (by omega) (by decide)), fun _ => ?_⟩
      refine sp_X4_findGoers hP1 w1 w2 w3 w4 w7 w5 w6 hR1.2.2.1 h4 (by decide) (by omega) (fun J1 f1 f2 => ?_)
      have hG := lGo_of hW hg r4 f2
      have key : ∀ k j J2 g2, j + k = vNp M → lFr (98 + i) I J2 → lW (zuP P 107 1 (some t)) t M J2 (iS M i) g2 → gQ M (iS M i) n j g2 → lGo M J2 (iS M i) n (fun w => bset (cGo (vN M) (lP (iS M i) (vN M)) g (vOwn M) (0 ||| st) w) (vNp M)) → lRo M J2 (iS M i) n j (98 + i) → J2 107 4 = nI 0 → (∀ w, w < vN M → ¬ iS M i w → J2 (98 + i) w = -1) → gw_X1_learn (d + 1) (fun v I' L' P' nx' => nx' = 205 ∧ v = none ∧ K I' L' P') 117 [some (.ref 96), some (.ref t), none, some (.ref 23), some (.ref (98 + i)), some (.int (nI (n + 1))), some (.ref 72), some (.int (nI j))] [] J2 L (zuP P 107 1 (some t)) := by
        intro k
        induction k with
        | zero =>
          intro j J2 g2 hj hf2 hW2 hg2 hG2 hro2 h42 hno2
          have : j = vNp M := by omega
          subst this
          refine g_X1_learn_117 hP1 ⟨(il_P hil hP1).1, fun _ => ?_, fun z => absurd (by rw [hW2.2.2.2.2.2.1.2.2]; exact nI_le (Nat.le_refl _) (by omega)) z⟩
          rw [nI_1]
          exact ih (n + 1) J2 g2 (by omega) hf2 hW2 (gQ_up hg2) (lRo_up hro2) h42 hno2
        | succ k ihk =>
          intro j J2 g2 hj hf2 hW2 hg2 hG2 hro2 h42 hno2
          refine g_X1_learn_117 hP1 ⟨(il_P hil hP1).1, fun z => absurd z (by rw [hW2.2.2.2.2.2.1.2.2]; exact nI_ge (by omega) (by omega)), fun _ => ?_⟩
          refine sp_X1_sendOne hP1 hB h6 (by omega) (by omega) hci hW2 hg2 hG2 hro2 (by omega) (fun J3 g3 y1 y2 y3 y4 y5 y6 => ?_)
          rw [nI_1]
          refine ihk (j + 1) J3 g3 (by omega) (lFr_tr hf2 (lFr_of y1 (fun a ha => by simp only [List.mem_cons, List.not_mem_nil, or_false] at ha; omega))) y3 y4 y5 y6 (by rw [y1 107 (by simp only [List.mem_cons, List.not_mem_nil, or_false]; omega)]; exact h42) (fun w hw iw => by rw [y2 w (fun z => iw z.2)]; exact hno2 w hw iw)
      have hW1 : lW (zuP P 107 1 (some t)) t M J1 (iS M i) g := ⟨w1, cS_c w2 (by rw [f1 107 (by simp)]) (f1 119 (by simp)), w3, w4, w5, iH_c w6 (f1 t (by simp only [List.mem_cons, List.not_mem_nil, or_false]; omega)), fun p hp => cG_c (w7 p hp) (f1 (108 + 2 + p) (by simp only [List.mem_cons, List.not_mem_nil, or_false]; omega))⟩
      refine key (vNp M) 0 J1 g (by omega) (lFr_tr hf (lFr_of f1 (by simp))) hW1 hg hG (fun w hw iw => ?_) (by rw [f1 107 (by simp)]; exact h4) (fun w hw iw => by rw [f1 (98 + i) (by simp only [List.mem_cons, List.not_mem_nil, or_false]; omega)]; exact hno w hw iw)
      rw [f1 105 (by simp), f1 (98 + i) (by simp only [List.mem_cons, List.not_mem_nil, or_false]; omega)]
      exact hro w hw iw
  -- zeros
  have zeros : ∀ J g, lFr (98 + i) I J → lW (zuP P 107 1 (some t)) t M J (iS M i) g → gQ M (iS M i) 0 0 g → (∀ w, w < 256 → J 105 w = 0) → J 107 4 = nI 0 → (∀ w, w < 64 → J (98 + i) w = -1) → gw_X1_learn (d + 1) (fun v I' L' P' nx' => nx' = 205 ∧ v = none ∧ K I' L' P') 62 [some (.ref 96), some (.ref t), none, some (.ref 23), some (.ref (98 + i)), some (.int 0), none, none] [] J L (zuP P 107 1 (some t)) := by
    intro J0 g hf hW hg h105 h4 hm1
    have hW' := hW
    obtain ⟨w1, w2, w3, w4, w5, w6, w7⟩ := hW'
    have key : ∀ ys zs J, lP (iS M i) (vN M) = zs ++ ys → cFr [98 + i] J0 J → (∀ w ∈ zs, J (98 + i) w = 0) → (∀ w, w ∉ zs → J (98 + i) w = J0 (98 + i) w) → gw_X1_learn (d + 1) (fun v I' L' P' nx' => nx' = 205 ∧ v = none ∧ K I' L' P') 62 [some (.ref 96), some (.ref t), none, some (.ref 23), some (.ref (98 + i)), some (.int (nI zs.length)), none, none] [] J L (zuP P 107 1 (some t)) := by
      intro ys
      induction ys with
      | nil =>
        intro zs J e hfJ h1 h2
        rw [List.append_nil] at e
        subst e
        have hS1 := cS_c w2 (show J 107 3 = J0 107 3 by rw [hfJ 107 (by simp only [List.mem_cons, List.not_mem_nil, or_false]; omega)]) (hfJ 119 (by simp only [List.mem_cons, List.not_mem_nil, or_false]; omega))
        refine g_X1_learn_62 hP1 ⟨fun _ => ?_, fun q => absurd (cS_end hS1) q⟩
        refine nights 12 0 J g rfl (lFr_tr hf (lFr_of hfJ (by simp))) ⟨w1, hS1, w3, w4, w5, iH_c w6 (hfJ t (by simp only [List.mem_cons, List.not_mem_nil, or_false]; omega)), fun p hp => cG_c (w7 p hp) (hfJ (108 + 2 + p) (by simp only [List.mem_cons, List.not_mem_nil, or_false]; omega))⟩ hg (fun w hw iw => ⟨?_, ?_⟩) (by rw [hfJ 107 (by simp only [List.mem_cons, List.not_mem_nil, or_false]; omega)]; exact h4) (fun w hw iw => ?_)
        · have e0 : gaI M (iS M i) 0 0 w = 0 := by
            unfold gaI
            show (0 : Nat) ||| 0 = 0
            rfl
          rw [hfJ 105 (by simp only [List.mem_cons, List.not_mem_nil, or_false]; omega), h105 w (by omega), e0]
          rfl
        · rw [h1 w (lP_mem.mpr ⟨hw, iw⟩)]
          have : wd (nbI M (iS M i) 0 0 w) (vNp M) = 0 := by
            have : ∀ n, wd (nbI M (iS M i) 0 0 w) n = 0 := by
              intro n
              induction n with
              | zero => rfl
              | succ n ih =>
                show 2 ^ (4 * n) * nbI M (iS M i) 0 0 w n + wd (nbI M (iS M i) 0 0 w) n = 0
                rw [ih]
                have : nbI M (iS M i) 0 0 w n = 0 := by
                  unfold nbI
                  rw [if_neg (Nat.not_lt_zero n)]
                  rfl
                rw [this, Nat.mul_zero]
            exact this _
          rw [this]; rfl
        · rw [h2 w (fun z => iw (lP_mem.mp z).2)]; exact hm1 w (by omega)
      | cons x ys ih =>
        intro zs J e hfJ h1 h2
        have hS1 := cS_c w2 (show J 107 3 = J0 107 3 by rw [hfJ 107 (by simp only [List.mem_cons, List.not_mem_nil, or_false]; omega)]) (hfJ 119 (by simp only [List.mem_cons, List.not_mem_nil, or_false]; omega))
        obtain ⟨a1, a2, a3, a4, a5, a6, a7, a8, a9⟩ := cS_on hS1 e
        have x1 := (lP_mem.mp a7).1
        refine g_X1_learn_62 hP1 ⟨fun q => absurd q a1, fun _ => ⟨a2, 64, c2, by rw [a3]; exact nx_in (by omega) (by decide), fun J1 e1 => ?_⟩⟩
        rw [a3, a5] at e1
        subst e1
        rw [a8]
        refine ih (zs ++ [x]) _ (by rw [e, List.append_assoc]; rfl) (cFr_c hfJ (by simp)) (fun w hw => ?_) (fun w hw => ?_)
        · by_cases hwx : w = x
          · rw [hwx, zuI_v]
          · rw [zuI_o hwx]; exact h1 w ((mem_snoc.mp hw).resolve_right hwx)
        · rw [zuI_o (fun z => hw (mem_snoc.mpr (Or.inr z)))]; exact h2 w (fun z => hw (mem_snoc.mpr (Or.inl z)))
    exact key (lP (iS M i) (vN M)) [] J0 rfl (cFr_rf _ _) (fun w hw => absurd hw (by simp)) (fun _ _ => rfl)
  refine g_X1_learn hP ⟨nx_in (by omega) (by decide), 98 + i, by rw [nI_cl (by omega)]; exact hP _ _ _ c1, sp_fill hP c2 (by decide) (fun I1 f1 f2 => ⟨hP, sp_fill hP (n := 256) ⟨by decide, rfl⟩ (by decide) (fun I2 f3 f4 => ⟨hP, ?_⟩)⟩)⟩
  have hR2 : tR M I2 t st b cd := tR_c ⟨r1, r2, r3, r4, r5, r6, r7⟩ (fun a h1 h2 => by rw [f3 a (by simp only [List.mem_cons, List.not_mem_nil, or_false]; omega), f1 a (by simp only [List.mem_cons, List.not_mem_nil, or_false]; omega)])
  refine sp_X6_open (sn := vSee M) hP hsc hR2.1 (fun p hp => hR2.2.2.2.2.1 p hp) (by omega) (fun I3 f5 f6 f7 f8 f9 f10 => ⟨(il_P hil hP).1, ?_⟩)
  have hR3 : tR M I3 t st b cd := tR_c hR2 (fun a h1 h2 => f5 a (by simp only [List.mem_cons, List.not_mem_nil, or_false]; omega))
  have hf3 : lFr (98 + i) I I3 := lFr_tr (lFr_of f1 (by simp)) (lFr_tr (lFr_of f3 (by simp)) (lFr_of f5 (fun a ha => by simp only [List.mem_cons, List.not_mem_nil, or_false] at ha; omega)))
  have haw : aw (vNp M) = lP (fun w => w < vN M) (vN M) := (lP_all (vN M) (fun w hw => hw)).symm
  rw [haw] at f6
  have sv : ∀ p, p < vNp M → vSee M p < 256 := fun p hp => Nat.lt_of_lt_of_le (Nat.mod_lt _ (vN_pos M)) (by omega)
  have hW3 : wH (zuP P 107 1 (some t)) 107 119 108 t (vNp M) (vN M) (lP (fun w => w < vN M) (vN M)) (fun p w => w &&& vSee M p) I3 := by
    refine ⟨hsc, f6, lP_nd _ _, fun w hw => (lP_mem.mp hw).1, zuP_v _ _ _ _, hR3.1, fun p hp w hw => ?_⟩
    have := (lP_mem.mp hw).1
    exact ⟨Nat.lt_of_le_of_lt Nat.and_le_right (sv p hp), f10 p w hp this⟩
  have e105 : ∀ J : zI, J 105 = I3 105 → ∀ w, w < 256 → J 105 w = 0 := fun J hJ w hw => by rw [hJ, f5 105 (by simp only [List.mem_cons, List.not_mem_nil, or_false]; omega)]; exact f4 w hw
  have ec : ∀ J : zI, J (98 + i) = I3 (98 + i) → ∀ w, w < 64 → J (98 + i) w = -1 := fun J hJ w hw => by rw [hJ, f5 (98 + i) (by simp only [List.mem_cons, List.not_mem_nil, or_false]; omega), f3 (98 + i) (by simp only [List.mem_cons, List.not_mem_nil, or_false]; omega)]; exact f2 w hw
  have hq0 : gQ M (iS M i) 0 0 (fun p w => w &&& vSee M p) := by
    intro p hp a b ha hb ia ib
    show b &&& vSee M p = a &&& vSee M p ↔ (((b ^^^ a) &&& vSee M p = 0 ∧ iS M i b) ∧ _)
    rw [and_x]
    exact ⟨fun z => ⟨⟨z, ib⟩, fun q hq => absurd hq (Nat.not_lt_zero q)⟩, fun z => z.1.1⟩
  have h4s := hR3.2.2.2.2.2.1.1
  refine ⟨fun q => ?_, fun q => ⟨hP1, ?_⟩⟩
  · have hi' : ¬ i < vNs M := by
      rw [h4s, nI_leI (by omega) (by omega)] at q
      omega
    have eiS : iS M i = fun _ => True := by unfold iS; rw [if_neg hi']; rfl
    have el : lP (fun w => w < vN M) (vN M) = lP (iS M i) (vN M) := lP_c (fun w hw => by rw [eiS]; exact ⟨fun _ => trivial, fun _ => hw⟩)
    rw [el] at hW3
    exact zeros I3 _ hf3 hW3 hq0 (e105 I3 rfl) f7 (ec I3 rfl)
  · have hi' : i < vNs M := by
      rw [h4s, nI_leI (by omega) (by omega)] at q
      omega
    refine sp_X4_weighSaying hP1 hW3 hR3.2.2.2.2.2.1 hi' f7 (by omega) (fun I4 g1 g2 => ⟨hP1, sp_X4_result hP1 ?_⟩)
    have hW4 := wH_w hW3 g1
    refine sp_X6_keepSo hP1 hsc ⟨by decide, by decide⟩ hW4.2.1 (fun I5 g3 g4 g5 => ?_)
    have hGd : eGd (vNp M) (cMp (cd i)) := (hR3.2.2.2.2.2.1.2.2.2.2 i hi').2.2.2.2.2.2
    have row : ∀ w, w < vN M → I4 25 w = fRw M (vSy M i) w := by
      intro w hw
      rw [g2 w (lP_mem.mpr ⟨hw, hw⟩), r7 i hi']
      unfold fRw
      refine eRun_ag (T := fun _ => True) (fun _ _ _ => trivial) (fun u hu => ⟨fun _ => hu, fun _ => lP_mem.mpr ⟨hu, hu⟩⟩) (fun p x y hp hx hy _ _ => ?_) r1.2.1 (vSy M i) 0 _ _ (by rw [← r7 i hi']; exact hGd.1) (fun _ _ _ _ _ => rfl) 0 w (by rw [← r7 i hi', hGd.2]; decide) hw trivial
      show y &&& vSee M p = x &&& vSee M p ↔ (x ^^^ y) &&& vSee M p = 0
      rw [and_x, Nat.xor_comm]
    have eiS : iS M i = fun w => ¬ fRw M (vSy M i) w = 0 := by unfold iS; rw [if_pos hi']; rfl
    have el : cK (fun w => ¬ I4 25 w = 0) (lP (fun w => w < vN M) (vN M)) = lP (iS M i) (vN M) := by
      rw [lP_K]
      refine lP_c (fun w hw => ?_)
      rw [eiS, row w hw]
      exact ⟨fun z => z.2, fun z => ⟨hw, z⟩⟩
    rw [el] at g5
    have g15 : ∀ a, ¬ (a = 23 ∨ (25 ≤ a ∧ a ≤ 71) ∨ a = 107 ∨ a = 119) → I5 a = I3 a := fun a ha => by rw [g3 a (by simp only [List.mem_cons, List.not_mem_nil, or_false]; omega), g1 a (by omega)]
    refine zeros I5 _ (lFr_tr hf3 (fun a ha => g15 a (by omega))) ⟨hsc, g5, lP_nd _ _, fun w hw => (lP_mem.mp hw).1, zuP_v _ _ _ _, iH_c hR3.1 (g15 t (by omega)), fun p hp w hw => ?_⟩ hq0 (e105 I5 (g15 105 (by omega))) ?_ (ec I5 (g15 (98 + i) (by omega)))
    · have := (lP_mem.mp hw).1
      rw [g15 (108 + 2 + p) (by omega)]
      exact ⟨Nat.lt_of_le_of_lt Nat.and_le_right (sv p hp), f10 p w hp this⟩
    · rw [g4 4 (by decide), g1 107 (by omega)]; exact f7
end LN
