/-! ===== the class: guesses, one is sent ===== -/
theorem bP_or2 {a b : Prop} : (bP a ||| bP b : Int32) = bP (a ∨ b) := by
  by_cases ha : a <;> by_cases hb : b
  · rw [bP_t ha, bP_t hb, bP_t (Or.inl ha)]; decide
  · rw [bP_t ha, bP_f hb, bP_t (Or.inl ha)]; decide
  · rw [bP_f ha, bP_t hb, bP_t (Or.inr hb)]; decide
  · rw [bP_f ha, bP_f hb, bP_f (fun z => z.elim ha hb)]; decide
/-- who is gone in w behind n nights, when i have been asked on the next -/
noncomputable def gaI (M : zI) (inn : Nat → Prop) (n i w : Nat) : Nat := (fNN M inn n).2 w ||| bset (fun q => (fGj M inn n w).testBit q = true) i
noncomputable def nbI (M : zI) (inn : Nat → Prop) (n i w p : Nat) : Nat := if p < i then nbF M inn w p (n + 1) else nbF M inn w p n
def gQ (M : zI) (inn : Nat → Prop) (n i : Nat) (g : Nat → Nat → Nat) : Prop := ∀ p, p < vNp M → ∀ a b, a < vN M → b < vN M → inn a → inn b → (g p b = g p a ↔ (fLk M p a b ∧ (fNN M inn n).1 b a) ∧ ∀ q, q < i → ((fGj M inn n b).testBit q = true ↔ (fGj M inn n a).testBit q = true))
/-- rows of gone and of nights -/
def lRo (M I : zI) (inn : Nat → Prop) (n i c : Nat) : Prop := ∀ w, w < vN M → inn w → I 105 w = nI (gaI M inn n i w) ∧ I c w = nI (wd (nbI M inn n i w) (vNp M))
theorem gaI_lt {M : zI} {inn : Nat → Prop} (hB : MB M) {n i w : Nat} (hi : i ≤ 8) : gaI M inn n i w < 256 := by
  have : ∀ n, (fNN M inn n).2 w < 256 := by
    intro n
    induction n with
    | zero => show 0 < 256; decide
    | succ n ih => exact or256 ih (fGe_lt hB _ _ _ _)
  exact or256 (this n) (Nat.lt_of_lt_of_le (bset_lt _ _) (pw8 hi))
theorem nbI_lt {M : zI} {inn : Nat → Prop} {n i w : Nat} (hn : n < 12) (p : Nat) : nbI M inn n i w p < 16 := by
  unfold nbI
  have := nbF_le (M := M) (inn := inn) w p (n + 1)
  have := nbF_le (M := M) (inn := inn) w p n
  split <;> omega
theorem nbI_step {M : zI} {inn : Nat → Prop} {n i w np : Nat} (hn : n < 12) (hi : i < np) (h6 : np ≤ 6) : (nI (wd (nbI M inn n i w) np) ||| ((bP ((fGj M inn n w).testBit i = true) * nI (n + 1)) <<< (((4 : Int32) * nI i) &&& 31) : Int32) : Int32) = nI (wd (nbI M inn n (i + 1) w) np) := by
  have e4 : ((4 : Int32) * nI i) = nI (4 * i) := by rw [show (4 : Int32) = nI 4 from rfl, pk_mul]
  have hle : 2 ^ (4 * i) ≤ 2 ^ 20 := p2m (by omega)
  by_cases h : (fGj M inn n w).testBit i = true
  · have hv : (n + 1) * 2 ^ (4 * i) ≤ 12 * 2 ^ 20 := Nat.mul_le_mul (by omega) hle
    rw [bP_t h, show (1 : Int32) = nI 1 from rfl, pk_mul, Nat.one_mul, e4, nx_shl (by omega) (by omega), nx_or, wd_up (nbI_lt hn) hi (by unfold nbI; rw [if_neg (by omega)]; exact nbF_go h) (by omega)]
    refine nIe (wd_c (fun p hp => ?_))
    show (if p = i then n + 1 else nbI M inn n i w p) = nbI M inn n (i + 1) w p
    unfold nbI
    by_cases e : p = i
    · subst e
      rw [if_pos rfl, if_pos (by omega)]
      unfold nbF
      rw [if_pos h]
    · rw [if_neg e]
      by_cases c : p < i
      · rw [if_pos c, if_pos (by omega)]
      · rw [if_neg c, if_neg (by omega)]
  · have z : ((bP ((fGj M inn n w).testBit i = true) * nI (n + 1)) <<< (((4 : Int32) * nI i) &&& 31) : Int32) = nI 0 := by
      rw [bP_f h, show (0 : Int32) = nI 0 from rfl, pk_mul, Nat.zero_mul, e4, nx_shl (by omega) (by omega), Nat.zero_mul]
    rw [z, nx_or, Nat.or_zero]
    refine nIe (wd_c (fun p hp => ?_))
    unfold nbI
    by_cases e : p = i
    · subst e
      rw [if_neg (by omega), if_pos (by omega)]
      show _ = if (fGj M inn n w).testBit p = true then n + 1 else nbF M inn w p n
      rw [if_neg h]
    · by_cases c : p < i
      · rw [if_pos c, if_pos (by omega)]
      · rw [if_neg c, if_neg (by omega)]
theorem gaI_step {M : zI} {inn : Nat → Prop} {n i w : Nat} (hi : i < 8) : (nI (gaI M inn n i w) ||| (bP ((fGj M inn n w).testBit i = true) <<< (nI i &&& 31) : Int32) : Int32) = nI (gaI M inn n (i + 1) w) := by
  have hle : 2 ^ i ≤ 2 ^ 8 := p2m (by omega)
  unfold gaI
  by_cases h : (fGj M inn n w).testBit i = true
  · rw [bP_t h, show (1 : Int32) = nI 1 from rfl, nx_shl (by omega) (by omega), Nat.one_mul, nx_or, bset_t (f := fun q => (fGj M inn n w).testBit q = true) h, Nat.or_assoc]
  · rw [bP_f h, show (0 : Int32) = nI 0 from rfl, nx_shl (by omega) (by omega), Nat.zero_mul, nx_or, Nat.or_zero, bset_f (f := fun q => (fGj M inn n w).testBit q = true) h]
theorem gaI_bit {M : zI} {inn : Nat → Prop} {n i w : Nat} : (gaI M inn n i w).testBit i = ((fNN M inn n).2 w).testBit i := by
  unfold gaI
  rw [Nat.testBit_or]
  have : (bset (fun q => (fGj M inn n w).testBit q = true) i).testBit i = false := Nat.testBit_lt_two_pow (bset_lt _ _)
  rw [this, Bool.or_false]
abbrev gw_X1_sendOne (d : Nat) (Q : zQt) (pc : Nat) (lv : zV) (st : List Value) (I : zI) (L : zL) (P : zP) : Prop := zW zm_X1_sendOne (zRm d 0 0) 0 0 Q pc lv st I L P 205 0 0
abbrev v_X1_sendOne_116 (d : Nat) (Q : zQt) (x5 : Int32) (x6 : Int32) (I : zI) (L : zL) (P : zP) : Prop :=
  ((¬ x5 = 1 →
    Q none I L P 205
  ) ∧ (x5 = 1 →
    ∃ b17 : Nat, P 107 1 = some b17 ∧
    (b17 < 205 ∧ (zsh b17).1 = 2) ∧
    (((I b17 0) ≤ x6 →
      Q none I L P 205
    ) ∧ (¬ (I b17 0) ≤ x6 →
      zMv zm_X10_split d [.ref 108, .int x6, .ref 106, .ref 107] I L P (fun I21 L22 P23 =>
        gw_X1_sendOne (d + 1) Q 116 [some (.ref 96), none, none, none, none, some (.int x5), some (.int (x6 + 1)), none] [] I21 L22 P23
      )
    ))
  ))
set_option maxRecDepth 20000 in
theorem g_X1_sendOne_116 {d : Nat} {Q : zQt} {x5 : Int32} {x6 : Int32} {I : zI} {L : zL} {P : zP} (hP : zPk P) (hv : v_X1_sendOne_116 d Q x5 x6 I L P) : gw_X1_sendOne (d + 1) Q 116 [some (.ref 96), none, none, none, none, some (.int x5), some (.int x6), none] [] I L P := by
  unfold v_X1_sendOne_116 at hv
  refine z_iload dX1_sendOne_116 rfl ?_
  refine z_iconst (v := 1) dX1_sendOne_118 (by decide) ?_
  refine z_icmp_ne (tgt := 163) dX1_sendOne_119 (by decide) (fun q16 => ?_) (fun q16 => ?_)
  · have hv := hv.1 q16
    exact z_return dX1_sendOne_163 rfl (Nat.le_refl _) (Nat.le_refl _) hv
  · have hv := hv.2 q16
    refine z_iload dX1_sendOne_122 rfl ?_
    refine z_aload_n dX1_sendOne_124 rfl ?_
    refine z_getP dX1_sendOne_125 zf_X1_44 zn_96 zo_96 (fun _ _ _ _ _ => rfl) (hP 96 1 107 zp_96_1) ?_
    obtain ⟨b17, h18, hv⟩ := hv
    refine z_getP dX1_sendOne_128 zf_X1_94 zn_107 zo_107 (fun _ _ _ _ _ => rfl) h18 ?_
    obtain ⟨h19, hv⟩ := hv
    refine z_getI dX1_sendOne_131 zf_X1_87 h19.1 h19.2 (fun _ _ _ _ _ => rfl) ?_
    refine z_icmp_ge (tgt := 163) dX1_sendOne_134 (by decide) (fun q20 => ?_) (fun q20 => ?_)
    · have hv := hv.1 q20
      exact z_return dX1_sendOne_163 rfl (Nat.le_refl _) (Nat.le_refl _) hv
    · have hv := hv.2 q20
      refine z_aload_n dX1_sendOne_137 rfl ?_
      refine z_getP dX1_sendOne_138 zf_X1_44 zn_96 zo_96 (fun _ _ _ _ _ => rfl) (hP 96 1 107 zp_96_1) ?_
      refine z_getP dX1_sendOne_141 zf_X1_98 zn_107 zo_107 (fun _ _ _ _ _ => rfl) (hP 107 0 108 zp_107_0) ?_
      refine z_iload dX1_sendOne_144 rfl ?_
      refine z_aload_n dX1_sendOne_146 rfl ?_
      refine z_getP dX1_sendOne_147 zf_X1_22 zn_96 zo_96 (fun _ _ _ _ _ => rfl) (hP 96 3 106 zp_96_3) ?_
      refine z_aload_n dX1_sendOne_150 rfl ?_
      refine z_getP dX1_sendOne_151 zf_X1_44 zn_96 zo_96 (fun _ _ _ _ _ => rfl) (hP 96 1 107 zp_96_1) ?_
      refine z_callV (As := [.int x6, .ref 106, .ref 107]) (st := []) dX1_sendOne_154 zl_X1_102 zv_X10_split (by decide) rfl zn_108 zo_108 rfl rfl (Nat.le_of_ble_eq_true rfl) ⟨Nat.le_refl _, Nat.le_refl _⟩ ⟨Nat.le_refl _, Nat.le_refl _⟩ hv (fun v1 I21 L22 P23 nx1 q24 => ?_)
      obtain ⟨rfl, rfl, hv⟩ := q24
      refine z_iinc (v2 := x6 + 1) (lv2 := [some (.ref 96), none, none, none, none, some (.int x5), some (.int (x6 + 1)), none]) dX1_sendOne_157 rfl (by rfl) (by decide) rfl rfl ?_
      refine z_goto (tgt := 116) dX1_sendOne_160 (by decide) ?_
      exact hv
abbrev v_X1_sendOne_6 (d : Nat) (Q : zQt) (p1 : Int32) (p2 : Nat) (p3 : Nat) (p4 : Int32) (x5 : Int32) (x6 : Int32) (I : zI) (L : zL) (P : zP) : Prop :=
  (((I 107 3) ≤ x6 →
    gw_X1_sendOne (d + 1) Q 116 [some (.ref 96), none, none, none, none, some (.int x5), some (.int 0), none] [] I L P
  ) ∧ (¬ (I 107 3) ≤ x6 →
    vp_in x6 256 ∧
    ∃ n4, (p2 < 205 ∧ zsh p2 = (100, n4)) ∧
    vp_in (I 119 x6.toNatClampNeg) n4 ∧
    vp_in (I 119 x6.toNatClampNeg) 256 ∧
    ∀ I8 : zI, I8 = zuI I 106 (I 119 x6.toNatClampNeg).toNatClampNeg ((((I p2 (I 119 x6.toNatClampNeg).toNatClampNeg) &&& ((I 105 (I 119 x6.toNatClampNeg).toNatClampNeg) ^^^ (-1) : Int32) : Int32) >>> (p1 &&& 31) : Int32) &&& 1 : Int32) →
    ∀ I10 : zI, I10 = zuI I8 105 (I 119 x6.toNatClampNeg).toNatClampNeg ((I8 105 (I 119 x6.toNatClampNeg).toNatClampNeg) ||| ((I8 106 (I 119 x6.toNatClampNeg).toNatClampNeg) <<< (p1 &&& 31) : Int32) : Int32) →
    ∃ n12, (p3 < 205 ∧ zsh p3 = (100, n12)) ∧
    vp_in (I 119 x6.toNatClampNeg) n12 ∧
    ∀ I15 : zI, I15 = zuI I10 p3 (I 119 x6.toNatClampNeg).toNatClampNeg ((I10 p3 (I 119 x6.toNatClampNeg).toNatClampNeg) ||| (((I10 106 (I 119 x6.toNatClampNeg).toNatClampNeg) * p4) <<< (((4 : Int32) * p1) &&& 31) : Int32) : Int32) →
    gw_X1_sendOne (d + 1) Q 6 [some (.ref 96), some (.int p1), some (.ref p2), some (.ref p3), some (.int p4), some (.int (x5 ||| (I8 106 (I 119 x6.toNatClampNeg).toNatClampNeg) : Int32)), some (.int (x6 + 1)), none] [] I15 L P
  ))
set_option maxRecDepth 20000 in
theorem g_X1_sendOne_6 {d : Nat} {Q : zQt} {p1 : Int32} {p2 : Nat} {p3 : Nat} {p4 : Int32} {x5 : Int32} {x6 : Int32} {I : zI} {L : zL} {P : zP} (hP : zPk P) (hv : v_X1_sendOne_6 d Q p1 p2 p3 p4 x5 x6 I L P) : gw_X1_sendOne (d + 1) Q 6 [some (.ref 96), some (.int p1), some (.ref p2), some (.ref p3), some (.int p4), some (.int x5), some (.int x6), none] [] I L P := by
  unfold v_X1_sendOne_6 at hv
  refine z_iload dX1_sendOne_6 rfl ?_
  refine z_aload_n dX1_sendOne_8 rfl ?_
  refine z_getP dX1_sendOne_9 zf_X1_44 zn_96 zo_96 (fun _ _ _ _ _ => rfl) (hP 96 1 107 zp_96_1) ?_
  refine z_getI dX1_sendOne_12 zf_X1_75 zn_107 zo_107 (fun _ _ _ _ _ => rfl) ?_
  refine z_icmp_ge (tgt := 113) dX1_sendOne_15 (by decide) (fun q1 => ?_) (fun q1 => ?_)
  · have hv := hv.1 q1
    refine z_iconst (v := 0) dX1_sendOne_113 (by decide) ?_
    refine z_istore (lv2 := [some (.ref 96), some (.int p1), some (.ref p2), some (.ref p3), some (.int p4), some (.int x5), some (.int 0), none]) dX1_sendOne_114 (by decide) rfl rfl ?_
    exact z_sub (by exact ⟨rfl, ⟨rfl, ⟨rfl, trivial⟩⟩⟩) hv
  · have hv := hv.2 q1
    refine z_aload_n dX1_sendOne_18 rfl ?_
    refine z_getP dX1_sendOne_19 zf_X1_44 zn_96 zo_96 (fun _ _ _ _ _ => rfl) (hP 96 1 107 zp_96_1) ?_
    refine z_getP dX1_sendOne_22 zf_X1_78 zn_107 zo_107 (fun _ _ _ _ _ => rfl) (hP 107 2 119 zp_107_2) ?_
    refine z_iload dX1_sendOne_25 rfl ?_
    obtain ⟨h2, hv⟩ := hv
    refine z_iaload dX1_sendOne_27 zn_119 zh_119 h2 ?_
    refine z_istore (lv2 := [some (.ref 96), some (.int p1), some (.ref p2), some (.ref p3), some (.int p4), some (.int x5), some (.int x6), some (.int (I 119 x6.toNatClampNeg))]) dX1_sendOne_28 (by decide) rfl rfl ?_
    refine z_aload_n dX1_sendOne_30 rfl ?_
    refine z_getP dX1_sendOne_31 zf_X1_22 zn_96 zo_96 (fun _ _ _ _ _ => rfl) (hP 96 3 106 zp_96_3) ?_
    refine z_iload dX1_sendOne_34 rfl ?_
    refine z_aload_n dX1_sendOne_36 rfl ?_
    refine z_iload dX1_sendOne_37 rfl ?_
    obtain ⟨n4, h3, hv⟩ := hv
    obtain ⟨h5, hv⟩ := hv
    refine z_iaload dX1_sendOne_39 h3.1 h3.2 h5 ?_
    refine z_aload_n dX1_sendOne_40 rfl ?_
    refine z_getP dX1_sendOne_41 zf_X1_18 zn_96 zo_96 (fun _ _ _ _ _ => rfl) (hP 96 2 105 zp_96_2) ?_
    refine z_iload dX1_sendOne_44 rfl ?_
    obtain ⟨h6, hv⟩ := hv
    refine z_iaload dX1_sendOne_46 zn_105 zh_105 h6 ?_
    refine z_iconst (v := (-1)) dX1_sendOne_47 (by decide) ?_
    refine z_ixor dX1_sendOne_48 ?_
    refine z_iand dX1_sendOne_49 ?_
    refine z_iload_n dX1_sendOne_50 rfl ?_
    refine z_ishr dX1_sendOne_51 ?_
    refine z_iconst (v := 1) dX1_sendOne_52 (by decide) ?_
    refine z_iand dX1_sendOne_53 ?_
    refine z_iastore dX1_sendOne_54 zn_106 zh_106 h6 (z_nmI (fun I8 e7 => ?_))
    have hv := hv I8 e7
    refine z_iload dX1_sendOne_55 rfl ?_
    refine z_aload_n dX1_sendOne_57 rfl ?_
    refine z_getP dX1_sendOne_58 zf_X1_22 zn_96 zo_96 (fun _ _ _ _ _ => rfl) (hP 96 3 106 zp_96_3) ?_
    refine z_iload dX1_sendOne_61 rfl ?_
    refine z_iaload dX1_sendOne_63 zn_106 zh_106 h6 ?_
    refine z_ior dX1_sendOne_64 ?_
    refine z_istore (lv2 := [some (.ref 96), some (.int p1), some (.ref p2), some (.ref p3), some (.int p4), some (.int (x5 ||| (I8 106 (I 119 x6.toNatClampNeg).toNatClampNeg) : Int32)), some (.int x6), some (.int (I 119 x6.toNatClampNeg))]) dX1_sendOne_65 (by decide) rfl rfl ?_
    refine z_aload_n dX1_sendOne_67 rfl ?_
    refine z_getP dX1_sendOne_68 zf_X1_18 zn_96 zo_96 (fun _ _ _ _ _ => rfl) (hP 96 2 105 zp_96_2) ?_
    refine z_iload dX1_sendOne_71 rfl ?_
    refine z_dup2 dX1_sendOne_73 rfl rfl ?_
    refine z_iaload dX1_sendOne_74 zn_105 zh_105 h6 ?_
    refine z_aload_n dX1_sendOne_75 rfl ?_
    refine z_getP dX1_sendOne_76 zf_X1_22 zn_96 zo_96 (fun _ _ _ _ _ => rfl) (hP 96 3 106 zp_96_3) ?_
    refine z_iload dX1_sendOne_79 rfl ?_
    refine z_iaload dX1_sendOne_81 zn_106 zh_106 h6 ?_
    refine z_iload_n dX1_sendOne_82 rfl ?_
    refine z_ishl dX1_sendOne_83 ?_
    refine z_ior dX1_sendOne_84 ?_
    refine z_iastore dX1_sendOne_85 zn_105 zh_105 h6 (z_nmI (fun I10 e9 => ?_))
    have hv := hv I10 e9
    refine z_aload_n dX1_sendOne_86 rfl ?_
    refine z_iload dX1_sendOne_87 rfl ?_
    refine z_dup2 dX1_sendOne_89 rfl rfl ?_
    obtain ⟨n12, h11, hv⟩ := hv
    obtain ⟨h13, hv⟩ := hv
    refine z_iaload dX1_sendOne_90 h11.1 h11.2 h13 ?_
    refine z_aload_n dX1_sendOne_91 rfl ?_
    refine z_getP dX1_sendOne_92 zf_X1_22 zn_96 zo_96 (fun _ _ _ _ _ => rfl) (hP 96 3 106 zp_96_3) ?_
    refine z_iload dX1_sendOne_95 rfl ?_
    refine z_iaload dX1_sendOne_97 zn_106 zh_106 h6 ?_
    refine z_iload dX1_sendOne_98 rfl ?_
    refine z_imul dX1_sendOne_100 ?_
    refine z_iconst (v := 4) dX1_sendOne_101 (by decide) ?_
    refine z_iload_n dX1_sendOne_102 rfl ?_
    refine z_imul dX1_sendOne_103 ?_
    refine z_ishl dX1_sendOne_104 ?_
    refine z_ior dX1_sendOne_105 ?_
    refine z_iastore dX1_sendOne_106 h11.1 h11.2 h13 (z_nmI (fun I15 e14 => ?_))
    have hv := hv I15 e14
    refine z_iinc (v2 := x6 + 1) (lv2 := [some (.ref 96), some (.int p1), some (.ref p2), some (.ref p3), some (.int p4), some (.int (x5 ||| (I8 106 (I 119 x6.toNatClampNeg).toNatClampNeg) : Int32)), some (.int (x6 + 1)), some (.int (I 119 x6.toNatClampNeg))]) dX1_sendOne_107 rfl (by rfl) (by decide) rfl rfl ?_
    refine z_goto (tgt := 6) dX1_sendOne_110 (by decide) ?_
    exact z_sub (by exact ⟨rfl, ⟨rfl, ⟨rfl, ⟨rfl, ⟨rfl, ⟨rfl, ⟨rfl, trivial⟩⟩⟩⟩⟩⟩⟩) hv
abbrev v_X1_sendOne (d : Nat) (Q : zQt) (p1 : Int32) (p2 : Nat) (p3 : Nat) (p4 : Int32) (I : zI) (L : zL) (P : zP) : Prop :=
  gw_X1_sendOne (d + 1) Q 6 [some (.ref 96), some (.int p1), some (.ref p2), some (.ref p3), some (.int p4), some (.int 0), some (.int 0), none] [] I L P
set_option maxRecDepth 20000 in
theorem g_X1_sendOne {d : Nat} {Q : zQt} {p1 : Int32} {p2 : Nat} {p3 : Nat} {p4 : Int32} {I : zI} {L : zL} {P : zP} (hP : zPk P) (hv : v_X1_sendOne d Q p1 p2 p3 p4 I L P) : zM zm_X1_sendOne (d + 1) 0 0 [.ref 96, .int p1, .ref p2, .ref p3, .int p4] I L P 205 Q := by
  unfold v_X1_sendOne at hv
  refine zM_of (lv0 := [some (.ref 96), some (.int p1), some (.ref p2), some (.ref p3), some (.int p4), none, none, none]) (by decide +kernel) (Nat.le_of_ble_eq_true rfl) rfl ?_
  refine z_iconst (v := 0) dX1_sendOne_0 (by decide) ?_
  refine z_istore (lv2 := [some (.ref 96), some (.int p1), some (.ref p2), some (.ref p3), some (.int p4), some (.int 0), none, none]) dX1_sendOne_1 (by decide) rfl rfl ?_
  refine z_iconst (v := 0) dX1_sendOne_3 (by decide) ?_
  refine z_istore (lv2 := [some (.ref 96), some (.int p1), some (.ref p2), some (.ref p3), some (.int p4), some (.int 0), some (.int 0), none]) dX1_sendOne_4 (by decide) rfl rfl ?_
  exact hv
section SO
variable {d : Nat} {Q : zQt} {M I0 : zI} {L : zL} {P : zP} {t np n i c : Nat} {inn : Nat → Prop} {G : Nat → Nat} {g : Nat → Nat → Nat}
/-- the first scene, as it is taught -/
def lW (P : zP) (t : Nat) (M I : zI) (inn : Nat → Prop) (g : Nat → Nat → Nat) : Prop := wH P 107 119 108 t (vNp M) (vN M) (lP inn (vN M)) g I
/-- who would go, if nobody were gone -/
def lGo (M I : zI) (inn : Nat → Prop) (n : Nat) (G : Nat → Nat) : Prop := ∀ w, w < vN M → inn w → I 72 w = nI (G w) ∧ G w < 256 ∧ ∀ p, p < vNp M → ((fGj M inn n w).testBit p = true ↔ (G w).testBit p = true ∧ ¬ ((fNN M inn n).2 w).testBit p = true)
theorem lp_X1_sendOne_116 (hP : zPk P) (h6 : vNp M ≤ 6) (hW : lW P t M I0 inn g) (hg : gQ M inn n i g) (hr : ∀ w, w < vN M → inn w → I0 106 w = bP ((fGj M inn n w).testBit i = true)) (hd : 1 ≤ d)
    (kk : ∀ I g', cFr (118 :: gcs 108) I0 I → lW P t M I inn g' → gQ M inn n (i + 1) g' → Q none I L P 205) {some1 : Prop} (hs : ∀ w, w < vN M → inn w → (fGj M inn n w).testBit i = true → some1) :
    ∀ m j I g', j + m = vNp M → cFr (118 :: gcs 108) I0 I → lW P t M I inn g' → (∀ p, p < vNp M → ∀ a b, a < vN M → b < vN M → inn a → inn b → (g' p b = g' p a ↔ g p b = g p a ∧ (p < j → ((fGj M inn n b).testBit i = true ↔ (fGj M inn n a).testBit i = true)))) →
      gw_X1_sendOne (d + 1) Q 116 [some (.ref 96), none, none, none, none, some (.int (bP some1)), some (.int (nI j)), none] [] I L P := by
  have fin : ∀ I g', cFr (118 :: gcs 108) I0 I → lW P t M I inn g' → (∀ p, p < vNp M → ∀ a b, a < vN M → b < vN M → inn a → inn b → (g' p b = g' p a ↔ g p b = g p a ∧ ((fGj M inn n b).testBit i = true ↔ (fGj M inn n a).testBit i = true))) → Q none I L P 205 := by
    intro I g' hf hw hgg
    refine kk I g' hf hw (fun p hp a b ha hb ia ib => ?_)
    rw [hgg p hp a b ha hb ia ib, hg p hp a b ha hb ia ib]
    constructor
    · rintro ⟨⟨h1, h2⟩, h3⟩
      refine ⟨h1, fun q hq => ?_⟩
      rcases Nat.lt_succ_iff_lt_or_eq.mp hq with z | z
      · exact h2 q z
      · subst z; exact h3
    · rintro ⟨h1, h2⟩
      exact ⟨⟨h1, fun q hq => h2 q (by omega)⟩, h2 i (by omega)⟩
  intro m
  induction m with
  | zero =>
    intro j I g' hj hf hw hgg
    have : j = vNp M := by omega
    subst this
    have hw' := hw
    obtain ⟨w1, w2, w3, w4, w5, w6, w7⟩ := hw'
    have b1 := (il_P w6.1 hP).1
    have fin' := fin I g' hf hw (fun p hp a b ha hb ia ib => by rw [hgg p hp a b ha hb ia ib]; exact ⟨fun z => ⟨z.1, z.2 hp⟩, fun z => ⟨z.1, fun _ => z.2⟩⟩)
    exact g_X1_sendOne_116 hP ⟨fun _ => fin', fun _ => ⟨t, w5, b1, fun _ => fin', fun z => absurd (by rw [w6.2.2]; exact nI_le (Nat.le_refl _) (by omega)) z⟩⟩
  | succ m ih =>
    intro j I g' hj hf hw hgg
    have hw' := hw
    obtain ⟨w1, w2, w3, w4, w5, w6, w7⟩ := hw'
    have b1 := (il_P w6.1 hP).1
    have hil := w6.1
    unfold il at hil
    refine g_X1_sendOne_116 hP ⟨fun z => ?_, fun _ => ⟨t, w5, b1, fun z => absurd z (by rw [w6.2.2]; exact nI_ge (by omega) (by omega)), fun _ => ?_⟩⟩
    · rw [bP_1] at z
      refine fin I g' hf hw (fun p hp a b ha hb ia ib => ?_)
      rw [hgg p hp a b ha hb ia ib]
      have no : ∀ w, w < vN M → inn w → ¬ (fGj M inn n w).testBit i = true := fun w h1 h2 h3 => z (hs w h1 h2 h3)
      exact ⟨fun y => ⟨y.1, ⟨fun x => absurd x (no b hb ib), fun x => absurd x (no a ha ia)⟩⟩, fun y => ⟨y.1, fun _ => y.2⟩⟩
    · refine sp_X10_split (r := 106) hP (sc_v w1) w1 (show j < 8 by omega) (Or.inr rfl) w2 w3 (w7 j (by omega)) hd (fun I1 gj f1 f2 f3 => ?_)
      rw [nI_1]
      have e106 : I 106 = I0 106 := hf 106 (by simp)
      rw [e106] at f3
      have hf1 : cFr (118 :: gcs 108) I0 I1 := cFr_tr hf (cFr_wk f1 (fun a ha => by simp only [List.mem_cons, List.not_mem_nil, or_false] at ha ⊢; omega))
      refine ih (j + 1) I1 (fun p => if p = j then gj else g' p) (by omega) hf1 ⟨w1, cS_c w2 (by rw [f1 107 (by simp only [List.mem_cons, List.not_mem_nil, or_false]; omega)]) (f1 119 (by simp only [List.mem_cons, List.not_mem_nil, or_false]; omega)), w3, w4, w5, iH_c w6 (f1 t (by simp only [List.mem_cons, List.not_mem_nil, or_false]; omega)), fun p hp => ?_⟩ (fun p hp a b ha hb ia ib => ?_)
      · by_cases e : p = j
        · subst e
          show cG 108 p I1 (lP inn (vN M)) (if p = p then gj else g' p)
          rw [if_pos rfl]; exact f2
        · show cG 108 p I1 (lP inn (vN M)) (if p = j then gj else g' p)
          rw [if_neg e]; exact cG_c (w7 p hp) (f1 (108 + 2 + p) (by simp only [List.mem_cons, List.not_mem_nil, or_false]; omega))
      · have hga := hgg p hp a b ha hb ia ib
        by_cases e : p = j
        · subst e
          show ((if p = p then gj else g' p) b = (if p = p then gj else g' p) a) ↔ _
          rw [if_pos rfl, f3 b (lP_mem.mpr ⟨hb, ib⟩) a (lP_mem.mpr ⟨ha, ia⟩), hga, hr b hb ib, hr a ha ia, bP_0, bP_0]
          constructor
          · rintro ⟨⟨h1, -⟩, h2⟩
            exact ⟨h1, fun _ => ⟨fun x => Classical.byContradiction (fun y => (h2.mpr y) x), fun x => Classical.byContradiction (fun y => (h2.mp y) x)⟩⟩
          · rintro ⟨h1, h2⟩
            have h2 := h2 (by omega)
            exact ⟨⟨h1, fun h => absurd h (by omega)⟩, ⟨fun x y => x (h2.mpr y), fun x y => x (h2.mp y)⟩⟩
        · show ((if p = j then gj else g' p) b = (if p = j then gj else g' p) a) ↔ _
          rw [if_neg e, hga]
          exact ⟨fun z => ⟨z.1, fun h => z.2 (by omega)⟩, fun z => ⟨z.1, fun h => z.2 (by omega)⟩⟩
theorem sp_X1_sendOne {I : zI} (hP : zPk P) (hB : MB M) (h6 : vNp M ≤ 6) (hn : n < 12) (hi : i < vNp M) (hc : 98 ≤ c ∧ c ≤ 104) (hW : lW P t M I inn g) (hg : gQ M inn n i g) (hG : lGo M I inn n G) (hro : lRo M I inn n i c) (hd : 2 ≤ d) {K : zI → zL → zP → Prop}
    (kk : ∀ I' g', cFr (105 :: 106 :: c :: 118 :: gcs 108) I I' → (∀ w, ¬ (w < vN M ∧ inn w) → I' c w = I c w) → lW P t M I' inn g' → gQ M inn n (i + 1) g' → lGo M I' inn n G → lRo M I' inn n (i + 1) c → K I' L P) : zMv zm_X1_sendOne d [.ref 96, .int (nI i), .ref 72, .ref c, .int (nI (n + 1))] I L P K := by
  obtain ⟨d, rfl⟩ : ∃ e, d = e + 1 := ⟨d - 1, by omega⟩
  have hW' := hW
  obtain ⟨w1, w2, w3, w4, w5, w6, w7⟩ := hW'
  have hN := vN_64 h6
  have hil := w6.1
  unfold il at hil
  have hcs : c < 205 ∧ zsh c = (100, 64) := by
    have : ∀ c, c < 105 → 98 ≤ c → c < 205 ∧ zsh c = (100, 64) := by decide +kernel
    exact this c (by omega) hc.1
  have key : ∀ ys zs J, lP inn (vN M) = zs ++ ys → cFr [105, 106, c] I J → (∀ w, w ∉ zs → J 105 w = I 105 w ∧ J c w = I c w) → (∀ w ∈ zs, J 106 w = bP ((fGj M inn n w).testBit i = true) ∧ J 105 w = nI (gaI M inn n (i + 1) w) ∧ J c w = nI (wd (nbI M inn n (i + 1) w) (vNp M))) →
      gw_X1_sendOne (d + 1) (fun v I' L' P' nx' => nx' = 205 ∧ v = none ∧ K I' L' P') 6 [some (.ref 96), some (.int (nI i)), some (.ref 72), some (.ref c), some (.int (nI (n + 1))), some (.int (bP (∃ w ∈ zs, (fGj M inn n w).testBit i = true))), some (.int (nI zs.length)), none] [] J L P := by
    intro ys
    induction ys with
    | nil =>
      intro zs J e hf h1 h2
      rw [List.append_nil] at e
      subst e
      have hS1 := cS_c w2 (show J 107 3 = I 107 3 by rw [hf 107 (by simp only [List.mem_cons, List.not_mem_nil, or_false]; omega)]) (hf 119 (by simp only [List.mem_cons, List.not_mem_nil, or_false]; omega))
      have hWJ : lW P t M J inn g := ⟨w1, hS1, w3, w4, w5, iH_c w6 (hf t (by simp only [List.mem_cons, List.not_mem_nil, or_false]; omega)), fun p hp => cG_c (w7 p hp) (hf (108 + 2 + p) (by simp only [List.mem_cons, List.not_mem_nil, or_false]; omega))⟩
      refine g_X1_sendOne_6 hP ⟨fun _ => ?_, fun q => absurd (cS_end hS1) q⟩
      refine lp_X1_sendOne_116 (I0 := J) hP h6 hWJ hg (fun w hw iw => (h2 w (lP_mem.mpr ⟨hw, iw⟩)).1) (by omega) (fun I' g' f1 f2 f3 => qv (kk I' g' ?_ ?_ f2 f3 ?_ ?_)) (some1 := ∃ w ∈ lP inn (vN M), (fGj M inn n w).testBit i = true) (fun w hw iw hb => ⟨w, lP_mem.mpr ⟨hw, iw⟩, hb⟩) (vNp M) 0 J g (by omega) (cFr_rf _ _) hWJ (fun p hp a b ha hb ia ib => ⟨fun z => ⟨z, fun h => absurd h (Nat.not_lt_zero _)⟩, fun z => z.1⟩)
      · exact cFr_tr (cFr_wk hf (by simp)) (cFr_wk f1 (fun a ha => by simp only [List.mem_cons, List.not_mem_nil, or_false] at ha ⊢; omega))
      · intro w hw
        rw [f1 c (by simp only [List.mem_cons, List.not_mem_nil, or_false]; omega)]
        exact (h1 w (fun z => hw (lP_mem.mp z))).2
      · intro w hw iw
        rw [f1 72 (by simp only [List.mem_cons, List.not_mem_nil, or_false]; omega), hf 72 (by simp only [List.mem_cons, List.not_mem_nil, or_false]; omega)]
        exact hG w hw iw
      · intro w hw iw
        rw [f1 105 (by simp only [List.mem_cons, List.not_mem_nil, or_false]; omega), f1 c (by simp only [List.mem_cons, List.not_mem_nil, or_false]; omega)]
        exact (h2 w (lP_mem.mpr ⟨hw, iw⟩)).2
    | cons x ys ih =>
      intro zs J e hf h1 h2
      have hS1 := cS_c w2 (show J 107 3 = I 107 3 by rw [hf 107 (by simp only [List.mem_cons, List.not_mem_nil, or_false]; omega)]) (hf 119 (by simp only [List.mem_cons, List.not_mem_nil, or_false]; omega))
      obtain ⟨a1, a2, a3, a4, a5, a6, a7, a8, a9⟩ := cS_on hS1 e
      have hx : x ∉ zs := by
        intro z
        rw [e, List.nodup_append] at w3
        exact w3.2.2 x z x (by simp) rfl
      obtain ⟨x1, x2⟩ := lP_mem.mp a7
      obtain ⟨g1, g2, g3⟩ := hG x x1 x2
      have r1 := hro x x1 x2
      have e72 : J 72 x = nI (G x) := by rw [hf 72 (by simp only [List.mem_cons, List.not_mem_nil, or_false]; omega)]; exact g1
      have e105 : J 105 x = nI (gaI M inn n i x) := by rw [(h1 x hx).1]; exact r1.1
      have ec : J c x = nI (wd (nbI M inn n i x) (vNp M)) := by rw [(h1 x hx).2]; exact r1.2
      refine g_X1_sendOne_6 hP ⟨fun q => absurd q a1, fun _ => ?_⟩
      rw [a3, a5]
      refine ⟨a2, 256, ⟨by decide, rfl⟩, a6, a6, fun J1 e1 J2 e2 => ⟨64, hcs, nx_in (by omega) (by decide), fun J3 e3 => ?_⟩⟩
      have went : ((((J 72 x) &&& ((J 105 x) ^^^ (-1) : Int32) : Int32) >>> (nI i &&& 31) : Int32) &&& 1 : Int32) = bP ((fGj M inn n x).testBit i = true) := by
        rw [e72, e105, andn_bit g2 (by omega), gaI_bit]
        exact bP_c (g3 i hi).symm
      rw [went] at e1
      have v106 : J1 106 x = bP ((fGj M inn n x).testBit i = true) := by rw [e1, zuI_v]
      have v105 : J1 105 x = nI (gaI M inn n i x) := by rw [e1, zuI_ne (by decide)]; exact e105
      rw [v106, v105, gaI_step (by omega)] at e2
      have u106 : J2 106 x = bP ((fGj M inn n x).testBit i = true) := by rw [e2, zuI_ne (by decide)]; exact v106
      have uc : J2 c x = nI (wd (nbI M inn n i x) (vNp M)) := by rw [e2, zuI_ne (by omega), e1, zuI_ne (by omega)]; exact ec
      rw [u106, uc, nbI_step hn hi h6] at e3
      rw [v106, bP_or2, a8, bP_c (show ((∃ w ∈ zs, (fGj M inn n w).testBit i = true) ∨ (fGj M inn n x).testBit i = true) ↔ (∃ w ∈ zs ++ [x], (fGj M inn n w).testBit i = true) from ⟨fun z => z.elim (fun ⟨w, y1, y2⟩ => ⟨w, mem_snoc.mpr (Or.inl y1), y2⟩) (fun y => ⟨x, mem_snoc.mpr (Or.inr rfl), y⟩), fun ⟨w, y1, y2⟩ => (mem_snoc.mp y1).elim (fun y => Or.inl ⟨w, y, y2⟩) (fun y => Or.inr (y ▸ y2))⟩)]
      subst e3
      subst e2
      subst e1
      refine ih (zs ++ [x]) _ (by rw [e, List.append_assoc]; rfl) (cFr_c (cFr_c (cFr_c hf (by simp)) (by simp)) (by simp)) (fun w hw => ?_) (fun w hw => ?_)
      · have hwx : w ≠ x := fun z => hw (mem_snoc.mpr (Or.inr z))
        have hwz : w ∉ zs := fun z => hw (mem_snoc.mpr (Or.inl z))
        refine ⟨?_, ?_⟩
        · rw [zuI_ne (by omega), zuI_o hwx, zuI_ne (by decide)]; exact (h1 w hwz).1
        · rw [zuI_o hwx, zuI_ne (by omega), zuI_ne (by omega)]; exact (h1 w hwz).2
      · by_cases hwx : w = x
        · subst hwx
          refine ⟨?_, ?_, zuI_v _ _ _ _⟩
          · rw [zuI_ne (by omega), zuI_ne (by decide), zuI_v]
          · rw [zuI_ne (by omega), zuI_v]
        · have hwz : w ∈ zs := (mem_snoc.mp hw).resolve_right hwx
          obtain ⟨y1, y2, y3⟩ := h2 w hwz
          refine ⟨?_, ?_, ?_⟩
          · rw [zuI_ne (by omega), zuI_ne (by decide), zuI_o hwx]; exact y1
          · rw [zuI_ne (by omega), zuI_o hwx, zuI_ne (by decide)]; exact y2
          · rw [zuI_o hwx, zuI_ne (by omega), zuI_ne (by omega)]; exact y3
  have := key (lP inn (vN M)) [] I rfl (cFr_rf _ _) (fun _ _ => ⟨rfl, rfl⟩) (fun w hw => absurd hw (by simp))
  rw [bP_f (show ¬ ∃ w ∈ ([] : List Nat), (fGj M inn n w).testBit i = true from fun ⟨w, h, _⟩ => by simp at h)] at this
  exact g_X1_sendOne hP this
end SO
