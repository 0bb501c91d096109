abbrev gw_X11_feed (d : Nat) (Q : zQt) (pc : Nat) (lv : zV) (st : List Value) (I : zI) (L : zL) (P : zP) : Prop := zW zm_X11_feed (zRm d 0 0) 0 0 Q pc lv st I L P 205 0 0
def v_X11_feed (d : Nat) (Q : zQt) (p1 : Int32) (p2 : Int32) (p3 : Int32) (p4 : Int32) (p5 : Int32) (I : zI) (L : zL) (P : zP) : Prop :=
  zMi zm_X8_take d [.ref 1, .int p1, .int p2, .int p3, .int p4, .int p5] I L P (fun r5 I1 L2 P3 =>
    Q (some (.int r5)) I1 L2 P3 205
  )
set_option maxRecDepth 20000 in
theorem g_X11_feed {d : Nat} {Q : zQt} {p1 : Int32} {p2 : Int32} {p3 : Int32} {p4 : Int32} {p5 : Int32} {I : zI} {L : zL} {P : zP} (hP : zPk P) (hv : v_X11_feed d Q p1 p2 p3 p4 p5 I L P) : zM zm_X11_feed (d + 1) 0 0 [.ref 0, .int p1, .int p2, .int p3, .int p4, .int p5] I L P 205 Q := by
  unfold v_X11_feed at hv
  refine zM_of (lv0 := [some (.ref 0), some (.int p1), some (.int p2), some (.int p3), some (.int p4), some (.int p5)]) (by decide +kernel) (Nat.le_of_ble_eq_true rfl) rfl ?_
  refine z_aload_n dX11_feed_0 rfl ?_
  refine z_getP dX11_feed_1 zf_X11_10 zn_0 zo_0 (fun _ _ _ _ _ => rfl) (hP 0 0 1 zp_0_0) ?_
  refine z_iload_n dX11_feed_4 rfl ?_
  refine z_iload_n dX11_feed_5 rfl ?_
  refine z_iload_n dX11_feed_6 rfl ?_
  refine z_iload dX11_feed_7 rfl ?_
  refine z_iload dX11_feed_9 rfl ?_
  refine z_callV (As := [.int p1, .int p2, .int p3, .int p4, .int p5]) (st := []) dX11_feed_11 zl_X11_99 zv_X8_take (by decide) rfl zn_1 zo_1 rfl rfl (Nat.le_of_ble_eq_true rfl) ⟨Nat.le_refl _, Nat.le_refl _⟩ ⟨Nat.le_refl _, Nat.le_refl _⟩ hv (fun v1 I1 L2 P3 nx1 q4 => ?_)
  obtain ⟨rfl, r5, rfl, hv⟩ := q4
  exact z_ireturn dX11_feed_14 rfl rfl (Nat.le_refl _) (Nat.le_refl _) hv
abbrev gw_X11_end (d : Nat) (Q : zQt) (pc : Nat) (lv : zV) (st : List Value) (I : zI) (L : zL) (P : zP) : Prop := zW zm_X11_end (zRm d 0 0) 0 0 Q pc lv st I L P 205 0 0
def v_X11_end (d : Nat) (Q : zQt) (p1 : Int32) (I : zI) (L : zL) (P : zP) : Prop :=
  ((p1 < 0 →
    Q (some (.int (-1))) I L P 205
  ) ∧ (¬ p1 < 0 →
    ((p1 ≤ (I 1 1) →
      ∀ I1 : zI, I1 = zuI I 1 1 p1 →
      Q (some (.int p1)) I1 L P 205
    ) ∧ (¬ p1 ≤ (I 1 1) →
      Q (some (.int (-1))) I L P 205
    ))
  ))
set_option maxRecDepth 20000 in
theorem g_X11_end {d : Nat} {Q : zQt} {p1 : Int32} {I : zI} {L : zL} {P : zP} (hP : zPk P) (hv : v_X11_end d Q p1 I L P) : zM zm_X11_end d 0 0 [.ref 0, .int p1] I L P 205 Q := by
  unfold v_X11_end at hv
  refine zM_of (lv0 := [some (.ref 0), some (.int p1)]) (by decide +kernel) (Nat.le_of_ble_eq_true rfl) rfl ?_
  refine z_iload_n dX11_end_0 rfl ?_
  refine z_if_lt (tgt := 15) dX11_end_1 (by decide) (fun q4 => ?_) (fun q4 => ?_)
  · have hv := hv.1 q4
    refine z_iconst (v := (-1)) dX11_end_15 (by decide) ?_
    exact z_ireturn dX11_end_16 rfl rfl (Nat.le_refl _) (Nat.le_refl _) hv
  · have hv := hv.2 q4
    refine z_iload_n dX11_end_4 rfl ?_
    refine z_aload_n dX11_end_5 rfl ?_
    refine z_getP dX11_end_6 zf_X11_10 zn_0 zo_0 (fun _ _ _ _ _ => rfl) (hP 0 0 1 zp_0_0) ?_
    refine z_getI dX11_end_9 zf_X11_103 zn_1 zo_1 (fun _ _ _ _ _ => rfl) ?_
    refine z_icmp_le (tgt := 17) dX11_end_12 (by decide) (fun q3 => ?_) (fun q3 => ?_)
    · have hv := hv.1 q3
      refine z_aload_n dX11_end_17 rfl ?_
      refine z_getP dX11_end_18 zf_X11_10 zn_0 zo_0 (fun _ _ _ _ _ => rfl) (hP 0 0 1 zp_0_0) ?_
      refine z_iload_n dX11_end_21 rfl ?_
      refine z_putI dX11_end_22 zf_X11_103 zn_1 zo_1 (Or.inl rfl) (fun _ _ _ _ _ => rfl) rfl rfl (z_nmI (fun I1 e2 => ?_))
      have hv := hv I1 e2
      refine z_iload_n dX11_end_25 rfl ?_
      exact z_ireturn dX11_end_26 rfl rfl (Nat.le_refl _) (Nat.le_refl _) hv
    · have hv := hv.2 q3
      refine z_iconst (v := (-1)) dX11_end_15 (by decide) ?_
      exact z_ireturn dX11_end_16 rfl rfl (Nat.le_refl _) (Nat.le_refl _) hv
abbrev gw_X11_island (d : Nat) (Q : zQt) (pc : Nat) (lv : zV) (st : List Value) (I : zI) (L : zL) (P : zP) : Prop := zW zm_X11_island (zRm d 0 0) 0 0 Q pc lv st I L P 205 0 0
def v_X11_island_57 (d : Nat) (Q : zQt) (x3 : Int32) (I : zI) (L : zL) (P : zP) : Prop :=
  ((3 ≤ x3 →
    ∀ I28 : zI, I28 = zuI I 90 5 0 →
    ∀ I30 : zI, I30 = zuI I28 96 4 0 →
    ∃ b32 : Nat, P 0 2 = some b32 ∧
    (b32 < 205 ∧ (zsh b32).1 = 2) ∧
    Q (some (.int (I30 b32 0))) I30 L P 205
  ) ∧ (¬ 3 ≤ x3 →
    vp_in x3 3 ∧
    ∀ I37 : zI, I37 = zuI I 89 x3.toNatClampNeg 0 →
    gw_X11_island (d + 1) Q 57 [some (.ref 0), none, none, some (.int (x3 + 1))] [] I37 L P
  ))
set_option maxRecDepth 20000 in
theorem g_X11_island_57 {d : Nat} {Q : zQt} {x3 : Int32} {I : zI} {L : zL} {P : zP} (hP : zPk P) (hv : v_X11_island_57 d Q x3 I L P) : gw_X11_island (d + 1) Q 57 [some (.ref 0), none, none, some (.int x3)] [] I L P := by
  unfold v_X11_island_57 at hv
  refine z_iload_n dX11_island_57 rfl ?_
  refine z_iconst (v := 3) dX11_island_58 (by decide) ?_
  refine z_icmp_ge (tgt := 75) dX11_island_59 (by decide) (fun q38 => ?_) (fun q38 => ?_)
  · have hv := hv.1 q38
    refine z_aload_n dX11_island_75 rfl ?_
    refine z_getP dX11_island_76 zf_X11_79 zn_0 zo_0 (fun _ _ _ _ _ => rfl) (hP 0 10 90 zp_0_10) ?_
    refine z_iconst (v := 0) dX11_island_79 (by decide) ?_
    refine z_putI dX11_island_80 zf_X11_111 zn_90 zo_90 (Or.inl rfl) (fun _ _ _ _ _ => rfl) rfl rfl (z_nmI (fun I28 e29 => ?_))
    have hv := hv I28 e29
    refine z_aload_n dX11_island_83 rfl ?_
    refine z_getP dX11_island_84 zf_X11_88 zn_0 zo_0 (fun _ _ _ _ _ => rfl) (hP 0 11 96 zp_0_11) ?_
    refine z_iconst (v := 0) dX11_island_87 (by decide) ?_
    refine z_putI dX11_island_88 zf_X11_114 zn_96 zo_96 (Or.inl rfl) (fun _ _ _ _ _ => rfl) (by decide) (by decide) (z_nmI (fun I30 e31 => ?_))
    have hv := hv I30 e31
    refine z_aload_n dX11_island_91 rfl ?_
    obtain ⟨b32, h33, hv⟩ := hv
    refine z_getP dX11_island_92 zf_X11_26 zn_0 zo_0 (fun _ _ _ _ _ => rfl) h33 ?_
    obtain ⟨h34, hv⟩ := hv
    refine z_getI dX11_island_95 zf_X11_118 h34.1 h34.2 (fun _ _ _ _ _ => rfl) ?_
    exact z_ireturn dX11_island_98 rfl rfl (Nat.le_refl _) (Nat.le_refl _) hv
  · have hv := hv.2 q38
    refine z_aload_n dX11_island_62 rfl ?_
    refine z_getP dX11_island_63 zf_X11_72 zn_0 zo_0 (fun _ _ _ _ _ => rfl) (hP 0 9 89 zp_0_9) ?_
    refine z_iload_n dX11_island_66 rfl ?_
    refine z_iconst (v := 0) dX11_island_67 (by decide) ?_
    obtain ⟨h35, hv⟩ := hv
    refine z_zastore (w := 0) dX11_island_68 zn_89 zh_89 h35 (by decide) (z_nmI (fun I37 e36 => ?_))
    have hv := hv I37 e36
    refine z_iinc (v2 := x3 + 1) (lv2 := [some (.ref 0), none, none, some (.int (x3 + 1))]) dX11_island_69 rfl (by rfl) (by decide) rfl rfl ?_
    refine z_goto (tgt := 57) dX11_island_72 (by decide) ?_
    exact hv
def v_X11_island (d : Nat) (Q : zQt)  (I : zI) (L : zL) (P : zP) : Prop :=
  ∃ b1 : Nat, P 0 3 = some b1 ∧
  zMi zm_X5_readIsland d [.ref 17, .ref b1] I L P (fun r7 I3 L4 P5 =>
    zPk P5 ∧
    ∀ I9 : zI, I9 = zuI I3 1 1 0 →
    ((¬ r7 = 0 →
      ∃ b11 : Nat, P5 0 2 = some b11 ∧
      ∃ b13 : Nat, P5 0 3 = some b13 ∧
      ∀ P15 : zP, P15 = zuP P5 0 2 (some b13) →
      ∀ P17 : zP, P17 = zuP P15 0 3 (some b11) →
      zPk P17 ∧
      ∃ b20 : Nat, P17 0 2 = some b20 ∧
      zMv zm_X6_open d [.ref 73, .ref b20] I9 L4 P17 (fun I22 L23 P24 =>
        gw_X11_island (d + 1) Q 57 [some (.ref 0), none, none, some (.int 0)] [] I22 L23 P24
      )
    ) ∧ (r7 = 0 →
      Q (some (.int (-1))) I9 L4 P5 205
    ))
  )
set_option maxRecDepth 20000 in
theorem g_X11_island {d : Nat} {Q : zQt}  {I : zI} {L : zL} {P : zP} (hP : zPk P) (hv : v_X11_island d Q  I L P) : zM zm_X11_island (d + 1) 0 0 [.ref 0] I L P 205 Q := by
  unfold v_X11_island at hv
  refine zM_of (lv0 := [some (.ref 0), none, none, none]) (by decide +kernel) (Nat.le_of_ble_eq_true rfl) rfl ?_
  refine z_aload_n dX11_island_0 rfl ?_
  refine z_getP dX11_island_1 zf_X11_38 zn_0 zo_0 (fun _ _ _ _ _ => rfl) (hP 0 4 17 zp_0_4) ?_
  refine z_aload_n dX11_island_4 rfl ?_
  obtain ⟨b1, h2, hv⟩ := hv
  refine z_getP dX11_island_5 zf_X11_30 zn_0 zo_0 (fun _ _ _ _ _ => rfl) h2 ?_
  refine z_callV (As := [.ref b1]) (st := []) dX11_island_8 zl_X11_107 zv_X5_readIsland (by decide) rfl zn_17 zo_17 rfl rfl (Nat.le_of_ble_eq_true rfl) ⟨Nat.le_refl _, Nat.le_refl _⟩ ⟨Nat.le_refl _, Nat.le_refl _⟩ hv (fun v1 I3 L4 P5 nx1 q6 => ?_)
  obtain ⟨rfl, r7, rfl, hv⟩ := q6
  refine z_istore_n (lv2 := [some (.ref 0), some (.int r7), none, none]) dX11_island_11 (by decide) rfl rfl ?_
  refine z_aload_n dX11_island_12 rfl ?_
  obtain ⟨h8, hv⟩ := hv
  refine z_getP dX11_island_13 zf_X11_10 zn_0 zo_0 (fun _ _ _ _ _ => rfl) (h8 0 0 1 zp_0_0) ?_
  refine z_iconst (v := 0) dX11_island_16 (by decide) ?_
  refine z_putI dX11_island_17 zf_X11_103 zn_1 zo_1 (Or.inl rfl) (fun _ _ _ _ _ => rfl) rfl rfl (z_nmI (fun I9 e10 => ?_))
  have hv := hv I9 e10
  refine z_iload_n dX11_island_20 rfl ?_
  refine z_if_ne (tgt := 26) dX11_island_21 (by decide) (fun q27 => ?_) (fun q27 => ?_)
  · have hv := hv.1 q27
    refine z_aload_n dX11_island_26 rfl ?_
    obtain ⟨b11, h12, hv⟩ := hv
    refine z_getP dX11_island_27 zf_X11_26 zn_0 zo_0 (fun _ _ _ _ _ => rfl) h12 ?_
    refine z_astore_n (lv2 := [some (.ref 0), some (.int r7), some (.ref b11), none]) dX11_island_30 (by decide) rfl rfl ?_
    refine z_aload_n dX11_island_31 rfl ?_
    refine z_aload_n dX11_island_32 rfl ?_
    obtain ⟨b13, h14, hv⟩ := hv
    refine z_getP dX11_island_33 zf_X11_30 zn_0 zo_0 (fun _ _ _ _ _ => rfl) h14 ?_
    refine z_putP dX11_island_36 zf_X11_26 zn_0 zo_0 (Or.inl rfl) (fun _ _ _ _ _ => rfl) (fun _ => rfl) (fun _ => rfl) (z_nmP (fun P15 e16 => ?_))
    have hv := hv P15 e16
    refine z_aload_n dX11_island_39 rfl ?_
    refine z_aload_n dX11_island_40 rfl ?_
    refine z_putP dX11_island_41 zf_X11_30 zn_0 zo_0 (Or.inl rfl) (fun _ _ _ _ _ => rfl) (fun _ => rfl) (fun _ => rfl) (z_nmP (fun P17 e18 => ?_))
    have hv := hv P17 e18
    refine z_aload_n dX11_island_44 rfl ?_
    obtain ⟨h19, hv⟩ := hv
    refine z_getP dX11_island_45 zf_X11_57 zn_0 zo_0 (fun _ _ _ _ _ => rfl) (h19 0 6 73 zp_0_6) ?_
    refine z_aload_n dX11_island_48 rfl ?_
    obtain ⟨b20, h21, hv⟩ := hv
    refine z_getP dX11_island_49 zf_X11_26 zn_0 zo_0 (fun _ _ _ _ _ => rfl) h21 ?_
    refine z_callV (As := [.ref b20]) (st := []) dX11_island_52 zl_X11_96 zv_X6_open (by decide) rfl zn_73 zo_73 rfl rfl (Nat.le_of_ble_eq_true rfl) ⟨Nat.le_refl _, Nat.le_refl _⟩ ⟨Nat.le_refl _, Nat.le_refl _⟩ hv (fun v1 I22 L23 P24 nx1 q25 => ?_)
    obtain ⟨rfl, rfl, hv⟩ := q25
    refine z_iconst (v := 0) dX11_island_55 (by decide) ?_
    refine z_istore_n (lv2 := [some (.ref 0), some (.int r7), some (.ref b11), some (.int 0)]) dX11_island_56 (by decide) rfl rfl ?_
    exact z_sub (by exact ⟨rfl, ⟨rfl, trivial⟩⟩) hv
  · have hv := hv.2 q27
    refine z_iconst (v := (-1)) dX11_island_24 (by decide) ?_
    exact z_ireturn dX11_island_25 rfl rfl (Nat.le_refl _) (Nat.le_refl _) hv
abbrev gw_X11_fault (d : Nat) (Q : zQt) (pc : Nat) (lv : zV) (st : List Value) (I : zI) (L : zL) (P : zP) : Prop := zW zm_X11_fault (zRm d 0 0) 0 0 Q pc lv st I L P 205 0 0
def v_X11_fault (d : Nat) (Q : zQt) (p1 : Int32) (I : zI) (L : zL) (P : zP) : Prop :=
  ((¬ p1 = 0 →
    ((¬ p1 = 1 →
      Q (some (.int (-1))) I L P 205
    ) ∧ (p1 = 1 →
      Q (some (.int (I 17 1))) I L P 205
    ))
  ) ∧ (p1 = 0 →
    Q (some (.int (I 17 0))) I L P 205
  ))
set_option maxRecDepth 20000 in
theorem g_X11_fault {d : Nat} {Q : zQt} {p1 : Int32} {I : zI} {L : zL} {P : zP} (hP : zPk P) (hv : v_X11_fault d Q p1 I L P) : zM zm_X11_fault d 0 0 [.ref 0, .int p1] I L P 205 Q := by
  unfold v_X11_fault at hv
  refine zM_of (lv0 := [some (.ref 0), some (.int p1)]) (by decide +kernel) (Nat.le_of_ble_eq_true rfl) rfl ?_
  refine z_iload_n dX11_fault_0 rfl ?_
  refine z_if_ne (tgt := 12) dX11_fault_1 (by decide) (fun q2 => ?_) (fun q2 => ?_)
  · have hv := hv.1 q2
    refine z_iload_n dX11_fault_12 rfl ?_
    refine z_iconst (v := 1) dX11_fault_13 (by decide) ?_
    refine z_icmp_ne (tgt := 27) dX11_fault_14 (by decide) (fun q1 => ?_) (fun q1 => ?_)
    · have hv := hv.1 q1
      refine z_iconst (v := (-1)) dX11_fault_27 (by decide) ?_
      exact z_ireturn dX11_fault_28 rfl rfl (Nat.le_refl _) (Nat.le_refl _) hv
    · have hv := hv.2 q1
      refine z_aload_n dX11_fault_17 rfl ?_
      refine z_getP dX11_fault_18 zf_X11_38 zn_0 zo_0 (fun _ _ _ _ _ => rfl) (hP 0 4 17 zp_0_4) ?_
      refine z_getI dX11_fault_21 zf_X11_124 zn_17 zo_17 (fun _ _ _ _ _ => rfl) ?_
      refine z_goto (tgt := 28) dX11_fault_24 (by decide) ?_
      exact z_ireturn dX11_fault_28 rfl rfl (Nat.le_refl _) (Nat.le_refl _) hv
  · have hv := hv.2 q2
    refine z_aload_n dX11_fault_4 rfl ?_
    refine z_getP dX11_fault_5 zf_X11_38 zn_0 zo_0 (fun _ _ _ _ _ => rfl) (hP 0 4 17 zp_0_4) ?_
    refine z_getI dX11_fault_8 zf_X11_121 zn_17 zo_17 (fun _ _ _ _ _ => rfl) ?_
    exact z_ireturn dX11_fault_11 rfl rfl (Nat.le_refl _) (Nat.le_refl _) hv
abbrev gw_X11_sees (d : Nat) (Q : zQt) (pc : Nat) (lv : zV) (st : List Value) (I : zI) (L : zL) (P : zP) : Prop := zW zm_X11_sees (zRm d 0 0) 0 0 Q pc lv st I L P 205 0 0
def v_X11_sees (d : Nat) (Q : zQt) (p1 : Int32) (I : zI) (L : zL) (P : zP) : Prop :=
  ∃ b1 : Nat, P 0 2 = some b1 ∧
  (b1 < 205 ∧ (zsh b1).1 = 2) ∧
  zMi zm_X2_isPerson d [.ref b1, .int p1] I L P (fun r8 I4 L5 P6 =>
    ((r8 = 0 →
      Q (some (.int (-1))) I4 L5 P6 205
    ) ∧ (¬ r8 = 0 →
      ∃ b9 : Nat, P6 0 2 = some b9 ∧
      (b9 < 205 ∧ (zsh b9).1 = 2) ∧
      ∃ b12 : Nat, P6 b9 9 = some b12 ∧
      ∃ n15, (b12 < 205 ∧ zsh b12 = (100, n15)) ∧
      vp_in p1 n15 ∧
      Q (some (.int (I4 b12 p1.toNatClampNeg))) I4 L5 P6 205
    ))
  )
set_option maxRecDepth 20000 in
theorem g_X11_sees {d : Nat} {Q : zQt} {p1 : Int32} {I : zI} {L : zL} {P : zP} (hP : zPk P) (hv : v_X11_sees d Q p1 I L P) : zM zm_X11_sees (d + 1) 0 0 [.ref 0, .int p1] I L P 205 Q := by
  unfold v_X11_sees at hv
  refine zM_of (lv0 := [some (.ref 0), some (.int p1)]) (by decide +kernel) (Nat.le_of_ble_eq_true rfl) rfl ?_
  refine z_aload_n dX11_sees_0 rfl ?_
  obtain ⟨b1, h2, hv⟩ := hv
  refine z_getP dX11_sees_1 zf_X11_26 zn_0 zo_0 (fun _ _ _ _ _ => rfl) h2 ?_
  refine z_iload_n dX11_sees_4 rfl ?_
  obtain ⟨h3, hv⟩ := hv
  refine z_callV (As := [.int p1]) (st := []) dX11_sees_5 zl_X11_127 zv_X2_isPerson (by decide) rfl h3.1 h3.2 rfl rfl (Nat.le_of_ble_eq_true rfl) ⟨Nat.le_refl _, Nat.le_refl _⟩ ⟨Nat.le_refl _, Nat.le_refl _⟩ hv (fun v1 I4 L5 P6 nx1 q7 => ?_)
  obtain ⟨rfl, r8, rfl, hv⟩ := q7
  refine z_if_eq (tgt := 23) dX11_sees_8 (by decide) (fun q17 => ?_) (fun q17 => ?_)
  · have hv := hv.1 q17
    refine z_iconst (v := (-1)) dX11_sees_23 (by decide) ?_
    exact z_ireturn dX11_sees_24 rfl rfl (Nat.le_refl _) (Nat.le_refl _) hv
  · have hv := hv.2 q17
    refine z_aload_n dX11_sees_11 rfl ?_
    obtain ⟨b9, h10, hv⟩ := hv
    refine z_getP dX11_sees_12 zf_X11_26 zn_0 zo_0 (fun _ _ _ _ _ => rfl) h10 ?_
    obtain ⟨h11, hv⟩ := hv
    obtain ⟨b12, h13, hv⟩ := hv
    refine z_getP dX11_sees_15 zf_X11_131 h11.1 h11.2 (fun _ _ _ _ _ => rfl) h13 ?_
    refine z_iload_n dX11_sees_18 rfl ?_
    obtain ⟨n15, h14, hv⟩ := hv
    obtain ⟨h16, hv⟩ := hv
    refine z_iaload dX11_sees_19 h14.1 h14.2 h16 ?_
    refine z_goto (tgt := 24) dX11_sees_20 (by decide) ?_
    exact z_ireturn dX11_sees_24 rfl rfl (Nat.le_refl _) (Nat.le_refl _) hv
abbrev gw_X11_worlds (d : Nat) (Q : zQt) (pc : Nat) (lv : zV) (st : List Value) (I : zI) (L : zL) (P : zP) : Prop := zW zm_X11_worlds (zRm d 0 0) 0 0 Q pc lv st I L P 205 0 0
def v_X11_worlds (d : Nat) (Q : zQt)  (I : zI) (L : zL) (P : zP) : Prop :=
  Q (some (.int (I 73 3))) I L P 205
set_option maxRecDepth 20000 in
theorem g_X11_worlds {d : Nat} {Q : zQt}  {I : zI} {L : zL} {P : zP} (hP : zPk P) (hv : v_X11_worlds d Q  I L P) : zM zm_X11_worlds d 0 0 [.ref 0] I L P 205 Q := by
  unfold v_X11_worlds at hv
  refine zM_of (lv0 := [some (.ref 0)]) (by decide +kernel) (Nat.le_of_ble_eq_true rfl) rfl ?_
  refine z_aload_n dX11_worlds_0 rfl ?_
  refine z_getP dX11_worlds_1 zf_X11_57 zn_0 zo_0 (fun _ _ _ _ _ => rfl) (hP 0 6 73 zp_0_6) ?_
  refine z_getI dX11_worlds_4 zf_X11_135 zn_73 zo_73 (fun _ _ _ _ _ => rfl) ?_
  exact z_ireturn dX11_worlds_7 rfl rfl (Nat.le_refl _) (Nat.le_refl _) hv
abbrev gw_X11_possible (d : Nat) (Q : zQt) (pc : Nat) (lv : zV) (st : List Value) (I : zI) (L : zL) (P : zP) : Prop := zW zm_X11_possible (zRm d 0 0) 0 0 Q pc lv st I L P 205 0 0
def v_X11_possible (d : Nat) (Q : zQt) (p1 : Int32) (I : zI) (L : zL) (P : zP) : Prop :=
  ∃ b1 : Nat, P 0 2 = some b1 ∧
  (b1 < 205 ∧ (zsh b1).1 = 2) ∧
  zMi zm_X2_isWorld d [.ref b1, .int p1] I L P (fun r8 I4 L5 P6 =>
    ((¬ r8 = 0 →
      zPk P6 ∧
      zMi zm_X6_contains d [.ref 73, .int p1] I4 L5 P6 (fun r14 I10 L11 P12 =>
        ((r14 = 0 →
          Q (some (.int 0)) I10 L11 P12 205
        ) ∧ (¬ r14 = 0 →
          Q (some (.int 1)) I10 L11 P12 205
        ))
      )
    ) ∧ (r8 = 0 →
      Q (some (.int (-1))) I4 L5 P6 205
    ))
  )
set_option maxRecDepth 20000 in
theorem g_X11_possible {d : Nat} {Q : zQt} {p1 : Int32} {I : zI} {L : zL} {P : zP} (hP : zPk P) (hv : v_X11_possible d Q p1 I L P) : zM zm_X11_possible (d + 1) 0 0 [.ref 0, .int p1] I L P 205 Q := by
  unfold v_X11_possible at hv
  refine zM_of (lv0 := [some (.ref 0), some (.int p1)]) (by decide +kernel) (Nat.le_of_ble_eq_true rfl) rfl ?_
  refine z_aload_n dX11_possible_0 rfl ?_
  obtain ⟨b1, h2, hv⟩ := hv
  refine z_getP dX11_possible_1 zf_X11_26 zn_0 zo_0 (fun _ _ _ _ _ => rfl) h2 ?_
  refine z_iload_n dX11_possible_4 rfl ?_
  obtain ⟨h3, hv⟩ := hv
  refine z_callV (As := [.int p1]) (st := []) dX11_possible_5 zl_X11_136 zv_X2_isWorld (by decide) rfl h3.1 h3.2 rfl rfl (Nat.le_of_ble_eq_true rfl) ⟨Nat.le_refl _, Nat.le_refl _⟩ ⟨Nat.le_refl _, Nat.le_refl _⟩ hv (fun v1 I4 L5 P6 nx1 q7 => ?_)
  obtain ⟨rfl, r8, rfl, hv⟩ := q7
  refine z_if_ne (tgt := 13) dX11_possible_8 (by decide) (fun q16 => ?_) (fun q16 => ?_)
  · have hv := hv.1 q16
    refine z_aload_n dX11_possible_13 rfl ?_
    obtain ⟨h9, hv⟩ := hv
    refine z_getP dX11_possible_14 zf_X11_57 zn_0 zo_0 (fun _ _ _ _ _ => rfl) (h9 0 6 73 zp_0_6) ?_
    refine z_iload_n dX11_possible_17 rfl ?_
    refine z_callV (As := [.int p1]) (st := []) dX11_possible_18 zl_X11_139 zv_X6_contains (by decide) rfl zn_73 zo_73 rfl rfl (Nat.le_of_ble_eq_true rfl) ⟨Nat.le_refl _, Nat.le_refl _⟩ ⟨Nat.le_refl _, Nat.le_refl _⟩ hv (fun v1 I10 L11 P12 nx1 q13 => ?_)
    obtain ⟨rfl, r14, rfl, hv⟩ := q13
    refine z_if_eq (tgt := 28) dX11_possible_21 (by decide) (fun q15 => ?_) (fun q15 => ?_)
    · have hv := hv.1 q15
      refine z_iconst (v := 0) dX11_possible_28 (by decide) ?_
      exact z_ireturn dX11_possible_29 rfl rfl (Nat.le_refl _) (Nat.le_refl _) hv
    · have hv := hv.2 q15
      refine z_iconst (v := 1) dX11_possible_24 (by decide) ?_
      refine z_goto (tgt := 29) dX11_possible_25 (by decide) ?_
      exact z_ireturn dX11_possible_29 rfl rfl (Nat.le_refl _) (Nat.le_refl _) hv
  · have hv := hv.2 q16
    refine z_iconst (v := (-1)) dX11_possible_11 (by decide) ?_
    exact z_ireturn dX11_possible_12 rfl rfl (Nat.le_refl _) (Nat.le_refl _) hv
abbrev gw_X11_like (d : Nat) (Q : zQt) (pc : Nat) (lv : zV) (st : List Value) (I : zI) (L : zL) (P : zP) : Prop := zW zm_X11_like (zRm d 0 0) 0 0 Q pc lv st I L P 205 0 0
def v_X11_like (d : Nat) (Q : zQt) (p1 : Int32) (p2 : Int32) (p3 : Int32) (I : zI) (L : zL) (P : zP) : Prop :=
  ∃ b1 : Nat, P 0 2 = some b1 ∧
  (b1 < 205 ∧ (zsh b1).1 = 2) ∧
  zMi zm_X2_isPerson d [.ref b1, .int p1] I L P (fun r8 I4 L5 P6 =>
    ((r8 = 0 →
      Q (some (.int (-1))) I4 L5 P6 205
    ) ∧ (¬ r8 = 0 →
      zPk P6 ∧
      zMi zm_X6_contains d [.ref 73, .int p2] I4 L5 P6 (fun r14 I10 L11 P12 =>
        ((r14 = 0 →
          Q (some (.int (-1))) I10 L11 P12 205
        ) ∧ (¬ r14 = 0 →
          zPk P12 ∧
          zMi zm_X6_contains d [.ref 73, .int p3] I10 L11 P12 (fun r20 I16 L17 P18 =>
            ((¬ r20 = 0 →
              zPk P18 ∧
              zMi zm_X10_areAlike d [.ref 74, .int p1, .int p2, .int p3] I16 L17 P18 (fun r26 I22 L23 P24 =>
                ((r26 = 0 →
                  Q (some (.int 0)) I22 L23 P24 205
                ) ∧ (¬ r26 = 0 →
                  Q (some (.int 1)) I22 L23 P24 205
                ))
              )
            ) ∧ (r20 = 0 →
              Q (some (.int (-1))) I16 L17 P18 205
            ))
          )
        ))
      )
    ))
  )
set_option maxRecDepth 20000 in
theorem g_X11_like {d : Nat} {Q : zQt} {p1 : Int32} {p2 : Int32} {p3 : Int32} {I : zI} {L : zL} {P : zP} (hP : zPk P) (hv : v_X11_like d Q p1 p2 p3 I L P) : zM zm_X11_like (d + 1) 0 0 [.ref 0, .int p1, .int p2, .int p3] I L P 205 Q := by
  unfold v_X11_like at hv
  refine zM_of (lv0 := [some (.ref 0), some (.int p1), some (.int p2), some (.int p3)]) (by decide +kernel) (Nat.le_of_ble_eq_true rfl) rfl ?_
  refine z_aload_n dX11_like_0 rfl ?_
  obtain ⟨b1, h2, hv⟩ := hv
  refine z_getP dX11_like_1 zf_X11_26 zn_0 zo_0 (fun _ _ _ _ _ => rfl) h2 ?_
  refine z_iload_n dX11_like_4 rfl ?_
  obtain ⟨h3, hv⟩ := hv
  refine z_callV (As := [.int p1]) (st := []) dX11_like_5 zl_X11_127 zv_X2_isPerson (by decide) rfl h3.1 h3.2 rfl rfl (Nat.le_of_ble_eq_true rfl) ⟨Nat.le_refl _, Nat.le_refl _⟩ ⟨Nat.le_refl _, Nat.le_refl _⟩ hv (fun v1 I4 L5 P6 nx1 q7 => ?_)
  obtain ⟨rfl, r8, rfl, hv⟩ := q7
  refine z_if_eq (tgt := 33) dX11_like_8 (by decide) (fun q30 => ?_) (fun q30 => ?_)
  · have hv := hv.1 q30
    refine z_iconst (v := (-1)) dX11_like_33 (by decide) ?_
    exact z_ireturn dX11_like_34 rfl rfl (Nat.le_refl _) (Nat.le_refl _) hv
  · have hv := hv.2 q30
    refine z_aload_n dX11_like_11 rfl ?_
    obtain ⟨h9, hv⟩ := hv
    refine z_getP dX11_like_12 zf_X11_57 zn_0 zo_0 (fun _ _ _ _ _ => rfl) (h9 0 6 73 zp_0_6) ?_
    refine z_iload_n dX11_like_15 rfl ?_
    refine z_callV (As := [.int p2]) (st := []) dX11_like_16 zl_X11_139 zv_X6_contains (by decide) rfl zn_73 zo_73 rfl rfl (Nat.le_of_ble_eq_true rfl) ⟨Nat.le_refl _, Nat.le_refl _⟩ ⟨Nat.le_refl _, Nat.le_refl _⟩ hv (fun v1 I10 L11 P12 nx1 q13 => ?_)
    obtain ⟨rfl, r14, rfl, hv⟩ := q13
    refine z_if_eq (tgt := 33) dX11_like_19 (by decide) (fun q29 => ?_) (fun q29 => ?_)
    · have hv := hv.1 q29
      refine z_iconst (v := (-1)) dX11_like_33 (by decide) ?_
      exact z_ireturn dX11_like_34 rfl rfl (Nat.le_refl _) (Nat.le_refl _) hv
    · have hv := hv.2 q29
      refine z_aload_n dX11_like_22 rfl ?_
      obtain ⟨h15, hv⟩ := hv
      refine z_getP dX11_like_23 zf_X11_57 zn_0 zo_0 (fun _ _ _ _ _ => rfl) (h15 0 6 73 zp_0_6) ?_
      refine z_iload_n dX11_like_26 rfl ?_
      refine z_callV (As := [.int p3]) (st := []) dX11_like_27 zl_X11_139 zv_X6_contains (by decide) rfl zn_73 zo_73 rfl rfl (Nat.le_of_ble_eq_true rfl) ⟨Nat.le_refl _, Nat.le_refl _⟩ ⟨Nat.le_refl _, Nat.le_refl _⟩ hv (fun v1 I16 L17 P18 nx1 q19 => ?_)
      obtain ⟨rfl, r20, rfl, hv⟩ := q19
      refine z_if_ne (tgt := 35) dX11_like_30 (by decide) (fun q28 => ?_) (fun q28 => ?_)
      · have hv := hv.1 q28
        refine z_aload_n dX11_like_35 rfl ?_
        obtain ⟨h21, hv⟩ := hv
        refine z_getP dX11_like_36 zf_X11_57 zn_0 zo_0 (fun _ _ _ _ _ => rfl) (h21 0 6 73 zp_0_6) ?_
        refine z_getP dX11_like_39 zf_X11_61 zn_73 zo_73 (fun _ _ _ _ _ => rfl) (h21 73 0 74 zp_73_0) ?_
        refine z_iload_n dX11_like_42 rfl ?_
        refine z_iload_n dX11_like_43 rfl ?_
        refine z_iload_n dX11_like_44 rfl ?_
        refine z_callV (As := [.int p1, .int p2, .int p3]) (st := []) dX11_like_45 zl_X11_142 zv_X10_areAlike (by decide) rfl zn_74 zo_74 rfl rfl (Nat.le_of_ble_eq_true rfl) ⟨Nat.le_refl _, Nat.le_refl _⟩ ⟨Nat.le_refl _, Nat.le_refl _⟩ hv (fun v1 I22 L23 P24 nx1 q25 => ?_)
        obtain ⟨rfl, r26, rfl, hv⟩ := q25
        refine z_if_eq (tgt := 55) dX11_like_48 (by decide) (fun q27 => ?_) (fun q27 => ?_)
        · have hv := hv.1 q27
          refine z_iconst (v := 0) dX11_like_55 (by decide) ?_
          exact z_ireturn dX11_like_56 rfl rfl (Nat.le_refl _) (Nat.le_refl _) hv
        · have hv := hv.2 q27
          refine z_iconst (v := 1) dX11_like_51 (by decide) ?_
          refine z_goto (tgt := 56) dX11_like_52 (by decide) ?_
          exact z_ireturn dX11_like_56 rfl rfl (Nat.le_refl _) (Nat.le_refl _) hv
      · have hv := hv.2 q28
        refine z_iconst (v := (-1)) dX11_like_33 (by decide) ?_
        exact z_ireturn dX11_like_34 rfl rfl (Nat.le_refl _) (Nat.le_refl _) hv
abbrev gw_X11_own (d : Nat) (Q : zQt) (pc : Nat) (lv : zV) (st : List Value) (I : zI) (L : zL) (P : zP) : Prop := zW zm_X11_own (zRm d 0 0) 0 0 Q pc lv st I L P 205 0 0
def v_X11_own (d : Nat) (Q : zQt) (p1 : Int32) (I : zI) (L : zL) (P : zP) : Prop :=
  ∃ b1 : Nat, P 0 2 = some b1 ∧
  (b1 < 205 ∧ (zsh b1).1 = 2) ∧
  zMi zm_X2_isPerson d [.ref b1, .int p1] I L P (fun r8 I4 L5 P6 =>
    ((r8 = 0 →
      Q (some (.int (-1))) I4 L5 P6 205
    ) ∧ (¬ r8 = 0 →
      zPk P6 ∧
      zMi zm_X4_ownMark d [.ref 23, .ref 73, .int p1] I4 L5 P6 (fun r14 I10 L11 P12 =>
        Q (some (.int r14)) I10 L11 P12 205
      )
    ))
  )
set_option maxRecDepth 20000 in
theorem g_X11_own {d : Nat} {Q : zQt} {p1 : Int32} {I : zI} {L : zL} {P : zP} (hP : zPk P) (hv : v_X11_own d Q p1 I L P) : zM zm_X11_own (d + 1) 0 0 [.ref 0, .int p1] I L P 205 Q := by
  unfold v_X11_own at hv
  refine zM_of (lv0 := [some (.ref 0), some (.int p1)]) (by decide +kernel) (Nat.le_of_ble_eq_true rfl) rfl ?_
  refine z_aload_n dX11_own_0 rfl ?_
  obtain ⟨b1, h2, hv⟩ := hv
  refine z_getP dX11_own_1 zf_X11_26 zn_0 zo_0 (fun _ _ _ _ _ => rfl) h2 ?_
  refine z_iload_n dX11_own_4 rfl ?_
  obtain ⟨h3, hv⟩ := hv
  refine z_callV (As := [.int p1]) (st := []) dX11_own_5 zl_X11_127 zv_X2_isPerson (by decide) rfl h3.1 h3.2 rfl rfl (Nat.le_of_ble_eq_true rfl) ⟨Nat.le_refl _, Nat.le_refl _⟩ ⟨Nat.le_refl _, Nat.le_refl _⟩ hv (fun v1 I4 L5 P6 nx1 q7 => ?_)
  obtain ⟨rfl, r8, rfl, hv⟩ := q7
  refine z_if_eq (tgt := 26) dX11_own_8 (by decide) (fun q15 => ?_) (fun q15 => ?_)
  · have hv := hv.1 q15
    refine z_iconst (v := (-1)) dX11_own_26 (by decide) ?_
    exact z_ireturn dX11_own_27 rfl rfl (Nat.le_refl _) (Nat.le_refl _) hv
  · have hv := hv.2 q15
    refine z_aload_n dX11_own_11 rfl ?_
    obtain ⟨h9, hv⟩ := hv
    refine z_getP dX11_own_12 zf_X11_45 zn_0 zo_0 (fun _ _ _ _ _ => rfl) (h9 0 5 23 zp_0_5) ?_
    refine z_aload_n dX11_own_15 rfl ?_
    refine z_getP dX11_own_16 zf_X11_57 zn_0 zo_0 (fun _ _ _ _ _ => rfl) (h9 0 6 73 zp_0_6) ?_
    refine z_iload_n dX11_own_19 rfl ?_
    refine z_callV (As := [.ref 73, .int p1]) (st := []) dX11_own_20 zl_X11_146 zv_X4_ownMark (by decide) rfl zn_23 zo_23 rfl rfl (Nat.le_of_ble_eq_true rfl) ⟨Nat.le_refl _, Nat.le_refl _⟩ ⟨Nat.le_refl _, Nat.le_refl _⟩ hv (fun v1 I10 L11 P12 nx1 q13 => ?_)
    obtain ⟨rfl, r14, rfl, hv⟩ := q13
    refine z_goto (tgt := 27) dX11_own_23 (by decide) ?_
    exact z_ireturn dX11_own_27 rfl rfl (Nat.le_refl _) (Nat.le_refl _) hv
abbrev gw_X11_ask (d : Nat) (Q : zQt) (pc : Nat) (lv : zV) (st : List Value) (I : zI) (L : zL) (P : zP) : Prop := zW zm_X11_ask (zRm d 0 0) 0 0 Q pc lv st I L P 205 0 0
def v_X11_ask (d : Nat) (Q : zQt)  (I : zI) (L : zL) (P : zP) : Prop :=
  zMi zm_X11_weighTape d [.ref 0] I L P (fun r5 I1 L2 P3 =>
    ((r5 = 0 →
      Q (some (.int (-1000000))) I1 L2 P3 205
    ) ∧ (¬ r5 = 0 →
      zPk P3 ∧
      zMr zm_X4_result d [.ref 23] I1 L2 P3 (fun r11 I7 L8 P9 =>
        ∃ b12 : Nat, P9 0 2 = some b12 ∧
        (b12 < 205 ∧ (zsh b12).1 = 2) ∧
        ∃ n16, (r11 < 205 ∧ zsh r11 = (100, n16)) ∧
        vp_in (I7 b12 1) n16 ∧
        Q (some (.int (I7 r11 (I7 b12 1).toNatClampNeg))) I7 L8 P9 205
      )
    ))
  )
set_option maxRecDepth 20000 in
theorem g_X11_ask {d : Nat} {Q : zQt}  {I : zI} {L : zL} {P : zP} (hP : zPk P) (hv : v_X11_ask d Q  I L P) : zM zm_X11_ask (d + 1) 0 0 [.ref 0] I L P 205 Q := by
  unfold v_X11_ask at hv
  refine zM_of (lv0 := [some (.ref 0)]) (by decide +kernel) (Nat.le_of_ble_eq_true rfl) rfl ?_
  refine z_aload_n dX11_ask_0 rfl ?_
  refine z_callV (As := []) (st := []) dX11_ask_1 zl_X11_150 zv_X11_weighTape (by decide) rfl zn_0 zo_0 rfl rfl (Nat.le_of_ble_eq_true rfl) ⟨Nat.le_refl _, Nat.le_refl _⟩ ⟨Nat.le_refl _, Nat.le_refl _⟩ hv (fun v1 I1 L2 P3 nx1 q4 => ?_)
  obtain ⟨rfl, r5, rfl, hv⟩ := q4
  refine z_if_eq (tgt := 25) dX11_ask_4 (by decide) (fun q18 => ?_) (fun q18 => ?_)
  · have hv := hv.1 q18
    refine z_ldc (v := (-1000000)) dX11_ask_25 zi_X11_161 ?_
    exact z_ireturn dX11_ask_27 rfl rfl (Nat.le_refl _) (Nat.le_refl _) hv
  · have hv := hv.2 q18
    refine z_aload_n dX11_ask_7 rfl ?_
    obtain ⟨h6, hv⟩ := hv
    refine z_getP dX11_ask_8 zf_X11_45 zn_0 zo_0 (fun _ _ _ _ _ => rfl) (h6 0 5 23 zp_0_5) ?_
    refine z_callV (As := []) (st := []) dX11_ask_11 zl_X11_154 zv_X4_result (by decide) rfl zn_23 zo_23 rfl rfl (Nat.le_of_ble_eq_true rfl) ⟨Nat.le_refl _, Nat.le_refl _⟩ ⟨Nat.le_refl _, Nat.le_refl _⟩ hv (fun v1 I7 L8 P9 nx1 q10 => ?_)
    obtain ⟨rfl, r11, rfl, hv⟩ := q10
    refine z_aload_n dX11_ask_14 rfl ?_
    obtain ⟨b12, h13, hv⟩ := hv
    refine z_getP dX11_ask_15 zf_X11_26 zn_0 zo_0 (fun _ _ _ _ _ => rfl) h13 ?_
    obtain ⟨h14, hv⟩ := hv
    refine z_getI dX11_ask_18 zf_X11_158 h14.1 h14.2 (fun _ _ _ _ _ => rfl) ?_
    obtain ⟨n16, h15, hv⟩ := hv
    obtain ⟨h17, hv⟩ := hv
    refine z_iaload dX11_ask_21 h15.1 h15.2 h17 ?_
    refine z_goto (tgt := 27) dX11_ask_22 (by decide) ?_
    exact z_ireturn dX11_ask_27 rfl rfl (Nat.le_refl _) (Nat.le_refl _) hv
abbrev gw_X11_holds (d : Nat) (Q : zQt) (pc : Nat) (lv : zV) (st : List Value) (I : zI) (L : zL) (P : zP) : Prop := zW zm_X11_holds (zRm d 0 0) 0 0 Q pc lv st I L P 205 0 0
def v_X11_holds (d : Nat) (Q : zQt)  (I : zI) (L : zL) (P : zP) : Prop :=
  zMi zm_X11_weighTape d [.ref 0] I L P (fun r5 I1 L2 P3 =>
    ((r5 = 0 →
      Q (some (.int (-1))) I1 L2 P3 205
    ) ∧ (¬ r5 = 0 →
      zPk P3 ∧
      zMr zm_X4_result d [.ref 23] I1 L2 P3 (fun r11 I7 L8 P9 =>
        zMi zm_X6_countSo d [.ref 73, .ref r11] I7 L8 P9 (fun r16 I12 L13 P14 =>
          Q (some (.int r16)) I12 L13 P14 205
        )
      )
    ))
  )
set_option maxRecDepth 20000 in
theorem g_X11_holds {d : Nat} {Q : zQt}  {I : zI} {L : zL} {P : zP} (hP : zPk P) (hv : v_X11_holds d Q  I L P) : zM zm_X11_holds (d + 1) 0 0 [.ref 0] I L P 205 Q := by
  unfold v_X11_holds at hv
  refine zM_of (lv0 := [some (.ref 0)]) (by decide +kernel) (Nat.le_of_ble_eq_true rfl) rfl ?_
  refine z_aload_n dX11_holds_0 rfl ?_
  refine z_callV (As := []) (st := []) dX11_holds_1 zl_X11_150 zv_X11_weighTape (by decide) rfl zn_0 zo_0 rfl rfl (Nat.le_of_ble_eq_true rfl) ⟨Nat.le_refl _, Nat.le_refl _⟩ ⟨Nat.le_refl _, Nat.le_refl _⟩ hv (fun v1 I1 L2 P3 nx1 q4 => ?_)
  obtain ⟨rfl, r5, rfl, hv⟩ := q4
  refine z_if_eq (tgt := 24) dX11_holds_4 (by decide) (fun q17 => ?_) (fun q17 => ?_)
  · have hv := hv.1 q17
    refine z_iconst (v := (-1)) dX11_holds_24 (by decide) ?_
    exact z_ireturn dX11_holds_25 rfl rfl (Nat.le_refl _) (Nat.le_refl _) hv
  · have hv := hv.2 q17
    refine z_aload_n dX11_holds_7 rfl ?_
    obtain ⟨h6, hv⟩ := hv
    refine z_getP dX11_holds_8 zf_X11_57 zn_0 zo_0 (fun _ _ _ _ _ => rfl) (h6 0 6 73 zp_0_6) ?_
    refine z_aload_n dX11_holds_11 rfl ?_
    refine z_getP dX11_holds_12 zf_X11_45 zn_0 zo_0 (fun _ _ _ _ _ => rfl) (h6 0 5 23 zp_0_5) ?_
    refine z_callV (As := []) (st := [.ref 73]) dX11_holds_15 zl_X11_154 zv_X4_result (by decide) rfl zn_23 zo_23 rfl rfl (Nat.le_of_ble_eq_true rfl) ⟨Nat.le_refl _, Nat.le_refl _⟩ ⟨Nat.le_refl _, Nat.le_refl _⟩ hv (fun v1 I7 L8 P9 nx1 q10 => ?_)
    obtain ⟨rfl, r11, rfl, hv⟩ := q10
    refine z_callV (As := [.ref r11]) (st := []) dX11_holds_18 zl_X11_162 zv_X6_countSo (by decide) rfl zn_73 zo_73 rfl rfl (Nat.le_of_ble_eq_true rfl) ⟨Nat.le_refl _, Nat.le_refl _⟩ ⟨Nat.le_refl _, Nat.le_refl _⟩ hv (fun v1 I12 L13 P14 nx1 q15 => ?_)
    obtain ⟨rfl, r16, rfl, hv⟩ := q15
    refine z_goto (tgt := 25) dX11_holds_21 (by decide) ?_
    exact z_ireturn dX11_holds_25 rfl rfl (Nat.le_refl _) (Nat.le_refl _) hv
abbrev gw_X11_deep (d : Nat) (Q : zQt) (pc : Nat) (lv : zV) (st : List Value) (I : zI) (L : zL) (P : zP) : Prop := zW zm_X11_deep (zRm d 0 0) 0 0 Q pc lv st I L P 205 0 0
def v_X11_deep (d : Nat) (Q : zQt)  (I : zI) (L : zL) (P : zP) : Prop :=
  zMi zm_X11_weighTape d [.ref 0] I L P (fun r5 I1 L2 P3 =>
    ((r5 = 0 →
      Q (some (.int (-1000000))) I1 L2 P3 205
    ) ∧ (¬ r5 = 0 →
      zPk P3 ∧
      zMi zm_X4_depth d [.ref 23, .ref 73] I1 L2 P3 (fun r11 I7 L8 P9 =>
        Q (some (.int r11)) I7 L8 P9 205
      )
    ))
  )
set_option maxRecDepth 20000 in
theorem g_X11_deep {d : Nat} {Q : zQt}  {I : zI} {L : zL} {P : zP} (hP : zPk P) (hv : v_X11_deep d Q  I L P) : zM zm_X11_deep (d + 1) 0 0 [.ref 0] I L P 205 Q := by
  unfold v_X11_deep at hv
  refine zM_of (lv0 := [some (.ref 0)]) (by decide +kernel) (Nat.le_of_ble_eq_true rfl) rfl ?_
  refine z_aload_n dX11_deep_0 rfl ?_
  refine z_callV (As := []) (st := []) dX11_deep_1 zl_X11_150 zv_X11_weighTape (by decide) rfl zn_0 zo_0 rfl rfl (Nat.le_of_ble_eq_true rfl) ⟨Nat.le_refl _, Nat.le_refl _⟩ ⟨Nat.le_refl _, Nat.le_refl _⟩ hv (fun v1 I1 L2 P3 nx1 q4 => ?_)
  obtain ⟨rfl, r5, rfl, hv⟩ := q4
  refine z_if_eq (tgt := 21) dX11_deep_4 (by decide) (fun q12 => ?_) (fun q12 => ?_)
  · have hv := hv.1 q12
    refine z_ldc (v := (-1000000)) dX11_deep_21 zi_X11_161 ?_
    exact z_ireturn dX11_deep_23 rfl rfl (Nat.le_refl _) (Nat.le_refl _) hv
  · have hv := hv.2 q12
    refine z_aload_n dX11_deep_7 rfl ?_
    obtain ⟨h6, hv⟩ := hv
    refine z_getP dX11_deep_8 zf_X11_45 zn_0 zo_0 (fun _ _ _ _ _ => rfl) (h6 0 5 23 zp_0_5) ?_
    refine z_aload_n dX11_deep_11 rfl ?_
    refine z_getP dX11_deep_12 zf_X11_57 zn_0 zo_0 (fun _ _ _ _ _ => rfl) (h6 0 6 73 zp_0_6) ?_
    refine z_callV (As := [.ref 73]) (st := []) dX11_deep_15 zl_X11_166 zv_X4_depth (by decide) rfl zn_23 zo_23 rfl rfl (Nat.le_of_ble_eq_true rfl) ⟨Nat.le_refl _, Nat.le_refl _⟩ ⟨Nat.le_refl _, Nat.le_refl _⟩ hv (fun v1 I7 L8 P9 nx1 q10 => ?_)
    obtain ⟨rfl, r11, rfl, hv⟩ := q10
    refine z_goto (tgt := 23) dX11_deep_18 (by decide) ?_
    exact z_ireturn dX11_deep_23 rfl rfl (Nat.le_refl _) (Nat.le_refl _) hv
abbrev gw_X11_say (d : Nat) (Q : zQt) (pc : Nat) (lv : zV) (st : List Value) (I : zI) (L : zL) (P : zP) : Prop := zW zm_X11_say (zRm d 0 0) 0 0 Q pc lv st I L P 205 0 0
def v_X11_say (d : Nat) (Q : zQt)  (I : zI) (L : zL) (P : zP) : Prop :=
  zMi zm_X11_weighTape d [.ref 0] I L P (fun r5 I1 L2 P3 =>
    ((r5 = 0 →
      Q (some (.int (-1))) I1 L2 P3 205
    ) ∧ (¬ r5 = 0 →
      zPk P3 ∧
      zMr zm_X4_result d [.ref 23] I1 L2 P3 (fun r11 I7 L8 P9 =>
        zMi zm_X6_hear d [.ref 73, .ref r11] I7 L8 P9 (fun r16 I12 L13 P14 =>
          Q (some (.int r16)) I12 L13 P14 205
        )
      )
    ))
  )
set_option maxRecDepth 20000 in
theorem g_X11_say {d : Nat} {Q : zQt}  {I : zI} {L : zL} {P : zP} (hP : zPk P) (hv : v_X11_say d Q  I L P) : zM zm_X11_say (d + 1) 0 0 [.ref 0] I L P 205 Q := by
  unfold v_X11_say at hv
  refine zM_of (lv0 := [some (.ref 0)]) (by decide +kernel) (Nat.le_of_ble_eq_true rfl) rfl ?_
  refine z_aload_n dX11_say_0 rfl ?_
  refine z_callV (As := []) (st := []) dX11_say_1 zl_X11_150 zv_X11_weighTape (by decide) rfl zn_0 zo_0 rfl rfl (Nat.le_of_ble_eq_true rfl) ⟨Nat.le_refl _, Nat.le_refl _⟩ ⟨Nat.le_refl _, Nat.le_refl _⟩ hv (fun v1 I1 L2 P3 nx1 q4 => ?_)
  obtain ⟨rfl, r5, rfl, hv⟩ := q4
  refine z_if_eq (tgt := 24) dX11_say_4 (by decide) (fun q17 => ?_) (fun q17 => ?_)
  · have hv := hv.1 q17
    refine z_iconst (v := (-1)) dX11_say_24 (by decide) ?_
    exact z_ireturn dX11_say_25 rfl rfl (Nat.le_refl _) (Nat.le_refl _) hv
  · have hv := hv.2 q17
    refine z_aload_n dX11_say_7 rfl ?_
    obtain ⟨h6, hv⟩ := hv
    refine z_getP dX11_say_8 zf_X11_57 zn_0 zo_0 (fun _ _ _ _ _ => rfl) (h6 0 6 73 zp_0_6) ?_
    refine z_aload_n dX11_say_11 rfl ?_
    refine z_getP dX11_say_12 zf_X11_45 zn_0 zo_0 (fun _ _ _ _ _ => rfl) (h6 0 5 23 zp_0_5) ?_
    refine z_callV (As := []) (st := [.ref 73]) dX11_say_15 zl_X11_154 zv_X4_result (by decide) rfl zn_23 zo_23 rfl rfl (Nat.le_of_ble_eq_true rfl) ⟨Nat.le_refl _, Nat.le_refl _⟩ ⟨Nat.le_refl _, Nat.le_refl _⟩ hv (fun v1 I7 L8 P9 nx1 q10 => ?_)
    obtain ⟨rfl, r11, rfl, hv⟩ := q10
    refine z_callV (As := [.ref r11]) (st := []) dX11_say_18 zl_X11_170 zv_X6_hear (by decide) rfl zn_73 zo_73 rfl rfl (Nat.le_of_ble_eq_true rfl) ⟨Nat.le_refl _, Nat.le_refl _⟩ ⟨Nat.le_refl _, Nat.le_refl _⟩ hv (fun v1 I12 L13 P14 nx1 q15 => ?_)
    obtain ⟨rfl, r16, rfl, hv⟩ := q15
    refine z_goto (tgt := 25) dX11_say_21 (by decide) ?_
    exact z_ireturn dX11_say_25 rfl rfl (Nat.le_refl _) (Nat.le_refl _) hv
abbrev gw_X11_saying (d : Nat) (Q : zQt) (pc : Nat) (lv : zV) (st : List Value) (I : zI) (L : zL) (P : zP) : Prop := zW zm_X11_saying (zRm d 0 0) 0 0 Q pc lv st I L P 205 0 0
def v_X11_saying (d : Nat) (Q : zQt) (p1 : Int32) (I : zI) (L : zL) (P : zP) : Prop :=
  ((p1 < 0 →
    Q (some (.int (-1))) I L P 205
  ) ∧ (¬ p1 < 0 →
    ∃ b1 : Nat, P 0 2 = some b1 ∧
    (b1 < 205 ∧ (zsh b1).1 = 2) ∧
    ((p1 < (I b1 4) →
      zMv zm_X4_weighSaying d [.ref 23, .ref 73, .int p1] I L P (fun I4 L5 P6 =>
        zPk P6 ∧
        zMr zm_X4_result d [.ref 23] I4 L5 P6 (fun r14 I10 L11 P12 =>
          zMi zm_X6_hear d [.ref 73, .ref r14] I10 L11 P12 (fun r19 I15 L16 P17 =>
            Q (some (.int r19)) I15 L16 P17 205
          )
        )
      )
    ) ∧ (¬ p1 < (I b1 4) →
      Q (some (.int (-1))) I L P 205
    ))
  ))
set_option maxRecDepth 20000 in
theorem g_X11_saying {d : Nat} {Q : zQt} {p1 : Int32} {I : zI} {L : zL} {P : zP} (hP : zPk P) (hv : v_X11_saying d Q p1 I L P) : zM zm_X11_saying (d + 1) 0 0 [.ref 0, .int p1] I L P 205 Q := by
  unfold v_X11_saying at hv
  refine zM_of (lv0 := [some (.ref 0), some (.int p1)]) (by decide +kernel) (Nat.le_of_ble_eq_true rfl) rfl ?_
  refine z_iload_n dX11_saying_0 rfl ?_
  refine z_if_lt (tgt := 15) dX11_saying_1 (by decide) (fun q21 => ?_) (fun q21 => ?_)
  · have hv := hv.1 q21
    refine z_iconst (v := (-1)) dX11_saying_15 (by decide) ?_
    exact z_ireturn dX11_saying_16 rfl rfl (Nat.le_refl _) (Nat.le_refl _) hv
  · have hv := hv.2 q21
    refine z_iload_n dX11_saying_4 rfl ?_
    refine z_aload_n dX11_saying_5 rfl ?_
    obtain ⟨b1, h2, hv⟩ := hv
    refine z_getP dX11_saying_6 zf_X11_26 zn_0 zo_0 (fun _ _ _ _ _ => rfl) h2 ?_
    obtain ⟨h3, hv⟩ := hv
    refine z_getI dX11_saying_9 zf_X11_173 h3.1 h3.2 (fun _ _ _ _ _ => rfl) ?_
    refine z_icmp_lt (tgt := 17) dX11_saying_12 (by decide) (fun q20 => ?_) (fun q20 => ?_)
    · have hv := hv.1 q20
      refine z_aload_n dX11_saying_17 rfl ?_
      refine z_getP dX11_saying_18 zf_X11_45 zn_0 zo_0 (fun _ _ _ _ _ => rfl) (hP 0 5 23 zp_0_5) ?_
      refine z_aload_n dX11_saying_21 rfl ?_
      refine z_getP dX11_saying_22 zf_X11_57 zn_0 zo_0 (fun _ _ _ _ _ => rfl) (hP 0 6 73 zp_0_6) ?_
      refine z_iload_n dX11_saying_25 rfl ?_
      refine z_callV (As := [.ref 73, .int p1]) (st := []) dX11_saying_26 zl_X11_176 zv_X4_weighSaying (by decide) rfl zn_23 zo_23 rfl rfl (Nat.le_of_ble_eq_true rfl) ⟨Nat.le_refl _, Nat.le_refl _⟩ ⟨Nat.le_refl _, Nat.le_refl _⟩ hv (fun v1 I4 L5 P6 nx1 q7 => ?_)
      obtain ⟨rfl, rfl, hv⟩ := q7
      refine z_aload_n dX11_saying_29 rfl ?_
      obtain ⟨h9, hv⟩ := hv
      refine z_getP dX11_saying_30 zf_X11_57 zn_0 zo_0 (fun _ _ _ _ _ => rfl) (h9 0 6 73 zp_0_6) ?_
      refine z_aload_n dX11_saying_33 rfl ?_
      refine z_getP dX11_saying_34 zf_X11_45 zn_0 zo_0 (fun _ _ _ _ _ => rfl) (h9 0 5 23 zp_0_5) ?_
      refine z_callV (As := []) (st := [.ref 73]) dX11_saying_37 zl_X11_154 zv_X4_result (by decide) rfl zn_23 zo_23 rfl rfl (Nat.le_of_ble_eq_true rfl) ⟨Nat.le_refl _, Nat.le_refl _⟩ ⟨Nat.le_refl _, Nat.le_refl _⟩ hv (fun v1 I10 L11 P12 nx1 q13 => ?_)
      obtain ⟨rfl, r14, rfl, hv⟩ := q13
      refine z_callV (As := [.ref r14]) (st := []) dX11_saying_40 zl_X11_170 zv_X6_hear (by decide) rfl zn_73 zo_73 rfl rfl (Nat.le_of_ble_eq_true rfl) ⟨Nat.le_refl _, Nat.le_refl _⟩ ⟨Nat.le_refl _, Nat.le_refl _⟩ hv (fun v1 I15 L16 P17 nx1 q18 => ?_)
      obtain ⟨rfl, r19, rfl, hv⟩ := q18
      exact z_ireturn dX11_saying_43 rfl rfl (Nat.le_refl _) (Nat.le_refl _) hv
    · have hv := hv.2 q20
      refine z_iconst (v := (-1)) dX11_saying_15 (by decide) ?_
      exact z_ireturn dX11_saying_16 rfl rfl (Nat.le_refl _) (Nat.le_refl _) hv
abbrev gw_X11_whisper (d : Nat) (Q : zQt) (pc : Nat) (lv : zV) (st : List Value) (I : zI) (L : zL) (P : zP) : Prop := zW zm_X11_whisper (zRm d 0 0) 0 0 Q pc lv st I L P 205 0 0
def v_X11_whisper_42 (d : Nat) (Q : zQt) (p1 : Int32) (x2 : Nat) (x3 : Int32) (I : zI) (L : zL) (P : zP) : Prop :=
  ∃ b23 : Nat, P 0 2 = some b23 ∧
  (b23 < 205 ∧ (zsh b23).1 = 2) ∧
  (((I b23 0) ≤ x3 →
    ∀ I26 : zI, I26 = zuI I 73 6 ((I 73 6) + 1) →
    ∃ n29, (x2 < 205 ∧ zsh x2 = (100, n29)) ∧
    vp_in (I26 b23 1) n29 ∧
    (((I26 x2 (I26 b23 1).toNatClampNeg) = 0 →
      Q (some (.int 0)) I26 L P 205
    ) ∧ (¬ (I26 x2 (I26 b23 1).toNatClampNeg) = 0 →
      Q (some (.int 1)) I26 L P 205
    ))
  ) ∧ (¬ (I b23 0) ≤ x3 →
    ((¬ ((p1 >>> (x3 &&& 31) : Int32) &&& 1 : Int32) = 1 →
      gw_X11_whisper (d + 1) Q 42 [some (.ref 0), some (.int p1), some (.ref x2), some (.int (x3 + 1))] [] I L P
    ) ∧ (((p1 >>> (x3 &&& 31) : Int32) &&& 1 : Int32) = 1 →
      zMv zm_X10_split d [.ref 74, .int x3, .ref x2, .ref 73] I L P (fun I32 L33 P34 =>
        gw_X11_whisper (d + 1) Q 42 [some (.ref 0), some (.int p1), some (.ref x2), some (.int (x3 + 1))] [] I32 L33 P34
      )
    ))
  ))
set_option maxRecDepth 20000 in
theorem g_X11_whisper_42 {d : Nat} {Q : zQt} {p1 : Int32} {x2 : Nat} {x3 : Int32} {I : zI} {L : zL} {P : zP} (hP : zPk P) (hv : v_X11_whisper_42 d Q p1 x2 x3 I L P) : gw_X11_whisper (d + 1) Q 42 [some (.ref 0), some (.int p1), some (.ref x2), some (.int x3)] [] I L P := by
  unfold v_X11_whisper_42 at hv
  refine z_iload_n dX11_whisper_42 rfl ?_
  refine z_aload_n dX11_whisper_43 rfl ?_
  obtain ⟨b23, h24, hv⟩ := hv
  refine z_getP dX11_whisper_44 zf_X11_26 zn_0 zo_0 (fun _ _ _ _ _ => rfl) h24 ?_
  obtain ⟨h25, hv⟩ := hv
  refine z_getI dX11_whisper_47 zf_X11_118 h25.1 h25.2 (fun _ _ _ _ _ => rfl) ?_
  refine z_icmp_ge (tgt := 84) dX11_whisper_50 (by decide) (fun q38 => ?_) (fun q38 => ?_)
  · have hv := hv.1 q38
    refine z_aload_n dX11_whisper_84 rfl ?_
    refine z_getP dX11_whisper_85 zf_X11_57 zn_0 zo_0 (fun _ _ _ _ _ => rfl) (hP 0 6 73 zp_0_6) ?_
    refine z_dup dX11_whisper_88 rfl ?_
    refine z_getI dX11_whisper_89 zf_X11_183 zn_73 zo_73 (fun _ _ _ _ _ => rfl) ?_
    refine z_iconst (v := 1) dX11_whisper_92 (by decide) ?_
    refine z_iadd dX11_whisper_93 ?_
    refine z_putI dX11_whisper_94 zf_X11_183 zn_73 zo_73 (Or.inl rfl) (fun _ _ _ _ _ => rfl) rfl rfl (z_nmI (fun I26 e27 => ?_))
    have hv := hv I26 e27
    refine z_aload_n dX11_whisper_97 rfl ?_
    refine z_aload_n dX11_whisper_98 rfl ?_
    refine z_getP dX11_whisper_99 zf_X11_26 zn_0 zo_0 (fun _ _ _ _ _ => rfl) h24 ?_
    refine z_getI dX11_whisper_102 zf_X11_158 h25.1 h25.2 (fun _ _ _ _ _ => rfl) ?_
    obtain ⟨n29, h28, hv⟩ := hv
    obtain ⟨h30, hv⟩ := hv
    refine z_iaload dX11_whisper_105 h28.1 h28.2 h30 ?_
    refine z_if_eq (tgt := 113) dX11_whisper_106 (by decide) (fun q31 => ?_) (fun q31 => ?_)
    · have hv := hv.1 q31
      refine z_iconst (v := 0) dX11_whisper_113 (by decide) ?_
      exact z_ireturn dX11_whisper_114 rfl rfl (Nat.le_refl _) (Nat.le_refl _) hv
    · have hv := hv.2 q31
      refine z_iconst (v := 1) dX11_whisper_109 (by decide) ?_
      refine z_goto (tgt := 114) dX11_whisper_110 (by decide) ?_
      exact z_ireturn dX11_whisper_114 rfl rfl (Nat.le_refl _) (Nat.le_refl _) hv
  · have hv := hv.2 q38
    refine z_iload_n dX11_whisper_53 rfl ?_
    refine z_iload_n dX11_whisper_54 rfl ?_
    refine z_ishr dX11_whisper_55 ?_
    refine z_iconst (v := 1) dX11_whisper_56 (by decide) ?_
    refine z_iand dX11_whisper_57 ?_
    refine z_iconst (v := 1) dX11_whisper_58 (by decide) ?_
    refine z_icmp_ne (tgt := 78) dX11_whisper_59 (by decide) (fun q37 => ?_) (fun q37 => ?_)
    · have hv := hv.1 q37
      refine z_iinc (v2 := x3 + 1) (lv2 := [some (.ref 0), some (.int p1), some (.ref x2), some (.int (x3 + 1))]) dX11_whisper_78 rfl (by rfl) (by decide) rfl rfl ?_
      refine z_goto (tgt := 42) dX11_whisper_81 (by decide) ?_
      exact hv
    · have hv := hv.2 q37
      refine z_aload_n dX11_whisper_62 rfl ?_
      refine z_getP dX11_whisper_63 zf_X11_57 zn_0 zo_0 (fun _ _ _ _ _ => rfl) (hP 0 6 73 zp_0_6) ?_
      refine z_getP dX11_whisper_66 zf_X11_61 zn_73 zo_73 (fun _ _ _ _ _ => rfl) (hP 73 0 74 zp_73_0) ?_
      refine z_iload_n dX11_whisper_69 rfl ?_
      refine z_aload_n dX11_whisper_70 rfl ?_
      refine z_aload_n dX11_whisper_71 rfl ?_
      refine z_getP dX11_whisper_72 zf_X11_57 zn_0 zo_0 (fun _ _ _ _ _ => rfl) (hP 0 6 73 zp_0_6) ?_
      refine z_callV (As := [.int x3, .ref x2, .ref 73]) (st := []) dX11_whisper_75 zl_X11_186 zv_X10_split (by decide) rfl zn_74 zo_74 rfl rfl (Nat.le_of_ble_eq_true rfl) ⟨Nat.le_refl _, Nat.le_refl _⟩ ⟨Nat.le_refl _, Nat.le_refl _⟩ hv (fun v1 I32 L33 P34 nx1 q35 => ?_)
      obtain ⟨rfl, rfl, hv⟩ := q35
      refine z_iinc (v2 := x3 + 1) (lv2 := [some (.ref 0), some (.int p1), some (.ref x2), some (.int (x3 + 1))]) dX11_whisper_78 rfl (by rfl) (by decide) rfl rfl ?_
      refine z_goto (tgt := 42) dX11_whisper_81 (by decide) ?_
      exact hv
def v_X11_whisper (d : Nat) (Q : zQt) (p1 : Int32) (I : zI) (L : zL) (P : zP) : Prop :=
  zMi zm_X11_weighTape d [.ref 0] I L P (fun r5 I1 L2 P3 =>
    ((r5 = 0 →
      Q (some (.int (-1))) I1 L2 P3 205
    ) ∧ (¬ r5 = 0 →
      ∃ b6 : Nat, P3 0 2 = some b6 ∧
      (b6 < 205 ∧ (zsh b6).1 = 2) ∧
      zMi zm_X2_arePeople d [.ref b6, .int p1] I1 L2 P3 (fun r13 I9 L10 P11 =>
        ((r13 = 0 →
          Q (some (.int (-1))) I9 L10 P11 205
        ) ∧ (¬ r13 = 0 →
          zPk P11 ∧
          (((I9 73 6) < 8 →
            zMr zm_X4_result d [.ref 23] I9 L10 P11 (fun r19 I15 L16 P17 =>
              gw_X11_whisper (d + 1) Q 42 [some (.ref 0), some (.int p1), some (.ref r19), some (.int 0)] [] I15 L16 P17
            )
          ) ∧ (¬ (I9 73 6) < 8 →
            Q (some (.int (-1))) I9 L10 P11 205
          ))
        ))
      )
    ))
  )
set_option maxRecDepth 20000 in
theorem g_X11_whisper {d : Nat} {Q : zQt} {p1 : Int32} {I : zI} {L : zL} {P : zP} (hP : zPk P) (hv : v_X11_whisper d Q p1 I L P) : zM zm_X11_whisper (d + 1) 0 0 [.ref 0, .int p1] I L P 205 Q := by
  unfold v_X11_whisper at hv
  refine zM_of (lv0 := [some (.ref 0), some (.int p1), none, none]) (by decide +kernel) (Nat.le_of_ble_eq_true rfl) rfl ?_
  refine z_aload_n dX11_whisper_0 rfl ?_
  refine z_callV (As := []) (st := []) dX11_whisper_1 zl_X11_150 zv_X11_weighTape (by decide) rfl zn_0 zo_0 rfl rfl (Nat.le_of_ble_eq_true rfl) ⟨Nat.le_refl _, Nat.le_refl _⟩ ⟨Nat.le_refl _, Nat.le_refl _⟩ hv (fun v1 I1 L2 P3 nx1 q4 => ?_)
  obtain ⟨rfl, r5, rfl, hv⟩ := q4
  refine z_if_eq (tgt := 30) dX11_whisper_4 (by decide) (fun q22 => ?_) (fun q22 => ?_)
  · have hv := hv.1 q22
    refine z_iconst (v := (-1)) dX11_whisper_30 (by decide) ?_
    exact z_ireturn dX11_whisper_31 rfl rfl (Nat.le_refl _) (Nat.le_refl _) hv
  · have hv := hv.2 q22
    refine z_aload_n dX11_whisper_7 rfl ?_
    obtain ⟨b6, h7, hv⟩ := hv
    refine z_getP dX11_whisper_8 zf_X11_26 zn_0 zo_0 (fun _ _ _ _ _ => rfl) h7 ?_
    refine z_iload_n dX11_whisper_11 rfl ?_
    obtain ⟨h8, hv⟩ := hv
    refine z_callV (As := [.int p1]) (st := []) dX11_whisper_12 zl_X11_180 zv_X2_arePeople (by decide) rfl h8.1 h8.2 rfl rfl (Nat.le_of_ble_eq_true rfl) ⟨Nat.le_refl _, Nat.le_refl _⟩ ⟨Nat.le_refl _, Nat.le_refl _⟩ hv (fun v1 I9 L10 P11 nx1 q12 => ?_)
    obtain ⟨rfl, r13, rfl, hv⟩ := q12
    refine z_if_eq (tgt := 30) dX11_whisper_15 (by decide) (fun q21 => ?_) (fun q21 => ?_)
    · have hv := hv.1 q21
      refine z_iconst (v := (-1)) dX11_whisper_30 (by decide) ?_
      exact z_ireturn dX11_whisper_31 rfl rfl (Nat.le_refl _) (Nat.le_refl _) hv
    · have hv := hv.2 q21
      refine z_aload_n dX11_whisper_18 rfl ?_
      obtain ⟨h14, hv⟩ := hv
      refine z_getP dX11_whisper_19 zf_X11_57 zn_0 zo_0 (fun _ _ _ _ _ => rfl) (h14 0 6 73 zp_0_6) ?_
      refine z_getI dX11_whisper_22 zf_X11_183 zn_73 zo_73 (fun _ _ _ _ _ => rfl) ?_
      refine z_bipush (v := 8) dX11_whisper_25 (by decide) ?_
      refine z_icmp_lt (tgt := 32) dX11_whisper_27 (by decide) (fun q20 => ?_) (fun q20 => ?_)
      · have hv := hv.1 q20
        refine z_aload_n dX11_whisper_32 rfl ?_
        refine z_getP dX11_whisper_33 zf_X11_45 zn_0 zo_0 (fun _ _ _ _ _ => rfl) (h14 0 5 23 zp_0_5) ?_
        refine z_callV (As := []) (st := []) dX11_whisper_36 zl_X11_154 zv_X4_result (by decide) rfl zn_23 zo_23 rfl rfl (Nat.le_of_ble_eq_true rfl) ⟨Nat.le_refl _, Nat.le_refl _⟩ ⟨Nat.le_refl _, Nat.le_refl _⟩ hv (fun v1 I15 L16 P17 nx1 q18 => ?_)
        obtain ⟨rfl, r19, rfl, hv⟩ := q18
        refine z_astore_n (lv2 := [some (.ref 0), some (.int p1), some (.ref r19), none]) dX11_whisper_39 (by decide) rfl rfl ?_
        refine z_iconst (v := 0) dX11_whisper_40 (by decide) ?_
        refine z_istore_n (lv2 := [some (.ref 0), some (.int p1), some (.ref r19), some (.int 0)]) dX11_whisper_41 (by decide) rfl rfl ?_
        exact hv
      · have hv := hv.2 q20
        refine z_iconst (v := (-1)) dX11_whisper_30 (by decide) ?_
        exact z_ireturn dX11_whisper_31 rfl rfl (Nat.le_refl _) (Nat.le_refl _) hv
abbrev gw_X11_night (d : Nat) (Q : zQt) (pc : Nat) (lv : zV) (st : List Value) (I : zI) (L : zL) (P : zP) : Prop := zW zm_X11_night (zRm d 0 0) 0 0 Q pc lv st I L P 205 0 0
def v_X11_night (d : Nat) (Q : zQt)  (I : zI) (L : zL) (P : zP) : Prop :=
  ((300 ≤ (I 73 5) →
    Q (some (.int (-1))) I L P 205
  ) ∧ (¬ 300 ≤ (I 73 5) →
    zMi zm_X4_pass d [.ref 23, .ref 73] I L P (fun r5 I1 L2 P3 =>
      Q (some (.int r5)) I1 L2 P3 205
    )
  ))
set_option maxRecDepth 20000 in
theorem g_X11_night {d : Nat} {Q : zQt}  {I : zI} {L : zL} {P : zP} (hP : zPk P) (hv : v_X11_night d Q  I L P) : zM zm_X11_night (d + 1) 0 0 [.ref 0] I L P 205 Q := by
  unfold v_X11_night at hv
  refine zM_of (lv0 := [some (.ref 0)]) (by decide +kernel) (Nat.le_of_ble_eq_true rfl) rfl ?_
  refine z_aload_n dX11_night_0 rfl ?_
  refine z_getP dX11_night_1 zf_X11_57 zn_0 zo_0 (fun _ _ _ _ _ => rfl) (hP 0 6 73 zp_0_6) ?_
  refine z_getI dX11_night_4 zf_X11_190 zn_73 zo_73 (fun _ _ _ _ _ => rfl) ?_
  refine z_sipush (v := 300) dX11_night_7 (by decide) ?_
  refine z_icmp_ge (tgt := 27) dX11_night_10 (by decide) (fun q6 => ?_) (fun q6 => ?_)
  · have hv := hv.1 q6
    refine z_iconst (v := (-1)) dX11_night_27 (by decide) ?_
    exact z_ireturn dX11_night_28 rfl rfl (Nat.le_refl _) (Nat.le_refl _) hv
  · have hv := hv.2 q6
    refine z_aload_n dX11_night_13 rfl ?_
    refine z_getP dX11_night_14 zf_X11_45 zn_0 zo_0 (fun _ _ _ _ _ => rfl) (hP 0 5 23 zp_0_5) ?_
    refine z_aload_n dX11_night_17 rfl ?_
    refine z_getP dX11_night_18 zf_X11_57 zn_0 zo_0 (fun _ _ _ _ _ => rfl) (hP 0 6 73 zp_0_6) ?_
    refine z_callV (As := [.ref 73]) (st := []) dX11_night_21 zl_X11_193 zv_X4_pass (by decide) rfl zn_23 zo_23 rfl rfl (Nat.le_of_ble_eq_true rfl) ⟨Nat.le_refl _, Nat.le_refl _⟩ ⟨Nat.le_refl _, Nat.le_refl _⟩ hv (fun v1 I1 L2 P3 nx1 q4 => ?_)
    obtain ⟨rfl, r5, rfl, hv⟩ := q4
    refine z_goto (tgt := 28) dX11_night_24 (by decide) ?_
    exact z_ireturn dX11_night_28 rfl rfl (Nat.le_refl _) (Nat.le_refl _) hv
abbrev gw_X11_gone (d : Nat) (Q : zQt) (pc : Nat) (lv : zV) (st : List Value) (I : zI) (L : zL) (P : zP) : Prop := zW zm_X11_gone (zRm d 0 0) 0 0 Q pc lv st I L P 205 0 0
def v_X11_gone (d : Nat) (Q : zQt)  (I : zI) (L : zL) (P : zP) : Prop :=
  Q (some (.int (I 73 4))) I L P 205
set_option maxRecDepth 20000 in
theorem g_X11_gone {d : Nat} {Q : zQt}  {I : zI} {L : zL} {P : zP} (hP : zPk P) (hv : v_X11_gone d Q  I L P) : zM zm_X11_gone d 0 0 [.ref 0] I L P 205 Q := by
  unfold v_X11_gone at hv
  refine zM_of (lv0 := [some (.ref 0)]) (by decide +kernel) (Nat.le_of_ble_eq_true rfl) rfl ?_
  refine z_aload_n dX11_gone_0 rfl ?_
  refine z_getP dX11_gone_1 zf_X11_57 zn_0 zo_0 (fun _ _ _ _ _ => rfl) (hP 0 6 73 zp_0_6) ?_
  refine z_getI dX11_gone_4 zf_X11_196 zn_73 zo_73 (fun _ _ _ _ _ => rfl) ?_
  exact z_ireturn dX11_gone_7 rfl rfl (Nat.le_refl _) (Nat.le_refl _) hv
abbrev gw_X11_when (d : Nat) (Q : zQt) (pc : Nat) (lv : zV) (st : List Value) (I : zI) (L : zL) (P : zP) : Prop := zW zm_X11_when (zRm d 0 0) 0 0 Q pc lv st I L P 205 0 0
def v_X11_when_41 (d : Nat) (Q : zQt) (p1 : Int32) (x2 : Int32) (I : zI) (L : zL) (P : zP) : Prop :=
  ((300 < x2 →
    Q (some (.int (-1))) I L P 205
  ) ∧ (¬ 300 < x2 →
    zMi zm_X4_pass d [.ref 23, .ref 86] I L P (fun r21 I17 L18 P19 =>
      ((¬ ((r21 >>> (p1 &&& 31) : Int32) &&& 1 : Int32) = 1 →
        ((¬ r21 = 0 →
          gw_X11_when (d + 1) Q 41 [some (.ref 0), some (.int p1), some (.int (x2 + 1)), none, none] [] I17 L18 P19
        ) ∧ (r21 = 0 →
          zPk P19 ∧
          ((¬ (I17 86 3) = (I 86 3) →
            gw_X11_when (d + 1) Q 41 [some (.ref 0), some (.int p1), some (.int (x2 + 1)), none, none] [] I17 L18 P19
          ) ∧ ((I17 86 3) = (I 86 3) →
            Q (some (.int (-1))) I17 L18 P19 205
          ))
        ))
      ) ∧ (((r21 >>> (p1 &&& 31) : Int32) &&& 1 : Int32) = 1 →
        Q (some (.int x2)) I17 L18 P19 205
      ))
    )
  ))
set_option maxRecDepth 20000 in
theorem g_X11_when_41 {d : Nat} {Q : zQt} {p1 : Int32} {x2 : Int32} {I : zI} {L : zL} {P : zP} (hP : zPk P) (hv : v_X11_when_41 d Q p1 x2 I L P) : gw_X11_when (d + 1) Q 41 [some (.ref 0), some (.int p1), some (.int x2), none, none] [] I L P := by
  unfold v_X11_when_41 at hv
  refine z_iload_n dX11_when_41 rfl ?_
  refine z_sipush (v := 300) dX11_when_42 (by decide) ?_
  refine z_icmp_gt (tgt := 105) dX11_when_45 (by decide) (fun q26 => ?_) (fun q26 => ?_)
  · have hv := hv.1 q26
    refine z_iconst (v := (-1)) dX11_when_105 (by decide) ?_
    exact z_ireturn dX11_when_106 rfl rfl (Nat.le_refl _) (Nat.le_refl _) hv
  · have hv := hv.2 q26
    refine z_aload_n dX11_when_48 rfl ?_
    refine z_getP dX11_when_49 zf_X11_65 zn_0 zo_0 (fun _ _ _ _ _ => rfl) (hP 0 7 86 zp_0_7) ?_
    refine z_getI dX11_when_52 zf_X11_135 zn_86 zo_86 (fun _ _ _ _ _ => rfl) ?_
    refine z_istore_n (lv2 := [some (.ref 0), some (.int p1), some (.int x2), some (.int (I 86 3)), none]) dX11_when_55 (by decide) rfl rfl ?_
    refine z_aload_n dX11_when_56 rfl ?_
    refine z_getP dX11_when_57 zf_X11_45 zn_0 zo_0 (fun _ _ _ _ _ => rfl) (hP 0 5 23 zp_0_5) ?_
    refine z_aload_n dX11_when_60 rfl ?_
    refine z_getP dX11_when_61 zf_X11_65 zn_0 zo_0 (fun _ _ _ _ _ => rfl) (hP 0 7 86 zp_0_7) ?_
    refine z_callV (As := [.ref 86]) (st := []) dX11_when_64 zl_X11_193 zv_X4_pass (by decide) rfl zn_23 zo_23 rfl rfl (Nat.le_of_ble_eq_true rfl) ⟨Nat.le_refl _, Nat.le_refl _⟩ ⟨Nat.le_refl _, Nat.le_refl _⟩ hv (fun v1 I17 L18 P19 nx1 q20 => ?_)
    obtain ⟨rfl, r21, rfl, hv⟩ := q20
    refine z_istore (lv2 := [some (.ref 0), some (.int p1), some (.int x2), some (.int (I 86 3)), some (.int r21)]) dX11_when_67 (by decide) rfl rfl ?_
    refine z_iload dX11_when_69 rfl ?_
    refine z_iload_n dX11_when_71 rfl ?_
    refine z_ishr dX11_when_72 ?_
    refine z_iconst (v := 1) dX11_when_73 (by decide) ?_
    refine z_iand dX11_when_74 ?_
    refine z_iconst (v := 1) dX11_when_75 (by decide) ?_
    refine z_icmp_ne (tgt := 81) dX11_when_76 (by decide) (fun q25 => ?_) (fun q25 => ?_)
    · have hv := hv.1 q25
      refine z_iload dX11_when_81 rfl ?_
      refine z_if_ne (tgt := 99) dX11_when_83 (by decide) (fun q24 => ?_) (fun q24 => ?_)
      · have hv := hv.1 q24
        refine z_iinc (v2 := x2 + 1) (lv2 := [some (.ref 0), some (.int p1), some (.int (x2 + 1)), some (.int (I 86 3)), some (.int r21)]) dX11_when_99 rfl (by rfl) (by decide) rfl rfl ?_
        refine z_goto (tgt := 41) dX11_when_102 (by decide) ?_
        exact z_sub (by exact ⟨rfl, ⟨rfl, ⟨rfl, trivial⟩⟩⟩) hv
      · have hv := hv.2 q24
        refine z_aload_n dX11_when_86 rfl ?_
        obtain ⟨h22, hv⟩ := hv
        refine z_getP dX11_when_87 zf_X11_65 zn_0 zo_0 (fun _ _ _ _ _ => rfl) (h22 0 7 86 zp_0_7) ?_
        refine z_getI dX11_when_90 zf_X11_135 zn_86 zo_86 (fun _ _ _ _ _ => rfl) ?_
        refine z_iload_n dX11_when_93 rfl ?_
        refine z_icmp_ne (tgt := 99) dX11_when_94 (by decide) (fun q23 => ?_) (fun q23 => ?_)
        · have hv := hv.1 q23
          refine z_iinc (v2 := x2 + 1) (lv2 := [some (.ref 0), some (.int p1), some (.int (x2 + 1)), some (.int (I 86 3)), some (.int r21)]) dX11_when_99 rfl (by rfl) (by decide) rfl rfl ?_
          refine z_goto (tgt := 41) dX11_when_102 (by decide) ?_
          exact z_sub (by exact ⟨rfl, ⟨rfl, ⟨rfl, trivial⟩⟩⟩) hv
        · have hv := hv.2 q23
          refine z_iconst (v := (-1)) dX11_when_97 (by decide) ?_
          exact z_ireturn dX11_when_98 rfl rfl (Nat.le_refl _) (Nat.le_refl _) hv
    · have hv := hv.2 q25
      refine z_iload_n dX11_when_79 rfl ?_
      exact z_ireturn dX11_when_80 rfl rfl (Nat.le_refl _) (Nat.le_refl _) hv
def v_X11_when (d : Nat) (Q : zQt) (p1 : Int32) (I : zI) (L : zL) (P : zP) : Prop :=
  ∃ b1 : Nat, P 0 2 = some b1 ∧
  (b1 < 205 ∧ (zsh b1).1 = 2) ∧
  zMi zm_X2_isPerson d [.ref b1, .int p1] I L P (fun r8 I4 L5 P6 =>
    ((r8 = 0 →
      Q (some (.int (-1))) I4 L5 P6 205
    ) ∧ (¬ r8 = 0 →
      zPk P6 ∧
      ((¬ (((I4 73 4) >>> (p1 &&& 31) : Int32) &&& 1 : Int32) = 1 →
        zMv zm_X6_follow d [.ref 86, .ref 73] I4 L5 P6 (fun I10 L11 P12 =>
          gw_X11_when (d + 1) Q 41 [some (.ref 0), some (.int p1), some (.int 1), none, none] [] I10 L11 P12
        )
      ) ∧ ((((I4 73 4) >>> (p1 &&& 31) : Int32) &&& 1 : Int32) = 1 →
        Q (some (.int (-1))) I4 L5 P6 205
      ))
    ))
  )
set_option maxRecDepth 20000 in
theorem g_X11_when {d : Nat} {Q : zQt} {p1 : Int32} {I : zI} {L : zL} {P : zP} (hP : zPk P) (hv : v_X11_when d Q p1 I L P) : zM zm_X11_when (d + 1) 0 0 [.ref 0, .int p1] I L P 205 Q := by
  unfold v_X11_when at hv
  refine zM_of (lv0 := [some (.ref 0), some (.int p1), none, none, none]) (by decide +kernel) (Nat.le_of_ble_eq_true rfl) rfl ?_
  refine z_aload_n dX11_when_0 rfl ?_
  obtain ⟨b1, h2, hv⟩ := hv
  refine z_getP dX11_when_1 zf_X11_26 zn_0 zo_0 (fun _ _ _ _ _ => rfl) h2 ?_
  refine z_iload_n dX11_when_4 rfl ?_
  obtain ⟨h3, hv⟩ := hv
  refine z_callV (As := [.int p1]) (st := []) dX11_when_5 zl_X11_127 zv_X2_isPerson (by decide) rfl h3.1 h3.2 rfl rfl (Nat.le_of_ble_eq_true rfl) ⟨Nat.le_refl _, Nat.le_refl _⟩ ⟨Nat.le_refl _, Nat.le_refl _⟩ hv (fun v1 I4 L5 P6 nx1 q7 => ?_)
  obtain ⟨rfl, r8, rfl, hv⟩ := q7
  refine z_if_eq (tgt := 26) dX11_when_8 (by decide) (fun q16 => ?_) (fun q16 => ?_)
  · have hv := hv.1 q16
    refine z_iconst (v := (-1)) dX11_when_26 (by decide) ?_
    exact z_ireturn dX11_when_27 rfl rfl (Nat.le_refl _) (Nat.le_refl _) hv
  · have hv := hv.2 q16
    refine z_aload_n dX11_when_11 rfl ?_
    obtain ⟨h9, hv⟩ := hv
    refine z_getP dX11_when_12 zf_X11_57 zn_0 zo_0 (fun _ _ _ _ _ => rfl) (h9 0 6 73 zp_0_6) ?_
    refine z_getI dX11_when_15 zf_X11_196 zn_73 zo_73 (fun _ _ _ _ _ => rfl) ?_
    refine z_iload_n dX11_when_18 rfl ?_
    refine z_ishr dX11_when_19 ?_
    refine z_iconst (v := 1) dX11_when_20 (by decide) ?_
    refine z_iand dX11_when_21 ?_
    refine z_iconst (v := 1) dX11_when_22 (by decide) ?_
    refine z_icmp_ne (tgt := 28) dX11_when_23 (by decide) (fun q15 => ?_) (fun q15 => ?_)
    · have hv := hv.1 q15
      refine z_aload_n dX11_when_28 rfl ?_
      refine z_getP dX11_when_29 zf_X11_65 zn_0 zo_0 (fun _ _ _ _ _ => rfl) (h9 0 7 86 zp_0_7) ?_
      refine z_aload_n dX11_when_32 rfl ?_
      refine z_getP dX11_when_33 zf_X11_57 zn_0 zo_0 (fun _ _ _ _ _ => rfl) (h9 0 6 73 zp_0_6) ?_
      refine z_callV (As := [.ref 73]) (st := []) dX11_when_36 zl_X11_199 zv_X6_follow (by decide) rfl zn_86 zo_86 rfl rfl (Nat.le_of_ble_eq_true rfl) ⟨Nat.le_refl _, Nat.le_refl _⟩ ⟨Nat.le_refl _, Nat.le_refl _⟩ hv (fun v1 I10 L11 P12 nx1 q13 => ?_)
      obtain ⟨rfl, rfl, hv⟩ := q13
      refine z_iconst (v := 1) dX11_when_39 (by decide) ?_
      refine z_istore_n (lv2 := [some (.ref 0), some (.int p1), some (.int 1), none, none]) dX11_when_40 (by decide) rfl rfl ?_
      exact hv
    · have hv := hv.2 q15
      refine z_iconst (v := (-1)) dX11_when_26 (by decide) ?_
      exact z_ireturn dX11_when_27 rfl rfl (Nat.le_refl _) (Nat.le_refl _) hv
abbrev gw_X11_fewest (d : Nat) (Q : zQt) (pc : Nat) (lv : zV) (st : List Value) (I : zI) (L : zL) (P : zP) : Prop := zW zm_X11_fewest (zRm d 0 0) 0 0 Q pc lv st I L P 205 0 0
def v_X11_fewest_47 (d : Nat) (Q : zQt) (p1 : Int32) (p2 : Int32) (x3 : Int64) (x5 : Int32) (x6 : Int32) (I : zI) (L : zL) (P : zP) : Prop :=
  ∃ b21 : Nat, P 0 2 = some b21 ∧
  (b21 < 205 ∧ (zsh b21).1 = 2) ∧
  ((((1 : Int32) <<< ((I b21 4) &&& 31) : Int32) ≤ x6 →
    gw_X11_fewest (d + 1) Q 32 [some (.ref 0), some (.int p1), some (.int p2), some (.long x3), none, some (.int (x5 + 1)), none, none] [] I L P
  ) ∧ (¬ ((1 : Int32) <<< ((I b21 4) &&& 31) : Int32) ≤ x6 →
    zMi zm_J6_bitCount_0f7a4 d [.int x6] I L P (fun r28 I24 L25 P26 =>
      ((¬ r28 = x5 →
        (((0 : Int32) = 0 →
          gw_X11_fewest (d + 1) Q 47 [some (.ref 0), some (.int p1), some (.int p2), some (.long x3), none, some (.int x5), some (.int (x6 + 1)), none] [] I24 L25 P26
        ) ∧ (¬ (0 : Int32) = 0 →
          zMi zm_X11_goJust d [.ref 0, .int p1, .int x6, .int p2] I24 L25 P26 (fun r33 I29 L30 P31 =>
            ((r33 = 0 →
              gw_X11_fewest (d + 1) Q 47 [some (.ref 0), some (.int p1), some (.int p2), some (.long x3), none, some (.int x5), some (.int (x6 + 1)), none] [] I29 L30 P31
            ) ∧ (¬ r33 = 0 →
              Q (some (.int x6)) I29 L30 P31 205
            ))
          )
        ))
      ) ∧ (r28 = x5 →
        ((¬ (lg_cmp (((x3 : Int64) >>> ((x6 : Int32).toInt64 &&& 63) : Int64) &&& 1 : Int64) 1) = 0 →
          (((0 : Int32) = 0 →
            gw_X11_fewest (d + 1) Q 47 [some (.ref 0), some (.int p1), some (.int p2), some (.long x3), none, some (.int x5), some (.int (x6 + 1)), none] [] I24 L25 P26
          ) ∧ (¬ (0 : Int32) = 0 →
            zMi zm_X11_goJust d [.ref 0, .int p1, .int x6, .int p2] I24 L25 P26 (fun r40 I36 L37 P38 =>
              ((r40 = 0 →
                gw_X11_fewest (d + 1) Q 47 [some (.ref 0), some (.int p1), some (.int p2), some (.long x3), none, some (.int x5), some (.int (x6 + 1)), none] [] I36 L37 P38
              ) ∧ (¬ r40 = 0 →
                Q (some (.int x6)) I36 L37 P38 205
              ))
            )
          ))
        ) ∧ ((lg_cmp (((x3 : Int64) >>> ((x6 : Int32).toInt64 &&& 63) : Int64) &&& 1 : Int64) 1) = 0 →
          (((1 : Int32) = 0 →
            gw_X11_fewest (d + 1) Q 47 [some (.ref 0), some (.int p1), some (.int p2), some (.long x3), none, some (.int x5), some (.int (x6 + 1)), none] [] I24 L25 P26
          ) ∧ (¬ (1 : Int32) = 0 →
            zMi zm_X11_goJust d [.ref 0, .int p1, .int x6, .int p2] I24 L25 P26 (fun r47 I43 L44 P45 =>
              ((r47 = 0 →
                gw_X11_fewest (d + 1) Q 47 [some (.ref 0), some (.int p1), some (.int p2), some (.long x3), none, some (.int x5), some (.int (x6 + 1)), none] [] I43 L44 P45
              ) ∧ (¬ r47 = 0 →
                Q (some (.int x6)) I43 L44 P45 205
              ))
            )
          ))
        ))
      ))
    )
  ))
set_option maxRecDepth 20000 in
theorem g_X11_fewest_47 {d : Nat} {Q : zQt} {p1 : Int32} {p2 : Int32} {x3 : Int64} {x5 : Int32} {x6 : Int32} {I : zI} {L : zL} {P : zP} (hP : zPk P) (hv : v_X11_fewest_47 d Q p1 p2 x3 x5 x6 I L P) : gw_X11_fewest (d + 1) Q 47 [some (.ref 0), some (.int p1), some (.int p2), some (.long x3), none, some (.int x5), some (.int x6), none] [] I L P := by
  unfold v_X11_fewest_47 at hv
  refine z_iload dX11_fewest_47 rfl ?_
  refine z_iconst (v := 1) dX11_fewest_49 (by decide) ?_
  refine z_aload_n dX11_fewest_50 rfl ?_
  obtain ⟨b21, h22, hv⟩ := hv
  refine z_getP dX11_fewest_51 zf_X11_26 zn_0 zo_0 (fun _ _ _ _ _ => rfl) h22 ?_
  obtain ⟨h23, hv⟩ := hv
  refine z_getI dX11_fewest_54 zf_X11_173 h23.1 h23.2 (fun _ _ _ _ _ => rfl) ?_
  refine z_ishl dX11_fewest_57 ?_
  refine z_icmp_ge (tgt := 114) dX11_fewest_58 (by decide) (fun q52 => ?_) (fun q52 => ?_)
  · have hv := hv.1 q52
    refine z_iinc (v2 := x5 + 1) (lv2 := [some (.ref 0), some (.int p1), some (.int p2), some (.long x3), none, some (.int (x5 + 1)), some (.int x6), none]) dX11_fewest_114 rfl (by rfl) (by decide) rfl rfl ?_
    refine z_goto (tgt := 32) dX11_fewest_117 (by decide) ?_
    exact z_sub (by exact ⟨rfl, ⟨rfl, ⟨rfl, ⟨rfl, ⟨rfl, trivial⟩⟩⟩⟩⟩) hv
  · have hv := hv.2 q52
    refine z_iload dX11_fewest_61 rfl ?_
    refine z_callS (As := [.int x6]) (st := []) dX11_fewest_63 zl_X11_207 zs_J6_bitCount_0f7a4 rfl rfl (Nat.le_of_ble_eq_true rfl) ⟨Nat.le_refl _, Nat.le_refl _⟩ ⟨Nat.le_refl _, Nat.le_refl _⟩ hv (fun v1 I24 L25 P26 nx1 q27 => ?_)
    obtain ⟨rfl, r28, rfl, hv⟩ := q27
    refine z_iload dX11_fewest_66 rfl ?_
    refine z_icmp_ne (tgt := 86) dX11_fewest_68 (by decide) (fun q51 => ?_) (fun q51 => ?_)
    · have hv := hv.1 q51
      refine z_iconst (v := 0) dX11_fewest_86 (by decide) ?_
      refine z_istore (lv2 := [some (.ref 0), some (.int p1), some (.int p2), some (.long x3), none, some (.int x5), some (.int x6), some (.int 0)]) dX11_fewest_87 (by decide) rfl rfl ?_
      refine z_iload dX11_fewest_89 rfl ?_
      refine z_if_eq (tgt := 108) dX11_fewest_91 (by decide) (fun q35 => ?_) (fun q35 => ?_)
      · have hv := hv.1 q35
        refine z_iinc (v2 := x6 + 1) (lv2 := [some (.ref 0), some (.int p1), some (.int p2), some (.long x3), none, some (.int x5), some (.int (x6 + 1)), some (.int 0)]) dX11_fewest_108 rfl (by rfl) (by decide) rfl rfl ?_
        refine z_goto (tgt := 47) dX11_fewest_111 (by decide) ?_
        exact z_sub (by exact ⟨rfl, ⟨rfl, ⟨rfl, ⟨rfl, ⟨rfl, ⟨rfl, trivial⟩⟩⟩⟩⟩⟩) hv
      · have hv := hv.2 q35
        refine z_aload_n dX11_fewest_94 rfl ?_
        refine z_iload_n dX11_fewest_95 rfl ?_
        refine z_iload dX11_fewest_96 rfl ?_
        refine z_iload_n dX11_fewest_98 rfl ?_
        refine z_callV (As := [.int p1, .int x6, .int p2]) (st := []) dX11_fewest_99 zl_X11_213 zv_X11_goJust (by decide) rfl zn_0 zo_0 rfl rfl (Nat.le_of_ble_eq_true rfl) ⟨Nat.le_refl _, Nat.le_refl _⟩ ⟨Nat.le_refl _, Nat.le_refl _⟩ hv (fun v1 I29 L30 P31 nx1 q32 => ?_)
        obtain ⟨rfl, r33, rfl, hv⟩ := q32
        refine z_if_eq (tgt := 108) dX11_fewest_102 (by decide) (fun q34 => ?_) (fun q34 => ?_)
        · have hv := hv.1 q34
          refine z_iinc (v2 := x6 + 1) (lv2 := [some (.ref 0), some (.int p1), some (.int p2), some (.long x3), none, some (.int x5), some (.int (x6 + 1)), some (.int 0)]) dX11_fewest_108 rfl (by rfl) (by decide) rfl rfl ?_
          refine z_goto (tgt := 47) dX11_fewest_111 (by decide) ?_
          exact z_sub (by exact ⟨rfl, ⟨rfl, ⟨rfl, ⟨rfl, ⟨rfl, ⟨rfl, trivial⟩⟩⟩⟩⟩⟩) hv
        · have hv := hv.2 q34
          refine z_iload dX11_fewest_105 rfl ?_
          exact z_ireturn dX11_fewest_107 rfl rfl (Nat.le_refl _) (Nat.le_refl _) hv
    · have hv := hv.2 q51
      refine z_lload_n dX11_fewest_71 rfl ?_
      refine z_iload dX11_fewest_72 rfl ?_
      refine z_lshr dX11_fewest_74 ?_
      refine z_lconst (v := 1) dX11_fewest_75 (by decide) ?_
      refine z_land dX11_fewest_76 ?_
      refine z_lconst (v := 1) dX11_fewest_77 (by decide) ?_
      refine z_lcmp dX11_fewest_78 ?_
      refine z_if_ne (tgt := 86) dX11_fewest_79 (by decide) (fun q50 => ?_) (fun q50 => ?_)
      · have hv := hv.1 q50
        refine z_iconst (v := 0) dX11_fewest_86 (by decide) ?_
        refine z_istore (lv2 := [some (.ref 0), some (.int p1), some (.int p2), some (.long x3), none, some (.int x5), some (.int x6), some (.int 0)]) dX11_fewest_87 (by decide) rfl rfl ?_
        refine z_iload dX11_fewest_89 rfl ?_
        refine z_if_eq (tgt := 108) dX11_fewest_91 (by decide) (fun q42 => ?_) (fun q42 => ?_)
        · have hv := hv.1 q42
          refine z_iinc (v2 := x6 + 1) (lv2 := [some (.ref 0), some (.int p1), some (.int p2), some (.long x3), none, some (.int x5), some (.int (x6 + 1)), some (.int 0)]) dX11_fewest_108 rfl (by rfl) (by decide) rfl rfl ?_
          refine z_goto (tgt := 47) dX11_fewest_111 (by decide) ?_
          exact z_sub (by exact ⟨rfl, ⟨rfl, ⟨rfl, ⟨rfl, ⟨rfl, ⟨rfl, trivial⟩⟩⟩⟩⟩⟩) hv
        · have hv := hv.2 q42
          refine z_aload_n dX11_fewest_94 rfl ?_
          refine z_iload_n dX11_fewest_95 rfl ?_
          refine z_iload dX11_fewest_96 rfl ?_
          refine z_iload_n dX11_fewest_98 rfl ?_
          refine z_callV (As := [.int p1, .int x6, .int p2]) (st := []) dX11_fewest_99 zl_X11_213 zv_X11_goJust (by decide) rfl zn_0 zo_0 rfl rfl (Nat.le_of_ble_eq_true rfl) ⟨Nat.le_refl _, Nat.le_refl _⟩ ⟨Nat.le_refl _, Nat.le_refl _⟩ hv (fun v1 I36 L37 P38 nx1 q39 => ?_)
          obtain ⟨rfl, r40, rfl, hv⟩ := q39
          refine z_if_eq (tgt := 108) dX11_fewest_102 (by decide) (fun q41 => ?_) (fun q41 => ?_)
          · have hv := hv.1 q41
            refine z_iinc (v2 := x6 + 1) (lv2 := [some (.ref 0), some (.int p1), some (.int p2), some (.long x3), none, some (.int x5), some (.int (x6 + 1)), some (.int 0)]) dX11_fewest_108 rfl (by rfl) (by decide) rfl rfl ?_
            refine z_goto (tgt := 47) dX11_fewest_111 (by decide) ?_
            exact z_sub (by exact ⟨rfl, ⟨rfl, ⟨rfl, ⟨rfl, ⟨rfl, ⟨rfl, trivial⟩⟩⟩⟩⟩⟩) hv
          · have hv := hv.2 q41
            refine z_iload dX11_fewest_105 rfl ?_
            exact z_ireturn dX11_fewest_107 rfl rfl (Nat.le_refl _) (Nat.le_refl _) hv
      · have hv := hv.2 q50
        refine z_iconst (v := 1) dX11_fewest_82 (by decide) ?_
        refine z_goto (tgt := 87) dX11_fewest_83 (by decide) ?_
        refine z_istore (lv2 := [some (.ref 0), some (.int p1), some (.int p2), some (.long x3), none, some (.int x5), some (.int x6), some (.int 1)]) dX11_fewest_87 (by decide) rfl rfl ?_
        refine z_iload dX11_fewest_89 rfl ?_
        refine z_if_eq (tgt := 108) dX11_fewest_91 (by decide) (fun q49 => ?_) (fun q49 => ?_)
        · have hv := hv.1 q49
          refine z_iinc (v2 := x6 + 1) (lv2 := [some (.ref 0), some (.int p1), some (.int p2), some (.long x3), none, some (.int x5), some (.int (x6 + 1)), some (.int 1)]) dX11_fewest_108 rfl (by rfl) (by decide) rfl rfl ?_
          refine z_goto (tgt := 47) dX11_fewest_111 (by decide) ?_
          exact z_sub (by exact ⟨rfl, ⟨rfl, ⟨rfl, ⟨rfl, ⟨rfl, ⟨rfl, trivial⟩⟩⟩⟩⟩⟩) hv
        · have hv := hv.2 q49
          refine z_aload_n dX11_fewest_94 rfl ?_
          refine z_iload_n dX11_fewest_95 rfl ?_
          refine z_iload dX11_fewest_96 rfl ?_
          refine z_iload_n dX11_fewest_98 rfl ?_
          refine z_callV (As := [.int p1, .int x6, .int p2]) (st := []) dX11_fewest_99 zl_X11_213 zv_X11_goJust (by decide) rfl zn_0 zo_0 rfl rfl (Nat.le_of_ble_eq_true rfl) ⟨Nat.le_refl _, Nat.le_refl _⟩ ⟨Nat.le_refl _, Nat.le_refl _⟩ hv (fun v1 I43 L44 P45 nx1 q46 => ?_)
          obtain ⟨rfl, r47, rfl, hv⟩ := q46
          refine z_if_eq (tgt := 108) dX11_fewest_102 (by decide) (fun q48 => ?_) (fun q48 => ?_)
          · have hv := hv.1 q48
            refine z_iinc (v2 := x6 + 1) (lv2 := [some (.ref 0), some (.int p1), some (.int p2), some (.long x3), none, some (.int x5), some (.int (x6 + 1)), some (.int 1)]) dX11_fewest_108 rfl (by rfl) (by decide) rfl rfl ?_
            refine z_goto (tgt := 47) dX11_fewest_111 (by decide) ?_
            exact z_sub (by exact ⟨rfl, ⟨rfl, ⟨rfl, ⟨rfl, ⟨rfl, ⟨rfl, trivial⟩⟩⟩⟩⟩⟩) hv
          · have hv := hv.2 q48
            refine z_iload dX11_fewest_105 rfl ?_
            exact z_ireturn dX11_fewest_107 rfl rfl (Nat.le_refl _) (Nat.le_refl _) hv
def v_X11_fewest_32 (d : Nat) (Q : zQt) (p1 : Int32) (p2 : Int32) (x3 : Int64) (x5 : Int32) (I : zI) (L : zL) (P : zP) : Prop :=
  ∃ b17 : Nat, P 0 2 = some b17 ∧
  (b17 < 205 ∧ (zsh b17).1 = 2) ∧
  (((I b17 4) < x5 →
    Q (some (.int (-1))) I L P 205
  ) ∧ (¬ (I b17 4) < x5 →
    gw_X11_fewest (d + 1) Q 47 [some (.ref 0), some (.int p1), some (.int p2), some (.long x3), none, some (.int x5), some (.int 0), none] [] I L P
  ))
set_option maxRecDepth 20000 in
theorem g_X11_fewest_32 {d : Nat} {Q : zQt} {p1 : Int32} {p2 : Int32} {x3 : Int64} {x5 : Int32} {I : zI} {L : zL} {P : zP} (hP : zPk P) (hv : v_X11_fewest_32 d Q p1 p2 x3 x5 I L P) : gw_X11_fewest (d + 1) Q 32 [some (.ref 0), some (.int p1), some (.int p2), some (.long x3), none, some (.int x5), none, none] [] I L P := by
  unfold v_X11_fewest_32 at hv
  refine z_iload dX11_fewest_32 rfl ?_
  refine z_aload_n dX11_fewest_34 rfl ?_
  obtain ⟨b17, h18, hv⟩ := hv
  refine z_getP dX11_fewest_35 zf_X11_26 zn_0 zo_0 (fun _ _ _ _ _ => rfl) h18 ?_
  obtain ⟨h19, hv⟩ := hv
  refine z_getI dX11_fewest_38 zf_X11_173 h19.1 h19.2 (fun _ _ _ _ _ => rfl) ?_
  refine z_icmp_gt (tgt := 120) dX11_fewest_41 (by decide) (fun q20 => ?_) (fun q20 => ?_)
  · have hv := hv.1 q20
    refine z_iconst (v := (-1)) dX11_fewest_120 (by decide) ?_
    exact z_ireturn dX11_fewest_121 rfl rfl (Nat.le_refl _) (Nat.le_refl _) hv
  · have hv := hv.2 q20
    refine z_iconst (v := 0) dX11_fewest_44 (by decide) ?_
    refine z_istore (lv2 := [some (.ref 0), some (.int p1), some (.int p2), some (.long x3), none, some (.int x5), some (.int 0), none]) dX11_fewest_45 (by decide) rfl rfl ?_
    exact hv
def v_X11_fewest (d : Nat) (Q : zQt) (p1 : Int32) (p2 : Int32) (I : zI) (L : zL) (P : zP) : Prop :=
  ∃ b1 : Nat, P 0 2 = some b1 ∧
  (b1 < 205 ∧ (zsh b1).1 = 2) ∧
  zMi zm_X2_arePeople d [.ref b1, .int p1] I L P (fun r8 I4 L5 P6 =>
    ((r8 = 0 →
      Q (some (.int (-1))) I4 L5 P6 205
    ) ∧ (¬ r8 = 0 →
      ((p2 < 1 →
        Q (some (.int (-1))) I4 L5 P6 205
      ) ∧ (¬ p2 < 1 →
        ((p2 ≤ 12 →
          zMl zm_X11_trySayings d [.ref 0] I4 L5 P6 (fun r13 I9 L10 P11 =>
            gw_X11_fewest (d + 1) Q 32 [some (.ref 0), some (.int p1), some (.int p2), some (.long r13), none, some (.int 0), none, none] [] I9 L10 P11
          )
        ) ∧ (¬ p2 ≤ 12 →
          Q (some (.int (-1))) I4 L5 P6 205
        ))
      ))
    ))
  )
set_option maxRecDepth 20000 in
theorem g_X11_fewest {d : Nat} {Q : zQt} {p1 : Int32} {p2 : Int32} {I : zI} {L : zL} {P : zP} (hP : zPk P) (hv : v_X11_fewest d Q p1 p2 I L P) : zM zm_X11_fewest (d + 1) 0 0 [.ref 0, .int p1, .int p2] I L P 205 Q := by
  unfold v_X11_fewest at hv
  refine zM_of (lv0 := [some (.ref 0), some (.int p1), some (.int p2), none, none, none, none, none]) (by decide +kernel) (Nat.le_of_ble_eq_true rfl) rfl ?_
  refine z_aload_n dX11_fewest_0 rfl ?_
  obtain ⟨b1, h2, hv⟩ := hv
  refine z_getP dX11_fewest_1 zf_X11_26 zn_0 zo_0 (fun _ _ _ _ _ => rfl) h2 ?_
  refine z_iload_n dX11_fewest_4 rfl ?_
  obtain ⟨h3, hv⟩ := hv
  refine z_callV (As := [.int p1]) (st := []) dX11_fewest_5 zl_X11_180 zv_X2_arePeople (by decide) rfl h3.1 h3.2 rfl rfl (Nat.le_of_ble_eq_true rfl) ⟨Nat.le_refl _, Nat.le_refl _⟩ ⟨Nat.le_refl _, Nat.le_refl _⟩ hv (fun v1 I4 L5 P6 nx1 q7 => ?_)
  obtain ⟨rfl, r8, rfl, hv⟩ := q7
  refine z_if_eq (tgt := 22) dX11_fewest_8 (by decide) (fun q16 => ?_) (fun q16 => ?_)
  · have hv := hv.1 q16
    refine z_iconst (v := (-1)) dX11_fewest_22 (by decide) ?_
    exact z_ireturn dX11_fewest_23 rfl rfl (Nat.le_refl _) (Nat.le_refl _) hv
  · have hv := hv.2 q16
    refine z_iload_n dX11_fewest_11 rfl ?_
    refine z_iconst (v := 1) dX11_fewest_12 (by decide) ?_
    refine z_icmp_lt (tgt := 22) dX11_fewest_13 (by decide) (fun q15 => ?_) (fun q15 => ?_)
    · have hv := hv.1 q15
      refine z_iconst (v := (-1)) dX11_fewest_22 (by decide) ?_
      exact z_ireturn dX11_fewest_23 rfl rfl (Nat.le_refl _) (Nat.le_refl _) hv
    · have hv := hv.2 q15
      refine z_iload_n dX11_fewest_16 rfl ?_
      refine z_bipush (v := 12) dX11_fewest_17 (by decide) ?_
      refine z_icmp_le (tgt := 24) dX11_fewest_19 (by decide) (fun q14 => ?_) (fun q14 => ?_)
      · have hv := hv.1 q14
        refine z_aload_n dX11_fewest_24 rfl ?_
        refine z_callV (As := []) (st := []) dX11_fewest_25 zl_X11_203 zv_X11_trySayings (by decide) rfl zn_0 zo_0 rfl rfl (Nat.le_of_ble_eq_true rfl) ⟨Nat.le_refl _, Nat.le_refl _⟩ ⟨Nat.le_refl _, Nat.le_refl _⟩ hv (fun v1 I9 L10 P11 nx1 q12 => ?_)
        obtain ⟨rfl, r13, rfl, hv⟩ := q12
        refine z_lstore_n (lv2 := [some (.ref 0), some (.int p1), some (.int p2), some (.long r13), none, none, none, none]) dX11_fewest_28 (by decide) rfl rfl ?_
        refine z_iconst (v := 0) dX11_fewest_29 (by decide) ?_
        refine z_istore (lv2 := [some (.ref 0), some (.int p1), some (.int p2), some (.long r13), none, some (.int 0), none, none]) dX11_fewest_30 (by decide) rfl rfl ?_
        exact hv
      · have hv := hv.2 q14
        refine z_iconst (v := (-1)) dX11_fewest_22 (by decide) ?_
        exact z_ireturn dX11_fewest_23 rfl rfl (Nat.le_refl _) (Nat.le_refl _) hv
abbrev gw_X11_sight (d : Nat) (Q : zQt) (pc : Nat) (lv : zV) (st : List Value) (I : zI) (L : zL) (P : zP) : Prop := zW zm_X11_sight (zRm d 0 0) 0 0 Q pc lv st I L P 205 0 0
def v_X11_sight (d : Nat) (Q : zQt) (p1 : Int32) (p2 : Int32) (p3 : Int32) (I : zI) (L : zL) (P : zP) : Prop :=
  ∃ b1 : Nat, P 0 2 = some b1 ∧
  (b1 < 205 ∧ (zsh b1).1 = 2) ∧
  zMi zm_X2_isPerson d [.ref b1, .int p1] I L P (fun r8 I4 L5 P6 =>
    ((r8 = 0 →
      Q (some (.int (-1))) I4 L5 P6 205
    ) ∧ (¬ r8 = 0 →
      zPk P6 ∧
      zMi zm_X7_tell d [.ref 90, .int p1, .int p2, .int p3] I4 L5 P6 (fun r14 I10 L11 P12 =>
        Q (some (.int r14)) I10 L11 P12 205
      )
    ))
  )
set_option maxRecDepth 20000 in
theorem g_X11_sight {d : Nat} {Q : zQt} {p1 : Int32} {p2 : Int32} {p3 : Int32} {I : zI} {L : zL} {P : zP} (hP : zPk P) (hv : v_X11_sight d Q p1 p2 p3 I L P) : zM zm_X11_sight (d + 1) 0 0 [.ref 0, .int p1, .int p2, .int p3] I L P 205 Q := by
  unfold v_X11_sight at hv
  refine zM_of (lv0 := [some (.ref 0), some (.int p1), some (.int p2), some (.int p3)]) (by decide +kernel) (Nat.le_of_ble_eq_true rfl) rfl ?_
  refine z_aload_n dX11_sight_0 rfl ?_
  obtain ⟨b1, h2, hv⟩ := hv
  refine z_getP dX11_sight_1 zf_X11_26 zn_0 zo_0 (fun _ _ _ _ _ => rfl) h2 ?_
  refine z_iload_n dX11_sight_4 rfl ?_
  obtain ⟨h3, hv⟩ := hv
  refine z_callV (As := [.int p1]) (st := []) dX11_sight_5 zl_X11_127 zv_X2_isPerson (by decide) rfl h3.1 h3.2 rfl rfl (Nat.le_of_ble_eq_true rfl) ⟨Nat.le_refl _, Nat.le_refl _⟩ ⟨Nat.le_refl _, Nat.le_refl _⟩ hv (fun v1 I4 L5 P6 nx1 q7 => ?_)
  obtain ⟨rfl, r8, rfl, hv⟩ := q7
  refine z_if_eq (tgt := 24) dX11_sight_8 (by decide) (fun q15 => ?_) (fun q15 => ?_)
  · have hv := hv.1 q15
    refine z_iconst (v := (-1)) dX11_sight_24 (by decide) ?_
    exact z_ireturn dX11_sight_25 rfl rfl (Nat.le_refl _) (Nat.le_refl _) hv
  · have hv := hv.2 q15
    refine z_aload_n dX11_sight_11 rfl ?_
    obtain ⟨h9, hv⟩ := hv
    refine z_getP dX11_sight_12 zf_X11_79 zn_0 zo_0 (fun _ _ _ _ _ => rfl) (h9 0 10 90 zp_0_10) ?_
    refine z_iload_n dX11_sight_15 rfl ?_
    refine z_iload_n dX11_sight_16 rfl ?_
    refine z_iload_n dX11_sight_17 rfl ?_
    refine z_callV (As := [.int p1, .int p2, .int p3]) (st := []) dX11_sight_18 zl_X11_216 zv_X7_tell (by decide) rfl zn_90 zo_90 rfl rfl (Nat.le_of_ble_eq_true rfl) ⟨Nat.le_refl _, Nat.le_refl _⟩ ⟨Nat.le_refl _, Nat.le_refl _⟩ hv (fun v1 I10 L11 P12 nx1 q13 => ?_)
    obtain ⟨rfl, r14, rfl, hv⟩ := q13
    refine z_goto (tgt := 25) dX11_sight_21 (by decide) ?_
    exact z_ireturn dX11_sight_25 rfl rfl (Nat.le_refl _) (Nat.le_refl _) hv
abbrev gw_X11_untell (d : Nat) (Q : zQt) (pc : Nat) (lv : zV) (st : List Value) (I : zI) (L : zL) (P : zP) : Prop := zW zm_X11_untell (zRm d 0 0) 0 0 Q pc lv st I L P 205 0 0
def v_X11_untell (d : Nat) (Q : zQt) (p1 : Int32) (I : zI) (L : zL) (P : zP) : Prop :=
  zMi zm_X7_takeBack d [.ref 90, .int p1] I L P (fun r5 I1 L2 P3 =>
    (r5 = 0 ∨ r5 = 1) ∧
    Q (some (.int r5)) I1 L2 P3 205
  )
set_option maxRecDepth 20000 in
theorem g_X11_untell {d : Nat} {Q : zQt} {p1 : Int32} {I : zI} {L : zL} {P : zP} (hP : zPk P) (hv : v_X11_untell d Q p1 I L P) : zM zm_X11_untell (d + 1) 0 0 [.ref 0, .int p1] I L P 205 Q := by
  unfold v_X11_untell at hv
  refine zM_of (lv0 := [some (.ref 0), some (.int p1)]) (by decide +kernel) (Nat.le_of_ble_eq_true rfl) rfl ?_
  refine z_aload_n dX11_untell_0 rfl ?_
  refine z_getP dX11_untell_1 zf_X11_79 zn_0 zo_0 (fun _ _ _ _ _ => rfl) (hP 0 10 90 zp_0_10) ?_
  refine z_iload_n dX11_untell_4 rfl ?_
  refine z_callV (As := [.int p1]) (st := []) dX11_untell_5 zl_X11_220 zv_X7_takeBack (by decide) rfl zn_90 zo_90 rfl rfl (Nat.le_of_ble_eq_true rfl) ⟨Nat.le_refl _, Nat.le_refl _⟩ ⟨Nat.le_refl _, Nat.le_refl _⟩ hv (fun v1 I1 L2 P3 nx1 q4 => ?_)
  obtain ⟨rfl, r5, rfl, hv⟩ := q4
  obtain ⟨h6, hv⟩ := hv
  exact z_ireturn dX11_untell_8 rfl (zbn h6) (Nat.le_refl _) (Nat.le_refl _) hv
abbrev gw_X11_later (d : Nat) (Q : zQt) (pc : Nat) (lv : zV) (st : List Value) (I : zI) (L : zL) (P : zP) : Prop := zW zm_X11_later (zRm d 0 0) 0 0 Q pc lv st I L P 205 0 0
def v_X11_later (d : Nat) (Q : zQt) (p1 : Int32) (I : zI) (L : zL) (P : zP) : Prop :=
  zMi zm_X7_goOn d [.ref 90, .int p1] I L P (fun r5 I1 L2 P3 =>
    Q (some (.int r5)) I1 L2 P3 205
  )
set_option maxRecDepth 20000 in
theorem g_X11_later {d : Nat} {Q : zQt} {p1 : Int32} {I : zI} {L : zL} {P : zP} (hP : zPk P) (hv : v_X11_later d Q p1 I L P) : zM zm_X11_later (d + 1) 0 0 [.ref 0, .int p1] I L P 205 Q := by
  unfold v_X11_later at hv
  refine zM_of (lv0 := [some (.ref 0), some (.int p1)]) (by decide +kernel) (Nat.le_of_ble_eq_true rfl) rfl ?_
  refine z_aload_n dX11_later_0 rfl ?_
  refine z_getP dX11_later_1 zf_X11_79 zn_0 zo_0 (fun _ _ _ _ _ => rfl) (hP 0 10 90 zp_0_10) ?_
  refine z_iload_n dX11_later_4 rfl ?_
  refine z_callV (As := [.int p1]) (st := []) dX11_later_5 zl_X11_223 zv_X7_goOn (by decide) rfl zn_90 zo_90 rfl rfl (Nat.le_of_ble_eq_true rfl) ⟨Nat.le_refl _, Nat.le_refl _⟩ ⟨Nat.le_refl _, Nat.le_refl _⟩ hv (fun v1 I1 L2 P3 nx1 q4 => ?_)
  obtain ⟨rfl, r5, rfl, hv⟩ := q4
  exact z_ireturn dX11_later_8 rfl rfl (Nat.le_refl _) (Nat.le_refl _) hv
abbrev gw_X11_fits (d : Nat) (Q : zQt) (pc : Nat) (lv : zV) (st : List Value) (I : zI) (L : zL) (P : zP) : Prop := zW zm_X11_fits (zRm d 0 0) 0 0 Q pc lv st I L P 205 0 0
def v_X11_fits (d : Nat) (Q : zQt) (p1 : Int32) (I : zI) (L : zL) (P : zP) : Prop :=
  ∃ b1 : Nat, P 0 2 = some b1 ∧
  (b1 < 205 ∧ (zsh b1).1 = 2) ∧
  (((I b1 0) ≤ 6 →
    zMi zm_X11_countFits d [.ref 0, .int p1] I L P (fun r8 I4 L5 P6 =>
      Q (some (.int r8)) I4 L5 P6 205
    )
  ) ∧ (¬ (I b1 0) ≤ 6 →
    Q (some (.int (-2))) I L P 205
  ))
set_option maxRecDepth 20000 in
theorem g_X11_fits {d : Nat} {Q : zQt} {p1 : Int32} {I : zI} {L : zL} {P : zP} (hP : zPk P) (hv : v_X11_fits d Q p1 I L P) : zM zm_X11_fits (d + 1) 0 0 [.ref 0, .int p1] I L P 205 Q := by
  unfold v_X11_fits at hv
  refine zM_of (lv0 := [some (.ref 0), some (.int p1)]) (by decide +kernel) (Nat.le_of_ble_eq_true rfl) rfl ?_
  refine z_aload_n dX11_fits_0 rfl ?_
  obtain ⟨b1, h2, hv⟩ := hv
  refine z_getP dX11_fits_1 zf_X11_26 zn_0 zo_0 (fun _ _ _ _ _ => rfl) h2 ?_
  obtain ⟨h3, hv⟩ := hv
  refine z_getI dX11_fits_4 zf_X11_118 h3.1 h3.2 (fun _ _ _ _ _ => rfl) ?_
  refine z_bipush (v := 6) dX11_fits_7 (by decide) ?_
  refine z_icmp_le (tgt := 15) dX11_fits_9 (by decide) (fun q9 => ?_) (fun q9 => ?_)
  · have hv := hv.1 q9
    refine z_aload_n dX11_fits_15 rfl ?_
    refine z_iload_n dX11_fits_16 rfl ?_
    refine z_callV (As := [.int p1]) (st := []) dX11_fits_17 zl_X11_226 zv_X11_countFits (by decide) rfl zn_0 zo_0 rfl rfl (Nat.le_of_ble_eq_true rfl) ⟨Nat.le_refl _, Nat.le_refl _⟩ ⟨Nat.le_refl _, Nat.le_refl _⟩ hv (fun v1 I4 L5 P6 nx1 q7 => ?_)
    obtain ⟨rfl, r8, rfl, hv⟩ := q7
    exact z_ireturn dX11_fits_20 rfl rfl (Nat.le_refl _) (Nat.le_refl _) hv
  · have hv := hv.2 q9
    refine z_bipush (v := (-2)) dX11_fits_12 (by decide) ?_
    exact z_ireturn dX11_fits_14 rfl rfl (Nat.le_refl _) (Nat.le_refl _) hv
abbrev gw_X11_sure (d : Nat) (Q : zQt) (pc : Nat) (lv : zV) (st : List Value) (I : zI) (L : zL) (P : zP) : Prop := zW zm_X11_sure (zRm d 0 0) 0 0 Q pc lv st I L P 205 0 0
def v_X11_sure (d : Nat) (Q : zQt) (p1 : Int32) (p2 : Int32) (I : zI) (L : zL) (P : zP) : Prop :=
  ∃ b1 : Nat, P 0 2 = some b1 ∧
  (b1 < 205 ∧ (zsh b1).1 = 2) ∧
  zMi zm_X2_isPerson d [.ref b1, .int p1] I L P (fun r8 I4 L5 P6 =>
    ((¬ r8 = 0 →
      ∃ b9 : Nat, P6 0 2 = some b9 ∧
      (b9 < 205 ∧ (zsh b9).1 = 2) ∧
      (((I4 b9 0) ≤ 6 →
        zMi zm_X11_countFits d [.ref 0, .int p2] I4 L5 P6 (fun r16 I12 L13 P14 =>
          ((¬ r16 = 0 →
            zPk P14 ∧
            ((¬ (((I12 96 5) >>> (p1 &&& 31) : Int32) &&& 1 : Int32) = 1 →
              ((¬ (((I12 96 6) >>> (p1 &&& 31) : Int32) &&& 1 : Int32) = 1 →
                (((0 : Int32) = 0 →
                  (((0 : Int32) = 0 →
                    Q (some (.int 0)) I12 L13 P14 205
                  ) ∧ (¬ (0 : Int32) = 0 →
                    Q (some (.int 1)) I12 L13 P14 205
                  ))
                ) ∧ (¬ (0 : Int32) = 0 →
                  (((0 : Int32) = 0 →
                    (((0 : Int32) = 0 →
                      Q (some (.int 0)) I12 L13 P14 205
                    ) ∧ (¬ (0 : Int32) = 0 →
                      Q (some (.int 1)) I12 L13 P14 205
                    ))
                  ) ∧ (¬ (0 : Int32) = 0 →
                    Q (some (.int (-2))) I12 L13 P14 205
                  ))
                ))
              ) ∧ ((((I12 96 6) >>> (p1 &&& 31) : Int32) &&& 1 : Int32) = 1 →
                (((0 : Int32) = 0 →
                  (((0 : Int32) = 0 →
                    Q (some (.int 0)) I12 L13 P14 205
                  ) ∧ (¬ (0 : Int32) = 0 →
                    Q (some (.int 1)) I12 L13 P14 205
                  ))
                ) ∧ (¬ (0 : Int32) = 0 →
                  (((1 : Int32) = 0 →
                    (((0 : Int32) = 0 →
                      Q (some (.int 0)) I12 L13 P14 205
                    ) ∧ (¬ (0 : Int32) = 0 →
                      Q (some (.int 1)) I12 L13 P14 205
                    ))
                  ) ∧ (¬ (1 : Int32) = 0 →
                    Q (some (.int (-2))) I12 L13 P14 205
                  ))
                ))
              ))
            ) ∧ ((((I12 96 5) >>> (p1 &&& 31) : Int32) &&& 1 : Int32) = 1 →
              ((¬ (((I12 96 6) >>> (p1 &&& 31) : Int32) &&& 1 : Int32) = 1 →
                (((1 : Int32) = 0 →
                  (((1 : Int32) = 0 →
                    Q (some (.int 0)) I12 L13 P14 205
                  ) ∧ (¬ (1 : Int32) = 0 →
                    Q (some (.int 1)) I12 L13 P14 205
                  ))
                ) ∧ (¬ (1 : Int32) = 0 →
                  (((0 : Int32) = 0 →
                    (((1 : Int32) = 0 →
                      Q (some (.int 0)) I12 L13 P14 205
                    ) ∧ (¬ (1 : Int32) = 0 →
                      Q (some (.int 1)) I12 L13 P14 205
                    ))
                  ) ∧ (¬ (0 : Int32) = 0 →
                    Q (some (.int (-2))) I12 L13 P14 205
                  ))
                ))
              ) ∧ ((((I12 96 6) >>> (p1 &&& 31) : Int32) &&& 1 : Int32) = 1 →
                (((1 : Int32) = 0 →
                  (((1 : Int32) = 0 →
                    Q (some (.int 0)) I12 L13 P14 205
                  ) ∧ (¬ (1 : Int32) = 0 →
                    Q (some (.int 1)) I12 L13 P14 205
                  ))
                ) ∧ (¬ (1 : Int32) = 0 →
                  (((1 : Int32) = 0 →
                    (((1 : Int32) = 0 →
                      Q (some (.int 0)) I12 L13 P14 205
                    ) ∧ (¬ (1 : Int32) = 0 →
                      Q (some (.int 1)) I12 L13 P14 205
                    ))
                  ) ∧ (¬ (1 : Int32) = 0 →
                    Q (some (.int (-2))) I12 L13 P14 205
                  ))
                ))
              ))
            ))
          ) ∧ (r16 = 0 →
            Q (some (.int (-1))) I12 L13 P14 205
          ))
        )
      ) ∧ (¬ (I4 b9 0) ≤ 6 →
        Q (some (.int (-3))) I4 L5 P6 205
      ))
    ) ∧ (r8 = 0 →
      Q (some (.int (-1))) I4 L5 P6 205
    ))
  )
set_option maxRecDepth 20000 in
theorem g_X11_sure {d : Nat} {Q : zQt} {p1 : Int32} {p2 : Int32} {I : zI} {L : zL} {P : zP} (hP : zPk P) (hv : v_X11_sure d Q p1 p2 I L P) : zM zm_X11_sure (d + 1) 0 0 [.ref 0, .int p1, .int p2] I L P 205 Q := by
  unfold v_X11_sure at hv
  refine zM_of (lv0 := [some (.ref 0), some (.int p1), some (.int p2), none, none]) (by decide +kernel) (Nat.le_of_ble_eq_true rfl) rfl ?_
  refine z_aload_n dX11_sure_0 rfl ?_
  obtain ⟨b1, h2, hv⟩ := hv
  refine z_getP dX11_sure_1 zf_X11_26 zn_0 zo_0 (fun _ _ _ _ _ => rfl) h2 ?_
  refine z_iload_n dX11_sure_4 rfl ?_
  obtain ⟨h3, hv⟩ := hv
  refine z_callV (As := [.int p1]) (st := []) dX11_sure_5 zl_X11_127 zv_X2_isPerson (by decide) rfl h3.1 h3.2 rfl rfl (Nat.le_of_ble_eq_true rfl) ⟨Nat.le_refl _, Nat.le_refl _⟩ ⟨Nat.le_refl _, Nat.le_refl _⟩ hv (fun v1 I4 L5 P6 nx1 q7 => ?_)
  obtain ⟨rfl, r8, rfl, hv⟩ := q7
  refine z_if_ne (tgt := 13) dX11_sure_8 (by decide) (fun q39 => ?_) (fun q39 => ?_)
  · have hv := hv.1 q39
    refine z_aload_n dX11_sure_13 rfl ?_
    obtain ⟨b9, h10, hv⟩ := hv
    refine z_getP dX11_sure_14 zf_X11_26 zn_0 zo_0 (fun _ _ _ _ _ => rfl) h10 ?_
    obtain ⟨h11, hv⟩ := hv
    refine z_getI dX11_sure_17 zf_X11_118 h11.1 h11.2 (fun _ _ _ _ _ => rfl) ?_
    refine z_bipush (v := 6) dX11_sure_20 (by decide) ?_
    refine z_icmp_le (tgt := 28) dX11_sure_22 (by decide) (fun q38 => ?_) (fun q38 => ?_)
    · have hv := hv.1 q38
      refine z_aload_n dX11_sure_28 rfl ?_
      refine z_iload_n dX11_sure_29 rfl ?_
      refine z_callV (As := [.int p2]) (st := []) dX11_sure_30 zl_X11_226 zv_X11_countFits (by decide) rfl zn_0 zo_0 rfl rfl (Nat.le_of_ble_eq_true rfl) ⟨Nat.le_refl _, Nat.le_refl _⟩ ⟨Nat.le_refl _, Nat.le_refl _⟩ hv (fun v1 I12 L13 P14 nx1 q15 => ?_)
      obtain ⟨rfl, r16, rfl, hv⟩ := q15
      refine z_if_ne (tgt := 38) dX11_sure_33 (by decide) (fun q37 => ?_) (fun q37 => ?_)
      · have hv := hv.1 q37
        refine z_aload_n dX11_sure_38 rfl ?_
        obtain ⟨h17, hv⟩ := hv
        refine z_getP dX11_sure_39 zf_X11_88 zn_0 zo_0 (fun _ _ _ _ _ => rfl) (h17 0 11 96 zp_0_11) ?_
        refine z_getI dX11_sure_42 zf_X11_229 zn_96 zo_96 (fun _ _ _ _ _ => rfl) ?_
        refine z_iload_n dX11_sure_45 rfl ?_
        refine z_ishr dX11_sure_46 ?_
        refine z_iconst (v := 1) dX11_sure_47 (by decide) ?_
        refine z_iand dX11_sure_48 ?_
        refine z_iconst (v := 1) dX11_sure_49 (by decide) ?_
        refine z_icmp_ne (tgt := 57) dX11_sure_50 (by decide) (fun q36 => ?_) (fun q36 => ?_)
        · have hv := hv.1 q36
          refine z_iconst (v := 0) dX11_sure_57 (by decide) ?_
          refine z_istore_n (lv2 := [some (.ref 0), some (.int p1), some (.int p2), some (.int 0), none]) dX11_sure_58 (by decide) rfl rfl ?_
          refine z_aload_n dX11_sure_59 rfl ?_
          refine z_getP dX11_sure_60 zf_X11_88 zn_0 zo_0 (fun _ _ _ _ _ => rfl) (h17 0 11 96 zp_0_11) ?_
          refine z_getI dX11_sure_63 zf_X11_232 zn_96 zo_96 (fun _ _ _ _ _ => rfl) ?_
          refine z_iload_n dX11_sure_66 rfl ?_
          refine z_ishr dX11_sure_67 ?_
          refine z_iconst (v := 1) dX11_sure_68 (by decide) ?_
          refine z_iand dX11_sure_69 ?_
          refine z_iconst (v := 1) dX11_sure_70 (by decide) ?_
          refine z_icmp_ne (tgt := 78) dX11_sure_71 (by decide) (fun q26 => ?_) (fun q26 => ?_)
          · have hv := hv.1 q26
            refine z_iconst (v := 0) dX11_sure_78 (by decide) ?_
            refine z_istore (lv2 := [some (.ref 0), some (.int p1), some (.int p2), some (.int 0), some (.int 0)]) dX11_sure_79 (by decide) rfl rfl ?_
            refine z_iload_n dX11_sure_81 rfl ?_
            refine z_if_eq (tgt := 93) dX11_sure_82 (by decide) (fun q21 => ?_) (fun q21 => ?_)
            · have hv := hv.1 q21
              refine z_iload_n dX11_sure_93 rfl ?_
              refine z_if_eq (tgt := 101) dX11_sure_94 (by decide) (fun q18 => ?_) (fun q18 => ?_)
              · have hv := hv.1 q18
                refine z_iconst (v := 0) dX11_sure_101 (by decide) ?_
                exact z_ireturn dX11_sure_102 rfl rfl (Nat.le_refl _) (Nat.le_refl _) hv
              · have hv := hv.2 q18
                refine z_iconst (v := 1) dX11_sure_97 (by decide) ?_
                refine z_goto (tgt := 102) dX11_sure_98 (by decide) ?_
                exact z_ireturn dX11_sure_102 rfl rfl (Nat.le_refl _) (Nat.le_refl _) hv
            · have hv := hv.2 q21
              refine z_iload dX11_sure_85 rfl ?_
              refine z_if_eq (tgt := 93) dX11_sure_87 (by decide) (fun q20 => ?_) (fun q20 => ?_)
              · have hv := hv.1 q20
                refine z_iload_n dX11_sure_93 rfl ?_
                refine z_if_eq (tgt := 101) dX11_sure_94 (by decide) (fun q19 => ?_) (fun q19 => ?_)
                · have hv := hv.1 q19
                  refine z_iconst (v := 0) dX11_sure_101 (by decide) ?_
                  exact z_ireturn dX11_sure_102 rfl rfl (Nat.le_refl _) (Nat.le_refl _) hv
                · have hv := hv.2 q19
                  refine z_iconst (v := 1) dX11_sure_97 (by decide) ?_
                  refine z_goto (tgt := 102) dX11_sure_98 (by decide) ?_
                  exact z_ireturn dX11_sure_102 rfl rfl (Nat.le_refl _) (Nat.le_refl _) hv
              · have hv := hv.2 q20
                refine z_bipush (v := (-2)) dX11_sure_90 (by decide) ?_
                exact z_ireturn dX11_sure_92 rfl rfl (Nat.le_refl _) (Nat.le_refl _) hv
          · have hv := hv.2 q26
            refine z_iconst (v := 1) dX11_sure_74 (by decide) ?_
            refine z_goto (tgt := 79) dX11_sure_75 (by decide) ?_
            refine z_istore (lv2 := [some (.ref 0), some (.int p1), some (.int p2), some (.int 0), some (.int 1)]) dX11_sure_79 (by decide) rfl rfl ?_
            refine z_iload_n dX11_sure_81 rfl ?_
            refine z_if_eq (tgt := 93) dX11_sure_82 (by decide) (fun q25 => ?_) (fun q25 => ?_)
            · have hv := hv.1 q25
              refine z_iload_n dX11_sure_93 rfl ?_
              refine z_if_eq (tgt := 101) dX11_sure_94 (by decide) (fun q22 => ?_) (fun q22 => ?_)
              · have hv := hv.1 q22
                refine z_iconst (v := 0) dX11_sure_101 (by decide) ?_
                exact z_ireturn dX11_sure_102 rfl rfl (Nat.le_refl _) (Nat.le_refl _) hv
              · have hv := hv.2 q22
                refine z_iconst (v := 1) dX11_sure_97 (by decide) ?_
                refine z_goto (tgt := 102) dX11_sure_98 (by decide) ?_
                exact z_ireturn dX11_sure_102 rfl rfl (Nat.le_refl _) (Nat.le_refl _) hv
            · have hv := hv.2 q25
              refine z_iload dX11_sure_85 rfl ?_
              refine z_if_eq (tgt := 93) dX11_sure_87 (by decide) (fun q24 => ?_) (fun q24 => ?_)
              · have hv := hv.1 q24
                refine z_iload_n dX11_sure_93 rfl ?_
                refine z_if_eq (tgt := 101) dX11_sure_94 (by decide) (fun q23 => ?_) (fun q23 => ?_)
                · have hv := hv.1 q23
                  refine z_iconst (v := 0) dX11_sure_101 (by decide) ?_
                  exact z_ireturn dX11_sure_102 rfl rfl (Nat.le_refl _) (Nat.le_refl _) hv
                · have hv := hv.2 q23
                  refine z_iconst (v := 1) dX11_sure_97 (by decide) ?_
                  refine z_goto (tgt := 102) dX11_sure_98 (by decide) ?_
                  exact z_ireturn dX11_sure_102 rfl rfl (Nat.le_refl _) (Nat.le_refl _) hv
              · have hv := hv.2 q24
                refine z_bipush (v := (-2)) dX11_sure_90 (by decide) ?_
                exact z_ireturn dX11_sure_92 rfl rfl (Nat.le_refl _) (Nat.le_refl _) hv
        · have hv := hv.2 q36
          refine z_iconst (v := 1) dX11_sure_53 (by decide) ?_
          refine z_goto (tgt := 58) dX11_sure_54 (by decide) ?_
          refine z_istore_n (lv2 := [some (.ref 0), some (.int p1), some (.int p2), some (.int 1), none]) dX11_sure_58 (by decide) rfl rfl ?_
          refine z_aload_n dX11_sure_59 rfl ?_
          refine z_getP dX11_sure_60 zf_X11_88 zn_0 zo_0 (fun _ _ _ _ _ => rfl) (h17 0 11 96 zp_0_11) ?_
          refine z_getI dX11_sure_63 zf_X11_232 zn_96 zo_96 (fun _ _ _ _ _ => rfl) ?_
          refine z_iload_n dX11_sure_66 rfl ?_
          refine z_ishr dX11_sure_67 ?_
          refine z_iconst (v := 1) dX11_sure_68 (by decide) ?_
          refine z_iand dX11_sure_69 ?_
          refine z_iconst (v := 1) dX11_sure_70 (by decide) ?_
          refine z_icmp_ne (tgt := 78) dX11_sure_71 (by decide) (fun q35 => ?_) (fun q35 => ?_)
          · have hv := hv.1 q35
            refine z_iconst (v := 0) dX11_sure_78 (by decide) ?_
            refine z_istore (lv2 := [some (.ref 0), some (.int p1), some (.int p2), some (.int 1), some (.int 0)]) dX11_sure_79 (by decide) rfl rfl ?_
            refine z_iload_n dX11_sure_81 rfl ?_
            refine z_if_eq (tgt := 93) dX11_sure_82 (by decide) (fun q30 => ?_) (fun q30 => ?_)
            · have hv := hv.1 q30
              refine z_iload_n dX11_sure_93 rfl ?_
              refine z_if_eq (tgt := 101) dX11_sure_94 (by decide) (fun q27 => ?_) (fun q27 => ?_)
              · have hv := hv.1 q27
                refine z_iconst (v := 0) dX11_sure_101 (by decide) ?_
                exact z_ireturn dX11_sure_102 rfl rfl (Nat.le_refl _) (Nat.le_refl _) hv
              · have hv := hv.2 q27
                refine z_iconst (v := 1) dX11_sure_97 (by decide) ?_
                refine z_goto (tgt := 102) dX11_sure_98 (by decide) ?_
                exact z_ireturn dX11_sure_102 rfl rfl (Nat.le_refl _) (Nat.le_refl _) hv
            · have hv := hv.2 q30
              refine z_iload dX11_sure_85 rfl ?_
              refine z_if_eq (tgt := 93) dX11_sure_87 (by decide) (fun q29 => ?_) (fun q29 => ?_)
              · have hv := hv.1 q29
                refine z_iload_n dX11_sure_93 rfl ?_
                refine z_if_eq (tgt := 101) dX11_sure_94 (by decide) (fun q28 => ?_) (fun q28 => ?_)
                · have hv := hv.1 q28
                  refine z_iconst (v := 0) dX11_sure_101 (by decide) ?_
                  exact z_ireturn dX11_sure_102 rfl rfl (Nat.le_refl _) (Nat.le_refl _) hv
                · have hv := hv.2 q28
                  refine z_iconst (v := 1) dX11_sure_97 (by decide) ?_
                  refine z_goto (tgt := 102) dX11_sure_98 (by decide) ?_
                  exact z_ireturn dX11_sure_102 rfl rfl (Nat.le_refl _) (Nat.le_refl _) hv
              · have hv := hv.2 q29
                refine z_bipush (v := (-2)) dX11_sure_90 (by decide) ?_
                exact z_ireturn dX11_sure_92 rfl rfl (Nat.le_refl _) (Nat.le_refl _) hv
          · have hv := hv.2 q35
            refine z_iconst (v := 1) dX11_sure_74 (by decide) ?_
            refine z_goto (tgt := 79) dX11_sure_75 (by decide) ?_
            refine z_istore (lv2 := [some (.ref 0), some (.int p1), some (.int p2), some (.int 1), some (.int 1)]) dX11_sure_79 (by decide) rfl rfl ?_
            refine z_iload_n dX11_sure_81 rfl ?_
            refine z_if_eq (tgt := 93) dX11_sure_82 (by decide) (fun q34 => ?_) (fun q34 => ?_)
            · have hv := hv.1 q34
              refine z_iload_n dX11_sure_93 rfl ?_
              refine z_if_eq (tgt := 101) dX11_sure_94 (by decide) (fun q31 => ?_) (fun q31 => ?_)
              · have hv := hv.1 q31
                refine z_iconst (v := 0) dX11_sure_101 (by decide) ?_
                exact z_ireturn dX11_sure_102 rfl rfl (Nat.le_refl _) (Nat.le_refl _) hv
              · have hv := hv.2 q31
                refine z_iconst (v := 1) dX11_sure_97 (by decide) ?_
                refine z_goto (tgt := 102) dX11_sure_98 (by decide) ?_
                exact z_ireturn dX11_sure_102 rfl rfl (Nat.le_refl _) (Nat.le_refl _) hv
            · have hv := hv.2 q34
              refine z_iload dX11_sure_85 rfl ?_
              refine z_if_eq (tgt := 93) dX11_sure_87 (by decide) (fun q33 => ?_) (fun q33 => ?_)
              · have hv := hv.1 q33
                refine z_iload_n dX11_sure_93 rfl ?_
                refine z_if_eq (tgt := 101) dX11_sure_94 (by decide) (fun q32 => ?_) (fun q32 => ?_)
                · have hv := hv.1 q32
                  refine z_iconst (v := 0) dX11_sure_101 (by decide) ?_
                  exact z_ireturn dX11_sure_102 rfl rfl (Nat.le_refl _) (Nat.le_refl _) hv
                · have hv := hv.2 q32
                  refine z_iconst (v := 1) dX11_sure_97 (by decide) ?_
                  refine z_goto (tgt := 102) dX11_sure_98 (by decide) ?_
                  exact z_ireturn dX11_sure_102 rfl rfl (Nat.le_refl _) (Nat.le_refl _) hv
              · have hv := hv.2 q33
                refine z_bipush (v := (-2)) dX11_sure_90 (by decide) ?_
                exact z_ireturn dX11_sure_92 rfl rfl (Nat.le_refl _) (Nat.le_refl _) hv
      · have hv := hv.2 q37
        refine z_iconst (v := (-1)) dX11_sure_36 (by decide) ?_
        exact z_ireturn dX11_sure_37 rfl rfl (Nat.le_refl _) (Nat.le_refl _) hv
    · have hv := hv.2 q38
      refine z_bipush (v := (-3)) dX11_sure_25 (by decide) ?_
      exact z_ireturn dX11_sure_27 rfl rfl (Nat.le_refl _) (Nat.le_refl _) hv
  · have hv := hv.2 q39
    refine z_iconst (v := (-1)) dX11_sure_11 (by decide) ?_
    exact z_ireturn dX11_sure_12 rfl rfl (Nat.le_refl _) (Nat.le_refl _) hv
abbrev gw_X11_image (d : Nat) (Q : zQt) (pc : Nat) (lv : zV) (st : List Value) (I : zI) (L : zL) (P : zP) : Prop := zW zm_X11_image (zRm d 0 0) 0 0 Q pc lv st I L P 205 0 0
def v_X11_image (d : Nat) (Q : zQt) (p1 : Int32) (I : zI) (L : zL) (P : zP) : Prop :=
  ((p1 < 0 →
    Q (some (.int (-1))) I L P 205
  ) ∧ (¬ p1 < 0 →
    ((p1 < 3 →
      vp_in p1 3 ∧
      ∃ b2 : Nat, P 88 p1.toNatClampNeg = some b2 ∧
      (b2 < 205 ∧ (zsh b2).1 = 5) ∧
      zMv zm_X6_copy d [.ref b2, .ref 73] I L P (fun I5 L6 P7 =>
        zPk P7 ∧
        ∀ I12 : zI, I12 = zuI I5 89 p1.toNatClampNeg 1 →
        Q (some (.int (I12 73 5))) I12 L6 P7 205
      )
    ) ∧ (¬ p1 < 3 →
      Q (some (.int (-1))) I L P 205
    ))
  ))
set_option maxRecDepth 20000 in
theorem g_X11_image {d : Nat} {Q : zQt} {p1 : Int32} {I : zI} {L : zL} {P : zP} (hP : zPk P) (hv : v_X11_image d Q p1 I L P) : zM zm_X11_image (d + 1) 0 0 [.ref 0, .int p1] I L P 205 Q := by
  unfold v_X11_image at hv
  refine zM_of (lv0 := [some (.ref 0), some (.int p1)]) (by decide +kernel) (Nat.le_of_ble_eq_true rfl) rfl ?_
  refine z_iload_n dX11_image_0 rfl ?_
  refine z_if_lt (tgt := 9) dX11_image_1 (by decide) (fun q14 => ?_) (fun q14 => ?_)
  · have hv := hv.1 q14
    refine z_iconst (v := (-1)) dX11_image_9 (by decide) ?_
    exact z_ireturn dX11_image_10 rfl rfl (Nat.le_refl _) (Nat.le_refl _) hv
  · have hv := hv.2 q14
    refine z_iload_n dX11_image_4 rfl ?_
    refine z_iconst (v := 3) dX11_image_5 (by decide) ?_
    refine z_icmp_lt (tgt := 11) dX11_image_6 (by decide) (fun q13 => ?_) (fun q13 => ?_)
    · have hv := hv.1 q13
      refine z_aload_n dX11_image_11 rfl ?_
      refine z_getP dX11_image_12 zf_X11_68 zn_0 zo_0 (fun _ _ _ _ _ => rfl) (hP 0 8 88 zp_0_8) ?_
      refine z_iload_n dX11_image_15 rfl ?_
      obtain ⟨h1, hv⟩ := hv
      obtain ⟨b2, h3, hv⟩ := hv
      refine z_aaload dX11_image_16 zn_88 zh_88 (Or.inr rfl) h1 h3 ?_
      refine z_aload_n dX11_image_17 rfl ?_
      refine z_getP dX11_image_18 zf_X11_57 zn_0 zo_0 (fun _ _ _ _ _ => rfl) (hP 0 6 73 zp_0_6) ?_
      obtain ⟨h4, hv⟩ := hv
      refine z_callV (As := [.ref 73]) (st := []) dX11_image_21 zl_X11_235 zv_X6_copy (by decide) rfl h4.1 h4.2 rfl rfl (Nat.le_of_ble_eq_true rfl) ⟨Nat.le_refl _, Nat.le_refl _⟩ ⟨Nat.le_refl _, Nat.le_refl _⟩ hv (fun v1 I5 L6 P7 nx1 q8 => ?_)
      obtain ⟨rfl, rfl, hv⟩ := q8
      refine z_aload_n dX11_image_24 rfl ?_
      obtain ⟨h10, hv⟩ := hv
      refine z_getP dX11_image_25 zf_X11_72 zn_0 zo_0 (fun _ _ _ _ _ => rfl) (h10 0 9 89 zp_0_9) ?_
      refine z_iload_n dX11_image_28 rfl ?_
      refine z_iconst (v := 1) dX11_image_29 (by decide) ?_
      refine z_zastore (w := 1) dX11_image_30 zn_89 zh_89 h1 (by decide) (z_nmI (fun I12 e11 => ?_))
      have hv := hv I12 e11
      refine z_aload_n dX11_image_31 rfl ?_
      refine z_getP dX11_image_32 zf_X11_57 zn_0 zo_0 (fun _ _ _ _ _ => rfl) (h10 0 6 73 zp_0_6) ?_
      refine z_getI dX11_image_35 zf_X11_190 zn_73 zo_73 (fun _ _ _ _ _ => rfl) ?_
      exact z_ireturn dX11_image_38 rfl rfl (Nat.le_refl _) (Nat.le_refl _) hv
    · have hv := hv.2 q13
      refine z_iconst (v := (-1)) dX11_image_9 (by decide) ?_
      exact z_ireturn dX11_image_10 rfl rfl (Nat.le_refl _) (Nat.le_refl _) hv
abbrev gw_X11_back (d : Nat) (Q : zQt) (pc : Nat) (lv : zV) (st : List Value) (I : zI) (L : zL) (P : zP) : Prop := zW zm_X11_back (zRm d 0 0) 0 0 Q pc lv st I L P 205 0 0
def v_X11_back (d : Nat) (Q : zQt) (p1 : Int32) (I : zI) (L : zL) (P : zP) : Prop :=
  ((p1 < 0 →
    Q (some (.int (-1))) I L P 205
  ) ∧ (¬ p1 < 0 →
    ((3 ≤ p1 →
      Q (some (.int (-1))) I L P 205
    ) ∧ (¬ 3 ≤ p1 →
      vp_in p1 3 ∧
      ((¬ (I 89 p1.toNatClampNeg) = 0 →
        ∃ b2 : Nat, P 88 p1.toNatClampNeg = some b2 ∧
        zMv zm_X6_copy d [.ref 73, .ref b2] I L P (fun I4 L5 P6 =>
          zPk P6 ∧
          Q (some (.int (I4 73 5))) I4 L5 P6 205
        )
      ) ∧ ((I 89 p1.toNatClampNeg) = 0 →
        Q (some (.int (-1))) I L P 205
      ))
    ))
  ))
set_option maxRecDepth 20000 in
theorem g_X11_back {d : Nat} {Q : zQt} {p1 : Int32} {I : zI} {L : zL} {P : zP} (hP : zPk P) (hv : v_X11_back d Q p1 I L P) : zM zm_X11_back (d + 1) 0 0 [.ref 0, .int p1] I L P 205 Q := by
  unfold v_X11_back at hv
  refine zM_of (lv0 := [some (.ref 0), some (.int p1)]) (by decide +kernel) (Nat.le_of_ble_eq_true rfl) rfl ?_
  refine z_iload_n dX11_back_0 rfl ?_
  refine z_if_lt (tgt := 18) dX11_back_1 (by decide) (fun q12 => ?_) (fun q12 => ?_)
  · have hv := hv.1 q12
    refine z_iconst (v := (-1)) dX11_back_18 (by decide) ?_
    exact z_ireturn dX11_back_19 rfl rfl (Nat.le_refl _) (Nat.le_refl _) hv
  · have hv := hv.2 q12
    refine z_iload_n dX11_back_4 rfl ?_
    refine z_iconst (v := 3) dX11_back_5 (by decide) ?_
    refine z_icmp_ge (tgt := 18) dX11_back_6 (by decide) (fun q11 => ?_) (fun q11 => ?_)
    · have hv := hv.1 q11
      refine z_iconst (v := (-1)) dX11_back_18 (by decide) ?_
      exact z_ireturn dX11_back_19 rfl rfl (Nat.le_refl _) (Nat.le_refl _) hv
    · have hv := hv.2 q11
      refine z_aload_n dX11_back_9 rfl ?_
      refine z_getP dX11_back_10 zf_X11_72 zn_0 zo_0 (fun _ _ _ _ _ => rfl) (hP 0 9 89 zp_0_9) ?_
      refine z_iload_n dX11_back_13 rfl ?_
      obtain ⟨h1, hv⟩ := hv
      refine z_zaload dX11_back_14 zn_89 zh_89 h1 ?_
      refine z_if_ne (tgt := 20) dX11_back_15 (by decide) (fun q10 => ?_) (fun q10 => ?_)
      · have hv := hv.1 q10
        refine z_aload_n dX11_back_20 rfl ?_
        refine z_getP dX11_back_21 zf_X11_57 zn_0 zo_0 (fun _ _ _ _ _ => rfl) (hP 0 6 73 zp_0_6) ?_
        refine z_aload_n dX11_back_24 rfl ?_
        refine z_getP dX11_back_25 zf_X11_68 zn_0 zo_0 (fun _ _ _ _ _ => rfl) (hP 0 8 88 zp_0_8) ?_
        refine z_iload_n dX11_back_28 rfl ?_
        obtain ⟨b2, h3, hv⟩ := hv
        refine z_aaload dX11_back_29 zn_88 zh_88 (Or.inr rfl) h1 h3 ?_
        refine z_callV (As := [.ref b2]) (st := []) dX11_back_30 zl_X11_235 zv_X6_copy (by decide) rfl zn_73 zo_73 rfl rfl (Nat.le_of_ble_eq_true rfl) ⟨Nat.le_refl _, Nat.le_refl _⟩ ⟨Nat.le_refl _, Nat.le_refl _⟩ hv (fun v1 I4 L5 P6 nx1 q7 => ?_)
        obtain ⟨rfl, rfl, hv⟩ := q7
        refine z_aload_n dX11_back_33 rfl ?_
        obtain ⟨h9, hv⟩ := hv
        refine z_getP dX11_back_34 zf_X11_57 zn_0 zo_0 (fun _ _ _ _ _ => rfl) (h9 0 6 73 zp_0_6) ?_
        refine z_getI dX11_back_37 zf_X11_190 zn_73 zo_73 (fun _ _ _ _ _ => rfl) ?_
        exact z_ireturn dX11_back_40 rfl rfl (Nat.le_refl _) (Nat.le_refl _) hv
      · have hv := hv.2 q10
        refine z_iconst (v := (-1)) dX11_back_18 (by decide) ?_
        exact z_ireturn dX11_back_19 rfl rfl (Nat.le_refl _) (Nat.le_refl _) hv
abbrev gw_X11_about (d : Nat) (Q : zQt) (pc : Nat) (lv : zV) (st : List Value) (I : zI) (L : zL) (P : zP) : Prop := zW zm_X11_about (zRm d 0 0) 0 0 Q pc lv st I L P 205 0 0
def v_X11_about (d : Nat) (Q : zQt) (p1 : Int32) (I : zI) (L : zL) (P : zP) : Prop :=
  (p1 = 0 →
    ∃ b1 : Nat, P 0 2 = some b1 ∧
    (b1 < 205 ∧ (zsh b1).1 = 2) ∧
    Q (some (.int (I b1 0))) I L P 205
  ) ∧
  (p1 = 1 →
    ∃ b4 : Nat, P 0 2 = some b4 ∧
    (b4 < 205 ∧ (zsh b4).1 = 2) ∧
    Q (some (.int (I b4 4))) I L P 205
  ) ∧
  (p1 = 2 →
    ∃ b7 : Nat, P 0 2 = some b7 ∧
    (b7 < 205 ∧ (zsh b7).1 = 2) ∧
    Q (some (.int (I b7 1))) I L P 205
  ) ∧
  (p1 = 3 →
    Q (some (.int (I 73 5))) I L P 205
  ) ∧
  (p1 = 4 →
    Q (some (.int (I 73 6))) I L P 205
  ) ∧
  (p1 = 5 →
    Q (some (.int (I 90 5))) I L P 205
  ) ∧
  (p1 = 6 →
    Q (some (.int (I 90 6))) I L P 205
  ) ∧
  (p1 = 7 →
    Q (some (.int (I 1 1))) I L P 205
  ) ∧
  (p1 = 8 →
    ∃ b10 : Nat, P 0 2 = some b10 ∧
    (b10 < 205 ∧ (zsh b10).1 = 2) ∧
    Q (some (.int (I b10 5))) I L P 205
  ) ∧
  (¬ p1 = 0 → ¬ p1 = 1 → ¬ p1 = 2 → ¬ p1 = 3 → ¬ p1 = 4 → ¬ p1 = 5 → ¬ p1 = 6 → ¬ p1 = 7 → ¬ p1 = 8 →
    Q (some (.int (-1))) I L P 205
  )
set_option maxRecDepth 20000 in
theorem g_X11_about {d : Nat} {Q : zQt} {p1 : Int32} {I : zI} {L : zL} {P : zP} (hP : zPk P) (hv : v_X11_about d Q p1 I L P) : zM zm_X11_about d 0 0 [.ref 0, .int p1] I L P 205 Q := by
  unfold v_X11_about at hv
  refine zM_of (lv0 := [some (.ref 0), some (.int p1)]) (by decide +kernel) (Nat.le_of_ble_eq_true rfl) rfl ?_
  refine z_iload_n dX11_about_0 rfl ?_
  by_cases q13 : p1 = 0
  · have hv := hv.1 q13
    refine z_tableIn (off := 51) (tgt := 52) dX11_about_1 (by rw [q13]; decide) (by rw [q13]; decide) (by rw [q13]; decide) (by decide) ?_
    refine z_aload_n dX11_about_52 rfl ?_
    obtain ⟨b1, h2, hv⟩ := hv
    refine z_getP dX11_about_53 zf_X11_26 zn_0 zo_0 (fun _ _ _ _ _ => rfl) h2 ?_
    obtain ⟨h3, hv⟩ := hv
    refine z_getI dX11_about_56 zf_X11_118 h3.1 h3.2 (fun _ _ _ _ _ => rfl) ?_
    exact z_ireturn dX11_about_59 rfl rfl (Nat.le_refl _) (Nat.le_refl _) hv
  by_cases q14 : p1 = 1
  · have hv := hv.2.1 q14
    refine z_tableIn (off := 59) (tgt := 60) dX11_about_1 (by rw [q14]; decide) (by rw [q14]; decide) (by rw [q14]; decide) (by decide) ?_
    refine z_aload_n dX11_about_60 rfl ?_
    obtain ⟨b4, h5, hv⟩ := hv
    refine z_getP dX11_about_61 zf_X11_26 zn_0 zo_0 (fun _ _ _ _ _ => rfl) h5 ?_
    obtain ⟨h6, hv⟩ := hv
    refine z_getI dX11_about_64 zf_X11_173 h6.1 h6.2 (fun _ _ _ _ _ => rfl) ?_
    exact z_ireturn dX11_about_67 rfl rfl (Nat.le_refl _) (Nat.le_refl _) hv
  by_cases q15 : p1 = 2
  · have hv := hv.2.2.1 q15
    refine z_tableIn (off := 67) (tgt := 68) dX11_about_1 (by rw [q15]; decide) (by rw [q15]; decide) (by rw [q15]; decide) (by decide) ?_
    refine z_aload_n dX11_about_68 rfl ?_
    obtain ⟨b7, h8, hv⟩ := hv
    refine z_getP dX11_about_69 zf_X11_26 zn_0 zo_0 (fun _ _ _ _ _ => rfl) h8 ?_
    obtain ⟨h9, hv⟩ := hv
    refine z_getI dX11_about_72 zf_X11_158 h9.1 h9.2 (fun _ _ _ _ _ => rfl) ?_
    exact z_ireturn dX11_about_75 rfl rfl (Nat.le_refl _) (Nat.le_refl _) hv
  by_cases q16 : p1 = 3
  · have hv := hv.2.2.2.1 q16
    refine z_tableIn (off := 75) (tgt := 76) dX11_about_1 (by rw [q16]; decide) (by rw [q16]; decide) (by rw [q16]; decide) (by decide) ?_
    refine z_aload_n dX11_about_76 rfl ?_
    refine z_getP dX11_about_77 zf_X11_57 zn_0 zo_0 (fun _ _ _ _ _ => rfl) (hP 0 6 73 zp_0_6) ?_
    refine z_getI dX11_about_80 zf_X11_190 zn_73 zo_73 (fun _ _ _ _ _ => rfl) ?_
    exact z_ireturn dX11_about_83 rfl rfl (Nat.le_refl _) (Nat.le_refl _) hv
  by_cases q17 : p1 = 4
  · have hv := hv.2.2.2.2.1 q17
    refine z_tableIn (off := 83) (tgt := 84) dX11_about_1 (by rw [q17]; decide) (by rw [q17]; decide) (by rw [q17]; decide) (by decide) ?_
    refine z_aload_n dX11_about_84 rfl ?_
    refine z_getP dX11_about_85 zf_X11_57 zn_0 zo_0 (fun _ _ _ _ _ => rfl) (hP 0 6 73 zp_0_6) ?_
    refine z_getI dX11_about_88 zf_X11_183 zn_73 zo_73 (fun _ _ _ _ _ => rfl) ?_
    exact z_ireturn dX11_about_91 rfl rfl (Nat.le_refl _) (Nat.le_refl _) hv
  by_cases q18 : p1 = 5
  · have hv := hv.2.2.2.2.2.1 q18
    refine z_tableIn (off := 91) (tgt := 92) dX11_about_1 (by rw [q18]; decide) (by rw [q18]; decide) (by rw [q18]; decide) (by decide) ?_
    refine z_aload_n dX11_about_92 rfl ?_
    refine z_getP dX11_about_93 zf_X11_79 zn_0 zo_0 (fun _ _ _ _ _ => rfl) (hP 0 10 90 zp_0_10) ?_
    refine z_getI dX11_about_96 zf_X11_111 zn_90 zo_90 (fun _ _ _ _ _ => rfl) ?_
    exact z_ireturn dX11_about_99 rfl rfl (Nat.le_refl _) (Nat.le_refl _) hv
  by_cases q19 : p1 = 6
  · have hv := hv.2.2.2.2.2.2.1 q19
    refine z_tableIn (off := 99) (tgt := 100) dX11_about_1 (by rw [q19]; decide) (by rw [q19]; decide) (by rw [q19]; decide) (by decide) ?_
    refine z_aload_n dX11_about_100 rfl ?_
    refine z_getP dX11_about_101 zf_X11_79 zn_0 zo_0 (fun _ _ _ _ _ => rfl) (hP 0 10 90 zp_0_10) ?_
    refine z_getI dX11_about_104 zf_X11_238 zn_90 zo_90 (fun _ _ _ _ _ => rfl) ?_
    exact z_ireturn dX11_about_107 rfl rfl (Nat.le_refl _) (Nat.le_refl _) hv
  by_cases q20 : p1 = 7
  · have hv := hv.2.2.2.2.2.2.2.1 q20
    refine z_tableIn (off := 107) (tgt := 108) dX11_about_1 (by rw [q20]; decide) (by rw [q20]; decide) (by rw [q20]; decide) (by decide) ?_
    refine z_aload_n dX11_about_108 rfl ?_
    refine z_getP dX11_about_109 zf_X11_10 zn_0 zo_0 (fun _ _ _ _ _ => rfl) (hP 0 0 1 zp_0_0) ?_
    refine z_getI dX11_about_112 zf_X11_103 zn_1 zo_1 (fun _ _ _ _ _ => rfl) ?_
    exact z_ireturn dX11_about_115 rfl rfl (Nat.le_refl _) (Nat.le_refl _) hv
  by_cases q21 : p1 = 8
  · have hv := hv.2.2.2.2.2.2.2.2.1 q21
    refine z_tableIn (off := 115) (tgt := 116) dX11_about_1 (by rw [q21]; decide) (by rw [q21]; decide) (by rw [q21]; decide) (by decide) ?_
    refine z_aload_n dX11_about_116 rfl ?_
    obtain ⟨b10, h11, hv⟩ := hv
    refine z_getP dX11_about_117 zf_X11_26 zn_0 zo_0 (fun _ _ _ _ _ => rfl) h11 ?_
    obtain ⟨h12, hv⟩ := hv
    refine z_getI dX11_about_120 zf_X11_241 h12.1 h12.2 (fun _ _ _ _ _ => rfl) ?_
    exact z_ireturn dX11_about_123 rfl rfl (Nat.le_refl _) (Nat.le_refl _) hv
  have hv := hv.2.2.2.2.2.2.2.2.2 q13 q14 q15 q16 q17 q18 q19 q20 q21
  have tq13 := lv_neT q13 (show (0 : Int32).toInt = 0 by decide)
  have tq14 := lv_neT q14 (show (1 : Int32).toInt = 1 by decide)
  have tq15 := lv_neT q15 (show (2 : Int32).toInt = 2 by decide)
  have tq16 := lv_neT q16 (show (3 : Int32).toInt = 3 by decide)
  have tq17 := lv_neT q17 (show (4 : Int32).toInt = 4 by decide)
  have tq18 := lv_neT q18 (show (5 : Int32).toInt = 5 by decide)
  have tq19 := lv_neT q19 (show (6 : Int32).toInt = 6 by decide)
  have tq20 := lv_neT q20 (show (7 : Int32).toInt = 7 by decide)
  have tq21 := lv_neT q21 (show (8 : Int32).toInt = 8 by decide)
  refine z_tableOut (tgt := 124) dX11_about_1 (by omega) (by decide) ?_
  refine z_iconst (v := (-1)) dX11_about_124 (by decide) ?_
  exact z_ireturn dX11_about_125 rfl rfl (Nat.le_refl _) (Nat.le_refl _) hv
abbrev gw_X11_weighTape (d : Nat) (Q : zQt) (pc : Nat) (lv : zV) (st : List Value) (I : zI) (L : zL) (P : zP) : Prop := zW zm_X11_weighTape (zRm d 0 0) 0 0 Q pc lv st I L P 205 0 0
def v_X11_weighTape (d : Nat) (Q : zQt)  (I : zI) (L : zL) (P : zP) : Prop :=
  ∃ b1 : Nat, P 0 2 = some b1 ∧
  zMi zm_X5_readFormula d [.ref 17, .ref b1, .ref 3] I L P (fun r7 I3 L4 P5 =>
    zPk P5 ∧
    ∀ I9 : zI, I9 = zuI I3 1 1 0 →
    ((r7 = 0 →
      (r7 = 0 ∨ r7 = 1) ∧
      Q (some (.int r7)) I9 L4 P5 205
    ) ∧ (¬ r7 = 0 →
      zMv zm_X4_weigh d [.ref 23, .ref 73, .ref 3, .int 0, .int (I9 3 1)] I9 L4 P5 (fun I12 L13 P14 =>
        (r7 = 0 ∨ r7 = 1) ∧
        Q (some (.int r7)) I12 L13 P14 205
      )
    ))
  )
set_option maxRecDepth 20000 in
theorem g_X11_weighTape {d : Nat} {Q : zQt}  {I : zI} {L : zL} {P : zP} (hP : zPk P) (hv : v_X11_weighTape d Q  I L P) : zM zm_X11_weighTape (d + 1) 0 0 [.ref 0] I L P 205 Q := by
  unfold v_X11_weighTape at hv
  refine zM_of (lv0 := [some (.ref 0), none]) (by decide +kernel) (Nat.le_of_ble_eq_true rfl) rfl ?_
  refine z_aload_n dX11_weighTape_0 rfl ?_
  refine z_getP dX11_weighTape_1 zf_X11_38 zn_0 zo_0 (fun _ _ _ _ _ => rfl) (hP 0 4 17 zp_0_4) ?_
  refine z_aload_n dX11_weighTape_4 rfl ?_
  obtain ⟨b1, h2, hv⟩ := hv
  refine z_getP dX11_weighTape_5 zf_X11_26 zn_0 zo_0 (fun _ _ _ _ _ => rfl) h2 ?_
  refine z_aload_n dX11_weighTape_8 rfl ?_
  refine z_getP dX11_weighTape_9 zf_X11_19 zn_0 zo_0 (fun _ _ _ _ _ => rfl) (hP 0 1 3 zp_0_1) ?_
  refine z_callV (As := [.ref b1, .ref 3]) (st := []) dX11_weighTape_12 zl_X11_244 zv_X5_readFormula (by decide) rfl zn_17 zo_17 rfl rfl (Nat.le_of_ble_eq_true rfl) ⟨Nat.le_refl _, Nat.le_refl _⟩ ⟨Nat.le_refl _, Nat.le_refl _⟩ hv (fun v1 I3 L4 P5 nx1 q6 => ?_)
  obtain ⟨rfl, r7, rfl, hv⟩ := q6
  refine z_istore_n (lv2 := [some (.ref 0), some (.int r7)]) dX11_weighTape_15 (by decide) rfl rfl ?_
  refine z_aload_n dX11_weighTape_16 rfl ?_
  obtain ⟨h8, hv⟩ := hv
  refine z_getP dX11_weighTape_17 zf_X11_10 zn_0 zo_0 (fun _ _ _ _ _ => rfl) (h8 0 0 1 zp_0_0) ?_
  refine z_iconst (v := 0) dX11_weighTape_20 (by decide) ?_
  refine z_putI dX11_weighTape_21 zf_X11_103 zn_1 zo_1 (Or.inl rfl) (fun _ _ _ _ _ => rfl) rfl rfl (z_nmI (fun I9 e10 => ?_))
  have hv := hv I9 e10
  refine z_iload_n dX11_weighTape_24 rfl ?_
  refine z_if_eq (tgt := 51) dX11_weighTape_25 (by decide) (fun q18 => ?_) (fun q18 => ?_)
  · have hv := hv.1 q18
    refine z_iload_n dX11_weighTape_51 rfl ?_
    obtain ⟨h11, hv⟩ := hv
    exact z_ireturn dX11_weighTape_52 rfl (zbn h11) (Nat.le_refl _) (Nat.le_refl _) hv
  · have hv := hv.2 q18
    refine z_aload_n dX11_weighTape_28 rfl ?_
    refine z_getP dX11_weighTape_29 zf_X11_45 zn_0 zo_0 (fun _ _ _ _ _ => rfl) (h8 0 5 23 zp_0_5) ?_
    refine z_aload_n dX11_weighTape_32 rfl ?_
    refine z_getP dX11_weighTape_33 zf_X11_57 zn_0 zo_0 (fun _ _ _ _ _ => rfl) (h8 0 6 73 zp_0_6) ?_
    refine z_aload_n dX11_weighTape_36 rfl ?_
    refine z_getP dX11_weighTape_37 zf_X11_19 zn_0 zo_0 (fun _ _ _ _ _ => rfl) (h8 0 1 3 zp_0_1) ?_
    refine z_iconst (v := 0) dX11_weighTape_40 (by decide) ?_
    refine z_aload_n dX11_weighTape_41 rfl ?_
    refine z_getP dX11_weighTape_42 zf_X11_19 zn_0 zo_0 (fun _ _ _ _ _ => rfl) (h8 0 1 3 zp_0_1) ?_
    refine z_getI dX11_weighTape_45 zf_X11_248 zn_3 zo_3 (fun _ _ _ _ _ => rfl) ?_
    refine z_callV (As := [.ref 73, .ref 3, .int 0, .int (I9 3 1)]) (st := []) dX11_weighTape_48 zl_X11_251 zv_X4_weigh (by decide) rfl zn_23 zo_23 rfl rfl (Nat.le_of_ble_eq_true rfl) ⟨Nat.le_refl _, Nat.le_refl _⟩ ⟨Nat.le_refl _, Nat.le_refl _⟩ hv (fun v1 I12 L13 P14 nx1 q15 => ?_)
    obtain ⟨rfl, rfl, hv⟩ := q15
    refine z_iload_n dX11_weighTape_51 rfl ?_
    obtain ⟨h17, hv⟩ := hv
    exact z_ireturn dX11_weighTape_52 rfl (zbn h17) (Nat.le_refl _) (Nat.le_refl _) hv
abbrev gw_X11_trySayings (d : Nat) (Q : zQt) (pc : Nat) (lv : zV) (st : List Value) (I : zI) (L : zL) (P : zP) : Prop := zW zm_X11_trySayings (zRm d 0 0) 0 0 Q pc lv st I L P 205 0 0
def v_X11_trySayings_38 (d : Nat) (Q : zQt) (x1 : Int64) (x3 : Int32) (x4 : Int32) (I : zI) (L : zL) (P : zP) : Prop :=
  ((((1 : Int32) <<< (x3 &&& 31) : Int32) ≤ x4 →
    gw_X11_trySayings (d + 1) Q 24 [some (.ref 0), some (.long x1), none, some (.int (x3 + 1)), none, none] [] I L P
  ) ∧ (¬ ((1 : Int32) <<< (x3 &&& 31) : Int32) ≤ x4 →
    ((¬ (lg_cmp (((x1 : Int64) >>> ((x4 : Int32).toInt64 &&& 63) : Int64) &&& 1 : Int64) 0) = 0 →
      zMv zm_X11_takeLeft d [.ref 0, .int x4] I L P (fun I16 L17 P18 =>
        zPk P18 ∧
        zMv zm_X4_weighSaying d [.ref 23, .ref 86, .int x3] I16 L17 P18 (fun I22 L23 P24 =>
          zPk P24 ∧
          zMr zm_X4_result d [.ref 23] I22 L23 P24 (fun r32 I28 L29 P30 =>
            zMi zm_X6_hear d [.ref 86, .ref r32] I28 L29 P30 (fun r37 I33 L34 P35 =>
              ((r37 ≤ 0 →
                gw_X11_trySayings (d + 1) Q 38 [some (.ref 0), some (.long x1), none, some (.int x3), some (.int (x4 + 1)), none] [] I33 L34 P35
              ) ∧ (¬ r37 ≤ 0 →
                zPk P35 ∧
                zMv zm_X6_note d [.ref 86, .ref 120, .int (x4 ||| ((1 : Int32) <<< (x3 &&& 31) : Int32) : Int32)] I33 L34 P35 (fun I39 L40 P41 =>
                  gw_X11_trySayings (d + 1) Q 38 [some (.ref 0), some (.long (x1 ||| ((1 : Int64) <<< (((x4 ||| ((1 : Int32) <<< (x3 &&& 31) : Int32) : Int32) : Int32).toInt64 &&& 63) : Int64) : Int64)), none, some (.int x3), some (.int (x4 + 1)), none] [] I39 L40 P41
                )
              ))
            )
          )
        )
      )
    ) ∧ ((lg_cmp (((x1 : Int64) >>> ((x4 : Int32).toInt64 &&& 63) : Int64) &&& 1 : Int64) 0) = 0 →
      gw_X11_trySayings (d + 1) Q 38 [some (.ref 0), some (.long x1), none, some (.int x3), some (.int (x4 + 1)), none] [] I L P
    ))
  ))
set_option maxRecDepth 20000 in
theorem g_X11_trySayings_38 {d : Nat} {Q : zQt} {x1 : Int64} {x3 : Int32} {x4 : Int32} {I : zI} {L : zL} {P : zP} (hP : zPk P) (hv : v_X11_trySayings_38 d Q x1 x3 x4 I L P) : gw_X11_trySayings (d + 1) Q 38 [some (.ref 0), some (.long x1), none, some (.int x3), some (.int x4), none] [] I L P := by
  unfold v_X11_trySayings_38 at hv
  refine z_iload dX11_trySayings_38 rfl ?_
  refine z_iconst (v := 1) dX11_trySayings_40 (by decide) ?_
  refine z_iload_n dX11_trySayings_41 rfl ?_
  refine z_ishl dX11_trySayings_42 ?_
  refine z_icmp_ge (tgt := 129) dX11_trySayings_43 (by decide) (fun q46 => ?_) (fun q46 => ?_)
  · have hv := hv.1 q46
    refine z_iinc (v2 := x3 + 1) (lv2 := [some (.ref 0), some (.long x1), none, some (.int (x3 + 1)), some (.int x4), none]) dX11_trySayings_129 rfl (by rfl) (by decide) rfl rfl ?_
    refine z_goto (tgt := 24) dX11_trySayings_132 (by decide) ?_
    exact z_sub (by exact ⟨rfl, ⟨rfl, ⟨rfl, trivial⟩⟩⟩) hv
  · have hv := hv.2 q46
    refine z_lload_n dX11_trySayings_46 rfl ?_
    refine z_iload dX11_trySayings_47 rfl ?_
    refine z_lshr dX11_trySayings_49 ?_
    refine z_lconst (v := 1) dX11_trySayings_50 (by decide) ?_
    refine z_land dX11_trySayings_51 ?_
    refine z_lconst (v := 0) dX11_trySayings_52 (by decide) ?_
    refine z_lcmp dX11_trySayings_53 ?_
    refine z_if_ne (tgt := 60) dX11_trySayings_54 (by decide) (fun q45 => ?_) (fun q45 => ?_)
    · have hv := hv.1 q45
      refine z_aload_n dX11_trySayings_60 rfl ?_
      refine z_iload dX11_trySayings_61 rfl ?_
      refine z_callV (As := [.int x4]) (st := []) dX11_trySayings_63 zl_X11_265 zv_X11_takeLeft (by decide) rfl zn_0 zo_0 rfl rfl (Nat.le_of_ble_eq_true rfl) ⟨Nat.le_refl _, Nat.le_refl _⟩ ⟨Nat.le_refl _, Nat.le_refl _⟩ hv (fun v1 I16 L17 P18 nx1 q19 => ?_)
      obtain ⟨rfl, rfl, hv⟩ := q19
      refine z_aload_n dX11_trySayings_66 rfl ?_
      obtain ⟨h21, hv⟩ := hv
      refine z_getP dX11_trySayings_67 zf_X11_45 zn_0 zo_0 (fun _ _ _ _ _ => rfl) (h21 0 5 23 zp_0_5) ?_
      refine z_aload_n dX11_trySayings_70 rfl ?_
      refine z_getP dX11_trySayings_71 zf_X11_65 zn_0 zo_0 (fun _ _ _ _ _ => rfl) (h21 0 7 86 zp_0_7) ?_
      refine z_iload_n dX11_trySayings_74 rfl ?_
      refine z_callV (As := [.ref 86, .int x3]) (st := []) dX11_trySayings_75 zl_X11_176 zv_X4_weighSaying (by decide) rfl zn_23 zo_23 rfl rfl (Nat.le_of_ble_eq_true rfl) ⟨Nat.le_refl _, Nat.le_refl _⟩ ⟨Nat.le_refl _, Nat.le_refl _⟩ hv (fun v1 I22 L23 P24 nx1 q25 => ?_)
      obtain ⟨rfl, rfl, hv⟩ := q25
      refine z_aload_n dX11_trySayings_78 rfl ?_
      obtain ⟨h27, hv⟩ := hv
      refine z_getP dX11_trySayings_79 zf_X11_65 zn_0 zo_0 (fun _ _ _ _ _ => rfl) (h27 0 7 86 zp_0_7) ?_
      refine z_aload_n dX11_trySayings_82 rfl ?_
      refine z_getP dX11_trySayings_83 zf_X11_45 zn_0 zo_0 (fun _ _ _ _ _ => rfl) (h27 0 5 23 zp_0_5) ?_
      refine z_callV (As := []) (st := [.ref 86]) dX11_trySayings_86 zl_X11_154 zv_X4_result (by decide) rfl zn_23 zo_23 rfl rfl (Nat.le_of_ble_eq_true rfl) ⟨Nat.le_refl _, Nat.le_refl _⟩ ⟨Nat.le_refl _, Nat.le_refl _⟩ hv (fun v1 I28 L29 P30 nx1 q31 => ?_)
      obtain ⟨rfl, r32, rfl, hv⟩ := q31
      refine z_callV (As := [.ref r32]) (st := []) dX11_trySayings_89 zl_X11_170 zv_X6_hear (by decide) rfl zn_86 zo_86 rfl rfl (Nat.le_of_ble_eq_true rfl) ⟨Nat.le_refl _, Nat.le_refl _⟩ ⟨Nat.le_refl _, Nat.le_refl _⟩ hv (fun v1 I33 L34 P35 nx1 q36 => ?_)
      obtain ⟨rfl, r37, rfl, hv⟩ := q36
      refine z_if_le (tgt := 123) dX11_trySayings_92 (by decide) (fun q44 => ?_) (fun q44 => ?_)
      · have hv := hv.1 q44
        refine z_iinc (v2 := x4 + 1) (lv2 := [some (.ref 0), some (.long x1), none, some (.int x3), some (.int (x4 + 1)), none]) dX11_trySayings_123 rfl (by rfl) (by decide) rfl rfl ?_
        refine z_goto (tgt := 38) dX11_trySayings_126 (by decide) ?_
        exact hv
      · have hv := hv.2 q44
        refine z_iload dX11_trySayings_95 rfl ?_
        refine z_iconst (v := 1) dX11_trySayings_97 (by decide) ?_
        refine z_iload_n dX11_trySayings_98 rfl ?_
        refine z_ishl dX11_trySayings_99 ?_
        refine z_ior dX11_trySayings_100 ?_
        refine z_istore (lv2 := [some (.ref 0), some (.long x1), none, some (.int x3), some (.int x4), some (.int (x4 ||| ((1 : Int32) <<< (x3 &&& 31) : Int32) : Int32))]) dX11_trySayings_101 (by decide) rfl rfl ?_
        refine z_aload_n dX11_trySayings_103 rfl ?_
        obtain ⟨h38, hv⟩ := hv
        refine z_getP dX11_trySayings_104 zf_X11_65 zn_0 zo_0 (fun _ _ _ _ _ => rfl) (h38 0 7 86 zp_0_7) ?_
        refine z_aload_n dX11_trySayings_107 rfl ?_
        refine z_getP dX11_trySayings_108 zf_X11_92 zn_0 zo_0 (fun _ _ _ _ _ => rfl) (h38 0 12 120 zp_0_12) ?_
        refine z_iload dX11_trySayings_111 rfl ?_
        refine z_callV (As := [.ref 120, .int (x4 ||| ((1 : Int32) <<< (x3 &&& 31) : Int32) : Int32)]) (st := []) dX11_trySayings_113 zl_X11_261 zv_X6_note (by decide) rfl zn_86 zo_86 rfl rfl (Nat.le_of_ble_eq_true rfl) ⟨Nat.le_refl _, Nat.le_refl _⟩ ⟨Nat.le_refl _, Nat.le_refl _⟩ hv (fun v1 I39 L40 P41 nx1 q42 => ?_)
        obtain ⟨rfl, rfl, hv⟩ := q42
        refine z_lload_n dX11_trySayings_116 rfl ?_
        refine z_lconst (v := 1) dX11_trySayings_117 (by decide) ?_
        refine z_iload dX11_trySayings_118 rfl ?_
        refine z_lshl dX11_trySayings_120 ?_
        refine z_lor dX11_trySayings_121 ?_
        refine z_lstore_n (lv2 := [some (.ref 0), some (.long (x1 ||| ((1 : Int64) <<< (((x4 ||| ((1 : Int32) <<< (x3 &&& 31) : Int32) : Int32) : Int32).toInt64 &&& 63) : Int64) : Int64)), none, some (.int x3), some (.int x4), some (.int (x4 ||| ((1 : Int32) <<< (x3 &&& 31) : Int32) : Int32))]) dX11_trySayings_122 (by decide) rfl rfl ?_
        refine z_iinc (v2 := x4 + 1) (lv2 := [some (.ref 0), some (.long (x1 ||| ((1 : Int64) <<< (((x4 ||| ((1 : Int32) <<< (x3 &&& 31) : Int32) : Int32) : Int32).toInt64 &&& 63) : Int64) : Int64)), none, some (.int x3), some (.int (x4 + 1)), some (.int (x4 ||| ((1 : Int32) <<< (x3 &&& 31) : Int32) : Int32))]) dX11_trySayings_123 rfl (by rfl) (by decide) rfl rfl ?_
        refine z_goto (tgt := 38) dX11_trySayings_126 (by decide) ?_
        exact z_sub (by exact ⟨rfl, ⟨rfl, ⟨rfl, ⟨rfl, trivial⟩⟩⟩⟩) hv
    · have hv := hv.2 q45
      refine z_goto (tgt := 123) dX11_trySayings_57 (by decide) ?_
      refine z_iinc (v2 := x4 + 1) (lv2 := [some (.ref 0), some (.long x1), none, some (.int x3), some (.int (x4 + 1)), none]) dX11_trySayings_123 rfl (by rfl) (by decide) rfl rfl ?_
      refine z_goto (tgt := 38) dX11_trySayings_126 (by decide) ?_
      exact hv
def v_X11_trySayings_24 (d : Nat) (Q : zQt) (x1 : Int64) (x3 : Int32) (I : zI) (L : zL) (P : zP) : Prop :=
  ∃ b12 : Nat, P 0 2 = some b12 ∧
  (b12 < 205 ∧ (zsh b12).1 = 2) ∧
  (((I b12 4) ≤ x3 →
    Q (some (.long x1)) I L P 205
  ) ∧ (¬ (I b12 4) ≤ x3 →
    gw_X11_trySayings (d + 1) Q 38 [some (.ref 0), some (.long x1), none, some (.int x3), some (.int 0), none] [] I L P
  ))
set_option maxRecDepth 20000 in
theorem g_X11_trySayings_24 {d : Nat} {Q : zQt} {x1 : Int64} {x3 : Int32} {I : zI} {L : zL} {P : zP} (hP : zPk P) (hv : v_X11_trySayings_24 d Q x1 x3 I L P) : gw_X11_trySayings (d + 1) Q 24 [some (.ref 0), some (.long x1), none, some (.int x3), none, none] [] I L P := by
  unfold v_X11_trySayings_24 at hv
  refine z_iload_n dX11_trySayings_24 rfl ?_
  refine z_aload_n dX11_trySayings_25 rfl ?_
  obtain ⟨b12, h13, hv⟩ := hv
  refine z_getP dX11_trySayings_26 zf_X11_26 zn_0 zo_0 (fun _ _ _ _ _ => rfl) h13 ?_
  obtain ⟨h14, hv⟩ := hv
  refine z_getI dX11_trySayings_29 zf_X11_173 h14.1 h14.2 (fun _ _ _ _ _ => rfl) ?_
  refine z_icmp_ge (tgt := 135) dX11_trySayings_32 (by decide) (fun q15 => ?_) (fun q15 => ?_)
  · have hv := hv.1 q15
    refine z_lload_n dX11_trySayings_135 rfl ?_
    exact z_lreturn dX11_trySayings_136 rfl (Nat.le_refl _) (Nat.le_refl _) hv
  · have hv := hv.2 q15
    refine z_iconst (v := 0) dX11_trySayings_35 (by decide) ?_
    refine z_istore (lv2 := [some (.ref 0), some (.long x1), none, some (.int x3), some (.int 0), none]) dX11_trySayings_36 (by decide) rfl rfl ?_
    exact hv
def v_X11_trySayings (d : Nat) (Q : zQt)  (I : zI) (L : zL) (P : zP) : Prop :=
  zMv zm_J7_fill_d0a16 d [.ref 120, .long 0] I L P (fun I1 L2 P3 =>
    zPk P3 ∧
    zMv zm_X6_note d [.ref 73, .ref 120, .int 0] I1 L2 P3 (fun I7 L8 P9 =>
      gw_X11_trySayings (d + 1) Q 24 [some (.ref 0), some (.long 1), none, some (.int 0), none, none] [] I7 L8 P9
    )
  )
set_option maxRecDepth 20000 in
theorem g_X11_trySayings {d : Nat} {Q : zQt}  {I : zI} {L : zL} {P : zP} (hP : zPk P) (hv : v_X11_trySayings d Q  I L P) : zM zm_X11_trySayings (d + 1) 0 0 [.ref 0] I L P 205 Q := by
  unfold v_X11_trySayings at hv
  refine zM_of (lv0 := [some (.ref 0), none, none, none, none, none]) (by decide +kernel) (Nat.le_of_ble_eq_true rfl) rfl ?_
  refine z_aload_n dX11_trySayings_0 rfl ?_
  refine z_getP dX11_trySayings_1 zf_X11_92 zn_0 zo_0 (fun _ _ _ _ _ => rfl) (hP 0 12 120 zp_0_12) ?_
  refine z_lconst (v := 0) dX11_trySayings_4 (by decide) ?_
  refine z_callS (As := [.ref 120, .long 0]) (st := []) dX11_trySayings_5 zl_X11_255 zs_J7_fill_d0a16 rfl rfl (Nat.le_of_ble_eq_true rfl) ⟨Nat.le_refl _, Nat.le_refl _⟩ ⟨Nat.le_refl _, Nat.le_refl _⟩ hv (fun v1 I1 L2 P3 nx1 q4 => ?_)
  obtain ⟨rfl, rfl, hv⟩ := q4
  refine z_aload_n dX11_trySayings_8 rfl ?_
  obtain ⟨h6, hv⟩ := hv
  refine z_getP dX11_trySayings_9 zf_X11_57 zn_0 zo_0 (fun _ _ _ _ _ => rfl) (h6 0 6 73 zp_0_6) ?_
  refine z_aload_n dX11_trySayings_12 rfl ?_
  refine z_getP dX11_trySayings_13 zf_X11_92 zn_0 zo_0 (fun _ _ _ _ _ => rfl) (h6 0 12 120 zp_0_12) ?_
  refine z_iconst (v := 0) dX11_trySayings_16 (by decide) ?_
  refine z_callV (As := [.ref 120, .int 0]) (st := []) dX11_trySayings_17 zl_X11_261 zv_X6_note (by decide) rfl zn_73 zo_73 rfl rfl (Nat.le_of_ble_eq_true rfl) ⟨Nat.le_refl _, Nat.le_refl _⟩ ⟨Nat.le_refl _, Nat.le_refl _⟩ hv (fun v1 I7 L8 P9 nx1 q10 => ?_)
  obtain ⟨rfl, rfl, hv⟩ := q10
  refine z_lconst (v := 1) dX11_trySayings_20 (by decide) ?_
  refine z_lstore_n (lv2 := [some (.ref 0), some (.long 1), none, none, none, none]) dX11_trySayings_21 (by decide) rfl rfl ?_
  refine z_iconst (v := 0) dX11_trySayings_22 (by decide) ?_
  refine z_istore_n (lv2 := [some (.ref 0), some (.long 1), none, some (.int 0), none, none]) dX11_trySayings_23 (by decide) rfl rfl ?_
  exact hv
abbrev gw_X11_takeLeft (d : Nat) (Q : zQt) (pc : Nat) (lv : zV) (st : List Value) (I : zI) (L : zL) (P : zP) : Prop := zW zm_X11_takeLeft (zRm d 0 0) 0 0 Q pc lv st I L P 205 0 0
def v_X11_takeLeft (d : Nat) (Q : zQt) (p1 : Int32) (I : zI) (L : zL) (P : zP) : Prop :=
  zMv zm_X6_follow d [.ref 86, .ref 73] I L P (fun I1 L2 P3 =>
    zPk P3 ∧
    zMv zm_X6_keepNoted d [.ref 86, .ref 120, .int p1] I1 L2 P3 (fun I7 L8 P9 =>
      Q none I7 L8 P9 205
    )
  )
set_option maxRecDepth 20000 in
theorem g_X11_takeLeft {d : Nat} {Q : zQt} {p1 : Int32} {I : zI} {L : zL} {P : zP} (hP : zPk P) (hv : v_X11_takeLeft d Q p1 I L P) : zM zm_X11_takeLeft (d + 1) 0 0 [.ref 0, .int p1] I L P 205 Q := by
  unfold v_X11_takeLeft at hv
  refine zM_of (lv0 := [some (.ref 0), some (.int p1)]) (by decide +kernel) (Nat.le_of_ble_eq_true rfl) rfl ?_
  refine z_aload_n dX11_takeLeft_0 rfl ?_
  refine z_getP dX11_takeLeft_1 zf_X11_65 zn_0 zo_0 (fun _ _ _ _ _ => rfl) (hP 0 7 86 zp_0_7) ?_
  refine z_aload_n dX11_takeLeft_4 rfl ?_
  refine z_getP dX11_takeLeft_5 zf_X11_57 zn_0 zo_0 (fun _ _ _ _ _ => rfl) (hP 0 6 73 zp_0_6) ?_
  refine z_callV (As := [.ref 73]) (st := []) dX11_takeLeft_8 zl_X11_199 zv_X6_follow (by decide) rfl zn_86 zo_86 rfl rfl (Nat.le_of_ble_eq_true rfl) ⟨Nat.le_refl _, Nat.le_refl _⟩ ⟨Nat.le_refl _, Nat.le_refl _⟩ hv (fun v1 I1 L2 P3 nx1 q4 => ?_)
  obtain ⟨rfl, rfl, hv⟩ := q4
  refine z_aload_n dX11_takeLeft_11 rfl ?_
  obtain ⟨h6, hv⟩ := hv
  refine z_getP dX11_takeLeft_12 zf_X11_65 zn_0 zo_0 (fun _ _ _ _ _ => rfl) (h6 0 7 86 zp_0_7) ?_
  refine z_aload_n dX11_takeLeft_15 rfl ?_
  refine z_getP dX11_takeLeft_16 zf_X11_92 zn_0 zo_0 (fun _ _ _ _ _ => rfl) (h6 0 12 120 zp_0_12) ?_
  refine z_iload_n dX11_takeLeft_19 rfl ?_
  refine z_callV (As := [.ref 120, .int p1]) (st := []) dX11_takeLeft_20 zl_X11_269 zv_X6_keepNoted (by decide) rfl zn_86 zo_86 rfl rfl (Nat.le_of_ble_eq_true rfl) ⟨Nat.le_refl _, Nat.le_refl _⟩ ⟨Nat.le_refl _, Nat.le_refl _⟩ hv (fun v1 I7 L8 P9 nx1 q10 => ?_)
  obtain ⟨rfl, rfl, hv⟩ := q10
  exact z_return dX11_takeLeft_23 rfl (Nat.le_refl _) (Nat.le_refl _) hv
abbrev gw_X11_goJust (d : Nat) (Q : zQt) (pc : Nat) (lv : zV) (st : List Value) (I : zI) (L : zL) (P : zP) : Prop := zW zm_X11_goJust (zRm d 0 0) 0 0 Q pc lv st I L P 205 0 0
def v_X11_goJust_11 (d : Nat) (Q : zQt) (p1 : Int32) (p3 : Int32) (x4 : Int32) (x5 : Int32) (I : zI) (L : zL) (P : zP) : Prop :=
  ((p3 ≤ x5 →
    ((¬ x4 = p1 →
      Q (some (.int 0)) I L P 205
    ) ∧ (x4 = p1 →
      Q (some (.int 1)) I L P 205
    ))
  ) ∧ (¬ p3 ≤ x5 →
    ((¬ (x4 &&& (p1 ^^^ (-1) : Int32) : Int32) = 0 →
      ((¬ x4 = p1 →
        Q (some (.int 0)) I L P 205
      ) ∧ (x4 = p1 →
        Q (some (.int 1)) I L P 205
      ))
    ) ∧ ((x4 &&& (p1 ^^^ (-1) : Int32) : Int32) = 0 →
      zMi zm_X4_pass d [.ref 23, .ref 86] I L P (fun r12 I8 L9 P10 =>
        ((¬ r12 = 0 →
          gw_X11_goJust (d + 1) Q 11 [some (.ref 0), some (.int p1), none, some (.int p3), some (.int (x4 ||| r12 : Int32)), some (.int (x5 + 1)), none, none] [] I8 L9 P10
        ) ∧ (r12 = 0 →
          zPk P10 ∧
          ((¬ (I8 86 3) = (I 86 3) →
            gw_X11_goJust (d + 1) Q 11 [some (.ref 0), some (.int p1), none, some (.int p3), some (.int (x4 ||| r12 : Int32)), some (.int (x5 + 1)), none, none] [] I8 L9 P10
          ) ∧ ((I8 86 3) = (I 86 3) →
            ((¬ x4 = p1 →
              Q (some (.int 0)) I8 L9 P10 205
            ) ∧ (x4 = p1 →
              Q (some (.int 1)) I8 L9 P10 205
            ))
          ))
        ))
      )
    ))
  ))
set_option maxRecDepth 20000 in
theorem g_X11_goJust_11 {d : Nat} {Q : zQt} {p1 : Int32} {p3 : Int32} {x4 : Int32} {x5 : Int32} {I : zI} {L : zL} {P : zP} (hP : zPk P) (hv : v_X11_goJust_11 d Q p1 p3 x4 x5 I L P) : gw_X11_goJust (d + 1) Q 11 [some (.ref 0), some (.int p1), none, some (.int p3), some (.int x4), some (.int x5), none, none] [] I L P := by
  unfold v_X11_goJust_11 at hv
  refine z_iload dX11_goJust_11 rfl ?_
  refine z_iload_n dX11_goJust_13 rfl ?_
  refine z_icmp_ge (tgt := 81) dX11_goJust_14 (by decide) (fun q18 => ?_) (fun q18 => ?_)
  · have hv := hv.1 q18
    refine z_iload dX11_goJust_81 rfl ?_
    refine z_iload_n dX11_goJust_83 rfl ?_
    refine z_icmp_ne (tgt := 91) dX11_goJust_84 (by decide) (fun q6 => ?_) (fun q6 => ?_)
    · have hv := hv.1 q6
      refine z_iconst (v := 0) dX11_goJust_91 (by decide) ?_
      exact z_ireturn dX11_goJust_92 rfl (by decide) (Nat.le_refl _) (Nat.le_refl _) hv
    · have hv := hv.2 q6
      refine z_iconst (v := 1) dX11_goJust_87 (by decide) ?_
      refine z_goto (tgt := 92) dX11_goJust_88 (by decide) ?_
      exact z_ireturn dX11_goJust_92 rfl (by decide) (Nat.le_refl _) (Nat.le_refl _) hv
  · have hv := hv.2 q18
    refine z_iload dX11_goJust_17 rfl ?_
    refine z_iload_n dX11_goJust_19 rfl ?_
    refine z_iconst (v := (-1)) dX11_goJust_20 (by decide) ?_
    refine z_ixor dX11_goJust_21 ?_
    refine z_iand dX11_goJust_22 ?_
    refine z_if_ne (tgt := 81) dX11_goJust_23 (by decide) (fun q17 => ?_) (fun q17 => ?_)
    · have hv := hv.1 q17
      refine z_iload dX11_goJust_81 rfl ?_
      refine z_iload_n dX11_goJust_83 rfl ?_
      refine z_icmp_ne (tgt := 91) dX11_goJust_84 (by decide) (fun q7 => ?_) (fun q7 => ?_)
      · have hv := hv.1 q7
        refine z_iconst (v := 0) dX11_goJust_91 (by decide) ?_
        exact z_ireturn dX11_goJust_92 rfl (by decide) (Nat.le_refl _) (Nat.le_refl _) hv
      · have hv := hv.2 q7
        refine z_iconst (v := 1) dX11_goJust_87 (by decide) ?_
        refine z_goto (tgt := 92) dX11_goJust_88 (by decide) ?_
        exact z_ireturn dX11_goJust_92 rfl (by decide) (Nat.le_refl _) (Nat.le_refl _) hv
    · have hv := hv.2 q17
      refine z_aload_n dX11_goJust_26 rfl ?_
      refine z_getP dX11_goJust_27 zf_X11_65 zn_0 zo_0 (fun _ _ _ _ _ => rfl) (hP 0 7 86 zp_0_7) ?_
      refine z_getI dX11_goJust_30 zf_X11_135 zn_86 zo_86 (fun _ _ _ _ _ => rfl) ?_
      refine z_istore (lv2 := [some (.ref 0), some (.int p1), none, some (.int p3), some (.int x4), some (.int x5), some (.int (I 86 3)), none]) dX11_goJust_33 (by decide) rfl rfl ?_
      refine z_aload_n dX11_goJust_35 rfl ?_
      refine z_getP dX11_goJust_36 zf_X11_45 zn_0 zo_0 (fun _ _ _ _ _ => rfl) (hP 0 5 23 zp_0_5) ?_
      refine z_aload_n dX11_goJust_39 rfl ?_
      refine z_getP dX11_goJust_40 zf_X11_65 zn_0 zo_0 (fun _ _ _ _ _ => rfl) (hP 0 7 86 zp_0_7) ?_
      refine z_callV (As := [.ref 86]) (st := []) dX11_goJust_43 zl_X11_193 zv_X4_pass (by decide) rfl zn_23 zo_23 rfl rfl (Nat.le_of_ble_eq_true rfl) ⟨Nat.le_refl _, Nat.le_refl _⟩ ⟨Nat.le_refl _, Nat.le_refl _⟩ hv (fun v1 I8 L9 P10 nx1 q11 => ?_)
      obtain ⟨rfl, r12, rfl, hv⟩ := q11
      refine z_istore (lv2 := [some (.ref 0), some (.int p1), none, some (.int p3), some (.int x4), some (.int x5), some (.int (I 86 3)), some (.int r12)]) dX11_goJust_46 (by decide) rfl rfl ?_
      refine z_iload dX11_goJust_48 rfl ?_
      refine z_if_ne (tgt := 68) dX11_goJust_50 (by decide) (fun q16 => ?_) (fun q16 => ?_)
      · have hv := hv.1 q16
        refine z_iload dX11_goJust_68 rfl ?_
        refine z_iload dX11_goJust_70 rfl ?_
        refine z_ior dX11_goJust_72 ?_
        refine z_istore (lv2 := [some (.ref 0), some (.int p1), none, some (.int p3), some (.int (x4 ||| r12 : Int32)), some (.int x5), some (.int (I 86 3)), some (.int r12)]) dX11_goJust_73 (by decide) rfl rfl ?_
        refine z_iinc (v2 := x5 + 1) (lv2 := [some (.ref 0), some (.int p1), none, some (.int p3), some (.int (x4 ||| r12 : Int32)), some (.int (x5 + 1)), some (.int (I 86 3)), some (.int r12)]) dX11_goJust_75 rfl (by rfl) (by decide) rfl rfl ?_
        refine z_goto (tgt := 11) dX11_goJust_78 (by decide) ?_
        exact z_sub (by exact ⟨rfl, ⟨rfl, ⟨rfl, ⟨rfl, ⟨rfl, trivial⟩⟩⟩⟩⟩) hv
      · have hv := hv.2 q16
        refine z_aload_n dX11_goJust_53 rfl ?_
        obtain ⟨h13, hv⟩ := hv
        refine z_getP dX11_goJust_54 zf_X11_65 zn_0 zo_0 (fun _ _ _ _ _ => rfl) (h13 0 7 86 zp_0_7) ?_
        refine z_getI dX11_goJust_57 zf_X11_135 zn_86 zo_86 (fun _ _ _ _ _ => rfl) ?_
        refine z_iload dX11_goJust_60 rfl ?_
        refine z_icmp_ne (tgt := 68) dX11_goJust_62 (by decide) (fun q15 => ?_) (fun q15 => ?_)
        · have hv := hv.1 q15
          refine z_iload dX11_goJust_68 rfl ?_
          refine z_iload dX11_goJust_70 rfl ?_
          refine z_ior dX11_goJust_72 ?_
          refine z_istore (lv2 := [some (.ref 0), some (.int p1), none, some (.int p3), some (.int (x4 ||| r12 : Int32)), some (.int x5), some (.int (I 86 3)), some (.int r12)]) dX11_goJust_73 (by decide) rfl rfl ?_
          refine z_iinc (v2 := x5 + 1) (lv2 := [some (.ref 0), some (.int p1), none, some (.int p3), some (.int (x4 ||| r12 : Int32)), some (.int (x5 + 1)), some (.int (I 86 3)), some (.int r12)]) dX11_goJust_75 rfl (by rfl) (by decide) rfl rfl ?_
          refine z_goto (tgt := 11) dX11_goJust_78 (by decide) ?_
          exact z_sub (by exact ⟨rfl, ⟨rfl, ⟨rfl, ⟨rfl, ⟨rfl, trivial⟩⟩⟩⟩⟩) hv
        · have hv := hv.2 q15
          refine z_goto (tgt := 81) dX11_goJust_65 (by decide) ?_
          refine z_iload dX11_goJust_81 rfl ?_
          refine z_iload_n dX11_goJust_83 rfl ?_
          refine z_icmp_ne (tgt := 91) dX11_goJust_84 (by decide) (fun q14 => ?_) (fun q14 => ?_)
          · have hv := hv.1 q14
            refine z_iconst (v := 0) dX11_goJust_91 (by decide) ?_
            exact z_ireturn dX11_goJust_92 rfl (by decide) (Nat.le_refl _) (Nat.le_refl _) hv
          · have hv := hv.2 q14
            refine z_iconst (v := 1) dX11_goJust_87 (by decide) ?_
            refine z_goto (tgt := 92) dX11_goJust_88 (by decide) ?_
            exact z_ireturn dX11_goJust_92 rfl (by decide) (Nat.le_refl _) (Nat.le_refl _) hv
def v_X11_goJust (d : Nat) (Q : zQt) (p1 : Int32) (p2 : Int32) (p3 : Int32) (I : zI) (L : zL) (P : zP) : Prop :=
  zMv zm_X11_takeLeft d [.ref 0, .int p2] I L P (fun I1 L2 P3 =>
    gw_X11_goJust (d + 1) Q 11 [some (.ref 0), some (.int p1), none, some (.int p3), some (.int 0), some (.int 0), none, none] [] I1 L2 P3
  )
set_option maxRecDepth 20000 in
theorem g_X11_goJust {d : Nat} {Q : zQt} {p1 : Int32} {p2 : Int32} {p3 : Int32} {I : zI} {L : zL} {P : zP} (hP : zPk P) (hv : v_X11_goJust d Q p1 p2 p3 I L P) : zM zm_X11_goJust (d + 1) 0 0 [.ref 0, .int p1, .int p2, .int p3] I L P 205 Q := by
  unfold v_X11_goJust at hv
  refine zM_of (lv0 := [some (.ref 0), some (.int p1), some (.int p2), some (.int p3), none, none, none, none]) (by decide +kernel) (Nat.le_of_ble_eq_true rfl) rfl ?_
  refine z_aload_n dX11_goJust_0 rfl ?_
  refine z_iload_n dX11_goJust_1 rfl ?_
  refine z_callV (As := [.int p2]) (st := []) dX11_goJust_2 zl_X11_265 zv_X11_takeLeft (by decide) rfl zn_0 zo_0 rfl rfl (Nat.le_of_ble_eq_true rfl) ⟨Nat.le_refl _, Nat.le_refl _⟩ ⟨Nat.le_refl _, Nat.le_refl _⟩ hv (fun v1 I1 L2 P3 nx1 q4 => ?_)
  obtain ⟨rfl, rfl, hv⟩ := q4
  refine z_iconst (v := 0) dX11_goJust_5 (by decide) ?_
  refine z_istore (lv2 := [some (.ref 0), some (.int p1), some (.int p2), some (.int p3), some (.int 0), none, none, none]) dX11_goJust_6 (by decide) rfl rfl ?_
  refine z_iconst (v := 0) dX11_goJust_8 (by decide) ?_
  refine z_istore (lv2 := [some (.ref 0), some (.int p1), some (.int p2), some (.int p3), some (.int 0), some (.int 0), none, none]) dX11_goJust_9 (by decide) rfl rfl ?_
  exact z_sub (by exact ⟨rfl, ⟨rfl, ⟨rfl, ⟨rfl, ⟨rfl, trivial⟩⟩⟩⟩⟩) hv
abbrev gw_X11_countFits (d : Nat) (Q : zQt) (pc : Nat) (lv : zV) (st : List Value) (I : zI) (L : zL) (P : zP) : Prop := zW zm_X11_countFits (zRm d 0 0) 0 0 Q pc lv st I L P 205 0 0
def v_X11_countFits_12 (d : Nat) (Q : zQt) (p1 : Int32) (x2 : Int32) (I : zI) (L : zL) (P : zP) : Prop :=
  ∃ b9 : Nat, P 0 2 = some b9 ∧
  (b9 < 205 ∧ (zsh b9).1 = 2) ∧
  (((I b9 4) < x2 →
    ∀ I12 : zI, I12 = zuI I 96 4 1 →
    zMi zm_X1_scan d [.ref 96, .ref b9, .ref 90, .int p1] I12 L P (fun r18 I14 L15 P16 =>
      Q (some (.int r18)) I14 L15 P16 205
    )
  ) ∧ (¬ (I b9 4) < x2 →
    zMv zm_X1_learn d [.ref 96, .ref b9, .int x2, .ref 23] I L P (fun I19 L20 P21 =>
      gw_X11_countFits (d + 1) Q 12 [some (.ref 0), some (.int p1), some (.int (x2 + 1))] [] I19 L20 P21
    )
  ))
set_option maxRecDepth 20000 in
theorem g_X11_countFits_12 {d : Nat} {Q : zQt} {p1 : Int32} {x2 : Int32} {I : zI} {L : zL} {P : zP} (hP : zPk P) (hv : v_X11_countFits_12 d Q p1 x2 I L P) : gw_X11_countFits (d + 1) Q 12 [some (.ref 0), some (.int p1), some (.int x2)] [] I L P := by
  unfold v_X11_countFits_12 at hv
  refine z_iload_n dX11_countFits_12 rfl ?_
  refine z_aload_n dX11_countFits_13 rfl ?_
  obtain ⟨b9, h10, hv⟩ := hv
  refine z_getP dX11_countFits_14 zf_X11_26 zn_0 zo_0 (fun _ _ _ _ _ => rfl) h10 ?_
  obtain ⟨h11, hv⟩ := hv
  refine z_getI dX11_countFits_17 zf_X11_173 h11.1 h11.2 (fun _ _ _ _ _ => rfl) ?_
  refine z_icmp_gt (tgt := 45) dX11_countFits_20 (by decide) (fun q24 => ?_) (fun q24 => ?_)
  · have hv := hv.1 q24
    refine z_aload_n dX11_countFits_45 rfl ?_
    refine z_getP dX11_countFits_46 zf_X11_88 zn_0 zo_0 (fun _ _ _ _ _ => rfl) (hP 0 11 96 zp_0_11) ?_
    refine z_iconst (v := 1) dX11_countFits_49 (by decide) ?_
    refine z_putI dX11_countFits_50 zf_X11_114 zn_96 zo_96 (Or.inl rfl) (fun _ _ _ _ _ => rfl) (by decide) (by decide) (z_nmI (fun I12 e13 => ?_))
    have hv := hv I12 e13
    refine z_aload_n dX11_countFits_53 rfl ?_
    refine z_getP dX11_countFits_54 zf_X11_88 zn_0 zo_0 (fun _ _ _ _ _ => rfl) (hP 0 11 96 zp_0_11) ?_
    refine z_aload_n dX11_countFits_57 rfl ?_
    refine z_getP dX11_countFits_58 zf_X11_26 zn_0 zo_0 (fun _ _ _ _ _ => rfl) h10 ?_
    refine z_aload_n dX11_countFits_61 rfl ?_
    refine z_getP dX11_countFits_62 zf_X11_79 zn_0 zo_0 (fun _ _ _ _ _ => rfl) (hP 0 10 90 zp_0_10) ?_
    refine z_iload_n dX11_countFits_65 rfl ?_
    refine z_callV (As := [.ref b9, .ref 90, .int p1]) (st := []) dX11_countFits_66 zl_X11_276 zv_X1_scan (by decide) rfl zn_96 zo_96 rfl rfl (Nat.le_of_ble_eq_true rfl) ⟨Nat.le_refl _, Nat.le_refl _⟩ ⟨Nat.le_refl _, Nat.le_refl _⟩ hv (fun v1 I14 L15 P16 nx1 q17 => ?_)
    obtain ⟨rfl, r18, rfl, hv⟩ := q17
    exact z_ireturn dX11_countFits_69 rfl rfl (Nat.le_refl _) (Nat.le_refl _) hv
  · have hv := hv.2 q24
    refine z_aload_n dX11_countFits_23 rfl ?_
    refine z_getP dX11_countFits_24 zf_X11_88 zn_0 zo_0 (fun _ _ _ _ _ => rfl) (hP 0 11 96 zp_0_11) ?_
    refine z_aload_n dX11_countFits_27 rfl ?_
    refine z_getP dX11_countFits_28 zf_X11_26 zn_0 zo_0 (fun _ _ _ _ _ => rfl) h10 ?_
    refine z_iload_n dX11_countFits_31 rfl ?_
    refine z_aload_n dX11_countFits_32 rfl ?_
    refine z_getP dX11_countFits_33 zf_X11_45 zn_0 zo_0 (fun _ _ _ _ _ => rfl) (hP 0 5 23 zp_0_5) ?_
    refine z_callV (As := [.ref b9, .int x2, .ref 23]) (st := []) dX11_countFits_36 zl_X11_272 zv_X1_learn (by decide) rfl zn_96 zo_96 rfl rfl (Nat.le_of_ble_eq_true rfl) ⟨Nat.le_refl _, Nat.le_refl _⟩ ⟨Nat.le_refl _, Nat.le_refl _⟩ hv (fun v1 I19 L20 P21 nx1 q22 => ?_)
    obtain ⟨rfl, rfl, hv⟩ := q22
    refine z_iinc (v2 := x2 + 1) (lv2 := [some (.ref 0), some (.int p1), some (.int (x2 + 1))]) dX11_countFits_39 rfl (by rfl) (by decide) rfl rfl ?_
    refine z_goto (tgt := 12) dX11_countFits_42 (by decide) ?_
    exact hv
def v_X11_countFits (d : Nat) (Q : zQt) (p1 : Int32) (I : zI) (L : zL) (P : zP) : Prop :=
  ((¬ (I 96 4) = 0 →
    ∃ b1 : Nat, P 0 2 = some b1 ∧
    zMi zm_X1_scan d [.ref 96, .ref b1, .ref 90, .int p1] I L P (fun r7 I3 L4 P5 =>
      Q (some (.int r7)) I3 L4 P5 205
    )
  ) ∧ ((I 96 4) = 0 →
    gw_X11_countFits (d + 1) Q 12 [some (.ref 0), some (.int p1), some (.int 0)] [] I L P
  ))
set_option maxRecDepth 20000 in
theorem g_X11_countFits {d : Nat} {Q : zQt} {p1 : Int32} {I : zI} {L : zL} {P : zP} (hP : zPk P) (hv : v_X11_countFits d Q p1 I L P) : zM zm_X11_countFits (d + 1) 0 0 [.ref 0, .int p1] I L P 205 Q := by
  unfold v_X11_countFits at hv
  refine zM_of (lv0 := [some (.ref 0), some (.int p1), none]) (by decide +kernel) (Nat.le_of_ble_eq_true rfl) rfl ?_
  refine z_aload_n dX11_countFits_0 rfl ?_
  refine z_getP dX11_countFits_1 zf_X11_88 zn_0 zo_0 (fun _ _ _ _ _ => rfl) (hP 0 11 96 zp_0_11) ?_
  refine z_getI dX11_countFits_4 zf_X11_114 zn_96 zo_96 (fun _ _ _ _ _ => rfl) ?_
  refine z_if_ne (tgt := 53) dX11_countFits_7 (by decide) (fun q8 => ?_) (fun q8 => ?_)
  · have hv := hv.1 q8
    refine z_aload_n dX11_countFits_53 rfl ?_
    refine z_getP dX11_countFits_54 zf_X11_88 zn_0 zo_0 (fun _ _ _ _ _ => rfl) (hP 0 11 96 zp_0_11) ?_
    refine z_aload_n dX11_countFits_57 rfl ?_
    obtain ⟨b1, h2, hv⟩ := hv
    refine z_getP dX11_countFits_58 zf_X11_26 zn_0 zo_0 (fun _ _ _ _ _ => rfl) h2 ?_
    refine z_aload_n dX11_countFits_61 rfl ?_
    refine z_getP dX11_countFits_62 zf_X11_79 zn_0 zo_0 (fun _ _ _ _ _ => rfl) (hP 0 10 90 zp_0_10) ?_
    refine z_iload_n dX11_countFits_65 rfl ?_
    refine z_callV (As := [.ref b1, .ref 90, .int p1]) (st := []) dX11_countFits_66 zl_X11_276 zv_X1_scan (by decide) rfl zn_96 zo_96 rfl rfl (Nat.le_of_ble_eq_true rfl) ⟨Nat.le_refl _, Nat.le_refl _⟩ ⟨Nat.le_refl _, Nat.le_refl _⟩ hv (fun v1 I3 L4 P5 nx1 q6 => ?_)
    obtain ⟨rfl, r7, rfl, hv⟩ := q6
    exact z_ireturn dX11_countFits_69 rfl rfl (Nat.le_refl _) (Nat.le_refl _) hv
  · have hv := hv.2 q8
    refine z_iconst (v := 0) dX11_countFits_10 (by decide) ?_
    refine z_istore_n (lv2 := [some (.ref 0), some (.int p1), some (.int 0)]) dX11_countFits_11 (by decide) rfl rfl ?_
    exact hv
