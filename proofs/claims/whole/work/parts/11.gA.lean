abbrev gw_X0_add (d : Nat) (Q : zQt) (pc : Nat) (lv : zV) (st : List Value) (I : zI) (L : zL) (P : zP) : Prop := zW zm_X0_add (zRm d 0 0) 0 0 Q pc lv st I L P 205 0 0
def v_X0_add (d : Nat) (Q : zQt) (a : Nat) (p1 : Int32) (p2 : Int32) (I : zI) (L : zL) (P : zP) : Prop :=
  (a < 205 ∧ (zsh a).1 = 0) ∧
  ((600 ≤ (I a 1) →
    Q none I L P 205
  ) ∧ (¬ 600 ≤ (I a 1) →
    ∃ b2 : Nat, P a 0 = some b2 ∧
    ∃ n5, (b2 < 205 ∧ zsh b2 = (100, n5)) ∧
    vp_in (I a 1) n5 ∧
    ∀ I8 : zI, I8 = zuI I b2 (I a 1).toNatClampNeg ((p1 <<< (14 &&& 31) : Int32) ||| p2 : Int32) →
    ∀ I9 : zI, I9 = zuI I8 a 1 ((I8 a 1) + 1) →
    Q none I9 L P 205
  ))
set_option maxRecDepth 20000 in
theorem g_X0_add {d : Nat} {Q : zQt} {a : Nat} {p1 : Int32} {p2 : Int32} {I : zI} {L : zL} {P : zP} (hP : zPk P) (hv : v_X0_add d Q a p1 p2 I L P) : zM zm_X0_add d 0 0 [.ref a, .int p1, .int p2] I L P 205 Q := by
  unfold v_X0_add at hv
  refine zM_of (lv0 := [some (.ref a), some (.int p1), some (.int p2)]) (by decide +kernel) (Nat.le_of_ble_eq_true rfl) rfl ?_
  refine z_aload_n dX0_add_0 rfl ?_
  obtain ⟨h1, hv⟩ := hv
  refine z_getI dX0_add_1 zf_X0_15 h1.1 h1.2 (fun _ _ _ _ _ => rfl) ?_
  refine z_sipush (v := 600) dX0_add_4 (by decide) ?_
  refine z_icmp_ge (tgt := 35) dX0_add_7 (by decide) (fun q11 => ?_) (fun q11 => ?_)
  · have hv := hv.1 q11
    exact z_return dX0_add_35 rfl (Nat.le_refl _) (Nat.le_refl _) hv
  · have hv := hv.2 q11
    refine z_aload_n dX0_add_10 rfl ?_
    obtain ⟨b2, h3, hv⟩ := hv
    refine z_getP dX0_add_11 zf_X0_11 h1.1 h1.2 (fun _ _ _ _ _ => rfl) h3 ?_
    refine z_aload_n dX0_add_14 rfl ?_
    refine z_getI dX0_add_15 zf_X0_15 h1.1 h1.2 (fun _ _ _ _ _ => rfl) ?_
    refine z_iload_n dX0_add_18 rfl ?_
    refine z_bipush (v := 14) dX0_add_19 (by decide) ?_
    refine z_ishl dX0_add_21 ?_
    refine z_iload_n dX0_add_22 rfl ?_
    refine z_ior dX0_add_23 ?_
    obtain ⟨n5, h4, hv⟩ := hv
    obtain ⟨h6, hv⟩ := hv
    refine z_iastore dX0_add_24 h4.1 h4.2 h6 (z_nmI (fun I8 e7 => ?_))
    have hv := hv I8 e7
    refine z_aload_n dX0_add_25 rfl ?_
    refine z_dup dX0_add_26 rfl ?_
    refine z_getI dX0_add_27 zf_X0_15 h1.1 h1.2 (fun _ _ _ _ _ => rfl) ?_
    refine z_iconst (v := 1) dX0_add_30 (by decide) ?_
    refine z_iadd dX0_add_31 ?_
    refine z_putI dX0_add_32 zf_X0_15 h1.1 h1.2 (Or.inl rfl) (fun _ _ _ _ _ => rfl) rfl rfl (z_nmI (fun I9 e10 => ?_))
    have hv := hv I9 e10
    exact z_return dX0_add_35 rfl (Nat.le_refl _) (Nat.le_refl _) hv
abbrev gw_X0_kindAt (d : Nat) (Q : zQt) (pc : Nat) (lv : zV) (st : List Value) (I : zI) (L : zL) (P : zP) : Prop := zW zm_X0_kindAt (zRm d 0 0) 0 0 Q pc lv st I L P 205 0 0
def v_X0_kindAt (d : Nat) (Q : zQt) (a : Nat) (p1 : Int32) (I : zI) (L : zL) (P : zP) : Prop :=
  ((p1 < 0 →
    Q (some (.int (-1))) I L P 205
  ) ∧ (¬ p1 < 0 →
    (a < 205 ∧ (zsh a).1 = 0) ∧
    (((I a 1) ≤ p1 →
      Q (some (.int (-1))) I L P 205
    ) ∧ (¬ (I a 1) ≤ p1 →
      ∃ b2 : Nat, P a 0 = some b2 ∧
      ∃ n5, (b2 < 205 ∧ zsh b2 = (100, n5)) ∧
      vp_in p1 n5 ∧
      Q (some (.int ((I b2 p1.toNatClampNeg) >>> (14 &&& 31) : Int32))) I L P 205
    ))
  ))
set_option maxRecDepth 20000 in
theorem g_X0_kindAt {d : Nat} {Q : zQt} {a : Nat} {p1 : Int32} {I : zI} {L : zL} {P : zP} (hP : zPk P) (hv : v_X0_kindAt d Q a p1 I L P) : zM zm_X0_kindAt d 0 0 [.ref a, .int p1] I L P 205 Q := by
  unfold v_X0_kindAt at hv
  refine zM_of (lv0 := [some (.ref a), some (.int p1)]) (by decide +kernel) (Nat.le_of_ble_eq_true rfl) rfl ?_
  refine z_iload_n dX0_kindAt_0 rfl ?_
  refine z_if_lt (tgt := 24) dX0_kindAt_1 (by decide) (fun q8 => ?_) (fun q8 => ?_)
  · have hv := hv.1 q8
    refine z_iconst (v := (-1)) dX0_kindAt_24 (by decide) ?_
    exact z_ireturn dX0_kindAt_25 rfl rfl (Nat.le_refl _) (Nat.le_refl _) hv
  · have hv := hv.2 q8
    refine z_iload_n dX0_kindAt_4 rfl ?_
    refine z_aload_n dX0_kindAt_5 rfl ?_
    obtain ⟨h1, hv⟩ := hv
    refine z_getI dX0_kindAt_6 zf_X0_15 h1.1 h1.2 (fun _ _ _ _ _ => rfl) ?_
    refine z_icmp_ge (tgt := 24) dX0_kindAt_9 (by decide) (fun q7 => ?_) (fun q7 => ?_)
    · have hv := hv.1 q7
      refine z_iconst (v := (-1)) dX0_kindAt_24 (by decide) ?_
      exact z_ireturn dX0_kindAt_25 rfl rfl (Nat.le_refl _) (Nat.le_refl _) hv
    · have hv := hv.2 q7
      refine z_aload_n dX0_kindAt_12 rfl ?_
      obtain ⟨b2, h3, hv⟩ := hv
      refine z_getP dX0_kindAt_13 zf_X0_11 h1.1 h1.2 (fun _ _ _ _ _ => rfl) h3 ?_
      refine z_iload_n dX0_kindAt_16 rfl ?_
      obtain ⟨n5, h4, hv⟩ := hv
      obtain ⟨h6, hv⟩ := hv
      refine z_iaload dX0_kindAt_17 h4.1 h4.2 h6 ?_
      refine z_bipush (v := 14) dX0_kindAt_18 (by decide) ?_
      refine z_ishr dX0_kindAt_20 ?_
      refine z_goto (tgt := 25) dX0_kindAt_21 (by decide) ?_
      exact z_ireturn dX0_kindAt_25 rfl rfl (Nat.le_refl _) (Nat.le_refl _) hv
abbrev gw_X0_ofAt (d : Nat) (Q : zQt) (pc : Nat) (lv : zV) (st : List Value) (I : zI) (L : zL) (P : zP) : Prop := zW zm_X0_ofAt (zRm d 0 0) 0 0 Q pc lv st I L P 205 0 0
def v_X0_ofAt (d : Nat) (Q : zQt) (a : Nat) (p1 : Int32) (I : zI) (L : zL) (P : zP) : Prop :=
  ((p1 < 0 →
    Q (some (.int (-1))) I L P 205
  ) ∧ (¬ p1 < 0 →
    (a < 205 ∧ (zsh a).1 = 0) ∧
    (((I a 1) ≤ p1 →
      Q (some (.int (-1))) I L P 205
    ) ∧ (¬ (I a 1) ≤ p1 →
      ∃ b2 : Nat, P a 0 = some b2 ∧
      ∃ n5, (b2 < 205 ∧ zsh b2 = (100, n5)) ∧
      vp_in p1 n5 ∧
      Q (some (.int ((I b2 p1.toNatClampNeg) &&& 16383 : Int32))) I L P 205
    ))
  ))
set_option maxRecDepth 20000 in
theorem g_X0_ofAt {d : Nat} {Q : zQt} {a : Nat} {p1 : Int32} {I : zI} {L : zL} {P : zP} (hP : zPk P) (hv : v_X0_ofAt d Q a p1 I L P) : zM zm_X0_ofAt d 0 0 [.ref a, .int p1] I L P 205 Q := by
  unfold v_X0_ofAt at hv
  refine zM_of (lv0 := [some (.ref a), some (.int p1)]) (by decide +kernel) (Nat.le_of_ble_eq_true rfl) rfl ?_
  refine z_iload_n dX0_ofAt_0 rfl ?_
  refine z_if_lt (tgt := 25) dX0_ofAt_1 (by decide) (fun q8 => ?_) (fun q8 => ?_)
  · have hv := hv.1 q8
    refine z_iconst (v := (-1)) dX0_ofAt_25 (by decide) ?_
    exact z_ireturn dX0_ofAt_26 rfl rfl (Nat.le_refl _) (Nat.le_refl _) hv
  · have hv := hv.2 q8
    refine z_iload_n dX0_ofAt_4 rfl ?_
    refine z_aload_n dX0_ofAt_5 rfl ?_
    obtain ⟨h1, hv⟩ := hv
    refine z_getI dX0_ofAt_6 zf_X0_15 h1.1 h1.2 (fun _ _ _ _ _ => rfl) ?_
    refine z_icmp_ge (tgt := 25) dX0_ofAt_9 (by decide) (fun q7 => ?_) (fun q7 => ?_)
    · have hv := hv.1 q7
      refine z_iconst (v := (-1)) dX0_ofAt_25 (by decide) ?_
      exact z_ireturn dX0_ofAt_26 rfl rfl (Nat.le_refl _) (Nat.le_refl _) hv
    · have hv := hv.2 q7
      refine z_aload_n dX0_ofAt_12 rfl ?_
      obtain ⟨b2, h3, hv⟩ := hv
      refine z_getP dX0_ofAt_13 zf_X0_11 h1.1 h1.2 (fun _ _ _ _ _ => rfl) h3 ?_
      refine z_iload_n dX0_ofAt_16 rfl ?_
      obtain ⟨n5, h4, hv⟩ := hv
      obtain ⟨h6, hv⟩ := hv
      refine z_iaload dX0_ofAt_17 h4.1 h4.2 h6 ?_
      refine z_sipush (v := 16383) dX0_ofAt_18 (by decide) ?_
      refine z_iand dX0_ofAt_21 ?_
      refine z_goto (tgt := 26) dX0_ofAt_22 (by decide) ?_
      exact z_ireturn dX0_ofAt_26 rfl rfl (Nat.le_refl _) (Nat.le_refl _) hv
abbrev gw_X2_clear (d : Nat) (Q : zQt) (pc : Nat) (lv : zV) (st : List Value) (I : zI) (L : zL) (P : zP) : Prop := zW zm_X2_clear (zRm d 0 0) 0 0 Q pc lv st I L P 205 0 0
def v_X2_clear (d : Nat) (Q : zQt) (a : Nat) (I : zI) (L : zL) (P : zP) : Prop :=
  (a < 205 ∧ (zsh a).1 = 2) ∧
  ∀ I2 : zI, I2 = zuI I a 0 0 →
  ∀ I4 : zI, I4 = zuI I2 a 1 0 →
  ∀ I6 : zI, I6 = zuI I4 a 2 0 →
  ∀ I8 : zI, I8 = zuI I6 a 3 0 →
  ∀ I10 : zI, I10 = zuI I8 a 4 0 →
  ∀ I12 : zI, I12 = zuI I10 a 6 0 →
  ∀ I14 : zI, I14 = zuI I12 a 7 0 →
  ∃ b16 : Nat, P a 10 = some b16 ∧
  (b16 < 205 ∧ (zsh b16).1 = 0) ∧
  ∀ I19 : zI, I19 = zuI I14 b16 1 0 →
  Q none I19 L P 205
set_option maxRecDepth 20000 in
theorem g_X2_clear {d : Nat} {Q : zQt} {a : Nat} {I : zI} {L : zL} {P : zP} (hP : zPk P) (hv : v_X2_clear d Q a I L P) : zM zm_X2_clear d 0 0 [.ref a] I L P 205 Q := by
  unfold v_X2_clear at hv
  refine zM_of (lv0 := [some (.ref a)]) (by decide +kernel) (Nat.le_of_ble_eq_true rfl) rfl ?_
  refine z_aload_n dX2_clear_0 rfl ?_
  refine z_iconst (v := 0) dX2_clear_1 (by decide) ?_
  obtain ⟨h1, hv⟩ := hv
  refine z_putI dX2_clear_2 zf_X2_29 h1.1 h1.2 (Or.inl rfl) (fun _ _ _ _ _ => rfl) rfl rfl (z_nmI (fun I2 e3 => ?_))
  have hv := hv I2 e3
  refine z_aload_n dX2_clear_5 rfl ?_
  refine z_iconst (v := 0) dX2_clear_6 (by decide) ?_
  refine z_putI dX2_clear_7 zf_X2_33 h1.1 h1.2 (Or.inl rfl) (fun _ _ _ _ _ => rfl) rfl rfl (z_nmI (fun I4 e5 => ?_))
  have hv := hv I4 e5
  refine z_aload_n dX2_clear_10 rfl ?_
  refine z_iconst (v := 0) dX2_clear_11 (by decide) ?_
  refine z_putI dX2_clear_12 zf_X2_36 h1.1 h1.2 (Or.inl rfl) (fun _ _ _ _ _ => rfl) rfl rfl (z_nmI (fun I6 e7 => ?_))
  have hv := hv I6 e7
  refine z_aload_n dX2_clear_15 rfl ?_
  refine z_iconst (v := 0) dX2_clear_16 (by decide) ?_
  refine z_putI dX2_clear_17 zf_X2_39 h1.1 h1.2 (Or.inl rfl) (fun _ _ _ _ _ => rfl) rfl rfl (z_nmI (fun I8 e9 => ?_))
  have hv := hv I8 e9
  refine z_aload_n dX2_clear_20 rfl ?_
  refine z_iconst (v := 0) dX2_clear_21 (by decide) ?_
  refine z_putI dX2_clear_22 zf_X2_42 h1.1 h1.2 (Or.inl rfl) (fun _ _ _ _ _ => rfl) rfl rfl (z_nmI (fun I10 e11 => ?_))
  have hv := hv I10 e11
  refine z_aload_n dX2_clear_25 rfl ?_
  refine z_iconst (v := 0) dX2_clear_26 (by decide) ?_
  refine z_putI dX2_clear_27 zf_X2_45 h1.1 h1.2 (Or.inl rfl) (fun _ _ _ _ _ => rfl) (by decide) (by decide) (z_nmI (fun I12 e13 => ?_))
  have hv := hv I12 e13
  refine z_aload_n dX2_clear_30 rfl ?_
  refine z_iconst (v := 0) dX2_clear_31 (by decide) ?_
  refine z_putI dX2_clear_32 zf_X2_49 h1.1 h1.2 (Or.inl rfl) (fun _ _ _ _ _ => rfl) (by decide) (by decide) (z_nmI (fun I14 e15 => ?_))
  have hv := hv I14 e15
  refine z_aload_n dX2_clear_35 rfl ?_
  obtain ⟨b16, h17, hv⟩ := hv
  refine z_getP dX2_clear_36 zf_X2_22 h1.1 h1.2 (fun _ _ _ _ _ => rfl) h17 ?_
  refine z_iconst (v := 0) dX2_clear_39 (by decide) ?_
  obtain ⟨h18, hv⟩ := hv
  refine z_putI dX2_clear_40 zf_X2_52 h18.1 h18.2 (Or.inl rfl) (fun _ _ _ _ _ => rfl) rfl rfl (z_nmI (fun I19 e20 => ?_))
  have hv := hv I19 e20
  exact z_return dX2_clear_43 rfl (Nat.le_refl _) (Nat.le_refl _) hv
abbrev gw_X2_isPerson (d : Nat) (Q : zQt) (pc : Nat) (lv : zV) (st : List Value) (I : zI) (L : zL) (P : zP) : Prop := zW zm_X2_isPerson (zRm d 0 0) 0 0 Q pc lv st I L P 205 0 0
def v_X2_isPerson (d : Nat) (Q : zQt) (a : Nat) (p1 : Int32) (I : zI) (L : zL) (P : zP) : Prop :=
  ((p1 < 0 →
    Q (some (.int 0)) I L P 205
  ) ∧ (¬ p1 < 0 →
    (a < 205 ∧ (zsh a).1 = 2) ∧
    (((I a 0) ≤ p1 →
      Q (some (.int 0)) I L P 205
    ) ∧ (¬ (I a 0) ≤ p1 →
      Q (some (.int 1)) I L P 205
    ))
  ))
set_option maxRecDepth 20000 in
theorem g_X2_isPerson {d : Nat} {Q : zQt} {a : Nat} {p1 : Int32} {I : zI} {L : zL} {P : zP} (hP : zPk P) (hv : v_X2_isPerson d Q a p1 I L P) : zM zm_X2_isPerson d 0 0 [.ref a, .int p1] I L P 205 Q := by
  unfold v_X2_isPerson at hv
  refine zM_of (lv0 := [some (.ref a), some (.int p1)]) (by decide +kernel) (Nat.le_of_ble_eq_true rfl) rfl ?_
  refine z_iload_n dX2_isPerson_0 rfl ?_
  refine z_if_lt (tgt := 16) dX2_isPerson_1 (by decide) (fun q3 => ?_) (fun q3 => ?_)
  · have hv := hv.1 q3
    refine z_iconst (v := 0) dX2_isPerson_16 (by decide) ?_
    exact z_ireturn dX2_isPerson_17 rfl (by decide) (Nat.le_refl _) (Nat.le_refl _) hv
  · have hv := hv.2 q3
    refine z_iload_n dX2_isPerson_4 rfl ?_
    refine z_aload_n dX2_isPerson_5 rfl ?_
    obtain ⟨h1, hv⟩ := hv
    refine z_getI dX2_isPerson_6 zf_X2_29 h1.1 h1.2 (fun _ _ _ _ _ => rfl) ?_
    refine z_icmp_ge (tgt := 16) dX2_isPerson_9 (by decide) (fun q2 => ?_) (fun q2 => ?_)
    · have hv := hv.1 q2
      refine z_iconst (v := 0) dX2_isPerson_16 (by decide) ?_
      exact z_ireturn dX2_isPerson_17 rfl (by decide) (Nat.le_refl _) (Nat.le_refl _) hv
    · have hv := hv.2 q2
      refine z_iconst (v := 1) dX2_isPerson_12 (by decide) ?_
      refine z_goto (tgt := 17) dX2_isPerson_13 (by decide) ?_
      exact z_ireturn dX2_isPerson_17 rfl (by decide) (Nat.le_refl _) (Nat.le_refl _) hv
abbrev gw_X2_arePeople (d : Nat) (Q : zQt) (pc : Nat) (lv : zV) (st : List Value) (I : zI) (L : zL) (P : zP) : Prop := zW zm_X2_arePeople (zRm d 0 0) 0 0 Q pc lv st I L P 205 0 0
def v_X2_arePeople (d : Nat) (Q : zQt) (a : Nat) (p1 : Int32) (I : zI) (L : zL) (P : zP) : Prop :=
  ((p1 < 0 →
    Q (some (.int 0)) I L P 205
  ) ∧ (¬ p1 < 0 →
    (a < 205 ∧ (zsh a).1 = 2) ∧
    zMi zm_X2_worldCount d [.ref a] I L P (fun r6 I2 L3 P4 =>
      ((r6 ≤ p1 →
        Q (some (.int 0)) I2 L3 P4 205
      ) ∧ (¬ r6 ≤ p1 →
        Q (some (.int 1)) I2 L3 P4 205
      ))
    )
  ))
set_option maxRecDepth 20000 in
theorem g_X2_arePeople {d : Nat} {Q : zQt} {a : Nat} {p1 : Int32} {I : zI} {L : zL} {P : zP} (hP : zPk P) (hv : v_X2_arePeople d Q a p1 I L P) : zM zm_X2_arePeople (d + 1) 0 0 [.ref a, .int p1] I L P 205 Q := by
  unfold v_X2_arePeople at hv
  refine zM_of (lv0 := [some (.ref a), some (.int p1)]) (by decide +kernel) (Nat.le_of_ble_eq_true rfl) rfl ?_
  refine z_iload_n dX2_arePeople_0 rfl ?_
  refine z_if_lt (tgt := 16) dX2_arePeople_1 (by decide) (fun q8 => ?_) (fun q8 => ?_)
  · have hv := hv.1 q8
    refine z_iconst (v := 0) dX2_arePeople_16 (by decide) ?_
    exact z_ireturn dX2_arePeople_17 rfl (by decide) (Nat.le_refl _) (Nat.le_refl _) hv
  · have hv := hv.2 q8
    refine z_iload_n dX2_arePeople_4 rfl ?_
    refine z_aload_n dX2_arePeople_5 rfl ?_
    obtain ⟨h1, hv⟩ := hv
    refine z_callV (As := []) (st := [.int p1]) dX2_arePeople_6 zl_X2_55 zv_X2_worldCount (by decide) rfl h1.1 h1.2 rfl rfl (Nat.le_of_ble_eq_true rfl) ⟨Nat.le_refl _, Nat.le_refl _⟩ ⟨Nat.le_refl _, Nat.le_refl _⟩ hv (fun v1 I2 L3 P4 nx1 q5 => ?_)
    obtain ⟨rfl, r6, rfl, hv⟩ := q5
    refine z_icmp_ge (tgt := 16) dX2_arePeople_9 (by decide) (fun q7 => ?_) (fun q7 => ?_)
    · have hv := hv.1 q7
      refine z_iconst (v := 0) dX2_arePeople_16 (by decide) ?_
      exact z_ireturn dX2_arePeople_17 rfl (by decide) (Nat.le_refl _) (Nat.le_refl _) hv
    · have hv := hv.2 q7
      refine z_iconst (v := 1) dX2_arePeople_12 (by decide) ?_
      refine z_goto (tgt := 17) dX2_arePeople_13 (by decide) ?_
      exact z_ireturn dX2_arePeople_17 rfl (by decide) (Nat.le_refl _) (Nat.le_refl _) hv
abbrev gw_X2_isWorld (d : Nat) (Q : zQt) (pc : Nat) (lv : zV) (st : List Value) (I : zI) (L : zL) (P : zP) : Prop := zW zm_X2_isWorld (zRm d 0 0) 0 0 Q pc lv st I L P 205 0 0
def v_X2_isWorld (d : Nat) (Q : zQt) (a : Nat) (p1 : Int32) (I : zI) (L : zL) (P : zP) : Prop :=
  ((p1 < 0 →
    Q (some (.int 0)) I L P 205
  ) ∧ (¬ p1 < 0 →
    (a < 205 ∧ (zsh a).1 = 2) ∧
    zMi zm_X2_worldCount d [.ref a] I L P (fun r6 I2 L3 P4 =>
      ((r6 ≤ p1 →
        Q (some (.int 0)) I2 L3 P4 205
      ) ∧ (¬ r6 ≤ p1 →
        Q (some (.int 1)) I2 L3 P4 205
      ))
    )
  ))
set_option maxRecDepth 20000 in
theorem g_X2_isWorld {d : Nat} {Q : zQt} {a : Nat} {p1 : Int32} {I : zI} {L : zL} {P : zP} (hP : zPk P) (hv : v_X2_isWorld d Q a p1 I L P) : zM zm_X2_isWorld (d + 1) 0 0 [.ref a, .int p1] I L P 205 Q := by
  unfold v_X2_isWorld at hv
  refine zM_of (lv0 := [some (.ref a), some (.int p1)]) (by decide +kernel) (Nat.le_of_ble_eq_true rfl) rfl ?_
  refine z_iload_n dX2_isWorld_0 rfl ?_
  refine z_if_lt (tgt := 16) dX2_isWorld_1 (by decide) (fun q8 => ?_) (fun q8 => ?_)
  · have hv := hv.1 q8
    refine z_iconst (v := 0) dX2_isWorld_16 (by decide) ?_
    exact z_ireturn dX2_isWorld_17 rfl (by decide) (Nat.le_refl _) (Nat.le_refl _) hv
  · have hv := hv.2 q8
    refine z_iload_n dX2_isWorld_4 rfl ?_
    refine z_aload_n dX2_isWorld_5 rfl ?_
    obtain ⟨h1, hv⟩ := hv
    refine z_callV (As := []) (st := [.int p1]) dX2_isWorld_6 zl_X2_55 zv_X2_worldCount (by decide) rfl h1.1 h1.2 rfl rfl (Nat.le_of_ble_eq_true rfl) ⟨Nat.le_refl _, Nat.le_refl _⟩ ⟨Nat.le_refl _, Nat.le_refl _⟩ hv (fun v1 I2 L3 P4 nx1 q5 => ?_)
    obtain ⟨rfl, r6, rfl, hv⟩ := q5
    refine z_icmp_ge (tgt := 16) dX2_isWorld_9 (by decide) (fun q7 => ?_) (fun q7 => ?_)
    · have hv := hv.1 q7
      refine z_iconst (v := 0) dX2_isWorld_16 (by decide) ?_
      exact z_ireturn dX2_isWorld_17 rfl (by decide) (Nat.le_refl _) (Nat.le_refl _) hv
    · have hv := hv.2 q7
      refine z_iconst (v := 1) dX2_isWorld_12 (by decide) ?_
      refine z_goto (tgt := 17) dX2_isWorld_13 (by decide) ?_
      exact z_ireturn dX2_isWorld_17 rfl (by decide) (Nat.le_refl _) (Nat.le_refl _) hv
abbrev gw_X2_worldCount (d : Nat) (Q : zQt) (pc : Nat) (lv : zV) (st : List Value) (I : zI) (L : zL) (P : zP) : Prop := zW zm_X2_worldCount (zRm d 0 0) 0 0 Q pc lv st I L P 205 0 0
def v_X2_worldCount (d : Nat) (Q : zQt) (a : Nat) (I : zI) (L : zL) (P : zP) : Prop :=
  (a < 205 ∧ (zsh a).1 = 2) ∧
  Q (some (.int ((1 : Int32) <<< ((I a 0) &&& 31) : Int32))) I L P 205
set_option maxRecDepth 20000 in
theorem g_X2_worldCount {d : Nat} {Q : zQt} {a : Nat} {I : zI} {L : zL} {P : zP} (hP : zPk P) (hv : v_X2_worldCount d Q a I L P) : zM zm_X2_worldCount d 0 0 [.ref a] I L P 205 Q := by
  unfold v_X2_worldCount at hv
  refine zM_of (lv0 := [some (.ref a)]) (by decide +kernel) (Nat.le_of_ble_eq_true rfl) rfl ?_
  refine z_iconst (v := 1) dX2_worldCount_0 (by decide) ?_
  refine z_aload_n dX2_worldCount_1 rfl ?_
  obtain ⟨h1, hv⟩ := hv
  refine z_getI dX2_worldCount_2 zf_X2_29 h1.1 h1.2 (fun _ _ _ _ _ => rfl) ?_
  refine z_ishl dX2_worldCount_5 ?_
  exact z_ireturn dX2_worldCount_6 rfl rfl (Nat.le_refl _) (Nat.le_refl _) hv
abbrev gw_X2_takesPeople (d : Nat) (Q : zQt) (pc : Nat) (lv : zV) (st : List Value) (I : zI) (L : zL) (P : zP) : Prop := zW zm_X2_takesPeople (zRm d 0 0) 0 0 Q pc lv st I L P 205 0 0
def v_X2_takesPeople (d : Nat) (Q : zQt) (a : Nat) (I : zI) (L : zL) (P : zP) : Prop :=
  (a < 205 ∧ (zsh a).1 = 2) ∧
  ((8 ≤ (I a 0) →
    Q (some (.int 0)) I L P 205
  ) ∧ (¬ 8 ≤ (I a 0) →
    ((¬ (I a 3) = 0 →
      Q (some (.int 0)) I L P 205
    ) ∧ ((I a 3) = 0 →
      ((¬ (I a 6) = 0 →
        Q (some (.int 0)) I L P 205
      ) ∧ ((I a 6) = 0 →
        ((¬ (I a 4) = 0 →
          Q (some (.int 0)) I L P 205
        ) ∧ ((I a 4) = 0 →
          Q (some (.int 1)) I L P 205
        ))
      ))
    ))
  ))
set_option maxRecDepth 20000 in
theorem g_X2_takesPeople {d : Nat} {Q : zQt} {a : Nat} {I : zI} {L : zL} {P : zP} (hP : zPk P) (hv : v_X2_takesPeople d Q a I L P) : zM zm_X2_takesPeople d 0 0 [.ref a] I L P 205 Q := by
  unfold v_X2_takesPeople at hv
  refine zM_of (lv0 := [some (.ref a)]) (by decide +kernel) (Nat.le_of_ble_eq_true rfl) rfl ?_
  refine z_aload_n dX2_takesPeople_0 rfl ?_
  obtain ⟨h1, hv⟩ := hv
  refine z_getI dX2_takesPeople_1 zf_X2_29 h1.1 h1.2 (fun _ _ _ _ _ => rfl) ?_
  refine z_bipush (v := 8) dX2_takesPeople_4 (by decide) ?_
  refine z_icmp_ge (tgt := 34) dX2_takesPeople_6 (by decide) (fun q5 => ?_) (fun q5 => ?_)
  · have hv := hv.1 q5
    refine z_iconst (v := 0) dX2_takesPeople_34 (by decide) ?_
    exact z_ireturn dX2_takesPeople_35 rfl (by decide) (Nat.le_refl _) (Nat.le_refl _) hv
  · have hv := hv.2 q5
    refine z_aload_n dX2_takesPeople_9 rfl ?_
    refine z_getI dX2_takesPeople_10 zf_X2_39 h1.1 h1.2 (fun _ _ _ _ _ => rfl) ?_
    refine z_if_ne (tgt := 34) dX2_takesPeople_13 (by decide) (fun q4 => ?_) (fun q4 => ?_)
    · have hv := hv.1 q4
      refine z_iconst (v := 0) dX2_takesPeople_34 (by decide) ?_
      exact z_ireturn dX2_takesPeople_35 rfl (by decide) (Nat.le_refl _) (Nat.le_refl _) hv
    · have hv := hv.2 q4
      refine z_aload_n dX2_takesPeople_16 rfl ?_
      refine z_getI dX2_takesPeople_17 zf_X2_45 h1.1 h1.2 (fun _ _ _ _ _ => rfl) ?_
      refine z_if_ne (tgt := 34) dX2_takesPeople_20 (by decide) (fun q3 => ?_) (fun q3 => ?_)
      · have hv := hv.1 q3
        refine z_iconst (v := 0) dX2_takesPeople_34 (by decide) ?_
        exact z_ireturn dX2_takesPeople_35 rfl (by decide) (Nat.le_refl _) (Nat.le_refl _) hv
      · have hv := hv.2 q3
        refine z_aload_n dX2_takesPeople_23 rfl ?_
        refine z_getI dX2_takesPeople_24 zf_X2_42 h1.1 h1.2 (fun _ _ _ _ _ => rfl) ?_
        refine z_if_ne (tgt := 34) dX2_takesPeople_27 (by decide) (fun q2 => ?_) (fun q2 => ?_)
        · have hv := hv.1 q2
          refine z_iconst (v := 0) dX2_takesPeople_34 (by decide) ?_
          exact z_ireturn dX2_takesPeople_35 rfl (by decide) (Nat.le_refl _) (Nat.le_refl _) hv
        · have hv := hv.2 q2
          refine z_iconst (v := 1) dX2_takesPeople_30 (by decide) ?_
          refine z_goto (tgt := 35) dX2_takesPeople_31 (by decide) ?_
          exact z_ireturn dX2_takesPeople_35 rfl (by decide) (Nat.le_refl _) (Nat.le_refl _) hv
abbrev gw_X2_addPerson (d : Nat) (Q : zQt) (pc : Nat) (lv : zV) (st : List Value) (I : zI) (L : zL) (P : zP) : Prop := zW zm_X2_addPerson (zRm d 0 0) 0 0 Q pc lv st I L P 205 0 0
def v_X2_addPerson_11 (d : Nat) (Q : zQt) (a : Nat) (p1 : Int64) (x3 : Int32) (I : zI) (L : zL) (P : zP) : Prop :=
  (a < 205 ∧ (zsh a).1 = 2) ∧
  (((I a 0) ≤ x3 →
    ∃ b4 : Nat, P a 9 = some b4 ∧
    ∃ n7, (b4 < 205 ∧ zsh b4 = (100, n7)) ∧
    vp_in (I a 0) n7 ∧
    ∀ I10 : zI, I10 = zuI I b4 (I a 0).toNatClampNeg (((1 : Int32) <<< ((I a 0) &&& 31) : Int32) - 1) →
    ∃ b11 : Nat, P a 8 = some b11 ∧
    ∃ n14, (b11 < 205 ∧ zsh b11 = (101, n14)) ∧
    vp_in (I10 a 0) n14 ∧
    ∀ L17 : zL, L17 = zuL L b11 (I10 a 0).toNatClampNeg p1 →
    ∀ I18 : zI, I18 = zuI I10 a 0 ((I10 a 0) + 1) →
    Q none I18 L17 P 205
  ) ∧ (¬ (I a 0) ≤ x3 →
    ∃ b20 : Nat, P a 9 = some b20 ∧
    ∃ n23, (b20 < 205 ∧ zsh b20 = (100, n23)) ∧
    vp_in x3 n23 ∧
    ∀ I26 : zI, I26 = zuI I b20 x3.toNatClampNeg ((I b20 x3.toNatClampNeg) ||| ((1 : Int32) <<< ((I a 0) &&& 31) : Int32) : Int32) →
    gw_X2_addPerson d Q 11 [some (.ref a), some (.long p1), none, some (.int (x3 + 1))] [] I26 L P
  ))
set_option maxRecDepth 20000 in
theorem g_X2_addPerson_11 {d : Nat} {Q : zQt} {a : Nat} {p1 : Int64} {x3 : Int32} {I : zI} {L : zL} {P : zP} (hP : zPk P) (hv : v_X2_addPerson_11 d Q a p1 x3 I L P) : gw_X2_addPerson d Q 11 [some (.ref a), some (.long p1), none, some (.int x3)] [] I L P := by
  unfold v_X2_addPerson_11 at hv
  refine z_iload_n dX2_addPerson_11 rfl ?_
  refine z_aload_n dX2_addPerson_12 rfl ?_
  obtain ⟨h3, hv⟩ := hv
  refine z_getI dX2_addPerson_13 zf_X2_29 h3.1 h3.2 (fun _ _ _ _ _ => rfl) ?_
  refine z_icmp_ge (tgt := 40) dX2_addPerson_16 (by decide) (fun q27 => ?_) (fun q27 => ?_)
  · have hv := hv.1 q27
    refine z_aload_n dX2_addPerson_40 rfl ?_
    obtain ⟨b4, h5, hv⟩ := hv
    refine z_getP dX2_addPerson_41 zf_X2_15 h3.1 h3.2 (fun _ _ _ _ _ => rfl) h5 ?_
    refine z_aload_n dX2_addPerson_44 rfl ?_
    refine z_getI dX2_addPerson_45 zf_X2_29 h3.1 h3.2 (fun _ _ _ _ _ => rfl) ?_
    refine z_iconst (v := 1) dX2_addPerson_48 (by decide) ?_
    refine z_aload_n dX2_addPerson_49 rfl ?_
    refine z_getI dX2_addPerson_50 zf_X2_29 h3.1 h3.2 (fun _ _ _ _ _ => rfl) ?_
    refine z_ishl dX2_addPerson_53 ?_
    refine z_iconst (v := 1) dX2_addPerson_54 (by decide) ?_
    refine z_isub dX2_addPerson_55 ?_
    obtain ⟨n7, h6, hv⟩ := hv
    obtain ⟨h8, hv⟩ := hv
    refine z_iastore dX2_addPerson_56 h6.1 h6.2 h8 (z_nmI (fun I10 e9 => ?_))
    have hv := hv I10 e9
    refine z_aload_n dX2_addPerson_57 rfl ?_
    obtain ⟨b11, h12, hv⟩ := hv
    refine z_getP dX2_addPerson_58 zf_X2_11 h3.1 h3.2 (fun _ _ _ _ _ => rfl) h12 ?_
    refine z_aload_n dX2_addPerson_61 rfl ?_
    refine z_getI dX2_addPerson_62 zf_X2_29 h3.1 h3.2 (fun _ _ _ _ _ => rfl) ?_
    refine z_lload_n dX2_addPerson_65 rfl ?_
    obtain ⟨n14, h13, hv⟩ := hv
    obtain ⟨h15, hv⟩ := hv
    refine z_lastore dX2_addPerson_66 h13.1 h13.2 h15 (z_nmL (fun L17 e16 => ?_))
    have hv := hv L17 e16
    refine z_aload_n dX2_addPerson_67 rfl ?_
    refine z_dup dX2_addPerson_68 rfl ?_
    refine z_getI dX2_addPerson_69 zf_X2_29 h3.1 h3.2 (fun _ _ _ _ _ => rfl) ?_
    refine z_iconst (v := 1) dX2_addPerson_72 (by decide) ?_
    refine z_iadd dX2_addPerson_73 ?_
    refine z_putI dX2_addPerson_74 zf_X2_29 h3.1 h3.2 (Or.inl rfl) (fun _ _ _ _ _ => rfl) rfl rfl (z_nmI (fun I18 e19 => ?_))
    have hv := hv I18 e19
    exact z_return dX2_addPerson_77 rfl (Nat.le_refl _) (Nat.le_refl _) hv
  · have hv := hv.2 q27
    refine z_aload_n dX2_addPerson_19 rfl ?_
    obtain ⟨b20, h21, hv⟩ := hv
    refine z_getP dX2_addPerson_20 zf_X2_15 h3.1 h3.2 (fun _ _ _ _ _ => rfl) h21 ?_
    refine z_iload_n dX2_addPerson_23 rfl ?_
    refine z_dup2 dX2_addPerson_24 rfl rfl ?_
    obtain ⟨n23, h22, hv⟩ := hv
    obtain ⟨h24, hv⟩ := hv
    refine z_iaload dX2_addPerson_25 h22.1 h22.2 h24 ?_
    refine z_iconst (v := 1) dX2_addPerson_26 (by decide) ?_
    refine z_aload_n dX2_addPerson_27 rfl ?_
    refine z_getI dX2_addPerson_28 zf_X2_29 h3.1 h3.2 (fun _ _ _ _ _ => rfl) ?_
    refine z_ishl dX2_addPerson_31 ?_
    refine z_ior dX2_addPerson_32 ?_
    refine z_iastore dX2_addPerson_33 h22.1 h22.2 h24 (z_nmI (fun I26 e25 => ?_))
    have hv := hv I26 e25
    refine z_iinc (v2 := x3 + 1) (lv2 := [some (.ref a), some (.long p1), none, some (.int (x3 + 1))]) dX2_addPerson_34 rfl (by rfl) (by decide) rfl rfl ?_
    refine z_goto (tgt := 11) dX2_addPerson_37 (by decide) ?_
    exact hv
def v_X2_addPerson (d : Nat) (Q : zQt) (a : Nat) (p1 : Int64) (I : zI) (L : zL) (P : zP) : Prop :=
  (a < 205 ∧ (zsh a).1 = 2) ∧
  ((8 ≤ (I a 0) →
    Q none I L P 205
  ) ∧ (¬ 8 ≤ (I a 0) →
    gw_X2_addPerson d Q 11 [some (.ref a), some (.long p1), none, some (.int 0)] [] I L P
  ))
set_option maxRecDepth 20000 in
theorem g_X2_addPerson {d : Nat} {Q : zQt} {a : Nat} {p1 : Int64} {I : zI} {L : zL} {P : zP} (hP : zPk P) (hv : v_X2_addPerson d Q a p1 I L P) : zM zm_X2_addPerson d 0 0 [.ref a, .long p1] I L P 205 Q := by
  unfold v_X2_addPerson at hv
  refine zM_of (lv0 := [some (.ref a), some (.long p1), none, none]) (by decide +kernel) (Nat.le_of_ble_eq_true rfl) rfl ?_
  refine z_aload_n dX2_addPerson_0 rfl ?_
  obtain ⟨h1, hv⟩ := hv
  refine z_getI dX2_addPerson_1 zf_X2_29 h1.1 h1.2 (fun _ _ _ _ _ => rfl) ?_
  refine z_bipush (v := 8) dX2_addPerson_4 (by decide) ?_
  refine z_icmp_ge (tgt := 77) dX2_addPerson_6 (by decide) (fun q2 => ?_) (fun q2 => ?_)
  · have hv := hv.1 q2
    exact z_return dX2_addPerson_77 rfl (Nat.le_refl _) (Nat.le_refl _) hv
  · have hv := hv.2 q2
    refine z_iconst (v := 0) dX2_addPerson_9 (by decide) ?_
    refine z_istore_n (lv2 := [some (.ref a), some (.long p1), none, some (.int 0)]) dX2_addPerson_10 (by decide) rfl rfl ?_
    exact hv
abbrev gw_X2_find (d : Nat) (Q : zQt) (pc : Nat) (lv : zV) (st : List Value) (I : zI) (L : zL) (P : zP) : Prop := zW zm_X2_find (zRm d 0 0) 0 0 Q pc lv st I L P 205 0 0
def v_X2_find_2 (d : Nat) (Q : zQt) (a : Nat) (p1 : Int64) (x3 : Int32) (I : zI) (L : zL) (P : zP) : Prop :=
  (a < 205 ∧ (zsh a).1 = 2) ∧
  (((I a 0) ≤ x3 →
    Q (some (.int (-1))) I L P 205
  ) ∧ (¬ (I a 0) ≤ x3 →
    ∃ b2 : Nat, P a 8 = some b2 ∧
    ∃ n5, (b2 < 205 ∧ zsh b2 = (101, n5)) ∧
    vp_in x3 n5 ∧
    ((¬ (lg_cmp (L b2 x3.toNatClampNeg) p1) = 0 →
      gw_X2_find d Q 2 [some (.ref a), some (.long p1), none, some (.int (x3 + 1))] [] I L P
    ) ∧ ((lg_cmp (L b2 x3.toNatClampNeg) p1) = 0 →
      Q (some (.int x3)) I L P 205
    ))
  ))
set_option maxRecDepth 20000 in
theorem g_X2_find_2 {d : Nat} {Q : zQt} {a : Nat} {p1 : Int64} {x3 : Int32} {I : zI} {L : zL} {P : zP} (hP : zPk P) (hv : v_X2_find_2 d Q a p1 x3 I L P) : gw_X2_find d Q 2 [some (.ref a), some (.long p1), none, some (.int x3)] [] I L P := by
  unfold v_X2_find_2 at hv
  refine z_iload_n dX2_find_2 rfl ?_
  refine z_aload_n dX2_find_3 rfl ?_
  obtain ⟨h1, hv⟩ := hv
  refine z_getI dX2_find_4 zf_X2_29 h1.1 h1.2 (fun _ _ _ _ _ => rfl) ?_
  refine z_icmp_ge (tgt := 29) dX2_find_7 (by decide) (fun q8 => ?_) (fun q8 => ?_)
  · have hv := hv.1 q8
    refine z_iconst (v := (-1)) dX2_find_29 (by decide) ?_
    exact z_ireturn dX2_find_30 rfl rfl (Nat.le_refl _) (Nat.le_refl _) hv
  · have hv := hv.2 q8
    refine z_aload_n dX2_find_10 rfl ?_
    obtain ⟨b2, h3, hv⟩ := hv
    refine z_getP dX2_find_11 zf_X2_11 h1.1 h1.2 (fun _ _ _ _ _ => rfl) h3 ?_
    refine z_iload_n dX2_find_14 rfl ?_
    obtain ⟨n5, h4, hv⟩ := hv
    obtain ⟨h6, hv⟩ := hv
    refine z_laload dX2_find_15 h4.1 h4.2 h6 ?_
    refine z_lload_n dX2_find_16 rfl ?_
    refine z_lcmp dX2_find_17 ?_
    refine z_if_ne (tgt := 23) dX2_find_18 (by decide) (fun q7 => ?_) (fun q7 => ?_)
    · have hv := hv.1 q7
      refine z_iinc (v2 := x3 + 1) (lv2 := [some (.ref a), some (.long p1), none, some (.int (x3 + 1))]) dX2_find_23 rfl (by rfl) (by decide) rfl rfl ?_
      refine z_goto (tgt := 2) dX2_find_26 (by decide) ?_
      exact hv
    · have hv := hv.2 q7
      refine z_iload_n dX2_find_21 rfl ?_
      exact z_ireturn dX2_find_22 rfl rfl (Nat.le_refl _) (Nat.le_refl _) hv
def v_X2_find (d : Nat) (Q : zQt) (a : Nat) (p1 : Int64) (I : zI) (L : zL) (P : zP) : Prop :=
  gw_X2_find d Q 2 [some (.ref a), some (.long p1), none, some (.int 0)] [] I L P
set_option maxRecDepth 20000 in
theorem g_X2_find {d : Nat} {Q : zQt} {a : Nat} {p1 : Int64} {I : zI} {L : zL} {P : zP} (hP : zPk P) (hv : v_X2_find d Q a p1 I L P) : zM zm_X2_find d 0 0 [.ref a, .long p1] I L P 205 Q := by
  unfold v_X2_find at hv
  refine zM_of (lv0 := [some (.ref a), some (.long p1), none, none]) (by decide +kernel) (Nat.le_of_ble_eq_true rfl) rfl ?_
  refine z_iconst (v := 0) dX2_find_0 (by decide) ?_
  refine z_istore_n (lv2 := [some (.ref a), some (.long p1), none, some (.int 0)]) dX2_find_1 (by decide) rfl rfl ?_
  exact hv
abbrev gw_X2_giveMirror (d : Nat) (Q : zQt) (pc : Nat) (lv : zV) (st : List Value) (I : zI) (L : zL) (P : zP) : Prop := zW zm_X2_giveMirror (zRm d 0 0) 0 0 Q pc lv st I L P 205 0 0
def v_X2_giveMirror (d : Nat) (Q : zQt) (a : Nat) (p1 : Int32) (I : zI) (L : zL) (P : zP) : Prop :=
  (a < 205 ∧ (zsh a).1 = 2) ∧
  zMi zm_X2_isPerson d [.ref a, .int p1] I L P (fun r6 I2 L3 P4 =>
    ((r6 = 0 →
      Q none I2 L3 P4 205
    ) ∧ (¬ r6 = 0 →
      ∃ b7 : Nat, P4 a 9 = some b7 ∧
      ∃ n10, (b7 < 205 ∧ zsh b7 = (100, n10)) ∧
      vp_in p1 n10 ∧
      ∀ I13 : zI, I13 = zuI I2 b7 p1.toNatClampNeg ((I2 b7 p1.toNatClampNeg) ||| ((1 : Int32) <<< (p1 &&& 31) : Int32) : Int32) →
      Q none I13 L3 P4 205
    ))
  )
set_option maxRecDepth 20000 in
theorem g_X2_giveMirror {d : Nat} {Q : zQt} {a : Nat} {p1 : Int32} {I : zI} {L : zL} {P : zP} (hP : zPk P) (hv : v_X2_giveMirror d Q a p1 I L P) : zM zm_X2_giveMirror (d + 1) 0 0 [.ref a, .int p1] I L P 205 Q := by
  unfold v_X2_giveMirror at hv
  refine zM_of (lv0 := [some (.ref a), some (.int p1)]) (by decide +kernel) (Nat.le_of_ble_eq_true rfl) rfl ?_
  refine z_aload_n dX2_giveMirror_0 rfl ?_
  refine z_iload_n dX2_giveMirror_1 rfl ?_
  obtain ⟨h1, hv⟩ := hv
  refine z_callV (As := [.int p1]) (st := []) dX2_giveMirror_2 zl_X2_59 zv_X2_isPerson (by decide) rfl h1.1 h1.2 rfl rfl (Nat.le_of_ble_eq_true rfl) ⟨Nat.le_refl _, Nat.le_refl _⟩ ⟨Nat.le_refl _, Nat.le_refl _⟩ hv (fun v1 I2 L3 P4 nx1 q5 => ?_)
  obtain ⟨rfl, r6, rfl, hv⟩ := q5
  refine z_if_eq (tgt := 20) dX2_giveMirror_5 (by decide) (fun q14 => ?_) (fun q14 => ?_)
  · have hv := hv.1 q14
    exact z_return dX2_giveMirror_20 rfl (Nat.le_refl _) (Nat.le_refl _) hv
  · have hv := hv.2 q14
    refine z_aload_n dX2_giveMirror_8 rfl ?_
    obtain ⟨b7, h8, hv⟩ := hv
    refine z_getP dX2_giveMirror_9 zf_X2_15 h1.1 h1.2 (fun _ _ _ _ _ => rfl) h8 ?_
    refine z_iload_n dX2_giveMirror_12 rfl ?_
    refine z_dup2 dX2_giveMirror_13 rfl rfl ?_
    obtain ⟨n10, h9, hv⟩ := hv
    obtain ⟨h11, hv⟩ := hv
    refine z_iaload dX2_giveMirror_14 h9.1 h9.2 h11 ?_
    refine z_iconst (v := 1) dX2_giveMirror_15 (by decide) ?_
    refine z_iload_n dX2_giveMirror_16 rfl ?_
    refine z_ishl dX2_giveMirror_17 ?_
    refine z_ior dX2_giveMirror_18 ?_
    refine z_iastore dX2_giveMirror_19 h9.1 h9.2 h11 (z_nmI (fun I13 e12 => ?_))
    have hv := hv I13 e12
    exact z_return dX2_giveMirror_20 rfl (Nat.le_refl _) (Nat.le_refl _) hv
abbrev gw_X2_canBlind (d : Nat) (Q : zQt) (pc : Nat) (lv : zV) (st : List Value) (I : zI) (L : zL) (P : zP) : Prop := zW zm_X2_canBlind (zRm d 0 0) 0 0 Q pc lv st I L P 205 0 0
def v_X2_canBlind (d : Nat) (Q : zQt) (a : Nat) (p1 : Int32) (p2 : Int32) (I : zI) (L : zL) (P : zP) : Prop :=
  (a < 205 ∧ (zsh a).1 = 2) ∧
  zMi zm_X2_isPerson d [.ref a, .int p1] I L P (fun r6 I2 L3 P4 =>
    ((r6 = 0 →
      Q (some (.int 0)) I2 L3 P4 205
    ) ∧ (¬ r6 = 0 →
      ((p1 = p2 →
        Q (some (.int 0)) I2 L3 P4 205
      ) ∧ (¬ p1 = p2 →
        ∃ b7 : Nat, P4 a 9 = some b7 ∧
        ∃ n10, (b7 < 205 ∧ zsh b7 = (100, n10)) ∧
        vp_in p1 n10 ∧
        ((¬ (((I2 b7 p1.toNatClampNeg) >>> (p2 &&& 31) : Int32) &&& 1 : Int32) = 1 →
          Q (some (.int 0)) I2 L3 P4 205
        ) ∧ ((((I2 b7 p1.toNatClampNeg) >>> (p2 &&& 31) : Int32) &&& 1 : Int32) = 1 →
          Q (some (.int 1)) I2 L3 P4 205
        ))
      ))
    ))
  )
set_option maxRecDepth 20000 in
theorem g_X2_canBlind {d : Nat} {Q : zQt} {a : Nat} {p1 : Int32} {p2 : Int32} {I : zI} {L : zL} {P : zP} (hP : zPk P) (hv : v_X2_canBlind d Q a p1 p2 I L P) : zM zm_X2_canBlind (d + 1) 0 0 [.ref a, .int p1, .int p2] I L P 205 Q := by
  unfold v_X2_canBlind at hv
  refine zM_of (lv0 := [some (.ref a), some (.int p1), some (.int p2)]) (by decide +kernel) (Nat.le_of_ble_eq_true rfl) rfl ?_
  refine z_aload_n dX2_canBlind_0 rfl ?_
  refine z_iload_n dX2_canBlind_1 rfl ?_
  obtain ⟨h1, hv⟩ := hv
  refine z_callV (As := [.int p1]) (st := []) dX2_canBlind_2 zl_X2_59 zv_X2_isPerson (by decide) rfl h1.1 h1.2 rfl rfl (Nat.le_of_ble_eq_true rfl) ⟨Nat.le_refl _, Nat.le_refl _⟩ ⟨Nat.le_refl _, Nat.le_refl _⟩ hv (fun v1 I2 L3 P4 nx1 q5 => ?_)
  obtain ⟨rfl, r6, rfl, hv⟩ := q5
  refine z_if_eq (tgt := 31) dX2_canBlind_5 (by decide) (fun q14 => ?_) (fun q14 => ?_)
  · have hv := hv.1 q14
    refine z_iconst (v := 0) dX2_canBlind_31 (by decide) ?_
    exact z_ireturn dX2_canBlind_32 rfl (by decide) (Nat.le_refl _) (Nat.le_refl _) hv
  · have hv := hv.2 q14
    refine z_iload_n dX2_canBlind_8 rfl ?_
    refine z_iload_n dX2_canBlind_9 rfl ?_
    refine z_icmp_eq (tgt := 31) dX2_canBlind_10 (by decide) (fun q13 => ?_) (fun q13 => ?_)
    · have hv := hv.1 q13
      refine z_iconst (v := 0) dX2_canBlind_31 (by decide) ?_
      exact z_ireturn dX2_canBlind_32 rfl (by decide) (Nat.le_refl _) (Nat.le_refl _) hv
    · have hv := hv.2 q13
      refine z_aload_n dX2_canBlind_13 rfl ?_
      obtain ⟨b7, h8, hv⟩ := hv
      refine z_getP dX2_canBlind_14 zf_X2_15 h1.1 h1.2 (fun _ _ _ _ _ => rfl) h8 ?_
      refine z_iload_n dX2_canBlind_17 rfl ?_
      obtain ⟨n10, h9, hv⟩ := hv
      obtain ⟨h11, hv⟩ := hv
      refine z_iaload dX2_canBlind_18 h9.1 h9.2 h11 ?_
      refine z_iload_n dX2_canBlind_19 rfl ?_
      refine z_ishr dX2_canBlind_20 ?_
      refine z_iconst (v := 1) dX2_canBlind_21 (by decide) ?_
      refine z_iand dX2_canBlind_22 ?_
      refine z_iconst (v := 1) dX2_canBlind_23 (by decide) ?_
      refine z_icmp_ne (tgt := 31) dX2_canBlind_24 (by decide) (fun q12 => ?_) (fun q12 => ?_)
      · have hv := hv.1 q12
        refine z_iconst (v := 0) dX2_canBlind_31 (by decide) ?_
        exact z_ireturn dX2_canBlind_32 rfl (by decide) (Nat.le_refl _) (Nat.le_refl _) hv
      · have hv := hv.2 q12
        refine z_iconst (v := 1) dX2_canBlind_27 (by decide) ?_
        refine z_goto (tgt := 32) dX2_canBlind_28 (by decide) ?_
        exact z_ireturn dX2_canBlind_32 rfl (by decide) (Nat.le_refl _) (Nat.le_refl _) hv
abbrev gw_X2_addBlind (d : Nat) (Q : zQt) (pc : Nat) (lv : zV) (st : List Value) (I : zI) (L : zL) (P : zP) : Prop := zW zm_X2_addBlind (zRm d 0 0) 0 0 Q pc lv st I L P 205 0 0
def v_X2_addBlind (d : Nat) (Q : zQt) (a : Nat) (p1 : Int32) (p2 : Int32) (I : zI) (L : zL) (P : zP) : Prop :=
  (a < 205 ∧ (zsh a).1 = 2) ∧
  zMi zm_X2_isPerson d [.ref a, .int p1] I L P (fun r6 I2 L3 P4 =>
    ((r6 = 0 →
      ∀ I7 : zI, I7 = zuI I2 a 3 ((I2 a 3) + 1) →
      Q none I7 L3 P4 205
    ) ∧ (¬ r6 = 0 →
      ∃ b9 : Nat, P4 a 9 = some b9 ∧
      ∃ n12, (b9 < 205 ∧ zsh b9 = (100, n12)) ∧
      vp_in p1 n12 ∧
      ∀ I15 : zI, I15 = zuI I2 b9 p1.toNatClampNeg ((I2 b9 p1.toNatClampNeg) &&& (((1 : Int32) <<< (p2 &&& 31) : Int32) ^^^ (-1) : Int32) : Int32) →
      ∀ I16 : zI, I16 = zuI I15 a 3 ((I15 a 3) + 1) →
      Q none I16 L3 P4 205
    ))
  )
set_option maxRecDepth 20000 in
theorem g_X2_addBlind {d : Nat} {Q : zQt} {a : Nat} {p1 : Int32} {p2 : Int32} {I : zI} {L : zL} {P : zP} (hP : zPk P) (hv : v_X2_addBlind d Q a p1 p2 I L P) : zM zm_X2_addBlind (d + 1) 0 0 [.ref a, .int p1, .int p2] I L P 205 Q := by
  unfold v_X2_addBlind at hv
  refine zM_of (lv0 := [some (.ref a), some (.int p1), some (.int p2)]) (by decide +kernel) (Nat.le_of_ble_eq_true rfl) rfl ?_
  refine z_aload_n dX2_addBlind_0 rfl ?_
  refine z_iload_n dX2_addBlind_1 rfl ?_
  obtain ⟨h1, hv⟩ := hv
  refine z_callV (As := [.int p1]) (st := []) dX2_addBlind_2 zl_X2_59 zv_X2_isPerson (by decide) rfl h1.1 h1.2 rfl rfl (Nat.le_of_ble_eq_true rfl) ⟨Nat.le_refl _, Nat.le_refl _⟩ ⟨Nat.le_refl _, Nat.le_refl _⟩ hv (fun v1 I2 L3 P4 nx1 q5 => ?_)
  obtain ⟨rfl, r6, rfl, hv⟩ := q5
  refine z_if_eq (tgt := 22) dX2_addBlind_5 (by decide) (fun q18 => ?_) (fun q18 => ?_)
  · have hv := hv.1 q18
    refine z_aload_n dX2_addBlind_22 rfl ?_
    refine z_dup dX2_addBlind_23 rfl ?_
    refine z_getI dX2_addBlind_24 zf_X2_39 h1.1 h1.2 (fun _ _ _ _ _ => rfl) ?_
    refine z_iconst (v := 1) dX2_addBlind_27 (by decide) ?_
    refine z_iadd dX2_addBlind_28 ?_
    refine z_putI dX2_addBlind_29 zf_X2_39 h1.1 h1.2 (Or.inl rfl) (fun _ _ _ _ _ => rfl) rfl rfl (z_nmI (fun I7 e8 => ?_))
    have hv := hv I7 e8
    exact z_return dX2_addBlind_32 rfl (Nat.le_refl _) (Nat.le_refl _) hv
  · have hv := hv.2 q18
    refine z_aload_n dX2_addBlind_8 rfl ?_
    obtain ⟨b9, h10, hv⟩ := hv
    refine z_getP dX2_addBlind_9 zf_X2_15 h1.1 h1.2 (fun _ _ _ _ _ => rfl) h10 ?_
    refine z_iload_n dX2_addBlind_12 rfl ?_
    refine z_dup2 dX2_addBlind_13 rfl rfl ?_
    obtain ⟨n12, h11, hv⟩ := hv
    obtain ⟨h13, hv⟩ := hv
    refine z_iaload dX2_addBlind_14 h11.1 h11.2 h13 ?_
    refine z_iconst (v := 1) dX2_addBlind_15 (by decide) ?_
    refine z_iload_n dX2_addBlind_16 rfl ?_
    refine z_ishl dX2_addBlind_17 ?_
    refine z_iconst (v := (-1)) dX2_addBlind_18 (by decide) ?_
    refine z_ixor dX2_addBlind_19 ?_
    refine z_iand dX2_addBlind_20 ?_
    refine z_iastore dX2_addBlind_21 h11.1 h11.2 h13 (z_nmI (fun I15 e14 => ?_))
    have hv := hv I15 e14
    refine z_aload_n dX2_addBlind_22 rfl ?_
    refine z_dup dX2_addBlind_23 rfl ?_
    refine z_getI dX2_addBlind_24 zf_X2_39 h1.1 h1.2 (fun _ _ _ _ _ => rfl) ?_
    refine z_iconst (v := 1) dX2_addBlind_27 (by decide) ?_
    refine z_iadd dX2_addBlind_28 ?_
    refine z_putI dX2_addBlind_29 zf_X2_39 h1.1 h1.2 (Or.inl rfl) (fun _ _ _ _ _ => rfl) rfl rfl (z_nmI (fun I16 e17 => ?_))
    have hv := hv I16 e17
    exact z_return dX2_addBlind_32 rfl (Nat.le_refl _) (Nat.le_refl _) hv
abbrev gw_X2_startSaying (d : Nat) (Q : zQt) (pc : Nat) (lv : zV) (st : List Value) (I : zI) (L : zL) (P : zP) : Prop := zW zm_X2_startSaying (zRm d 0 0) 0 0 Q pc lv st I L P 205 0 0
def v_X2_startSaying (d : Nat) (Q : zQt) (a : Nat) (I : zI) (L : zL) (P : zP) : Prop :=
  (a < 205 ∧ (zsh a).1 = 2) ∧
  ((6 ≤ (I a 4) →
    Q none I L P 205
  ) ∧ (¬ 6 ≤ (I a 4) →
    ∃ b2 : Nat, P a 11 = some b2 ∧
    ∃ b4 : Nat, P a 10 = some b4 ∧
    (b4 < 205 ∧ (zsh b4).1 = 0) ∧
    ∃ n8, (b2 < 205 ∧ zsh b2 = (100, n8)) ∧
    vp_in (I a 4) n8 ∧
    ∀ I11 : zI, I11 = zuI I b2 (I a 4).toNatClampNeg (I b4 1) →
    Q none I11 L P 205
  ))
set_option maxRecDepth 20000 in
theorem g_X2_startSaying {d : Nat} {Q : zQt} {a : Nat} {I : zI} {L : zL} {P : zP} (hP : zPk P) (hv : v_X2_startSaying d Q a I L P) : zM zm_X2_startSaying d 0 0 [.ref a] I L P 205 Q := by
  unfold v_X2_startSaying at hv
  refine zM_of (lv0 := [some (.ref a)]) (by decide +kernel) (Nat.le_of_ble_eq_true rfl) rfl ?_
  refine z_aload_n dX2_startSaying_0 rfl ?_
  obtain ⟨h1, hv⟩ := hv
  refine z_getI dX2_startSaying_1 zf_X2_42 h1.1 h1.2 (fun _ _ _ _ _ => rfl) ?_
  refine z_bipush (v := 6) dX2_startSaying_4 (by decide) ?_
  refine z_icmp_ge (tgt := 25) dX2_startSaying_6 (by decide) (fun q12 => ?_) (fun q12 => ?_)
  · have hv := hv.1 q12
    exact z_return dX2_startSaying_25 rfl (Nat.le_refl _) (Nat.le_refl _) hv
  · have hv := hv.2 q12
    refine z_aload_n dX2_startSaying_9 rfl ?_
    obtain ⟨b2, h3, hv⟩ := hv
    refine z_getP dX2_startSaying_10 zf_X2_26 h1.1 h1.2 (fun _ _ _ _ _ => rfl) h3 ?_
    refine z_aload_n dX2_startSaying_13 rfl ?_
    refine z_getI dX2_startSaying_14 zf_X2_42 h1.1 h1.2 (fun _ _ _ _ _ => rfl) ?_
    refine z_aload_n dX2_startSaying_17 rfl ?_
    obtain ⟨b4, h5, hv⟩ := hv
    refine z_getP dX2_startSaying_18 zf_X2_22 h1.1 h1.2 (fun _ _ _ _ _ => rfl) h5 ?_
    obtain ⟨h6, hv⟩ := hv
    refine z_getI dX2_startSaying_21 zf_X2_52 h6.1 h6.2 (fun _ _ _ _ _ => rfl) ?_
    obtain ⟨n8, h7, hv⟩ := hv
    obtain ⟨h9, hv⟩ := hv
    refine z_iastore dX2_startSaying_24 h7.1 h7.2 h9 (z_nmI (fun I11 e10 => ?_))
    have hv := hv I11 e10
    exact z_return dX2_startSaying_25 rfl (Nat.le_refl _) (Nat.le_refl _) hv
abbrev gw_X2_endSaying (d : Nat) (Q : zQt) (pc : Nat) (lv : zV) (st : List Value) (I : zI) (L : zL) (P : zP) : Prop := zW zm_X2_endSaying (zRm d 0 0) 0 0 Q pc lv st I L P 205 0 0
def v_X2_endSaying (d : Nat) (Q : zQt) (a : Nat) (I : zI) (L : zL) (P : zP) : Prop :=
  (a < 205 ∧ (zsh a).1 = 2) ∧
  ((6 ≤ (I a 4) →
    Q none I L P 205
  ) ∧ (¬ 6 ≤ (I a 4) →
    ∀ I2 : zI, I2 = zuI I a 4 ((I a 4) + 1) →
    ∃ b4 : Nat, P a 11 = some b4 ∧
    ∃ b6 : Nat, P a 10 = some b6 ∧
    (b6 < 205 ∧ (zsh b6).1 = 0) ∧
    ∃ n10, (b4 < 205 ∧ zsh b4 = (100, n10)) ∧
    vp_in (I2 a 4) n10 ∧
    ∀ I13 : zI, I13 = zuI I2 b4 (I2 a 4).toNatClampNeg (I2 b6 1) →
    Q none I13 L P 205
  ))
set_option maxRecDepth 20000 in
theorem g_X2_endSaying {d : Nat} {Q : zQt} {a : Nat} {I : zI} {L : zL} {P : zP} (hP : zPk P) (hv : v_X2_endSaying d Q a I L P) : zM zm_X2_endSaying d 0 0 [.ref a] I L P 205 Q := by
  unfold v_X2_endSaying at hv
  refine zM_of (lv0 := [some (.ref a)]) (by decide +kernel) (Nat.le_of_ble_eq_true rfl) rfl ?_
  refine z_aload_n dX2_endSaying_0 rfl ?_
  obtain ⟨h1, hv⟩ := hv
  refine z_getI dX2_endSaying_1 zf_X2_42 h1.1 h1.2 (fun _ _ _ _ _ => rfl) ?_
  refine z_bipush (v := 6) dX2_endSaying_4 (by decide) ?_
  refine z_icmp_ge (tgt := 35) dX2_endSaying_6 (by decide) (fun q14 => ?_) (fun q14 => ?_)
  · have hv := hv.1 q14
    exact z_return dX2_endSaying_35 rfl (Nat.le_refl _) (Nat.le_refl _) hv
  · have hv := hv.2 q14
    refine z_aload_n dX2_endSaying_9 rfl ?_
    refine z_dup dX2_endSaying_10 rfl ?_
    refine z_getI dX2_endSaying_11 zf_X2_42 h1.1 h1.2 (fun _ _ _ _ _ => rfl) ?_
    refine z_iconst (v := 1) dX2_endSaying_14 (by decide) ?_
    refine z_iadd dX2_endSaying_15 ?_
    refine z_putI dX2_endSaying_16 zf_X2_42 h1.1 h1.2 (Or.inl rfl) (fun _ _ _ _ _ => rfl) rfl rfl (z_nmI (fun I2 e3 => ?_))
    have hv := hv I2 e3
    refine z_aload_n dX2_endSaying_19 rfl ?_
    obtain ⟨b4, h5, hv⟩ := hv
    refine z_getP dX2_endSaying_20 zf_X2_26 h1.1 h1.2 (fun _ _ _ _ _ => rfl) h5 ?_
    refine z_aload_n dX2_endSaying_23 rfl ?_
    refine z_getI dX2_endSaying_24 zf_X2_42 h1.1 h1.2 (fun _ _ _ _ _ => rfl) ?_
    refine z_aload_n dX2_endSaying_27 rfl ?_
    obtain ⟨b6, h7, hv⟩ := hv
    refine z_getP dX2_endSaying_28 zf_X2_22 h1.1 h1.2 (fun _ _ _ _ _ => rfl) h7 ?_
    obtain ⟨h8, hv⟩ := hv
    refine z_getI dX2_endSaying_31 zf_X2_52 h8.1 h8.2 (fun _ _ _ _ _ => rfl) ?_
    obtain ⟨n10, h9, hv⟩ := hv
    obtain ⟨h11, hv⟩ := hv
    refine z_iastore dX2_endSaying_34 h9.1 h9.2 h11 (z_nmI (fun I13 e12 => ?_))
    have hv := hv I13 e12
    exact z_return dX2_endSaying_35 rfl (Nat.le_refl _) (Nat.le_refl _) hv
abbrev gw_X3_opens (d : Nat) (Q : zQt) (pc : Nat) (lv : zV) (st : List Value) (I : zI) (L : zL) (P : zP) : Prop := zW zm_X3_opens (zRm d 0 0) 0 0 Q pc lv st I L P 205 0 0
def v_X3_opens (d : Nat) (Q : zQt) (p1 : Int32) (I : zI) (L : zL) (P : zP) : Prop :=
  ((p1 = 270 →
    Q (some (.int 1)) I L P 205
  ) ∧ (¬ p1 = 270 →
    ((p1 = 271 →
      Q (some (.int 1)) I L P 205
    ) ∧ (¬ p1 = 271 →
      ((p1 = 272 →
        Q (some (.int 1)) I L P 205
      ) ∧ (¬ p1 = 272 →
        ((¬ p1 = 40 →
          Q (some (.int 0)) I L P 205
        ) ∧ (p1 = 40 →
          Q (some (.int 1)) I L P 205
        ))
      ))
    ))
  ))
set_option maxRecDepth 20000 in
theorem g_X3_opens {d : Nat} {Q : zQt} {p1 : Int32} {I : zI} {L : zL} {P : zP} (hP : zPk P) (hv : v_X3_opens d Q p1 I L P) : zM zm_X3_opens d 0 0 [.int p1] I L P 205 Q := by
  unfold v_X3_opens at hv
  refine zM_of (lv0 := [some (.int p1)]) (by decide +kernel) (Nat.le_of_ble_eq_true rfl) rfl ?_
  refine z_iload_n dX3_opens_0 rfl ?_
  refine z_sipush (v := 270) dX3_opens_1 (by decide) ?_
  refine z_icmp_eq (tgt := 27) dX3_opens_4 (by decide) (fun q4 => ?_) (fun q4 => ?_)
  · have hv := hv.1 q4
    refine z_iconst (v := 1) dX3_opens_27 (by decide) ?_
    refine z_goto (tgt := 32) dX3_opens_28 (by decide) ?_
    exact z_ireturn dX3_opens_32 rfl (by decide) (Nat.le_refl _) (Nat.le_refl _) hv
  · have hv := hv.2 q4
    refine z_iload_n dX3_opens_7 rfl ?_
    refine z_sipush (v := 271) dX3_opens_8 (by decide) ?_
    refine z_icmp_eq (tgt := 27) dX3_opens_11 (by decide) (fun q3 => ?_) (fun q3 => ?_)
    · have hv := hv.1 q3
      refine z_iconst (v := 1) dX3_opens_27 (by decide) ?_
      refine z_goto (tgt := 32) dX3_opens_28 (by decide) ?_
      exact z_ireturn dX3_opens_32 rfl (by decide) (Nat.le_refl _) (Nat.le_refl _) hv
    · have hv := hv.2 q3
      refine z_iload_n dX3_opens_14 rfl ?_
      refine z_sipush (v := 272) dX3_opens_15 (by decide) ?_
      refine z_icmp_eq (tgt := 27) dX3_opens_18 (by decide) (fun q2 => ?_) (fun q2 => ?_)
      · have hv := hv.1 q2
        refine z_iconst (v := 1) dX3_opens_27 (by decide) ?_
        refine z_goto (tgt := 32) dX3_opens_28 (by decide) ?_
        exact z_ireturn dX3_opens_32 rfl (by decide) (Nat.le_refl _) (Nat.le_refl _) hv
      · have hv := hv.2 q2
        refine z_iload_n dX3_opens_21 rfl ?_
        refine z_bipush (v := 40) dX3_opens_22 (by decide) ?_
        refine z_icmp_ne (tgt := 31) dX3_opens_24 (by decide) (fun q1 => ?_) (fun q1 => ?_)
        · have hv := hv.1 q1
          refine z_iconst (v := 0) dX3_opens_31 (by decide) ?_
          exact z_ireturn dX3_opens_32 rfl (by decide) (Nat.le_refl _) (Nat.le_refl _) hv
        · have hv := hv.2 q1
          refine z_iconst (v := 1) dX3_opens_27 (by decide) ?_
          refine z_goto (tgt := 32) dX3_opens_28 (by decide) ?_
          exact z_ireturn dX3_opens_32 rfl (by decide) (Nat.le_refl _) (Nat.le_refl _) hv
abbrev gw_X3_isLeaf (d : Nat) (Q : zQt) (pc : Nat) (lv : zV) (st : List Value) (I : zI) (L : zL) (P : zP) : Prop := zW zm_X3_isLeaf (zRm d 0 0) 0 0 Q pc lv st I L P 205 0 0
def v_X3_isLeaf (d : Nat) (Q : zQt) (p1 : Int32) (I : zI) (L : zL) (P : zP) : Prop :=
  ((p1 = 274 →
    Q (some (.int 1)) I L P 205
  ) ∧ (¬ p1 = 274 →
    ((p1 = 268 →
      Q (some (.int 1)) I L P 205
    ) ∧ (¬ p1 = 268 →
      ((p1 = 262 →
        Q (some (.int 1)) I L P 205
      ) ∧ (¬ p1 = 262 →
        ((¬ p1 = 269 →
          Q (some (.int 0)) I L P 205
        ) ∧ (p1 = 269 →
          Q (some (.int 1)) I L P 205
        ))
      ))
    ))
  ))
set_option maxRecDepth 20000 in
theorem g_X3_isLeaf {d : Nat} {Q : zQt} {p1 : Int32} {I : zI} {L : zL} {P : zP} (hP : zPk P) (hv : v_X3_isLeaf d Q p1 I L P) : zM zm_X3_isLeaf d 0 0 [.int p1] I L P 205 Q := by
  unfold v_X3_isLeaf at hv
  refine zM_of (lv0 := [some (.int p1)]) (by decide +kernel) (Nat.le_of_ble_eq_true rfl) rfl ?_
  refine z_iload_n dX3_isLeaf_0 rfl ?_
  refine z_sipush (v := 274) dX3_isLeaf_1 (by decide) ?_
  refine z_icmp_eq (tgt := 28) dX3_isLeaf_4 (by decide) (fun q4 => ?_) (fun q4 => ?_)
  · have hv := hv.1 q4
    refine z_iconst (v := 1) dX3_isLeaf_28 (by decide) ?_
    refine z_goto (tgt := 33) dX3_isLeaf_29 (by decide) ?_
    exact z_ireturn dX3_isLeaf_33 rfl (by decide) (Nat.le_refl _) (Nat.le_refl _) hv
  · have hv := hv.2 q4
    refine z_iload_n dX3_isLeaf_7 rfl ?_
    refine z_sipush (v := 268) dX3_isLeaf_8 (by decide) ?_
    refine z_icmp_eq (tgt := 28) dX3_isLeaf_11 (by decide) (fun q3 => ?_) (fun q3 => ?_)
    · have hv := hv.1 q3
      refine z_iconst (v := 1) dX3_isLeaf_28 (by decide) ?_
      refine z_goto (tgt := 33) dX3_isLeaf_29 (by decide) ?_
      exact z_ireturn dX3_isLeaf_33 rfl (by decide) (Nat.le_refl _) (Nat.le_refl _) hv
    · have hv := hv.2 q3
      refine z_iload_n dX3_isLeaf_14 rfl ?_
      refine z_sipush (v := 262) dX3_isLeaf_15 (by decide) ?_
      refine z_icmp_eq (tgt := 28) dX3_isLeaf_18 (by decide) (fun q2 => ?_) (fun q2 => ?_)
      · have hv := hv.1 q2
        refine z_iconst (v := 1) dX3_isLeaf_28 (by decide) ?_
        refine z_goto (tgt := 33) dX3_isLeaf_29 (by decide) ?_
        exact z_ireturn dX3_isLeaf_33 rfl (by decide) (Nat.le_refl _) (Nat.le_refl _) hv
      · have hv := hv.2 q2
        refine z_iload_n dX3_isLeaf_21 rfl ?_
        refine z_sipush (v := 269) dX3_isLeaf_22 (by decide) ?_
        refine z_icmp_ne (tgt := 32) dX3_isLeaf_25 (by decide) (fun q1 => ?_) (fun q1 => ?_)
        · have hv := hv.1 q1
          refine z_iconst (v := 0) dX3_isLeaf_32 (by decide) ?_
          exact z_ireturn dX3_isLeaf_33 rfl (by decide) (Nat.le_refl _) (Nat.le_refl _) hv
        · have hv := hv.2 q1
          refine z_iconst (v := 1) dX3_isLeaf_28 (by decide) ?_
          refine z_goto (tgt := 33) dX3_isLeaf_29 (by decide) ?_
          exact z_ireturn dX3_isLeaf_33 rfl (by decide) (Nat.le_refl _) (Nat.le_refl _) hv
abbrev gw_X3_startsUnit (d : Nat) (Q : zQt) (pc : Nat) (lv : zV) (st : List Value) (I : zI) (L : zL) (P : zP) : Prop := zW zm_X3_startsUnit (zRm d 0 0) 0 0 Q pc lv st I L P 205 0 0
def v_X3_startsUnit (d : Nat) (Q : zQt) (p1 : Int32) (I : zI) (L : zL) (P : zP) : Prop :=
  zMi zm_X3_isLeaf d [.int p1] I L P (fun r5 I1 L2 P3 =>
    ((¬ r5 = 0 →
      Q (some (.int 1)) I1 L2 P3 205
    ) ∧ (r5 = 0 →
      zMi zm_X3_opens d [.int p1] I1 L2 P3 (fun r10 I6 L7 P8 =>
        ((r10 = 0 →
          Q (some (.int 0)) I6 L7 P8 205
        ) ∧ (¬ r10 = 0 →
          Q (some (.int 1)) I6 L7 P8 205
        ))
      )
    ))
  )
set_option maxRecDepth 20000 in
theorem g_X3_startsUnit {d : Nat} {Q : zQt} {p1 : Int32} {I : zI} {L : zL} {P : zP} (hP : zPk P) (hv : v_X3_startsUnit d Q p1 I L P) : zM zm_X3_startsUnit (d + 1) 0 0 [.int p1] I L P 205 Q := by
  unfold v_X3_startsUnit at hv
  refine zM_of (lv0 := [some (.int p1)]) (by decide +kernel) (Nat.le_of_ble_eq_true rfl) rfl ?_
  refine z_iload_n dX3_startsUnit_0 rfl ?_
  refine z_callS (As := [.int p1]) (st := []) dX3_startsUnit_1 zl_X3_11 zs_X3_isLeaf rfl rfl (Nat.le_of_ble_eq_true rfl) ⟨Nat.le_refl _, Nat.le_refl _⟩ ⟨Nat.le_refl _, Nat.le_refl _⟩ hv (fun v1 I1 L2 P3 nx1 q4 => ?_)
  obtain ⟨rfl, r5, rfl, hv⟩ := q4
  refine z_if_ne (tgt := 14) dX3_startsUnit_4 (by decide) (fun q12 => ?_) (fun q12 => ?_)
  · have hv := hv.1 q12
    refine z_iconst (v := 1) dX3_startsUnit_14 (by decide) ?_
    refine z_goto (tgt := 19) dX3_startsUnit_15 (by decide) ?_
    exact z_ireturn dX3_startsUnit_19 rfl (by decide) (Nat.le_refl _) (Nat.le_refl _) hv
  · have hv := hv.2 q12
    refine z_iload_n dX3_startsUnit_7 rfl ?_
    refine z_callS (As := [.int p1]) (st := []) dX3_startsUnit_8 zl_X3_15 zs_X3_opens rfl rfl (Nat.le_of_ble_eq_true rfl) ⟨Nat.le_refl _, Nat.le_refl _⟩ ⟨Nat.le_refl _, Nat.le_refl _⟩ hv (fun v1 I6 L7 P8 nx1 q9 => ?_)
    obtain ⟨rfl, r10, rfl, hv⟩ := q9
    refine z_if_eq (tgt := 18) dX3_startsUnit_11 (by decide) (fun q11 => ?_) (fun q11 => ?_)
    · have hv := hv.1 q11
      refine z_iconst (v := 0) dX3_startsUnit_18 (by decide) ?_
      exact z_ireturn dX3_startsUnit_19 rfl (by decide) (Nat.le_refl _) (Nat.le_refl _) hv
    · have hv := hv.2 q11
      refine z_iconst (v := 1) dX3_startsUnit_14 (by decide) ?_
      refine z_goto (tgt := 19) dX3_startsUnit_15 (by decide) ?_
      exact z_ireturn dX3_startsUnit_19 rfl (by decide) (Nat.le_refl _) (Nat.le_refl _) hv
abbrev gw_X3_rankOf (d : Nat) (Q : zQt) (pc : Nat) (lv : zV) (st : List Value) (I : zI) (L : zL) (P : zP) : Prop := zW zm_X3_rankOf (zRm d 0 0) 0 0 Q pc lv st I L P 205 0 0
def v_X3_rankOf (d : Nat) (Q : zQt) (p1 : Int32) (I : zI) (L : zL) (P : zP) : Prop :=
  (p1 = 42 →
    Q (some (.int 4)) I L P 205
  ) ∧
  (p1 = 43 →
    Q (some (.int 3)) I L P 205
  ) ∧
  (p1 = 45 →
    Q (some (.int 3)) I L P 205
  ) ∧
  (p1 = 47 →
    Q (some (.int 4)) I L P 205
  ) ∧
  (p1 = 60 →
    Q (some (.int 2)) I L P 205
  ) ∧
  (p1 = 61 →
    Q (some (.int 2)) I L P 205
  ) ∧
  (p1 = 62 →
    Q (some (.int 2)) I L P 205
  ) ∧
  (p1 = 265 →
    Q (some (.int 0)) I L P 205
  ) ∧
  (p1 = 266 →
    Q (some (.int 1)) I L P 205
  ) ∧
  (¬ p1 = 42 → ¬ p1 = 43 → ¬ p1 = 45 → ¬ p1 = 47 → ¬ p1 = 60 → ¬ p1 = 61 → ¬ p1 = 62 → ¬ p1 = 265 → ¬ p1 = 266 →
    Q (some (.int (-1))) I L P 205
  )
set_option maxRecDepth 20000 in
theorem g_X3_rankOf {d : Nat} {Q : zQt} {p1 : Int32} {I : zI} {L : zL} {P : zP} (hP : zPk P) (hv : v_X3_rankOf d Q p1 I L P) : zM zm_X3_rankOf d 0 0 [.int p1] I L P 205 Q := by
  unfold v_X3_rankOf at hv
  refine zM_of (lv0 := [some (.int p1)]) (by decide +kernel) (Nat.le_of_ble_eq_true rfl) rfl ?_
  refine z_iload_n dX3_rankOf_0 rfl ?_
  by_cases q1 : p1 = 42
  · have hv := hv.1 q1
    refine z_lookup (off := 91) (tgt := 92) dX3_rankOf_1 (by decide) (by rw [q1]; decide) (by decide) ?_
    refine z_iconst (v := 4) dX3_rankOf_92 (by decide) ?_
    exact z_ireturn dX3_rankOf_93 rfl rfl (Nat.le_refl _) (Nat.le_refl _) hv
  by_cases q2 : p1 = 43
  · have hv := hv.2.1 q2
    refine z_lookup (off := 89) (tgt := 90) dX3_rankOf_1 (by decide) (by rw [q2]; decide) (by decide) ?_
    refine z_iconst (v := 3) dX3_rankOf_90 (by decide) ?_
    exact z_ireturn dX3_rankOf_91 rfl rfl (Nat.le_refl _) (Nat.le_refl _) hv
  by_cases q3 : p1 = 45
  · have hv := hv.2.2.1 q3
    refine z_lookup (off := 89) (tgt := 90) dX3_rankOf_1 (by decide) (by rw [q3]; decide) (by decide) ?_
    refine z_iconst (v := 3) dX3_rankOf_90 (by decide) ?_
    exact z_ireturn dX3_rankOf_91 rfl rfl (Nat.le_refl _) (Nat.le_refl _) hv
  by_cases q4 : p1 = 47
  · have hv := hv.2.2.2.1 q4
    refine z_lookup (off := 91) (tgt := 92) dX3_rankOf_1 (by decide) (by rw [q4]; decide) (by decide) ?_
    refine z_iconst (v := 4) dX3_rankOf_92 (by decide) ?_
    exact z_ireturn dX3_rankOf_93 rfl rfl (Nat.le_refl _) (Nat.le_refl _) hv
  by_cases q5 : p1 = 60
  · have hv := hv.2.2.2.2.1 q5
    refine z_lookup (off := 87) (tgt := 88) dX3_rankOf_1 (by decide) (by rw [q5]; decide) (by decide) ?_
    refine z_iconst (v := 2) dX3_rankOf_88 (by decide) ?_
    exact z_ireturn dX3_rankOf_89 rfl rfl (Nat.le_refl _) (Nat.le_refl _) hv
  by_cases q6 : p1 = 61
  · have hv := hv.2.2.2.2.2.1 q6
    refine z_lookup (off := 87) (tgt := 88) dX3_rankOf_1 (by decide) (by rw [q6]; decide) (by decide) ?_
    refine z_iconst (v := 2) dX3_rankOf_88 (by decide) ?_
    exact z_ireturn dX3_rankOf_89 rfl rfl (Nat.le_refl _) (Nat.le_refl _) hv
  by_cases q7 : p1 = 62
  · have hv := hv.2.2.2.2.2.2.1 q7
    refine z_lookup (off := 87) (tgt := 88) dX3_rankOf_1 (by decide) (by rw [q7]; decide) (by decide) ?_
    refine z_iconst (v := 2) dX3_rankOf_88 (by decide) ?_
    exact z_ireturn dX3_rankOf_89 rfl rfl (Nat.le_refl _) (Nat.le_refl _) hv
  by_cases q8 : p1 = 265
  · have hv := hv.2.2.2.2.2.2.2.1 q8
    refine z_lookup (off := 83) (tgt := 84) dX3_rankOf_1 (by decide) (by rw [q8]; decide) (by decide) ?_
    refine z_iconst (v := 0) dX3_rankOf_84 (by decide) ?_
    exact z_ireturn dX3_rankOf_85 rfl rfl (Nat.le_refl _) (Nat.le_refl _) hv
  by_cases q9 : p1 = 266
  · have hv := hv.2.2.2.2.2.2.2.2.1 q9
    refine z_lookup (off := 85) (tgt := 86) dX3_rankOf_1 (by decide) (by rw [q9]; decide) (by decide) ?_
    refine z_iconst (v := 1) dX3_rankOf_86 (by decide) ?_
    exact z_ireturn dX3_rankOf_87 rfl rfl (Nat.le_refl _) (Nat.le_refl _) hv
  have hv := hv.2.2.2.2.2.2.2.2.2 q1 q2 q3 q4 q5 q6 q7 q8 q9
  refine z_lookup (off := 93) (tgt := 94) dX3_rankOf_1 (by decide) ((lv_osw q1 (by decide)).trans ((lv_osw q2 (by decide)).trans ((lv_osw q3 (by decide)).trans ((lv_osw q4 (by decide)).trans ((lv_osw q5 (by decide)).trans ((lv_osw q6 (by decide)).trans ((lv_osw q7 (by decide)).trans ((lv_osw q8 (by decide)).trans ((lv_osw q9 (by decide)).trans rfl))))))))) (by decide) ?_
  refine z_iconst (v := (-1)) dX3_rankOf_94 (by decide) ?_
  exact z_ireturn dX3_rankOf_95 rfl rfl (Nat.le_refl _) (Nat.le_refl _) hv
abbrev gw_X6_open (d : Nat) (Q : zQt) (pc : Nat) (lv : zV) (st : List Value) (I : zI) (L : zL) (P : zP) : Prop := zW zm_X6_open (zRm d 0 0) 0 0 Q pc lv st I L P 205 0 0
def v_X6_open_15 (d : Nat) (Q : zQt) (a : Nat) (p1 : Nat) (x2 : Int32) (I : zI) (L : zL) (P : zP) : Prop :=
  (a < 205 ∧ (zsh a).1 = 5) ∧
  (((I a 3) ≤ x2 →
    ∀ I13 : zI, I13 = zuI I a 4 0 →
    ∀ I15 : zI, I15 = zuI I13 a 5 0 →
    ∀ I17 : zI, I17 = zuI I15 a 6 0 →
    ∃ b19 : Nat, P a 0 = some b19 ∧
    (b19 < 205 ∧ (zsh b19).1 = 9) ∧
    zMv zm_X10_open d [.ref b19, .ref p1] I17 L P (fun I22 L23 P24 =>
      Q none I22 L23 P24 205
    )
  ) ∧ (¬ (I a 3) ≤ x2 →
    ∃ b27 : Nat, P a 2 = some b27 ∧
    ∃ n30, (b27 < 205 ∧ zsh b27 = (100, n30)) ∧
    vp_in x2 n30 ∧
    ∀ I33 : zI, I33 = zuI I b27 x2.toNatClampNeg x2 →
    gw_X6_open (d + 1) Q 15 [some (.ref a), some (.ref p1), some (.int (x2 + 1))] [] I33 L P
  ))
set_option maxRecDepth 20000 in
theorem g_X6_open_15 {d : Nat} {Q : zQt} {a : Nat} {p1 : Nat} {x2 : Int32} {I : zI} {L : zL} {P : zP} (hP : zPk P) (hv : v_X6_open_15 d Q a p1 x2 I L P) : gw_X6_open (d + 1) Q 15 [some (.ref a), some (.ref p1), some (.int x2)] [] I L P := by
  unfold v_X6_open_15 at hv
  refine z_iload_n dX6_open_15 rfl ?_
  refine z_aload_n dX6_open_16 rfl ?_
  obtain ⟨h12, hv⟩ := hv
  refine z_getI dX6_open_17 zf_X6_17 h12.1 h12.2 (fun _ _ _ _ _ => rfl) ?_
  refine z_icmp_ge (tgt := 36) dX6_open_20 (by decide) (fun q34 => ?_) (fun q34 => ?_)
  · have hv := hv.1 q34
    refine z_aload_n dX6_open_36 rfl ?_
    refine z_iconst (v := 0) dX6_open_37 (by decide) ?_
    refine z_putI dX6_open_38 zf_X6_21 h12.1 h12.2 (Or.inl rfl) (fun _ _ _ _ _ => rfl) rfl rfl (z_nmI (fun I13 e14 => ?_))
    have hv := hv I13 e14
    refine z_aload_n dX6_open_41 rfl ?_
    refine z_iconst (v := 0) dX6_open_42 (by decide) ?_
    refine z_putI dX6_open_43 zf_X6_24 h12.1 h12.2 (Or.inl rfl) (fun _ _ _ _ _ => rfl) rfl rfl (z_nmI (fun I15 e16 => ?_))
    have hv := hv I15 e16
    refine z_aload_n dX6_open_46 rfl ?_
    refine z_iconst (v := 0) dX6_open_47 (by decide) ?_
    refine z_putI dX6_open_48 zf_X6_27 h12.1 h12.2 (Or.inl rfl) (fun _ _ _ _ _ => rfl) rfl rfl (z_nmI (fun I17 e18 => ?_))
    have hv := hv I17 e18
    refine z_aload_n dX6_open_51 rfl ?_
    obtain ⟨b19, h20, hv⟩ := hv
    refine z_getP dX6_open_52 zf_X6_34 h12.1 h12.2 (fun _ _ _ _ _ => rfl) h20 ?_
    refine z_aload_n dX6_open_55 rfl ?_
    obtain ⟨h21, hv⟩ := hv
    refine z_callV (As := [.ref p1]) (st := []) dX6_open_56 zl_X6_42 zv_X10_open (by decide) rfl h21.1 h21.2 rfl rfl (Nat.le_of_ble_eq_true rfl) ⟨Nat.le_refl _, Nat.le_refl _⟩ ⟨Nat.le_refl _, Nat.le_refl _⟩ hv (fun v1 I22 L23 P24 nx1 q25 => ?_)
    obtain ⟨rfl, rfl, hv⟩ := q25
    exact z_return dX6_open_59 rfl (Nat.le_refl _) (Nat.le_refl _) hv
  · have hv := hv.2 q34
    refine z_aload_n dX6_open_23 rfl ?_
    obtain ⟨b27, h28, hv⟩ := hv
    refine z_getP dX6_open_24 zf_X6_11 h12.1 h12.2 (fun _ _ _ _ _ => rfl) h28 ?_
    refine z_iload_n dX6_open_27 rfl ?_
    refine z_iload_n dX6_open_28 rfl ?_
    obtain ⟨n30, h29, hv⟩ := hv
    obtain ⟨h31, hv⟩ := hv
    refine z_iastore dX6_open_29 h29.1 h29.2 h31 (z_nmI (fun I33 e32 => ?_))
    have hv := hv I33 e32
    refine z_iinc (v2 := x2 + 1) (lv2 := [some (.ref a), some (.ref p1), some (.int (x2 + 1))]) dX6_open_30 rfl (by rfl) (by decide) rfl rfl ?_
    refine z_goto (tgt := 15) dX6_open_33 (by decide) ?_
    exact hv
def v_X6_open (d : Nat) (Q : zQt) (a : Nat) (p1 : Nat) (I : zI) (L : zL) (P : zP) : Prop :=
  (a < 205 ∧ (zsh a).1 = 5) ∧
  ∀ P2 : zP, P2 = zuP P a 1 (some p1) →
  (p1 < 205 ∧ (zsh p1).1 = 2) ∧
  zMi zm_X2_worldCount d [.ref p1] I L P2 (fun r9 I5 L6 P7 =>
    ∀ I10 : zI, I10 = zuI I5 a 3 r9 →
    gw_X6_open (d + 1) Q 15 [some (.ref a), some (.ref p1), some (.int 0)] [] I10 L6 P7
  )
set_option maxRecDepth 20000 in
theorem g_X6_open {d : Nat} {Q : zQt} {a : Nat} {p1 : Nat} {I : zI} {L : zL} {P : zP} (hP : zPk P) (hv : v_X6_open d Q a p1 I L P) : zM zm_X6_open (d + 1) 0 0 [.ref a, .ref p1] I L P 205 Q := by
  unfold v_X6_open at hv
  refine zM_of (lv0 := [some (.ref a), some (.ref p1), none]) (by decide +kernel) (Nat.le_of_ble_eq_true rfl) rfl ?_
  refine z_aload_n dX6_open_0 rfl ?_
  refine z_aload_n dX6_open_1 rfl ?_
  obtain ⟨h1, hv⟩ := hv
  refine z_putP dX6_open_2 zf_X6_30 h1.1 h1.2 (Or.inl rfl) (fun _ _ _ _ _ => rfl) (fun _ => rfl) (fun _ => rfl) (z_nmP (fun P2 e3 => ?_))
  have hv := hv P2 e3
  refine z_aload_n dX6_open_5 rfl ?_
  refine z_aload_n dX6_open_6 rfl ?_
  obtain ⟨h4, hv⟩ := hv
  refine z_callV (As := []) (st := [.ref a]) dX6_open_7 zl_X6_38 zv_X2_worldCount (by decide) rfl h4.1 h4.2 rfl rfl (Nat.le_of_ble_eq_true rfl) ⟨Nat.le_refl _, Nat.le_refl _⟩ ⟨Nat.le_refl _, Nat.le_refl _⟩ hv (fun v1 I5 L6 P7 nx1 q8 => ?_)
  obtain ⟨rfl, r9, rfl, hv⟩ := q8
  refine z_putI dX6_open_10 zf_X6_17 h1.1 h1.2 (Or.inl rfl) (fun _ _ _ _ _ => rfl) rfl rfl (z_nmI (fun I10 e11 => ?_))
  have hv := hv I10 e11
  refine z_iconst (v := 0) dX6_open_13 (by decide) ?_
  refine z_istore_n (lv2 := [some (.ref a), some (.ref p1), some (.int 0)]) dX6_open_14 (by decide) rfl rfl ?_
  exact hv
abbrev gw_X6_copy (d : Nat) (Q : zQt) (pc : Nat) (lv : zV) (st : List Value) (I : zI) (L : zL) (P : zP) : Prop := zW zm_X6_copy (zRm d 0 0) 0 0 Q pc lv st I L P 205 0 0
def v_X6_copy (d : Nat) (Q : zQt) (a : Nat) (p1 : Nat) (I : zI) (L : zL) (P : zP) : Prop :=
  (a < 205 ∧ (zsh a).1 = 5) ∧
  zMv zm_X6_follow d [.ref a, .ref p1] I L P (fun I2 L3 P4 =>
    (p1 < 205 ∧ (zsh p1).1 = 5) ∧
    ∀ I8 : zI, I8 = zuI I2 a 5 (I2 p1 5) →
    ∀ I10 : zI, I10 = zuI I8 a 6 (I8 p1 6) →
    ∃ b12 : Nat, P4 a 0 = some b12 ∧
    ∃ b14 : Nat, P4 p1 0 = some b14 ∧
    (b12 < 205 ∧ (zsh b12).1 = 9) ∧
    zMv zm_X10_copy d [.ref b12, .ref b14] I10 L3 P4 (fun I17 L18 P19 =>
      Q none I17 L18 P19 205
    )
  )
set_option maxRecDepth 20000 in
theorem g_X6_copy {d : Nat} {Q : zQt} {a : Nat} {p1 : Nat} {I : zI} {L : zL} {P : zP} (hP : zPk P) (hv : v_X6_copy d Q a p1 I L P) : zM zm_X6_copy (d + 1) 0 0 [.ref a, .ref p1] I L P 205 Q := by
  unfold v_X6_copy at hv
  refine zM_of (lv0 := [some (.ref a), some (.ref p1)]) (by decide +kernel) (Nat.le_of_ble_eq_true rfl) rfl ?_
  refine z_aload_n dX6_copy_0 rfl ?_
  refine z_aload_n dX6_copy_1 rfl ?_
  obtain ⟨h1, hv⟩ := hv
  refine z_callV (As := [.ref p1]) (st := []) dX6_copy_2 zl_X6_48 zv_X6_follow (by decide) rfl h1.1 h1.2 rfl rfl (Nat.le_of_ble_eq_true rfl) ⟨Nat.le_refl _, Nat.le_refl _⟩ ⟨Nat.le_refl _, Nat.le_refl _⟩ hv (fun v1 I2 L3 P4 nx1 q5 => ?_)
  obtain ⟨rfl, rfl, hv⟩ := q5
  refine z_aload_n dX6_copy_5 rfl ?_
  refine z_aload_n dX6_copy_6 rfl ?_
  obtain ⟨h7, hv⟩ := hv
  refine z_getI dX6_copy_7 zf_X6_24 h7.1 h7.2 (fun _ _ _ _ _ => rfl) ?_
  refine z_putI dX6_copy_10 zf_X6_24 h1.1 h1.2 (Or.inl rfl) (fun _ _ _ _ _ => rfl) rfl rfl (z_nmI (fun I8 e9 => ?_))
  have hv := hv I8 e9
  refine z_aload_n dX6_copy_13 rfl ?_
  refine z_aload_n dX6_copy_14 rfl ?_
  refine z_getI dX6_copy_15 zf_X6_27 h7.1 h7.2 (fun _ _ _ _ _ => rfl) ?_
  refine z_putI dX6_copy_18 zf_X6_27 h1.1 h1.2 (Or.inl rfl) (fun _ _ _ _ _ => rfl) rfl rfl (z_nmI (fun I10 e11 => ?_))
  have hv := hv I10 e11
  refine z_aload_n dX6_copy_21 rfl ?_
  obtain ⟨b12, h13, hv⟩ := hv
  refine z_getP dX6_copy_22 zf_X6_34 h1.1 h1.2 (fun _ _ _ _ _ => rfl) h13 ?_
  refine z_aload_n dX6_copy_25 rfl ?_
  obtain ⟨b14, h15, hv⟩ := hv
  refine z_getP dX6_copy_26 zf_X6_34 h7.1 h7.2 (fun _ _ _ _ _ => rfl) h15 ?_
  obtain ⟨h16, hv⟩ := hv
  refine z_callV (As := [.ref b14]) (st := []) dX6_copy_29 zl_X6_52 zv_X10_copy (by decide) rfl h16.1 h16.2 rfl rfl (Nat.le_of_ble_eq_true rfl) ⟨Nat.le_refl _, Nat.le_refl _⟩ ⟨Nat.le_refl _, Nat.le_refl _⟩ hv (fun v1 I17 L18 P19 nx1 q20 => ?_)
  obtain ⟨rfl, rfl, hv⟩ := q20
  exact z_return dX6_copy_32 rfl (Nat.le_refl _) (Nat.le_refl _) hv
abbrev gw_X6_follow (d : Nat) (Q : zQt) (pc : Nat) (lv : zV) (st : List Value) (I : zI) (L : zL) (P : zP) : Prop := zW zm_X6_follow (zRm d 0 0) 0 0 Q pc lv st I L P 205 0 0
def v_X6_follow (d : Nat) (Q : zQt) (a : Nat) (p1 : Nat) (I : zI) (L : zL) (P : zP) : Prop :=
  (p1 < 205 ∧ (zsh p1).1 = 5) ∧
  ∃ b2 : Nat, P p1 1 = some b2 ∧
  (a < 205 ∧ (zsh a).1 = 5) ∧
  ∀ P5 : zP, P5 = zuP P a 1 (some b2) →
  ∃ b7 : Nat, P5 p1 2 = some b7 ∧
  ∃ b9 : Nat, P5 a 2 = some b9 ∧
  ∃ n12, (b7 < 205 ∧ zsh b7 = (100, n12)) ∧
  ∃ n14, (b9 < 205 ∧ zsh b9 = (100, n14)) ∧
  (¬ (0 : Int32) < 0 ∧ ¬ (0 : Int32) < 0 ∧ ¬ (I p1 3 : Int32) < 0 ∧ (0 : Int32).toNatClampNeg + (I p1 3 : Int32).toNatClampNeg ≤ n12 ∧ (0 : Int32).toNatClampNeg + (I p1 3 : Int32).toNatClampNeg ≤ n14) ∧
  ∀ I16 : zI, I16 = zaI I b9 (va_cpy (I b7) (I b9) (0 : Int32).toNatClampNeg (0 : Int32).toNatClampNeg (I p1 3 : Int32).toNatClampNeg) →
  ∀ I18 : zI, I18 = zuI I16 a 3 (I16 p1 3) →
  ∀ I20 : zI, I20 = zuI I18 a 4 (I18 p1 4) →
  Q none I20 L P5 205
set_option maxRecDepth 20000 in
theorem g_X6_follow {d : Nat} {Q : zQt} {a : Nat} {p1 : Nat} {I : zI} {L : zL} {P : zP} (hP : zPk P) (hv : v_X6_follow d Q a p1 I L P) : zM zm_X6_follow (d + 1) 0 0 [.ref a, .ref p1] I L P 205 Q := by
  unfold v_X6_follow at hv
  refine zM_of (lv0 := [some (.ref a), some (.ref p1)]) (by decide +kernel) (Nat.le_of_ble_eq_true rfl) rfl ?_
  refine z_aload_n dX6_follow_0 rfl ?_
  refine z_aload_n dX6_follow_1 rfl ?_
  obtain ⟨h1, hv⟩ := hv
  obtain ⟨b2, h3, hv⟩ := hv
  refine z_getP dX6_follow_2 zf_X6_30 h1.1 h1.2 (fun _ _ _ _ _ => rfl) h3 ?_
  obtain ⟨h4, hv⟩ := hv
  refine z_putP dX6_follow_5 zf_X6_30 h4.1 h4.2 (Or.inl rfl) (fun _ _ _ _ _ => rfl) (fun _ => rfl) (fun _ => rfl) (z_nmP (fun P5 e6 => ?_))
  have hv := hv P5 e6
  refine z_aload_n dX6_follow_8 rfl ?_
  obtain ⟨b7, h8, hv⟩ := hv
  refine z_getP dX6_follow_9 zf_X6_11 h1.1 h1.2 (fun _ _ _ _ _ => rfl) h8 ?_
  refine z_iconst (v := 0) dX6_follow_12 (by decide) ?_
  refine z_aload_n dX6_follow_13 rfl ?_
  obtain ⟨b9, h10, hv⟩ := hv
  refine z_getP dX6_follow_14 zf_X6_11 h4.1 h4.2 (fun _ _ _ _ _ => rfl) h10 ?_
  refine z_iconst (v := 0) dX6_follow_17 (by decide) ?_
  refine z_aload_n dX6_follow_18 rfl ?_
  refine z_getI dX6_follow_19 zf_X6_17 h1.1 h1.2 (fun _ _ _ _ _ => rfl) ?_
  obtain ⟨n12, h11, hv⟩ := hv
  obtain ⟨n14, h13, hv⟩ := hv
  obtain ⟨h15, hv⟩ := hv
  refine z_copyI dX6_follow_22 zl_X6_56 rfl h11.1 h13.1 h11.2 h13.2 h15.1 h15.2.1 h15.2.2.1 h15.2.2.2.1 h15.2.2.2.2 (Nat.le_of_ble_eq_true rfl) ⟨Nat.le_add_left _ _, zr64 _⟩ (z_nmI (fun I16 e17 => ?_))
  have hv := hv I16 e17
  refine z_aload_n dX6_follow_25 rfl ?_
  refine z_aload_n dX6_follow_26 rfl ?_
  refine z_getI dX6_follow_27 zf_X6_17 h1.1 h1.2 (fun _ _ _ _ _ => rfl) ?_
  refine z_putI dX6_follow_30 zf_X6_17 h4.1 h4.2 (Or.inl rfl) (fun _ _ _ _ _ => rfl) rfl rfl (z_nmI (fun I18 e19 => ?_))
  have hv := hv I18 e19
  refine z_aload_n dX6_follow_33 rfl ?_
  refine z_aload_n dX6_follow_34 rfl ?_
  refine z_getI dX6_follow_35 zf_X6_21 h1.1 h1.2 (fun _ _ _ _ _ => rfl) ?_
  refine z_putI dX6_follow_38 zf_X6_21 h4.1 h4.2 (Or.inl rfl) (fun _ _ _ _ _ => rfl) rfl rfl (z_nmI (fun I20 e21 => ?_))
  have hv := hv I20 e21
  exact z_return dX6_follow_41 rfl (Nat.le_refl _) (Nat.le_refl _) hv
abbrev gw_X6_contains (d : Nat) (Q : zQt) (pc : Nat) (lv : zV) (st : List Value) (I : zI) (L : zL) (P : zP) : Prop := zW zm_X6_contains (zRm d 0 0) 0 0 Q pc lv st I L P 205 0 0
def v_X6_contains_2 (d : Nat) (Q : zQt) (a : Nat) (p1 : Int32) (x2 : Int32) (I : zI) (L : zL) (P : zP) : Prop :=
  (a < 205 ∧ (zsh a).1 = 5) ∧
  (((I a 3) ≤ x2 →
    Q (some (.int 0)) I L P 205
  ) ∧ (¬ (I a 3) ≤ x2 →
    ∃ b2 : Nat, P a 2 = some b2 ∧
    ∃ n5, (b2 < 205 ∧ zsh b2 = (100, n5)) ∧
    vp_in x2 n5 ∧
    ((¬ (I b2 x2.toNatClampNeg) = p1 →
      gw_X6_contains d Q 2 [some (.ref a), some (.int p1), some (.int (x2 + 1))] [] I L P
    ) ∧ ((I b2 x2.toNatClampNeg) = p1 →
      Q (some (.int 1)) I L P 205
    ))
  ))
set_option maxRecDepth 20000 in
theorem g_X6_contains_2 {d : Nat} {Q : zQt} {a : Nat} {p1 : Int32} {x2 : Int32} {I : zI} {L : zL} {P : zP} (hP : zPk P) (hv : v_X6_contains_2 d Q a p1 x2 I L P) : gw_X6_contains d Q 2 [some (.ref a), some (.int p1), some (.int x2)] [] I L P := by
  unfold v_X6_contains_2 at hv
  refine z_iload_n dX6_contains_2 rfl ?_
  refine z_aload_n dX6_contains_3 rfl ?_
  obtain ⟨h1, hv⟩ := hv
  refine z_getI dX6_contains_4 zf_X6_17 h1.1 h1.2 (fun _ _ _ _ _ => rfl) ?_
  refine z_icmp_ge (tgt := 28) dX6_contains_7 (by decide) (fun q8 => ?_) (fun q8 => ?_)
  · have hv := hv.1 q8
    refine z_iconst (v := 0) dX6_contains_28 (by decide) ?_
    exact z_ireturn dX6_contains_29 rfl (by decide) (Nat.le_refl _) (Nat.le_refl _) hv
  · have hv := hv.2 q8
    refine z_aload_n dX6_contains_10 rfl ?_
    obtain ⟨b2, h3, hv⟩ := hv
    refine z_getP dX6_contains_11 zf_X6_11 h1.1 h1.2 (fun _ _ _ _ _ => rfl) h3 ?_
    refine z_iload_n dX6_contains_14 rfl ?_
    obtain ⟨n5, h4, hv⟩ := hv
    obtain ⟨h6, hv⟩ := hv
    refine z_iaload dX6_contains_15 h4.1 h4.2 h6 ?_
    refine z_iload_n dX6_contains_16 rfl ?_
    refine z_icmp_ne (tgt := 22) dX6_contains_17 (by decide) (fun q7 => ?_) (fun q7 => ?_)
    · have hv := hv.1 q7
      refine z_iinc (v2 := x2 + 1) (lv2 := [some (.ref a), some (.int p1), some (.int (x2 + 1))]) dX6_contains_22 rfl (by rfl) (by decide) rfl rfl ?_
      refine z_goto (tgt := 2) dX6_contains_25 (by decide) ?_
      exact hv
    · have hv := hv.2 q7
      refine z_iconst (v := 1) dX6_contains_20 (by decide) ?_
      exact z_ireturn dX6_contains_21 rfl (by decide) (Nat.le_refl _) (Nat.le_refl _) hv
def v_X6_contains (d : Nat) (Q : zQt) (a : Nat) (p1 : Int32) (I : zI) (L : zL) (P : zP) : Prop :=
  gw_X6_contains d Q 2 [some (.ref a), some (.int p1), some (.int 0)] [] I L P
set_option maxRecDepth 20000 in
theorem g_X6_contains {d : Nat} {Q : zQt} {a : Nat} {p1 : Int32} {I : zI} {L : zL} {P : zP} (hP : zPk P) (hv : v_X6_contains d Q a p1 I L P) : zM zm_X6_contains d 0 0 [.ref a, .int p1] I L P 205 Q := by
  unfold v_X6_contains at hv
  refine zM_of (lv0 := [some (.ref a), some (.int p1), none]) (by decide +kernel) (Nat.le_of_ble_eq_true rfl) rfl ?_
  refine z_iconst (v := 0) dX6_contains_0 (by decide) ?_
  refine z_istore_n (lv2 := [some (.ref a), some (.int p1), some (.int 0)]) dX6_contains_1 (by decide) rfl rfl ?_
  exact hv
abbrev gw_X6_countSo (d : Nat) (Q : zQt) (pc : Nat) (lv : zV) (st : List Value) (I : zI) (L : zL) (P : zP) : Prop := zW zm_X6_countSo (zRm d 0 0) 0 0 Q pc lv st I L P 205 0 0
def v_X6_countSo_4 (d : Nat) (Q : zQt) (a : Nat) (p1 : Nat) (x2 : Int32) (x3 : Int32) (I : zI) (L : zL) (P : zP) : Prop :=
  (a < 205 ∧ (zsh a).1 = 5) ∧
  (((I a 3) ≤ x3 →
    Q (some (.int x2)) I L P 205
  ) ∧ (¬ (I a 3) ≤ x3 →
    ∃ b2 : Nat, P a 2 = some b2 ∧
    ∃ n5, (b2 < 205 ∧ zsh b2 = (100, n5)) ∧
    vp_in x3 n5 ∧
    ∃ n8, (p1 < 205 ∧ zsh p1 = (100, n8)) ∧
    vp_in (I b2 x3.toNatClampNeg) n8 ∧
    (((I p1 (I b2 x3.toNatClampNeg).toNatClampNeg) = 0 →
      gw_X6_countSo d Q 4 [some (.ref a), some (.ref p1), some (.int (x2 + 0)), some (.int (x3 + 1))] [] I L P
    ) ∧ (¬ (I p1 (I b2 x3.toNatClampNeg).toNatClampNeg) = 0 →
      gw_X6_countSo d Q 4 [some (.ref a), some (.ref p1), some (.int (x2 + 1)), some (.int (x3 + 1))] [] I L P
    ))
  ))
set_option maxRecDepth 20000 in
theorem g_X6_countSo_4 {d : Nat} {Q : zQt} {a : Nat} {p1 : Nat} {x2 : Int32} {x3 : Int32} {I : zI} {L : zL} {P : zP} (hP : zPk P) (hv : v_X6_countSo_4 d Q a p1 x2 x3 I L P) : gw_X6_countSo d Q 4 [some (.ref a), some (.ref p1), some (.int x2), some (.int x3)] [] I L P := by
  unfold v_X6_countSo_4 at hv
  refine z_iload_n dX6_countSo_4 rfl ?_
  refine z_aload_n dX6_countSo_5 rfl ?_
  obtain ⟨h1, hv⟩ := hv
  refine z_getI dX6_countSo_6 zf_X6_17 h1.1 h1.2 (fun _ _ _ _ _ => rfl) ?_
  refine z_icmp_ge (tgt := 37) dX6_countSo_9 (by decide) (fun q11 => ?_) (fun q11 => ?_)
  · have hv := hv.1 q11
    refine z_iload_n dX6_countSo_37 rfl ?_
    exact z_ireturn dX6_countSo_38 rfl rfl (Nat.le_refl _) (Nat.le_refl _) hv
  · have hv := hv.2 q11
    refine z_iload_n dX6_countSo_12 rfl ?_
    refine z_aload_n dX6_countSo_13 rfl ?_
    refine z_aload_n dX6_countSo_14 rfl ?_
    obtain ⟨b2, h3, hv⟩ := hv
    refine z_getP dX6_countSo_15 zf_X6_11 h1.1 h1.2 (fun _ _ _ _ _ => rfl) h3 ?_
    refine z_iload_n dX6_countSo_18 rfl ?_
    obtain ⟨n5, h4, hv⟩ := hv
    obtain ⟨h6, hv⟩ := hv
    refine z_iaload dX6_countSo_19 h4.1 h4.2 h6 ?_
    obtain ⟨n8, h7, hv⟩ := hv
    obtain ⟨h9, hv⟩ := hv
    refine z_iaload dX6_countSo_20 h7.1 h7.2 h9 ?_
    refine z_if_eq (tgt := 28) dX6_countSo_21 (by decide) (fun q10 => ?_) (fun q10 => ?_)
    · have hv := hv.1 q10
      refine z_iconst (v := 0) dX6_countSo_28 (by decide) ?_
      refine z_iadd dX6_countSo_29 ?_
      refine z_istore_n (lv2 := [some (.ref a), some (.ref p1), some (.int (x2 + 0)), some (.int x3)]) dX6_countSo_30 (by decide) rfl rfl ?_
      refine z_iinc (v2 := x3 + 1) (lv2 := [some (.ref a), some (.ref p1), some (.int (x2 + 0)), some (.int (x3 + 1))]) dX6_countSo_31 rfl (by rfl) (by decide) rfl rfl ?_
      refine z_goto (tgt := 4) dX6_countSo_34 (by decide) ?_
      exact hv
    · have hv := hv.2 q10
      refine z_iconst (v := 1) dX6_countSo_24 (by decide) ?_
      refine z_goto (tgt := 29) dX6_countSo_25 (by decide) ?_
      refine z_iadd dX6_countSo_29 ?_
      refine z_istore_n (lv2 := [some (.ref a), some (.ref p1), some (.int (x2 + 1)), some (.int x3)]) dX6_countSo_30 (by decide) rfl rfl ?_
      refine z_iinc (v2 := x3 + 1) (lv2 := [some (.ref a), some (.ref p1), some (.int (x2 + 1)), some (.int (x3 + 1))]) dX6_countSo_31 rfl (by rfl) (by decide) rfl rfl ?_
      refine z_goto (tgt := 4) dX6_countSo_34 (by decide) ?_
      exact hv
def v_X6_countSo (d : Nat) (Q : zQt) (a : Nat) (p1 : Nat) (I : zI) (L : zL) (P : zP) : Prop :=
  gw_X6_countSo d Q 4 [some (.ref a), some (.ref p1), some (.int 0), some (.int 0)] [] I L P
set_option maxRecDepth 20000 in
theorem g_X6_countSo {d : Nat} {Q : zQt} {a : Nat} {p1 : Nat} {I : zI} {L : zL} {P : zP} (hP : zPk P) (hv : v_X6_countSo d Q a p1 I L P) : zM zm_X6_countSo d 0 0 [.ref a, .ref p1] I L P 205 Q := by
  unfold v_X6_countSo at hv
  refine zM_of (lv0 := [some (.ref a), some (.ref p1), none, none]) (by decide +kernel) (Nat.le_of_ble_eq_true rfl) rfl ?_
  refine z_iconst (v := 0) dX6_countSo_0 (by decide) ?_
  refine z_istore_n (lv2 := [some (.ref a), some (.ref p1), some (.int 0), none]) dX6_countSo_1 (by decide) rfl rfl ?_
  refine z_iconst (v := 0) dX6_countSo_2 (by decide) ?_
  refine z_istore_n (lv2 := [some (.ref a), some (.ref p1), some (.int 0), some (.int 0)]) dX6_countSo_3 (by decide) rfl rfl ?_
  exact hv
abbrev gw_X6_hear (d : Nat) (Q : zQt) (pc : Nat) (lv : zV) (st : List Value) (I : zI) (L : zL) (P : zP) : Prop := zW zm_X6_hear (zRm d 0 0) 0 0 Q pc lv st I L P 205 0 0
def v_X6_hear (d : Nat) (Q : zQt) (a : Nat) (p1 : Nat) (I : zI) (L : zL) (P : zP) : Prop :=
  (a < 205 ∧ (zsh a).1 = 5) ∧
  ∃ b2 : Nat, P a 1 = some b2 ∧
  (b2 < 205 ∧ (zsh b2).1 = 2) ∧
  ∃ n6, (p1 < 205 ∧ zsh p1 = (100, n6)) ∧
  vp_in (I b2 1) n6 ∧
  (((I p1 (I b2 1).toNatClampNeg) = 0 →
    Q (some (.int (-1))) I L P 205
  ) ∧ (¬ (I p1 (I b2 1).toNatClampNeg) = 0 →
    zMi zm_X6_keepSo d [.ref a, .ref p1] I L P (fun r12 I8 L9 P10 =>
      Q (some (.int r12)) I8 L9 P10 205
    )
  ))
set_option maxRecDepth 20000 in
theorem g_X6_hear {d : Nat} {Q : zQt} {a : Nat} {p1 : Nat} {I : zI} {L : zL} {P : zP} (hP : zPk P) (hv : v_X6_hear d Q a p1 I L P) : zM zm_X6_hear (d + 1) 0 0 [.ref a, .ref p1] I L P 205 Q := by
  unfold v_X6_hear at hv
  refine zM_of (lv0 := [some (.ref a), some (.ref p1)]) (by decide +kernel) (Nat.le_of_ble_eq_true rfl) rfl ?_
  refine z_aload_n dX6_hear_0 rfl ?_
  refine z_aload_n dX6_hear_1 rfl ?_
  obtain ⟨h1, hv⟩ := hv
  obtain ⟨b2, h3, hv⟩ := hv
  refine z_getP dX6_hear_2 zf_X6_30 h1.1 h1.2 (fun _ _ _ _ _ => rfl) h3 ?_
  obtain ⟨h4, hv⟩ := hv
  refine z_getI dX6_hear_5 zf_X6_62 h4.1 h4.2 (fun _ _ _ _ _ => rfl) ?_
  obtain ⟨n6, h5, hv⟩ := hv
  obtain ⟨h7, hv⟩ := hv
  refine z_iaload dX6_hear_8 h5.1 h5.2 h7 ?_
  refine z_if_eq (tgt := 20) dX6_hear_9 (by decide) (fun q13 => ?_) (fun q13 => ?_)
  · have hv := hv.1 q13
    refine z_iconst (v := (-1)) dX6_hear_20 (by decide) ?_
    exact z_ireturn dX6_hear_21 rfl rfl (Nat.le_refl _) (Nat.le_refl _) hv
  · have hv := hv.2 q13
    refine z_aload_n dX6_hear_12 rfl ?_
    refine z_aload_n dX6_hear_13 rfl ?_
    refine z_callV (As := [.ref p1]) (st := []) dX6_hear_14 zl_X6_65 zv_X6_keepSo (by decide) rfl h1.1 h1.2 rfl rfl (Nat.le_of_ble_eq_true rfl) ⟨Nat.le_refl _, Nat.le_refl _⟩ ⟨Nat.le_refl _, Nat.le_refl _⟩ hv (fun v1 I8 L9 P10 nx1 q11 => ?_)
    obtain ⟨rfl, r12, rfl, hv⟩ := q11
    refine z_goto (tgt := 21) dX6_hear_17 (by decide) ?_
    exact z_ireturn dX6_hear_21 rfl rfl (Nat.le_refl _) (Nat.le_refl _) hv
abbrev gw_X6_keepSo (d : Nat) (Q : zQt) (pc : Nat) (lv : zV) (st : List Value) (I : zI) (L : zL) (P : zP) : Prop := zW zm_X6_keepSo (zRm d 0 0) 0 0 Q pc lv st I L P 205 0 0
def v_X6_keepSo_4 (d : Nat) (Q : zQt) (a : Nat) (p1 : Nat) (x2 : Int32) (x3 : Int32) (I : zI) (L : zL) (P : zP) : Prop :=
  (a < 205 ∧ (zsh a).1 = 5) ∧
  (((I a 3) ≤ x3 →
    ∀ I2 : zI, I2 = zuI I a 3 x2 →
    Q (some (.int ((I a 3) - x2))) I2 L P 205
  ) ∧ (¬ (I a 3) ≤ x3 →
    ∃ b4 : Nat, P a 2 = some b4 ∧
    ∃ n7, (b4 < 205 ∧ zsh b4 = (100, n7)) ∧
    vp_in x3 n7 ∧
    ∃ n10, (p1 < 205 ∧ zsh p1 = (100, n10)) ∧
    vp_in (I b4 x3.toNatClampNeg) n10 ∧
    (((I p1 (I b4 x3.toNatClampNeg).toNatClampNeg) = 0 →
      gw_X6_keepSo d Q 4 [some (.ref a), some (.ref p1), some (.int x2), some (.int (x3 + 1))] [] I L P
    ) ∧ (¬ (I p1 (I b4 x3.toNatClampNeg).toNatClampNeg) = 0 →
      vp_in x2 n7 ∧
      ∀ I14 : zI, I14 = zuI I b4 x2.toNatClampNeg (I b4 x3.toNatClampNeg) →
      gw_X6_keepSo d Q 4 [some (.ref a), some (.ref p1), some (.int (x2 + 1)), some (.int (x3 + 1))] [] I14 L P
    ))
  ))
set_option maxRecDepth 20000 in
theorem g_X6_keepSo_4 {d : Nat} {Q : zQt} {a : Nat} {p1 : Nat} {x2 : Int32} {x3 : Int32} {I : zI} {L : zL} {P : zP} (hP : zPk P) (hv : v_X6_keepSo_4 d Q a p1 x2 x3 I L P) : gw_X6_keepSo d Q 4 [some (.ref a), some (.ref p1), some (.int x2), some (.int x3)] [] I L P := by
  unfold v_X6_keepSo_4 at hv
  refine z_iload_n dX6_keepSo_4 rfl ?_
  refine z_aload_n dX6_keepSo_5 rfl ?_
  obtain ⟨h1, hv⟩ := hv
  refine z_getI dX6_keepSo_6 zf_X6_17 h1.1 h1.2 (fun _ _ _ _ _ => rfl) ?_
  refine z_icmp_ge (tgt := 44) dX6_keepSo_9 (by decide) (fun q16 => ?_) (fun q16 => ?_)
  · have hv := hv.1 q16
    refine z_aload_n dX6_keepSo_44 rfl ?_
    refine z_getI dX6_keepSo_45 zf_X6_17 h1.1 h1.2 (fun _ _ _ _ _ => rfl) ?_
    refine z_iload_n dX6_keepSo_48 rfl ?_
    refine z_isub dX6_keepSo_49 ?_
    refine z_istore_n (lv2 := [some (.ref a), some (.ref p1), some (.int x2), some (.int ((I a 3) - x2))]) dX6_keepSo_50 (by decide) rfl rfl ?_
    refine z_aload_n dX6_keepSo_51 rfl ?_
    refine z_iload_n dX6_keepSo_52 rfl ?_
    refine z_putI dX6_keepSo_53 zf_X6_17 h1.1 h1.2 (Or.inl rfl) (fun _ _ _ _ _ => rfl) rfl rfl (z_nmI (fun I2 e3 => ?_))
    have hv := hv I2 e3
    refine z_iload_n dX6_keepSo_56 rfl ?_
    exact z_ireturn dX6_keepSo_57 rfl rfl (Nat.le_refl _) (Nat.le_refl _) hv
  · have hv := hv.2 q16
    refine z_aload_n dX6_keepSo_12 rfl ?_
    refine z_aload_n dX6_keepSo_13 rfl ?_
    obtain ⟨b4, h5, hv⟩ := hv
    refine z_getP dX6_keepSo_14 zf_X6_11 h1.1 h1.2 (fun _ _ _ _ _ => rfl) h5 ?_
    refine z_iload_n dX6_keepSo_17 rfl ?_
    obtain ⟨n7, h6, hv⟩ := hv
    obtain ⟨h8, hv⟩ := hv
    refine z_iaload dX6_keepSo_18 h6.1 h6.2 h8 ?_
    obtain ⟨n10, h9, hv⟩ := hv
    obtain ⟨h11, hv⟩ := hv
    refine z_iaload dX6_keepSo_19 h9.1 h9.2 h11 ?_
    refine z_if_eq (tgt := 38) dX6_keepSo_20 (by decide) (fun q15 => ?_) (fun q15 => ?_)
    · have hv := hv.1 q15
      refine z_iinc (v2 := x3 + 1) (lv2 := [some (.ref a), some (.ref p1), some (.int x2), some (.int (x3 + 1))]) dX6_keepSo_38 rfl (by rfl) (by decide) rfl rfl ?_
      refine z_goto (tgt := 4) dX6_keepSo_41 (by decide) ?_
      exact hv
    · have hv := hv.2 q15
      refine z_aload_n dX6_keepSo_23 rfl ?_
      refine z_getP dX6_keepSo_24 zf_X6_11 h1.1 h1.2 (fun _ _ _ _ _ => rfl) h5 ?_
      refine z_iload_n dX6_keepSo_27 rfl ?_
      refine z_aload_n dX6_keepSo_28 rfl ?_
      refine z_getP dX6_keepSo_29 zf_X6_11 h1.1 h1.2 (fun _ _ _ _ _ => rfl) h5 ?_
      refine z_iload_n dX6_keepSo_32 rfl ?_
      refine z_iaload dX6_keepSo_33 h6.1 h6.2 h8 ?_
      obtain ⟨h12, hv⟩ := hv
      refine z_iastore dX6_keepSo_34 h6.1 h6.2 h12 (z_nmI (fun I14 e13 => ?_))
      have hv := hv I14 e13
      refine z_iinc (v2 := x2 + 1) (lv2 := [some (.ref a), some (.ref p1), some (.int (x2 + 1)), some (.int x3)]) dX6_keepSo_35 rfl (by rfl) (by decide) rfl rfl ?_
      refine z_iinc (v2 := x3 + 1) (lv2 := [some (.ref a), some (.ref p1), some (.int (x2 + 1)), some (.int (x3 + 1))]) dX6_keepSo_38 rfl (by rfl) (by decide) rfl rfl ?_
      refine z_goto (tgt := 4) dX6_keepSo_41 (by decide) ?_
      exact hv
def v_X6_keepSo (d : Nat) (Q : zQt) (a : Nat) (p1 : Nat) (I : zI) (L : zL) (P : zP) : Prop :=
  gw_X6_keepSo d Q 4 [some (.ref a), some (.ref p1), some (.int 0), some (.int 0)] [] I L P
set_option maxRecDepth 20000 in
theorem g_X6_keepSo {d : Nat} {Q : zQt} {a : Nat} {p1 : Nat} {I : zI} {L : zL} {P : zP} (hP : zPk P) (hv : v_X6_keepSo d Q a p1 I L P) : zM zm_X6_keepSo d 0 0 [.ref a, .ref p1] I L P 205 Q := by
  unfold v_X6_keepSo at hv
  refine zM_of (lv0 := [some (.ref a), some (.ref p1), none, none]) (by decide +kernel) (Nat.le_of_ble_eq_true rfl) rfl ?_
  refine z_iconst (v := 0) dX6_keepSo_0 (by decide) ?_
  refine z_istore_n (lv2 := [some (.ref a), some (.ref p1), some (.int 0), none]) dX6_keepSo_1 (by decide) rfl rfl ?_
  refine z_iconst (v := 0) dX6_keepSo_2 (by decide) ?_
  refine z_istore_n (lv2 := [some (.ref a), some (.ref p1), some (.int 0), some (.int 0)]) dX6_keepSo_3 (by decide) rfl rfl ?_
  exact hv
abbrev gw_X6_keepEqual (d : Nat) (Q : zQt) (pc : Nat) (lv : zV) (st : List Value) (I : zI) (L : zL) (P : zP) : Prop := zW zm_X6_keepEqual (zRm d 0 0) 0 0 Q pc lv st I L P 205 0 0
def v_X6_keepEqual_5 (d : Nat) (Q : zQt) (a : Nat) (p1 : Nat) (p2 : Int32) (x3 : Int32) (x4 : Int32) (I : zI) (L : zL) (P : zP) : Prop :=
  (a < 205 ∧ (zsh a).1 = 5) ∧
  (((I a 3) ≤ x4 →
    ∀ I2 : zI, I2 = zuI I a 3 x3 →
    Q none I2 L P 205
  ) ∧ (¬ (I a 3) ≤ x4 →
    ∃ b4 : Nat, P a 2 = some b4 ∧
    ∃ n7, (b4 < 205 ∧ zsh b4 = (100, n7)) ∧
    vp_in x4 n7 ∧
    ∃ n10, (p1 < 205 ∧ zsh p1 = (100, n10)) ∧
    vp_in (I b4 x4.toNatClampNeg) n10 ∧
    ((¬ (I p1 (I b4 x4.toNatClampNeg).toNatClampNeg) = p2 →
      gw_X6_keepEqual d Q 5 [some (.ref a), some (.ref p1), some (.int p2), some (.int x3), some (.int (x4 + 1))] [] I L P
    ) ∧ ((I p1 (I b4 x4.toNatClampNeg).toNatClampNeg) = p2 →
      vp_in x3 n7 ∧
      ∀ I14 : zI, I14 = zuI I b4 x3.toNatClampNeg (I b4 x4.toNatClampNeg) →
      gw_X6_keepEqual d Q 5 [some (.ref a), some (.ref p1), some (.int p2), some (.int (x3 + 1)), some (.int (x4 + 1))] [] I14 L P
    ))
  ))
set_option maxRecDepth 20000 in
theorem g_X6_keepEqual_5 {d : Nat} {Q : zQt} {a : Nat} {p1 : Nat} {p2 : Int32} {x3 : Int32} {x4 : Int32} {I : zI} {L : zL} {P : zP} (hP : zPk P) (hv : v_X6_keepEqual_5 d Q a p1 p2 x3 x4 I L P) : gw_X6_keepEqual d Q 5 [some (.ref a), some (.ref p1), some (.int p2), some (.int x3), some (.int x4)] [] I L P := by
  unfold v_X6_keepEqual_5 at hv
  refine z_iload dX6_keepEqual_5 rfl ?_
  refine z_aload_n dX6_keepEqual_7 rfl ?_
  obtain ⟨h1, hv⟩ := hv
  refine z_getI dX6_keepEqual_8 zf_X6_17 h1.1 h1.2 (fun _ _ _ _ _ => rfl) ?_
  refine z_icmp_ge (tgt := 49) dX6_keepEqual_11 (by decide) (fun q16 => ?_) (fun q16 => ?_)
  · have hv := hv.1 q16
    refine z_aload_n dX6_keepEqual_49 rfl ?_
    refine z_iload_n dX6_keepEqual_50 rfl ?_
    refine z_putI dX6_keepEqual_51 zf_X6_17 h1.1 h1.2 (Or.inl rfl) (fun _ _ _ _ _ => rfl) rfl rfl (z_nmI (fun I2 e3 => ?_))
    have hv := hv I2 e3
    exact z_return dX6_keepEqual_54 rfl (Nat.le_refl _) (Nat.le_refl _) hv
  · have hv := hv.2 q16
    refine z_aload_n dX6_keepEqual_14 rfl ?_
    refine z_aload_n dX6_keepEqual_15 rfl ?_
    obtain ⟨b4, h5, hv⟩ := hv
    refine z_getP dX6_keepEqual_16 zf_X6_11 h1.1 h1.2 (fun _ _ _ _ _ => rfl) h5 ?_
    refine z_iload dX6_keepEqual_19 rfl ?_
    obtain ⟨n7, h6, hv⟩ := hv
    obtain ⟨h8, hv⟩ := hv
    refine z_iaload dX6_keepEqual_21 h6.1 h6.2 h8 ?_
    obtain ⟨n10, h9, hv⟩ := hv
    obtain ⟨h11, hv⟩ := hv
    refine z_iaload dX6_keepEqual_22 h9.1 h9.2 h11 ?_
    refine z_iload_n dX6_keepEqual_23 rfl ?_
    refine z_icmp_ne (tgt := 43) dX6_keepEqual_24 (by decide) (fun q15 => ?_) (fun q15 => ?_)
    · have hv := hv.1 q15
      refine z_iinc (v2 := x4 + 1) (lv2 := [some (.ref a), some (.ref p1), some (.int p2), some (.int x3), some (.int (x4 + 1))]) dX6_keepEqual_43 rfl (by rfl) (by decide) rfl rfl ?_
      refine z_goto (tgt := 5) dX6_keepEqual_46 (by decide) ?_
      exact hv
    · have hv := hv.2 q15
      refine z_aload_n dX6_keepEqual_27 rfl ?_
      refine z_getP dX6_keepEqual_28 zf_X6_11 h1.1 h1.2 (fun _ _ _ _ _ => rfl) h5 ?_
      refine z_iload_n dX6_keepEqual_31 rfl ?_
      refine z_aload_n dX6_keepEqual_32 rfl ?_
      refine z_getP dX6_keepEqual_33 zf_X6_11 h1.1 h1.2 (fun _ _ _ _ _ => rfl) h5 ?_
      refine z_iload dX6_keepEqual_36 rfl ?_
      refine z_iaload dX6_keepEqual_38 h6.1 h6.2 h8 ?_
      obtain ⟨h12, hv⟩ := hv
      refine z_iastore dX6_keepEqual_39 h6.1 h6.2 h12 (z_nmI (fun I14 e13 => ?_))
      have hv := hv I14 e13
      refine z_iinc (v2 := x3 + 1) (lv2 := [some (.ref a), some (.ref p1), some (.int p2), some (.int (x3 + 1)), some (.int x4)]) dX6_keepEqual_40 rfl (by rfl) (by decide) rfl rfl ?_
      refine z_iinc (v2 := x4 + 1) (lv2 := [some (.ref a), some (.ref p1), some (.int p2), some (.int (x3 + 1)), some (.int (x4 + 1))]) dX6_keepEqual_43 rfl (by rfl) (by decide) rfl rfl ?_
      refine z_goto (tgt := 5) dX6_keepEqual_46 (by decide) ?_
      exact hv
def v_X6_keepEqual (d : Nat) (Q : zQt) (a : Nat) (p1 : Nat) (p2 : Int32) (I : zI) (L : zL) (P : zP) : Prop :=
  gw_X6_keepEqual d Q 5 [some (.ref a), some (.ref p1), some (.int p2), some (.int 0), some (.int 0)] [] I L P
set_option maxRecDepth 20000 in
theorem g_X6_keepEqual {d : Nat} {Q : zQt} {a : Nat} {p1 : Nat} {p2 : Int32} {I : zI} {L : zL} {P : zP} (hP : zPk P) (hv : v_X6_keepEqual d Q a p1 p2 I L P) : zM zm_X6_keepEqual d 0 0 [.ref a, .ref p1, .int p2] I L P 205 Q := by
  unfold v_X6_keepEqual at hv
  refine zM_of (lv0 := [some (.ref a), some (.ref p1), some (.int p2), none, none]) (by decide +kernel) (Nat.le_of_ble_eq_true rfl) rfl ?_
  refine z_iconst (v := 0) dX6_keepEqual_0 (by decide) ?_
  refine z_istore_n (lv2 := [some (.ref a), some (.ref p1), some (.int p2), some (.int 0), none]) dX6_keepEqual_1 (by decide) rfl rfl ?_
  refine z_iconst (v := 0) dX6_keepEqual_2 (by decide) ?_
  refine z_istore (lv2 := [some (.ref a), some (.ref p1), some (.int p2), some (.int 0), some (.int 0)]) dX6_keepEqual_3 (by decide) rfl rfl ?_
  exact hv
abbrev gw_X6_note (d : Nat) (Q : zQt) (pc : Nat) (lv : zV) (st : List Value) (I : zI) (L : zL) (P : zP) : Prop := zW zm_X6_note (zRm d 0 0) 0 0 Q pc lv st I L P 205 0 0
def v_X6_note_2 (d : Nat) (Q : zQt) (a : Nat) (p2 : Int32) (x3 : Int32) (I : zI) (L : zL) (P : zP) : Prop :=
  (a < 205 ∧ (zsh a).1 = 5) ∧
  (((I a 3) ≤ x3 →
    Q none I L P 205
  ) ∧ (¬ (I a 3) ≤ x3 →
    ∃ b2 : Nat, P a 2 = some b2 ∧
    ∃ n5, (b2 < 205 ∧ zsh b2 = (100, n5)) ∧
    vp_in x3 n5 ∧
    vp_in (I b2 x3.toNatClampNeg) 256 ∧
    ∀ L9 : zL, L9 = zuL L 120 (I b2 x3.toNatClampNeg).toNatClampNeg ((L 120 (I b2 x3.toNatClampNeg).toNatClampNeg) ||| ((1 : Int64) <<< ((p2 : Int32).toInt64 &&& 63) : Int64) : Int64) →
    gw_X6_note d Q 2 [some (.ref a), some (.ref 120), some (.int p2), some (.int (x3 + 1))] [] I L9 P
  ))
set_option maxRecDepth 20000 in
theorem g_X6_note_2 {d : Nat} {Q : zQt} {a : Nat} {p2 : Int32} {x3 : Int32} {I : zI} {L : zL} {P : zP} (hP : zPk P) (hv : v_X6_note_2 d Q a p2 x3 I L P) : gw_X6_note d Q 2 [some (.ref a), some (.ref 120), some (.int p2), some (.int x3)] [] I L P := by
  unfold v_X6_note_2 at hv
  refine z_iload_n dX6_note_2 rfl ?_
  refine z_aload_n dX6_note_3 rfl ?_
  obtain ⟨h1, hv⟩ := hv
  refine z_getI dX6_note_4 zf_X6_17 h1.1 h1.2 (fun _ _ _ _ _ => rfl) ?_
  refine z_icmp_ge (tgt := 30) dX6_note_7 (by decide) (fun q10 => ?_) (fun q10 => ?_)
  · have hv := hv.1 q10
    exact z_return dX6_note_30 rfl (Nat.le_refl _) (Nat.le_refl _) hv
  · have hv := hv.2 q10
    refine z_aload_n dX6_note_10 rfl ?_
    refine z_aload_n dX6_note_11 rfl ?_
    obtain ⟨b2, h3, hv⟩ := hv
    refine z_getP dX6_note_12 zf_X6_11 h1.1 h1.2 (fun _ _ _ _ _ => rfl) h3 ?_
    refine z_iload_n dX6_note_15 rfl ?_
    obtain ⟨n5, h4, hv⟩ := hv
    obtain ⟨h6, hv⟩ := hv
    refine z_iaload dX6_note_16 h4.1 h4.2 h6 ?_
    refine z_dup2 dX6_note_17 rfl rfl ?_
    obtain ⟨h7, hv⟩ := hv
    refine z_laload dX6_note_18 zn_120 zh_120 h7 ?_
    refine z_lconst (v := 1) dX6_note_19 (by decide) ?_
    refine z_iload_n dX6_note_20 rfl ?_
    refine z_lshl dX6_note_21 ?_
    refine z_lor dX6_note_22 ?_
    refine z_lastore dX6_note_23 zn_120 zh_120 h7 (z_nmL (fun L9 e8 => ?_))
    have hv := hv L9 e8
    refine z_iinc (v2 := x3 + 1) (lv2 := [some (.ref a), some (.ref 120), some (.int p2), some (.int (x3 + 1))]) dX6_note_24 rfl (by rfl) (by decide) rfl rfl ?_
    refine z_goto (tgt := 2) dX6_note_27 (by decide) ?_
    exact hv
def v_X6_note (d : Nat) (Q : zQt) (a : Nat) (p2 : Int32) (I : zI) (L : zL) (P : zP) : Prop :=
  gw_X6_note d Q 2 [some (.ref a), some (.ref 120), some (.int p2), some (.int 0)] [] I L P
set_option maxRecDepth 20000 in
theorem g_X6_note {d : Nat} {Q : zQt} {a : Nat} {p2 : Int32} {I : zI} {L : zL} {P : zP} (hP : zPk P) (hv : v_X6_note d Q a p2 I L P) : zM zm_X6_note d 0 0 [.ref a, .ref 120, .int p2] I L P 205 Q := by
  unfold v_X6_note at hv
  refine zM_of (lv0 := [some (.ref a), some (.ref 120), some (.int p2), none]) (by decide +kernel) (Nat.le_of_ble_eq_true rfl) rfl ?_
  refine z_iconst (v := 0) dX6_note_0 (by decide) ?_
  refine z_istore_n (lv2 := [some (.ref a), some (.ref 120), some (.int p2), some (.int 0)]) dX6_note_1 (by decide) rfl rfl ?_
  exact hv
abbrev gw_X6_keepNoted (d : Nat) (Q : zQt) (pc : Nat) (lv : zV) (st : List Value) (I : zI) (L : zL) (P : zP) : Prop := zW zm_X6_keepNoted (zRm d 0 0) 0 0 Q pc lv st I L P 205 0 0
def v_X6_keepNoted_5 (d : Nat) (Q : zQt) (a : Nat) (p2 : Int32) (x3 : Int32) (x4 : Int32) (I : zI) (L : zL) (P : zP) : Prop :=
  (a < 205 ∧ (zsh a).1 = 5) ∧
  (((I a 3) ≤ x4 →
    ∀ I2 : zI, I2 = zuI I a 3 x3 →
    Q none I2 L P 205
  ) ∧ (¬ (I a 3) ≤ x4 →
    ∃ b4 : Nat, P a 2 = some b4 ∧
    ∃ n7, (b4 < 205 ∧ zsh b4 = (100, n7)) ∧
    vp_in x4 n7 ∧
    vp_in (I b4 x4.toNatClampNeg) 256 ∧
    ((¬ (lg_cmp ((((L 120 (I b4 x4.toNatClampNeg).toNatClampNeg) : Int64) >>> ((p2 : Int32).toInt64 &&& 63) : Int64) &&& 1 : Int64) 1) = 0 →
      gw_X6_keepNoted d Q 5 [some (.ref a), some (.ref 120), some (.int p2), some (.int x3), some (.int (x4 + 1))] [] I L P
    ) ∧ ((lg_cmp ((((L 120 (I b4 x4.toNatClampNeg).toNatClampNeg) : Int64) >>> ((p2 : Int32).toInt64 &&& 63) : Int64) &&& 1 : Int64) 1) = 0 →
      vp_in x3 n7 ∧
      ∀ I12 : zI, I12 = zuI I b4 x3.toNatClampNeg (I b4 x4.toNatClampNeg) →
      gw_X6_keepNoted d Q 5 [some (.ref a), some (.ref 120), some (.int p2), some (.int (x3 + 1)), some (.int (x4 + 1))] [] I12 L P
    ))
  ))
set_option maxRecDepth 20000 in
theorem g_X6_keepNoted_5 {d : Nat} {Q : zQt} {a : Nat} {p2 : Int32} {x3 : Int32} {x4 : Int32} {I : zI} {L : zL} {P : zP} (hP : zPk P) (hv : v_X6_keepNoted_5 d Q a p2 x3 x4 I L P) : gw_X6_keepNoted d Q 5 [some (.ref a), some (.ref 120), some (.int p2), some (.int x3), some (.int x4)] [] I L P := by
  unfold v_X6_keepNoted_5 at hv
  refine z_iload dX6_keepNoted_5 rfl ?_
  refine z_aload_n dX6_keepNoted_7 rfl ?_
  obtain ⟨h1, hv⟩ := hv
  refine z_getI dX6_keepNoted_8 zf_X6_17 h1.1 h1.2 (fun _ _ _ _ _ => rfl) ?_
  refine z_icmp_ge (tgt := 54) dX6_keepNoted_11 (by decide) (fun q14 => ?_) (fun q14 => ?_)
  · have hv := hv.1 q14
    refine z_aload_n dX6_keepNoted_54 rfl ?_
    refine z_iload_n dX6_keepNoted_55 rfl ?_
    refine z_putI dX6_keepNoted_56 zf_X6_17 h1.1 h1.2 (Or.inl rfl) (fun _ _ _ _ _ => rfl) rfl rfl (z_nmI (fun I2 e3 => ?_))
    have hv := hv I2 e3
    exact z_return dX6_keepNoted_59 rfl (Nat.le_refl _) (Nat.le_refl _) hv
  · have hv := hv.2 q14
    refine z_aload_n dX6_keepNoted_14 rfl ?_
    refine z_aload_n dX6_keepNoted_15 rfl ?_
    obtain ⟨b4, h5, hv⟩ := hv
    refine z_getP dX6_keepNoted_16 zf_X6_11 h1.1 h1.2 (fun _ _ _ _ _ => rfl) h5 ?_
    refine z_iload dX6_keepNoted_19 rfl ?_
    obtain ⟨n7, h6, hv⟩ := hv
    obtain ⟨h8, hv⟩ := hv
    refine z_iaload dX6_keepNoted_21 h6.1 h6.2 h8 ?_
    obtain ⟨h9, hv⟩ := hv
    refine z_laload dX6_keepNoted_22 zn_120 zh_120 h9 ?_
    refine z_iload_n dX6_keepNoted_23 rfl ?_
    refine z_lshr dX6_keepNoted_24 ?_
    refine z_lconst (v := 1) dX6_keepNoted_25 (by decide) ?_
    refine z_land dX6_keepNoted_26 ?_
    refine z_lconst (v := 1) dX6_keepNoted_27 (by decide) ?_
    refine z_lcmp dX6_keepNoted_28 ?_
    refine z_if_ne (tgt := 48) dX6_keepNoted_29 (by decide) (fun q13 => ?_) (fun q13 => ?_)
    · have hv := hv.1 q13
      refine z_iinc (v2 := x4 + 1) (lv2 := [some (.ref a), some (.ref 120), some (.int p2), some (.int x3), some (.int (x4 + 1))]) dX6_keepNoted_48 rfl (by rfl) (by decide) rfl rfl ?_
      refine z_goto (tgt := 5) dX6_keepNoted_51 (by decide) ?_
      exact hv
    · have hv := hv.2 q13
      refine z_aload_n dX6_keepNoted_32 rfl ?_
      refine z_getP dX6_keepNoted_33 zf_X6_11 h1.1 h1.2 (fun _ _ _ _ _ => rfl) h5 ?_
      refine z_iload_n dX6_keepNoted_36 rfl ?_
      refine z_aload_n dX6_keepNoted_37 rfl ?_
      refine z_getP dX6_keepNoted_38 zf_X6_11 h1.1 h1.2 (fun _ _ _ _ _ => rfl) h5 ?_
      refine z_iload dX6_keepNoted_41 rfl ?_
      refine z_iaload dX6_keepNoted_43 h6.1 h6.2 h8 ?_
      obtain ⟨h10, hv⟩ := hv
      refine z_iastore dX6_keepNoted_44 h6.1 h6.2 h10 (z_nmI (fun I12 e11 => ?_))
      have hv := hv I12 e11
      refine z_iinc (v2 := x3 + 1) (lv2 := [some (.ref a), some (.ref 120), some (.int p2), some (.int (x3 + 1)), some (.int x4)]) dX6_keepNoted_45 rfl (by rfl) (by decide) rfl rfl ?_
      refine z_iinc (v2 := x4 + 1) (lv2 := [some (.ref a), some (.ref 120), some (.int p2), some (.int (x3 + 1)), some (.int (x4 + 1))]) dX6_keepNoted_48 rfl (by rfl) (by decide) rfl rfl ?_
      refine z_goto (tgt := 5) dX6_keepNoted_51 (by decide) ?_
      exact hv
def v_X6_keepNoted (d : Nat) (Q : zQt) (a : Nat) (p2 : Int32) (I : zI) (L : zL) (P : zP) : Prop :=
  gw_X6_keepNoted d Q 5 [some (.ref a), some (.ref 120), some (.int p2), some (.int 0), some (.int 0)] [] I L P
set_option maxRecDepth 20000 in
theorem g_X6_keepNoted {d : Nat} {Q : zQt} {a : Nat} {p2 : Int32} {I : zI} {L : zL} {P : zP} (hP : zPk P) (hv : v_X6_keepNoted d Q a p2 I L P) : zM zm_X6_keepNoted d 0 0 [.ref a, .ref 120, .int p2] I L P 205 Q := by
  unfold v_X6_keepNoted at hv
  refine zM_of (lv0 := [some (.ref a), some (.ref 120), some (.int p2), none, none]) (by decide +kernel) (Nat.le_of_ble_eq_true rfl) rfl ?_
  refine z_iconst (v := 0) dX6_keepNoted_0 (by decide) ?_
  refine z_istore_n (lv2 := [some (.ref a), some (.ref 120), some (.int p2), some (.int 0), none]) dX6_keepNoted_1 (by decide) rfl rfl ?_
  refine z_iconst (v := 0) dX6_keepNoted_2 (by decide) ?_
  refine z_istore (lv2 := [some (.ref a), some (.ref 120), some (.int p2), some (.int 0), some (.int 0)]) dX6_keepNoted_3 (by decide) rfl rfl ?_
  exact hv
abbrev gw_X7_tell (d : Nat) (Q : zQt) (pc : Nat) (lv : zV) (st : List Value) (I : zI) (L : zL) (P : zP) : Prop := zW zm_X7_tell (zRm d 0 0) 0 0 Q pc lv st I L P 205 0 0
def v_X7_tell (d : Nat) (Q : zQt) (p1 : Int32) (p2 : Int32) (p3 : Int32) (I : zI) (L : zL) (P : zP) : Prop :=
  ((p2 < 1 →
    Q (some (.int (-1))) I L P 205
  ) ∧ (¬ p2 < 1 →
    ((12 < p2 →
      Q (some (.int (-1))) I L P 205
    ) ∧ (¬ 12 < p2 →
      (((I 90 5) < 20 →
        vp_in (I 90 5) 20 ∧
        ∀ I3 : zI, I3 = zuI I 91 (I 90 5).toNatClampNeg p1 →
        vp_in (I3 90 5) 20 ∧
        ∀ I6 : zI, I6 = zuI I3 92 (I3 90 5).toNatClampNeg p2 →
        vp_in (I6 90 5) 20 ∧
        (p3 = 0 ∨ p3 = 1) ∧
        ∀ I9 : zI, I9 = zuI I6 93 (I6 90 5).toNatClampNeg p3 →
        vp_in (I9 90 5) 20 ∧
        ∀ I13 : zI, I13 = zuI I9 94 (I9 90 5).toNatClampNeg (I9 90 6) →
        vp_in (I13 90 5) 20 ∧
        ∀ I16 : zI, I16 = zuI I13 95 (I13 90 5).toNatClampNeg (-1) →
        ∀ I17 : zI, I17 = zuI I16 90 5 ((I16 90 5) + 1) →
        Q (some (.int ((I17 90 5) - 1))) I17 L P 205
      ) ∧ (¬ (I 90 5) < 20 →
        Q (some (.int (-1))) I L P 205
      ))
    ))
  ))
set_option maxRecDepth 20000 in
theorem g_X7_tell {d : Nat} {Q : zQt} {p1 : Int32} {p2 : Int32} {p3 : Int32} {I : zI} {L : zL} {P : zP} (hP : zPk P) (hv : v_X7_tell d Q p1 p2 p3 I L P) : zM zm_X7_tell d 0 0 [.ref 90, .int p1, .int p2, .int p3] I L P 205 Q := by
  unfold v_X7_tell at hv
  refine zM_of (lv0 := [some (.ref 90), some (.int p1), some (.int p2), some (.int p3)]) (by decide +kernel) (Nat.le_of_ble_eq_true rfl) rfl ?_
  refine z_iload_n dX7_tell_0 rfl ?_
  refine z_iconst (v := 1) dX7_tell_1 (by decide) ?_
  refine z_icmp_lt (tgt := 20) dX7_tell_2 (by decide) (fun q21 => ?_) (fun q21 => ?_)
  · have hv := hv.1 q21
    refine z_iconst (v := (-1)) dX7_tell_20 (by decide) ?_
    exact z_ireturn dX7_tell_21 rfl rfl (Nat.le_refl _) (Nat.le_refl _) hv
  · have hv := hv.2 q21
    refine z_iload_n dX7_tell_5 rfl ?_
    refine z_bipush (v := 12) dX7_tell_6 (by decide) ?_
    refine z_icmp_gt (tgt := 20) dX7_tell_8 (by decide) (fun q20 => ?_) (fun q20 => ?_)
    · have hv := hv.1 q20
      refine z_iconst (v := (-1)) dX7_tell_20 (by decide) ?_
      exact z_ireturn dX7_tell_21 rfl rfl (Nat.le_refl _) (Nat.le_refl _) hv
    · have hv := hv.2 q20
      refine z_aload_n dX7_tell_11 rfl ?_
      refine z_getI dX7_tell_12 zf_X7_28 zn_90 zo_90 (fun _ _ _ _ _ => rfl) ?_
      refine z_bipush (v := 20) dX7_tell_15 (by decide) ?_
      refine z_icmp_lt (tgt := 22) dX7_tell_17 (by decide) (fun q19 => ?_) (fun q19 => ?_)
      · have hv := hv.1 q19
        refine z_aload_n dX7_tell_22 rfl ?_
        refine z_getP dX7_tell_23 zf_X7_11 zn_90 zo_90 (fun _ _ _ _ _ => rfl) (hP 90 0 91 zp_90_0) ?_
        refine z_aload_n dX7_tell_26 rfl ?_
        refine z_getI dX7_tell_27 zf_X7_28 zn_90 zo_90 (fun _ _ _ _ _ => rfl) ?_
        refine z_iload_n dX7_tell_30 rfl ?_
        obtain ⟨h1, hv⟩ := hv
        refine z_iastore dX7_tell_31 zn_91 zh_91 h1 (z_nmI (fun I3 e2 => ?_))
        have hv := hv I3 e2
        refine z_aload_n dX7_tell_32 rfl ?_
        refine z_getP dX7_tell_33 zf_X7_15 zn_90 zo_90 (fun _ _ _ _ _ => rfl) (hP 90 1 92 zp_90_1) ?_
        refine z_aload_n dX7_tell_36 rfl ?_
        refine z_getI dX7_tell_37 zf_X7_28 zn_90 zo_90 (fun _ _ _ _ _ => rfl) ?_
        refine z_iload_n dX7_tell_40 rfl ?_
        obtain ⟨h4, hv⟩ := hv
        refine z_iastore dX7_tell_41 zn_92 zh_92 h4 (z_nmI (fun I6 e5 => ?_))
        have hv := hv I6 e5
        refine z_aload_n dX7_tell_42 rfl ?_
        refine z_getP dX7_tell_43 zf_X7_18 zn_90 zo_90 (fun _ _ _ _ _ => rfl) (hP 90 2 93 zp_90_2) ?_
        refine z_aload_n dX7_tell_46 rfl ?_
        refine z_getI dX7_tell_47 zf_X7_28 zn_90 zo_90 (fun _ _ _ _ _ => rfl) ?_
        refine z_iload_n dX7_tell_50 rfl ?_
        obtain ⟨h7, hv⟩ := hv
        obtain ⟨h10, hv⟩ := hv
        refine z_zastore dX7_tell_51 zn_93 zh_93 h7 (zbn h10) (z_nmI (fun I9 e8 => ?_))
        have hv := hv I9 e8
        refine z_aload_n dX7_tell_52 rfl ?_
        refine z_getP dX7_tell_53 zf_X7_22 zn_90 zo_90 (fun _ _ _ _ _ => rfl) (hP 90 3 94 zp_90_3) ?_
        refine z_aload_n dX7_tell_56 rfl ?_
        refine z_getI dX7_tell_57 zf_X7_28 zn_90 zo_90 (fun _ _ _ _ _ => rfl) ?_
        refine z_aload_n dX7_tell_60 rfl ?_
        refine z_getI dX7_tell_61 zf_X7_32 zn_90 zo_90 (fun _ _ _ _ _ => rfl) ?_
        obtain ⟨h11, hv⟩ := hv
        refine z_iastore dX7_tell_64 zn_94 zh_94 h11 (z_nmI (fun I13 e12 => ?_))
        have hv := hv I13 e12
        refine z_aload_n dX7_tell_65 rfl ?_
        refine z_getP dX7_tell_66 zf_X7_25 zn_90 zo_90 (fun _ _ _ _ _ => rfl) (hP 90 4 95 zp_90_4) ?_
        refine z_aload_n dX7_tell_69 rfl ?_
        refine z_getI dX7_tell_70 zf_X7_28 zn_90 zo_90 (fun _ _ _ _ _ => rfl) ?_
        refine z_iconst (v := (-1)) dX7_tell_73 (by decide) ?_
        obtain ⟨h14, hv⟩ := hv
        refine z_iastore dX7_tell_74 zn_95 zh_95 h14 (z_nmI (fun I16 e15 => ?_))
        have hv := hv I16 e15
        refine z_aload_n dX7_tell_75 rfl ?_
        refine z_dup dX7_tell_76 rfl ?_
        refine z_getI dX7_tell_77 zf_X7_28 zn_90 zo_90 (fun _ _ _ _ _ => rfl) ?_
        refine z_iconst (v := 1) dX7_tell_80 (by decide) ?_
        refine z_iadd dX7_tell_81 ?_
        refine z_putI dX7_tell_82 zf_X7_28 zn_90 zo_90 (Or.inl rfl) (fun _ _ _ _ _ => rfl) rfl rfl (z_nmI (fun I17 e18 => ?_))
        have hv := hv I17 e18
        refine z_aload_n dX7_tell_85 rfl ?_
        refine z_getI dX7_tell_86 zf_X7_28 zn_90 zo_90 (fun _ _ _ _ _ => rfl) ?_
        refine z_iconst (v := 1) dX7_tell_89 (by decide) ?_
        refine z_isub dX7_tell_90 ?_
        exact z_ireturn dX7_tell_91 rfl rfl (Nat.le_refl _) (Nat.le_refl _) hv
      · have hv := hv.2 q19
        refine z_iconst (v := (-1)) dX7_tell_20 (by decide) ?_
        exact z_ireturn dX7_tell_21 rfl rfl (Nat.le_refl _) (Nat.le_refl _) hv
abbrev gw_X7_takeBack (d : Nat) (Q : zQt) (pc : Nat) (lv : zV) (st : List Value) (I : zI) (L : zL) (P : zP) : Prop := zW zm_X7_takeBack (zRm d 0 0) 0 0 Q pc lv st I L P 205 0 0
def v_X7_takeBack (d : Nat) (Q : zQt) (p1 : Int32) (I : zI) (L : zL) (P : zP) : Prop :=
  ((p1 < 0 →
    Q (some (.int 0)) I L P 205
  ) ∧ (¬ p1 < 0 →
    (((I 90 5) ≤ p1 →
      Q (some (.int 0)) I L P 205
    ) ∧ (¬ (I 90 5) ≤ p1 →
      vp_in p1 20 ∧
      (((I 95 p1.toNatClampNeg) = (-1) →
        ∀ I3 : zI, I3 = zuI I 95 p1.toNatClampNeg (I 90 6) →
        Q (some (.int 1)) I3 L P 205
      ) ∧ (¬ (I 95 p1.toNatClampNeg) = (-1) →
        Q (some (.int 0)) I L P 205
      ))
    ))
  ))
set_option maxRecDepth 20000 in
theorem g_X7_takeBack {d : Nat} {Q : zQt} {p1 : Int32} {I : zI} {L : zL} {P : zP} (hP : zPk P) (hv : v_X7_takeBack d Q p1 I L P) : zM zm_X7_takeBack d 0 0 [.ref 90, .int p1] I L P 205 Q := by
  unfold v_X7_takeBack at hv
  refine zM_of (lv0 := [some (.ref 90), some (.int p1)]) (by decide +kernel) (Nat.le_of_ble_eq_true rfl) rfl ?_
  refine z_iload_n dX7_takeBack_0 rfl ?_
  refine z_if_lt (tgt := 22) dX7_takeBack_1 (by decide) (fun q6 => ?_) (fun q6 => ?_)
  · have hv := hv.1 q6
    refine z_iconst (v := 0) dX7_takeBack_22 (by decide) ?_
    exact z_ireturn dX7_takeBack_23 rfl (by decide) (Nat.le_refl _) (Nat.le_refl _) hv
  · have hv := hv.2 q6
    refine z_iload_n dX7_takeBack_4 rfl ?_
    refine z_aload_n dX7_takeBack_5 rfl ?_
    refine z_getI dX7_takeBack_6 zf_X7_28 zn_90 zo_90 (fun _ _ _ _ _ => rfl) ?_
    refine z_icmp_ge (tgt := 22) dX7_takeBack_9 (by decide) (fun q5 => ?_) (fun q5 => ?_)
    · have hv := hv.1 q5
      refine z_iconst (v := 0) dX7_takeBack_22 (by decide) ?_
      exact z_ireturn dX7_takeBack_23 rfl (by decide) (Nat.le_refl _) (Nat.le_refl _) hv
    · have hv := hv.2 q5
      refine z_aload_n dX7_takeBack_12 rfl ?_
      refine z_getP dX7_takeBack_13 zf_X7_25 zn_90 zo_90 (fun _ _ _ _ _ => rfl) (hP 90 4 95 zp_90_4) ?_
      refine z_iload_n dX7_takeBack_16 rfl ?_
      obtain ⟨h1, hv⟩ := hv
      refine z_iaload dX7_takeBack_17 zn_95 zh_95 h1 ?_
      refine z_iconst (v := (-1)) dX7_takeBack_18 (by decide) ?_
      refine z_icmp_eq (tgt := 24) dX7_takeBack_19 (by decide) (fun q4 => ?_) (fun q4 => ?_)
      · have hv := hv.1 q4
        refine z_aload_n dX7_takeBack_24 rfl ?_
        refine z_getP dX7_takeBack_25 zf_X7_25 zn_90 zo_90 (fun _ _ _ _ _ => rfl) (hP 90 4 95 zp_90_4) ?_
        refine z_iload_n dX7_takeBack_28 rfl ?_
        refine z_aload_n dX7_takeBack_29 rfl ?_
        refine z_getI dX7_takeBack_30 zf_X7_32 zn_90 zo_90 (fun _ _ _ _ _ => rfl) ?_
        refine z_iastore dX7_takeBack_33 zn_95 zh_95 h1 (z_nmI (fun I3 e2 => ?_))
        have hv := hv I3 e2
        refine z_iconst (v := 1) dX7_takeBack_34 (by decide) ?_
        exact z_ireturn dX7_takeBack_35 rfl (by decide) (Nat.le_refl _) (Nat.le_refl _) hv
      · have hv := hv.2 q4
        refine z_iconst (v := 0) dX7_takeBack_22 (by decide) ?_
        exact z_ireturn dX7_takeBack_23 rfl (by decide) (Nat.le_refl _) (Nat.le_refl _) hv
abbrev gw_X7_goOn (d : Nat) (Q : zQt) (pc : Nat) (lv : zV) (st : List Value) (I : zI) (L : zL) (P : zP) : Prop := zW zm_X7_goOn (zRm d 0 0) 0 0 Q pc lv st I L P 205 0 0
def v_X7_goOn (d : Nat) (Q : zQt) (p1 : Int32) (I : zI) (L : zL) (P : zP) : Prop :=
  ((p1 < 0 →
    Q (some (.int (-1))) I L P 205
  ) ∧ (¬ p1 < 0 →
    ((1000 < p1 →
      Q (some (.int (-1))) I L P 205
    ) ∧ (¬ 1000 < p1 →
      ((((I 90 6) + p1) ≤ 100000 →
        ∀ I1 : zI, I1 = zuI I 90 6 ((I 90 6) + p1) →
        Q (some (.int (I1 90 6))) I1 L P 205
      ) ∧ (¬ ((I 90 6) + p1) ≤ 100000 →
        Q (some (.int (-1))) I L P 205
      ))
    ))
  ))
set_option maxRecDepth 20000 in
theorem g_X7_goOn {d : Nat} {Q : zQt} {p1 : Int32} {I : zI} {L : zL} {P : zP} (hP : zPk P) (hv : v_X7_goOn d Q p1 I L P) : zM zm_X7_goOn d 0 0 [.ref 90, .int p1] I L P 205 Q := by
  unfold v_X7_goOn at hv
  refine zM_of (lv0 := [some (.ref 90), some (.int p1)]) (by decide +kernel) (Nat.le_of_ble_eq_true rfl) rfl ?_
  refine z_iload_n dX7_goOn_0 rfl ?_
  refine z_if_lt (tgt := 22) dX7_goOn_1 (by decide) (fun q5 => ?_) (fun q5 => ?_)
  · have hv := hv.1 q5
    refine z_iconst (v := (-1)) dX7_goOn_22 (by decide) ?_
    exact z_ireturn dX7_goOn_23 rfl rfl (Nat.le_refl _) (Nat.le_refl _) hv
  · have hv := hv.2 q5
    refine z_iload_n dX7_goOn_4 rfl ?_
    refine z_sipush (v := 1000) dX7_goOn_5 (by decide) ?_
    refine z_icmp_gt (tgt := 22) dX7_goOn_8 (by decide) (fun q4 => ?_) (fun q4 => ?_)
    · have hv := hv.1 q4
      refine z_iconst (v := (-1)) dX7_goOn_22 (by decide) ?_
      exact z_ireturn dX7_goOn_23 rfl rfl (Nat.le_refl _) (Nat.le_refl _) hv
    · have hv := hv.2 q4
      refine z_aload_n dX7_goOn_11 rfl ?_
      refine z_getI dX7_goOn_12 zf_X7_32 zn_90 zo_90 (fun _ _ _ _ _ => rfl) ?_
      refine z_iload_n dX7_goOn_15 rfl ?_
      refine z_iadd dX7_goOn_16 ?_
      refine z_ldc (v := 100000) dX7_goOn_17 zi_X7_35 ?_
      refine z_icmp_le (tgt := 24) dX7_goOn_19 (by decide) (fun q3 => ?_) (fun q3 => ?_)
      · have hv := hv.1 q3
        refine z_aload_n dX7_goOn_24 rfl ?_
        refine z_dup dX7_goOn_25 rfl ?_
        refine z_getI dX7_goOn_26 zf_X7_32 zn_90 zo_90 (fun _ _ _ _ _ => rfl) ?_
        refine z_iload_n dX7_goOn_29 rfl ?_
        refine z_iadd dX7_goOn_30 ?_
        refine z_putI dX7_goOn_31 zf_X7_32 zn_90 zo_90 (Or.inl rfl) (fun _ _ _ _ _ => rfl) rfl rfl (z_nmI (fun I1 e2 => ?_))
        have hv := hv I1 e2
        refine z_aload_n dX7_goOn_34 rfl ?_
        refine z_getI dX7_goOn_35 zf_X7_32 zn_90 zo_90 (fun _ _ _ _ _ => rfl) ?_
        exact z_ireturn dX7_goOn_38 rfl rfl (Nat.le_refl _) (Nat.le_refl _) hv
      · have hv := hv.2 q3
        refine z_iconst (v := (-1)) dX7_goOn_22 (by decide) ?_
        exact z_ireturn dX7_goOn_23 rfl rfl (Nat.le_refl _) (Nat.le_refl _) hv
abbrev gw_X7_counts (d : Nat) (Q : zQt) (pc : Nat) (lv : zV) (st : List Value) (I : zI) (L : zL) (P : zP) : Prop := zW zm_X7_counts (zRm d 0 0) 0 0 Q pc lv st I L P 205 0 0
def v_X7_counts (d : Nat) (Q : zQt) (p1 : Int32) (p2 : Int32) (I : zI) (L : zL) (P : zP) : Prop :=
  vp_in p1 20 ∧
  ((p2 < (I 94 p1.toNatClampNeg) →
    Q (some (.int 0)) I L P 205
  ) ∧ (¬ p2 < (I 94 p1.toNatClampNeg) →
    (((I 95 p1.toNatClampNeg) = (-1) →
      Q (some (.int 1)) I L P 205
    ) ∧ (¬ (I 95 p1.toNatClampNeg) = (-1) →
      (((I 95 p1.toNatClampNeg) ≤ p2 →
        Q (some (.int 0)) I L P 205
      ) ∧ (¬ (I 95 p1.toNatClampNeg) ≤ p2 →
        Q (some (.int 1)) I L P 205
      ))
    ))
  ))
set_option maxRecDepth 20000 in
theorem g_X7_counts {d : Nat} {Q : zQt} {p1 : Int32} {p2 : Int32} {I : zI} {L : zL} {P : zP} (hP : zPk P) (hv : v_X7_counts d Q p1 p2 I L P) : zM zm_X7_counts d 0 0 [.ref 90, .int p1, .int p2] I L P 205 Q := by
  unfold v_X7_counts at hv
  refine zM_of (lv0 := [some (.ref 90), some (.int p1), some (.int p2)]) (by decide +kernel) (Nat.le_of_ble_eq_true rfl) rfl ?_
  refine z_aload_n dX7_counts_0 rfl ?_
  refine z_getP dX7_counts_1 zf_X7_22 zn_90 zo_90 (fun _ _ _ _ _ => rfl) (hP 90 3 94 zp_90_3) ?_
  refine z_iload_n dX7_counts_4 rfl ?_
  obtain ⟨h1, hv⟩ := hv
  refine z_iaload dX7_counts_5 zn_94 zh_94 h1 ?_
  refine z_iload_n dX7_counts_6 rfl ?_
  refine z_icmp_gt (tgt := 34) dX7_counts_7 (by decide) (fun q4 => ?_) (fun q4 => ?_)
  · have hv := hv.1 q4
    refine z_iconst (v := 0) dX7_counts_34 (by decide) ?_
    exact z_ireturn dX7_counts_35 rfl (by decide) (Nat.le_refl _) (Nat.le_refl _) hv
  · have hv := hv.2 q4
    refine z_aload_n dX7_counts_10 rfl ?_
    refine z_getP dX7_counts_11 zf_X7_25 zn_90 zo_90 (fun _ _ _ _ _ => rfl) (hP 90 4 95 zp_90_4) ?_
    refine z_iload_n dX7_counts_14 rfl ?_
    refine z_iaload dX7_counts_15 zn_95 zh_95 h1 ?_
    refine z_iconst (v := (-1)) dX7_counts_16 (by decide) ?_
    refine z_icmp_eq (tgt := 30) dX7_counts_17 (by decide) (fun q3 => ?_) (fun q3 => ?_)
    · have hv := hv.1 q3
      refine z_iconst (v := 1) dX7_counts_30 (by decide) ?_
      refine z_goto (tgt := 35) dX7_counts_31 (by decide) ?_
      exact z_ireturn dX7_counts_35 rfl (by decide) (Nat.le_refl _) (Nat.le_refl _) hv
    · have hv := hv.2 q3
      refine z_aload_n dX7_counts_20 rfl ?_
      refine z_getP dX7_counts_21 zf_X7_25 zn_90 zo_90 (fun _ _ _ _ _ => rfl) (hP 90 4 95 zp_90_4) ?_
      refine z_iload_n dX7_counts_24 rfl ?_
      refine z_iaload dX7_counts_25 zn_95 zh_95 h1 ?_
      refine z_iload_n dX7_counts_26 rfl ?_
      refine z_icmp_le (tgt := 34) dX7_counts_27 (by decide) (fun q2 => ?_) (fun q2 => ?_)
      · have hv := hv.1 q2
        refine z_iconst (v := 0) dX7_counts_34 (by decide) ?_
        exact z_ireturn dX7_counts_35 rfl (by decide) (Nat.le_refl _) (Nat.le_refl _) hv
      · have hv := hv.2 q2
        refine z_iconst (v := 1) dX7_counts_30 (by decide) ?_
        refine z_goto (tgt := 35) dX7_counts_31 (by decide) ?_
        exact z_ireturn dX7_counts_35 rfl (by decide) (Nat.le_refl _) (Nat.le_refl _) hv
abbrev gw_X7_agree (d : Nat) (Q : zQt) (pc : Nat) (lv : zV) (st : List Value) (I : zI) (L : zL) (P : zP) : Prop := zW zm_X7_agree (zRm d 0 0) 0 0 Q pc lv st I L P 205 0 0
def v_X7_agree_2 (d : Nat) (Q : zQt) (p1 : Int32) (p2 : Int32) (x3 : Int32) (I : zI) (L : zL) (P : zP) : Prop :=
  (((I 90 5) ≤ x3 →
    Q (some (.int 1)) I L P 205
  ) ∧ (¬ (I 90 5) ≤ x3 →
    vp_in x3 20 ∧
    zMi zm_X1_nightOf d [.int p1, .int (I 91 x3.toNatClampNeg)] I L P (fun r6 I2 L3 P4 =>
      zPk P4 ∧
      ((¬ r6 = (I2 92 x3.toNatClampNeg) →
        zMi zm_X7_counts d [.ref 90, .int x3, .int p2] I2 L3 P4 (fun r12 I8 L9 P10 =>
          ((r12 = 0 →
            gw_X7_agree (d + 1) Q 2 [some (.ref 90), some (.int p1), some (.int p2), some (.int (x3 + 1)), none] [] I8 L9 P10
          ) ∧ (¬ r12 = 0 →
            zPk P10 ∧
            ((0 = (I8 93 x3.toNatClampNeg) →
              gw_X7_agree (d + 1) Q 2 [some (.ref 90), some (.int p1), some (.int p2), some (.int (x3 + 1)), none] [] I8 L9 P10
            ) ∧ (¬ 0 = (I8 93 x3.toNatClampNeg) →
              Q (some (.int 0)) I8 L9 P10 205
            ))
          ))
        )
      ) ∧ (r6 = (I2 92 x3.toNatClampNeg) →
        zMi zm_X7_counts d [.ref 90, .int x3, .int p2] I2 L3 P4 (fun r20 I16 L17 P18 =>
          ((r20 = 0 →
            gw_X7_agree (d + 1) Q 2 [some (.ref 90), some (.int p1), some (.int p2), some (.int (x3 + 1)), none] [] I16 L17 P18
          ) ∧ (¬ r20 = 0 →
            zPk P18 ∧
            ((1 = (I16 93 x3.toNatClampNeg) →
              gw_X7_agree (d + 1) Q 2 [some (.ref 90), some (.int p1), some (.int p2), some (.int (x3 + 1)), none] [] I16 L17 P18
            ) ∧ (¬ 1 = (I16 93 x3.toNatClampNeg) →
              Q (some (.int 0)) I16 L17 P18 205
            ))
          ))
        )
      ))
    )
  ))
set_option maxRecDepth 20000 in
theorem g_X7_agree_2 {d : Nat} {Q : zQt} {p1 : Int32} {p2 : Int32} {x3 : Int32} {I : zI} {L : zL} {P : zP} (hP : zPk P) (hv : v_X7_agree_2 d Q p1 p2 x3 I L P) : gw_X7_agree (d + 1) Q 2 [some (.ref 90), some (.int p1), some (.int p2), some (.int x3), none] [] I L P := by
  unfold v_X7_agree_2 at hv
  refine z_iload_n dX7_agree_2 rfl ?_
  refine z_aload_n dX7_agree_3 rfl ?_
  refine z_getI dX7_agree_4 zf_X7_28 zn_90 zo_90 (fun _ _ _ _ _ => rfl) ?_
  refine z_icmp_ge (tgt := 64) dX7_agree_7 (by decide) (fun q25 => ?_) (fun q25 => ?_)
  · have hv := hv.1 q25
    refine z_iconst (v := 1) dX7_agree_64 (by decide) ?_
    exact z_ireturn dX7_agree_65 rfl (by decide) (Nat.le_refl _) (Nat.le_refl _) hv
  · have hv := hv.2 q25
    refine z_iload_n dX7_agree_10 rfl ?_
    refine z_aload_n dX7_agree_11 rfl ?_
    refine z_getP dX7_agree_12 zf_X7_11 zn_90 zo_90 (fun _ _ _ _ _ => rfl) (hP 90 0 91 zp_90_0) ?_
    refine z_iload_n dX7_agree_15 rfl ?_
    obtain ⟨h1, hv⟩ := hv
    refine z_iaload dX7_agree_16 zn_91 zh_91 h1 ?_
    refine z_callS (As := [.int p1, .int (I 91 x3.toNatClampNeg)]) (st := []) dX7_agree_17 zl_X7_36 zs_X1_nightOf rfl rfl (Nat.le_of_ble_eq_true rfl) ⟨Nat.le_refl _, Nat.le_refl _⟩ ⟨Nat.le_refl _, Nat.le_refl _⟩ hv (fun v1 I2 L3 P4 nx1 q5 => ?_)
    obtain ⟨rfl, r6, rfl, hv⟩ := q5
    refine z_aload_n dX7_agree_20 rfl ?_
    obtain ⟨h7, hv⟩ := hv
    refine z_getP dX7_agree_21 zf_X7_15 zn_90 zo_90 (fun _ _ _ _ _ => rfl) (h7 90 1 92 zp_90_1) ?_
    refine z_iload_n dX7_agree_24 rfl ?_
    refine z_iaload dX7_agree_25 zn_92 zh_92 h1 ?_
    refine z_icmp_ne (tgt := 33) dX7_agree_26 (by decide) (fun q24 => ?_) (fun q24 => ?_)
    · have hv := hv.1 q24
      refine z_iconst (v := 0) dX7_agree_33 (by decide) ?_
      refine z_istore (lv2 := [some (.ref 90), some (.int p1), some (.int p2), some (.int x3), some (.int 0)]) dX7_agree_34 (by decide) rfl rfl ?_
      refine z_aload_n dX7_agree_36 rfl ?_
      refine z_iload_n dX7_agree_37 rfl ?_
      refine z_iload_n dX7_agree_38 rfl ?_
      refine z_callV (As := [.int x3, .int p2]) (st := []) dX7_agree_39 zl_X7_42 zv_X7_counts (by decide) rfl zn_90 zo_90 rfl rfl (Nat.le_of_ble_eq_true rfl) ⟨Nat.le_refl _, Nat.le_refl _⟩ ⟨Nat.le_refl _, Nat.le_refl _⟩ hv (fun v1 I8 L9 P10 nx1 q11 => ?_)
      obtain ⟨rfl, r12, rfl, hv⟩ := q11
      refine z_if_eq (tgt := 58) dX7_agree_42 (by decide) (fun q15 => ?_) (fun q15 => ?_)
      · have hv := hv.1 q15
        refine z_iinc (v2 := x3 + 1) (lv2 := [some (.ref 90), some (.int p1), some (.int p2), some (.int (x3 + 1)), some (.int 0)]) dX7_agree_58 rfl (by rfl) (by decide) rfl rfl ?_
        refine z_goto (tgt := 2) dX7_agree_61 (by decide) ?_
        exact z_sub (by exact ⟨rfl, ⟨rfl, ⟨rfl, ⟨rfl, trivial⟩⟩⟩⟩) hv
      · have hv := hv.2 q15
        refine z_iload dX7_agree_45 rfl ?_
        refine z_aload_n dX7_agree_47 rfl ?_
        obtain ⟨h13, hv⟩ := hv
        refine z_getP dX7_agree_48 zf_X7_18 zn_90 zo_90 (fun _ _ _ _ _ => rfl) (h13 90 2 93 zp_90_2) ?_
        refine z_iload_n dX7_agree_51 rfl ?_
        refine z_zaload dX7_agree_52 zn_93 zh_93 h1 ?_
        refine z_icmp_eq (tgt := 58) dX7_agree_53 (by decide) (fun q14 => ?_) (fun q14 => ?_)
        · have hv := hv.1 q14
          refine z_iinc (v2 := x3 + 1) (lv2 := [some (.ref 90), some (.int p1), some (.int p2), some (.int (x3 + 1)), some (.int 0)]) dX7_agree_58 rfl (by rfl) (by decide) rfl rfl ?_
          refine z_goto (tgt := 2) dX7_agree_61 (by decide) ?_
          exact z_sub (by exact ⟨rfl, ⟨rfl, ⟨rfl, ⟨rfl, trivial⟩⟩⟩⟩) hv
        · have hv := hv.2 q14
          refine z_iconst (v := 0) dX7_agree_56 (by decide) ?_
          exact z_ireturn dX7_agree_57 rfl (by decide) (Nat.le_refl _) (Nat.le_refl _) hv
    · have hv := hv.2 q24
      refine z_iconst (v := 1) dX7_agree_29 (by decide) ?_
      refine z_goto (tgt := 34) dX7_agree_30 (by decide) ?_
      refine z_istore (lv2 := [some (.ref 90), some (.int p1), some (.int p2), some (.int x3), some (.int 1)]) dX7_agree_34 (by decide) rfl rfl ?_
      refine z_aload_n dX7_agree_36 rfl ?_
      refine z_iload_n dX7_agree_37 rfl ?_
      refine z_iload_n dX7_agree_38 rfl ?_
      refine z_callV (As := [.int x3, .int p2]) (st := []) dX7_agree_39 zl_X7_42 zv_X7_counts (by decide) rfl zn_90 zo_90 rfl rfl (Nat.le_of_ble_eq_true rfl) ⟨Nat.le_refl _, Nat.le_refl _⟩ ⟨Nat.le_refl _, Nat.le_refl _⟩ hv (fun v1 I16 L17 P18 nx1 q19 => ?_)
      obtain ⟨rfl, r20, rfl, hv⟩ := q19
      refine z_if_eq (tgt := 58) dX7_agree_42 (by decide) (fun q23 => ?_) (fun q23 => ?_)
      · have hv := hv.1 q23
        refine z_iinc (v2 := x3 + 1) (lv2 := [some (.ref 90), some (.int p1), some (.int p2), some (.int (x3 + 1)), some (.int 1)]) dX7_agree_58 rfl (by rfl) (by decide) rfl rfl ?_
        refine z_goto (tgt := 2) dX7_agree_61 (by decide) ?_
        exact z_sub (by exact ⟨rfl, ⟨rfl, ⟨rfl, ⟨rfl, trivial⟩⟩⟩⟩) hv
      · have hv := hv.2 q23
        refine z_iload dX7_agree_45 rfl ?_
        refine z_aload_n dX7_agree_47 rfl ?_
        obtain ⟨h21, hv⟩ := hv
        refine z_getP dX7_agree_48 zf_X7_18 zn_90 zo_90 (fun _ _ _ _ _ => rfl) (h21 90 2 93 zp_90_2) ?_
        refine z_iload_n dX7_agree_51 rfl ?_
        refine z_zaload dX7_agree_52 zn_93 zh_93 h1 ?_
        refine z_icmp_eq (tgt := 58) dX7_agree_53 (by decide) (fun q22 => ?_) (fun q22 => ?_)
        · have hv := hv.1 q22
          refine z_iinc (v2 := x3 + 1) (lv2 := [some (.ref 90), some (.int p1), some (.int p2), some (.int (x3 + 1)), some (.int 1)]) dX7_agree_58 rfl (by rfl) (by decide) rfl rfl ?_
          refine z_goto (tgt := 2) dX7_agree_61 (by decide) ?_
          exact z_sub (by exact ⟨rfl, ⟨rfl, ⟨rfl, ⟨rfl, trivial⟩⟩⟩⟩) hv
        · have hv := hv.2 q22
          refine z_iconst (v := 0) dX7_agree_56 (by decide) ?_
          exact z_ireturn dX7_agree_57 rfl (by decide) (Nat.le_refl _) (Nat.le_refl _) hv
def v_X7_agree (d : Nat) (Q : zQt) (p1 : Int32) (p2 : Int32) (I : zI) (L : zL) (P : zP) : Prop :=
  gw_X7_agree (d + 1) Q 2 [some (.ref 90), some (.int p1), some (.int p2), some (.int 0), none] [] I L P
set_option maxRecDepth 20000 in
theorem g_X7_agree {d : Nat} {Q : zQt} {p1 : Int32} {p2 : Int32} {I : zI} {L : zL} {P : zP} (hP : zPk P) (hv : v_X7_agree d Q p1 p2 I L P) : zM zm_X7_agree (d + 1) 0 0 [.ref 90, .int p1, .int p2] I L P 205 Q := by
  unfold v_X7_agree at hv
  refine zM_of (lv0 := [some (.ref 90), some (.int p1), some (.int p2), none, none]) (by decide +kernel) (Nat.le_of_ble_eq_true rfl) rfl ?_
  refine z_iconst (v := 0) dX7_agree_0 (by decide) ?_
  refine z_istore_n (lv2 := [some (.ref 90), some (.int p1), some (.int p2), some (.int 0), none]) dX7_agree_1 (by decide) rfl rfl ?_
  exact hv
abbrev gw_X8_take (d : Nat) (Q : zQt) (pc : Nat) (lv : zV) (st : List Value) (I : zI) (L : zL) (P : zP) : Prop := zW zm_X8_take (zRm d 0 0) 0 0 Q pc lv st I L P 205 0 0
def v_X8_take (d : Nat) (Q : zQt) (p1 : Int32) (p2 : Int32) (p3 : Int32) (p4 : Int32) (p5 : Int32) (I : zI) (L : zL) (P : zP) : Prop :=
  ((((I 1 1) + 20) ≤ 1600 →
    zMv zm_X8_put d [.ref 1, .int p1] I L P (fun I1 L2 P3 =>
      zMv zm_X8_put d [.ref 1, .int p2] I1 L2 P3 (fun I6 L7 P8 =>
        zMv zm_X8_put d [.ref 1, .int p3] I6 L7 P8 (fun I11 L12 P13 =>
          zMv zm_X8_put d [.ref 1, .int p4] I11 L12 P13 (fun I16 L17 P18 =>
            zMv zm_X8_put d [.ref 1, .int p5] I16 L17 P18 (fun I21 L22 P23 =>
              Q (some (.int (I21 1 1))) I21 L22 P23 205
            )
          )
        )
      )
    )
  ) ∧ (¬ ((I 1 1) + 20) ≤ 1600 →
    Q (some (.int (-1))) I L P 205
  ))
set_option maxRecDepth 20000 in
theorem g_X8_take {d : Nat} {Q : zQt} {p1 : Int32} {p2 : Int32} {p3 : Int32} {p4 : Int32} {p5 : Int32} {I : zI} {L : zL} {P : zP} (hP : zPk P) (hv : v_X8_take d Q p1 p2 p3 p4 p5 I L P) : zM zm_X8_take (d + 1) 0 0 [.ref 1, .int p1, .int p2, .int p3, .int p4, .int p5] I L P 205 Q := by
  unfold v_X8_take at hv
  refine zM_of (lv0 := [some (.ref 1), some (.int p1), some (.int p2), some (.int p3), some (.int p4), some (.int p5)]) (by decide +kernel) (Nat.le_of_ble_eq_true rfl) rfl ?_
  refine z_aload_n dX8_take_0 rfl ?_
  refine z_getI dX8_take_1 zf_X8_15 zn_1 zo_1 (fun _ _ _ _ _ => rfl) ?_
  refine z_bipush (v := 20) dX8_take_4 (by decide) ?_
  refine z_iadd dX8_take_6 ?_
  refine z_sipush (v := 1600) dX8_take_7 (by decide) ?_
  refine z_icmp_le (tgt := 15) dX8_take_10 (by decide) (fun q26 => ?_) (fun q26 => ?_)
  · have hv := hv.1 q26
    refine z_aload_n dX8_take_15 rfl ?_
    refine z_iload_n dX8_take_16 rfl ?_
    refine z_callV (As := [.int p1]) (st := []) dX8_take_17 zl_X8_19 zv_X8_put (by decide) rfl zn_1 zo_1 rfl rfl (Nat.le_of_ble_eq_true rfl) ⟨Nat.le_refl _, Nat.le_refl _⟩ ⟨Nat.le_refl _, Nat.le_refl _⟩ hv (fun v1 I1 L2 P3 nx1 q4 => ?_)
    obtain ⟨rfl, rfl, hv⟩ := q4
    refine z_aload_n dX8_take_20 rfl ?_
    refine z_iload_n dX8_take_21 rfl ?_
    refine z_callV (As := [.int p2]) (st := []) dX8_take_22 zl_X8_19 zv_X8_put (by decide) rfl zn_1 zo_1 rfl rfl (Nat.le_of_ble_eq_true rfl) ⟨Nat.le_refl _, Nat.le_refl _⟩ ⟨Nat.le_refl _, Nat.le_refl _⟩ hv (fun v1 I6 L7 P8 nx1 q9 => ?_)
    obtain ⟨rfl, rfl, hv⟩ := q9
    refine z_aload_n dX8_take_25 rfl ?_
    refine z_iload_n dX8_take_26 rfl ?_
    refine z_callV (As := [.int p3]) (st := []) dX8_take_27 zl_X8_19 zv_X8_put (by decide) rfl zn_1 zo_1 rfl rfl (Nat.le_of_ble_eq_true rfl) ⟨Nat.le_refl _, Nat.le_refl _⟩ ⟨Nat.le_refl _, Nat.le_refl _⟩ hv (fun v1 I11 L12 P13 nx1 q14 => ?_)
    obtain ⟨rfl, rfl, hv⟩ := q14
    refine z_aload_n dX8_take_30 rfl ?_
    refine z_iload dX8_take_31 rfl ?_
    refine z_callV (As := [.int p4]) (st := []) dX8_take_33 zl_X8_19 zv_X8_put (by decide) rfl zn_1 zo_1 rfl rfl (Nat.le_of_ble_eq_true rfl) ⟨Nat.le_refl _, Nat.le_refl _⟩ ⟨Nat.le_refl _, Nat.le_refl _⟩ hv (fun v1 I16 L17 P18 nx1 q19 => ?_)
    obtain ⟨rfl, rfl, hv⟩ := q19
    refine z_aload_n dX8_take_36 rfl ?_
    refine z_iload dX8_take_37 rfl ?_
    refine z_callV (As := [.int p5]) (st := []) dX8_take_39 zl_X8_19 zv_X8_put (by decide) rfl zn_1 zo_1 rfl rfl (Nat.le_of_ble_eq_true rfl) ⟨Nat.le_refl _, Nat.le_refl _⟩ ⟨Nat.le_refl _, Nat.le_refl _⟩ hv (fun v1 I21 L22 P23 nx1 q24 => ?_)
    obtain ⟨rfl, rfl, hv⟩ := q24
    refine z_aload_n dX8_take_42 rfl ?_
    refine z_getI dX8_take_43 zf_X8_15 zn_1 zo_1 (fun _ _ _ _ _ => rfl) ?_
    exact z_ireturn dX8_take_46 rfl rfl (Nat.le_refl _) (Nat.le_refl _) hv
  · have hv := hv.2 q26
    refine z_iconst (v := (-1)) dX8_take_13 (by decide) ?_
    exact z_ireturn dX8_take_14 rfl rfl (Nat.le_refl _) (Nat.le_refl _) hv
abbrev gw_X8_put (d : Nat) (Q : zQt) (pc : Nat) (lv : zV) (st : List Value) (I : zI) (L : zL) (P : zP) : Prop := zW zm_X8_put (zRm d 0 0) 0 0 Q pc lv st I L P 205 0 0
def v_X8_put_3 (d : Nat) (Q : zQt) (p1 : Int32) (x2 : Int32) (I : zI) (L : zL) (P : zP) : Prop :=
  ((x2 < 0 →
    Q none I L P 205
  ) ∧ (¬ x2 < 0 →
    ((1600 ≤ (I 1 1) →
      Q none I L P 205
    ) ∧ (¬ 1600 ≤ (I 1 1) →
      vp_in (I 1 1) 1600 ∧
      ∀ I3 : zI, I3 = zuI I 2 (I 1 1).toNatClampNeg (((p1 >>> (x2 &&& 31) : Int32) : Int32).toInt8.toInt32) →
      ∀ I4 : zI, I4 = zuI I3 1 1 ((I3 1 1) + 1) →
      gw_X8_put d Q 3 [some (.ref 1), some (.int p1), some (.int (x2 + (-8)))] [] I4 L P
    ))
  ))
set_option maxRecDepth 20000 in
theorem g_X8_put_3 {d : Nat} {Q : zQt} {p1 : Int32} {x2 : Int32} {I : zI} {L : zL} {P : zP} (hP : zPk P) (hv : v_X8_put_3 d Q p1 x2 I L P) : gw_X8_put d Q 3 [some (.ref 1), some (.int p1), some (.int x2)] [] I L P := by
  unfold v_X8_put_3 at hv
  refine z_iload_n dX8_put_3 rfl ?_
  refine z_if_lt (tgt := 46) dX8_put_4 (by decide) (fun q7 => ?_) (fun q7 => ?_)
  · have hv := hv.1 q7
    exact z_return dX8_put_46 rfl (Nat.le_refl _) (Nat.le_refl _) hv
  · have hv := hv.2 q7
    refine z_aload_n dX8_put_7 rfl ?_
    refine z_getI dX8_put_8 zf_X8_15 zn_1 zo_1 (fun _ _ _ _ _ => rfl) ?_
    refine z_sipush (v := 1600) dX8_put_11 (by decide) ?_
    refine z_icmp_ge (tgt := 46) dX8_put_14 (by decide) (fun q6 => ?_) (fun q6 => ?_)
    · have hv := hv.1 q6
      exact z_return dX8_put_46 rfl (Nat.le_refl _) (Nat.le_refl _) hv
    · have hv := hv.2 q6
      refine z_aload_n dX8_put_17 rfl ?_
      refine z_getP dX8_put_18 zf_X8_11 zn_1 zo_1 (fun _ _ _ _ _ => rfl) (hP 1 0 2 zp_1_0) ?_
      refine z_aload_n dX8_put_21 rfl ?_
      refine z_getI dX8_put_22 zf_X8_15 zn_1 zo_1 (fun _ _ _ _ _ => rfl) ?_
      refine z_iload_n dX8_put_25 rfl ?_
      refine z_iload_n dX8_put_26 rfl ?_
      refine z_ishr dX8_put_27 ?_
      refine z_i2b dX8_put_28 ?_
      obtain ⟨h1, hv⟩ := hv
      refine z_bastore dX8_put_29 zn_2 zh_2 h1 (pk_nb _) (z_nmI (fun I3 e2 => ?_))
      have hv := hv I3 e2
      refine z_aload_n dX8_put_30 rfl ?_
      refine z_dup dX8_put_31 rfl ?_
      refine z_getI dX8_put_32 zf_X8_15 zn_1 zo_1 (fun _ _ _ _ _ => rfl) ?_
      refine z_iconst (v := 1) dX8_put_35 (by decide) ?_
      refine z_iadd dX8_put_36 ?_
      refine z_putI dX8_put_37 zf_X8_15 zn_1 zo_1 (Or.inl rfl) (fun _ _ _ _ _ => rfl) rfl rfl (z_nmI (fun I4 e5 => ?_))
      have hv := hv I4 e5
      refine z_iinc (v2 := x2 + (-8)) (lv2 := [some (.ref 1), some (.int p1), some (.int (x2 + (-8)))]) dX8_put_40 rfl (by rfl) (by decide) rfl rfl ?_
      refine z_goto (tgt := 3) dX8_put_43 (by decide) ?_
      exact hv
def v_X8_put (d : Nat) (Q : zQt) (p1 : Int32) (I : zI) (L : zL) (P : zP) : Prop :=
  gw_X8_put d Q 3 [some (.ref 1), some (.int p1), some (.int 24)] [] I L P
set_option maxRecDepth 20000 in
theorem g_X8_put {d : Nat} {Q : zQt} {p1 : Int32} {I : zI} {L : zL} {P : zP} (hP : zPk P) (hv : v_X8_put d Q p1 I L P) : zM zm_X8_put d 0 0 [.ref 1, .int p1] I L P 205 Q := by
  unfold v_X8_put at hv
  refine zM_of (lv0 := [some (.ref 1), some (.int p1), none]) (by decide +kernel) (Nat.le_of_ble_eq_true rfl) rfl ?_
  refine z_bipush (v := 24) dX8_put_0 (by decide) ?_
  refine z_istore_n (lv2 := [some (.ref 1), some (.int p1), some (.int 24)]) dX8_put_2 (by decide) rfl rfl ?_
  exact hv
abbrev gw_X8_at (d : Nat) (Q : zQt) (pc : Nat) (lv : zV) (st : List Value) (I : zI) (L : zL) (P : zP) : Prop := zW zm_X8_at (zRm d 0 0) 0 0 Q pc lv st I L P 205 0 0
def v_X8_at (d : Nat) (Q : zQt) (p1 : Int32) (I : zI) (L : zL) (P : zP) : Prop :=
  ((p1 < 0 →
    Q (some (.int (-1))) I L P 205
  ) ∧ (¬ p1 < 0 →
    (((I 1 1) ≤ p1 →
      Q (some (.int (-1))) I L P 205
    ) ∧ (¬ (I 1 1) ≤ p1 →
      vp_in p1 1600 ∧
      Q (some (.int ((I 2 p1.toNatClampNeg) &&& 255 : Int32))) I L P 205
    ))
  ))
set_option maxRecDepth 20000 in
theorem g_X8_at {d : Nat} {Q : zQt} {p1 : Int32} {I : zI} {L : zL} {P : zP} (hP : zPk P) (hv : v_X8_at d Q p1 I L P) : zM zm_X8_at d 0 0 [.ref 1, .int p1] I L P 205 Q := by
  unfold v_X8_at at hv
  refine zM_of (lv0 := [some (.ref 1), some (.int p1)]) (by decide +kernel) (Nat.le_of_ble_eq_true rfl) rfl ?_
  refine z_iload_n dX8_at_0 rfl ?_
  refine z_if_lt (tgt := 25) dX8_at_1 (by decide) (fun q3 => ?_) (fun q3 => ?_)
  · have hv := hv.1 q3
    refine z_iconst (v := (-1)) dX8_at_25 (by decide) ?_
    exact z_ireturn dX8_at_26 rfl rfl (Nat.le_refl _) (Nat.le_refl _) hv
  · have hv := hv.2 q3
    refine z_iload_n dX8_at_4 rfl ?_
    refine z_aload_n dX8_at_5 rfl ?_
    refine z_getI dX8_at_6 zf_X8_15 zn_1 zo_1 (fun _ _ _ _ _ => rfl) ?_
    refine z_icmp_ge (tgt := 25) dX8_at_9 (by decide) (fun q2 => ?_) (fun q2 => ?_)
    · have hv := hv.1 q2
      refine z_iconst (v := (-1)) dX8_at_25 (by decide) ?_
      exact z_ireturn dX8_at_26 rfl rfl (Nat.le_refl _) (Nat.le_refl _) hv
    · have hv := hv.2 q2
      refine z_aload_n dX8_at_12 rfl ?_
      refine z_getP dX8_at_13 zf_X8_11 zn_1 zo_1 (fun _ _ _ _ _ => rfl) (hP 1 0 2 zp_1_0) ?_
      refine z_iload_n dX8_at_16 rfl ?_
      obtain ⟨h1, hv⟩ := hv
      refine z_baload dX8_at_17 zn_2 zh_2 h1 ?_
      refine z_sipush (v := 255) dX8_at_18 (by decide) ?_
      refine z_iand dX8_at_21 ?_
      refine z_goto (tgt := 26) dX8_at_22 (by decide) ?_
      exact z_ireturn dX8_at_26 rfl rfl (Nat.le_refl _) (Nat.le_refl _) hv
abbrev gw_X10_open (d : Nat) (Q : zQt) (pc : Nat) (lv : zV) (st : List Value) (I : zI) (L : zL) (P : zP) : Prop := zW zm_X10_open (zRm d 0 0) 0 0 Q pc lv st I L P 205 0 0
def v_X10_open_12 (d : Nat) (Q : zQt) (a : Nat) (p1 : Nat) (x2 : Int32) (x3 : Int32) (I : zI) (L : zL) (P : zP) : Prop :=
  (p1 < 205 ∧ (zsh p1).1 = 2) ∧
  zMi zm_X2_worldCount d [.ref p1] I L P (fun r8 I4 L5 P6 =>
    ((r8 ≤ x3 →
      gw_X10_open (d + 1) Q 2 [some (.ref a), some (.ref p1), some (.int (x2 + 1)), none] [] I4 L5 P6
    ) ∧ (¬ r8 ≤ x3 →
      (a < 205 ∧ (zsh a).1 = 9) ∧
      ∃ b10 : Nat, P6 a 0 = some b10 ∧
      ∃ n13, (b10 < 205 ∧ zsh b10 = (104, n13)) ∧
      vp_in x2 n13 ∧
      ∃ b15 : Nat, P6 b10 x2.toNatClampNeg = some b15 ∧
      ∃ b17 : Nat, P6 p1 9 = some b17 ∧
      ∃ n20, (b17 < 205 ∧ zsh b17 = (100, n20)) ∧
      vp_in x2 n20 ∧
      ∃ n23, (b15 < 205 ∧ zsh b15 = (100, n23)) ∧
      vp_in x3 n23 ∧
      ∀ I26 : zI, I26 = zuI I4 b15 x3.toNatClampNeg (x3 &&& (I4 b17 x2.toNatClampNeg) : Int32) →
      gw_X10_open (d + 1) Q 12 [some (.ref a), some (.ref p1), some (.int x2), some (.int (x3 + 1))] [] I26 L5 P6
    ))
  )
set_option maxRecDepth 20000 in
theorem g_X10_open_12 {d : Nat} {Q : zQt} {a : Nat} {p1 : Nat} {x2 : Int32} {x3 : Int32} {I : zI} {L : zL} {P : zP} (hP : zPk P) (hv : v_X10_open_12 d Q a p1 x2 x3 I L P) : gw_X10_open (d + 1) Q 12 [some (.ref a), some (.ref p1), some (.int x2), some (.int x3)] [] I L P := by
  unfold v_X10_open_12 at hv
  refine z_iload_n dX10_open_12 rfl ?_
  refine z_aload_n dX10_open_13 rfl ?_
  obtain ⟨h3, hv⟩ := hv
  refine z_callV (As := []) (st := [.int x3]) dX10_open_14 zl_X10_26 zv_X2_worldCount (by decide) rfl h3.1 h3.2 rfl rfl (Nat.le_of_ble_eq_true rfl) ⟨Nat.le_refl _, Nat.le_refl _⟩ ⟨Nat.le_refl _, Nat.le_refl _⟩ hv (fun v1 I4 L5 P6 nx1 q7 => ?_)
  obtain ⟨rfl, r8, rfl, hv⟩ := q7
  refine z_icmp_ge (tgt := 42) dX10_open_17 (by decide) (fun q27 => ?_) (fun q27 => ?_)
  · have hv := hv.1 q27
    refine z_iinc (v2 := x2 + 1) (lv2 := [some (.ref a), some (.ref p1), some (.int (x2 + 1)), some (.int x3)]) dX10_open_42 rfl (by rfl) (by decide) rfl rfl ?_
    refine z_goto (tgt := 2) dX10_open_45 (by decide) ?_
    exact z_sub (by exact ⟨rfl, ⟨rfl, ⟨rfl, trivial⟩⟩⟩) hv
  · have hv := hv.2 q27
    refine z_aload_n dX10_open_20 rfl ?_
    obtain ⟨h9, hv⟩ := hv
    obtain ⟨b10, h11, hv⟩ := hv
    refine z_getP dX10_open_21 zf_X10_13 h9.1 h9.2 (fun _ _ _ _ _ => rfl) h11 ?_
    refine z_iload_n dX10_open_24 rfl ?_
    obtain ⟨n13, h12, hv⟩ := hv
    obtain ⟨h14, hv⟩ := hv
    obtain ⟨b15, h16, hv⟩ := hv
    refine z_aaload dX10_open_25 h12.1 h12.2 (Or.inl rfl) h14 h16 ?_
    refine z_iload_n dX10_open_26 rfl ?_
    refine z_iload_n dX10_open_27 rfl ?_
    refine z_aload_n dX10_open_28 rfl ?_
    obtain ⟨b17, h18, hv⟩ := hv
    refine z_getP dX10_open_29 zf_X10_30 h3.1 h3.2 (fun _ _ _ _ _ => rfl) h18 ?_
    refine z_iload_n dX10_open_32 rfl ?_
    obtain ⟨n20, h19, hv⟩ := hv
    obtain ⟨h21, hv⟩ := hv
    refine z_iaload dX10_open_33 h19.1 h19.2 h21 ?_
    refine z_iand dX10_open_34 ?_
    obtain ⟨n23, h22, hv⟩ := hv
    obtain ⟨h24, hv⟩ := hv
    refine z_iastore dX10_open_35 h22.1 h22.2 h24 (z_nmI (fun I26 e25 => ?_))
    have hv := hv I26 e25
    refine z_iinc (v2 := x3 + 1) (lv2 := [some (.ref a), some (.ref p1), some (.int x2), some (.int (x3 + 1))]) dX10_open_36 rfl (by rfl) (by decide) rfl rfl ?_
    refine z_goto (tgt := 12) dX10_open_39 (by decide) ?_
    exact hv
def v_X10_open_2 (d : Nat) (Q : zQt) (a : Nat) (p1 : Nat) (x2 : Int32) (I : zI) (L : zL) (P : zP) : Prop :=
  (p1 < 205 ∧ (zsh p1).1 = 2) ∧
  (((I p1 0) ≤ x2 →
    Q none I L P 205
  ) ∧ (¬ (I p1 0) ≤ x2 →
    gw_X10_open (d + 1) Q 12 [some (.ref a), some (.ref p1), some (.int x2), some (.int 0)] [] I L P
  ))
set_option maxRecDepth 20000 in
theorem g_X10_open_2 {d : Nat} {Q : zQt} {a : Nat} {p1 : Nat} {x2 : Int32} {I : zI} {L : zL} {P : zP} (hP : zPk P) (hv : v_X10_open_2 d Q a p1 x2 I L P) : gw_X10_open (d + 1) Q 2 [some (.ref a), some (.ref p1), some (.int x2), none] [] I L P := by
  unfold v_X10_open_2 at hv
  refine z_iload_n dX10_open_2 rfl ?_
  refine z_aload_n dX10_open_3 rfl ?_
  obtain ⟨h1, hv⟩ := hv
  refine z_getI dX10_open_4 zf_X10_22 h1.1 h1.2 (fun _ _ _ _ _ => rfl) ?_
  refine z_icmp_ge (tgt := 48) dX10_open_7 (by decide) (fun q2 => ?_) (fun q2 => ?_)
  · have hv := hv.1 q2
    exact z_return dX10_open_48 rfl (Nat.le_refl _) (Nat.le_refl _) hv
  · have hv := hv.2 q2
    refine z_iconst (v := 0) dX10_open_10 (by decide) ?_
    refine z_istore_n (lv2 := [some (.ref a), some (.ref p1), some (.int x2), some (.int 0)]) dX10_open_11 (by decide) rfl rfl ?_
    exact hv
def v_X10_open (d : Nat) (Q : zQt) (a : Nat) (p1 : Nat) (I : zI) (L : zL) (P : zP) : Prop :=
  gw_X10_open (d + 1) Q 2 [some (.ref a), some (.ref p1), some (.int 0), none] [] I L P
set_option maxRecDepth 20000 in
theorem g_X10_open {d : Nat} {Q : zQt} {a : Nat} {p1 : Nat} {I : zI} {L : zL} {P : zP} (hP : zPk P) (hv : v_X10_open d Q a p1 I L P) : zM zm_X10_open (d + 1) 0 0 [.ref a, .ref p1] I L P 205 Q := by
  unfold v_X10_open at hv
  refine zM_of (lv0 := [some (.ref a), some (.ref p1), none, none]) (by decide +kernel) (Nat.le_of_ble_eq_true rfl) rfl ?_
  refine z_iconst (v := 0) dX10_open_0 (by decide) ?_
  refine z_istore_n (lv2 := [some (.ref a), some (.ref p1), some (.int 0), none]) dX10_open_1 (by decide) rfl rfl ?_
  exact hv
abbrev gw_X10_of (d : Nat) (Q : zQt) (pc : Nat) (lv : zV) (st : List Value) (I : zI) (L : zL) (P : zP) : Prop := zW zm_X10_of (zRm d 0 0) 0 0 Q pc lv st I L P 205 0 0
def v_X10_of (d : Nat) (Q : zQt) (a : Nat) (p1 : Int32) (I : zI) (L : zL) (P : zP) : Prop :=
  (a < 205 ∧ (zsh a).1 = 9) ∧
  ∃ b2 : Nat, P a 0 = some b2 ∧
  ((p1 < 0 →
    ∃ n5, (b2 < 205 ∧ zsh b2 = (104, n5)) ∧
    vp_in 0 n5 ∧
    ∃ b7 : Nat, P b2 0 = some b7 ∧
    Q (some (.ref b7)) I L P 205
  ) ∧ (¬ p1 < 0 →
    ((8 ≤ p1 →
      ∃ n10, (b2 < 205 ∧ zsh b2 = (104, n10)) ∧
      vp_in 0 n10 ∧
      ∃ b12 : Nat, P b2 0 = some b12 ∧
      Q (some (.ref b12)) I L P 205
    ) ∧ (¬ 8 ≤ p1 →
      ∃ n15, (b2 < 205 ∧ zsh b2 = (104, n15)) ∧
      vp_in p1 n15 ∧
      ∃ b17 : Nat, P b2 p1.toNatClampNeg = some b17 ∧
      Q (some (.ref b17)) I L P 205
    ))
  ))
set_option maxRecDepth 20000 in
theorem g_X10_of {d : Nat} {Q : zQt} {a : Nat} {p1 : Int32} {I : zI} {L : zL} {P : zP} (hP : zPk P) (hv : v_X10_of d Q a p1 I L P) : zM zm_X10_of d 0 0 [.ref a, .int p1] I L P 205 Q := by
  unfold v_X10_of at hv
  refine zM_of (lv0 := [some (.ref a), some (.int p1)]) (by decide +kernel) (Nat.le_of_ble_eq_true rfl) rfl ?_
  refine z_aload_n dX10_of_0 rfl ?_
  obtain ⟨h1, hv⟩ := hv
  obtain ⟨b2, h3, hv⟩ := hv
  refine z_getP dX10_of_1 zf_X10_13 h1.1 h1.2 (fun _ _ _ _ _ => rfl) h3 ?_
  refine z_iload_n dX10_of_4 rfl ?_
  refine z_if_lt (tgt := 18) dX10_of_5 (by decide) (fun q20 => ?_) (fun q20 => ?_)
  · have hv := hv.1 q20
    refine z_iconst (v := 0) dX10_of_18 (by decide) ?_
    obtain ⟨n5, h4, hv⟩ := hv
    obtain ⟨h6, hv⟩ := hv
    obtain ⟨b7, h8, hv⟩ := hv
    refine z_aaload dX10_of_19 h4.1 h4.2 (Or.inl rfl) h6 h8 ?_
    exact z_areturn dX10_of_20 rfl (Nat.le_refl _) (Nat.le_refl _) hv
  · have hv := hv.2 q20
    refine z_iload_n dX10_of_8 rfl ?_
    refine z_bipush (v := 8) dX10_of_9 (by decide) ?_
    refine z_icmp_ge (tgt := 18) dX10_of_11 (by decide) (fun q19 => ?_) (fun q19 => ?_)
    · have hv := hv.1 q19
      refine z_iconst (v := 0) dX10_of_18 (by decide) ?_
      obtain ⟨n10, h9, hv⟩ := hv
      obtain ⟨h11, hv⟩ := hv
      obtain ⟨b12, h13, hv⟩ := hv
      refine z_aaload dX10_of_19 h9.1 h9.2 (Or.inl rfl) h11 h13 ?_
      exact z_areturn dX10_of_20 rfl (Nat.le_refl _) (Nat.le_refl _) hv
    · have hv := hv.2 q19
      refine z_iload_n dX10_of_14 rfl ?_
      refine z_goto (tgt := 19) dX10_of_15 (by decide) ?_
      obtain ⟨n15, h14, hv⟩ := hv
      obtain ⟨h16, hv⟩ := hv
      obtain ⟨b17, h18, hv⟩ := hv
      refine z_aaload dX10_of_19 h14.1 h14.2 (Or.inl rfl) h16 h18 ?_
      exact z_areturn dX10_of_20 rfl (Nat.le_refl _) (Nat.le_refl _) hv
abbrev gw_X10_areAlike (d : Nat) (Q : zQt) (pc : Nat) (lv : zV) (st : List Value) (I : zI) (L : zL) (P : zP) : Prop := zW zm_X10_areAlike (zRm d 0 0) 0 0 Q pc lv st I L P 205 0 0
def v_X10_areAlike (d : Nat) (Q : zQt) (a : Nat) (p1 : Int32) (p2 : Int32) (p3 : Int32) (I : zI) (L : zL) (P : zP) : Prop :=
  (a < 205 ∧ (zsh a).1 = 9) ∧
  zMr zm_X10_of d [.ref a, .int p1] I L P (fun r6 I2 L3 P4 =>
    ∃ n8, (r6 < 205 ∧ zsh r6 = (100, n8)) ∧
    vp_in p2 n8 ∧
    zMr zm_X10_of d [.ref a, .int p1] I2 L3 P4 (fun r14 I10 L11 P12 =>
      ∃ n16, (r14 < 205 ∧ zsh r14 = (100, n16)) ∧
      vp_in p3 n16 ∧
      ((¬ (I2 r6 p2.toNatClampNeg) = (I10 r14 p3.toNatClampNeg) →
        Q (some (.int 0)) I10 L11 P12 205
      ) ∧ ((I2 r6 p2.toNatClampNeg) = (I10 r14 p3.toNatClampNeg) →
        Q (some (.int 1)) I10 L11 P12 205
      ))
    )
  )
set_option maxRecDepth 20000 in
theorem g_X10_areAlike {d : Nat} {Q : zQt} {a : Nat} {p1 : Int32} {p2 : Int32} {p3 : Int32} {I : zI} {L : zL} {P : zP} (hP : zPk P) (hv : v_X10_areAlike d Q a p1 p2 p3 I L P) : zM zm_X10_areAlike (d + 1) 0 0 [.ref a, .int p1, .int p2, .int p3] I L P 205 Q := by
  unfold v_X10_areAlike at hv
  refine zM_of (lv0 := [some (.ref a), some (.int p1), some (.int p2), some (.int p3)]) (by decide +kernel) (Nat.le_of_ble_eq_true rfl) rfl ?_
  refine z_aload_n dX10_areAlike_0 rfl ?_
  refine z_iload_n dX10_areAlike_1 rfl ?_
  obtain ⟨h1, hv⟩ := hv
  refine z_callV (As := [.int p1]) (st := []) dX10_areAlike_2 zl_X10_33 zv_X10_of (by decide) rfl h1.1 h1.2 rfl rfl (Nat.le_of_ble_eq_true rfl) ⟨Nat.le_refl _, Nat.le_refl _⟩ ⟨Nat.le_refl _, Nat.le_refl _⟩ hv (fun v1 I2 L3 P4 nx1 q5 => ?_)
  obtain ⟨rfl, r6, rfl, hv⟩ := q5
  refine z_iload_n dX10_areAlike_5 rfl ?_
  obtain ⟨n8, h7, hv⟩ := hv
  obtain ⟨h9, hv⟩ := hv
  refine z_iaload dX10_areAlike_6 h7.1 h7.2 h9 ?_
  refine z_aload_n dX10_areAlike_7 rfl ?_
  refine z_iload_n dX10_areAlike_8 rfl ?_
  refine z_callV (As := [.int p1]) (st := [.int (I2 r6 p2.toNatClampNeg)]) dX10_areAlike_9 zl_X10_33 zv_X10_of (by decide) rfl h1.1 h1.2 rfl rfl (Nat.le_of_ble_eq_true rfl) ⟨Nat.le_refl _, Nat.le_refl _⟩ ⟨Nat.le_refl _, Nat.le_refl _⟩ hv (fun v1 I10 L11 P12 nx1 q13 => ?_)
  obtain ⟨rfl, r14, rfl, hv⟩ := q13
  refine z_iload_n dX10_areAlike_12 rfl ?_
  obtain ⟨n16, h15, hv⟩ := hv
  obtain ⟨h17, hv⟩ := hv
  refine z_iaload dX10_areAlike_13 h15.1 h15.2 h17 ?_
  refine z_icmp_ne (tgt := 21) dX10_areAlike_14 (by decide) (fun q18 => ?_) (fun q18 => ?_)
  · have hv := hv.1 q18
    refine z_iconst (v := 0) dX10_areAlike_21 (by decide) ?_
    exact z_ireturn dX10_areAlike_22 rfl (by decide) (Nat.le_refl _) (Nat.le_refl _) hv
  · have hv := hv.2 q18
    refine z_iconst (v := 1) dX10_areAlike_17 (by decide) ?_
    refine z_goto (tgt := 22) dX10_areAlike_18 (by decide) ?_
    exact z_ireturn dX10_areAlike_22 rfl (by decide) (Nat.le_refl _) (Nat.le_refl _) hv
abbrev gw_X10_split (d : Nat) (Q : zQt) (pc : Nat) (lv : zV) (st : List Value) (I : zI) (L : zL) (P : zP) : Prop := zW zm_X10_split (zRm d 0 0) 0 0 Q pc lv st I L P 205 0 0
def v_X10_split_18 (d : Nat) (Q : zQt) (a : Nat) (p2 : Nat) (p3 : Nat) (x4 : Nat) (x5 : Int32) (I : zI) (L : zL) (P : zP) : Prop :=
  (p3 < 205 ∧ (zsh p3).1 = 5) ∧
  (((I p3 3) ≤ x5 →
    Q none I L P 205
  ) ∧ (¬ (I p3 3) ≤ x5 →
    ∃ b15 : Nat, P p3 2 = some b15 ∧
    ∃ n18, (b15 < 205 ∧ zsh b15 = (100, n18)) ∧
    vp_in x5 n18 ∧
    ∃ n21, (x4 < 205 ∧ zsh x4 = (100, n21)) ∧
    vp_in (I b15 x5.toNatClampNeg) n21 ∧
    ∃ n24, (p2 < 205 ∧ zsh p2 = (100, n24)) ∧
    vp_in (I b15 x5.toNatClampNeg) n24 ∧
    (((I p2 (I b15 x5.toNatClampNeg).toNatClampNeg) = 0 →
      (a < 205 ∧ (zsh a).1 = 9) ∧
      ∃ b27 : Nat, P a 1 = some b27 ∧
      ∃ n30, (b27 < 205 ∧ zsh b27 = (100, n30)) ∧
      vp_in (((2 : Int32) * (I x4 (I b15 x5.toNatClampNeg).toNatClampNeg)) + 0) n30 ∧
      ((¬ (I b27 (((2 : Int32) * (I x4 (I b15 x5.toNatClampNeg).toNatClampNeg)) + 0).toNatClampNeg) = (-1) →
        ∀ I33 : zI, I33 = zuI I x4 (I b15 x5.toNatClampNeg).toNatClampNeg (I b27 (((2 : Int32) * (I x4 (I b15 x5.toNatClampNeg).toNatClampNeg)) + 0).toNatClampNeg) →
        gw_X10_split (d + 1) Q 18 [some (.ref a), none, some (.ref p2), some (.ref p3), some (.ref x4), some (.int (x5 + 1)), none, none] [] I33 L P
      ) ∧ ((I b27 (((2 : Int32) * (I x4 (I b15 x5.toNatClampNeg).toNatClampNeg)) + 0).toNatClampNeg) = (-1) →
        ∀ I35 : zI, I35 = zuI I b27 (((2 : Int32) * (I x4 (I b15 x5.toNatClampNeg).toNatClampNeg)) + 0).toNatClampNeg (I b15 x5.toNatClampNeg) →
        ∀ I37 : zI, I37 = zuI I35 x4 (I b15 x5.toNatClampNeg).toNatClampNeg (I35 b27 (((2 : Int32) * (I x4 (I b15 x5.toNatClampNeg).toNatClampNeg)) + 0).toNatClampNeg) →
        gw_X10_split (d + 1) Q 18 [some (.ref a), none, some (.ref p2), some (.ref p3), some (.ref x4), some (.int (x5 + 1)), none, none] [] I37 L P
      ))
    ) ∧ (¬ (I p2 (I b15 x5.toNatClampNeg).toNatClampNeg) = 0 →
      (a < 205 ∧ (zsh a).1 = 9) ∧
      ∃ b40 : Nat, P a 1 = some b40 ∧
      ∃ n43, (b40 < 205 ∧ zsh b40 = (100, n43)) ∧
      vp_in (((2 : Int32) * (I x4 (I b15 x5.toNatClampNeg).toNatClampNeg)) + 1) n43 ∧
      ((¬ (I b40 (((2 : Int32) * (I x4 (I b15 x5.toNatClampNeg).toNatClampNeg)) + 1).toNatClampNeg) = (-1) →
        ∀ I46 : zI, I46 = zuI I x4 (I b15 x5.toNatClampNeg).toNatClampNeg (I b40 (((2 : Int32) * (I x4 (I b15 x5.toNatClampNeg).toNatClampNeg)) + 1).toNatClampNeg) →
        gw_X10_split (d + 1) Q 18 [some (.ref a), none, some (.ref p2), some (.ref p3), some (.ref x4), some (.int (x5 + 1)), none, none] [] I46 L P
      ) ∧ ((I b40 (((2 : Int32) * (I x4 (I b15 x5.toNatClampNeg).toNatClampNeg)) + 1).toNatClampNeg) = (-1) →
        ∀ I48 : zI, I48 = zuI I b40 (((2 : Int32) * (I x4 (I b15 x5.toNatClampNeg).toNatClampNeg)) + 1).toNatClampNeg (I b15 x5.toNatClampNeg) →
        ∀ I50 : zI, I50 = zuI I48 x4 (I b15 x5.toNatClampNeg).toNatClampNeg (I48 b40 (((2 : Int32) * (I x4 (I b15 x5.toNatClampNeg).toNatClampNeg)) + 1).toNatClampNeg) →
        gw_X10_split (d + 1) Q 18 [some (.ref a), none, some (.ref p2), some (.ref p3), some (.ref x4), some (.int (x5 + 1)), none, none] [] I50 L P
      ))
    ))
  ))
set_option maxRecDepth 20000 in
theorem g_X10_split_18 {d : Nat} {Q : zQt} {a : Nat} {p2 : Nat} {p3 : Nat} {x4 : Nat} {x5 : Int32} {I : zI} {L : zL} {P : zP} (hP : zPk P) (hv : v_X10_split_18 d Q a p2 p3 x4 x5 I L P) : gw_X10_split (d + 1) Q 18 [some (.ref a), none, some (.ref p2), some (.ref p3), some (.ref x4), some (.int x5), none, none] [] I L P := by
  unfold v_X10_split_18 at hv
  refine z_iload dX10_split_18 rfl ?_
  refine z_aload_n dX10_split_20 rfl ?_
  obtain ⟨h14, hv⟩ := hv
  refine z_getI dX10_split_21 zf_X10_43 h14.1 h14.2 (fun _ _ _ _ _ => rfl) ?_
  refine z_icmp_ge (tgt := 96) dX10_split_24 (by decide) (fun q53 => ?_) (fun q53 => ?_)
  · have hv := hv.1 q53
    exact z_return dX10_split_96 rfl (Nat.le_refl _) (Nat.le_refl _) hv
  · have hv := hv.2 q53
    refine z_aload_n dX10_split_27 rfl ?_
    obtain ⟨b15, h16, hv⟩ := hv
    refine z_getP dX10_split_28 zf_X10_48 h14.1 h14.2 (fun _ _ _ _ _ => rfl) h16 ?_
    refine z_iload dX10_split_31 rfl ?_
    obtain ⟨n18, h17, hv⟩ := hv
    obtain ⟨h19, hv⟩ := hv
    refine z_iaload dX10_split_33 h17.1 h17.2 h19 ?_
    refine z_istore (lv2 := [some (.ref a), none, some (.ref p2), some (.ref p3), some (.ref x4), some (.int x5), some (.int (I b15 x5.toNatClampNeg)), none]) dX10_split_34 (by decide) rfl rfl ?_
    refine z_iconst (v := 2) dX10_split_36 (by decide) ?_
    refine z_aload dX10_split_37 rfl ?_
    refine z_iload dX10_split_39 rfl ?_
    obtain ⟨n21, h20, hv⟩ := hv
    obtain ⟨h22, hv⟩ := hv
    refine z_iaload dX10_split_41 h20.1 h20.2 h22 ?_
    refine z_imul dX10_split_42 ?_
    refine z_aload_n dX10_split_43 rfl ?_
    refine z_iload dX10_split_44 rfl ?_
    obtain ⟨n24, h23, hv⟩ := hv
    obtain ⟨h25, hv⟩ := hv
    refine z_iaload dX10_split_46 h23.1 h23.2 h25 ?_
    refine z_if_eq (tgt := 54) dX10_split_47 (by decide) (fun q52 => ?_) (fun q52 => ?_)
    · have hv := hv.1 q52
      refine z_iconst (v := 0) dX10_split_54 (by decide) ?_
      refine z_iadd dX10_split_55 ?_
      refine z_istore (lv2 := [some (.ref a), none, some (.ref p2), some (.ref p3), some (.ref x4), some (.int x5), some (.int (I b15 x5.toNatClampNeg)), some (.int (((2 : Int32) * (I x4 (I b15 x5.toNatClampNeg).toNatClampNeg)) + 0))]) dX10_split_56 (by decide) rfl rfl ?_
      refine z_aload_n dX10_split_58 rfl ?_
      obtain ⟨h26, hv⟩ := hv
      obtain ⟨b27, h28, hv⟩ := hv
      refine z_getP dX10_split_59 zf_X10_18 h26.1 h26.2 (fun _ _ _ _ _ => rfl) h28 ?_
      refine z_iload dX10_split_62 rfl ?_
      obtain ⟨n30, h29, hv⟩ := hv
      obtain ⟨h31, hv⟩ := hv
      refine z_iaload dX10_split_64 h29.1 h29.2 h31 ?_
      refine z_iconst (v := (-1)) dX10_split_65 (by decide) ?_
      refine z_icmp_ne (tgt := 78) dX10_split_66 (by decide) (fun q38 => ?_) (fun q38 => ?_)
      · have hv := hv.1 q38
        refine z_aload dX10_split_78 rfl ?_
        refine z_iload dX10_split_80 rfl ?_
        refine z_aload_n dX10_split_82 rfl ?_
        refine z_getP dX10_split_83 zf_X10_18 h26.1 h26.2 (fun _ _ _ _ _ => rfl) h28 ?_
        refine z_iload dX10_split_86 rfl ?_
        refine z_iaload dX10_split_88 h29.1 h29.2 h31 ?_
        refine z_iastore dX10_split_89 h20.1 h20.2 h22 (z_nmI (fun I33 e32 => ?_))
        have hv := hv I33 e32
        refine z_iinc (v2 := x5 + 1) (lv2 := [some (.ref a), none, some (.ref p2), some (.ref p3), some (.ref x4), some (.int (x5 + 1)), some (.int (I b15 x5.toNatClampNeg)), some (.int (((2 : Int32) * (I x4 (I b15 x5.toNatClampNeg).toNatClampNeg)) + 0))]) dX10_split_90 rfl (by rfl) (by decide) rfl rfl ?_
        refine z_goto (tgt := 18) dX10_split_93 (by decide) ?_
        exact z_sub (by exact ⟨rfl, ⟨rfl, ⟨rfl, ⟨rfl, ⟨rfl, trivial⟩⟩⟩⟩⟩) hv
      · have hv := hv.2 q38
        refine z_aload_n dX10_split_69 rfl ?_
        refine z_getP dX10_split_70 zf_X10_18 h26.1 h26.2 (fun _ _ _ _ _ => rfl) h28 ?_
        refine z_iload dX10_split_73 rfl ?_
        refine z_iload dX10_split_75 rfl ?_
        refine z_iastore dX10_split_77 h29.1 h29.2 h31 (z_nmI (fun I35 e34 => ?_))
        have hv := hv I35 e34
        refine z_aload dX10_split_78 rfl ?_
        refine z_iload dX10_split_80 rfl ?_
        refine z_aload_n dX10_split_82 rfl ?_
        refine z_getP dX10_split_83 zf_X10_18 h26.1 h26.2 (fun _ _ _ _ _ => rfl) h28 ?_
        refine z_iload dX10_split_86 rfl ?_
        refine z_iaload dX10_split_88 h29.1 h29.2 h31 ?_
        refine z_iastore dX10_split_89 h20.1 h20.2 h22 (z_nmI (fun I37 e36 => ?_))
        have hv := hv I37 e36
        refine z_iinc (v2 := x5 + 1) (lv2 := [some (.ref a), none, some (.ref p2), some (.ref p3), some (.ref x4), some (.int (x5 + 1)), some (.int (I b15 x5.toNatClampNeg)), some (.int (((2 : Int32) * (I x4 (I b15 x5.toNatClampNeg).toNatClampNeg)) + 0))]) dX10_split_90 rfl (by rfl) (by decide) rfl rfl ?_
        refine z_goto (tgt := 18) dX10_split_93 (by decide) ?_
        exact z_sub (by exact ⟨rfl, ⟨rfl, ⟨rfl, ⟨rfl, ⟨rfl, trivial⟩⟩⟩⟩⟩) hv
    · have hv := hv.2 q52
      refine z_iconst (v := 1) dX10_split_50 (by decide) ?_
      refine z_goto (tgt := 55) dX10_split_51 (by decide) ?_
      refine z_iadd dX10_split_55 ?_
      refine z_istore (lv2 := [some (.ref a), none, some (.ref p2), some (.ref p3), some (.ref x4), some (.int x5), some (.int (I b15 x5.toNatClampNeg)), some (.int (((2 : Int32) * (I x4 (I b15 x5.toNatClampNeg).toNatClampNeg)) + 1))]) dX10_split_56 (by decide) rfl rfl ?_
      refine z_aload_n dX10_split_58 rfl ?_
      obtain ⟨h39, hv⟩ := hv
      obtain ⟨b40, h41, hv⟩ := hv
      refine z_getP dX10_split_59 zf_X10_18 h39.1 h39.2 (fun _ _ _ _ _ => rfl) h41 ?_
      refine z_iload dX10_split_62 rfl ?_
      obtain ⟨n43, h42, hv⟩ := hv
      obtain ⟨h44, hv⟩ := hv
      refine z_iaload dX10_split_64 h42.1 h42.2 h44 ?_
      refine z_iconst (v := (-1)) dX10_split_65 (by decide) ?_
      refine z_icmp_ne (tgt := 78) dX10_split_66 (by decide) (fun q51 => ?_) (fun q51 => ?_)
      · have hv := hv.1 q51
        refine z_aload dX10_split_78 rfl ?_
        refine z_iload dX10_split_80 rfl ?_
        refine z_aload_n dX10_split_82 rfl ?_
        refine z_getP dX10_split_83 zf_X10_18 h39.1 h39.2 (fun _ _ _ _ _ => rfl) h41 ?_
        refine z_iload dX10_split_86 rfl ?_
        refine z_iaload dX10_split_88 h42.1 h42.2 h44 ?_
        refine z_iastore dX10_split_89 h20.1 h20.2 h22 (z_nmI (fun I46 e45 => ?_))
        have hv := hv I46 e45
        refine z_iinc (v2 := x5 + 1) (lv2 := [some (.ref a), none, some (.ref p2), some (.ref p3), some (.ref x4), some (.int (x5 + 1)), some (.int (I b15 x5.toNatClampNeg)), some (.int (((2 : Int32) * (I x4 (I b15 x5.toNatClampNeg).toNatClampNeg)) + 1))]) dX10_split_90 rfl (by rfl) (by decide) rfl rfl ?_
        refine z_goto (tgt := 18) dX10_split_93 (by decide) ?_
        exact z_sub (by exact ⟨rfl, ⟨rfl, ⟨rfl, ⟨rfl, ⟨rfl, trivial⟩⟩⟩⟩⟩) hv
      · have hv := hv.2 q51
        refine z_aload_n dX10_split_69 rfl ?_
        refine z_getP dX10_split_70 zf_X10_18 h39.1 h39.2 (fun _ _ _ _ _ => rfl) h41 ?_
        refine z_iload dX10_split_73 rfl ?_
        refine z_iload dX10_split_75 rfl ?_
        refine z_iastore dX10_split_77 h42.1 h42.2 h44 (z_nmI (fun I48 e47 => ?_))
        have hv := hv I48 e47
        refine z_aload dX10_split_78 rfl ?_
        refine z_iload dX10_split_80 rfl ?_
        refine z_aload_n dX10_split_82 rfl ?_
        refine z_getP dX10_split_83 zf_X10_18 h39.1 h39.2 (fun _ _ _ _ _ => rfl) h41 ?_
        refine z_iload dX10_split_86 rfl ?_
        refine z_iaload dX10_split_88 h42.1 h42.2 h44 ?_
        refine z_iastore dX10_split_89 h20.1 h20.2 h22 (z_nmI (fun I50 e49 => ?_))
        have hv := hv I50 e49
        refine z_iinc (v2 := x5 + 1) (lv2 := [some (.ref a), none, some (.ref p2), some (.ref p3), some (.ref x4), some (.int (x5 + 1)), some (.int (I b15 x5.toNatClampNeg)), some (.int (((2 : Int32) * (I x4 (I b15 x5.toNatClampNeg).toNatClampNeg)) + 1))]) dX10_split_90 rfl (by rfl) (by decide) rfl rfl ?_
        refine z_goto (tgt := 18) dX10_split_93 (by decide) ?_
        exact z_sub (by exact ⟨rfl, ⟨rfl, ⟨rfl, ⟨rfl, ⟨rfl, trivial⟩⟩⟩⟩⟩) hv
def v_X10_split (d : Nat) (Q : zQt) (a : Nat) (p1 : Int32) (p2 : Nat) (p3 : Nat) (I : zI) (L : zL) (P : zP) : Prop :=
  (a < 205 ∧ (zsh a).1 = 9) ∧
  zMr zm_X10_of d [.ref a, .int p1] I L P (fun r6 I2 L3 P4 =>
    ∃ b7 : Nat, P4 a 1 = some b7 ∧
    zMv zm_J7_fill_53178 d [.ref b7, .int (-1)] I2 L3 P4 (fun I9 L10 P11 =>
      gw_X10_split (d + 1) Q 18 [some (.ref a), none, some (.ref p2), some (.ref p3), some (.ref r6), some (.int 0), none, none] [] I9 L10 P11
    )
  )
set_option maxRecDepth 20000 in
theorem g_X10_split {d : Nat} {Q : zQt} {a : Nat} {p1 : Int32} {p2 : Nat} {p3 : Nat} {I : zI} {L : zL} {P : zP} (hP : zPk P) (hv : v_X10_split d Q a p1 p2 p3 I L P) : zM zm_X10_split (d + 1) 0 0 [.ref a, .int p1, .ref p2, .ref p3] I L P 205 Q := by
  unfold v_X10_split at hv
  refine zM_of (lv0 := [some (.ref a), some (.int p1), some (.ref p2), some (.ref p3), none, none, none, none]) (by decide +kernel) (Nat.le_of_ble_eq_true rfl) rfl ?_
  refine z_aload_n dX10_split_0 rfl ?_
  refine z_iload_n dX10_split_1 rfl ?_
  obtain ⟨h1, hv⟩ := hv
  refine z_callV (As := [.int p1]) (st := []) dX10_split_2 zl_X10_33 zv_X10_of (by decide) rfl h1.1 h1.2 rfl rfl (Nat.le_of_ble_eq_true rfl) ⟨Nat.le_refl _, Nat.le_refl _⟩ ⟨Nat.le_refl _, Nat.le_refl _⟩ hv (fun v1 I2 L3 P4 nx1 q5 => ?_)
  obtain ⟨rfl, r6, rfl, hv⟩ := q5
  refine z_astore (lv2 := [some (.ref a), some (.int p1), some (.ref p2), some (.ref p3), some (.ref r6), none, none, none]) dX10_split_5 (by decide) rfl rfl ?_
  refine z_aload_n dX10_split_7 rfl ?_
  obtain ⟨b7, h8, hv⟩ := hv
  refine z_getP dX10_split_8 zf_X10_18 h1.1 h1.2 (fun _ _ _ _ _ => rfl) h8 ?_
  refine z_iconst (v := (-1)) dX10_split_11 (by decide) ?_
  refine z_callS (As := [.ref b7, .int (-1)]) (st := []) dX10_split_12 zl_X10_37 zs_J7_fill_53178 rfl rfl (Nat.le_of_ble_eq_true rfl) ⟨Nat.le_refl _, Nat.le_refl _⟩ ⟨Nat.le_refl _, Nat.le_refl _⟩ hv (fun v1 I9 L10 P11 nx1 q12 => ?_)
  obtain ⟨rfl, rfl, hv⟩ := q12
  refine z_iconst (v := 0) dX10_split_15 (by decide) ?_
  refine z_istore (lv2 := [some (.ref a), some (.int p1), some (.ref p2), some (.ref p3), some (.ref r6), some (.int 0), none, none]) dX10_split_16 (by decide) rfl rfl ?_
  exact z_sub (by exact ⟨rfl, ⟨rfl, ⟨rfl, ⟨rfl, ⟨rfl, trivial⟩⟩⟩⟩⟩) hv
abbrev gw_X10_copy (d : Nat) (Q : zQt) (pc : Nat) (lv : zV) (st : List Value) (I : zI) (L : zL) (P : zP) : Prop := zW zm_X10_copy (zRm d 0 0) 0 0 Q pc lv st I L P 205 0 0
def v_X10_copy_2 (d : Nat) (Q : zQt) (a : Nat) (p1 : Nat) (x2 : Int32) (I : zI) (L : zL) (P : zP) : Prop :=
  ((8 ≤ x2 →
    Q none I L P 205
  ) ∧ (¬ 8 ≤ x2 →
    (p1 < 205 ∧ (zsh p1).1 = 9) ∧
    ∃ b2 : Nat, P p1 0 = some b2 ∧
    ∃ n5, (b2 < 205 ∧ zsh b2 = (104, n5)) ∧
    vp_in x2 n5 ∧
    ∃ b7 : Nat, P b2 x2.toNatClampNeg = some b7 ∧
    (a < 205 ∧ (zsh a).1 = 9) ∧
    ∃ b10 : Nat, P a 0 = some b10 ∧
    ∃ n13, (b10 < 205 ∧ zsh b10 = (104, n13)) ∧
    vp_in x2 n13 ∧
    ∃ b15 : Nat, P b10 x2.toNatClampNeg = some b15 ∧
    ∃ n18, (b7 < 205 ∧ zsh b7 = (100, n18)) ∧
    ∃ n20, (b15 < 205 ∧ zsh b15 = (100, n20)) ∧
    (¬ (0 : Int32) < 0 ∧ ¬ (0 : Int32) < 0 ∧ ¬ (256 : Int32) < 0 ∧ (0 : Int32).toNatClampNeg + (256 : Int32).toNatClampNeg ≤ n18 ∧ (0 : Int32).toNatClampNeg + (256 : Int32).toNatClampNeg ≤ n20) ∧
    ∀ I22 : zI, I22 = zaI I b15 (va_cpy (I b7) (I b15) (0 : Int32).toNatClampNeg (0 : Int32).toNatClampNeg (256 : Int32).toNatClampNeg) →
    gw_X10_copy (d + 1) Q 2 [some (.ref a), some (.ref p1), some (.int (x2 + 1))] [] I22 L P
  ))
set_option maxRecDepth 20000 in
theorem g_X10_copy_2 {d : Nat} {Q : zQt} {a : Nat} {p1 : Nat} {x2 : Int32} {I : zI} {L : zL} {P : zP} (hP : zPk P) (hv : v_X10_copy_2 d Q a p1 x2 I L P) : gw_X10_copy (d + 1) Q 2 [some (.ref a), some (.ref p1), some (.int x2)] [] I L P := by
  unfold v_X10_copy_2 at hv
  refine z_iload_n dX10_copy_2 rfl ?_
  refine z_bipush (v := 8) dX10_copy_3 (by decide) ?_
  refine z_icmp_ge (tgt := 34) dX10_copy_5 (by decide) (fun q24 => ?_) (fun q24 => ?_)
  · have hv := hv.1 q24
    exact z_return dX10_copy_34 rfl (Nat.le_refl _) (Nat.le_refl _) hv
  · have hv := hv.2 q24
    refine z_aload_n dX10_copy_8 rfl ?_
    obtain ⟨h1, hv⟩ := hv
    obtain ⟨b2, h3, hv⟩ := hv
    refine z_getP dX10_copy_9 zf_X10_13 h1.1 h1.2 (fun _ _ _ _ _ => rfl) h3 ?_
    refine z_iload_n dX10_copy_12 rfl ?_
    obtain ⟨n5, h4, hv⟩ := hv
    obtain ⟨h6, hv⟩ := hv
    obtain ⟨b7, h8, hv⟩ := hv
    refine z_aaload dX10_copy_13 h4.1 h4.2 (Or.inl rfl) h6 h8 ?_
    refine z_iconst (v := 0) dX10_copy_14 (by decide) ?_
    refine z_aload_n dX10_copy_15 rfl ?_
    obtain ⟨h9, hv⟩ := hv
    obtain ⟨b10, h11, hv⟩ := hv
    refine z_getP dX10_copy_16 zf_X10_13 h9.1 h9.2 (fun _ _ _ _ _ => rfl) h11 ?_
    refine z_iload_n dX10_copy_19 rfl ?_
    obtain ⟨n13, h12, hv⟩ := hv
    obtain ⟨h14, hv⟩ := hv
    obtain ⟨b15, h16, hv⟩ := hv
    refine z_aaload dX10_copy_20 h12.1 h12.2 (Or.inl rfl) h14 h16 ?_
    refine z_iconst (v := 0) dX10_copy_21 (by decide) ?_
    refine z_sipush (v := 256) dX10_copy_22 (by decide) ?_
    obtain ⟨n18, h17, hv⟩ := hv
    obtain ⟨n20, h19, hv⟩ := hv
    obtain ⟨h21, hv⟩ := hv
    refine z_copyI dX10_copy_25 zl_X10_51 rfl h17.1 h19.1 h17.2 h19.2 h21.1 h21.2.1 h21.2.2.1 h21.2.2.2.1 h21.2.2.2.2 (Nat.le_of_ble_eq_true rfl) ⟨Nat.le_add_left _ _, zr64 _⟩ (z_nmI (fun I22 e23 => ?_))
    have hv := hv I22 e23
    refine z_iinc (v2 := x2 + 1) (lv2 := [some (.ref a), some (.ref p1), some (.int (x2 + 1))]) dX10_copy_28 rfl (by rfl) (by decide) rfl rfl ?_
    refine z_goto (tgt := 2) dX10_copy_31 (by decide) ?_
    exact hv
def v_X10_copy (d : Nat) (Q : zQt) (a : Nat) (p1 : Nat) (I : zI) (L : zL) (P : zP) : Prop :=
  gw_X10_copy (d + 1) Q 2 [some (.ref a), some (.ref p1), some (.int 0)] [] I L P
set_option maxRecDepth 20000 in
theorem g_X10_copy {d : Nat} {Q : zQt} {a : Nat} {p1 : Nat} {I : zI} {L : zL} {P : zP} (hP : zPk P) (hv : v_X10_copy d Q a p1 I L P) : zM zm_X10_copy (d + 1) 0 0 [.ref a, .ref p1] I L P 205 Q := by
  unfold v_X10_copy at hv
  refine zM_of (lv0 := [some (.ref a), some (.ref p1), none]) (by decide +kernel) (Nat.le_of_ble_eq_true rfl) rfl ?_
  refine z_iconst (v := 0) dX10_copy_0 (by decide) ?_
  refine z_istore_n (lv2 := [some (.ref a), some (.ref p1), some (.int 0)]) dX10_copy_1 (by decide) rfl rfl ?_
  exact hv
abbrev gw_J6_bitCount_0f7a4 (d : Nat) (Q : zQt) (pc : Nat) (lv : zV) (st : List Value) (I : zI) (L : zL) (P : zP) : Prop := zW zm_J6_bitCount_0f7a4 (zRm d 0 0) 0 0 Q pc lv st I L P 205 0 0
def v_J6_bitCount_0f7a4 (d : Nat) (Q : zQt) (p1 : Int32) (I : zI) (L : zL) (P : zP) : Prop :=
  Q (some (.int ((((((((p1 - ((((p1 : Int32).toUInt32 >>> ((1 : Int32).toUInt32 &&& Int32.toUInt32 31)).toInt32) &&& 1431655765 : Int32)) &&& 858993459 : Int32) + (((((p1 - ((((p1 : Int32).toUInt32 >>> ((1 : Int32).toUInt32 &&& Int32.toUInt32 31)).toInt32) &&& 1431655765 : Int32)) : Int32).toUInt32 >>> ((2 : Int32).toUInt32 &&& Int32.toUInt32 31)).toInt32) &&& 858993459 : Int32)) + ((((((p1 - ((((p1 : Int32).toUInt32 >>> ((1 : Int32).toUInt32 &&& Int32.toUInt32 31)).toInt32) &&& 1431655765 : Int32)) &&& 858993459 : Int32) + (((((p1 - ((((p1 : Int32).toUInt32 >>> ((1 : Int32).toUInt32 &&& Int32.toUInt32 31)).toInt32) &&& 1431655765 : Int32)) : Int32).toUInt32 >>> ((2 : Int32).toUInt32 &&& Int32.toUInt32 31)).toInt32) &&& 858993459 : Int32)) : Int32).toUInt32 >>> ((4 : Int32).toUInt32 &&& Int32.toUInt32 31)).toInt32)) &&& 252645135 : Int32) + ((((((((p1 - ((((p1 : Int32).toUInt32 >>> ((1 : Int32).toUInt32 &&& Int32.toUInt32 31)).toInt32) &&& 1431655765 : Int32)) &&& 858993459 : Int32) + (((((p1 - ((((p1 : Int32).toUInt32 >>> ((1 : Int32).toUInt32 &&& Int32.toUInt32 31)).toInt32) &&& 1431655765 : Int32)) : Int32).toUInt32 >>> ((2 : Int32).toUInt32 &&& Int32.toUInt32 31)).toInt32) &&& 858993459 : Int32)) + ((((((p1 - ((((p1 : Int32).toUInt32 >>> ((1 : Int32).toUInt32 &&& Int32.toUInt32 31)).toInt32) &&& 1431655765 : Int32)) &&& 858993459 : Int32) + (((((p1 - ((((p1 : Int32).toUInt32 >>> ((1 : Int32).toUInt32 &&& Int32.toUInt32 31)).toInt32) &&& 1431655765 : Int32)) : Int32).toUInt32 >>> ((2 : Int32).toUInt32 &&& Int32.toUInt32 31)).toInt32) &&& 858993459 : Int32)) : Int32).toUInt32 >>> ((4 : Int32).toUInt32 &&& Int32.toUInt32 31)).toInt32)) &&& 252645135 : Int32) : Int32).toUInt32 >>> ((8 : Int32).toUInt32 &&& Int32.toUInt32 31)).toInt32)) + (((((((((p1 - ((((p1 : Int32).toUInt32 >>> ((1 : Int32).toUInt32 &&& Int32.toUInt32 31)).toInt32) &&& 1431655765 : Int32)) &&& 858993459 : Int32) + (((((p1 - ((((p1 : Int32).toUInt32 >>> ((1 : Int32).toUInt32 &&& Int32.toUInt32 31)).toInt32) &&& 1431655765 : Int32)) : Int32).toUInt32 >>> ((2 : Int32).toUInt32 &&& Int32.toUInt32 31)).toInt32) &&& 858993459 : Int32)) + ((((((p1 - ((((p1 : Int32).toUInt32 >>> ((1 : Int32).toUInt32 &&& Int32.toUInt32 31)).toInt32) &&& 1431655765 : Int32)) &&& 858993459 : Int32) + (((((p1 - ((((p1 : Int32).toUInt32 >>> ((1 : Int32).toUInt32 &&& Int32.toUInt32 31)).toInt32) &&& 1431655765 : Int32)) : Int32).toUInt32 >>> ((2 : Int32).toUInt32 &&& Int32.toUInt32 31)).toInt32) &&& 858993459 : Int32)) : Int32).toUInt32 >>> ((4 : Int32).toUInt32 &&& Int32.toUInt32 31)).toInt32)) &&& 252645135 : Int32) + ((((((((p1 - ((((p1 : Int32).toUInt32 >>> ((1 : Int32).toUInt32 &&& Int32.toUInt32 31)).toInt32) &&& 1431655765 : Int32)) &&& 858993459 : Int32) + (((((p1 - ((((p1 : Int32).toUInt32 >>> ((1 : Int32).toUInt32 &&& Int32.toUInt32 31)).toInt32) &&& 1431655765 : Int32)) : Int32).toUInt32 >>> ((2 : Int32).toUInt32 &&& Int32.toUInt32 31)).toInt32) &&& 858993459 : Int32)) + ((((((p1 - ((((p1 : Int32).toUInt32 >>> ((1 : Int32).toUInt32 &&& Int32.toUInt32 31)).toInt32) &&& 1431655765 : Int32)) &&& 858993459 : Int32) + (((((p1 - ((((p1 : Int32).toUInt32 >>> ((1 : Int32).toUInt32 &&& Int32.toUInt32 31)).toInt32) &&& 1431655765 : Int32)) : Int32).toUInt32 >>> ((2 : Int32).toUInt32 &&& Int32.toUInt32 31)).toInt32) &&& 858993459 : Int32)) : Int32).toUInt32 >>> ((4 : Int32).toUInt32 &&& Int32.toUInt32 31)).toInt32)) &&& 252645135 : Int32) : Int32).toUInt32 >>> ((8 : Int32).toUInt32 &&& Int32.toUInt32 31)).toInt32)) : Int32).toUInt32 >>> ((16 : Int32).toUInt32 &&& Int32.toUInt32 31)).toInt32)) &&& 63 : Int32))) I L P 205
set_option maxRecDepth 20000 in
theorem g_J6_bitCount_0f7a4 {d : Nat} {Q : zQt} {p1 : Int32} {I : zI} {L : zL} {P : zP} (hP : zPk P) (hv : v_J6_bitCount_0f7a4 d Q p1 I L P) : zM zm_J6_bitCount_0f7a4 d 0 0 [.int p1] I L P 205 Q := by
  unfold v_J6_bitCount_0f7a4 at hv
  refine zM_of (lv0 := [some (.int p1)]) (by decide +kernel) (Nat.le_of_ble_eq_true rfl) rfl ?_
  refine z_iload_n dJ6_bitCount_0f7a4_0 rfl ?_
  refine z_iload_n dJ6_bitCount_0f7a4_1 rfl ?_
  refine z_iconst (v := 1) dJ6_bitCount_0f7a4_2 (by decide) ?_
  refine z_iushr dJ6_bitCount_0f7a4_3 ?_
  refine z_ldc_w (v := 1431655765) dJ6_bitCount_0f7a4_4 zi_J6_265 ?_
  refine z_iand dJ6_bitCount_0f7a4_7 ?_
  refine z_isub dJ6_bitCount_0f7a4_8 ?_
  refine z_istore_n (lv2 := [some (.int (p1 - ((((p1 : Int32).toUInt32 >>> ((1 : Int32).toUInt32 &&& Int32.toUInt32 31)).toInt32) &&& 1431655765 : Int32)))]) dJ6_bitCount_0f7a4_9 (by decide) rfl rfl ?_
  refine z_iload_n dJ6_bitCount_0f7a4_10 rfl ?_
  refine z_ldc_w (v := 858993459) dJ6_bitCount_0f7a4_11 zi_J6_266 ?_
  refine z_iand dJ6_bitCount_0f7a4_14 ?_
  refine z_iload_n dJ6_bitCount_0f7a4_15 rfl ?_
  refine z_iconst (v := 2) dJ6_bitCount_0f7a4_16 (by decide) ?_
  refine z_iushr dJ6_bitCount_0f7a4_17 ?_
  refine z_ldc_w (v := 858993459) dJ6_bitCount_0f7a4_18 zi_J6_266 ?_
  refine z_iand dJ6_bitCount_0f7a4_21 ?_
  refine z_iadd dJ6_bitCount_0f7a4_22 ?_
  refine z_istore_n (lv2 := [some (.int (((p1 - ((((p1 : Int32).toUInt32 >>> ((1 : Int32).toUInt32 &&& Int32.toUInt32 31)).toInt32) &&& 1431655765 : Int32)) &&& 858993459 : Int32) + (((((p1 - ((((p1 : Int32).toUInt32 >>> ((1 : Int32).toUInt32 &&& Int32.toUInt32 31)).toInt32) &&& 1431655765 : Int32)) : Int32).toUInt32 >>> ((2 : Int32).toUInt32 &&& Int32.toUInt32 31)).toInt32) &&& 858993459 : Int32)))]) dJ6_bitCount_0f7a4_23 (by decide) rfl rfl ?_
  refine z_iload_n dJ6_bitCount_0f7a4_24 rfl ?_
  refine z_iload_n dJ6_bitCount_0f7a4_25 rfl ?_
  refine z_iconst (v := 4) dJ6_bitCount_0f7a4_26 (by decide) ?_
  refine z_iushr dJ6_bitCount_0f7a4_27 ?_
  refine z_iadd dJ6_bitCount_0f7a4_28 ?_
  refine z_ldc_w (v := 252645135) dJ6_bitCount_0f7a4_29 zi_J6_267 ?_
  refine z_iand dJ6_bitCount_0f7a4_32 ?_
  refine z_istore_n (lv2 := [some (.int (((((p1 - ((((p1 : Int32).toUInt32 >>> ((1 : Int32).toUInt32 &&& Int32.toUInt32 31)).toInt32) &&& 1431655765 : Int32)) &&& 858993459 : Int32) + (((((p1 - ((((p1 : Int32).toUInt32 >>> ((1 : Int32).toUInt32 &&& Int32.toUInt32 31)).toInt32) &&& 1431655765 : Int32)) : Int32).toUInt32 >>> ((2 : Int32).toUInt32 &&& Int32.toUInt32 31)).toInt32) &&& 858993459 : Int32)) + ((((((p1 - ((((p1 : Int32).toUInt32 >>> ((1 : Int32).toUInt32 &&& Int32.toUInt32 31)).toInt32) &&& 1431655765 : Int32)) &&& 858993459 : Int32) + (((((p1 - ((((p1 : Int32).toUInt32 >>> ((1 : Int32).toUInt32 &&& Int32.toUInt32 31)).toInt32) &&& 1431655765 : Int32)) : Int32).toUInt32 >>> ((2 : Int32).toUInt32 &&& Int32.toUInt32 31)).toInt32) &&& 858993459 : Int32)) : Int32).toUInt32 >>> ((4 : Int32).toUInt32 &&& Int32.toUInt32 31)).toInt32)) &&& 252645135 : Int32))]) dJ6_bitCount_0f7a4_33 (by decide) rfl rfl ?_
  refine z_iload_n dJ6_bitCount_0f7a4_34 rfl ?_
  refine z_iload_n dJ6_bitCount_0f7a4_35 rfl ?_
  refine z_bipush (v := 8) dJ6_bitCount_0f7a4_36 (by decide) ?_
  refine z_iushr dJ6_bitCount_0f7a4_38 ?_
  refine z_iadd dJ6_bitCount_0f7a4_39 ?_
  refine z_istore_n (lv2 := [some (.int ((((((p1 - ((((p1 : Int32).toUInt32 >>> ((1 : Int32).toUInt32 &&& Int32.toUInt32 31)).toInt32) &&& 1431655765 : Int32)) &&& 858993459 : Int32) + (((((p1 - ((((p1 : Int32).toUInt32 >>> ((1 : Int32).toUInt32 &&& Int32.toUInt32 31)).toInt32) &&& 1431655765 : Int32)) : Int32).toUInt32 >>> ((2 : Int32).toUInt32 &&& Int32.toUInt32 31)).toInt32) &&& 858993459 : Int32)) + ((((((p1 - ((((p1 : Int32).toUInt32 >>> ((1 : Int32).toUInt32 &&& Int32.toUInt32 31)).toInt32) &&& 1431655765 : Int32)) &&& 858993459 : Int32) + (((((p1 - ((((p1 : Int32).toUInt32 >>> ((1 : Int32).toUInt32 &&& Int32.toUInt32 31)).toInt32) &&& 1431655765 : Int32)) : Int32).toUInt32 >>> ((2 : Int32).toUInt32 &&& Int32.toUInt32 31)).toInt32) &&& 858993459 : Int32)) : Int32).toUInt32 >>> ((4 : Int32).toUInt32 &&& Int32.toUInt32 31)).toInt32)) &&& 252645135 : Int32) + ((((((((p1 - ((((p1 : Int32).toUInt32 >>> ((1 : Int32).toUInt32 &&& Int32.toUInt32 31)).toInt32) &&& 1431655765 : Int32)) &&& 858993459 : Int32) + (((((p1 - ((((p1 : Int32).toUInt32 >>> ((1 : Int32).toUInt32 &&& Int32.toUInt32 31)).toInt32) &&& 1431655765 : Int32)) : Int32).toUInt32 >>> ((2 : Int32).toUInt32 &&& Int32.toUInt32 31)).toInt32) &&& 858993459 : Int32)) + ((((((p1 - ((((p1 : Int32).toUInt32 >>> ((1 : Int32).toUInt32 &&& Int32.toUInt32 31)).toInt32) &&& 1431655765 : Int32)) &&& 858993459 : Int32) + (((((p1 - ((((p1 : Int32).toUInt32 >>> ((1 : Int32).toUInt32 &&& Int32.toUInt32 31)).toInt32) &&& 1431655765 : Int32)) : Int32).toUInt32 >>> ((2 : Int32).toUInt32 &&& Int32.toUInt32 31)).toInt32) &&& 858993459 : Int32)) : Int32).toUInt32 >>> ((4 : Int32).toUInt32 &&& Int32.toUInt32 31)).toInt32)) &&& 252645135 : Int32) : Int32).toUInt32 >>> ((8 : Int32).toUInt32 &&& Int32.toUInt32 31)).toInt32)))]) dJ6_bitCount_0f7a4_40 (by decide) rfl rfl ?_
  refine z_iload_n dJ6_bitCount_0f7a4_41 rfl ?_
  refine z_iload_n dJ6_bitCount_0f7a4_42 rfl ?_
  refine z_bipush (v := 16) dJ6_bitCount_0f7a4_43 (by decide) ?_
  refine z_iushr dJ6_bitCount_0f7a4_45 ?_
  refine z_iadd dJ6_bitCount_0f7a4_46 ?_
  refine z_istore_n (lv2 := [some (.int (((((((p1 - ((((p1 : Int32).toUInt32 >>> ((1 : Int32).toUInt32 &&& Int32.toUInt32 31)).toInt32) &&& 1431655765 : Int32)) &&& 858993459 : Int32) + (((((p1 - ((((p1 : Int32).toUInt32 >>> ((1 : Int32).toUInt32 &&& Int32.toUInt32 31)).toInt32) &&& 1431655765 : Int32)) : Int32).toUInt32 >>> ((2 : Int32).toUInt32 &&& Int32.toUInt32 31)).toInt32) &&& 858993459 : Int32)) + ((((((p1 - ((((p1 : Int32).toUInt32 >>> ((1 : Int32).toUInt32 &&& Int32.toUInt32 31)).toInt32) &&& 1431655765 : Int32)) &&& 858993459 : Int32) + (((((p1 - ((((p1 : Int32).toUInt32 >>> ((1 : Int32).toUInt32 &&& Int32.toUInt32 31)).toInt32) &&& 1431655765 : Int32)) : Int32).toUInt32 >>> ((2 : Int32).toUInt32 &&& Int32.toUInt32 31)).toInt32) &&& 858993459 : Int32)) : Int32).toUInt32 >>> ((4 : Int32).toUInt32 &&& Int32.toUInt32 31)).toInt32)) &&& 252645135 : Int32) + ((((((((p1 - ((((p1 : Int32).toUInt32 >>> ((1 : Int32).toUInt32 &&& Int32.toUInt32 31)).toInt32) &&& 1431655765 : Int32)) &&& 858993459 : Int32) + (((((p1 - ((((p1 : Int32).toUInt32 >>> ((1 : Int32).toUInt32 &&& Int32.toUInt32 31)).toInt32) &&& 1431655765 : Int32)) : Int32).toUInt32 >>> ((2 : Int32).toUInt32 &&& Int32.toUInt32 31)).toInt32) &&& 858993459 : Int32)) + ((((((p1 - ((((p1 : Int32).toUInt32 >>> ((1 : Int32).toUInt32 &&& Int32.toUInt32 31)).toInt32) &&& 1431655765 : Int32)) &&& 858993459 : Int32) + (((((p1 - ((((p1 : Int32).toUInt32 >>> ((1 : Int32).toUInt32 &&& Int32.toUInt32 31)).toInt32) &&& 1431655765 : Int32)) : Int32).toUInt32 >>> ((2 : Int32).toUInt32 &&& Int32.toUInt32 31)).toInt32) &&& 858993459 : Int32)) : Int32).toUInt32 >>> ((4 : Int32).toUInt32 &&& Int32.toUInt32 31)).toInt32)) &&& 252645135 : Int32) : Int32).toUInt32 >>> ((8 : Int32).toUInt32 &&& Int32.toUInt32 31)).toInt32)) + (((((((((p1 - ((((p1 : Int32).toUInt32 >>> ((1 : Int32).toUInt32 &&& Int32.toUInt32 31)).toInt32) &&& 1431655765 : Int32)) &&& 858993459 : Int32) + (((((p1 - ((((p1 : Int32).toUInt32 >>> ((1 : Int32).toUInt32 &&& Int32.toUInt32 31)).toInt32) &&& 1431655765 : Int32)) : Int32).toUInt32 >>> ((2 : Int32).toUInt32 &&& Int32.toUInt32 31)).toInt32) &&& 858993459 : Int32)) + ((((((p1 - ((((p1 : Int32).toUInt32 >>> ((1 : Int32).toUInt32 &&& Int32.toUInt32 31)).toInt32) &&& 1431655765 : Int32)) &&& 858993459 : Int32) + (((((p1 - ((((p1 : Int32).toUInt32 >>> ((1 : Int32).toUInt32 &&& Int32.toUInt32 31)).toInt32) &&& 1431655765 : Int32)) : Int32).toUInt32 >>> ((2 : Int32).toUInt32 &&& Int32.toUInt32 31)).toInt32) &&& 858993459 : Int32)) : Int32).toUInt32 >>> ((4 : Int32).toUInt32 &&& Int32.toUInt32 31)).toInt32)) &&& 252645135 : Int32) + ((((((((p1 - ((((p1 : Int32).toUInt32 >>> ((1 : Int32).toUInt32 &&& Int32.toUInt32 31)).toInt32) &&& 1431655765 : Int32)) &&& 858993459 : Int32) + (((((p1 - ((((p1 : Int32).toUInt32 >>> ((1 : Int32).toUInt32 &&& Int32.toUInt32 31)).toInt32) &&& 1431655765 : Int32)) : Int32).toUInt32 >>> ((2 : Int32).toUInt32 &&& Int32.toUInt32 31)).toInt32) &&& 858993459 : Int32)) + ((((((p1 - ((((p1 : Int32).toUInt32 >>> ((1 : Int32).toUInt32 &&& Int32.toUInt32 31)).toInt32) &&& 1431655765 : Int32)) &&& 858993459 : Int32) + (((((p1 - ((((p1 : Int32).toUInt32 >>> ((1 : Int32).toUInt32 &&& Int32.toUInt32 31)).toInt32) &&& 1431655765 : Int32)) : Int32).toUInt32 >>> ((2 : Int32).toUInt32 &&& Int32.toUInt32 31)).toInt32) &&& 858993459 : Int32)) : Int32).toUInt32 >>> ((4 : Int32).toUInt32 &&& Int32.toUInt32 31)).toInt32)) &&& 252645135 : Int32) : Int32).toUInt32 >>> ((8 : Int32).toUInt32 &&& Int32.toUInt32 31)).toInt32)) : Int32).toUInt32 >>> ((16 : Int32).toUInt32 &&& Int32.toUInt32 31)).toInt32)))]) dJ6_bitCount_0f7a4_47 (by decide) rfl rfl ?_
  refine z_iload_n dJ6_bitCount_0f7a4_48 rfl ?_
  refine z_bipush (v := 63) dJ6_bitCount_0f7a4_49 (by decide) ?_
  refine z_iand dJ6_bitCount_0f7a4_51 ?_
  exact z_ireturn dJ6_bitCount_0f7a4_52 rfl rfl (Nat.le_refl _) (Nat.le_refl _) hv
abbrev gw_J7_fill_d0a16 (d : Nat) (Q : zQt) (pc : Nat) (lv : zV) (st : List Value) (I : zI) (L : zL) (P : zP) : Prop := zW zm_J7_fill_d0a16 (zRm d 0 0) 0 0 Q pc lv st I L P 205 0 0
def v_J7_fill_d0a16_6 (d : Nat) (Q : zQt) (p1 : Nat) (p2 : Int64) (x3 : Int32) (x4 : Int32) (I : zI) (L : zL) (P : zP) : Prop :=
  ((x4 ≤ x3 →
    Q none I L P 205
  ) ∧ (¬ x4 ≤ x3 →
    ∃ n4, (p1 < 205 ∧ zsh p1 = (101, n4)) ∧
    vp_in x3 n4 ∧
    ∀ L7 : zL, L7 = zuL L p1 x3.toNatClampNeg p2 →
    gw_J7_fill_d0a16 d Q 6 [some (.ref p1), some (.long p2), none, some (.int (x3 + 1)), some (.int x4)] [] I L7 P
  ))
set_option maxRecDepth 20000 in
theorem g_J7_fill_d0a16_6 {d : Nat} {Q : zQt} {p1 : Nat} {p2 : Int64} {x3 : Int32} {x4 : Int32} {I : zI} {L : zL} {P : zP} (hP : zPk P) (hv : v_J7_fill_d0a16_6 d Q p1 p2 x3 x4 I L P) : gw_J7_fill_d0a16 d Q 6 [some (.ref p1), some (.long p2), none, some (.int x3), some (.int x4)] [] I L P := by
  unfold v_J7_fill_d0a16_6 at hv
  refine z_iload_n dJ7_fill_d0a16_6 rfl ?_
  refine z_iload dJ7_fill_d0a16_7 rfl ?_
  refine z_icmp_ge (tgt := 22) dJ7_fill_d0a16_9 (by decide) (fun q8 => ?_) (fun q8 => ?_)
  · have hv := hv.1 q8
    exact z_return dJ7_fill_d0a16_22 rfl (Nat.le_refl _) (Nat.le_refl _) hv
  · have hv := hv.2 q8
    refine z_aload_n dJ7_fill_d0a16_12 rfl ?_
    refine z_iload_n dJ7_fill_d0a16_13 rfl ?_
    refine z_lload_n dJ7_fill_d0a16_14 rfl ?_
    obtain ⟨n4, h3, hv⟩ := hv
    obtain ⟨h5, hv⟩ := hv
    refine z_lastore dJ7_fill_d0a16_15 h3.1 h3.2 h5 (z_nmL (fun L7 e6 => ?_))
    have hv := hv L7 e6
    refine z_iinc (v2 := x3 + 1) (lv2 := [some (.ref p1), some (.long p2), none, some (.int (x3 + 1)), some (.int x4)]) dJ7_fill_d0a16_16 rfl (by rfl) (by decide) rfl rfl ?_
    refine z_goto (tgt := 6) dJ7_fill_d0a16_19 (by decide) ?_
    exact hv
def v_J7_fill_d0a16 (d : Nat) (Q : zQt) (p1 : Nat) (p2 : Int64) (I : zI) (L : zL) (P : zP) : Prop :=
  ∃ n2, (p1 < 205 ∧ zsh p1 = (101, n2)) ∧
  gw_J7_fill_d0a16 d Q 6 [some (.ref p1), some (.long p2), none, some (.int 0), some (.int (Int32.ofNat n2))] [] I L P
set_option maxRecDepth 20000 in
theorem g_J7_fill_d0a16 {d : Nat} {Q : zQt} {p1 : Nat} {p2 : Int64} {I : zI} {L : zL} {P : zP} (hP : zPk P) (hv : v_J7_fill_d0a16 d Q p1 p2 I L P) : zM zm_J7_fill_d0a16 d 0 0 [.ref p1, .long p2] I L P 205 Q := by
  unfold v_J7_fill_d0a16 at hv
  refine zM_of (lv0 := [some (.ref p1), some (.long p2), none, none, none]) (by decide +kernel) (Nat.le_of_ble_eq_true rfl) rfl ?_
  refine z_iconst (v := 0) dJ7_fill_d0a16_0 (by decide) ?_
  refine z_istore_n (lv2 := [some (.ref p1), some (.long p2), none, some (.int 0), none]) dJ7_fill_d0a16_1 (by decide) rfl rfl ?_
  refine z_aload_n dJ7_fill_d0a16_2 rfl ?_
  obtain ⟨n2, h1, hv⟩ := hv
  refine z_alenI dJ7_fill_d0a16_3 h1.1 h1.2 (Or.inr rfl) rfl ?_
  refine z_istore (lv2 := [some (.ref p1), some (.long p2), none, some (.int 0), some (.int (Int32.ofNat n2))]) dJ7_fill_d0a16_4 (by decide) rfl rfl ?_
  exact hv
abbrev gw_J7_fill_53178 (d : Nat) (Q : zQt) (pc : Nat) (lv : zV) (st : List Value) (I : zI) (L : zL) (P : zP) : Prop := zW zm_J7_fill_53178 (zRm d 0 0) 0 0 Q pc lv st I L P 205 0 0
def v_J7_fill_53178_5 (d : Nat) (Q : zQt) (p1 : Nat) (p2 : Int32) (x2 : Int32) (x3 : Int32) (I : zI) (L : zL) (P : zP) : Prop :=
  ((x3 ≤ x2 →
    Q none I L P 205
  ) ∧ (¬ x3 ≤ x2 →
    ∃ n4, (p1 < 205 ∧ zsh p1 = (100, n4)) ∧
    vp_in x2 n4 ∧
    ∀ I7 : zI, I7 = zuI I p1 x2.toNatClampNeg p2 →
    gw_J7_fill_53178 d Q 5 [some (.ref p1), some (.int p2), some (.int (x2 + 1)), some (.int x3)] [] I7 L P
  ))
set_option maxRecDepth 20000 in
theorem g_J7_fill_53178_5 {d : Nat} {Q : zQt} {p1 : Nat} {p2 : Int32} {x2 : Int32} {x3 : Int32} {I : zI} {L : zL} {P : zP} (hP : zPk P) (hv : v_J7_fill_53178_5 d Q p1 p2 x2 x3 I L P) : gw_J7_fill_53178 d Q 5 [some (.ref p1), some (.int p2), some (.int x2), some (.int x3)] [] I L P := by
  unfold v_J7_fill_53178_5 at hv
  refine z_iload_n dJ7_fill_53178_5 rfl ?_
  refine z_iload_n dJ7_fill_53178_6 rfl ?_
  refine z_icmp_ge (tgt := 20) dJ7_fill_53178_7 (by decide) (fun q8 => ?_) (fun q8 => ?_)
  · have hv := hv.1 q8
    exact z_return dJ7_fill_53178_20 rfl (Nat.le_refl _) (Nat.le_refl _) hv
  · have hv := hv.2 q8
    refine z_aload_n dJ7_fill_53178_10 rfl ?_
    refine z_iload_n dJ7_fill_53178_11 rfl ?_
    refine z_iload_n dJ7_fill_53178_12 rfl ?_
    obtain ⟨n4, h3, hv⟩ := hv
    obtain ⟨h5, hv⟩ := hv
    refine z_iastore dJ7_fill_53178_13 h3.1 h3.2 h5 (z_nmI (fun I7 e6 => ?_))
    have hv := hv I7 e6
    refine z_iinc (v2 := x2 + 1) (lv2 := [some (.ref p1), some (.int p2), some (.int (x2 + 1)), some (.int x3)]) dJ7_fill_53178_14 rfl (by rfl) (by decide) rfl rfl ?_
    refine z_goto (tgt := 5) dJ7_fill_53178_17 (by decide) ?_
    exact hv
def v_J7_fill_53178 (d : Nat) (Q : zQt) (p1 : Nat) (p2 : Int32) (I : zI) (L : zL) (P : zP) : Prop :=
  ∃ n2, (p1 < 205 ∧ zsh p1 = (100, n2)) ∧
  gw_J7_fill_53178 d Q 5 [some (.ref p1), some (.int p2), some (.int 0), some (.int (Int32.ofNat n2))] [] I L P
set_option maxRecDepth 20000 in
theorem g_J7_fill_53178 {d : Nat} {Q : zQt} {p1 : Nat} {p2 : Int32} {I : zI} {L : zL} {P : zP} (hP : zPk P) (hv : v_J7_fill_53178 d Q p1 p2 I L P) : zM zm_J7_fill_53178 d 0 0 [.ref p1, .int p2] I L P 205 Q := by
  unfold v_J7_fill_53178 at hv
  refine zM_of (lv0 := [some (.ref p1), some (.int p2), none, none]) (by decide +kernel) (Nat.le_of_ble_eq_true rfl) rfl ?_
  refine z_iconst (v := 0) dJ7_fill_53178_0 (by decide) ?_
  refine z_istore_n (lv2 := [some (.ref p1), some (.int p2), some (.int 0), none]) dJ7_fill_53178_1 (by decide) rfl rfl ?_
  refine z_aload_n dJ7_fill_53178_2 rfl ?_
  obtain ⟨n2, h1, hv⟩ := hv
  refine z_alenI dJ7_fill_53178_3 h1.1 h1.2 (Or.inl rfl) rfl ?_
  refine z_istore_n (lv2 := [some (.ref p1), some (.int p2), some (.int 0), some (.int (Int32.ofNat n2))]) dJ7_fill_53178_4 (by decide) rfl rfl ?_
  exact hv
