/-! ===== a new NinetyNights ===== -/
abbrev hw_X2_worldCount (nx d : Nat) (Q : zQt) (pc : Nat) (lv : zV) (st : List Value) (I : zI) (L : zL) (P : zP) : Prop := zW zm_X2_worldCount (zRm d 0 0) 0 0 Q pc lv st I L P nx 0 0
abbrev w_X2_worldCount (nx d : Nat) (Q : zQt) (a : Nat) (I : zI) (L : zL) (P : zP) : Prop :=
  (a < nx ∧ (zsh a).1 = 2) ∧
  Q (some (.int ((1 : Int32) <<< ((I a 0) &&& 31) : Int32))) I L P nx
set_option maxRecDepth 20000 in
theorem h_X2_worldCount {nx d : Nat} {Q : zQt} {a : Nat} {I : zI} {L : zL} {P : zP} (hv : w_X2_worldCount nx d Q a I L P) : zM zm_X2_worldCount d 0 0 [.ref a] I L P nx Q := by
  unfold w_X2_worldCount at hv
  refine zM_of (lv0 := [some (.ref a)]) (by decide +kernel) (Nat.le_of_ble_eq_true rfl) rfl ?_
  refine z_iconst (v := 1) dX2_worldCount_0 (by decide) ?_
  refine z_aload_n dX2_worldCount_1 rfl ?_
  obtain ⟨h1, hv⟩ := hv
  refine z_getI dX2_worldCount_2 zf_X2_29 h1.1 h1.2 (fun _ _ _ _ _ => rfl) ?_
  refine z_ishl dX2_worldCount_5 ?_
  exact z_ireturn dX2_worldCount_6 rfl rfl (Nat.le_refl _) (Nat.le_refl _) hv
abbrev hw_X10_open (nx d : Nat) (Q : zQt) (pc : Nat) (lv : zV) (st : List Value) (I : zI) (L : zL) (P : zP) : Prop := zW zm_X10_open (zRm d 0 0) 0 0 Q pc lv st I L P nx 0 0
abbrev w_X10_open_12 (nx d : Nat) (Q : zQt) (a : Nat) (p1 : Nat) (x2 : Int32) (x3 : Int32) (I : zI) (L : zL) (P : zP) : Prop :=
  (p1 < nx ∧ (zsh p1).1 = 2) ∧
  zNi nx zm_X2_worldCount d [.ref p1] I L P (fun r8 I4 L5 P6 =>
    ((r8 ≤ x3 →
      hw_X10_open nx (d + 1) Q 2 [some (.ref a), some (.ref p1), some (.int (x2 + 1)), none] [] I4 L5 P6
    ) ∧ (¬ r8 ≤ x3 →
      (a < nx ∧ (zsh a).1 = 9) ∧
      ∃ b11 : Nat, P6 a 0 = some b11 ∧
      ∃ n14, (b11 < nx ∧ zsh b11 = (104, n14)) ∧
      vp_in x2 n14 ∧
      ∃ b16 : Nat, P6 b11 x2.toNatClampNeg = some b16 ∧
      ∃ b18 : Nat, P6 p1 9 = some b18 ∧
      ∃ n21, (b18 < nx ∧ zsh b18 = (100, n21)) ∧
      vp_in x2 n21 ∧
      ∃ n24, (b16 < nx ∧ zsh b16 = (100, n24)) ∧
      vp_in x3 n24 ∧
      ∀ I27 : zI, I27 = zuI I4 b16 x3.toNatClampNeg (x3 &&& (I4 b18 x2.toNatClampNeg) : Int32) →
      hw_X10_open nx (d + 1) Q 12 [some (.ref a), some (.ref p1), some (.int x2), some (.int (x3 + 1))] [] I27 L5 P6
    ))
  )
set_option maxRecDepth 20000 in
theorem h_X10_open_12 {nx d : Nat} {Q : zQt} {a : Nat} {p1 : Nat} {x2 : Int32} {x3 : Int32} {I : zI} {L : zL} {P : zP} (hv : w_X10_open_12 nx d Q a p1 x2 x3 I L P) : hw_X10_open nx (d + 1) Q 12 [some (.ref a), some (.ref p1), some (.int x2), some (.int x3)] [] I L P := by
  unfold w_X10_open_12 at hv
  refine z_iload_n dX10_open_12 rfl ?_
  refine z_aload_n dX10_open_13 rfl ?_
  obtain ⟨h3, hv⟩ := hv
  refine z_callV (As := []) (st := [.int x3]) dX10_open_14 zl_X10_26 zv_X2_worldCount (by decide) rfl h3.1 h3.2 rfl rfl (Nat.le_of_ble_eq_true rfl) ⟨Nat.le_refl _, Nat.le_refl _⟩ ⟨Nat.le_refl _, Nat.le_refl _⟩ hv (fun v1 I4 L5 P6 nx1 q7 => ?_)
  obtain ⟨rfl, r8, rfl, hv⟩ := q7
  refine z_icmp_ge (tgt := 42) dX10_open_17 (by decide) (fun q9 => ?_) (fun q9 => ?_)
  · have hv := hv.1 q9
    refine z_iinc (v2 := x2 + 1) (lv2 := [some (.ref a), some (.ref p1), some (.int (x2 + 1)), some (.int x3)]) dX10_open_42 rfl (by rfl) (by decide) rfl rfl ?_
    refine z_goto (tgt := 2) dX10_open_45 (by decide) ?_
    exact z_sub (by exact ⟨rfl, ⟨rfl, ⟨rfl, trivial⟩⟩⟩) hv
  · have hv := hv.2 q9
    refine z_aload_n dX10_open_20 rfl ?_
    obtain ⟨h10, hv⟩ := hv
    obtain ⟨b11, h12, hv⟩ := hv
    refine z_getP dX10_open_21 zf_X10_13 h10.1 h10.2 (fun _ _ _ _ _ => rfl) h12 ?_
    refine z_iload_n dX10_open_24 rfl ?_
    obtain ⟨n14, h13, hv⟩ := hv
    obtain ⟨h15, hv⟩ := hv
    obtain ⟨b16, h17, hv⟩ := hv
    refine z_aaload dX10_open_25 h13.1 h13.2 (Or.inl rfl) h15 h17 ?_
    refine z_iload_n dX10_open_26 rfl ?_
    refine z_iload_n dX10_open_27 rfl ?_
    refine z_aload_n dX10_open_28 rfl ?_
    obtain ⟨b18, h19, hv⟩ := hv
    refine z_getP dX10_open_29 zf_X10_30 h3.1 h3.2 (fun _ _ _ _ _ => rfl) h19 ?_
    refine z_iload_n dX10_open_32 rfl ?_
    obtain ⟨n21, h20, hv⟩ := hv
    obtain ⟨h22, hv⟩ := hv
    refine z_iaload dX10_open_33 h20.1 h20.2 h22 ?_
    refine z_iand dX10_open_34 ?_
    obtain ⟨n24, h23, hv⟩ := hv
    obtain ⟨h25, hv⟩ := hv
    refine z_iastore dX10_open_35 h23.1 h23.2 h25 (z_nmI (fun I27 e26 => ?_))
    have hv := hv I27 e26
    refine z_iinc (v2 := x3 + 1) (lv2 := [some (.ref a), some (.ref p1), some (.int x2), some (.int (x3 + 1))]) dX10_open_36 rfl (by rfl) (by decide) rfl rfl ?_
    refine z_goto (tgt := 12) dX10_open_39 (by decide) ?_
    exact hv
abbrev w_X10_open_2 (nx d : Nat) (Q : zQt) (a : Nat) (p1 : Nat) (x2 : Int32) (I : zI) (L : zL) (P : zP) : Prop :=
  (p1 < nx ∧ (zsh p1).1 = 2) ∧
  (((I p1 0) ≤ x2 →
    Q none I L P nx
  ) ∧ (¬ (I p1 0) ≤ x2 →
    hw_X10_open nx (d + 1) Q 12 [some (.ref a), some (.ref p1), some (.int x2), some (.int 0)] [] I L P
  ))
set_option maxRecDepth 20000 in
theorem h_X10_open_2 {nx d : Nat} {Q : zQt} {a : Nat} {p1 : Nat} {x2 : Int32} {I : zI} {L : zL} {P : zP} (hv : w_X10_open_2 nx d Q a p1 x2 I L P) : hw_X10_open nx (d + 1) Q 2 [some (.ref a), some (.ref p1), some (.int x2), none] [] I L P := by
  unfold w_X10_open_2 at hv
  refine z_iload_n dX10_open_2 rfl ?_
  refine z_aload_n dX10_open_3 rfl ?_
  obtain ⟨h1, hv⟩ := hv
  refine z_getI dX10_open_4 zf_X10_22 h1.1 h1.2 (fun _ _ _ _ _ => rfl) ?_
  refine z_icmp_ge (tgt := 48) dX10_open_7 (by decide) (fun q2 => ?_) (fun q2 => ?_)
  · have hv := hv.1 q2
    exact z_return dX10_open_48 rfl (Nat.le_refl _) (Nat.le_refl _) hv
  · have hv := hv.2 q2
    refine z_iconst (v := 0) dX10_open_10 (by decide) ?_
    refine z_istore_n (lv2 := [some (.ref a), some (.ref p1), some (.int x2), some (.int 0)]) dX10_open_11 (by decide) rfl rfl ?_
    exact hv
abbrev w_X10_open (nx d : Nat) (Q : zQt) (a : Nat) (p1 : Nat) (I : zI) (L : zL) (P : zP) : Prop :=
  hw_X10_open nx (d + 1) Q 2 [some (.ref a), some (.ref p1), some (.int 0), none] [] I L P
set_option maxRecDepth 20000 in
theorem h_X10_open {nx d : Nat} {Q : zQt} {a : Nat} {p1 : Nat} {I : zI} {L : zL} {P : zP} (hv : w_X10_open nx d Q a p1 I L P) : zM zm_X10_open (d + 1) 0 0 [.ref a, .ref p1] I L P nx Q := by
  unfold w_X10_open at hv
  refine zM_of (lv0 := [some (.ref a), some (.ref p1), none, none]) (by decide +kernel) (Nat.le_of_ble_eq_true rfl) rfl ?_
  refine z_iconst (v := 0) dX10_open_0 (by decide) ?_
  refine z_istore_n (lv2 := [some (.ref a), some (.ref p1), some (.int 0), none]) dX10_open_1 (by decide) rfl rfl ?_
  exact hv
abbrev hw_X6_open (nx d : Nat) (Q : zQt) (pc : Nat) (lv : zV) (st : List Value) (I : zI) (L : zL) (P : zP) : Prop := zW zm_X6_open (zRm d 0 0) 0 0 Q pc lv st I L P nx 0 0
abbrev w_X6_open_15 (nx d : Nat) (Q : zQt) (a : Nat) (p1 : Nat) (x2 : Int32) (I : zI) (L : zL) (P : zP) : Prop :=
  (a < nx ∧ (zsh a).1 = 5) ∧
  (((I a 3) ≤ x2 →
    ∀ I14 : zI, I14 = zuI I a 4 0 →
    ∀ I16 : zI, I16 = zuI I14 a 5 0 →
    ∀ I18 : zI, I18 = zuI I16 a 6 0 →
    ∃ b20 : Nat, P a 0 = some b20 ∧
    (b20 < nx ∧ (zsh b20).1 = 9) ∧
    zNv nx zm_X10_open d [.ref b20, .ref p1] I18 L P (fun I23 L24 P25 =>
      Q none I23 L24 P25 nx
    )
  ) ∧ (¬ (I a 3) ≤ x2 →
    ∃ b28 : Nat, P a 2 = some b28 ∧
    ∃ n31, (b28 < nx ∧ zsh b28 = (100, n31)) ∧
    vp_in x2 n31 ∧
    ∀ I34 : zI, I34 = zuI I b28 x2.toNatClampNeg x2 →
    hw_X6_open nx (d + 1) Q 15 [some (.ref a), some (.ref p1), some (.int (x2 + 1))] [] I34 L P
  ))
set_option maxRecDepth 20000 in
theorem h_X6_open_15 {nx d : Nat} {Q : zQt} {a : Nat} {p1 : Nat} {x2 : Int32} {I : zI} {L : zL} {P : zP} (hv : w_X6_open_15 nx d Q a p1 x2 I L P) : hw_X6_open nx (d + 1) Q 15 [some (.ref a), some (.ref p1), some (.int x2)] [] I L P := by
  unfold w_X6_open_15 at hv
  refine z_iload_n dX6_open_15 rfl ?_
  refine z_aload_n dX6_open_16 rfl ?_
  obtain ⟨h12, hv⟩ := hv
  refine z_getI dX6_open_17 zf_X6_17 h12.1 h12.2 (fun _ _ _ _ _ => rfl) ?_
  refine z_icmp_ge (tgt := 36) dX6_open_20 (by decide) (fun q13 => ?_) (fun q13 => ?_)
  · have hv := hv.1 q13
    refine z_aload_n dX6_open_36 rfl ?_
    refine z_iconst (v := 0) dX6_open_37 (by decide) ?_
    refine z_putI dX6_open_38 zf_X6_21 h12.1 h12.2 (Or.inl rfl) (fun _ _ _ _ _ => rfl) rfl rfl (z_nmI (fun I14 e15 => ?_))
    have hv := hv I14 e15
    refine z_aload_n dX6_open_41 rfl ?_
    refine z_iconst (v := 0) dX6_open_42 (by decide) ?_
    refine z_putI dX6_open_43 zf_X6_24 h12.1 h12.2 (Or.inl rfl) (fun _ _ _ _ _ => rfl) rfl rfl (z_nmI (fun I16 e17 => ?_))
    have hv := hv I16 e17
    refine z_aload_n dX6_open_46 rfl ?_
    refine z_iconst (v := 0) dX6_open_47 (by decide) ?_
    refine z_putI dX6_open_48 zf_X6_27 h12.1 h12.2 (Or.inl rfl) (fun _ _ _ _ _ => rfl) rfl rfl (z_nmI (fun I18 e19 => ?_))
    have hv := hv I18 e19
    refine z_aload_n dX6_open_51 rfl ?_
    obtain ⟨b20, h21, hv⟩ := hv
    refine z_getP dX6_open_52 zf_X6_34 h12.1 h12.2 (fun _ _ _ _ _ => rfl) h21 ?_
    refine z_aload_n dX6_open_55 rfl ?_
    obtain ⟨h22, hv⟩ := hv
    refine z_callV (As := [.ref p1]) (st := []) dX6_open_56 zl_X6_42 zv_X10_open (by decide) rfl h22.1 h22.2 rfl rfl (Nat.le_of_ble_eq_true rfl) ⟨Nat.le_refl _, Nat.le_refl _⟩ ⟨Nat.le_refl _, Nat.le_refl _⟩ hv (fun v1 I23 L24 P25 nx1 q26 => ?_)
    obtain ⟨rfl, rfl, hv⟩ := q26
    exact z_return dX6_open_59 rfl (Nat.le_refl _) (Nat.le_refl _) hv
  · have hv := hv.2 q13
    refine z_aload_n dX6_open_23 rfl ?_
    obtain ⟨b28, h29, hv⟩ := hv
    refine z_getP dX6_open_24 zf_X6_11 h12.1 h12.2 (fun _ _ _ _ _ => rfl) h29 ?_
    refine z_iload_n dX6_open_27 rfl ?_
    refine z_iload_n dX6_open_28 rfl ?_
    obtain ⟨n31, h30, hv⟩ := hv
    obtain ⟨h32, hv⟩ := hv
    refine z_iastore dX6_open_29 h30.1 h30.2 h32 (z_nmI (fun I34 e33 => ?_))
    have hv := hv I34 e33
    refine z_iinc (v2 := x2 + 1) (lv2 := [some (.ref a), some (.ref p1), some (.int (x2 + 1))]) dX6_open_30 rfl (by rfl) (by decide) rfl rfl ?_
    refine z_goto (tgt := 15) dX6_open_33 (by decide) ?_
    exact hv
abbrev w_X6_open (nx d : Nat) (Q : zQt) (a : Nat) (p1 : Nat) (I : zI) (L : zL) (P : zP) : Prop :=
  (a < nx ∧ (zsh a).1 = 5) ∧
  ∀ P2 : zP, P2 = zuP P a 1 (some p1) →
  (p1 < nx ∧ (zsh p1).1 = 2) ∧
  zNi nx zm_X2_worldCount d [.ref p1] I L P2 (fun r9 I5 L6 P7 =>
    ∀ I10 : zI, I10 = zuI I5 a 3 r9 →
    hw_X6_open nx (d + 1) Q 15 [some (.ref a), some (.ref p1), some (.int 0)] [] I10 L6 P7
  )
set_option maxRecDepth 20000 in
theorem h_X6_open {nx d : Nat} {Q : zQt} {a : Nat} {p1 : Nat} {I : zI} {L : zL} {P : zP} (hv : w_X6_open nx d Q a p1 I L P) : zM zm_X6_open (d + 1) 0 0 [.ref a, .ref p1] I L P nx Q := by
  unfold w_X6_open at hv
  refine zM_of (lv0 := [some (.ref a), some (.ref p1), none]) (by decide +kernel) (Nat.le_of_ble_eq_true rfl) rfl ?_
  refine z_aload_n dX6_open_0 rfl ?_
  refine z_aload_n dX6_open_1 rfl ?_
  obtain ⟨h1, hv⟩ := hv
  refine z_putP dX6_open_2 zf_X6_30 h1.1 h1.2 (Or.inl rfl) (fun _ _ _ _ _ => rfl) (fun _ => rfl) (fun _ => rfl) (z_nmP (fun P2 e3 => ?_))
  have hv := hv P2 e3
  refine z_aload_n dX6_open_5 rfl ?_
  refine z_aload_n dX6_open_6 rfl ?_
  obtain ⟨h4, hv⟩ := hv
  refine z_callV (As := []) (st := [.ref a]) dX6_open_7 zl_X6_38 zv_X2_worldCount (by decide) rfl h4.1 h4.2 rfl rfl (Nat.le_of_ble_eq_true rfl) ⟨Nat.le_refl _, Nat.le_refl _⟩ ⟨Nat.le_refl _, Nat.le_refl _⟩ hv (fun v1 I5 L6 P7 nx1 q8 => ?_)
  obtain ⟨rfl, r9, rfl, hv⟩ := q8
  refine z_putI dX6_open_10 zf_X6_17 h1.1 h1.2 (Or.inl rfl) (fun _ _ _ _ _ => rfl) rfl rfl (z_nmI (fun I10 e11 => ?_))
  have hv := hv I10 e11
  refine z_iconst (v := 0) dX6_open_13 (by decide) ?_
  refine z_istore_n (lv2 := [some (.ref a), some (.ref p1), some (.int 0)]) dX6_open_14 (by decide) rfl rfl ?_
  exact hv
theorem zz_1 : ((1 : Int32) <<< ((0 : Int32) &&& 31) : Int32) = 1 := by decide
theorem op_new {d : Nat} {I : zI} {L : zL} {P : zP} {K : zI → zL → zP → Prop} (h5 : I 5 0 = 0) (p0 : P 73 0 = some 74) (p2 : P 73 2 = some 85) (hz : ∀ k, I 73 k = 0) (h85 : I 85 0 = 0) (kk : K (zuI I 73 3 1) L (zuP P 73 1 (some 5))) : zNv 160 zm_X6_open (d + 2) [.ref 73, .ref 5] I L P K := by
  refine h_X6_open ⟨⟨by decide, rfl⟩, fun P1 e1 => ⟨⟨by decide, rfl⟩, h_X2_worldCount ⟨⟨by decide, rfl⟩, ⟨rfl, _, rfl, fun I1 e2 => ?_⟩⟩⟩⟩
  rw [h5, zz_1] at e2
  subst e1
  subst e2
  have q0 : zuP P 73 1 (some 5) 73 0 = some 74 := by rw [zuP_at]; exact p0
  have q2 : zuP P 73 1 (some 5) 73 2 = some 85 := by rw [zuP_at]; exact p2
  refine h_X6_open_15 ⟨⟨by decide, rfl⟩, fun q => absurd q (by rw [zuI_v]; decide), fun _ => ⟨85, q2, 256, ⟨by decide, rfl⟩, by unfold vp_in; decide, fun I2 e3 => ?_⟩⟩
  rw [zuI_id (by rw [show (0 : Int32).toNatClampNeg = 0 from by decide, zuI_ne (by decide)]; exact h85)] at e3
  subst e3
  refine h_X6_open_15 ⟨⟨by decide, rfl⟩, fun _ I3 e4 I4 e5 I5 e6 => ⟨74, q0, ⟨by decide, rfl⟩, ?_⟩, fun q => absurd (by rw [zuI_v]; decide) q⟩
  rw [zuI_id (by rw [zuI_o (by decide)]; exact hz 4)] at e4
  subst e4
  rw [zuI_id (by rw [zuI_o (by decide)]; exact hz 5)] at e5
  subst e5
  rw [zuI_id (by rw [zuI_o (by decide)]; exact hz 6)] at e6
  subst e6
  refine h_X10_open (h_X10_open_2 ⟨⟨by decide, rfl⟩, fun _ => ⟨rfl, rfl, rfl, rfl, kk⟩, fun q => absurd (by rw [zuI_ne (by decide), h5]; decide) q⟩)
def lNN : List ((Nat × Nat) × Nat) := ((73, 1), 5) :: ((88, 2), 147) :: ((147, 0), 148) :: ((147, 1), 5) :: ((147, 2), 159) :: ((148, 1), 158) :: ((148, 0), 149) :: (zrows 149 8 ++ (((88, 1), 134) :: ((134, 0), 135) :: ((134, 1), 5) :: ((134, 2), 146) :: ((135, 1), 145) :: ((135, 0), 136) :: (zrows 136 8 ++ (((88, 0), 121) :: ((121, 0), 122) :: ((121, 1), 5) :: ((121, 2), 133) :: ((122, 1), 132) :: ((122, 0), 123) :: (zrows 123 8 ++ (((0, 12), 120) :: ((0, 11), 96) :: ((96, 1), 107) :: ((107, 0), 108) :: ((107, 1), 5) :: ((107, 2), 119) :: ((108, 1), 118) :: ((108, 0), 109) :: (zrows 109 8 ++ (((96, 3), 106) :: ((96, 2), 105) :: ((96, 0), 97) :: (zrows 97 7 ++ (((0, 10), 90) :: ((90, 4), 95) :: ((90, 3), 94) :: ((90, 2), 93) :: ((90, 1), 92) :: ((90, 0), 91) :: ((0, 9), 89) :: ((0, 8), 88) :: ((0, 7), 86) :: ((86, 0), 74) :: ((86, 1), 5) :: ((86, 2), 87) :: ((0, 6), 73) :: ((73, 0), 74) :: ((73, 1), 5) :: ((73, 2), 85) :: ((74, 1), 84) :: ((74, 0), 75) :: (zrows 75 8 ++ (((0, 5), 23) :: ((23, 4), 72) :: ((23, 3), 71) :: ((23, 2), 70) :: ((23, 1), 69) :: ((23, 0), 24) :: (zrows 24 44 ++ (((0, 4), 17) :: ((17, 4), 3) :: ((17, 3), 5) :: ((17, 2), 18) :: ((18, 0), 1) :: ((18, 4), 22) :: ((18, 3), 21) :: ((18, 2), 20) :: ((18, 1), 19) :: ((0, 3), 11) :: ((11, 11), 16) :: ((11, 10), 14) :: ((14, 0), 15) :: ((11, 9), 13) :: ((11, 8), 12) :: ((0, 2), 5) :: ((5, 11), 10) :: ((5, 10), 8) :: ((8, 0), 9) :: ((5, 9), 7) :: ((5, 8), 6) :: ((0, 1), 3) :: ((3, 0), 4) :: ((0, 0), 1) :: ((1, 0), 2) :: []))))))))))))))
set_option maxRecDepth 20000 in
theorem k_X11_init {Q : zQt} {I : zI} {L : zL} (hF : zFz 1 I L (pL [])) (hI : ∀ k, I 0 k = 0) (kk : ∀ L', wdR L' → zFz 160 (zuI (zuI (zuI I 17 1 (-1)) 17 8 275) 73 3 1) L' (pL lNN) → Q none (zuI (zuI (zuI I 17 1 (-1)) 17 8 275) 73 3 1) L' (pL lNN) 160) : zM zm_X11_init 12 159 36423 [.ref 0] I L (pL []) 1 Q := by
  refine zM_of (lv0 := [some (.ref 0), none]) (by decide +kernel) (Nat.le_of_ble_eq_true rfl) rfl ?_
  have h1 := hF
  refine z_aload_n dX11_init_0 rfl ?_
  refine z_objInit dX11_init_1 zl_X11_1 (Nat.le_of_ble_eq_true rfl) ⟨(Nat.le_of_ble_eq_true rfl), (Nat.le_of_ble_eq_true rfl)⟩ ?_
  refine z_aload_n dX11_init_4 rfl ?_
  have hI1 : ∀ k, (I) 1 k = 0 := fun k => (hF 1 (Nat.le_refl _) k).1
  refine z_new (c := 7) dX11_init_5 (by decide) zy_X11_7 (by decide) rfl hF (Nat.le_of_ble_eq_true rfl) (Nat.le_of_ble_eq_true rfl) ?_
  show zW _ _ _ _ _ _ _ _ _ _ _ 2 1 2
  have hF : zFz 2 _ _ _ := zFz_le hF (Nat.le_succ _)
  refine z_dup dX11_init_8 rfl ?_
  refine z_callIN (As := []) (st := [.ref 1, .ref 0]) dX11_init_9 zl_X11_9 rfl rfl zx_X8_init rfl rfl (Nat.le_of_ble_eq_true rfl) ⟨(Nat.le_of_ble_eq_true rfl), (Nat.le_of_ble_eq_true rfl)⟩ ⟨(Nat.le_of_ble_eq_true rfl), (Nat.le_of_ble_eq_true rfl)⟩ (k_X8_init_1 (Q := (fun v I' L' P' nx' => none = v ∧ I = I' ∧ L = L' ∧ pL (((1, 0), 2) :: []) = P' ∧ 3 = nx' ∧ zFz 3 (I) L (pL (((1, 0), 2) :: [])))) hF hI1 (fun h => ⟨rfl, rfl, rfl, rfl, rfl, h⟩)) (fun v1 I1 L1 P1 nx1 q => ?_)
  obtain ⟨rfl, rfl, rfl, rfl, rfl, hF⟩ := q
  show zW _ _ _ _ _ _ _ _ _ _ _ 3 2 1602
  refine z_putPl dX11_init_12 zf_X11_10 (by decide) rfl (Or.inr ⟨rfl, rfl, rfl⟩) (fun _ _ _ _ _ => rfl) (fun _ => rfl) (fun _ => rfl) ?_
  have hF := zFz_put (a := 0) (k := 0) (b := 1) hF (by decide)
  refine z_aload_n dX11_init_15 rfl ?_
  have hI3 : ∀ k, (I) 3 k = 0 := fun k => (hF 3 (Nat.le_refl _) k).1
  refine z_new (c := 0) dX11_init_16 (by decide) zy_X11_16 (by decide) rfl hF (Nat.le_of_ble_eq_true rfl) (Nat.le_of_ble_eq_true rfl) ?_
  show zW _ _ _ _ _ _ _ _ _ _ _ 4 3 1604
  have hF : zFz 4 _ _ _ := zFz_le hF (Nat.le_succ _)
  refine z_dup dX11_init_19 rfl ?_
  refine z_callIN (As := []) (st := [.ref 3, .ref 0]) dX11_init_20 zl_X11_18 rfl rfl zx_X0_init rfl rfl (Nat.le_of_ble_eq_true rfl) ⟨(Nat.le_of_ble_eq_true rfl), (Nat.le_of_ble_eq_true rfl)⟩ ⟨(Nat.le_of_ble_eq_true rfl), (Nat.le_of_ble_eq_true rfl)⟩ (k_X0_init_3 (Q := (fun v I' L' P' nx' => none = v ∧ I = I' ∧ L = L' ∧ pL (((3, 0), 4) :: ((0, 0), 1) :: ((1, 0), 2) :: []) = P' ∧ 5 = nx' ∧ zFz 5 (I) L (pL (((3, 0), 4) :: ((0, 0), 1) :: ((1, 0), 2) :: [])))) hF hI3 (fun h => ⟨rfl, rfl, rfl, rfl, rfl, h⟩)) (fun v1 I1 L1 P1 nx1 q => ?_)
  obtain ⟨rfl, rfl, rfl, rfl, rfl, hF⟩ := q
  show zW _ _ _ _ _ _ _ _ _ _ _ 5 4 2204
  refine z_putPl dX11_init_23 zf_X11_19 (by decide) rfl (Or.inr ⟨rfl, rfl, rfl⟩) (fun _ _ _ _ _ => rfl) (fun _ => rfl) (fun _ => rfl) ?_
  have hF := zFz_put (a := 0) (k := 1) (b := 3) hF (by decide)
  refine z_aload_n dX11_init_26 rfl ?_
  have hI5 : ∀ k, (I) 5 k = 0 := fun k => (hF 5 (Nat.le_refl _) k).1
  refine z_new (c := 2) dX11_init_27 (by decide) zy_X11_23 (by decide) rfl hF (Nat.le_of_ble_eq_true rfl) (Nat.le_of_ble_eq_true rfl) ?_
  show zW _ _ _ _ _ _ _ _ _ _ _ 6 5 2216
  have hF : zFz 6 _ _ _ := zFz_le hF (Nat.le_succ _)
  refine z_dup dX11_init_30 rfl ?_
  refine z_callIN (As := []) (st := [.ref 5, .ref 0]) dX11_init_31 zl_X11_25 rfl rfl zx_X2_init rfl rfl (Nat.le_of_ble_eq_true rfl) ⟨(Nat.le_of_ble_eq_true rfl), (Nat.le_of_ble_eq_true rfl)⟩ ⟨(Nat.le_of_ble_eq_true rfl), (Nat.le_of_ble_eq_true rfl)⟩ (k_X2_init_5 (Q := (fun v I' L' P' nx' => none = v ∧ I = I' ∧ L = L' ∧ pL (((5, 11), 10) :: ((5, 10), 8) :: ((8, 0), 9) :: ((5, 9), 7) :: ((5, 8), 6) :: ((0, 1), 3) :: ((3, 0), 4) :: ((0, 0), 1) :: ((1, 0), 2) :: []) = P' ∧ 11 = nx' ∧ zFz 11 (I) L (pL (((5, 11), 10) :: ((5, 10), 8) :: ((8, 0), 9) :: ((5, 9), 7) :: ((5, 8), 6) :: ((0, 1), 3) :: ((3, 0), 4) :: ((0, 0), 1) :: ((1, 0), 2) :: [])))) hF hI5 (fun h => ⟨rfl, rfl, rfl, rfl, rfl, h⟩)) (fun v1 I1 L1 P1 nx1 q => ?_)
  obtain ⟨rfl, rfl, rfl, rfl, rfl, hF⟩ := q
  show zW _ _ _ _ _ _ _ _ _ _ _ 11 10 2841
  refine z_putPl dX11_init_34 zf_X11_26 (by decide) rfl (Or.inl rfl) (fun _ _ _ _ _ => rfl) (fun _ => rfl) (fun _ => rfl) ?_
  have hF := zFz_put (a := 0) (k := 2) (b := 5) hF (by decide)
  refine z_aload_n dX11_init_37 rfl ?_
  have hI11 : ∀ k, (I) 11 k = 0 := fun k => (hF 11 (Nat.le_refl _) k).1
  refine z_new (c := 2) dX11_init_38 (by decide) zy_X11_23 (by decide) rfl hF (Nat.le_of_ble_eq_true rfl) (Nat.le_of_ble_eq_true rfl) ?_
  show zW _ _ _ _ _ _ _ _ _ _ _ 12 11 2853
  have hF : zFz 12 _ _ _ := zFz_le hF (Nat.le_succ _)
  refine z_dup dX11_init_41 rfl ?_
  refine z_callIN (As := []) (st := [.ref 11, .ref 0]) dX11_init_42 zl_X11_25 rfl rfl zx_X2_init rfl rfl (Nat.le_of_ble_eq_true rfl) ⟨(Nat.le_of_ble_eq_true rfl), (Nat.le_of_ble_eq_true rfl)⟩ ⟨(Nat.le_of_ble_eq_true rfl), (Nat.le_of_ble_eq_true rfl)⟩ (k_X2_init_11 (Q := (fun v I' L' P' nx' => none = v ∧ I = I' ∧ L = L' ∧ pL (((11, 11), 16) :: ((11, 10), 14) :: ((14, 0), 15) :: ((11, 9), 13) :: ((11, 8), 12) :: ((0, 2), 5) :: ((5, 11), 10) :: ((5, 10), 8) :: ((8, 0), 9) :: ((5, 9), 7) :: ((5, 8), 6) :: ((0, 1), 3) :: ((3, 0), 4) :: ((0, 0), 1) :: ((1, 0), 2) :: []) = P' ∧ 17 = nx' ∧ zFz 17 (I) L (pL (((11, 11), 16) :: ((11, 10), 14) :: ((14, 0), 15) :: ((11, 9), 13) :: ((11, 8), 12) :: ((0, 2), 5) :: ((5, 11), 10) :: ((5, 10), 8) :: ((8, 0), 9) :: ((5, 9), 7) :: ((5, 8), 6) :: ((0, 1), 3) :: ((3, 0), 4) :: ((0, 0), 1) :: ((1, 0), 2) :: [])))) hF hI11 (fun h => ⟨rfl, rfl, rfl, rfl, rfl, h⟩)) (fun v1 I1 L1 P1 nx1 q => ?_)
  obtain ⟨rfl, rfl, rfl, rfl, rfl, hF⟩ := q
  show zW _ _ _ _ _ _ _ _ _ _ _ 17 16 3478
  refine z_putPl dX11_init_45 zf_X11_30 (by decide) rfl (Or.inl rfl) (fun _ _ _ _ _ => rfl) (fun _ => rfl) (fun _ => rfl) ?_
  have hF := zFz_put (a := 0) (k := 3) (b := 11) hF (by decide)
  refine z_aload_n dX11_init_48 rfl ?_
  have hI17 : ∀ k, (I) 17 k = 0 := fun k => (hF 17 (Nat.le_refl _) k).1
  refine z_new (c := 4) dX11_init_49 (by decide) zy_X11_33 (by decide) rfl hF (Nat.le_of_ble_eq_true rfl) (Nat.le_of_ble_eq_true rfl) ?_
  show zW _ _ _ _ _ _ _ _ _ _ _ 18 17 3487
  have hF : zFz 18 _ _ _ := zFz_le hF (Nat.le_succ _)
  refine z_dup dX11_init_52 rfl ?_
  refine z_aload_n dX11_init_53 rfl ?_
  refine z_getP (b := 1) dX11_init_54 zf_X11_10 (by decide) rfl (fun _ _ _ _ _ => rfl) (by decide +kernel) ?_
  refine z_aload_n dX11_init_57 rfl ?_
  refine z_getP (b := 5) dX11_init_58 zf_X11_26 (by decide) rfl (fun _ _ _ _ _ => rfl) (by decide +kernel) ?_
  refine z_aload_n dX11_init_61 rfl ?_
  refine z_getP (b := 3) dX11_init_62 zf_X11_19 (by decide) rfl (fun _ _ _ _ _ => rfl) (by decide +kernel) ?_
  refine z_callI (As := [.ref 1, .ref 5, .ref 3]) (st := [.ref 17, .ref 0]) dX11_init_65 zl_X11_35 rfl rfl zx_X5_init rfl rfl (Nat.le_of_ble_eq_true rfl) ⟨(Nat.le_of_ble_eq_true rfl), (Nat.le_of_ble_eq_true rfl)⟩ ⟨(Nat.le_of_ble_eq_true rfl), (Nat.le_of_ble_eq_true rfl)⟩ (k_X5_init_17 (Q := (fun v I' L' P' nx' => none = v ∧ zuI (zuI I 17 1 (-1)) 17 8 275 = I' ∧ wdR L' ∧ pL (((17, 4), 3) :: ((17, 3), 5) :: ((17, 2), 18) :: ((18, 0), 1) :: ((18, 4), 22) :: ((18, 3), 21) :: ((18, 2), 20) :: ((18, 1), 19) :: ((0, 3), 11) :: ((11, 11), 16) :: ((11, 10), 14) :: ((14, 0), 15) :: ((11, 9), 13) :: ((11, 8), 12) :: ((0, 2), 5) :: ((5, 11), 10) :: ((5, 10), 8) :: ((8, 0), 9) :: ((5, 9), 7) :: ((5, 8), 6) :: ((0, 1), 3) :: ((3, 0), 4) :: ((0, 0), 1) :: ((1, 0), 2) :: []) = P' ∧ 23 = nx' ∧ zFz 23 (zuI (zuI I 17 1 (-1)) 17 8 275) L' (pL (((17, 4), 3) :: ((17, 3), 5) :: ((17, 2), 18) :: ((18, 0), 1) :: ((18, 4), 22) :: ((18, 3), 21) :: ((18, 2), 20) :: ((18, 1), 19) :: ((0, 3), 11) :: ((11, 11), 16) :: ((11, 10), 14) :: ((14, 0), 15) :: ((11, 9), 13) :: ((11, 8), 12) :: ((0, 2), 5) :: ((5, 11), 10) :: ((5, 10), 8) :: ((8, 0), 9) :: ((5, 9), 7) :: ((5, 8), 6) :: ((0, 1), 3) :: ((3, 0), 4) :: ((0, 0), 1) :: ((1, 0), 2) :: [])))) hF hI17 (fun L9 hw h => ⟨rfl, rfl, hw, rfl, rfl, h⟩)) (fun v1 I1 L1 P1 nx1 q => ?_)
  obtain ⟨rfl, rfl, hw, rfl, rfl, hF⟩ := q
  show zW _ _ _ _ _ _ _ _ _ _ _ 23 22 8314
  refine z_putPl dX11_init_68 zf_X11_38 (by decide) rfl (Or.inr ⟨rfl, rfl, rfl⟩) (fun _ _ _ _ _ => rfl) (fun _ => rfl) (fun _ => rfl) ?_
  have hF := zFz_put (a := 0) (k := 4) (b := 17) hF (by decide)
  refine z_aload_n dX11_init_71 rfl ?_
  have hI23 : ∀ k, (zuI (zuI I 17 1 (-1)) 17 8 275) 23 k = 0 := fun k => (hF 23 (Nat.le_refl _) k).1
  refine z_new (c := 3) dX11_init_72 (by decide) zy_X11_42 (by decide) rfl hF (Nat.le_of_ble_eq_true rfl) (Nat.le_of_ble_eq_true rfl) ?_
  show zW _ _ _ _ _ _ _ _ _ _ _ 24 23 8320
  have hF : zFz 24 _ _ _ := zFz_le hF (Nat.le_succ _)
  refine z_dup dX11_init_75 rfl ?_
  refine z_callIN (As := []) (st := [.ref 23, .ref 0]) dX11_init_76 zl_X11_44 rfl rfl zx_X4_init rfl rfl (Nat.le_of_ble_eq_true rfl) ⟨(Nat.le_of_ble_eq_true rfl), (Nat.le_of_ble_eq_true rfl)⟩ ⟨(Nat.le_of_ble_eq_true rfl), (Nat.le_of_ble_eq_true rfl)⟩ (k_X4_init_23 (Q := (fun v I' L' P' nx' => none = v ∧ zuI (zuI I 17 1 (-1)) 17 8 275 = I' ∧ L1 = L' ∧ pL (((23, 4), 72) :: ((23, 3), 71) :: ((23, 2), 70) :: ((23, 1), 69) :: ((23, 0), 24) :: (zrows 24 44 ++ (((0, 4), 17) :: ((17, 4), 3) :: ((17, 3), 5) :: ((17, 2), 18) :: ((18, 0), 1) :: ((18, 4), 22) :: ((18, 3), 21) :: ((18, 2), 20) :: ((18, 1), 19) :: ((0, 3), 11) :: ((11, 11), 16) :: ((11, 10), 14) :: ((14, 0), 15) :: ((11, 9), 13) :: ((11, 8), 12) :: ((0, 2), 5) :: ((5, 11), 10) :: ((5, 10), 8) :: ((8, 0), 9) :: ((5, 9), 7) :: ((5, 8), 6) :: ((0, 1), 3) :: ((3, 0), 4) :: ((0, 0), 1) :: ((1, 0), 2) :: []))) = P' ∧ 73 = nx' ∧ zFz 73 (zuI (zuI I 17 1 (-1)) 17 8 275) L1 (pL (((23, 4), 72) :: ((23, 3), 71) :: ((23, 2), 70) :: ((23, 1), 69) :: ((23, 0), 24) :: (zrows 24 44 ++ (((0, 4), 17) :: ((17, 4), 3) :: ((17, 3), 5) :: ((17, 2), 18) :: ((18, 0), 1) :: ((18, 4), 22) :: ((18, 3), 21) :: ((18, 2), 20) :: ((18, 1), 19) :: ((0, 3), 11) :: ((11, 11), 16) :: ((11, 10), 14) :: ((14, 0), 15) :: ((11, 9), 13) :: ((11, 8), 12) :: ((0, 2), 5) :: ((5, 11), 10) :: ((5, 10), 8) :: ((8, 0), 9) :: ((5, 9), 7) :: ((5, 8), 6) :: ((0, 1), 3) :: ((3, 0), 4) :: ((0, 0), 1) :: ((1, 0), 2) :: [])))))) hF hI23 (fun h => ⟨rfl, rfl, rfl, rfl, rfl, h⟩)) (fun v1 I1 L1 P1 nx1 q => ?_)
  obtain ⟨rfl, rfl, rfl, rfl, rfl, hF⟩ := q
  show zW _ _ _ _ _ _ _ _ _ _ _ 73 72 20652
  refine z_putPl dX11_init_79 zf_X11_45 (by decide) rfl (Or.inr ⟨rfl, rfl, rfl⟩) (fun _ _ _ _ _ => rfl) (fun _ => rfl) (fun _ => rfl) ?_
  have hF := zFz_put (a := 0) (k := 5) (b := 23) hF (by decide)
  refine z_aload_n dX11_init_82 rfl ?_
  have hI73 : ∀ k, (zuI (zuI I 17 1 (-1)) 17 8 275) 73 k = 0 := fun k => (hF 73 (Nat.le_refl _) k).1
  refine z_new (c := 5) dX11_init_83 (by decide) zy_X11_49 (by decide) rfl hF (Nat.le_of_ble_eq_true rfl) (Nat.le_of_ble_eq_true rfl) ?_
  show zW _ _ _ _ _ _ _ _ _ _ _ 74 73 20659
  have hF : zFz 74 _ _ _ := zFz_le hF (Nat.le_succ _)
  refine z_dup dX11_init_86 rfl ?_
  refine z_aload_n dX11_init_87 rfl ?_
  refine z_getP (b := 5) dX11_init_88 zf_X11_26 (by decide) rfl (fun _ _ _ _ _ => rfl) (by decide +kernel) ?_
  have hI74 : ∀ k, (zuI (zuI I 17 1 (-1)) 17 8 275) 74 k = 0 := fun k => (hF 74 (Nat.le_refl _) k).1
  refine z_new (c := 9) dX11_init_91 (by decide) zy_X11_51 (by decide) rfl hF (Nat.le_of_ble_eq_true rfl) (Nat.le_of_ble_eq_true rfl) ?_
  show zW _ _ _ _ _ _ _ _ _ _ _ 75 74 20661
  have hF : zFz 75 _ _ _ := zFz_le hF (Nat.le_succ _)
  refine z_dup dX11_init_94 rfl ?_
  refine z_callIN (As := []) (st := [.ref 74, .ref 5, .ref 73, .ref 73, .ref 0]) dX11_init_95 zl_X11_53 rfl rfl zx_X10_init rfl rfl (Nat.le_of_ble_eq_true rfl) ⟨(Nat.le_of_ble_eq_true rfl), (Nat.le_of_ble_eq_true rfl)⟩ ⟨(Nat.le_of_ble_eq_true rfl), (Nat.le_of_ble_eq_true rfl)⟩ (k_X10_init_74 (Q := (fun v I' L' P' nx' => none = v ∧ zuI (zuI I 17 1 (-1)) 17 8 275 = I' ∧ L1 = L' ∧ pL (((74, 1), 84) :: ((74, 0), 75) :: (zrows 75 8 ++ (((0, 5), 23) :: ((23, 4), 72) :: ((23, 3), 71) :: ((23, 2), 70) :: ((23, 1), 69) :: ((23, 0), 24) :: (zrows 24 44 ++ (((0, 4), 17) :: ((17, 4), 3) :: ((17, 3), 5) :: ((17, 2), 18) :: ((18, 0), 1) :: ((18, 4), 22) :: ((18, 3), 21) :: ((18, 2), 20) :: ((18, 1), 19) :: ((0, 3), 11) :: ((11, 11), 16) :: ((11, 10), 14) :: ((14, 0), 15) :: ((11, 9), 13) :: ((11, 8), 12) :: ((0, 2), 5) :: ((5, 11), 10) :: ((5, 10), 8) :: ((8, 0), 9) :: ((5, 9), 7) :: ((5, 8), 6) :: ((0, 1), 3) :: ((3, 0), 4) :: ((0, 0), 1) :: ((1, 0), 2) :: []))))) = P' ∧ 85 = nx' ∧ zFz 85 (zuI (zuI I 17 1 (-1)) 17 8 275) L1 (pL (((74, 1), 84) :: ((74, 0), 75) :: (zrows 75 8 ++ (((0, 5), 23) :: ((23, 4), 72) :: ((23, 3), 71) :: ((23, 2), 70) :: ((23, 1), 69) :: ((23, 0), 24) :: (zrows 24 44 ++ (((0, 4), 17) :: ((17, 4), 3) :: ((17, 3), 5) :: ((17, 2), 18) :: ((18, 0), 1) :: ((18, 4), 22) :: ((18, 3), 21) :: ((18, 2), 20) :: ((18, 1), 19) :: ((0, 3), 11) :: ((11, 11), 16) :: ((11, 10), 14) :: ((14, 0), 15) :: ((11, 9), 13) :: ((11, 8), 12) :: ((0, 2), 5) :: ((5, 11), 10) :: ((5, 10), 8) :: ((8, 0), 9) :: ((5, 9), 7) :: ((5, 8), 6) :: ((0, 1), 3) :: ((3, 0), 4) :: ((0, 0), 1) :: ((1, 0), 2) :: [])))))))) hF hI74 (fun h => ⟨rfl, rfl, rfl, rfl, rfl, h⟩)) (fun v1 I1 L1 P1 nx1 q => ?_)
  obtain ⟨rfl, rfl, rfl, rfl, rfl, hF⟩ := q
  show zW _ _ _ _ _ _ _ _ _ _ _ 85 84 23229
  refine z_callI (As := [.ref 5, .ref 74]) (st := [.ref 73, .ref 0]) dX11_init_98 zl_X11_54 rfl rfl zx_X6_init rfl rfl (Nat.le_of_ble_eq_true rfl) ⟨(Nat.le_of_ble_eq_true rfl), (Nat.le_of_ble_eq_true rfl)⟩ ⟨(Nat.le_of_ble_eq_true rfl), (Nat.le_of_ble_eq_true rfl)⟩ (k_X6_init_73 (Q := (fun v I' L' P' nx' => none = v ∧ zuI (zuI I 17 1 (-1)) 17 8 275 = I' ∧ L1 = L' ∧ pL (((73, 0), 74) :: ((73, 1), 5) :: ((73, 2), 85) :: ((74, 1), 84) :: ((74, 0), 75) :: (zrows 75 8 ++ (((0, 5), 23) :: ((23, 4), 72) :: ((23, 3), 71) :: ((23, 2), 70) :: ((23, 1), 69) :: ((23, 0), 24) :: (zrows 24 44 ++ (((0, 4), 17) :: ((17, 4), 3) :: ((17, 3), 5) :: ((17, 2), 18) :: ((18, 0), 1) :: ((18, 4), 22) :: ((18, 3), 21) :: ((18, 2), 20) :: ((18, 1), 19) :: ((0, 3), 11) :: ((11, 11), 16) :: ((11, 10), 14) :: ((14, 0), 15) :: ((11, 9), 13) :: ((11, 8), 12) :: ((0, 2), 5) :: ((5, 11), 10) :: ((5, 10), 8) :: ((8, 0), 9) :: ((5, 9), 7) :: ((5, 8), 6) :: ((0, 1), 3) :: ((3, 0), 4) :: ((0, 0), 1) :: ((1, 0), 2) :: []))))) = P' ∧ 86 = nx' ∧ zFz 86 (zuI (zuI I 17 1 (-1)) 17 8 275) L1 (pL (((73, 0), 74) :: ((73, 1), 5) :: ((73, 2), 85) :: ((74, 1), 84) :: ((74, 0), 75) :: (zrows 75 8 ++ (((0, 5), 23) :: ((23, 4), 72) :: ((23, 3), 71) :: ((23, 2), 70) :: ((23, 1), 69) :: ((23, 0), 24) :: (zrows 24 44 ++ (((0, 4), 17) :: ((17, 4), 3) :: ((17, 3), 5) :: ((17, 2), 18) :: ((18, 0), 1) :: ((18, 4), 22) :: ((18, 3), 21) :: ((18, 2), 20) :: ((18, 1), 19) :: ((0, 3), 11) :: ((11, 11), 16) :: ((11, 10), 14) :: ((14, 0), 15) :: ((11, 9), 13) :: ((11, 8), 12) :: ((0, 2), 5) :: ((5, 11), 10) :: ((5, 10), 8) :: ((8, 0), 9) :: ((5, 9), 7) :: ((5, 8), 6) :: ((0, 1), 3) :: ((3, 0), 4) :: ((0, 0), 1) :: ((1, 0), 2) :: [])))))))) hF hI73 (fun h => ⟨rfl, rfl, rfl, rfl, rfl, h⟩)) (fun v1 I1 L1 P1 nx1 q => ?_)
  obtain ⟨rfl, rfl, rfl, rfl, rfl, hF⟩ := q
  show zW _ _ _ _ _ _ _ _ _ _ _ 86 85 23485
  refine z_putPl dX11_init_101 zf_X11_57 (by decide) rfl (Or.inr ⟨rfl, rfl, rfl⟩) (fun _ _ _ _ _ => rfl) (fun _ => rfl) (fun _ => rfl) ?_
  have hF := zFz_put (a := 0) (k := 6) (b := 73) hF (by decide)
  refine z_aload_n dX11_init_104 rfl ?_
  have hI86 : ∀ k, (zuI (zuI I 17 1 (-1)) 17 8 275) 86 k = 0 := fun k => (hF 86 (Nat.le_refl _) k).1
  refine z_new (c := 5) dX11_init_105 (by decide) zy_X11_49 (by decide) rfl hF (Nat.le_of_ble_eq_true rfl) (Nat.le_of_ble_eq_true rfl) ?_
  show zW _ _ _ _ _ _ _ _ _ _ _ 87 86 23492
  have hF : zFz 87 _ _ _ := zFz_le hF (Nat.le_succ _)
  refine z_dup dX11_init_108 rfl ?_
  refine z_aload_n dX11_init_109 rfl ?_
  refine z_getP (b := 5) dX11_init_110 zf_X11_26 (by decide) rfl (fun _ _ _ _ _ => rfl) (by decide +kernel) ?_
  refine z_aload_n dX11_init_113 rfl ?_
  refine z_getP (b := 73) dX11_init_114 zf_X11_57 (by decide) rfl (fun _ _ _ _ _ => rfl) (by decide +kernel) ?_
  refine z_getP (b := 74) dX11_init_117 zf_X11_61 (by decide) rfl (fun _ _ _ _ _ => rfl) (by decide +kernel) ?_
  refine z_callI (As := [.ref 5, .ref 74]) (st := [.ref 86, .ref 0]) dX11_init_120 zl_X11_54 rfl rfl zx_X6_init rfl rfl (Nat.le_of_ble_eq_true rfl) ⟨(Nat.le_of_ble_eq_true rfl), (Nat.le_of_ble_eq_true rfl)⟩ ⟨(Nat.le_of_ble_eq_true rfl), (Nat.le_of_ble_eq_true rfl)⟩ (k_X6_init_86 (Q := (fun v I' L' P' nx' => none = v ∧ zuI (zuI I 17 1 (-1)) 17 8 275 = I' ∧ L1 = L' ∧ pL (((86, 0), 74) :: ((86, 1), 5) :: ((86, 2), 87) :: ((0, 6), 73) :: ((73, 0), 74) :: ((73, 1), 5) :: ((73, 2), 85) :: ((74, 1), 84) :: ((74, 0), 75) :: (zrows 75 8 ++ (((0, 5), 23) :: ((23, 4), 72) :: ((23, 3), 71) :: ((23, 2), 70) :: ((23, 1), 69) :: ((23, 0), 24) :: (zrows 24 44 ++ (((0, 4), 17) :: ((17, 4), 3) :: ((17, 3), 5) :: ((17, 2), 18) :: ((18, 0), 1) :: ((18, 4), 22) :: ((18, 3), 21) :: ((18, 2), 20) :: ((18, 1), 19) :: ((0, 3), 11) :: ((11, 11), 16) :: ((11, 10), 14) :: ((14, 0), 15) :: ((11, 9), 13) :: ((11, 8), 12) :: ((0, 2), 5) :: ((5, 11), 10) :: ((5, 10), 8) :: ((8, 0), 9) :: ((5, 9), 7) :: ((5, 8), 6) :: ((0, 1), 3) :: ((3, 0), 4) :: ((0, 0), 1) :: ((1, 0), 2) :: []))))) = P' ∧ 88 = nx' ∧ zFz 88 (zuI (zuI I 17 1 (-1)) 17 8 275) L1 (pL (((86, 0), 74) :: ((86, 1), 5) :: ((86, 2), 87) :: ((0, 6), 73) :: ((73, 0), 74) :: ((73, 1), 5) :: ((73, 2), 85) :: ((74, 1), 84) :: ((74, 0), 75) :: (zrows 75 8 ++ (((0, 5), 23) :: ((23, 4), 72) :: ((23, 3), 71) :: ((23, 2), 70) :: ((23, 1), 69) :: ((23, 0), 24) :: (zrows 24 44 ++ (((0, 4), 17) :: ((17, 4), 3) :: ((17, 3), 5) :: ((17, 2), 18) :: ((18, 0), 1) :: ((18, 4), 22) :: ((18, 3), 21) :: ((18, 2), 20) :: ((18, 1), 19) :: ((0, 3), 11) :: ((11, 11), 16) :: ((11, 10), 14) :: ((14, 0), 15) :: ((11, 9), 13) :: ((11, 8), 12) :: ((0, 2), 5) :: ((5, 11), 10) :: ((5, 10), 8) :: ((8, 0), 9) :: ((5, 9), 7) :: ((5, 8), 6) :: ((0, 1), 3) :: ((3, 0), 4) :: ((0, 0), 1) :: ((1, 0), 2) :: [])))))))) hF hI86 (fun h => ⟨rfl, rfl, rfl, rfl, rfl, h⟩)) (fun v1 I1 L1 P1 nx1 q => ?_)
  obtain ⟨rfl, rfl, rfl, rfl, rfl, hF⟩ := q
  show zW _ _ _ _ _ _ _ _ _ _ _ 88 87 23748
  refine z_putPl dX11_init_123 zf_X11_65 (by decide) rfl (Or.inr ⟨rfl, rfl, rfl⟩) (fun _ _ _ _ _ => rfl) (fun _ => rfl) (fun _ => rfl) ?_
  have hF := zFz_put (a := 0) (k := 7) (b := 86) hF (by decide)
  refine z_aload_n dX11_init_126 rfl ?_
  refine z_iconst (v := 3) dX11_init_127 (by decide) ?_
  refine z_newQ (N := 3) dX11_init_128 zy_X11_49.1 (by decide) rfl (by decide) (by decide) (by decide) hF (Nat.le_of_ble_eq_true rfl) (Nat.le_of_ble_eq_true rfl) ?_
  show zW _ _ _ _ _ _ _ _ _ _ _ 89 88 23751
  have hF : zFz 89 _ _ _ := zFz_le hF (Nat.le_succ _)
  refine z_putPl dX11_init_131 zf_X11_68 (by decide) rfl (Or.inr ⟨rfl, rfl, rfl⟩) (fun _ _ _ _ _ => rfl) (fun _ => rfl) (fun _ => rfl) ?_
  have hF := zFz_put (a := 0) (k := 8) (b := 88) hF (by decide)
  refine z_aload_n dX11_init_134 rfl ?_
  refine z_iconst (v := 3) dX11_init_135 (by decide) ?_
  refine z_newZ (N := 3) dX11_init_136 zz_boolean (by decide) rfl (by decide) (by decide) (by decide) hF (Nat.le_of_ble_eq_true rfl) (Nat.le_of_ble_eq_true rfl) ?_
  show zW _ _ _ _ _ _ _ _ _ _ _ 90 89 23754
  have hF : zFz 90 _ _ _ := zFz_le hF (Nat.le_succ _)
  refine z_putPl dX11_init_138 zf_X11_72 (by decide) rfl (Or.inr ⟨rfl, rfl, rfl⟩) (fun _ _ _ _ _ => rfl) (fun _ => rfl) (fun _ => rfl) ?_
  have hF := zFz_put (a := 0) (k := 9) (b := 89) hF (by decide)
  refine z_aload_n dX11_init_141 rfl ?_
  have hI90 : ∀ k, (zuI (zuI I 17 1 (-1)) 17 8 275) 90 k = 0 := fun k => (hF 90 (Nat.le_refl _) k).1
  refine z_new (c := 6) dX11_init_142 (by decide) zy_X11_76 (by decide) rfl hF (Nat.le_of_ble_eq_true rfl) (Nat.le_of_ble_eq_true rfl) ?_
  show zW _ _ _ _ _ _ _ _ _ _ _ 91 90 23761
  have hF : zFz 91 _ _ _ := zFz_le hF (Nat.le_succ _)
  refine z_dup dX11_init_145 rfl ?_
  refine z_callIN (As := []) (st := [.ref 90, .ref 0]) dX11_init_146 zl_X11_78 rfl rfl zx_X7_init rfl rfl (Nat.le_of_ble_eq_true rfl) ⟨(Nat.le_of_ble_eq_true rfl), (Nat.le_of_ble_eq_true rfl)⟩ ⟨(Nat.le_of_ble_eq_true rfl), (Nat.le_of_ble_eq_true rfl)⟩ (k_X7_init_90 (Q := (fun v I' L' P' nx' => none = v ∧ zuI (zuI I 17 1 (-1)) 17 8 275 = I' ∧ L1 = L' ∧ pL (((90, 4), 95) :: ((90, 3), 94) :: ((90, 2), 93) :: ((90, 1), 92) :: ((90, 0), 91) :: ((0, 9), 89) :: ((0, 8), 88) :: ((0, 7), 86) :: ((86, 0), 74) :: ((86, 1), 5) :: ((86, 2), 87) :: ((0, 6), 73) :: ((73, 0), 74) :: ((73, 1), 5) :: ((73, 2), 85) :: ((74, 1), 84) :: ((74, 0), 75) :: (zrows 75 8 ++ (((0, 5), 23) :: ((23, 4), 72) :: ((23, 3), 71) :: ((23, 2), 70) :: ((23, 1), 69) :: ((23, 0), 24) :: (zrows 24 44 ++ (((0, 4), 17) :: ((17, 4), 3) :: ((17, 3), 5) :: ((17, 2), 18) :: ((18, 0), 1) :: ((18, 4), 22) :: ((18, 3), 21) :: ((18, 2), 20) :: ((18, 1), 19) :: ((0, 3), 11) :: ((11, 11), 16) :: ((11, 10), 14) :: ((14, 0), 15) :: ((11, 9), 13) :: ((11, 8), 12) :: ((0, 2), 5) :: ((5, 11), 10) :: ((5, 10), 8) :: ((8, 0), 9) :: ((5, 9), 7) :: ((5, 8), 6) :: ((0, 1), 3) :: ((3, 0), 4) :: ((0, 0), 1) :: ((1, 0), 2) :: []))))) = P' ∧ 96 = nx' ∧ zFz 96 (zuI (zuI I 17 1 (-1)) 17 8 275) L1 (pL (((90, 4), 95) :: ((90, 3), 94) :: ((90, 2), 93) :: ((90, 1), 92) :: ((90, 0), 91) :: ((0, 9), 89) :: ((0, 8), 88) :: ((0, 7), 86) :: ((86, 0), 74) :: ((86, 1), 5) :: ((86, 2), 87) :: ((0, 6), 73) :: ((73, 0), 74) :: ((73, 1), 5) :: ((73, 2), 85) :: ((74, 1), 84) :: ((74, 0), 75) :: (zrows 75 8 ++ (((0, 5), 23) :: ((23, 4), 72) :: ((23, 3), 71) :: ((23, 2), 70) :: ((23, 1), 69) :: ((23, 0), 24) :: (zrows 24 44 ++ (((0, 4), 17) :: ((17, 4), 3) :: ((17, 3), 5) :: ((17, 2), 18) :: ((18, 0), 1) :: ((18, 4), 22) :: ((18, 3), 21) :: ((18, 2), 20) :: ((18, 1), 19) :: ((0, 3), 11) :: ((11, 11), 16) :: ((11, 10), 14) :: ((14, 0), 15) :: ((11, 9), 13) :: ((11, 8), 12) :: ((0, 2), 5) :: ((5, 11), 10) :: ((5, 10), 8) :: ((8, 0), 9) :: ((5, 9), 7) :: ((5, 8), 6) :: ((0, 1), 3) :: ((3, 0), 4) :: ((0, 0), 1) :: ((1, 0), 2) :: [])))))))) hF hI90 (fun h => ⟨rfl, rfl, rfl, rfl, rfl, h⟩)) (fun v1 I1 L1 P1 nx1 q => ?_)
  obtain ⟨rfl, rfl, rfl, rfl, rfl, hF⟩ := q
  show zW _ _ _ _ _ _ _ _ _ _ _ 96 95 23861
  refine z_putPl dX11_init_149 zf_X11_79 (by decide) rfl (Or.inr ⟨rfl, rfl, rfl⟩) (fun _ _ _ _ _ => rfl) (fun _ => rfl) (fun _ => rfl) ?_
  have hF := zFz_put (a := 0) (k := 10) (b := 90) hF (by decide)
  refine z_aload_n dX11_init_152 rfl ?_
  have hI96 : ∀ k, (zuI (zuI I 17 1 (-1)) 17 8 275) 96 k = 0 := fun k => (hF 96 (Nat.le_refl _) k).1
  refine z_new (c := 1) dX11_init_153 (by decide) zy_X11_83 (by decide) rfl hF (Nat.le_of_ble_eq_true rfl) (Nat.le_of_ble_eq_true rfl) ?_
  show zW _ _ _ _ _ _ _ _ _ _ _ 97 96 23868
  have hF : zFz 97 _ _ _ := zFz_le hF (Nat.le_succ _)
  refine z_dup dX11_init_156 rfl ?_
  refine z_aload_n dX11_init_157 rfl ?_
  refine z_getP (b := 5) dX11_init_158 zf_X11_26 (by decide) rfl (fun _ _ _ _ _ => rfl) (by decide +kernel) ?_
  refine z_callI (As := [.ref 5]) (st := [.ref 96, .ref 0]) dX11_init_161 zl_X11_85 rfl rfl zx_X1_init rfl rfl (Nat.le_of_ble_eq_true rfl) ⟨(Nat.le_of_ble_eq_true rfl), (Nat.le_of_ble_eq_true rfl)⟩ ⟨(Nat.le_of_ble_eq_true rfl), (Nat.le_of_ble_eq_true rfl)⟩ (k_X1_init_96 (Q := (fun v I' L' P' nx' => none = v ∧ zuI (zuI I 17 1 (-1)) 17 8 275 = I' ∧ L1 = L' ∧ pL (((96, 1), 107) :: ((107, 0), 108) :: ((107, 1), 5) :: ((107, 2), 119) :: ((108, 1), 118) :: ((108, 0), 109) :: (zrows 109 8 ++ (((96, 3), 106) :: ((96, 2), 105) :: ((96, 0), 97) :: (zrows 97 7 ++ (((0, 10), 90) :: ((90, 4), 95) :: ((90, 3), 94) :: ((90, 2), 93) :: ((90, 1), 92) :: ((90, 0), 91) :: ((0, 9), 89) :: ((0, 8), 88) :: ((0, 7), 86) :: ((86, 0), 74) :: ((86, 1), 5) :: ((86, 2), 87) :: ((0, 6), 73) :: ((73, 0), 74) :: ((73, 1), 5) :: ((73, 2), 85) :: ((74, 1), 84) :: ((74, 0), 75) :: (zrows 75 8 ++ (((0, 5), 23) :: ((23, 4), 72) :: ((23, 3), 71) :: ((23, 2), 70) :: ((23, 1), 69) :: ((23, 0), 24) :: (zrows 24 44 ++ (((0, 4), 17) :: ((17, 4), 3) :: ((17, 3), 5) :: ((17, 2), 18) :: ((18, 0), 1) :: ((18, 4), 22) :: ((18, 3), 21) :: ((18, 2), 20) :: ((18, 1), 19) :: ((0, 3), 11) :: ((11, 11), 16) :: ((11, 10), 14) :: ((14, 0), 15) :: ((11, 9), 13) :: ((11, 8), 12) :: ((0, 2), 5) :: ((5, 11), 10) :: ((5, 10), 8) :: ((8, 0), 9) :: ((5, 9), 7) :: ((5, 8), 6) :: ((0, 1), 3) :: ((3, 0), 4) :: ((0, 0), 1) :: ((1, 0), 2) :: []))))))))) = P' ∧ 120 = nx' ∧ zFz 120 (zuI (zuI I 17 1 (-1)) 17 8 275) L1 (pL (((96, 1), 107) :: ((107, 0), 108) :: ((107, 1), 5) :: ((107, 2), 119) :: ((108, 1), 118) :: ((108, 0), 109) :: (zrows 109 8 ++ (((96, 3), 106) :: ((96, 2), 105) :: ((96, 0), 97) :: (zrows 97 7 ++ (((0, 10), 90) :: ((90, 4), 95) :: ((90, 3), 94) :: ((90, 2), 93) :: ((90, 1), 92) :: ((90, 0), 91) :: ((0, 9), 89) :: ((0, 8), 88) :: ((0, 7), 86) :: ((86, 0), 74) :: ((86, 1), 5) :: ((86, 2), 87) :: ((0, 6), 73) :: ((73, 0), 74) :: ((73, 1), 5) :: ((73, 2), 85) :: ((74, 1), 84) :: ((74, 0), 75) :: (zrows 75 8 ++ (((0, 5), 23) :: ((23, 4), 72) :: ((23, 3), 71) :: ((23, 2), 70) :: ((23, 1), 69) :: ((23, 0), 24) :: (zrows 24 44 ++ (((0, 4), 17) :: ((17, 4), 3) :: ((17, 3), 5) :: ((17, 2), 18) :: ((18, 0), 1) :: ((18, 4), 22) :: ((18, 3), 21) :: ((18, 2), 20) :: ((18, 1), 19) :: ((0, 3), 11) :: ((11, 11), 16) :: ((11, 10), 14) :: ((14, 0), 15) :: ((11, 9), 13) :: ((11, 8), 12) :: ((0, 2), 5) :: ((5, 11), 10) :: ((5, 10), 8) :: ((8, 0), 9) :: ((5, 9), 7) :: ((5, 8), 6) :: ((0, 1), 3) :: ((3, 0), 4) :: ((0, 0), 1) :: ((1, 0), 2) :: [])))))))))))) hF hI96 (fun h => ⟨rfl, rfl, rfl, rfl, rfl, h⟩)) (fun v1 I1 L1 P1 nx1 q => ?_)
  obtain ⟨rfl, rfl, rfl, rfl, rfl, hF⟩ := q
  show zW _ _ _ _ _ _ _ _ _ _ _ 120 119 27668
  refine z_putPl dX11_init_164 zf_X11_88 (by decide) rfl (Or.inr ⟨rfl, rfl, rfl⟩) (fun _ _ _ _ _ => rfl) (fun _ => rfl) (fun _ => rfl) ?_
  have hF := zFz_put (a := 0) (k := 11) (b := 96) hF (by decide)
  refine z_aload_n dX11_init_167 rfl ?_
  refine z_sipush (v := 256) dX11_init_168 (by decide) ?_
  refine z_newL (N := 256) dX11_init_171 zz_long (by decide) rfl (by decide) (by decide) (by decide) hF (Nat.le_of_ble_eq_true rfl) (Nat.le_of_ble_eq_true rfl) ?_
  show zW _ _ _ _ _ _ _ _ _ _ _ 121 120 27924
  have hF : zFz 121 _ _ _ := zFz_le hF (Nat.le_succ _)
  refine z_putPl dX11_init_173 zf_X11_92 (by decide) rfl (Or.inr ⟨rfl, rfl, rfl⟩) (fun _ _ _ _ _ => rfl) (fun _ => rfl) (fun _ => rfl) ?_
  have hF := zFz_put (a := 0) (k := 12) (b := 120) hF (by decide)
  refine z_iconst (v := 0) dX11_init_176 (by decide) ?_
  refine z_istore_n (lv2 := [some (.ref 0), some (.int 0)]) dX11_init_177 (by decide) rfl rfl ?_
  refine z_iload_n dX11_init_178 rfl ?_
  refine z_iconst (v := 3) dX11_init_179 (by decide) ?_
  refine z_icmp_ge (tgt := 213) dX11_init_180 (by decide) (fun q => absurd q (by decide)) (fun _ => ?_)
  refine z_aload_n dX11_init_183 rfl ?_
  refine z_getP (b := 88) dX11_init_184 zf_X11_68 (by decide) rfl (fun _ _ _ _ _ => rfl) (by decide +kernel) ?_
  refine z_iload_n dX11_init_187 rfl ?_
  have hI121 : ∀ k, (zuI (zuI I 17 1 (-1)) 17 8 275) 121 k = 0 := fun k => (hF 121 (Nat.le_refl _) k).1
  refine z_new (c := 5) dX11_init_188 (by decide) zy_X11_49 (by decide) rfl hF (Nat.le_of_ble_eq_true rfl) (Nat.le_of_ble_eq_true rfl) ?_
  show zW _ _ _ _ _ _ _ _ _ _ _ 122 121 27931
  have hF : zFz 122 _ _ _ := zFz_le hF (Nat.le_succ _)
  refine z_dup dX11_init_191 rfl ?_
  refine z_aload_n dX11_init_192 rfl ?_
  refine z_getP (b := 5) dX11_init_193 zf_X11_26 (by decide) rfl (fun _ _ _ _ _ => rfl) (by decide +kernel) ?_
  have hI122 : ∀ k, (zuI (zuI I 17 1 (-1)) 17 8 275) 122 k = 0 := fun k => (hF 122 (Nat.le_refl _) k).1
  refine z_new (c := 9) dX11_init_196 (by decide) zy_X11_51 (by decide) rfl hF (Nat.le_of_ble_eq_true rfl) (Nat.le_of_ble_eq_true rfl) ?_
  show zW _ _ _ _ _ _ _ _ _ _ _ 123 122 27933
  have hF : zFz 123 _ _ _ := zFz_le hF (Nat.le_succ _)
  refine z_dup dX11_init_199 rfl ?_
  refine z_callIN (As := []) (st := [.ref 122, .ref 5, .ref 121, .ref 121, .int 0, .ref 88]) dX11_init_200 zl_X11_53 rfl rfl zx_X10_init rfl rfl (Nat.le_of_ble_eq_true rfl) ⟨(Nat.le_of_ble_eq_true rfl), (Nat.le_of_ble_eq_true rfl)⟩ ⟨(Nat.le_of_ble_eq_true rfl), (Nat.le_of_ble_eq_true rfl)⟩ (k_X10_init_122 (Q := (fun v I' L' P' nx' => none = v ∧ zuI (zuI I 17 1 (-1)) 17 8 275 = I' ∧ L1 = L' ∧ pL (((122, 1), 132) :: ((122, 0), 123) :: (zrows 123 8 ++ (((0, 12), 120) :: ((0, 11), 96) :: ((96, 1), 107) :: ((107, 0), 108) :: ((107, 1), 5) :: ((107, 2), 119) :: ((108, 1), 118) :: ((108, 0), 109) :: (zrows 109 8 ++ (((96, 3), 106) :: ((96, 2), 105) :: ((96, 0), 97) :: (zrows 97 7 ++ (((0, 10), 90) :: ((90, 4), 95) :: ((90, 3), 94) :: ((90, 2), 93) :: ((90, 1), 92) :: ((90, 0), 91) :: ((0, 9), 89) :: ((0, 8), 88) :: ((0, 7), 86) :: ((86, 0), 74) :: ((86, 1), 5) :: ((86, 2), 87) :: ((0, 6), 73) :: ((73, 0), 74) :: ((73, 1), 5) :: ((73, 2), 85) :: ((74, 1), 84) :: ((74, 0), 75) :: (zrows 75 8 ++ (((0, 5), 23) :: ((23, 4), 72) :: ((23, 3), 71) :: ((23, 2), 70) :: ((23, 1), 69) :: ((23, 0), 24) :: (zrows 24 44 ++ (((0, 4), 17) :: ((17, 4), 3) :: ((17, 3), 5) :: ((17, 2), 18) :: ((18, 0), 1) :: ((18, 4), 22) :: ((18, 3), 21) :: ((18, 2), 20) :: ((18, 1), 19) :: ((0, 3), 11) :: ((11, 11), 16) :: ((11, 10), 14) :: ((14, 0), 15) :: ((11, 9), 13) :: ((11, 8), 12) :: ((0, 2), 5) :: ((5, 11), 10) :: ((5, 10), 8) :: ((8, 0), 9) :: ((5, 9), 7) :: ((5, 8), 6) :: ((0, 1), 3) :: ((3, 0), 4) :: ((0, 0), 1) :: ((1, 0), 2) :: []))))))))))) = P' ∧ 133 = nx' ∧ zFz 133 (zuI (zuI I 17 1 (-1)) 17 8 275) L1 (pL (((122, 1), 132) :: ((122, 0), 123) :: (zrows 123 8 ++ (((0, 12), 120) :: ((0, 11), 96) :: ((96, 1), 107) :: ((107, 0), 108) :: ((107, 1), 5) :: ((107, 2), 119) :: ((108, 1), 118) :: ((108, 0), 109) :: (zrows 109 8 ++ (((96, 3), 106) :: ((96, 2), 105) :: ((96, 0), 97) :: (zrows 97 7 ++ (((0, 10), 90) :: ((90, 4), 95) :: ((90, 3), 94) :: ((90, 2), 93) :: ((90, 1), 92) :: ((90, 0), 91) :: ((0, 9), 89) :: ((0, 8), 88) :: ((0, 7), 86) :: ((86, 0), 74) :: ((86, 1), 5) :: ((86, 2), 87) :: ((0, 6), 73) :: ((73, 0), 74) :: ((73, 1), 5) :: ((73, 2), 85) :: ((74, 1), 84) :: ((74, 0), 75) :: (zrows 75 8 ++ (((0, 5), 23) :: ((23, 4), 72) :: ((23, 3), 71) :: ((23, 2), 70) :: ((23, 1), 69) :: ((23, 0), 24) :: (zrows 24 44 ++ (((0, 4), 17) :: ((17, 4), 3) :: ((17, 3), 5) :: ((17, 2), 18) :: ((18, 0), 1) :: ((18, 4), 22) :: ((18, 3), 21) :: ((18, 2), 20) :: ((18, 1), 19) :: ((0, 3), 11) :: ((11, 11), 16) :: ((11, 10), 14) :: ((14, 0), 15) :: ((11, 9), 13) :: ((11, 8), 12) :: ((0, 2), 5) :: ((5, 11), 10) :: ((5, 10), 8) :: ((8, 0), 9) :: ((5, 9), 7) :: ((5, 8), 6) :: ((0, 1), 3) :: ((3, 0), 4) :: ((0, 0), 1) :: ((1, 0), 2) :: [])))))))))))))) hF hI122 (fun h => ⟨rfl, rfl, rfl, rfl, rfl, h⟩)) (fun v1 I1 L1 P1 nx1 q => ?_)
  obtain ⟨rfl, rfl, rfl, rfl, rfl, hF⟩ := q
  show zW _ _ _ _ _ _ _ _ _ _ _ 133 132 30501
  refine z_callI (As := [.ref 5, .ref 122]) (st := [.ref 121, .int 0, .ref 88]) dX11_init_203 zl_X11_54 rfl rfl zx_X6_init rfl rfl (Nat.le_of_ble_eq_true rfl) ⟨(Nat.le_of_ble_eq_true rfl), (Nat.le_of_ble_eq_true rfl)⟩ ⟨(Nat.le_of_ble_eq_true rfl), (Nat.le_of_ble_eq_true rfl)⟩ (k_X6_init_121 (Q := (fun v I' L' P' nx' => none = v ∧ zuI (zuI I 17 1 (-1)) 17 8 275 = I' ∧ L1 = L' ∧ pL (((121, 0), 122) :: ((121, 1), 5) :: ((121, 2), 133) :: ((122, 1), 132) :: ((122, 0), 123) :: (zrows 123 8 ++ (((0, 12), 120) :: ((0, 11), 96) :: ((96, 1), 107) :: ((107, 0), 108) :: ((107, 1), 5) :: ((107, 2), 119) :: ((108, 1), 118) :: ((108, 0), 109) :: (zrows 109 8 ++ (((96, 3), 106) :: ((96, 2), 105) :: ((96, 0), 97) :: (zrows 97 7 ++ (((0, 10), 90) :: ((90, 4), 95) :: ((90, 3), 94) :: ((90, 2), 93) :: ((90, 1), 92) :: ((90, 0), 91) :: ((0, 9), 89) :: ((0, 8), 88) :: ((0, 7), 86) :: ((86, 0), 74) :: ((86, 1), 5) :: ((86, 2), 87) :: ((0, 6), 73) :: ((73, 0), 74) :: ((73, 1), 5) :: ((73, 2), 85) :: ((74, 1), 84) :: ((74, 0), 75) :: (zrows 75 8 ++ (((0, 5), 23) :: ((23, 4), 72) :: ((23, 3), 71) :: ((23, 2), 70) :: ((23, 1), 69) :: ((23, 0), 24) :: (zrows 24 44 ++ (((0, 4), 17) :: ((17, 4), 3) :: ((17, 3), 5) :: ((17, 2), 18) :: ((18, 0), 1) :: ((18, 4), 22) :: ((18, 3), 21) :: ((18, 2), 20) :: ((18, 1), 19) :: ((0, 3), 11) :: ((11, 11), 16) :: ((11, 10), 14) :: ((14, 0), 15) :: ((11, 9), 13) :: ((11, 8), 12) :: ((0, 2), 5) :: ((5, 11), 10) :: ((5, 10), 8) :: ((8, 0), 9) :: ((5, 9), 7) :: ((5, 8), 6) :: ((0, 1), 3) :: ((3, 0), 4) :: ((0, 0), 1) :: ((1, 0), 2) :: []))))))))))) = P' ∧ 134 = nx' ∧ zFz 134 (zuI (zuI I 17 1 (-1)) 17 8 275) L1 (pL (((121, 0), 122) :: ((121, 1), 5) :: ((121, 2), 133) :: ((122, 1), 132) :: ((122, 0), 123) :: (zrows 123 8 ++ (((0, 12), 120) :: ((0, 11), 96) :: ((96, 1), 107) :: ((107, 0), 108) :: ((107, 1), 5) :: ((107, 2), 119) :: ((108, 1), 118) :: ((108, 0), 109) :: (zrows 109 8 ++ (((96, 3), 106) :: ((96, 2), 105) :: ((96, 0), 97) :: (zrows 97 7 ++ (((0, 10), 90) :: ((90, 4), 95) :: ((90, 3), 94) :: ((90, 2), 93) :: ((90, 1), 92) :: ((90, 0), 91) :: ((0, 9), 89) :: ((0, 8), 88) :: ((0, 7), 86) :: ((86, 0), 74) :: ((86, 1), 5) :: ((86, 2), 87) :: ((0, 6), 73) :: ((73, 0), 74) :: ((73, 1), 5) :: ((73, 2), 85) :: ((74, 1), 84) :: ((74, 0), 75) :: (zrows 75 8 ++ (((0, 5), 23) :: ((23, 4), 72) :: ((23, 3), 71) :: ((23, 2), 70) :: ((23, 1), 69) :: ((23, 0), 24) :: (zrows 24 44 ++ (((0, 4), 17) :: ((17, 4), 3) :: ((17, 3), 5) :: ((17, 2), 18) :: ((18, 0), 1) :: ((18, 4), 22) :: ((18, 3), 21) :: ((18, 2), 20) :: ((18, 1), 19) :: ((0, 3), 11) :: ((11, 11), 16) :: ((11, 10), 14) :: ((14, 0), 15) :: ((11, 9), 13) :: ((11, 8), 12) :: ((0, 2), 5) :: ((5, 11), 10) :: ((5, 10), 8) :: ((8, 0), 9) :: ((5, 9), 7) :: ((5, 8), 6) :: ((0, 1), 3) :: ((3, 0), 4) :: ((0, 0), 1) :: ((1, 0), 2) :: [])))))))))))))) hF hI121 (fun h => ⟨rfl, rfl, rfl, rfl, rfl, h⟩)) (fun v1 I1 L1 P1 nx1 q => ?_)
  obtain ⟨rfl, rfl, rfl, rfl, rfl, hF⟩ := q
  show zW _ _ _ _ _ _ _ _ _ _ _ 134 133 30757
  refine z_aastorel (j := 0) dX11_init_206 (by decide) rfl (by unfold vp_in; decide) (by decide) (by decide) rfl ?_
  have hF := zFz_put (a := 88) (k := 0) (b := 121) hF (by decide)
  refine z_iinc (v2 := 1) (lv2 := [some (.ref 0), some (.int 1)]) dX11_init_207 rfl (by decide) (by decide) rfl rfl ?_
  refine z_goto (tgt := 178) dX11_init_210 (by decide) ?_
  refine z_iload_n dX11_init_178 rfl ?_
  refine z_iconst (v := 3) dX11_init_179 (by decide) ?_
  refine z_icmp_ge (tgt := 213) dX11_init_180 (by decide) (fun q => absurd q (by decide)) (fun _ => ?_)
  refine z_aload_n dX11_init_183 rfl ?_
  refine z_getP (b := 88) dX11_init_184 zf_X11_68 (by decide) rfl (fun _ _ _ _ _ => rfl) (by decide +kernel) ?_
  refine z_iload_n dX11_init_187 rfl ?_
  have hI134 : ∀ k, (zuI (zuI I 17 1 (-1)) 17 8 275) 134 k = 0 := fun k => (hF 134 (Nat.le_refl _) k).1
  refine z_new (c := 5) dX11_init_188 (by decide) zy_X11_49 (by decide) rfl hF (Nat.le_of_ble_eq_true rfl) (Nat.le_of_ble_eq_true rfl) ?_
  show zW _ _ _ _ _ _ _ _ _ _ _ 135 134 30764
  have hF : zFz 135 _ _ _ := zFz_le hF (Nat.le_succ _)
  refine z_dup dX11_init_191 rfl ?_
  refine z_aload_n dX11_init_192 rfl ?_
  refine z_getP (b := 5) dX11_init_193 zf_X11_26 (by decide) rfl (fun _ _ _ _ _ => rfl) (by decide +kernel) ?_
  have hI135 : ∀ k, (zuI (zuI I 17 1 (-1)) 17 8 275) 135 k = 0 := fun k => (hF 135 (Nat.le_refl _) k).1
  refine z_new (c := 9) dX11_init_196 (by decide) zy_X11_51 (by decide) rfl hF (Nat.le_of_ble_eq_true rfl) (Nat.le_of_ble_eq_true rfl) ?_
  show zW _ _ _ _ _ _ _ _ _ _ _ 136 135 30766
  have hF : zFz 136 _ _ _ := zFz_le hF (Nat.le_succ _)
  refine z_dup dX11_init_199 rfl ?_
  refine z_callIN (As := []) (st := [.ref 135, .ref 5, .ref 134, .ref 134, .int 1, .ref 88]) dX11_init_200 zl_X11_53 rfl rfl zx_X10_init rfl rfl (Nat.le_of_ble_eq_true rfl) ⟨(Nat.le_of_ble_eq_true rfl), (Nat.le_of_ble_eq_true rfl)⟩ ⟨(Nat.le_of_ble_eq_true rfl), (Nat.le_of_ble_eq_true rfl)⟩ (k_X10_init_135 (Q := (fun v I' L' P' nx' => none = v ∧ zuI (zuI I 17 1 (-1)) 17 8 275 = I' ∧ L1 = L' ∧ pL (((135, 1), 145) :: ((135, 0), 136) :: (zrows 136 8 ++ (((88, 0), 121) :: ((121, 0), 122) :: ((121, 1), 5) :: ((121, 2), 133) :: ((122, 1), 132) :: ((122, 0), 123) :: (zrows 123 8 ++ (((0, 12), 120) :: ((0, 11), 96) :: ((96, 1), 107) :: ((107, 0), 108) :: ((107, 1), 5) :: ((107, 2), 119) :: ((108, 1), 118) :: ((108, 0), 109) :: (zrows 109 8 ++ (((96, 3), 106) :: ((96, 2), 105) :: ((96, 0), 97) :: (zrows 97 7 ++ (((0, 10), 90) :: ((90, 4), 95) :: ((90, 3), 94) :: ((90, 2), 93) :: ((90, 1), 92) :: ((90, 0), 91) :: ((0, 9), 89) :: ((0, 8), 88) :: ((0, 7), 86) :: ((86, 0), 74) :: ((86, 1), 5) :: ((86, 2), 87) :: ((0, 6), 73) :: ((73, 0), 74) :: ((73, 1), 5) :: ((73, 2), 85) :: ((74, 1), 84) :: ((74, 0), 75) :: (zrows 75 8 ++ (((0, 5), 23) :: ((23, 4), 72) :: ((23, 3), 71) :: ((23, 2), 70) :: ((23, 1), 69) :: ((23, 0), 24) :: (zrows 24 44 ++ (((0, 4), 17) :: ((17, 4), 3) :: ((17, 3), 5) :: ((17, 2), 18) :: ((18, 0), 1) :: ((18, 4), 22) :: ((18, 3), 21) :: ((18, 2), 20) :: ((18, 1), 19) :: ((0, 3), 11) :: ((11, 11), 16) :: ((11, 10), 14) :: ((14, 0), 15) :: ((11, 9), 13) :: ((11, 8), 12) :: ((0, 2), 5) :: ((5, 11), 10) :: ((5, 10), 8) :: ((8, 0), 9) :: ((5, 9), 7) :: ((5, 8), 6) :: ((0, 1), 3) :: ((3, 0), 4) :: ((0, 0), 1) :: ((1, 0), 2) :: []))))))))))))) = P' ∧ 146 = nx' ∧ zFz 146 (zuI (zuI I 17 1 (-1)) 17 8 275) L1 (pL (((135, 1), 145) :: ((135, 0), 136) :: (zrows 136 8 ++ (((88, 0), 121) :: ((121, 0), 122) :: ((121, 1), 5) :: ((121, 2), 133) :: ((122, 1), 132) :: ((122, 0), 123) :: (zrows 123 8 ++ (((0, 12), 120) :: ((0, 11), 96) :: ((96, 1), 107) :: ((107, 0), 108) :: ((107, 1), 5) :: ((107, 2), 119) :: ((108, 1), 118) :: ((108, 0), 109) :: (zrows 109 8 ++ (((96, 3), 106) :: ((96, 2), 105) :: ((96, 0), 97) :: (zrows 97 7 ++ (((0, 10), 90) :: ((90, 4), 95) :: ((90, 3), 94) :: ((90, 2), 93) :: ((90, 1), 92) :: ((90, 0), 91) :: ((0, 9), 89) :: ((0, 8), 88) :: ((0, 7), 86) :: ((86, 0), 74) :: ((86, 1), 5) :: ((86, 2), 87) :: ((0, 6), 73) :: ((73, 0), 74) :: ((73, 1), 5) :: ((73, 2), 85) :: ((74, 1), 84) :: ((74, 0), 75) :: (zrows 75 8 ++ (((0, 5), 23) :: ((23, 4), 72) :: ((23, 3), 71) :: ((23, 2), 70) :: ((23, 1), 69) :: ((23, 0), 24) :: (zrows 24 44 ++ (((0, 4), 17) :: ((17, 4), 3) :: ((17, 3), 5) :: ((17, 2), 18) :: ((18, 0), 1) :: ((18, 4), 22) :: ((18, 3), 21) :: ((18, 2), 20) :: ((18, 1), 19) :: ((0, 3), 11) :: ((11, 11), 16) :: ((11, 10), 14) :: ((14, 0), 15) :: ((11, 9), 13) :: ((11, 8), 12) :: ((0, 2), 5) :: ((5, 11), 10) :: ((5, 10), 8) :: ((8, 0), 9) :: ((5, 9), 7) :: ((5, 8), 6) :: ((0, 1), 3) :: ((3, 0), 4) :: ((0, 0), 1) :: ((1, 0), 2) :: [])))))))))))))))) hF hI135 (fun h => ⟨rfl, rfl, rfl, rfl, rfl, h⟩)) (fun v1 I1 L1 P1 nx1 q => ?_)
  obtain ⟨rfl, rfl, rfl, rfl, rfl, hF⟩ := q
  show zW _ _ _ _ _ _ _ _ _ _ _ 146 145 33334
  refine z_callI (As := [.ref 5, .ref 135]) (st := [.ref 134, .int 1, .ref 88]) dX11_init_203 zl_X11_54 rfl rfl zx_X6_init rfl rfl (Nat.le_of_ble_eq_true rfl) ⟨(Nat.le_of_ble_eq_true rfl), (Nat.le_of_ble_eq_true rfl)⟩ ⟨(Nat.le_of_ble_eq_true rfl), (Nat.le_of_ble_eq_true rfl)⟩ (k_X6_init_134 (Q := (fun v I' L' P' nx' => none = v ∧ zuI (zuI I 17 1 (-1)) 17 8 275 = I' ∧ L1 = L' ∧ pL (((134, 0), 135) :: ((134, 1), 5) :: ((134, 2), 146) :: ((135, 1), 145) :: ((135, 0), 136) :: (zrows 136 8 ++ (((88, 0), 121) :: ((121, 0), 122) :: ((121, 1), 5) :: ((121, 2), 133) :: ((122, 1), 132) :: ((122, 0), 123) :: (zrows 123 8 ++ (((0, 12), 120) :: ((0, 11), 96) :: ((96, 1), 107) :: ((107, 0), 108) :: ((107, 1), 5) :: ((107, 2), 119) :: ((108, 1), 118) :: ((108, 0), 109) :: (zrows 109 8 ++ (((96, 3), 106) :: ((96, 2), 105) :: ((96, 0), 97) :: (zrows 97 7 ++ (((0, 10), 90) :: ((90, 4), 95) :: ((90, 3), 94) :: ((90, 2), 93) :: ((90, 1), 92) :: ((90, 0), 91) :: ((0, 9), 89) :: ((0, 8), 88) :: ((0, 7), 86) :: ((86, 0), 74) :: ((86, 1), 5) :: ((86, 2), 87) :: ((0, 6), 73) :: ((73, 0), 74) :: ((73, 1), 5) :: ((73, 2), 85) :: ((74, 1), 84) :: ((74, 0), 75) :: (zrows 75 8 ++ (((0, 5), 23) :: ((23, 4), 72) :: ((23, 3), 71) :: ((23, 2), 70) :: ((23, 1), 69) :: ((23, 0), 24) :: (zrows 24 44 ++ (((0, 4), 17) :: ((17, 4), 3) :: ((17, 3), 5) :: ((17, 2), 18) :: ((18, 0), 1) :: ((18, 4), 22) :: ((18, 3), 21) :: ((18, 2), 20) :: ((18, 1), 19) :: ((0, 3), 11) :: ((11, 11), 16) :: ((11, 10), 14) :: ((14, 0), 15) :: ((11, 9), 13) :: ((11, 8), 12) :: ((0, 2), 5) :: ((5, 11), 10) :: ((5, 10), 8) :: ((8, 0), 9) :: ((5, 9), 7) :: ((5, 8), 6) :: ((0, 1), 3) :: ((3, 0), 4) :: ((0, 0), 1) :: ((1, 0), 2) :: []))))))))))))) = P' ∧ 147 = nx' ∧ zFz 147 (zuI (zuI I 17 1 (-1)) 17 8 275) L1 (pL (((134, 0), 135) :: ((134, 1), 5) :: ((134, 2), 146) :: ((135, 1), 145) :: ((135, 0), 136) :: (zrows 136 8 ++ (((88, 0), 121) :: ((121, 0), 122) :: ((121, 1), 5) :: ((121, 2), 133) :: ((122, 1), 132) :: ((122, 0), 123) :: (zrows 123 8 ++ (((0, 12), 120) :: ((0, 11), 96) :: ((96, 1), 107) :: ((107, 0), 108) :: ((107, 1), 5) :: ((107, 2), 119) :: ((108, 1), 118) :: ((108, 0), 109) :: (zrows 109 8 ++ (((96, 3), 106) :: ((96, 2), 105) :: ((96, 0), 97) :: (zrows 97 7 ++ (((0, 10), 90) :: ((90, 4), 95) :: ((90, 3), 94) :: ((90, 2), 93) :: ((90, 1), 92) :: ((90, 0), 91) :: ((0, 9), 89) :: ((0, 8), 88) :: ((0, 7), 86) :: ((86, 0), 74) :: ((86, 1), 5) :: ((86, 2), 87) :: ((0, 6), 73) :: ((73, 0), 74) :: ((73, 1), 5) :: ((73, 2), 85) :: ((74, 1), 84) :: ((74, 0), 75) :: (zrows 75 8 ++ (((0, 5), 23) :: ((23, 4), 72) :: ((23, 3), 71) :: ((23, 2), 70) :: ((23, 1), 69) :: ((23, 0), 24) :: (zrows 24 44 ++ (((0, 4), 17) :: ((17, 4), 3) :: ((17, 3), 5) :: ((17, 2), 18) :: ((18, 0), 1) :: ((18, 4), 22) :: ((18, 3), 21) :: ((18, 2), 20) :: ((18, 1), 19) :: ((0, 3), 11) :: ((11, 11), 16) :: ((11, 10), 14) :: ((14, 0), 15) :: ((11, 9), 13) :: ((11, 8), 12) :: ((0, 2), 5) :: ((5, 11), 10) :: ((5, 10), 8) :: ((8, 0), 9) :: ((5, 9), 7) :: ((5, 8), 6) :: ((0, 1), 3) :: ((3, 0), 4) :: ((0, 0), 1) :: ((1, 0), 2) :: [])))))))))))))))) hF hI134 (fun h => ⟨rfl, rfl, rfl, rfl, rfl, h⟩)) (fun v1 I1 L1 P1 nx1 q => ?_)
  obtain ⟨rfl, rfl, rfl, rfl, rfl, hF⟩ := q
  show zW _ _ _ _ _ _ _ _ _ _ _ 147 146 33590
  refine z_aastorel (j := 1) dX11_init_206 (by decide) rfl (by unfold vp_in; decide) (by decide) (by decide) rfl ?_
  have hF := zFz_put (a := 88) (k := 1) (b := 134) hF (by decide)
  refine z_iinc (v2 := 2) (lv2 := [some (.ref 0), some (.int 2)]) dX11_init_207 rfl (by decide) (by decide) rfl rfl ?_
  refine z_goto (tgt := 178) dX11_init_210 (by decide) ?_
  refine z_iload_n dX11_init_178 rfl ?_
  refine z_iconst (v := 3) dX11_init_179 (by decide) ?_
  refine z_icmp_ge (tgt := 213) dX11_init_180 (by decide) (fun q => absurd q (by decide)) (fun _ => ?_)
  refine z_aload_n dX11_init_183 rfl ?_
  refine z_getP (b := 88) dX11_init_184 zf_X11_68 (by decide) rfl (fun _ _ _ _ _ => rfl) (by decide +kernel) ?_
  refine z_iload_n dX11_init_187 rfl ?_
  have hI147 : ∀ k, (zuI (zuI I 17 1 (-1)) 17 8 275) 147 k = 0 := fun k => (hF 147 (Nat.le_refl _) k).1
  refine z_new (c := 5) dX11_init_188 (by decide) zy_X11_49 (by decide) rfl hF (Nat.le_of_ble_eq_true rfl) (Nat.le_of_ble_eq_true rfl) ?_
  show zW _ _ _ _ _ _ _ _ _ _ _ 148 147 33597
  have hF : zFz 148 _ _ _ := zFz_le hF (Nat.le_succ _)
  refine z_dup dX11_init_191 rfl ?_
  refine z_aload_n dX11_init_192 rfl ?_
  refine z_getP (b := 5) dX11_init_193 zf_X11_26 (by decide) rfl (fun _ _ _ _ _ => rfl) (by decide +kernel) ?_
  have hI148 : ∀ k, (zuI (zuI I 17 1 (-1)) 17 8 275) 148 k = 0 := fun k => (hF 148 (Nat.le_refl _) k).1
  refine z_new (c := 9) dX11_init_196 (by decide) zy_X11_51 (by decide) rfl hF (Nat.le_of_ble_eq_true rfl) (Nat.le_of_ble_eq_true rfl) ?_
  show zW _ _ _ _ _ _ _ _ _ _ _ 149 148 33599
  have hF : zFz 149 _ _ _ := zFz_le hF (Nat.le_succ _)
  refine z_dup dX11_init_199 rfl ?_
  refine z_callIN (As := []) (st := [.ref 148, .ref 5, .ref 147, .ref 147, .int 2, .ref 88]) dX11_init_200 zl_X11_53 rfl rfl zx_X10_init rfl rfl (Nat.le_of_ble_eq_true rfl) ⟨(Nat.le_of_ble_eq_true rfl), (Nat.le_of_ble_eq_true rfl)⟩ ⟨(Nat.le_of_ble_eq_true rfl), (Nat.le_of_ble_eq_true rfl)⟩ (k_X10_init_148 (Q := (fun v I' L' P' nx' => none = v ∧ zuI (zuI I 17 1 (-1)) 17 8 275 = I' ∧ L1 = L' ∧ pL (((148, 1), 158) :: ((148, 0), 149) :: (zrows 149 8 ++ (((88, 1), 134) :: ((134, 0), 135) :: ((134, 1), 5) :: ((134, 2), 146) :: ((135, 1), 145) :: ((135, 0), 136) :: (zrows 136 8 ++ (((88, 0), 121) :: ((121, 0), 122) :: ((121, 1), 5) :: ((121, 2), 133) :: ((122, 1), 132) :: ((122, 0), 123) :: (zrows 123 8 ++ (((0, 12), 120) :: ((0, 11), 96) :: ((96, 1), 107) :: ((107, 0), 108) :: ((107, 1), 5) :: ((107, 2), 119) :: ((108, 1), 118) :: ((108, 0), 109) :: (zrows 109 8 ++ (((96, 3), 106) :: ((96, 2), 105) :: ((96, 0), 97) :: (zrows 97 7 ++ (((0, 10), 90) :: ((90, 4), 95) :: ((90, 3), 94) :: ((90, 2), 93) :: ((90, 1), 92) :: ((90, 0), 91) :: ((0, 9), 89) :: ((0, 8), 88) :: ((0, 7), 86) :: ((86, 0), 74) :: ((86, 1), 5) :: ((86, 2), 87) :: ((0, 6), 73) :: ((73, 0), 74) :: ((73, 1), 5) :: ((73, 2), 85) :: ((74, 1), 84) :: ((74, 0), 75) :: (zrows 75 8 ++ (((0, 5), 23) :: ((23, 4), 72) :: ((23, 3), 71) :: ((23, 2), 70) :: ((23, 1), 69) :: ((23, 0), 24) :: (zrows 24 44 ++ (((0, 4), 17) :: ((17, 4), 3) :: ((17, 3), 5) :: ((17, 2), 18) :: ((18, 0), 1) :: ((18, 4), 22) :: ((18, 3), 21) :: ((18, 2), 20) :: ((18, 1), 19) :: ((0, 3), 11) :: ((11, 11), 16) :: ((11, 10), 14) :: ((14, 0), 15) :: ((11, 9), 13) :: ((11, 8), 12) :: ((0, 2), 5) :: ((5, 11), 10) :: ((5, 10), 8) :: ((8, 0), 9) :: ((5, 9), 7) :: ((5, 8), 6) :: ((0, 1), 3) :: ((3, 0), 4) :: ((0, 0), 1) :: ((1, 0), 2) :: []))))))))))))))) = P' ∧ 159 = nx' ∧ zFz 159 (zuI (zuI I 17 1 (-1)) 17 8 275) L1 (pL (((148, 1), 158) :: ((148, 0), 149) :: (zrows 149 8 ++ (((88, 1), 134) :: ((134, 0), 135) :: ((134, 1), 5) :: ((134, 2), 146) :: ((135, 1), 145) :: ((135, 0), 136) :: (zrows 136 8 ++ (((88, 0), 121) :: ((121, 0), 122) :: ((121, 1), 5) :: ((121, 2), 133) :: ((122, 1), 132) :: ((122, 0), 123) :: (zrows 123 8 ++ (((0, 12), 120) :: ((0, 11), 96) :: ((96, 1), 107) :: ((107, 0), 108) :: ((107, 1), 5) :: ((107, 2), 119) :: ((108, 1), 118) :: ((108, 0), 109) :: (zrows 109 8 ++ (((96, 3), 106) :: ((96, 2), 105) :: ((96, 0), 97) :: (zrows 97 7 ++ (((0, 10), 90) :: ((90, 4), 95) :: ((90, 3), 94) :: ((90, 2), 93) :: ((90, 1), 92) :: ((90, 0), 91) :: ((0, 9), 89) :: ((0, 8), 88) :: ((0, 7), 86) :: ((86, 0), 74) :: ((86, 1), 5) :: ((86, 2), 87) :: ((0, 6), 73) :: ((73, 0), 74) :: ((73, 1), 5) :: ((73, 2), 85) :: ((74, 1), 84) :: ((74, 0), 75) :: (zrows 75 8 ++ (((0, 5), 23) :: ((23, 4), 72) :: ((23, 3), 71) :: ((23, 2), 70) :: ((23, 1), 69) :: ((23, 0), 24) :: (zrows 24 44 ++ (((0, 4), 17) :: ((17, 4), 3) :: ((17, 3), 5) :: ((17, 2), 18) :: ((18, 0), 1) :: ((18, 4), 22) :: ((18, 3), 21) :: ((18, 2), 20) :: ((18, 1), 19) :: ((0, 3), 11) :: ((11, 11), 16) :: ((11, 10), 14) :: ((14, 0), 15) :: ((11, 9), 13) :: ((11, 8), 12) :: ((0, 2), 5) :: ((5, 11), 10) :: ((5, 10), 8) :: ((8, 0), 9) :: ((5, 9), 7) :: ((5, 8), 6) :: ((0, 1), 3) :: ((3, 0), 4) :: ((0, 0), 1) :: ((1, 0), 2) :: [])))))))))))))))))) hF hI148 (fun h => ⟨rfl, rfl, rfl, rfl, rfl, h⟩)) (fun v1 I1 L1 P1 nx1 q => ?_)
  obtain ⟨rfl, rfl, rfl, rfl, rfl, hF⟩ := q
  show zW _ _ _ _ _ _ _ _ _ _ _ 159 158 36167
  refine z_callI (As := [.ref 5, .ref 148]) (st := [.ref 147, .int 2, .ref 88]) dX11_init_203 zl_X11_54 rfl rfl zx_X6_init rfl rfl (Nat.le_of_ble_eq_true rfl) ⟨(Nat.le_of_ble_eq_true rfl), (Nat.le_of_ble_eq_true rfl)⟩ ⟨(Nat.le_of_ble_eq_true rfl), (Nat.le_of_ble_eq_true rfl)⟩ (k_X6_init_147 (Q := (fun v I' L' P' nx' => none = v ∧ zuI (zuI I 17 1 (-1)) 17 8 275 = I' ∧ L1 = L' ∧ pL (((147, 0), 148) :: ((147, 1), 5) :: ((147, 2), 159) :: ((148, 1), 158) :: ((148, 0), 149) :: (zrows 149 8 ++ (((88, 1), 134) :: ((134, 0), 135) :: ((134, 1), 5) :: ((134, 2), 146) :: ((135, 1), 145) :: ((135, 0), 136) :: (zrows 136 8 ++ (((88, 0), 121) :: ((121, 0), 122) :: ((121, 1), 5) :: ((121, 2), 133) :: ((122, 1), 132) :: ((122, 0), 123) :: (zrows 123 8 ++ (((0, 12), 120) :: ((0, 11), 96) :: ((96, 1), 107) :: ((107, 0), 108) :: ((107, 1), 5) :: ((107, 2), 119) :: ((108, 1), 118) :: ((108, 0), 109) :: (zrows 109 8 ++ (((96, 3), 106) :: ((96, 2), 105) :: ((96, 0), 97) :: (zrows 97 7 ++ (((0, 10), 90) :: ((90, 4), 95) :: ((90, 3), 94) :: ((90, 2), 93) :: ((90, 1), 92) :: ((90, 0), 91) :: ((0, 9), 89) :: ((0, 8), 88) :: ((0, 7), 86) :: ((86, 0), 74) :: ((86, 1), 5) :: ((86, 2), 87) :: ((0, 6), 73) :: ((73, 0), 74) :: ((73, 1), 5) :: ((73, 2), 85) :: ((74, 1), 84) :: ((74, 0), 75) :: (zrows 75 8 ++ (((0, 5), 23) :: ((23, 4), 72) :: ((23, 3), 71) :: ((23, 2), 70) :: ((23, 1), 69) :: ((23, 0), 24) :: (zrows 24 44 ++ (((0, 4), 17) :: ((17, 4), 3) :: ((17, 3), 5) :: ((17, 2), 18) :: ((18, 0), 1) :: ((18, 4), 22) :: ((18, 3), 21) :: ((18, 2), 20) :: ((18, 1), 19) :: ((0, 3), 11) :: ((11, 11), 16) :: ((11, 10), 14) :: ((14, 0), 15) :: ((11, 9), 13) :: ((11, 8), 12) :: ((0, 2), 5) :: ((5, 11), 10) :: ((5, 10), 8) :: ((8, 0), 9) :: ((5, 9), 7) :: ((5, 8), 6) :: ((0, 1), 3) :: ((3, 0), 4) :: ((0, 0), 1) :: ((1, 0), 2) :: []))))))))))))))) = P' ∧ 160 = nx' ∧ zFz 160 (zuI (zuI I 17 1 (-1)) 17 8 275) L1 (pL (((147, 0), 148) :: ((147, 1), 5) :: ((147, 2), 159) :: ((148, 1), 158) :: ((148, 0), 149) :: (zrows 149 8 ++ (((88, 1), 134) :: ((134, 0), 135) :: ((134, 1), 5) :: ((134, 2), 146) :: ((135, 1), 145) :: ((135, 0), 136) :: (zrows 136 8 ++ (((88, 0), 121) :: ((121, 0), 122) :: ((121, 1), 5) :: ((121, 2), 133) :: ((122, 1), 132) :: ((122, 0), 123) :: (zrows 123 8 ++ (((0, 12), 120) :: ((0, 11), 96) :: ((96, 1), 107) :: ((107, 0), 108) :: ((107, 1), 5) :: ((107, 2), 119) :: ((108, 1), 118) :: ((108, 0), 109) :: (zrows 109 8 ++ (((96, 3), 106) :: ((96, 2), 105) :: ((96, 0), 97) :: (zrows 97 7 ++ (((0, 10), 90) :: ((90, 4), 95) :: ((90, 3), 94) :: ((90, 2), 93) :: ((90, 1), 92) :: ((90, 0), 91) :: ((0, 9), 89) :: ((0, 8), 88) :: ((0, 7), 86) :: ((86, 0), 74) :: ((86, 1), 5) :: ((86, 2), 87) :: ((0, 6), 73) :: ((73, 0), 74) :: ((73, 1), 5) :: ((73, 2), 85) :: ((74, 1), 84) :: ((74, 0), 75) :: (zrows 75 8 ++ (((0, 5), 23) :: ((23, 4), 72) :: ((23, 3), 71) :: ((23, 2), 70) :: ((23, 1), 69) :: ((23, 0), 24) :: (zrows 24 44 ++ (((0, 4), 17) :: ((17, 4), 3) :: ((17, 3), 5) :: ((17, 2), 18) :: ((18, 0), 1) :: ((18, 4), 22) :: ((18, 3), 21) :: ((18, 2), 20) :: ((18, 1), 19) :: ((0, 3), 11) :: ((11, 11), 16) :: ((11, 10), 14) :: ((14, 0), 15) :: ((11, 9), 13) :: ((11, 8), 12) :: ((0, 2), 5) :: ((5, 11), 10) :: ((5, 10), 8) :: ((8, 0), 9) :: ((5, 9), 7) :: ((5, 8), 6) :: ((0, 1), 3) :: ((3, 0), 4) :: ((0, 0), 1) :: ((1, 0), 2) :: [])))))))))))))))))) hF hI147 (fun h => ⟨rfl, rfl, rfl, rfl, rfl, h⟩)) (fun v1 I1 L1 P1 nx1 q => ?_)
  obtain ⟨rfl, rfl, rfl, rfl, rfl, hF⟩ := q
  show zW _ _ _ _ _ _ _ _ _ _ _ 160 159 36423
  refine z_aastorel (j := 2) dX11_init_206 (by decide) rfl (by unfold vp_in; decide) (by decide) (by decide) rfl ?_
  have hF := zFz_put (a := 88) (k := 2) (b := 147) hF (by decide)
  refine z_iinc (v2 := 3) (lv2 := [some (.ref 0), some (.int 3)]) dX11_init_207 rfl (by decide) (by decide) rfl rfl ?_
  refine z_goto (tgt := 178) dX11_init_210 (by decide) ?_
  refine z_iload_n dX11_init_178 rfl ?_
  refine z_iconst (v := 3) dX11_init_179 (by decide) ?_
  refine z_icmp_ge (tgt := 213) dX11_init_180 (by decide) (fun _ => ?_) (fun q => absurd (by decide) q)
  refine z_aload_n dX11_init_213 rfl ?_
  refine z_getP (b := 73) dX11_init_214 zf_X11_57 (by decide) rfl (fun _ _ _ _ _ => rfl) (by decide +kernel) ?_
  refine z_aload_n dX11_init_217 rfl ?_
  refine z_getP (b := 5) dX11_init_218 zf_X11_26 (by decide) rfl (fun _ _ _ _ _ => rfl) (by decide +kernel) ?_
  have z5 : (zuI (zuI I 17 1 (-1)) 17 8 275) 5 0 = 0 := by rw [zuI_ne (by decide), zuI_ne (by decide)]; exact (h1 5 (by decide) 0).1
  have z73 : ∀ k, (zuI (zuI I 17 1 (-1)) 17 8 275) 73 k = 0 := fun k => by rw [zuI_ne (by decide), zuI_ne (by decide)]; exact (h1 73 (by decide) k).1
  have z85 : (zuI (zuI I 17 1 (-1)) 17 8 275) 85 0 = 0 := by rw [zuI_ne (by decide), zuI_ne (by decide)]; exact (h1 85 (by decide) 0).1
  refine z_callV (As := [.ref 5]) (st := []) dX11_init_221 zl_X11_96 zv_X6_open (by decide) rfl (by decide) rfl rfl rfl (Nat.le_of_ble_eq_true rfl) ⟨(Nat.le_of_ble_eq_true rfl), (Nat.le_of_ble_eq_true rfl)⟩ ⟨(Nat.le_of_ble_eq_true rfl), (Nat.le_of_ble_eq_true rfl)⟩ (op_new (d := 0) (K := fun I' L' P' => zuI (zuI (zuI I 17 1 (-1)) 17 8 275) 73 3 1 = I' ∧ L1 = L' ∧ pL lNN = P') z5 (by decide +kernel) (by decide +kernel) z73 z85 ⟨rfl, rfl, (zuP_pL _ 73 1 5).symm⟩) (fun v1 I2 L2 P2 nx1 q => ?_)
  obtain ⟨rfl, rfl, rfl, rfl, rfl⟩ := q
  exact z_return dX11_init_224 rfl (Nat.le_of_ble_eq_true rfl) (Nat.le_of_ble_eq_true rfl) (kk _ hw (zFz_I (a := 73) (k := 3) (v := 1) (zFz_put (a := 73) (k := 1) (b := 5) hF (by decide)) (by decide)))
