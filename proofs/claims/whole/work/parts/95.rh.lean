/-! ===== the class: one is read ===== -/
section LN1
variable {d : Nat} {Q : zQt} {T : Nat → Int32} {n t e : Nat} {I I0 : zI} {L L0 : zL} {P : zP} {A : Ai}
theorem cLs_i {I' : zI} {L' : zL} {A' : Ai} (ht : il t) (h : cLs T n t I0 L0 I L A e) (hI : cI t I' L' A') (hf : cFr [t, t + 2, t + 3, t + 4] I I') (hL : ∀ x, x ≠ t + 1 → L' x = L x) : cLs T n t I0 L0 I' L' A' e := by
  obtain ⟨h1, h2, h3, h4, h5⟩ := h
  unfold il at ht
  have e17 := hf 17 (by simp only [List.mem_cons, List.not_mem_nil, or_false]; omega)
  exact ⟨hI, rG_c h2 (fun k _ => by rw [e17]) (hf 18 (by simp only [List.mem_cons, List.not_mem_nil, or_false]; omega)) (hf 20 (by simp only [List.mem_cons, List.not_mem_nil, or_false]; omega)) (hf 21 (by simp only [List.mem_cons, List.not_mem_nil, or_false]; omega)) (hL 22 (by omega)), by rw [e17]; exact h3, cFi_m h4 hf (by simp), fun x hx => by rw [hL x hx]; exact h5 x hx⟩
theorem sp_X9_valueOfB {x : Int32} (hP : zPk P) (h : ∃ c, I 18 5 = nI (c + 1) ∧ c < 1601) {K : Int64 → zI → zL → zP → Prop} (kk : ∀ r, K r I L P) : zMl zm_X9_valueOf d [.ref 18, .int x] I L P K := by
  obtain ⟨c, h1, h2⟩ := h
  refine g_X9_valueOf hP ⟨fun _ => ql (kk _), fun q => ⟨fun _ => ql (kk _), fun q2 => ⟨?_, ql (kk _)⟩⟩⟩
  rw [h1] at q2
  have := (pin (x := x) (n := c + 1) (by omega)).mp ⟨q, q2⟩
  rw [vp_in_iff] at this ⊢
  omega
theorem rG_18 (h : rG T n I L e) : ∃ c, I 18 5 = nI (c + 1) ∧ c < 1601 := by
  obtain ⟨c, i, t1, -⟩ := h
  exact ⟨c, t1.1⟩
abbrev gw_X5_readPerson (d : Nat) (Q : zQt) (pc : Nat) (lv : zV) (st : List Value) (I : zI) (L : zL) (P : zP) : Prop := zW zm_X5_readPerson (zRm d 0 0) 0 0 Q pc lv st I L P 205 0 0
abbrev v_X5_readPerson_132 (d : Nat) (Q : zQt) (x3 : Int32) (I : zI) (L : zL) (P : zP) : Prop :=
  zMi zm_X5_accept d [.ref 17, .int 259] I L P (fun r132 I128 L129 P130 =>
    ((r132 = 0 →
      Q none I128 L129 P130 205
    ) ∧ (¬ r132 = 0 →
      ∃ b134 : Nat, P130 17 3 = some b134 ∧
      (b134 < 205 ∧ (zsh b134).1 = 2) ∧
      ∀ I137 : zI, I137 = zuI I128 b134 2 ((I128 b134 2) ||| ((1 : Int32) <<< (x3 &&& 31) : Int32) : Int32) →
      Q none I137 L129 P130 205
    ))
  )
set_option maxRecDepth 20000 in
theorem g_X5_readPerson_132 {d : Nat} {Q : zQt} {x3 : Int32} {I : zI} {L : zL} {P : zP} (hP : zPk P) (hv : v_X5_readPerson_132 d Q x3 I L P) : gw_X5_readPerson (d + 1) Q 132 [some (.ref 17), none, none, some (.int x3)] [] I L P := by
  unfold v_X5_readPerson_132 at hv
  refine z_aload_n dX5_readPerson_132 rfl ?_
  refine z_sipush (v := 259) dX5_readPerson_133 (by decide) ?_
  refine z_callV (As := [.int 259]) (st := []) dX5_readPerson_136 zl_X5_119 zv_X5_accept (by decide) rfl zn_17 zo_17 rfl rfl (Nat.le_of_ble_eq_true rfl) ⟨Nat.le_refl _, Nat.le_refl _⟩ ⟨Nat.le_refl _, Nat.le_refl _⟩ hv (fun v1 I128 L129 P130 nx1 q131 => ?_)
  obtain ⟨rfl, r132, rfl, hv⟩ := q131
  refine z_if_eq (tgt := 157) dX5_readPerson_139 (by decide) (fun q133 => ?_) (fun q133 => ?_)
  · have hv := hv.1 q133
    exact z_return dX5_readPerson_157 rfl (Nat.le_refl _) (Nat.le_refl _) hv
  · have hv := hv.2 q133
    refine z_aload_n dX5_readPerson_142 rfl ?_
    obtain ⟨b134, h135, hv⟩ := hv
    refine z_getP dX5_readPerson_143 zf_X5_41 zn_17 zo_17 (fun _ _ _ _ _ => rfl) h135 ?_
    refine z_dup dX5_readPerson_146 rfl ?_
    obtain ⟨h136, hv⟩ := hv
    refine z_getI dX5_readPerson_147 zf_X5_129 h136.1 h136.2 (fun _ _ _ _ _ => rfl) ?_
    refine z_iconst (v := 1) dX5_readPerson_150 (by decide) ?_
    refine z_iload_n dX5_readPerson_151 rfl ?_
    refine z_ishl dX5_readPerson_152 ?_
    refine z_ior dX5_readPerson_153 ?_
    refine z_putI dX5_readPerson_154 zf_X5_129 h136.1 h136.2 (Or.inl rfl) (fun _ _ _ _ _ => rfl) rfl rfl (z_nmI (fun I137 e138 => ?_))
    have hv := hv I137 e138
    exact z_return dX5_readPerson_157 rfl (Nat.le_refl _) (Nat.le_refl _) hv
abbrev v_X5_readPerson_114 (d : Nat) (Q : zQt) (x3 : Int32) (I : zI) (L : zL) (P : zP) : Prop :=
  zMi zm_X5_accept d [.ref 17, .int 258] I L P (fun r118 I114 L115 P116 =>
    ((r118 = 0 →
      gw_X5_readPerson (d + 1) Q 132 [some (.ref 17), none, none, some (.int x3)] [] I114 L115 P116
    ) ∧ (¬ r118 = 0 →
      ∃ b120 : Nat, P116 17 3 = some b120 ∧
      (b120 < 205 ∧ (zsh b120).1 = 2) ∧
      zMv zm_X2_giveMirror d [.ref b120, .int x3] I114 L115 P116 (fun I123 L124 P125 =>
        gw_X5_readPerson (d + 1) Q 132 [some (.ref 17), none, none, some (.int x3)] [] I123 L124 P125
      )
    ))
  )
set_option maxRecDepth 20000 in
theorem g_X5_readPerson_114 {d : Nat} {Q : zQt} {x3 : Int32} {I : zI} {L : zL} {P : zP} (hP : zPk P) (hv : v_X5_readPerson_114 d Q x3 I L P) : gw_X5_readPerson (d + 1) Q 114 [some (.ref 17), none, none, some (.int x3)] [] I L P := by
  unfold v_X5_readPerson_114 at hv
  refine z_aload_n dX5_readPerson_114 rfl ?_
  refine z_sipush (v := 258) dX5_readPerson_115 (by decide) ?_
  refine z_callV (As := [.int 258]) (st := []) dX5_readPerson_118 zl_X5_119 zv_X5_accept (by decide) rfl zn_17 zo_17 rfl rfl (Nat.le_of_ble_eq_true rfl) ⟨Nat.le_refl _, Nat.le_refl _⟩ ⟨Nat.le_refl _, Nat.le_refl _⟩ hv (fun v1 I114 L115 P116 nx1 q117 => ?_)
  obtain ⟨rfl, r118, rfl, hv⟩ := q117
  refine z_if_eq (tgt := 132) dX5_readPerson_121 (by decide) (fun q119 => ?_) (fun q119 => ?_)
  · have hv := hv.1 q119
    exact hv
  · have hv := hv.2 q119
    refine z_aload_n dX5_readPerson_124 rfl ?_
    obtain ⟨b120, h121, hv⟩ := hv
    refine z_getP dX5_readPerson_125 zf_X5_41 zn_17 zo_17 (fun _ _ _ _ _ => rfl) h121 ?_
    refine z_iload_n dX5_readPerson_128 rfl ?_
    obtain ⟨h122, hv⟩ := hv
    refine z_callV (As := [.int x3]) (st := []) dX5_readPerson_129 zl_X5_126 zv_X2_giveMirror (by decide) rfl h122.1 h122.2 rfl rfl (Nat.le_of_ble_eq_true rfl) ⟨Nat.le_refl _, Nat.le_refl _⟩ ⟨Nat.le_refl _, Nat.le_refl _⟩ hv (fun v1 I123 L124 P125 nx1 q126 => ?_)
    obtain ⟨rfl, rfl, hv⟩ := q126
    exact hv
abbrev v_X5_readPerson_89 (d : Nat) (Q : zQt) (x3 : Int32) (I : zI) (L : zL) (P : zP) : Prop :=
  zMi zm_X5_accept d [.ref 17, .int 257] I L P (fun r107 I103 L104 P105 =>
    ((r107 = 0 →
      gw_X5_readPerson (d + 1) Q 114 [some (.ref 17), none, none, some (.int x3)] [] I103 L104 P105
    ) ∧ (¬ r107 = 0 →
      ∃ b109 : Nat, P105 17 3 = some b109 ∧
      (b109 < 205 ∧ (zsh b109).1 = 2) ∧
      ∀ I112 : zI, I112 = zuI I103 b109 1 ((I103 b109 1) ||| ((1 : Int32) <<< (x3 &&& 31) : Int32) : Int32) →
      gw_X5_readPerson (d + 1) Q 114 [some (.ref 17), none, none, some (.int x3)] [] I112 L104 P105
    ))
  )
set_option maxRecDepth 20000 in
theorem g_X5_readPerson_89 {d : Nat} {Q : zQt} {x3 : Int32} {I : zI} {L : zL} {P : zP} (hP : zPk P) (hv : v_X5_readPerson_89 d Q x3 I L P) : gw_X5_readPerson (d + 1) Q 89 [some (.ref 17), none, none, some (.int x3)] [] I L P := by
  unfold v_X5_readPerson_89 at hv
  refine z_aload_n dX5_readPerson_89 rfl ?_
  refine z_sipush (v := 257) dX5_readPerson_90 (by decide) ?_
  refine z_callV (As := [.int 257]) (st := []) dX5_readPerson_93 zl_X5_119 zv_X5_accept (by decide) rfl zn_17 zo_17 rfl rfl (Nat.le_of_ble_eq_true rfl) ⟨Nat.le_refl _, Nat.le_refl _⟩ ⟨Nat.le_refl _, Nat.le_refl _⟩ hv (fun v1 I103 L104 P105 nx1 q106 => ?_)
  obtain ⟨rfl, r107, rfl, hv⟩ := q106
  refine z_if_eq (tgt := 114) dX5_readPerson_96 (by decide) (fun q108 => ?_) (fun q108 => ?_)
  · have hv := hv.1 q108
    exact hv
  · have hv := hv.2 q108
    refine z_aload_n dX5_readPerson_99 rfl ?_
    obtain ⟨b109, h110, hv⟩ := hv
    refine z_getP dX5_readPerson_100 zf_X5_41 zn_17 zo_17 (fun _ _ _ _ _ => rfl) h110 ?_
    refine z_dup dX5_readPerson_103 rfl ?_
    obtain ⟨h111, hv⟩ := hv
    refine z_getI dX5_readPerson_104 zf_X5_123 h111.1 h111.2 (fun _ _ _ _ _ => rfl) ?_
    refine z_iconst (v := 1) dX5_readPerson_107 (by decide) ?_
    refine z_iload_n dX5_readPerson_108 rfl ?_
    refine z_ishl dX5_readPerson_109 ?_
    refine z_ior dX5_readPerson_110 ?_
    refine z_putI dX5_readPerson_111 zf_X5_123 h111.1 h111.2 (Or.inl rfl) (fun _ _ _ _ _ => rfl) rfl rfl (z_nmI (fun I112 e113 => ?_))
    have hv := hv I112 e113
    exact hv
abbrev v_X5_readPerson (d : Nat) (Q : zQt)  (I : zI) (L : zL) (P : zP) : Prop :=
  ∃ b1 : Nat, P 17 3 = some b1 ∧
  (b1 < 205 ∧ (zsh b1).1 = 2) ∧
  zMi zm_X2_takesPeople d [.ref b1] I L P (fun r8 I4 L5 P6 =>
    ((¬ r8 = 0 →
      zMv zm_X5_advance d [.ref 17] I4 L5 P6 (fun I10 L11 P12 =>
        zPk P12 ∧
        zMl zm_X9_valueOf d [.ref 18, .int (I10 17 7)] I10 L11 P12 (fun r20 I16 L17 P18 =>
          ∃ b21 : Nat, P18 17 3 = some b21 ∧
          (b21 < 205 ∧ (zsh b21).1 = 2) ∧
          (((I16 17 8) = 273 →
            zMi zm_X2_find d [.ref b21, .long r20] I16 L17 P18 (fun r29 I25 L26 P27 =>
              ((r29 = (-1) →
                ∃ b31 : Nat, P27 17 3 = some b31 ∧
                (b31 < 205 ∧ (zsh b31).1 = 2) ∧
                zMv zm_X2_addPerson d [.ref b31, .long r20] I25 L26 P27 (fun I34 L35 P36 =>
                  zMv zm_X5_advance d [.ref 17] I34 L35 P36 (fun I39 L40 P41 =>
                    gw_X5_readPerson (d + 1) Q 89 [some (.ref 17), none, none, some (.int (I16 b21 0))] [] I39 L40 P41
                  )
                )
              ) ∧ (¬ r29 = (-1) →
                zMv zm_X5_fail d [.ref 17, .int 3] I25 L26 P27 (fun I44 L45 P46 =>
                  gw_X5_readPerson (d + 1) Q 89 [some (.ref 17), none, none, some (.int (I16 b21 0))] [] I44 L45 P46
                )
              ))
            )
          ) ∧ (¬ (I16 17 8) = 273 →
            zMv zm_X5_fail d [.ref 17, .int 2] I16 L17 P18 (fun I49 L50 P51 =>
              gw_X5_readPerson (d + 1) Q 89 [some (.ref 17), none, none, some (.int (I16 b21 0))] [] I49 L50 P51
            )
          ))
        )
      )
    ) ∧ (r8 = 0 →
      zMv zm_X5_fail d [.ref 17, .int 2] I4 L5 P6 (fun I54 L55 P56 =>
        zMv zm_X5_advance d [.ref 17] I54 L55 P56 (fun I59 L60 P61 =>
          zPk P61 ∧
          zMl zm_X9_valueOf d [.ref 18, .int (I59 17 7)] I59 L60 P61 (fun r69 I65 L66 P67 =>
            ∃ b70 : Nat, P67 17 3 = some b70 ∧
            (b70 < 205 ∧ (zsh b70).1 = 2) ∧
            (((I65 17 8) = 273 →
              zMi zm_X2_find d [.ref b70, .long r69] I65 L66 P67 (fun r78 I74 L75 P76 =>
                ((r78 = (-1) →
                  ∃ b80 : Nat, P76 17 3 = some b80 ∧
                  (b80 < 205 ∧ (zsh b80).1 = 2) ∧
                  zMv zm_X2_addPerson d [.ref b80, .long r69] I74 L75 P76 (fun I83 L84 P85 =>
                    zMv zm_X5_advance d [.ref 17] I83 L84 P85 (fun I88 L89 P90 =>
                      gw_X5_readPerson (d + 1) Q 89 [some (.ref 17), none, none, some (.int (I65 b70 0))] [] I88 L89 P90
                    )
                  )
                ) ∧ (¬ r78 = (-1) →
                  zMv zm_X5_fail d [.ref 17, .int 3] I74 L75 P76 (fun I93 L94 P95 =>
                    gw_X5_readPerson (d + 1) Q 89 [some (.ref 17), none, none, some (.int (I65 b70 0))] [] I93 L94 P95
                  )
                ))
              )
            ) ∧ (¬ (I65 17 8) = 273 →
              zMv zm_X5_fail d [.ref 17, .int 2] I65 L66 P67 (fun I98 L99 P100 =>
                gw_X5_readPerson (d + 1) Q 89 [some (.ref 17), none, none, some (.int (I65 b70 0))] [] I98 L99 P100
              )
            ))
          )
        )
      )
    ))
  )
set_option maxRecDepth 20000 in
theorem g_X5_readPerson {d : Nat} {Q : zQt}  {I : zI} {L : zL} {P : zP} (hP : zPk P) (hv : v_X5_readPerson d Q  I L P) : zM zm_X5_readPerson (d + 1) 0 0 [.ref 17] I L P 205 Q := by
  unfold v_X5_readPerson at hv
  refine zM_of (lv0 := [some (.ref 17), none, none, none]) (by decide +kernel) (Nat.le_of_ble_eq_true rfl) rfl ?_
  refine z_aload_n dX5_readPerson_0 rfl ?_
  obtain ⟨b1, h2, hv⟩ := hv
  refine z_getP dX5_readPerson_1 zf_X5_41 zn_17 zo_17 (fun _ _ _ _ _ => rfl) h2 ?_
  obtain ⟨h3, hv⟩ := hv
  refine z_callV (As := []) (st := []) dX5_readPerson_4 zl_X5_97 zv_X2_takesPeople (by decide) rfl h3.1 h3.2 rfl rfl (Nat.le_of_ble_eq_true rfl) ⟨Nat.le_refl _, Nat.le_refl _⟩ ⟨Nat.le_refl _, Nat.le_refl _⟩ hv (fun v1 I4 L5 P6 nx1 q7 => ?_)
  obtain ⟨rfl, r8, rfl, hv⟩ := q7
  refine z_if_ne (tgt := 15) dX5_readPerson_7 (by decide) (fun q9 => ?_) (fun q9 => ?_)
  · have hv := hv.1 q9
    refine z_aload_n dX5_readPerson_15 rfl ?_
    refine z_callV (As := []) (st := []) dX5_readPerson_16 zl_X5_101 zv_X5_advance (by decide) rfl zn_17 zo_17 rfl rfl (Nat.le_of_ble_eq_true rfl) ⟨Nat.le_refl _, Nat.le_refl _⟩ ⟨Nat.le_refl _, Nat.le_refl _⟩ hv (fun v1 I10 L11 P12 nx1 q13 => ?_)
    obtain ⟨rfl, rfl, hv⟩ := q13
    refine z_aload_n dX5_readPerson_19 rfl ?_
    obtain ⟨h15, hv⟩ := hv
    refine z_getP dX5_readPerson_20 zf_X5_37 zn_17 zo_17 (fun _ _ _ _ _ => rfl) (h15 17 2 18 zp_17_2) ?_
    refine z_aload_n dX5_readPerson_23 rfl ?_
    refine z_getI dX5_readPerson_24 zf_X5_24 zn_17 zo_17 (fun _ _ _ _ _ => rfl) ?_
    refine z_callV (As := [.int (I10 17 7)]) (st := []) dX5_readPerson_27 zl_X5_104 zv_X9_valueOf (by decide) rfl zn_18 zo_18 rfl rfl (Nat.le_of_ble_eq_true rfl) ⟨Nat.le_refl _, Nat.le_refl _⟩ ⟨Nat.le_refl _, Nat.le_refl _⟩ hv (fun v1 I16 L17 P18 nx1 q19 => ?_)
    obtain ⟨rfl, r20, rfl, hv⟩ := q19
    refine z_lstore_n (lv2 := [some (.ref 17), some (.long r20), none, none]) dX5_readPerson_30 (by decide) rfl rfl ?_
    refine z_aload_n dX5_readPerson_31 rfl ?_
    obtain ⟨b21, h22, hv⟩ := hv
    refine z_getP dX5_readPerson_32 zf_X5_41 zn_17 zo_17 (fun _ _ _ _ _ => rfl) h22 ?_
    obtain ⟨h23, hv⟩ := hv
    refine z_getI dX5_readPerson_35 zf_X5_108 h23.1 h23.2 (fun _ _ _ _ _ => rfl) ?_
    refine z_istore_n (lv2 := [some (.ref 17), some (.long r20), none, some (.int (I16 b21 0))]) dX5_readPerson_38 (by decide) rfl rfl ?_
    refine z_aload_n dX5_readPerson_39 rfl ?_
    refine z_getI dX5_readPerson_40 zf_X5_29 zn_17 zo_17 (fun _ _ _ _ _ => rfl) ?_
    refine z_sipush (v := 273) dX5_readPerson_43 (by decide) ?_
    refine z_icmp_eq (tgt := 57) dX5_readPerson_46 (by decide) (fun q24 => ?_) (fun q24 => ?_)
    · have hv := hv.1 q24
      refine z_aload_n dX5_readPerson_57 rfl ?_
      refine z_getP dX5_readPerson_58 zf_X5_41 zn_17 zo_17 (fun _ _ _ _ _ => rfl) h22 ?_
      refine z_lload_n dX5_readPerson_61 rfl ?_
      refine z_callV (As := [.long r20]) (st := []) dX5_readPerson_62 zl_X5_111 zv_X2_find (by decide) rfl h23.1 h23.2 rfl rfl (Nat.le_of_ble_eq_true rfl) ⟨Nat.le_refl _, Nat.le_refl _⟩ ⟨Nat.le_refl _, Nat.le_refl _⟩ hv (fun v1 I25 L26 P27 nx1 q28 => ?_)
      obtain ⟨rfl, r29, rfl, hv⟩ := q28
      refine z_iconst (v := (-1)) dX5_readPerson_65 (by decide) ?_
      refine z_icmp_eq (tgt := 77) dX5_readPerson_66 (by decide) (fun q30 => ?_) (fun q30 => ?_)
      · have hv := hv.1 q30
        refine z_aload_n dX5_readPerson_77 rfl ?_
        obtain ⟨b31, h32, hv⟩ := hv
        refine z_getP dX5_readPerson_78 zf_X5_41 zn_17 zo_17 (fun _ _ _ _ _ => rfl) h32 ?_
        refine z_lload_n dX5_readPerson_81 rfl ?_
        obtain ⟨h33, hv⟩ := hv
        refine z_callV (As := [.long r20]) (st := []) dX5_readPerson_82 zl_X5_115 zv_X2_addPerson (by decide) rfl h33.1 h33.2 rfl rfl (Nat.le_of_ble_eq_true rfl) ⟨Nat.le_refl _, Nat.le_refl _⟩ ⟨Nat.le_refl _, Nat.le_refl _⟩ hv (fun v1 I34 L35 P36 nx1 q37 => ?_)
        obtain ⟨rfl, rfl, hv⟩ := q37
        refine z_aload_n dX5_readPerson_85 rfl ?_
        refine z_callV (As := []) (st := []) dX5_readPerson_86 zl_X5_101 zv_X5_advance (by decide) rfl zn_17 zo_17 rfl rfl (Nat.le_of_ble_eq_true rfl) ⟨Nat.le_refl _, Nat.le_refl _⟩ ⟨Nat.le_refl _, Nat.le_refl _⟩ hv (fun v1 I39 L40 P41 nx1 q42 => ?_)
        obtain ⟨rfl, rfl, hv⟩ := q42
        exact z_sub (by exact ⟨rfl, ⟨rfl, trivial⟩⟩) hv
      · have hv := hv.2 q30
        refine z_aload_n dX5_readPerson_69 rfl ?_
        refine z_iconst (v := 3) dX5_readPerson_70 (by decide) ?_
        refine z_callV (As := [.int 3]) (st := []) dX5_readPerson_71 zl_X5_73 zv_X5_fail (by decide) rfl zn_17 zo_17 rfl rfl (Nat.le_of_ble_eq_true rfl) ⟨Nat.le_refl _, Nat.le_refl _⟩ ⟨Nat.le_refl _, Nat.le_refl _⟩ hv (fun v1 I44 L45 P46 nx1 q47 => ?_)
        obtain ⟨rfl, rfl, hv⟩ := q47
        refine z_goto (tgt := 89) dX5_readPerson_74 (by decide) ?_
        exact z_sub (by exact ⟨rfl, ⟨rfl, trivial⟩⟩) hv
    · have hv := hv.2 q24
      refine z_aload_n dX5_readPerson_49 rfl ?_
      refine z_iconst (v := 2) dX5_readPerson_50 (by decide) ?_
      refine z_callV (As := [.int 2]) (st := []) dX5_readPerson_51 zl_X5_73 zv_X5_fail (by decide) rfl zn_17 zo_17 rfl rfl (Nat.le_of_ble_eq_true rfl) ⟨Nat.le_refl _, Nat.le_refl _⟩ ⟨Nat.le_refl _, Nat.le_refl _⟩ hv (fun v1 I49 L50 P51 nx1 q52 => ?_)
      obtain ⟨rfl, rfl, hv⟩ := q52
      refine z_goto (tgt := 89) dX5_readPerson_54 (by decide) ?_
      exact z_sub (by exact ⟨rfl, ⟨rfl, trivial⟩⟩) hv
  · have hv := hv.2 q9
    refine z_aload_n dX5_readPerson_10 rfl ?_
    refine z_iconst (v := 2) dX5_readPerson_11 (by decide) ?_
    refine z_callV (As := [.int 2]) (st := []) dX5_readPerson_12 zl_X5_73 zv_X5_fail (by decide) rfl zn_17 zo_17 rfl rfl (Nat.le_of_ble_eq_true rfl) ⟨Nat.le_refl _, Nat.le_refl _⟩ ⟨Nat.le_refl _, Nat.le_refl _⟩ hv (fun v1 I54 L55 P56 nx1 q57 => ?_)
    obtain ⟨rfl, rfl, hv⟩ := q57
    refine z_aload_n dX5_readPerson_15 rfl ?_
    refine z_callV (As := []) (st := []) dX5_readPerson_16 zl_X5_101 zv_X5_advance (by decide) rfl zn_17 zo_17 rfl rfl (Nat.le_of_ble_eq_true rfl) ⟨Nat.le_refl _, Nat.le_refl _⟩ ⟨Nat.le_refl _, Nat.le_refl _⟩ hv (fun v1 I59 L60 P61 nx1 q62 => ?_)
    obtain ⟨rfl, rfl, hv⟩ := q62
    refine z_aload_n dX5_readPerson_19 rfl ?_
    obtain ⟨h64, hv⟩ := hv
    refine z_getP dX5_readPerson_20 zf_X5_37 zn_17 zo_17 (fun _ _ _ _ _ => rfl) (h64 17 2 18 zp_17_2) ?_
    refine z_aload_n dX5_readPerson_23 rfl ?_
    refine z_getI dX5_readPerson_24 zf_X5_24 zn_17 zo_17 (fun _ _ _ _ _ => rfl) ?_
    refine z_callV (As := [.int (I59 17 7)]) (st := []) dX5_readPerson_27 zl_X5_104 zv_X9_valueOf (by decide) rfl zn_18 zo_18 rfl rfl (Nat.le_of_ble_eq_true rfl) ⟨Nat.le_refl _, Nat.le_refl _⟩ ⟨Nat.le_refl _, Nat.le_refl _⟩ hv (fun v1 I65 L66 P67 nx1 q68 => ?_)
    obtain ⟨rfl, r69, rfl, hv⟩ := q68
    refine z_lstore_n (lv2 := [some (.ref 17), some (.long r69), none, none]) dX5_readPerson_30 (by decide) rfl rfl ?_
    refine z_aload_n dX5_readPerson_31 rfl ?_
    obtain ⟨b70, h71, hv⟩ := hv
    refine z_getP dX5_readPerson_32 zf_X5_41 zn_17 zo_17 (fun _ _ _ _ _ => rfl) h71 ?_
    obtain ⟨h72, hv⟩ := hv
    refine z_getI dX5_readPerson_35 zf_X5_108 h72.1 h72.2 (fun _ _ _ _ _ => rfl) ?_
    refine z_istore_n (lv2 := [some (.ref 17), some (.long r69), none, some (.int (I65 b70 0))]) dX5_readPerson_38 (by decide) rfl rfl ?_
    refine z_aload_n dX5_readPerson_39 rfl ?_
    refine z_getI dX5_readPerson_40 zf_X5_29 zn_17 zo_17 (fun _ _ _ _ _ => rfl) ?_
    refine z_sipush (v := 273) dX5_readPerson_43 (by decide) ?_
    refine z_icmp_eq (tgt := 57) dX5_readPerson_46 (by decide) (fun q73 => ?_) (fun q73 => ?_)
    · have hv := hv.1 q73
      refine z_aload_n dX5_readPerson_57 rfl ?_
      refine z_getP dX5_readPerson_58 zf_X5_41 zn_17 zo_17 (fun _ _ _ _ _ => rfl) h71 ?_
      refine z_lload_n dX5_readPerson_61 rfl ?_
      refine z_callV (As := [.long r69]) (st := []) dX5_readPerson_62 zl_X5_111 zv_X2_find (by decide) rfl h72.1 h72.2 rfl rfl (Nat.le_of_ble_eq_true rfl) ⟨Nat.le_refl _, Nat.le_refl _⟩ ⟨Nat.le_refl _, Nat.le_refl _⟩ hv (fun v1 I74 L75 P76 nx1 q77 => ?_)
      obtain ⟨rfl, r78, rfl, hv⟩ := q77
      refine z_iconst (v := (-1)) dX5_readPerson_65 (by decide) ?_
      refine z_icmp_eq (tgt := 77) dX5_readPerson_66 (by decide) (fun q79 => ?_) (fun q79 => ?_)
      · have hv := hv.1 q79
        refine z_aload_n dX5_readPerson_77 rfl ?_
        obtain ⟨b80, h81, hv⟩ := hv
        refine z_getP dX5_readPerson_78 zf_X5_41 zn_17 zo_17 (fun _ _ _ _ _ => rfl) h81 ?_
        refine z_lload_n dX5_readPerson_81 rfl ?_
        obtain ⟨h82, hv⟩ := hv
        refine z_callV (As := [.long r69]) (st := []) dX5_readPerson_82 zl_X5_115 zv_X2_addPerson (by decide) rfl h82.1 h82.2 rfl rfl (Nat.le_of_ble_eq_true rfl) ⟨Nat.le_refl _, Nat.le_refl _⟩ ⟨Nat.le_refl _, Nat.le_refl _⟩ hv (fun v1 I83 L84 P85 nx1 q86 => ?_)
        obtain ⟨rfl, rfl, hv⟩ := q86
        refine z_aload_n dX5_readPerson_85 rfl ?_
        refine z_callV (As := []) (st := []) dX5_readPerson_86 zl_X5_101 zv_X5_advance (by decide) rfl zn_17 zo_17 rfl rfl (Nat.le_of_ble_eq_true rfl) ⟨Nat.le_refl _, Nat.le_refl _⟩ ⟨Nat.le_refl _, Nat.le_refl _⟩ hv (fun v1 I88 L89 P90 nx1 q91 => ?_)
        obtain ⟨rfl, rfl, hv⟩ := q91
        exact z_sub (by exact ⟨rfl, ⟨rfl, trivial⟩⟩) hv
      · have hv := hv.2 q79
        refine z_aload_n dX5_readPerson_69 rfl ?_
        refine z_iconst (v := 3) dX5_readPerson_70 (by decide) ?_
        refine z_callV (As := [.int 3]) (st := []) dX5_readPerson_71 zl_X5_73 zv_X5_fail (by decide) rfl zn_17 zo_17 rfl rfl (Nat.le_of_ble_eq_true rfl) ⟨Nat.le_refl _, Nat.le_refl _⟩ ⟨Nat.le_refl _, Nat.le_refl _⟩ hv (fun v1 I93 L94 P95 nx1 q96 => ?_)
        obtain ⟨rfl, rfl, hv⟩ := q96
        refine z_goto (tgt := 89) dX5_readPerson_74 (by decide) ?_
        exact z_sub (by exact ⟨rfl, ⟨rfl, trivial⟩⟩) hv
    · have hv := hv.2 q73
      refine z_aload_n dX5_readPerson_49 rfl ?_
      refine z_iconst (v := 2) dX5_readPerson_50 (by decide) ?_
      refine z_callV (As := [.int 2]) (st := []) dX5_readPerson_51 zl_X5_73 zv_X5_fail (by decide) rfl zn_17 zo_17 rfl rfl (Nat.le_of_ble_eq_true rfl) ⟨Nat.le_refl _, Nat.le_refl _⟩ ⟨Nat.le_refl _, Nat.le_refl _⟩ hv (fun v1 I98 L99 P100 nx1 q101 => ?_)
      obtain ⟨rfl, rfl, hv⟩ := q101
      refine z_goto (tgt := 89) dX5_readPerson_54 (by decide) ?_
      exact z_sub (by exact ⟨rfl, ⟨rfl, trivial⟩⟩) hv
variable {v : Int64} {a b : Nat}
theorem p132 (hP : zPk P) (hR : cPr P t) (h8 : A.1 0 < 8) (h : cLs T n t I0 L0 I L (aAdd A v a b 0) e) (hd : 2 ≤ d) (kk : cW T n t I0 L0 (fun I' L' => Q none I' L' P 205) (.inr (skF T n 259 e, aAdd A v a b (@ite _ (tK T n e = 259) (Classical.propDecidable _) 1 0)))) : gw_X5_readPerson (d + 1) Q 132 [some (.ref 17), none, none, some (.int (nI (A.1 0)))] [] I L P := by
  obtain ⟨r1, r2, ht⟩ := hR
  unfold skF at kk
  refine g_X5_readPerson_132 hP (sp_X5_accept (w := 259) hP h.2.1 (by decide) hd (fun z => ⟨fun _ => ?_, fun y => absurd rfl y⟩) (fun z I' f1 f2 => ⟨fun y => absurd y (by decide), fun _ => ⟨t, r1, (il_P ht hP).1, fun I124 e124 => ?_⟩⟩))
  · rw [if_neg z, if_neg z] at kk
    exact kk I L h
  · rw [if_pos z, if_pos z] at kk
    have h' := cLs_m ht h f1 f2
    obtain ⟨s, s1, s2, s3⟩ := h'.1.2.2.1
    have a0 := aAdd_0 (A := A) (v := v) (tw := a) (s := b) (st := 0) h8
    rw [s2, nx_set (by omega)] at e124
    refine kk I124 L (cLs_i ht h' ?_ (by rw [e124]; exact cFr_c (cFr_rf _ _) (by simp)) (fun _ _ => rfl))
    rw [e124, ← aAdd_e3 A v a b 0 1 h8]
    exact cI_sy ht h'.1 (by rw [a0]; omega) s2 ⟨s1, s3⟩
theorem p114 (hP : zPk P) (hR : cPr P t) (h8 : A.1 0 < 8) (hb : A.1 2 = 0) (h : cLs T n t I0 L0 I L (aAdd A v a (255 - 2 ^ A.1 0) 0) e) (hd : 2 ≤ d) (kk : cW T n t I0 L0 (fun I' L' => Q none I' L' P 205) (.inr (skF T n 259 (skF T n 258 e), aAdd A v a (@ite _ (tK T n e = 258) (Classical.propDecidable _) 255 (255 - 2 ^ A.1 0)) (@ite _ (tK T n (skF T n 258 e) = 259) (Classical.propDecidable _) 1 0)))) : gw_X5_readPerson (d + 1) Q 114 [some (.ref 17), none, none, some (.int (nI (A.1 0)))] [] I L P := by
  have ht := hR.2.2
  refine g_X5_readPerson_114 hP (sp_X5_accept (w := 258) hP h.2.1 (by decide) hd (fun z => ⟨fun _ => ?_, fun y => absurd rfl y⟩) (fun z I' f1 f2 => ⟨fun y => absurd y (by decide), fun _ => ⟨t, hR.1, (il_P ht hP).1, ?_⟩⟩))
  · rw [show skF T n 258 e = e from if_neg z, if_neg z] at kk
    exact p132 hP hR h8 h hd kk
  · rw [show skF T n 258 e = tE T n e from if_pos z, if_pos z] at kk
    have h' := cLs_m ht h f1 f2
    exact sp_X2_giveMirror hP ht h8 hb h'.1 (by omega) (fun I2 g1 g2 => p132 hP hR h8 (cLs_i ht h' g1 (cFr_wk g2 (by simp)) (fun _ _ => rfl)) hd kk)
theorem p89 (hP : zPk P) (hR : cPr P t) (h8 : A.1 0 < 8) (hb : A.1 2 = 0) (h : cLs T n t I0 L0 I L (aAdd A v (A.1 1) (255 - 2 ^ A.1 0) 0) (tE T n e)) (hv : v = tV T n e) (hd : 2 ≤ d) (kk : cW T n t I0 L0 (fun I' L' => Q none I' L' P 205) (.inr (skF T n 259 (skF T n 258 (skF T n 257 (tE T n e))), aOne T n e A))) : gw_X5_readPerson (d + 1) Q 89 [some (.ref 17), none, none, some (.int (nI (A.1 0)))] [] I L P := by
  have ht := hR.2.2
  subst hv
  unfold aOne at kk
  refine g_X5_readPerson_89 hP (sp_X5_accept (w := 257) hP h.2.1 (by decide) hd (fun z => ⟨fun _ => ?_, fun y => absurd rfl y⟩) (fun z I' f1 f2 => ⟨fun y => absurd y (by decide), fun _ => ⟨t, hR.1, (il_P ht hP).1, fun I2 e2 => ?_⟩⟩))
  · rw [show skF T n 257 (tE T n e) = tE T n e from if_neg z, if_neg z] at kk
    exact p114 hP hR h8 hb h hd kk
  · rw [show skF T n 257 (tE T n e) = tE T n (tE T n e) from if_pos z, if_pos z] at kk
    have h' := cLs_m ht h f1 f2
    have a0 := aAdd_0 (A := A) (v := tV T n e) (tw := A.1 1) (s := 255 - 2 ^ A.1 0) (st := 0) h8
    have a1 := aAdd_1 (A := A) (v := tV T n e) (tw := A.1 1) (s := 255 - 2 ^ A.1 0) (st := 0) h8
    have s1 := h'.1.2.1.2
    rw [a1] at s1
    rw [s1, nx_set (by omega)] at e2
    refine p114 hP hR h8 hb (cLs_i ht h' ?_ (by rw [e2]; exact cFr_c (cFr_rf _ _) (by simp)) (fun _ _ => rfl)) hd kk
    have := cI_mk (p := A.1 0) ht h'.1 (by rw [a0]; omega)
    rw [a1, aAdd_e1, ← e2] at this
    exact this
theorem pB {k p : Nat} {x : Int32} (hP : zPk P) (h : rB k p I) (hd : 2 ≤ d) (kk : Q none I L P 205) : gw_X5_readPerson (d + 1) Q 89 [some (.ref 17), none, none, some (.int x)] [] I L P :=
  g_X5_readPerson_89 hP (sp_X5_acceptB (w := 257) hP h (by decide) hd ⟨fun _ => g_X5_readPerson_114 hP (sp_X5_acceptB (w := 258) hP h (by decide) hd ⟨fun _ => g_X5_readPerson_132 hP (sp_X5_acceptB (w := 259) hP h (by decide) hd ⟨fun _ => kk, fun y => absurd rfl y⟩), fun y => absurd rfl y⟩), fun y => absurd rfl y⟩)
theorem sp_X5_readPerson (hP : zPk P) (hR : cPr P t) (h : cLs T n t I0 L0 I L A e) (hk : tK T n e = 256) (hd : 3 ≤ d) {K : zI → zL → zP → Prop}
    (kk : cW T n t I0 L0 (fun I' L' => K I' L' P) (@ite _ (aFull A 256) (Classical.propDecidable _) (lBad T n e) (lOne T n A (tE T n e)))) : zMv zm_X5_readPerson d [.ref 17] I L P K := by
  obtain ⟨d, rfl⟩ : ∃ e, d = e + 1 := ⟨d - 1, by omega⟩
  obtain ⟨r1, r2, ht⟩ := hR
  have b1 := (il_P ht hP).1
  refine g_X5_readPerson hP ⟨t, r1, b1, sp_X2_takesPeople hP ht h.1 ⟨fun q => ?_, fun q => ?_⟩⟩
  · rw [bP_n] at q
    rw [if_neg q] at kk
    have ef : aFull A 256 ↔ (A.1 0 = 8 ∨ 0 < A.1 2 ∨ A.1 5 ≠ 0 ∨ 0 < A.1 3) := Iff.rfl
    rw [ef] at q
    have h88 := h.1.1.1
    unfold lOne at kk
    refine sp_X5_advance hP h.2.1 (by omega) (by omega) (fun I10 f1 f2 => ⟨hP, ?_⟩)
    have h' := cLs_m ht h f1 f2
    obtain ⟨c, i, t1, t2, t3, t4, t5, -⟩ := id f2
    rw [t4]
    refine sp_X9_valueOf (T := T) (n := n) (c := c) hP t1 t2 ⟨t, r1, b1, ?_⟩
    have k273 := rG_w f2 (w := 273) (by decide)
    rw [show (273 : Int32) = nI 273 from rfl, k273, h'.1.1.2]
    refine ⟨fun z => ?_, fun z => ?_⟩
    · rw [if_pos z] at kk
      have ev : L 22 i = tV T n (tE T n e) := by
        have := (t1.2.1 i (by omega)).2.2.1
        rw [t3] at this
        exact this (by omega) (by omega)
      rw [ev]
      refine sp_X2_find hP (cI_H ht h'.1) ?_
      have en : nfD (L (t + 1)) (tV T n (tE T n e)) (A.1 0) 0 = aNm A (tV T n (tE T n e)) := congrFun (cI_nm h'.1) _
      rw [en]
      cases ho : aNm A (tV T n (tE T n e)) with
      | none =>
        rw [ho] at kk
        refine ⟨fun _ => ⟨t, r1, b1, sp_X2_addPerson hP ht h'.1 (by omega) (by omega) (by omega) (fun I2 L2 g1 g2 g3 => ?_)⟩, fun y => absurd rfl y⟩
        have h2 := cLs_i ht h' g1 (cFr_wk g2 (by simp)) g3
        refine sp_X5_advance hP h2.2.1 (by omega) (by omega) (fun I3 f3 f4 => p89 hP ⟨r1, r2, ht⟩ (by omega) (by omega) (cLs_m ht h2 f3 f4) rfl (by omega) ?_)
        exact fun I' L' hh => qv (kk I' L' hh)
      | some k =>
        rw [ho] at kk
        have hlt : k < 8 := by have := nfD_lt ho; omega
        refine ⟨fun y => absurd y ?_, fun _ => sp_X5_fail (k := 3) hP f2 (by decide) (by omega) (fun I2 g1 g2 => pB hP g2 (by omega) (qv ?_))⟩
        · intro y
          have := congrArg Int32.toInt y
          rw [show oI (some k) = nI k from rfl, nI_toInt (by omega)] at this
          have e1 : ((-1 : Int32)).toInt = -1 := by decide
          rw [e1] at this
          omega
        · have e3 : fk T n (tE T n e) 3 = 3 := if_neg (by omega)
          rw [e3] at g2
          exact cLs_bad (q := (3, tA T n (tE T n e))) h' g1 g2 kk
    · rw [if_neg z] at kk
      exact sp_X5_fail (k := 2) hP f2 (by decide) (by omega) (fun I2 g1 g2 => pB hP g2 (by omega) (qv (cLs_bad (q := (mis T n (tE T n e), tA T n (tE T n e))) h' g1 g2 kk)))
  · rw [bP_0, Classical.not_not] at q
    rw [if_pos q] at kk
    refine sp_X5_fail (k := 2) hP h.2.1 (by decide) (by omega) (fun I2 g1 g2 => sp_X5_advanceB hP g2 (by omega) ⟨hP, sp_X9_valueOfB hP ?_ (fun r => ⟨t, r1, b1, ?_⟩)⟩)
    · rw [g1.1 18 (by decide)]; exact rG_18 h.2.1
    · exact ⟨fun z => absurd z (rB_w (w := 273) g2 (by decide)), fun _ => sp_X5_failB hP g2 (by omega) (pB hP g2 (by omega) (qv (cLs_bad (q := (mis T n e, tA T n e)) h g1 g2 kk)))⟩
end LN1
