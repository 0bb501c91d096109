/-! ===== class and model: sights told and untold ===== -/
section QD
variable {d : Nat} {I I' : zI} {L L' : zL} {P P' : zP} {t st : Nat} {b : Nat → Nat} {cd : Nat → Cd}
abbrev gw_X7_takeBack (d : Nat) (Q : zQt) (pc : Nat) (lv : zV) (st : List Value) (I : zI) (L : zL) (P : zP) : Prop := zW zm_X7_takeBack (zRm d 0 0) 0 0 Q pc lv st I L P 205 0 0
abbrev v_X7_takeBack (d : Nat) (Q : zQt) (p1 : Int32) (I : zI) (L : zL) (P : zP) : Prop :=
  ((p1 < 0 →
    Q (some (.int 0)) I L P 205
  ) ∧ (¬ p1 < 0 →
    (((I 90 5) ≤ p1 →
      Q (some (.int 0)) I L P 205
    ) ∧ (¬ (I 90 5) ≤ p1 →
      vp_in p1 20 ∧
      (((I 95 p1.toNatClampNeg) = (-1) →
        ∀ I6 : zI, I6 = zuI I 95 p1.toNatClampNeg (I 90 6) →
        Q (some (.int 1)) I6 L P 205
      ) ∧ (¬ (I 95 p1.toNatClampNeg) = (-1) →
        Q (some (.int 0)) I L P 205
      ))
    ))
  ))
set_option maxRecDepth 20000 in
theorem g_X7_takeBack {d : Nat} {Q : zQt} {p1 : Int32} {I : zI} {L : zL} {P : zP} (hP : zPk P) (hv : v_X7_takeBack d Q p1 I L P) : zM zm_X7_takeBack d 0 0 [.ref 90, .int p1] I L P 205 Q := by
  unfold v_X7_takeBack at hv
  refine zM_of (lv0 := [some (.ref 90), some (.int p1)]) (by decide +kernel) (Nat.le_of_ble_eq_true rfl) rfl ?_
  refine z_iload_n dX7_takeBack_0 rfl ?_
  refine z_if_lt (tgt := 22) dX7_takeBack_1 (by decide) (fun q1 => ?_) (fun q1 => ?_)
  · have hv := hv.1 q1
    refine z_iconst (v := 0) dX7_takeBack_22 (by decide) ?_
    exact z_ireturn dX7_takeBack_23 rfl (by decide) (Nat.le_refl _) (Nat.le_refl _) hv
  · have hv := hv.2 q1
    refine z_iload_n dX7_takeBack_4 rfl ?_
    refine z_aload_n dX7_takeBack_5 rfl ?_
    refine z_getI dX7_takeBack_6 zf_X7_28 zn_90 zo_90 (fun _ _ _ _ _ => rfl) ?_
    refine z_icmp_ge (tgt := 22) dX7_takeBack_9 (by decide) (fun q2 => ?_) (fun q2 => ?_)
    · have hv := hv.1 q2
      refine z_iconst (v := 0) dX7_takeBack_22 (by decide) ?_
      exact z_ireturn dX7_takeBack_23 rfl (by decide) (Nat.le_refl _) (Nat.le_refl _) hv
    · have hv := hv.2 q2
      refine z_aload_n dX7_takeBack_12 rfl ?_
      refine z_getP dX7_takeBack_13 zf_X7_25 zn_90 zo_90 (fun _ _ _ _ _ => rfl) (hP 90 4 95 zp_90_4) ?_
      refine z_iload_n dX7_takeBack_16 rfl ?_
      obtain ⟨h3, hv⟩ := hv
      refine z_iaload dX7_takeBack_17 zn_95 zh_95 h3 ?_
      refine z_iconst (v := (-1)) dX7_takeBack_18 (by decide) ?_
      refine z_icmp_eq (tgt := 24) dX7_takeBack_19 (by decide) (fun q4 => ?_) (fun q4 => ?_)
      · have hv := hv.1 q4
        refine z_aload_n dX7_takeBack_24 rfl ?_
        refine z_getP dX7_takeBack_25 zf_X7_25 zn_90 zo_90 (fun _ _ _ _ _ => rfl) (hP 90 4 95 zp_90_4) ?_
        refine z_iload_n dX7_takeBack_28 rfl ?_
        refine z_aload_n dX7_takeBack_29 rfl ?_
        refine z_getI dX7_takeBack_30 zf_X7_32 zn_90 zo_90 (fun _ _ _ _ _ => rfl) ?_
        refine z_iastore dX7_takeBack_33 zn_95 zh_95 h3 (z_nmI (fun I6 e5 => ?_))
        have hv := hv I6 e5
        refine z_iconst (v := 1) dX7_takeBack_34 (by decide) ?_
        exact z_ireturn dX7_takeBack_35 rfl (by decide) (Nat.le_refl _) (Nat.le_refl _) hv
      · have hv := hv.2 q4
        refine z_iconst (v := 0) dX7_takeBack_22 (by decide) ?_
        exact z_ireturn dX7_takeBack_23 rfl (by decide) (Nat.le_refl _) (Nat.le_refl _) hv
theorem sp_X7_takeBack {x : Int32} {m : Nat} {K : Int32 → zI → zL → zP → Prop} (hP : zPk P) (hm : m ≤ 20) (h5 : I 90 5 = nI m) (k0 : ¬ (∃ j, j < m ∧ x = nI j ∧ I 95 j = -1) → K 0 I L P) (kk : ∀ j, j < m → x = nI j → I 95 j = -1 → K 1 (zuI I 95 j (I 90 6)) L P) : zMi zm_X7_takeBack d [.ref 90, .int x] I L P K := by
  have pn := pin (x := x) (n := m) (by omega)
  refine g_X7_takeBack hP ⟨fun q => qi (k0 ?_), fun q => ⟨fun q2' => qi (k0 ?_), fun q2' => ?_⟩⟩
  · rintro ⟨j, hj, rfl, -⟩
    exact (nI_pos (by omega)) q
  · rintro ⟨j, hj, rfl, -⟩
    rw [h5] at q2'
    exact (nI_ge hj (by omega)) q2'
  · rw [h5] at q2'
    obtain ⟨j, hj, rfl⟩ := vp_nI (pn.mp ⟨q, q2'⟩) (by omega)
    rw [nI_cl (by omega)]
    refine ⟨nx_in (by omega) (by decide), fun z I6 e6 => qi (by rw [e6]; exact kk j hj rfl z), fun z => qi (k0 ?_)⟩
    rintro ⟨j', hj', e, y⟩
    have : j = j' := (nI_eq (by omega) (by omega)).mp e
    exact z (by rw [this]; exact y)
abbrev gw_X11_untell (d : Nat) (Q : zQt) (pc : Nat) (lv : zV) (st : List Value) (I : zI) (L : zL) (P : zP) : Prop := zW zm_X11_untell (zRm d 0 0) 0 0 Q pc lv st I L P 205 0 0
abbrev v_X11_untell (d : Nat) (Q : zQt) (p1 : Int32) (I : zI) (L : zL) (P : zP) : Prop :=
  zMi zm_X7_takeBack d [.ref 90, .int p1] I L P (fun r5 I1 L2 P3 =>
    (r5 = 0 ∨ r5 = 1) ∧
    Q (some (.int r5)) I1 L2 P3 205
  )
set_option maxRecDepth 20000 in
theorem g_X11_untell {d : Nat} {Q : zQt} {p1 : Int32} {I : zI} {L : zL} {P : zP} (hP : zPk P) (hv : v_X11_untell d Q p1 I L P) : zM zm_X11_untell (d + 1) 0 0 [.ref 0, .int p1] I L P 205 Q := by
  unfold v_X11_untell at hv
  refine zM_of (lv0 := [some (.ref 0), some (.int p1)]) (by decide +kernel) (Nat.le_of_ble_eq_true rfl) rfl ?_
  refine z_aload_n dX11_untell_0 rfl ?_
  refine z_getP dX11_untell_1 zf_X11_79 zn_0 zo_0 (fun _ _ _ _ _ => rfl) (hP 0 10 90 zp_0_10) ?_
  refine z_iload_n dX11_untell_4 rfl ?_
  refine z_callV (As := [.int p1]) (st := []) dX11_untell_5 zl_X11_220 zv_X7_takeBack (by decide) rfl zn_90 zo_90 rfl rfl (Nat.le_of_ble_eq_true rfl) ⟨Nat.le_refl _, Nat.le_refl _⟩ ⟨Nat.le_refl _, Nat.le_refl _⟩ hv (fun v1 I1 L2 P3 nx1 q4 => ?_)
  obtain ⟨rfl, r5, rfl, hv⟩ := q4
  obtain ⟨h6, hv⟩ := hv
  exact z_ireturn dX11_untell_8 rfl (zbn h6) (Nat.le_refl _) (Nat.le_refl _) hv
theorem q_untell {x : Int32} (h : Rl I I L P t st b cd) (hd : 2 ≤ d) : zMi zm_X11_untell d [.ref 0, .int x] I L P (fun r I1 L1 P1 => zPk P1 ∧ zMi zm_X12_untell d [.ref 160, .int x] I1 L1 P1 (q2 r)) := by
  obtain ⟨d, rfl⟩ : ∃ e, d = e + 1 := ⟨d - 1, by omega⟩
  have hP := h.1.1
  have hH := h.2.1.2.2.2.1
  have hs := h.2.2.2.2.2.2.2.1
  obtain ⟨jt, hjt, ejt⟩ := h.2.1.2.2.2.2
  have sm : ∀ j, j < vNg I → (I 95 j = -1 ↔ I 192 j < 0) := fun j hj => by
    obtain ⟨⟨-, -, -, -, a5⟩, a6, -⟩ := hs.2.2 j hj
    rw [a5]; exact a6.symm
  refine g_X11_untell hP (sp_X7_takeBack hP hH.1 hs.1.2 (fun z => ⟨Or.inl rfl, qj hP (sp_X12_untell hP hH.1 hH.2.1 (by omega) (fun _ => q2_s h) (fun j hj e c => absurd ⟨j, hj, e, (sm j hj).mpr c⟩ z))⟩) (fun j hj e c => ⟨Or.inr rfl, ?_⟩))
  obtain ⟨I4, e4⟩ : ∃ J, J = zuI I 95 j (I 90 6) := ⟨_, rfl⟩
  rw [← e4]
  have em : eM I I4 := fun a ha => by rw [e4, zuI_ne (by omega)]
  have h59 : I4 160 59 = nI (vNg I) := by rw [em 160 (by decide)]; exact hH.2.1
  refine qj hP (sp_X12_untell hP hH.1 h59 (by omega) (fun z => absurd ⟨j, hj, e, by rw [em 192 (by decide)]; exact (sm j hj).mp c⟩ z) (fun j' hj' e' c' => ?_))
  have := hH.1
  have : j' = j := ((nI_eq (by omega) (by omega)).mp (e.symm.trans e')).symm
  subst this
  have e60 : I4 160 60 = I 160 60 := by rw [em 160 (by decide)]
  rw [hs.2.1] at e4
  rw [e60]
  have g95 : ∀ k, (zuI I4 192 j' (I 160 60)) 95 k = if k = j' then I 160 60 else I 95 k := fun k => by
    rw [zuI_ne (by decide), e4]
    by_cases q : k = j'
    · rw [q, zuI_v, if_pos rfl]
    · rw [zuI_o q, if_neg q]
  have g192 : ∀ k, (zuI I4 192 j' (I 160 60)) 192 k = if k = j' then I 160 60 else I 192 k := fun k => by
    by_cases q : k = j'
    · rw [q, zuI_v, if_pos rfl]
    · rw [zuI_o q, if_neg q, em 192 (by decide)]
  have go : ∀ a, a ≠ 95 → a ≠ 192 → (zuI I4 192 j' (I 160 60)) a = I a := fun a a1 a2 => by rw [zuI_ne a2, e4, zuI_ne a1]
  generalize (zuI I4 192 j' (I 160 60)) = J at g95 g192 go
  refine ⟨rfl, hP, Rn_i (Rl_sg (I' := J) h (fun a ha => go a (by omega) (by omega)) (fun k _ _ => by rw [go 160 (by decide) (by decide)]) ⟨?_, ⟨jt, hjt, by rw [go 160 (by decide) (by decide)]; exact ejt⟩, ?_⟩)⟩
  · unfold MH vNg at hH ⊢
    rw [go 160 (by decide) (by decide), go 189 (by decide) (by decide), go 197 (by decide) (by decide)]
    exact hH
  · have eNp : vNp J = vNp I := by
      unfold vNp vB
      rw [go 160 (by decide) (by decide), go 163 (by decide) (by decide)]
    unfold sgR vNg at hs ⊢
    rw [eNp, go 160 (by decide) (by decide), go 90 (by decide) (by decide), go 91 (by decide) (by decide), go 92 (by decide) (by decide), go 93 (by decide) (by decide), go 94 (by decide) (by decide), go 189 (by decide) (by decide), go 190 (by decide) (by decide), go 191 (by decide) (by decide), go 197 (by decide) (by decide)]
    refine ⟨hs.1, hs.2.1, fun s hs' => ?_⟩
    obtain ⟨⟨a1, a2, a3, a4, a5⟩, a6, a7⟩ := hs.2.2 s hs'
    rw [g95 s, g192 s]
    by_cases q : s = j'
    · rw [if_pos q, if_pos q]
      refine ⟨⟨a1, a2, a3, a4, rfl⟩, ?_, a7⟩
      rw [ejt]
      constructor
      · intro y; exact absurd y (nI_pos (by omega))
      · intro y
        have := congrArg Int32.toInt y
        rw [nI_toInt (by omega)] at this
        have e1 : ((-1 : Int32)).toInt = -1 := by decide
        rw [e1] at this
        omega
    · rw [if_neg q, if_neg q]
      exact ⟨⟨a1, a2, a3, a4, a5⟩, a6, a7⟩
abbrev gw_X7_tell (d : Nat) (Q : zQt) (pc : Nat) (lv : zV) (st : List Value) (I : zI) (L : zL) (P : zP) : Prop := zW zm_X7_tell (zRm d 0 0) 0 0 Q pc lv st I L P 205 0 0
abbrev v_X7_tell (d : Nat) (Q : zQt) (p1 : Int32) (p2 : Int32) (p3 : Int32) (I : zI) (L : zL) (P : zP) : Prop :=
  ((p2 < 1 →
    Q (some (.int (-1))) I L P 205
  ) ∧ (¬ p2 < 1 →
    ((12 < p2 →
      Q (some (.int (-1))) I L P 205
    ) ∧ (¬ 12 < p2 →
      (((I 90 5) < 20 →
        vp_in (I 90 5) 20 ∧
        ∀ I6 : zI, I6 = zuI I 91 (I 90 5).toNatClampNeg p1 →
        vp_in (I6 90 5) 20 ∧
        ∀ I9 : zI, I9 = zuI I6 92 (I6 90 5).toNatClampNeg p2 →
        vp_in (I9 90 5) 20 ∧
        (p3 = 0 ∨ p3 = 1) ∧
        ∀ I12 : zI, I12 = zuI I9 93 (I9 90 5).toNatClampNeg p3 →
        vp_in (I12 90 5) 20 ∧
        ∀ I16 : zI, I16 = zuI I12 94 (I12 90 5).toNatClampNeg (I12 90 6) →
        vp_in (I16 90 5) 20 ∧
        ∀ I19 : zI, I19 = zuI I16 95 (I16 90 5).toNatClampNeg (-1) →
        ∀ I20 : zI, I20 = zuI I19 90 5 ((I19 90 5) + 1) →
        Q (some (.int ((I20 90 5) - 1))) I20 L P 205
      ) ∧ (¬ (I 90 5) < 20 →
        Q (some (.int (-1))) I L P 205
      ))
    ))
  ))
set_option maxRecDepth 20000 in
theorem g_X7_tell {d : Nat} {Q : zQt} {p1 : Int32} {p2 : Int32} {p3 : Int32} {I : zI} {L : zL} {P : zP} (hP : zPk P) (hv : v_X7_tell d Q p1 p2 p3 I L P) : zM zm_X7_tell d 0 0 [.ref 90, .int p1, .int p2, .int p3] I L P 205 Q := by
  unfold v_X7_tell at hv
  refine zM_of (lv0 := [some (.ref 90), some (.int p1), some (.int p2), some (.int p3)]) (by decide +kernel) (Nat.le_of_ble_eq_true rfl) rfl ?_
  refine z_iload_n dX7_tell_0 rfl ?_
  refine z_iconst (v := 1) dX7_tell_1 (by decide) ?_
  refine z_icmp_lt (tgt := 20) dX7_tell_2 (by decide) (fun q1 => ?_) (fun q1 => ?_)
  · have hv := hv.1 q1
    refine z_iconst (v := (-1)) dX7_tell_20 (by decide) ?_
    exact z_ireturn dX7_tell_21 rfl rfl (Nat.le_refl _) (Nat.le_refl _) hv
  · have hv := hv.2 q1
    refine z_iload_n dX7_tell_5 rfl ?_
    refine z_bipush (v := 12) dX7_tell_6 (by decide) ?_
    refine z_icmp_gt (tgt := 20) dX7_tell_8 (by decide) (fun q2 => ?_) (fun q2 => ?_)
    · have hv := hv.1 q2
      refine z_iconst (v := (-1)) dX7_tell_20 (by decide) ?_
      exact z_ireturn dX7_tell_21 rfl rfl (Nat.le_refl _) (Nat.le_refl _) hv
    · have hv := hv.2 q2
      refine z_aload_n dX7_tell_11 rfl ?_
      refine z_getI dX7_tell_12 zf_X7_28 zn_90 zo_90 (fun _ _ _ _ _ => rfl) ?_
      refine z_bipush (v := 20) dX7_tell_15 (by decide) ?_
      refine z_icmp_lt (tgt := 22) dX7_tell_17 (by decide) (fun q3 => ?_) (fun q3 => ?_)
      · have hv := hv.1 q3
        refine z_aload_n dX7_tell_22 rfl ?_
        refine z_getP dX7_tell_23 zf_X7_11 zn_90 zo_90 (fun _ _ _ _ _ => rfl) (hP 90 0 91 zp_90_0) ?_
        refine z_aload_n dX7_tell_26 rfl ?_
        refine z_getI dX7_tell_27 zf_X7_28 zn_90 zo_90 (fun _ _ _ _ _ => rfl) ?_
        refine z_iload_n dX7_tell_30 rfl ?_
        obtain ⟨h4, hv⟩ := hv
        refine z_iastore dX7_tell_31 zn_91 zh_91 h4 (z_nmI (fun I6 e5 => ?_))
        have hv := hv I6 e5
        refine z_aload_n dX7_tell_32 rfl ?_
        refine z_getP dX7_tell_33 zf_X7_15 zn_90 zo_90 (fun _ _ _ _ _ => rfl) (hP 90 1 92 zp_90_1) ?_
        refine z_aload_n dX7_tell_36 rfl ?_
        refine z_getI dX7_tell_37 zf_X7_28 zn_90 zo_90 (fun _ _ _ _ _ => rfl) ?_
        refine z_iload_n dX7_tell_40 rfl ?_
        obtain ⟨h7, hv⟩ := hv
        refine z_iastore dX7_tell_41 zn_92 zh_92 h7 (z_nmI (fun I9 e8 => ?_))
        have hv := hv I9 e8
        refine z_aload_n dX7_tell_42 rfl ?_
        refine z_getP dX7_tell_43 zf_X7_18 zn_90 zo_90 (fun _ _ _ _ _ => rfl) (hP 90 2 93 zp_90_2) ?_
        refine z_aload_n dX7_tell_46 rfl ?_
        refine z_getI dX7_tell_47 zf_X7_28 zn_90 zo_90 (fun _ _ _ _ _ => rfl) ?_
        refine z_iload_n dX7_tell_50 rfl ?_
        obtain ⟨h10, hv⟩ := hv
        obtain ⟨h13, hv⟩ := hv
        refine z_zastore dX7_tell_51 zn_93 zh_93 h10 (zbn h13) (z_nmI (fun I12 e11 => ?_))
        have hv := hv I12 e11
        refine z_aload_n dX7_tell_52 rfl ?_
        refine z_getP dX7_tell_53 zf_X7_22 zn_90 zo_90 (fun _ _ _ _ _ => rfl) (hP 90 3 94 zp_90_3) ?_
        refine z_aload_n dX7_tell_56 rfl ?_
        refine z_getI dX7_tell_57 zf_X7_28 zn_90 zo_90 (fun _ _ _ _ _ => rfl) ?_
        refine z_aload_n dX7_tell_60 rfl ?_
        refine z_getI dX7_tell_61 zf_X7_32 zn_90 zo_90 (fun _ _ _ _ _ => rfl) ?_
        obtain ⟨h14, hv⟩ := hv
        refine z_iastore dX7_tell_64 zn_94 zh_94 h14 (z_nmI (fun I16 e15 => ?_))
        have hv := hv I16 e15
        refine z_aload_n dX7_tell_65 rfl ?_
        refine z_getP dX7_tell_66 zf_X7_25 zn_90 zo_90 (fun _ _ _ _ _ => rfl) (hP 90 4 95 zp_90_4) ?_
        refine z_aload_n dX7_tell_69 rfl ?_
        refine z_getI dX7_tell_70 zf_X7_28 zn_90 zo_90 (fun _ _ _ _ _ => rfl) ?_
        refine z_iconst (v := (-1)) dX7_tell_73 (by decide) ?_
        obtain ⟨h17, hv⟩ := hv
        refine z_iastore dX7_tell_74 zn_95 zh_95 h17 (z_nmI (fun I19 e18 => ?_))
        have hv := hv I19 e18
        refine z_aload_n dX7_tell_75 rfl ?_
        refine z_dup dX7_tell_76 rfl ?_
        refine z_getI dX7_tell_77 zf_X7_28 zn_90 zo_90 (fun _ _ _ _ _ => rfl) ?_
        refine z_iconst (v := 1) dX7_tell_80 (by decide) ?_
        refine z_iadd dX7_tell_81 ?_
        refine z_putI dX7_tell_82 zf_X7_28 zn_90 zo_90 (Or.inl rfl) (fun _ _ _ _ _ => rfl) rfl rfl (z_nmI (fun I20 e21 => ?_))
        have hv := hv I20 e21
        refine z_aload_n dX7_tell_85 rfl ?_
        refine z_getI dX7_tell_86 zf_X7_28 zn_90 zo_90 (fun _ _ _ _ _ => rfl) ?_
        refine z_iconst (v := 1) dX7_tell_89 (by decide) ?_
        refine z_isub dX7_tell_90 ?_
        exact z_ireturn dX7_tell_91 rfl rfl (Nat.le_refl _) (Nat.le_refl _) hv
      · have hv := hv.2 q3
        refine z_iconst (v := (-1)) dX7_tell_20 (by decide) ?_
        exact z_ireturn dX7_tell_21 rfl rfl (Nat.le_refl _) (Nat.le_refl _) hv
theorem sp_X7_tell {x y w : Int32} {m : Nat} {K : Int32 → zI → zL → zP → Prop} (hP : zPk P) (hm : m ≤ 20) (h5 : I 90 5 = nI m) (hw : w = 0 ∨ w = 1) (k0 : ¬ ((¬ y < 1 ∧ ¬ 12 < y) ∧ m < 20) → K (-1) I L P) (kk : (¬ y < 1 ∧ ¬ 12 < y) → m < 20 → K (nI m) (zuI (zuI (zuI (zuI (zuI (zuI I 91 m x) 92 m y) 93 m w) 94 m (I 90 6)) 95 m (-1)) 90 5 (nI (m + 1))) L P) : zMi zm_X7_tell d [.ref 90, .int x, .int y, .int w] I L P K := by
  refine g_X7_tell hP ⟨fun q => qi (k0 (fun z => z.1.1 q)), fun q => ⟨fun q2' => qi (k0 (fun z => z.1.2 q2')), fun q2' => ⟨fun q3 => ?_, fun q3 => qi (k0 (fun z => q3 (by rw [h5]; exact nI_lt z.2 (by decide))))⟩⟩⟩
  rw [h5, show (20 : Int32) = nI 20 from rfl, nI_ltI (by omega) (by decide)] at q3
  rw [h5, nI_cl (by omega)]
  have i20 : vp_in (nI m) 20 := nx_in q3 (by decide)
  refine ⟨i20, fun I6 e6 => ?_⟩
  have f6 : I6 90 = I 90 := by rw [e6, zuI_ne (by decide)]
  rw [f6, h5, nI_cl (by omega)]
  refine ⟨i20, fun I9 e9 => ?_⟩
  have f9 : I9 90 = I 90 := by rw [e9, zuI_ne (by decide), f6]
  rw [f9, h5, nI_cl (by omega)]
  refine ⟨i20, hw, fun I12 e12 => ?_⟩
  have f12 : I12 90 = I 90 := by rw [e12, zuI_ne (by decide), f9]
  rw [f12, h5, nI_cl (by omega)]
  refine ⟨i20, fun I16 e16 => ?_⟩
  have f16 : I16 90 = I 90 := by rw [e16, zuI_ne (by decide), f12]
  rw [f16, h5, nI_cl (by omega)]
  refine ⟨i20, fun I19 e19 I20 e20 => ?_⟩
  have f19 : I19 90 5 = nI m := by rw [e19, zuI_ne (by decide), f16]; exact h5
  rw [f19, nI_1] at e20
  have r : I20 90 5 - 1 = nI m := by rw [e20, zuI_v, nI_sub1 (by omega)]; rfl
  rw [r, e20, e19, e16, e12, e9, e6]
  exact qi (kk ⟨q, q2'⟩ q3)
abbrev gw_X11_sight (d : Nat) (Q : zQt) (pc : Nat) (lv : zV) (st : List Value) (I : zI) (L : zL) (P : zP) : Prop := zW zm_X11_sight (zRm d 0 0) 0 0 Q pc lv st I L P 205 0 0
abbrev v_X11_sight (d : Nat) (Q : zQt) (p1 : Int32) (p2 : Int32) (p3 : Int32) (I : zI) (L : zL) (P : zP) : Prop :=
  ∃ b1 : Nat, P 0 2 = some b1 ∧
  (b1 < 205 ∧ (zsh b1).1 = 2) ∧
  il b1 ∧
  vp_in (I b1 0) 9 ∧
  (((bP (vp_in p1 (I b1 0).toNatClampNeg)) = 0 →
    Q (some (.int (-1))) I L P 205
  ) ∧ (¬ (bP (vp_in p1 (I b1 0).toNatClampNeg)) = 0 →
    zMi zm_X7_tell d [.ref 90, .int p1, .int p2, .int p3] I L P (fun r13 I9 L10 P11 =>
      Q (some (.int r13)) I9 L10 P11 205
    )
  ))
set_option maxRecDepth 20000 in
theorem g_X11_sight {d : Nat} {Q : zQt} {p1 : Int32} {p2 : Int32} {p3 : Int32} {I : zI} {L : zL} {P : zP} (hP : zPk P) (hv : v_X11_sight d Q p1 p2 p3 I L P) : zM zm_X11_sight (d + 1) 0 0 [.ref 0, .int p1, .int p2, .int p3] I L P 205 Q := by
  unfold v_X11_sight at hv
  refine zM_of (lv0 := [some (.ref 0), some (.int p1), some (.int p2), some (.int p3)]) (by decide +kernel) (Nat.le_of_ble_eq_true rfl) rfl ?_
  refine z_aload_n dX11_sight_0 rfl ?_
  obtain ⟨b1, h2, hv⟩ := hv
  refine z_getP dX11_sight_1 zf_X11_26 zn_0 zo_0 (fun _ _ _ _ _ => rfl) h2 ?_
  refine z_iload_n dX11_sight_4 rfl ?_
  obtain ⟨h3, hv⟩ := hv
  obtain ⟨h4, hv⟩ := hv
  obtain ⟨h5, hv⟩ := hv
  refine z_callV (As := [.int p1]) (st := []) dX11_sight_5 zl_X11_127 zv_X2_isPerson (by decide) rfl h3.1 h3.2 rfl rfl (Nat.le_of_ble_eq_true rfl) ⟨Nat.le_refl _, Nat.le_refl _⟩ ⟨Nat.le_refl _, Nat.le_refl _⟩ (sp_X2_isPerson hP h4 h5 (K := fun r I' L' P' => bP (vp_in p1 (I b1 0).toNatClampNeg) = r ∧ I = I' ∧ L = L' ∧ P = P') ⟨rfl, rfl, rfl, rfl⟩) (fun v1 I2 L2 P2 nx1 q7 => ?_)
  obtain ⟨rfl, r6, rfl, rfl, rfl, rfl, rfl⟩ := q7
  refine z_if_eq (tgt := 24) dX11_sight_8 (by decide) (fun q8 => ?_) (fun q8 => ?_)
  · have hv := hv.1 q8
    refine z_iconst (v := (-1)) dX11_sight_24 (by decide) ?_
    exact z_ireturn dX11_sight_25 rfl rfl (Nat.le_refl _) (Nat.le_refl _) hv
  · have hv := hv.2 q8
    refine z_aload_n dX11_sight_11 rfl ?_
    refine z_getP dX11_sight_12 zf_X11_79 zn_0 zo_0 (fun _ _ _ _ _ => rfl) (hP 0 10 90 zp_0_10) ?_
    refine z_iload_n dX11_sight_15 rfl ?_
    refine z_iload_n dX11_sight_16 rfl ?_
    refine z_iload_n dX11_sight_17 rfl ?_
    refine z_callV (As := [.int p1, .int p2, .int p3]) (st := []) dX11_sight_18 zl_X11_216 zv_X7_tell (by decide) rfl zn_90 zo_90 rfl rfl (Nat.le_of_ble_eq_true rfl) ⟨Nat.le_refl _, Nat.le_refl _⟩ ⟨Nat.le_refl _, Nat.le_refl _⟩ hv (fun v1 I9 L10 P11 nx1 q12 => ?_)
    obtain ⟨rfl, r13, rfl, hv⟩ := q12
    refine z_goto (tgt := 25) dX11_sight_21 (by decide) ?_
    exact z_ireturn dX11_sight_25 rfl rfl (Nat.le_refl _) (Nat.le_refl _) hv
theorem q_sight {x y w : Int32} (h : Rl I I L P t st b cd) (hw : w = 0 ∨ w = 1) (hd : 3 ≤ d) : zMi zm_X11_sight d [.ref 0, .int x, .int y, .int w] I L P (fun r I1 L1 P1 => zPk P1 ∧ zMi zm_X12_sight d [.ref 160, .int x, .int y, .int w] I1 L1 P1 (q2 r)) := by
  obtain ⟨d, rfl⟩ : ∃ e, d = e + 1 := ⟨d - 1, by omega⟩
  have hP := h.1.1
  have hH := h.2.1.2.2.2.1
  have hs := h.2.2.2.2.2.2.2.1
  have hB := h.2.1.1.1.1
  obtain ⟨e0, h8, hi⟩ := Rl_t0 h
  obtain ⟨b1, -⟩ := il_P hi hP
  obtain ⟨jt, hjt, ejt⟩ := h.2.1.2.2.2.2
  have no : ¬ (vp_in x (vNp I) ∧ (¬ y < 1 ∧ ¬ 12 < y) ∧ vNg I < 20) → zMi zm_X12_sight (d + 1) [.ref 160, .int x, .int y, .int w] I L P (q2 (-1)) := fun z => sp_X12_sight hP hB hH.1 hH.2.1 hw (by omega) (fun _ => q2_s h) (fun a1 a2 a3 => absurd ⟨a1, a2, a3⟩ z)
  refine g_X11_sight hP ⟨t, h.1.2.1, b1, hi, by rw [e0]; exact nx_in (by omega) (by decide), fun q => qj hP (no (fun z => ?_)), fun q => ?_⟩
  · rw [e0, nI_cl (by omega), bP_0] at q
    exact q z.1
  · rw [e0, nI_cl (by omega), bP_n] at q
    refine sp_X7_tell hP hH.1 hs.1.2 hw (fun z => qj hP (no (fun k => z k.2))) (fun qy qm => ?_)
    obtain ⟨p, hp, rfl⟩ := vp_nI q (by omega)
    obtain ⟨jy, hjy, rfl⟩ : ∃ j, j < 12 ∧ y = nI (j + 1) := by
      have : vp_in y 13 := by
        rw [vp_in_iff]
        rw [Int32.lt_iff_toInt_lt, Int32.lt_iff_toInt_lt] at qy
        have z0 : (1 : Int32).toInt = 1 := by decide
        have z1 : (12 : Int32).toInt = 12 := by decide
        omega
      obtain ⟨n, hn, rfl⟩ := vp_nI this (by decide)
      have h1 : ¬ n = 0 := by
        rintro rfl
        exact qy.1 (by decide)
      exact ⟨n - 1, by omega, by rw [show n - 1 + 1 = n by omega]⟩
    obtain ⟨I4, e4⟩ : ∃ J, J = zuI (zuI (zuI (zuI (zuI (zuI I 91 (vNg I) (nI p)) 92 (vNg I) (nI (jy + 1))) 93 (vNg I) w) 94 (vNg I) (I 90 6)) 95 (vNg I) (-1)) 90 5 (nI (vNg I + 1)) := ⟨_, rfl⟩
    rw [← e4]
    have c4 : ∀ a, ¬ (90 ≤ a ∧ a ≤ 95) → I4 a = I a := fun a ha => by rw [e4, zuI_ne (by omega), zuI_ne (by omega), zuI_ne (by omega), zuI_ne (by omega), zuI_ne (by omega), zuI_ne (by omega)]
    have em : eM I I4 := fun a ha => c4 a (by omega)
    have h59 : I4 160 59 = nI (vNg I) := by rw [em 160 (by decide)]; exact hH.2.1
    have s5 : I4 90 5 = nI (vNg I + 1) := by rw [e4, zuI_v]
    have s6 : I4 90 6 = I 90 6 := by rw [e4, zuI_o (by decide), zuI_ne (by decide), zuI_ne (by decide), zuI_ne (by decide), zuI_ne (by decide), zuI_ne (by decide)]
    have upd : ∀ (J : zI) a m (u : Int32) k, (zuI J a m u) a k = if k = m then u else J a k := fun J a m u k => by
      by_cases c : k = m
      · rw [c, zuI_v, if_pos rfl]
      · rw [zuI_o c, if_neg c]
    have s1 : ∀ k, I4 91 k = if k = vNg I then nI p else I 91 k := fun k => by rw [e4, zuI_ne (by decide), zuI_ne (by decide), zuI_ne (by decide), zuI_ne (by decide), zuI_ne (by decide), upd]
    have s2 : ∀ k, I4 92 k = if k = vNg I then nI (jy + 1) else I 92 k := fun k => by rw [e4, zuI_ne (by decide), zuI_ne (by decide), zuI_ne (by decide), zuI_ne (by decide), upd, zuI_ne (by decide)]
    have s3 : ∀ k, I4 93 k = if k = vNg I then w else I 93 k := fun k => by rw [e4, zuI_ne (by decide), zuI_ne (by decide), zuI_ne (by decide), upd, zuI_ne (by decide), zuI_ne (by decide)]
    have s4 : ∀ k, I4 94 k = if k = vNg I then I 90 6 else I 94 k := fun k => by rw [e4, zuI_ne (by decide), zuI_ne (by decide), upd, zuI_ne (by decide), zuI_ne (by decide), zuI_ne (by decide)]
    have s5' : ∀ k, I4 95 k = if k = vNg I then -1 else I 95 k := fun k => by rw [e4, zuI_ne (by decide), upd, zuI_ne (by decide), zuI_ne (by decide), zuI_ne (by decide), zuI_ne (by decide)]
    clear e4
    have hB4 : MB I4 := MB_fr (eM_f em) (by decide) (n160 (by decide)) hB
    refine qj hP (sp_X12_sight hP hB4 hH.1 h59 hw (by omega) (fun z => absurd ⟨by rw [eM_np em]; exact nx_in hp (by omega), qy, qm⟩ z) (fun a1 a2 a3 => ?_))
    unfold aSg
    rw [show I4 160 60 = I 160 60 by rw [em 160 (by decide)]]
    obtain ⟨J, eJ⟩ : ∃ J, J = zuI (zuI (zuI (zuI (zuI (zuI I4 189 (vNg I) (nI p)) 190 (vNg I) (nI (jy + 1))) 197 (vNg I) w) 191 (vNg I) (I 160 60)) 192 (vNg I) (-1)) 160 59 (nI (vNg I + 1)) := ⟨_, rfl⟩
    rw [← eJ]
    have cJ : ∀ a, ¬ ((189 ≤ a ∧ a ≤ 192) ∨ a = 197 ∨ a = 160) → J a = I4 a := fun a ha => by rw [eJ, zuI_ne (by omega), zuI_ne (by omega), zuI_ne (by omega), zuI_ne (by omega), zuI_ne (by omega), zuI_ne (by omega)]
    have j0 : ∀ k, k ≠ 59 → J 160 k = I 160 k := fun k hk => by rw [eJ, zuI_o hk, zuI_ne (by decide), zuI_ne (by decide), zuI_ne (by decide), zuI_ne (by decide), zuI_ne (by decide), em 160 (by decide)]
    have j59 : J 160 59 = nI (vNg I + 1) := by rw [eJ, zuI_v]
    have j1 : ∀ k, J 189 k = if k = vNg I then nI p else I 189 k := fun k => by rw [eJ, zuI_ne (by decide), zuI_ne (by decide), zuI_ne (by decide), zuI_ne (by decide), zuI_ne (by decide), upd, em 189 (by decide)]
    have j2 : ∀ k, J 190 k = if k = vNg I then nI (jy + 1) else I 190 k := fun k => by rw [eJ, zuI_ne (by decide), zuI_ne (by decide), zuI_ne (by decide), zuI_ne (by decide), upd, zuI_ne (by decide), em 190 (by decide)]
    have j3 : ∀ k, J 197 k = if k = vNg I then w else I 197 k := fun k => by rw [eJ, zuI_ne (by decide), zuI_ne (by decide), zuI_ne (by decide), upd, zuI_ne (by decide), zuI_ne (by decide), em 197 (by decide)]
    have j4 : ∀ k, J 191 k = if k = vNg I then I 160 60 else I 191 k := fun k => by rw [eJ, zuI_ne (by decide), zuI_ne (by decide), upd, zuI_ne (by decide), zuI_ne (by decide), zuI_ne (by decide), em 191 (by decide)]
    have j5 : ∀ k, J 192 k = if k = vNg I then -1 else I 192 k := fun k => by rw [eJ, zuI_ne (by decide), upd, zuI_ne (by decide), zuI_ne (by decide), zuI_ne (by decide), zuI_ne (by decide), em 192 (by decide)]
    clear eJ
    have vg : vNg J = vNg I + 1 := by
      show (J 160 59).toNatClampNeg = _
      rw [j59, nI_cl (by omega)]
    have eNp : vNp J = vNp I := by
      unfold vNp vB
      rw [j0 28 (by decide), cJ 163 (by decide), em 163 (by decide)]
    refine ⟨rfl, hP, Rn_i (Rl_sg (I' := J) h (fun a ha => by rw [cJ a (by omega), c4 a (by omega)]) (fun k k1 _ => j0 k k1) ⟨⟨by rw [vg]; omega, by rw [vg]; exact j59, fun s hs' => ?_⟩, ⟨jt, hjt, by rw [j0 60 (by decide)]; exact ejt⟩, ⟨by rw [vg]; omega, by rw [vg, cJ 90 (by decide)]; exact s5⟩, by rw [cJ 90 (by decide), s6, j0 60 (by decide)]; exact hs.2.1, fun s hs' => ?_⟩)⟩
    · rw [vg] at hs'
      rw [j1 s, j3 s]
      by_cases c : s = vNg I
      · rw [if_pos c, if_pos c]; exact ⟨⟨p, by omega, rfl⟩, hw⟩
      · rw [if_neg c, if_neg c]; exact hH.2.2 s (by omega)
    · rw [vg] at hs'
      rw [cJ 91 (by decide), cJ 92 (by decide), cJ 93 (by decide), cJ 94 (by decide), cJ 95 (by decide), s1 s, s2 s, s3 s, s4 s, s5' s, j1 s, j2 s, j3 s, j4 s, j5 s, eNp]
      by_cases c : s = vNg I
      · rw [if_pos c, if_pos c, if_pos c, if_pos c, if_pos c, if_pos c, if_pos c, if_pos c, if_pos c, if_pos c]
        exact ⟨⟨rfl, rfl, rfl, hs.2.1, rfl⟩, ⟨fun _ => rfl, fun _ => by decide⟩, ⟨jy, hjy, rfl⟩, ⟨p, hp, rfl⟩, hw⟩
      · simp only [if_neg c]
        exact hs.2.2 s (by omega)
end QD
