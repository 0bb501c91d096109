/-! ===== the model: nights, sayings, boxes ===== -/
theorem vGn_fr {cs sl : List Nat} {I0 I : zI} (h : zFr cs sl I0 I) (h1 : 40 ∉ sl) : vGn I = vGn I0 := by unfold vGn; rw [h.2 40 h1]
theorem MG_fr {cs sl : List Nat} {I0 I : zI} (h : zFr cs sl I0 I) (h1 : 40 ∉ sl) (hm : MG I0) : MG I := by unfold MG; rw [vGn_fr h h1, h.2 40 h1]; exact hm
theorem vTw_fr {cs sl : List Nat} {I0 I : zI} (h : zFr cs sl I0 I) (h1 : 28 ∉ sl) (h2 : 167 ∉ cs) : vTw I = vTw I0 := by unfold vTw; rw [vB_fr h h1, h.1 167 h2 (by decide)]
theorem MT_fr {cs sl : List Nat} {I0 I : zI} (h : zFr cs sl I0 I) (h1 : 28 ∉ sl) (h2 : 163 ∉ cs) (h3 : 167 ∉ cs) (hm : MT I0) : MT I := by
  unfold MT
  rw [vTw_fr h h1 h3, vN_fr h h1 h2, vB_fr h h1, h.1 167 h3 (by decide)]
  exact hm
theorem vSty_fr {cs sl : List Nat} {I0 I : zI} (h : zFr cs sl I0 I) (h1 : 28 ∉ sl) (h2 : 173 ∉ cs) : vSty I = vSty I0 := by funext p; unfold vSty; rw [vB_fr h h1, h.1 173 h2 (by decide)]
theorem vOwn_fr {cs sl : List Nat} {I0 I : zI} (h : zFr cs sl I0 I) (h1 : 28 ∉ sl) (h2 : 171 ∉ cs) : vOwn I = vOwn I0 := by unfold vOwn; rw [vB_fr h h1, h.1 171 h2 (by decide)]
theorem vGo_fr {cs sl : List Nat} {I0 I : zI} (h : zFr cs sl I0 I) (h1 : 28 ∉ sl) (h2 : 163 ∉ cs) (h3 : 168 ∉ cs) (h4 : 38 ∉ sl) (h5 : 182 ∉ cs) (h6 : 181 ∉ cs) (h7 : 180 ∉ cs) (h8 : 40 ∉ sl) (h9 : 173 ∉ cs) (h10 : 171 ∉ cs) : vGo I = vGo I0 := by
  unfold vGo
  rw [vN_fr h h1 h2, vPoss_fr h h7, vLike_fr' h h1 h2 h3 h4 h5 h6, vGn_fr h h8, vSty_fr h h1 h9, vOwn_fr h h1 h10]
/-- who goes in a world, as bits -/
noncomputable def vGs (I : zI) (w : Nat) : Nat := bset (vGo I w) (vNp I)
theorem vGs_lt {I : zI} (h : MB I) (w : Nat) : vGs I w < 256 := Nat.lt_of_lt_of_le (bset_lt _ _) (pw8 h.2.1)
abbrev gw_X12_oneNight (d : Nat) (Q : zQt) (pc : Nat) (lv : zV) (st : List Value) (I : zI) (L : zL) (P : zP) : Prop := zW zm_X12_oneNight (zRm d 0 0) 0 0 Q pc lv st I L P 205 0 0
abbrev v_X12_oneNight_58 (d : Nat) (Q : zQt) (x1 : Int32) (x2 : Int32) (I : zI) (L : zL) (P : zP) : Prop :=
  MB I ∧
  (((nI (vN I)) ≤ x2 →
    ∀ I26 : zI, I26 = zuI I 160 40 ((I 160 40) ||| x1 : Int32) →
    ∀ I28 : zI, I28 = zuI I26 160 39 ((I26 160 39) + 1) →
    Q (some (.int x1)) I28 L P 205
  ) ∧ (¬ (nI (vN I)) ≤ x2 →
    vp_in x2 256 ∧
    (((I 180 x2.toNatClampNeg) = 0 →
      gw_X12_oneNight (d + 1) Q 58 [some (.ref 160), some (.int x1), some (.int (x2 + 1))] [] I L P
    ) ∧ (¬ (I 180 x2.toNatClampNeg) = 0 →
      ((¬ (I 188 x2.toNatClampNeg) = x1 →
        ∀ I34 : zI, I34 = zuI I 180 x2.toNatClampNeg 0 →
        ∀ I35 : zI, I35 = zuI I34 160 48 ((I34 160 48) + 1) →
        gw_X12_oneNight (d + 1) Q 58 [some (.ref 160), some (.int x1), some (.int (x2 + 1))] [] I35 L P
      ) ∧ ((I 188 x2.toNatClampNeg) = x1 →
        gw_X12_oneNight (d + 1) Q 58 [some (.ref 160), some (.int x1), some (.int (x2 + 1))] [] I L P
      ))
    ))
  ))
set_option maxRecDepth 20000 in
theorem g_X12_oneNight_58 {d : Nat} {Q : zQt} {x1 : Int32} {x2 : Int32} {I : zI} {L : zL} {P : zP} (hP : zPk P) (hd : 1 ≤ d) (hv : v_X12_oneNight_58 d Q x1 x2 I L P) : gw_X12_oneNight (d + 1) Q 58 [some (.ref 160), some (.int x1), some (.int x2)] [] I L P := by
  unfold v_X12_oneNight_58 at hv
  refine z_iload_n dX12_oneNight_58 rfl ?_
  refine z_aload_n dX12_oneNight_59 rfl ?_
  obtain ⟨h22, hv⟩ := hv
  refine z_callV (As := []) (st := [.int x2]) dX12_oneNight_60 zl_X12_346 zv_X12_worldMany (by decide) rfl zn_160 zo_160 rfl rfl (Nat.le_of_ble_eq_true rfl) ⟨Nat.le_refl _, Nat.le_refl _⟩ ⟨Nat.le_refl _, Nat.le_refl _⟩ (sp_X12_worldMany hP h22 (by omega) (K := fun r I' L' P' => nI (vN I) = r ∧ I = I' ∧ L = L' ∧ P = P') ⟨rfl, rfl, rfl, rfl⟩) (fun v1 I2 L2 P2 nx1 q24 => ?_)
  obtain ⟨rfl, r23, rfl, rfl, rfl, rfl, rfl⟩ := q24
  refine z_icmp_ge (tgt := 111) dX12_oneNight_63 (by decide) (fun q25 => ?_) (fun q25 => ?_)
  · have hv := hv.1 q25
    refine z_aload_n dX12_oneNight_111 rfl ?_
    refine z_dup dX12_oneNight_112 rfl ?_
    refine z_getI dX12_oneNight_113 zf_X12_359 zn_160 zo_160 (fun _ _ _ _ _ => rfl) ?_
    refine z_iload_n dX12_oneNight_116 rfl ?_
    refine z_ior dX12_oneNight_117 ?_
    refine z_putI dX12_oneNight_118 zf_X12_359 zn_160 zo_160 (Or.inl rfl) (fun _ _ _ _ _ => rfl) rfl rfl (z_nmI (fun I26 e27 => ?_))
    have hv := hv I26 e27
    refine z_aload_n dX12_oneNight_121 rfl ?_
    refine z_dup dX12_oneNight_122 rfl ?_
    refine z_getI dX12_oneNight_123 zf_X12_356 zn_160 zo_160 (fun _ _ _ _ _ => rfl) ?_
    refine z_iconst (v := 1) dX12_oneNight_126 (by decide) ?_
    refine z_iadd dX12_oneNight_127 ?_
    refine z_putI dX12_oneNight_128 zf_X12_356 zn_160 zo_160 (Or.inl rfl) (fun _ _ _ _ _ => rfl) rfl rfl (z_nmI (fun I28 e29 => ?_))
    have hv := hv I28 e29
    refine z_iload_n dX12_oneNight_131 rfl ?_
    exact z_ireturn dX12_oneNight_132 rfl rfl (Nat.le_refl _) (Nat.le_refl _) hv
  · have hv := hv.2 q25
    refine z_aload_n dX12_oneNight_66 rfl ?_
    refine z_getP dX12_oneNight_67 zf_X12_74 zn_160 zo_160 (fun _ _ _ _ _ => rfl) (hP 160 35 180 zp_160_35) ?_
    refine z_iload_n dX12_oneNight_70 rfl ?_
    obtain ⟨h30, hv⟩ := hv
    refine z_zaload dX12_oneNight_71 zn_180 zh_180 h30 ?_
    refine z_if_eq (tgt := 105) dX12_oneNight_72 (by decide) (fun q31 => ?_) (fun q31 => ?_)
    · have hv := hv.1 q31
      refine z_iinc (v2 := x2 + 1) (lv2 := [some (.ref 160), some (.int x1), some (.int (x2 + 1))]) dX12_oneNight_105 rfl (by rfl) (by decide) rfl rfl ?_
      refine z_goto (tgt := 58) dX12_oneNight_108 (by decide) ?_
      exact hv
    · have hv := hv.2 q31
      refine z_aload_n dX12_oneNight_75 rfl ?_
      refine z_getP dX12_oneNight_76 zf_X12_98 zn_160 zo_160 (fun _ _ _ _ _ => rfl) (hP 160 47 188 zp_160_47) ?_
      refine z_iload_n dX12_oneNight_79 rfl ?_
      refine z_iaload dX12_oneNight_80 zn_188 zh_188 h30 ?_
      refine z_iload_n dX12_oneNight_81 rfl ?_
      refine z_icmp_ne (tgt := 88) dX12_oneNight_82 (by decide) (fun q32 => ?_) (fun q32 => ?_)
      · have hv := hv.1 q32
        refine z_aload_n dX12_oneNight_88 rfl ?_
        refine z_getP dX12_oneNight_89 zf_X12_74 zn_160 zo_160 (fun _ _ _ _ _ => rfl) (hP 160 35 180 zp_160_35) ?_
        refine z_iload_n dX12_oneNight_92 rfl ?_
        refine z_iconst (v := 0) dX12_oneNight_93 (by decide) ?_
        refine z_zastore (w := 0) dX12_oneNight_94 zn_180 zh_180 h30 (by decide) (z_nmI (fun I34 e33 => ?_))
        have hv := hv I34 e33
        refine z_aload_n dX12_oneNight_95 rfl ?_
        refine z_dup dX12_oneNight_96 rfl ?_
        refine z_getI dX12_oneNight_97 zf_X12_422 zn_160 zo_160 (fun _ _ _ _ _ => rfl) ?_
        refine z_iconst (v := 1) dX12_oneNight_100 (by decide) ?_
        refine z_iadd dX12_oneNight_101 ?_
        refine z_putI dX12_oneNight_102 zf_X12_422 zn_160 zo_160 (Or.inl rfl) (fun _ _ _ _ _ => rfl) rfl rfl (z_nmI (fun I35 e36 => ?_))
        have hv := hv I35 e36
        refine z_iinc (v2 := x2 + 1) (lv2 := [some (.ref 160), some (.int x1), some (.int (x2 + 1))]) dX12_oneNight_105 rfl (by rfl) (by decide) rfl rfl ?_
        refine z_goto (tgt := 58) dX12_oneNight_108 (by decide) ?_
        exact hv
      · have hv := hv.2 q32
        refine z_goto (tgt := 105) dX12_oneNight_85 (by decide) ?_
        refine z_iinc (v2 := x2 + 1) (lv2 := [some (.ref 160), some (.int x1), some (.int (x2 + 1))]) dX12_oneNight_105 rfl (by rfl) (by decide) rfl rfl ?_
        refine z_goto (tgt := 58) dX12_oneNight_108 (by decide) ?_
        exact hv
abbrev v_X12_oneNight_2 (d : Nat) (Q : zQt) (x1 : Int32) (I : zI) (L : zL) (P : zP) : Prop :=
  MB I ∧
  (((nI (vN I)) ≤ x1 →
    MT I ∧
    vp_in (nI (vTw I)) 256 ∧
    ∀ I9 : zI, I9 = zuI I 160 46 0 →
    ∀ I11 : zI, I11 = zuI I9 160 48 0 →
    gw_X12_oneNight (d + 1) Q 58 [some (.ref 160), some (.int (I 188 (nI (vTw I)).toNatClampNeg)), some (.int 0)] [] I11 L P
  ) ∧ (¬ (nI (vN I)) ≤ x1 →
    vp_in x1 256 ∧
    (((I 180 x1.toNatClampNeg) = 0 →
      gw_X12_oneNight (d + 1) Q 2 [some (.ref 160), some (.int (x1 + 1)), none] [] I L P
    ) ∧ (¬ (I 180 x1.toNatClampNeg) = 0 →
      zMi zm_X12_goersIn d [.ref 160, .int x1] I L P (fun r19 I15 L16 P17 =>
        ∀ I21 : zI, I21 = zuI I15 188 x1.toNatClampNeg r19 →
        gw_X12_oneNight (d + 1) Q 2 [some (.ref 160), some (.int (x1 + 1)), none] [] I21 L16 P17
      )
    ))
  ))
set_option maxRecDepth 20000 in
theorem g_X12_oneNight_2 {d : Nat} {Q : zQt} {x1 : Int32} {I : zI} {L : zL} {P : zP} (hP : zPk P) (hd : 1 ≤ d) (hv : v_X12_oneNight_2 d Q x1 I L P) : gw_X12_oneNight (d + 1) Q 2 [some (.ref 160), some (.int x1), none] [] I L P := by
  unfold v_X12_oneNight_2 at hv
  refine z_iload_n dX12_oneNight_2 rfl ?_
  refine z_aload_n dX12_oneNight_3 rfl ?_
  obtain ⟨h1, hv⟩ := hv
  refine z_callV (As := []) (st := [.int x1]) dX12_oneNight_4 zl_X12_346 zv_X12_worldMany (by decide) rfl zn_160 zo_160 rfl rfl (Nat.le_of_ble_eq_true rfl) ⟨Nat.le_refl _, Nat.le_refl _⟩ ⟨Nat.le_refl _, Nat.le_refl _⟩ (sp_X12_worldMany hP h1 (by omega) (K := fun r I' L' P' => nI (vN I) = r ∧ I = I' ∧ L = L' ∧ P = P') ⟨rfl, rfl, rfl, rfl⟩) (fun v1 I2 L2 P2 nx1 q3 => ?_)
  obtain ⟨rfl, r2, rfl, rfl, rfl, rfl, rfl⟩ := q3
  refine z_icmp_ge (tgt := 36) dX12_oneNight_7 (by decide) (fun q4 => ?_) (fun q4 => ?_)
  · have hv := hv.1 q4
    refine z_aload_n dX12_oneNight_36 rfl ?_
    refine z_getP dX12_oneNight_37 zf_X12_98 zn_160 zo_160 (fun _ _ _ _ _ => rfl) (hP 160 47 188 zp_160_47) ?_
    refine z_aload_n dX12_oneNight_40 rfl ?_
    obtain ⟨h5, hv⟩ := hv
    refine z_callV (As := []) (st := [.ref 188]) dX12_oneNight_41 zl_X12_410 zv_X12_theTrue (by decide) rfl zn_160 zo_160 rfl rfl (Nat.le_of_ble_eq_true rfl) ⟨Nat.le_refl _, Nat.le_refl _⟩ ⟨Nat.le_refl _, Nat.le_refl _⟩ (sp_X12_theTrue hP h1 h5 (K := fun r I' L' P' => nI (vTw I) = r ∧ I = I' ∧ L = L' ∧ P = P') ⟨rfl, rfl, rfl, rfl⟩) (fun v1 I2 L2 P2 nx1 q7 => ?_)
    obtain ⟨rfl, r6, rfl, rfl, rfl, rfl, rfl⟩ := q7
    obtain ⟨h8, hv⟩ := hv
    refine z_iaload dX12_oneNight_44 zn_188 zh_188 h8 ?_
    refine z_istore_n (lv2 := [some (.ref 160), some (.int (I 188 (nI (vTw I)).toNatClampNeg)), none]) dX12_oneNight_45 (by decide) rfl rfl ?_
    refine z_aload_n dX12_oneNight_46 rfl ?_
    refine z_iconst (v := 0) dX12_oneNight_47 (by decide) ?_
    refine z_putI dX12_oneNight_48 zf_X12_349 zn_160 zo_160 (Or.inl rfl) (fun _ _ _ _ _ => rfl) (by decide) (by decide) (z_nmI (fun I9 e10 => ?_))
    have hv := hv I9 e10
    refine z_aload_n dX12_oneNight_51 rfl ?_
    refine z_iconst (v := 0) dX12_oneNight_52 (by decide) ?_
    refine z_putI dX12_oneNight_53 zf_X12_422 zn_160 zo_160 (Or.inl rfl) (fun _ _ _ _ _ => rfl) rfl rfl (z_nmI (fun I11 e12 => ?_))
    have hv := hv I11 e12
    refine z_iconst (v := 0) dX12_oneNight_56 (by decide) ?_
    refine z_istore_n (lv2 := [some (.ref 160), some (.int (I 188 (nI (vTw I)).toNatClampNeg)), some (.int 0)]) dX12_oneNight_57 (by decide) rfl rfl ?_
    exact hv
  · have hv := hv.2 q4
    refine z_aload_n dX12_oneNight_10 rfl ?_
    refine z_getP dX12_oneNight_11 zf_X12_74 zn_160 zo_160 (fun _ _ _ _ _ => rfl) (hP 160 35 180 zp_160_35) ?_
    refine z_iload_n dX12_oneNight_14 rfl ?_
    obtain ⟨h13, hv⟩ := hv
    refine z_zaload dX12_oneNight_15 zn_180 zh_180 h13 ?_
    refine z_if_eq (tgt := 30) dX12_oneNight_16 (by decide) (fun q14 => ?_) (fun q14 => ?_)
    · have hv := hv.1 q14
      refine z_iinc (v2 := x1 + 1) (lv2 := [some (.ref 160), some (.int (x1 + 1)), none]) dX12_oneNight_30 rfl (by rfl) (by decide) rfl rfl ?_
      refine z_goto (tgt := 2) dX12_oneNight_33 (by decide) ?_
      exact hv
    · have hv := hv.2 q14
      refine z_aload_n dX12_oneNight_19 rfl ?_
      refine z_getP dX12_oneNight_20 zf_X12_98 zn_160 zo_160 (fun _ _ _ _ _ => rfl) (hP 160 47 188 zp_160_47) ?_
      refine z_iload_n dX12_oneNight_23 rfl ?_
      refine z_aload_n dX12_oneNight_24 rfl ?_
      refine z_iload_n dX12_oneNight_25 rfl ?_
      refine z_callV (As := [.int x1]) (st := [.int x1, .ref 188]) dX12_oneNight_26 zl_X12_419 zv_X12_goersIn (by decide) rfl zn_160 zo_160 rfl rfl (Nat.le_of_ble_eq_true rfl) ⟨Nat.le_refl _, Nat.le_refl _⟩ ⟨Nat.le_refl _, Nat.le_refl _⟩ hv (fun v1 I15 L16 P17 nx1 q18 => ?_)
      obtain ⟨rfl, r19, rfl, hv⟩ := q18
      refine z_iastore dX12_oneNight_29 zn_188 zh_188 h13 (z_nmI (fun I21 e20 => ?_))
      have hv := hv I21 e20
      refine z_iinc (v2 := x1 + 1) (lv2 := [some (.ref 160), some (.int (x1 + 1)), none]) dX12_oneNight_30 rfl (by rfl) (by decide) rfl rfl ?_
      refine z_goto (tgt := 2) dX12_oneNight_33 (by decide) ?_
      exact hv
abbrev v_X12_oneNight (d : Nat) (Q : zQt)  (I : zI) (L : zL) (P : zP) : Prop :=
  gw_X12_oneNight (d + 1) Q 2 [some (.ref 160), some (.int 0), none] [] I L P
set_option maxRecDepth 20000 in
theorem g_X12_oneNight {d : Nat} {Q : zQt}  {I : zI} {L : zL} {P : zP} (hP : zPk P) (hd : 1 ≤ d) (hv : v_X12_oneNight d Q  I L P) : zM zm_X12_oneNight (d + 1) 0 0 [.ref 160] I L P 205 Q := by
  unfold v_X12_oneNight at hv
  refine zM_of (lv0 := [some (.ref 160), none, none]) (by decide +kernel) (Nat.le_of_ble_eq_true rfl) rfl ?_
  refine z_iconst (v := 0) dX12_oneNight_0 (by decide) ?_
  refine z_istore_n (lv2 := [some (.ref 160), some (.int 0), none]) dX12_oneNight_1 (by decide) rfl rfl ?_
  exact hv
theorem lp_X12_oneNight_58 {d : Nat} {Q : zQt} {I0 : zI} {L : zL} {P : zP} {its : Int32} (hP : zPk P) (hB : MB I0) (hd : 1 ≤ d) (hO : MO I0) (h48 : I0 160 48 = 0)
    (k : ∀ I, zFr [180] [48] I0 I → (∀ w, ¬ w < vN I0 → I 180 w = I0 180 w) → (∀ w, w < vN I0 → I 180 w = bP (vPoss I0 w ∧ I0 188 w = its)) → I 160 48 = nI (cP (fun w => vPoss I0 w ∧ ¬ I0 188 w = its) (vN I0)) →
      Q (some (.int its)) (zuI (zuI I 160 40 ((I 160 40) ||| its : Int32)) 160 39 ((I 160 39) + 1)) L P 205) :
    ∀ n i I, i + n = vN I0 → zFr [180] [48] I0 I → (∀ w, ¬ w < i → I 180 w = I0 180 w) → (∀ w, w < i → I 180 w = bP (vPoss I0 w ∧ I0 188 w = its)) → I 160 48 = nI (cP (fun w => vPoss I0 w ∧ ¬ I0 188 w = its) i) →
      gw_X12_oneNight (d + 1) Q 58 [some (.ref 160), some (.int its), some (.int (nI i))] [] I L P := by
  have hN := vN_le hB
  intro n
  induction n with
  | zero =>
    intro i I hi hf h1 h2 h3
    have hi2 : i = vN I0 := by omega
    subst hi2
    have eN := vN_fr hf (by decide) (by decide)
    refine g_X12_oneNight_58 hP (by omega) ⟨MB_fr hf (by decide) (by decide) hB, fun _ I1 e1 I2 e2 => ?_, fun q => absurd (by rw [eN]; exact nI_le (Nat.le_refl _) (by omega)) q⟩
    subst e1
    subst e2
    have := k I hf h1 h2 h3
    rw [show zuI I 160 40 ((I 160 40) ||| its : Int32) 160 39 = I 160 39 from zuI_o (by decide)]
    exact this
  | succ n ih =>
    intro i I hi hf h1 h2 h3
    have eN := vN_fr hf (by decide) (by decide)
    have e188 : I 188 = I0 188 := hf.1 188 (by decide) (by decide)
    have cur : I 180 i = I0 180 i := h1 i (by omega)
    have keepit : I0 180 i = bP (vPoss I0 i ∧ I0 188 i = its) → ¬ (vPoss I0 i ∧ ¬ I0 188 i = its) → gw_X12_oneNight (d + 1) Q 58 [some (.ref 160), some (.int its), some (.int (nI i + 1))] [] I L P := by
      intro hv hc
      rw [nI_1]
      refine ih (i + 1) I (by omega) hf (fun w hw => h1 w (by omega)) (fun w hw => ?_) ?_
      · rcases Nat.lt_succ_iff_lt_or_eq.mp hw with h | h
        · exact h2 w h
        · subst h; rw [cur]; exact hv
      · rw [h3, cP_f (f := fun w => vPoss I0 w ∧ ¬ I0 188 w = its) hc]
    refine g_X12_oneNight_58 hP (by omega) ⟨MB_fr hf (by decide) (by decide) hB, fun q => absurd q (by rw [eN]; exact nI_ge (by omega) (by omega)), fun _ => ⟨nx_in (by omega) (by decide), fun q => keepit ?_ ?_, fun q => ⟨fun q2 I1 e1 I2 e2 => ?_, fun q2 => keepit ?_ ?_⟩⟩⟩
    · rw [nI_cl (by omega), cur] at q
      rw [q]; exact (bP_f (fun h => h.1 q)).symm
    · rw [nI_cl (by omega), cur] at q
      exact fun h => h.1 q
    · rw [nI_cl (by omega), cur] at q
      rw [nI_cl (by omega), e188] at q2
      rw [nI_cl (by omega)] at e1
      subst e1
      subst e2
      rw [nI_1]
      have hc : vPoss I0 i ∧ ¬ I0 188 i = its := ⟨q, q2⟩
      refine ih (i + 1) _ (by omega) (zFr_s (zFr_c hf (by decide) (by decide)) (by decide)) (fun w hw => ?_) (fun w hw => ?_) ?_
      · rw [zuI_ne (by decide), zuI_o (by omega)]; exact h1 w (by omega)
      · rw [zuI_ne (by decide)]
        rcases Nat.lt_succ_iff_lt_or_eq.mp hw with h | h
        · rw [zuI_o (by omega)]; exact h2 w h
        · subst h; rw [zuI_v]; exact (bP_f (fun h => hc.2 h.2)).symm
      · rw [zuI_v, zuI_ne (by decide), h3, cP_t (f := fun w => vPoss I0 w ∧ ¬ I0 188 w = its) hc]
        exact nI_1 _
    · rw [nI_cl (by omega), cur] at q
      rw [nI_cl (by omega), e188] at q2
      rw [bP_t ⟨q, q2⟩]
      exact (hO i (by omega)).resolve_left q
    · rw [nI_cl (by omega), e188] at q2
      exact fun h => h.2 q2
theorem lp_X12_oneNight_2 {d : Nat} {Q : zQt} {I0 : zI} {L : zL} {P : zP} (hP : zPk P) (hE : ME I0) (hG : MG I0) (hT : MT I0) (hd : 4 ≤ d)
    (k : ∀ I, zFr [188] [] I0 I → (∀ w, w < vN I0 → vPoss I0 w → I 188 w = nI (vGs I0 w)) → gw_X12_oneNight (d + 1) Q 58 [some (.ref 160), some (.int (I 188 (vTw I0))), some (.int 0)] [] (zuI (zuI I 160 46 0) 160 48 0) L P) :
    ∀ n i I, i + n = vN I0 → zFr [188] [] I0 I → (∀ w, w < i → vPoss I0 w → I 188 w = nI (vGs I0 w)) →
      gw_X12_oneNight (d + 1) Q 2 [some (.ref 160), some (.int (nI i)), none] [] I L P := by
  have hN := vN_le hE.1
  intro n
  induction n with
  | zero =>
    intro i I hi hf h1
    have eN := vN_fr hf (by decide) (by decide)
    have eT := vTw_fr hf (by decide) (by decide)
    have ht := hT.1
    refine g_X12_oneNight_2 hP (by omega) ⟨MB_fr hf (by decide) (by decide) hE.1, fun _ => ⟨MT_fr hf (by decide) (by decide) (by decide) hT, by rw [eT]; exact nx_in (by omega) (by decide), fun I1 e1 I2 e2 => ?_⟩, fun q => absurd (by rw [eN]; exact nI_le (by omega) (by omega)) q⟩
    subst e1
    subst e2
    rw [eT, nI_cl (by omega)]
    exact k I hf (fun w hw => h1 w (by omega))
  | succ n ih =>
    intro i I hi hf h1
    have eN := vN_fr hf (by decide) (by decide)
    have e180 : I 180 = I0 180 := hf.1 180 (by decide) (by decide)
    have hE2 := ME_fr hf (by decide) (by decide) (by decide) (by decide) (by decide) hE
    refine g_X12_oneNight_2 hP (by omega) ⟨hE2.1, fun q => absurd q (by rw [eN]; exact nI_ge (by omega) (by omega)), fun _ => ⟨nx_in (by omega) (by decide), fun q => ?_, fun q => ?_⟩⟩
    · rw [nI_cl (by omega), e180] at q
      rw [nI_1]
      refine ih (i + 1) I (by omega) hf (fun w hw pw => ?_)
      rcases Nat.lt_succ_iff_lt_or_eq.mp hw with h | h
      · exact h1 w h pw
      · subst h; exact absurd q pw
    · refine sp_X12_goersIn hP hE2 (MG_fr hf (by decide) hG) (by omega) (by omega) (fun I1 e1 => ?_)
      rw [nI_cl (by omega), vGo_fr hf (by decide) (by decide) (by decide) (by decide) (by decide) (by decide) (by decide) (by decide) (by decide) (by decide), vNp_fr hf (by decide) (by decide)] at e1
      subst e1
      rw [nI_1]
      refine ih (i + 1) _ (by omega) (zFr_c hf (by decide) (by decide)) (fun w hw pw => ?_)
      rcases Nat.lt_succ_iff_lt_or_eq.mp hw with h | h
      · rw [zuI_o (by omega)]; exact h1 w h pw
      · subst h; exact zuI_v _ _ _ _
theorem sp_X12_oneNight {d : Nat} {I : zI} {L : zL} {P : zP} (hP : zPk P) (hE : ME I) (hO : MO I) (hG : MG I) (hT : MT I) (hpt : vPoss I (vTw I)) (hd : 5 ≤ d) {K : Int32 → zI → zL → zP → Prop}
    (k : ∀ I', zFr [180, 188] [39, 40, 46, 48] I I' → (∀ w, ¬ w < vN I → I' 180 w = I 180 w) → (∀ w, w < vN I → I' 180 w = bP (vPoss I w ∧ vGs I w = vGs I (vTw I))) → I' 160 48 = nI (cP (fun w => vPoss I w ∧ ¬ vGs I w = vGs I (vTw I)) (vN I)) → I' 160 46 = 0 → I' 160 40 = nI (vGn I ||| vGs I (vTw I)) → I' 160 39 = I 160 39 + 1 → K (nI (vGs I (vTw I))) I' L P) : zMi zm_X12_oneNight d [.ref 160] I L P K := by
  obtain ⟨d, rfl⟩ : ∃ e, d = e + 1 := ⟨d - 1, by omega⟩
  have hN := vN_le hE.1
  have ht := hT.1
  refine g_X12_oneNight hP (by omega) (lp_X12_oneNight_2 hP hE hG hT (by omega) (fun I1 a1 a2 => ?_) (vN I) 0 I (by omega) (zFr_rf _ _ _) (fun w hw => absurd hw (Nat.not_lt_zero w)))
  have f2 : zFr [180, 188] [39, 40, 46, 48] I (zuI (zuI I1 160 46 0) 160 48 0) := zFr_s (zFr_s (zFr_wk a1 (by decide) (by decide)) (by decide)) (by decide)
  have f3 : zFr [188] [46, 48] I (zuI (zuI I1 160 46 0) 160 48 0) := zFr_s (zFr_s (zFr_wk a1 (by decide) (by decide)) (by decide)) (by decide)
  have hB2 := MB_fr f3 (by decide) (by decide) hE.1
  have eN := vN_fr f3 (by decide) (by decide)
  have eO := vPoss_fr f3 (show 180 ∉ [188] by decide)
  have e180 : (zuI (zuI I1 160 46 0) 160 48 0) 180 = I 180 := f3.1 180 (by decide) (by decide)
  have e188 : (zuI (zuI I1 160 46 0) 160 48 0) 188 = I1 188 := by rw [zuI_ne (by decide), zuI_ne (by decide)]
  have hits : I1 188 (vTw I) = nI (vGs I (vTw I)) := a2 _ ht hpt
  have eqs : ∀ w, w < vN I → vPoss I w → (I1 188 w = I1 188 (vTw I) ↔ vGs I w = vGs I (vTw I)) := by
    intro w hw pw
    rw [a2 w hw pw, hits, nI_eq (by have := vGs_lt hE.1 w; omega) (by have := vGs_lt hE.1 (vTw I); omega)]
  refine lp_X12_oneNight_58 hP hB2 (by omega) (by unfold MO; rw [eN, e180]; exact hO) (zuI_v _ _ _ _) (fun I3 b1 b2 b3 b4 => qi ?_) _ 0 _ (Nat.zero_add _) (zFr_rf _ _ _) (fun _ _ => rfl) (fun w hw => absurd hw (Nat.not_lt_zero w)) (zuI_v _ _ _ _)
  rw [hits]
  refine k _ ?_ ?_ ?_ ?_ ?_ ?_ ?_
  · exact zFr_s (zFr_s (zFr_tr f2 (zFr_wk b1 (by decide) (by decide))) (by decide)) (by decide)
  · intro w hw
    rw [zuI_ne (by decide), zuI_ne (by decide), b2 w (by rw [eN]; exact hw), e180]
  · intro w hw
    rw [zuI_ne (by decide), zuI_ne (by decide), b3 w (by rw [eN]; exact hw), eO, e188]
    exact bP_c (and_congr_right (fun pw => eqs w hw pw))
  · rw [zuI_o (by decide), zuI_o (by decide), b4, eN]
    refine nIe (cP_c (fun w hw => ?_))
    rw [eO, e188]
    exact and_congr_right (fun pw => not_congr (eqs w hw pw))
  · rw [zuI_o (by decide), zuI_o (by decide), b1.2 46 (by decide), zuI_o (by decide), zuI_v]
  · rw [zuI_o (by decide), zuI_v, b1.2 40 (by decide), zuI_o (by decide), zuI_o (by decide), a1.2 40 (by decide), hG.2, nx_or]
  · rw [zuI_v, b1.2 39 (by decide), zuI_o (by decide), zuI_o (by decide), a1.2 39 (by decide)]
abbrev gw_X12_strike (d : Nat) (Q : zQt) (pc : Nat) (lv : zV) (st : List Value) (I : zI) (L : zL) (P : zP) : Prop := zW zm_X12_strike (zRm d 0 0) 0 0 Q pc lv st I L P 205 0 0
abbrev v_X12_strike_23 (d : Nat) (Q : zQt) (x1 : Int32) (x2 : Int32) (I : zI) (L : zL) (P : zP) : Prop :=
  MB I ∧
  (((nI (vN I)) ≤ x2 →
    Q (some (.int x1)) I L P 205
  ) ∧ (¬ (nI (vN I)) ≤ x2 →
    vp_in x2 256 ∧
    (((I 180 x2.toNatClampNeg) = 0 →
      ∀ I17 : zI, I17 = zuI I 180 x2.toNatClampNeg 0 →
      gw_X12_strike (d + 1) Q 23 [some (.ref 160), some (.int (x1 + 0)), some (.int (x2 + 1))] [] I17 L P
    ) ∧ (¬ (I 180 x2.toNatClampNeg) = 0 →
      vp_in x2 12288 ∧
      ((¬ (I 183 x2.toNatClampNeg) = 0 →
        ∀ I23 : zI, I23 = zuI I 180 x2.toNatClampNeg 1 →
        gw_X12_strike (d + 1) Q 23 [some (.ref 160), some (.int (x1 + 0)), some (.int (x2 + 1))] [] I23 L P
      ) ∧ ((I 183 x2.toNatClampNeg) = 0 →
        ∀ I27 : zI, I27 = zuI I 180 x2.toNatClampNeg 0 →
        gw_X12_strike (d + 1) Q 23 [some (.ref 160), some (.int (x1 + 1)), some (.int (x2 + 1))] [] I27 L P
      ))
    ))
  ))
set_option maxRecDepth 20000 in
theorem g_X12_strike_23 {d : Nat} {Q : zQt} {x1 : Int32} {x2 : Int32} {I : zI} {L : zL} {P : zP} (hP : zPk P) (hd : 1 ≤ d) (hv : v_X12_strike_23 d Q x1 x2 I L P) : gw_X12_strike (d + 1) Q 23 [some (.ref 160), some (.int x1), some (.int x2)] [] I L P := by
  unfold v_X12_strike_23 at hv
  refine z_iload_n dX12_strike_23 rfl ?_
  refine z_aload_n dX12_strike_24 rfl ?_
  obtain ⟨h9, hv⟩ := hv
  refine z_callV (As := []) (st := [.int x2]) dX12_strike_25 zl_X12_346 zv_X12_worldMany (by decide) rfl zn_160 zo_160 rfl rfl (Nat.le_of_ble_eq_true rfl) ⟨Nat.le_refl _, Nat.le_refl _⟩ ⟨Nat.le_refl _, Nat.le_refl _⟩ (sp_X12_worldMany hP h9 (by omega) (K := fun r I' L' P' => nI (vN I) = r ∧ I = I' ∧ L = L' ∧ P = P') ⟨rfl, rfl, rfl, rfl⟩) (fun v1 I2 L2 P2 nx1 q11 => ?_)
  obtain ⟨rfl, r10, rfl, rfl, rfl, rfl, rfl⟩ := q11
  refine z_icmp_ge (tgt := 92) dX12_strike_28 (by decide) (fun q12 => ?_) (fun q12 => ?_)
  · have hv := hv.1 q12
    refine z_iload_n dX12_strike_92 rfl ?_
    exact z_ireturn dX12_strike_93 rfl rfl (Nat.le_refl _) (Nat.le_refl _) hv
  · have hv := hv.2 q12
    refine z_iload_n dX12_strike_31 rfl ?_
    refine z_aload_n dX12_strike_32 rfl ?_
    refine z_getP dX12_strike_33 zf_X12_74 zn_160 zo_160 (fun _ _ _ _ _ => rfl) (hP 160 35 180 zp_160_35) ?_
    refine z_iload_n dX12_strike_36 rfl ?_
    obtain ⟨h13, hv⟩ := hv
    refine z_zaload dX12_strike_37 zn_180 zh_180 h13 ?_
    refine z_if_eq (tgt := 54) dX12_strike_38 (by decide) (fun q14 => ?_) (fun q14 => ?_)
    · have hv := hv.1 q14
      refine z_iconst (v := 0) dX12_strike_54 (by decide) ?_
      refine z_iadd dX12_strike_55 ?_
      refine z_istore_n (lv2 := [some (.ref 160), some (.int (x1 + 0)), some (.int x2)]) dX12_strike_56 (by decide) rfl rfl ?_
      refine z_aload_n dX12_strike_57 rfl ?_
      refine z_getP dX12_strike_58 zf_X12_74 zn_160 zo_160 (fun _ _ _ _ _ => rfl) (hP 160 35 180 zp_160_35) ?_
      refine z_iload_n dX12_strike_61 rfl ?_
      refine z_aload_n dX12_strike_62 rfl ?_
      refine z_getP dX12_strike_63 zf_X12_74 zn_160 zo_160 (fun _ _ _ _ _ => rfl) (hP 160 35 180 zp_160_35) ?_
      refine z_iload_n dX12_strike_66 rfl ?_
      refine z_zaload dX12_strike_67 zn_180 zh_180 h13 ?_
      refine z_if_eq (tgt := 84) dX12_strike_68 (by decide) (fun q15 => ?_) (fun q15 => ?_)
      · skip
        refine z_iconst (v := 0) dX12_strike_84 (by decide) ?_
        refine z_zastore (w := 0) dX12_strike_85 zn_180 zh_180 h13 (by decide) (z_nmI (fun I17 e16 => ?_))
        have hv := hv I17 e16
        refine z_iinc (v2 := x2 + 1) (lv2 := [some (.ref 160), some (.int (x1 + 0)), some (.int (x2 + 1))]) dX12_strike_86 rfl (by rfl) (by decide) rfl rfl ?_
        refine z_goto (tgt := 23) dX12_strike_89 (by decide) ?_
        exact hv
      · exact absurd q14 q15
    · have hv := hv.2 q14
      refine z_aload_n dX12_strike_41 rfl ?_
      refine z_getP dX12_strike_42 zf_X12_83 zn_160 zo_160 (fun _ _ _ _ _ => rfl) (hP 160 41 183 zp_160_41) ?_
      refine z_iload_n dX12_strike_45 rfl ?_
      obtain ⟨h18, hv⟩ := hv
      refine z_iaload dX12_strike_46 zn_183 zh_183 h18 ?_
      refine z_if_ne (tgt := 54) dX12_strike_47 (by decide) (fun q19 => ?_) (fun q19 => ?_)
      · have hv := hv.1 q19
        refine z_iconst (v := 0) dX12_strike_54 (by decide) ?_
        refine z_iadd dX12_strike_55 ?_
        refine z_istore_n (lv2 := [some (.ref 160), some (.int (x1 + 0)), some (.int x2)]) dX12_strike_56 (by decide) rfl rfl ?_
        refine z_aload_n dX12_strike_57 rfl ?_
        refine z_getP dX12_strike_58 zf_X12_74 zn_160 zo_160 (fun _ _ _ _ _ => rfl) (hP 160 35 180 zp_160_35) ?_
        refine z_iload_n dX12_strike_61 rfl ?_
        refine z_aload_n dX12_strike_62 rfl ?_
        refine z_getP dX12_strike_63 zf_X12_74 zn_160 zo_160 (fun _ _ _ _ _ => rfl) (hP 160 35 180 zp_160_35) ?_
        refine z_iload_n dX12_strike_66 rfl ?_
        refine z_zaload dX12_strike_67 zn_180 zh_180 h13 ?_
        refine z_if_eq (tgt := 84) dX12_strike_68 (by decide) (fun q20 => ?_) (fun q20 => ?_)
        · exact absurd q20 q14
        · skip
          refine z_aload_n dX12_strike_71 rfl ?_
          refine z_getP dX12_strike_72 zf_X12_83 zn_160 zo_160 (fun _ _ _ _ _ => rfl) (hP 160 41 183 zp_160_41) ?_
          refine z_iload_n dX12_strike_75 rfl ?_
          refine z_iaload dX12_strike_76 zn_183 zh_183 h18 ?_
          refine z_if_eq (tgt := 84) dX12_strike_77 (by decide) (fun q21 => ?_) (fun q21 => ?_)
          · exact absurd q21 q19
          · skip
            refine z_iconst (v := 1) dX12_strike_80 (by decide) ?_
            refine z_goto (tgt := 85) dX12_strike_81 (by decide) ?_
            refine z_zastore (w := 1) dX12_strike_85 zn_180 zh_180 h13 (by decide) (z_nmI (fun I23 e22 => ?_))
            have hv := hv I23 e22
            refine z_iinc (v2 := x2 + 1) (lv2 := [some (.ref 160), some (.int (x1 + 0)), some (.int (x2 + 1))]) dX12_strike_86 rfl (by rfl) (by decide) rfl rfl ?_
            refine z_goto (tgt := 23) dX12_strike_89 (by decide) ?_
            exact hv
      · have hv := hv.2 q19
        refine z_iconst (v := 1) dX12_strike_50 (by decide) ?_
        refine z_goto (tgt := 55) dX12_strike_51 (by decide) ?_
        refine z_iadd dX12_strike_55 ?_
        refine z_istore_n (lv2 := [some (.ref 160), some (.int (x1 + 1)), some (.int x2)]) dX12_strike_56 (by decide) rfl rfl ?_
        refine z_aload_n dX12_strike_57 rfl ?_
        refine z_getP dX12_strike_58 zf_X12_74 zn_160 zo_160 (fun _ _ _ _ _ => rfl) (hP 160 35 180 zp_160_35) ?_
        refine z_iload_n dX12_strike_61 rfl ?_
        refine z_aload_n dX12_strike_62 rfl ?_
        refine z_getP dX12_strike_63 zf_X12_74 zn_160 zo_160 (fun _ _ _ _ _ => rfl) (hP 160 35 180 zp_160_35) ?_
        refine z_iload_n dX12_strike_66 rfl ?_
        refine z_zaload dX12_strike_67 zn_180 zh_180 h13 ?_
        refine z_if_eq (tgt := 84) dX12_strike_68 (by decide) (fun q24 => ?_) (fun q24 => ?_)
        · exact absurd q24 q14
        · skip
          refine z_aload_n dX12_strike_71 rfl ?_
          refine z_getP dX12_strike_72 zf_X12_83 zn_160 zo_160 (fun _ _ _ _ _ => rfl) (hP 160 41 183 zp_160_41) ?_
          refine z_iload_n dX12_strike_75 rfl ?_
          refine z_iaload dX12_strike_76 zn_183 zh_183 h18 ?_
          refine z_if_eq (tgt := 84) dX12_strike_77 (by decide) (fun q25 => ?_) (fun q25 => ?_)
          · skip
            refine z_iconst (v := 0) dX12_strike_84 (by decide) ?_
            refine z_zastore (w := 0) dX12_strike_85 zn_180 zh_180 h13 (by decide) (z_nmI (fun I27 e26 => ?_))
            have hv := hv I27 e26
            refine z_iinc (v2 := x2 + 1) (lv2 := [some (.ref 160), some (.int (x1 + 1)), some (.int (x2 + 1))]) dX12_strike_86 rfl (by rfl) (by decide) rfl rfl ?_
            refine z_goto (tgt := 23) dX12_strike_89 (by decide) ?_
            exact hv
          · exact absurd q19 q25
abbrev v_X12_strike (d : Nat) (Q : zQt)  (I : zI) (L : zL) (P : zP) : Prop :=
  MB I ∧
  MT I ∧
  vp_in (nI (vTw I)) 12288 ∧
  ((¬ (I 183 (nI (vTw I)).toNatClampNeg) = 0 →
    ∀ I7 : zI, I7 = zuI I 160 46 0 →
    gw_X12_strike (d + 1) Q 23 [some (.ref 160), some (.int 0), some (.int 0)] [] I7 L P
  ) ∧ ((I 183 (nI (vTw I)).toNatClampNeg) = 0 →
    Q (some (.int (-1))) I L P 205
  ))
set_option maxRecDepth 20000 in
theorem g_X12_strike {d : Nat} {Q : zQt}  {I : zI} {L : zL} {P : zP} (hP : zPk P) (hd : 1 ≤ d) (hv : v_X12_strike d Q  I L P) : zM zm_X12_strike (d + 1) 0 0 [.ref 160] I L P 205 Q := by
  unfold v_X12_strike at hv
  refine zM_of (lv0 := [some (.ref 160), none, none]) (by decide +kernel) (Nat.le_of_ble_eq_true rfl) rfl ?_
  refine z_aload_n dX12_strike_0 rfl ?_
  refine z_getP dX12_strike_1 zf_X12_83 zn_160 zo_160 (fun _ _ _ _ _ => rfl) (hP 160 41 183 zp_160_41) ?_
  refine z_aload_n dX12_strike_4 rfl ?_
  obtain ⟨h1, hv⟩ := hv
  obtain ⟨h2, hv⟩ := hv
  refine z_callV (As := []) (st := [.ref 183]) dX12_strike_5 zl_X12_410 zv_X12_theTrue (by decide) rfl zn_160 zo_160 rfl rfl (Nat.le_of_ble_eq_true rfl) ⟨Nat.le_refl _, Nat.le_refl _⟩ ⟨Nat.le_refl _, Nat.le_refl _⟩ (sp_X12_theTrue hP h1 h2 (K := fun r I' L' P' => nI (vTw I) = r ∧ I = I' ∧ L = L' ∧ P = P') ⟨rfl, rfl, rfl, rfl⟩) (fun v1 I2 L2 P2 nx1 q4 => ?_)
  obtain ⟨rfl, r3, rfl, rfl, rfl, rfl, rfl⟩ := q4
  obtain ⟨h5, hv⟩ := hv
  refine z_iaload dX12_strike_8 zn_183 zh_183 h5 ?_
  refine z_if_ne (tgt := 14) dX12_strike_9 (by decide) (fun q6 => ?_) (fun q6 => ?_)
  · have hv := hv.1 q6
    refine z_aload_n dX12_strike_14 rfl ?_
    refine z_iconst (v := 0) dX12_strike_15 (by decide) ?_
    refine z_putI dX12_strike_16 zf_X12_349 zn_160 zo_160 (Or.inl rfl) (fun _ _ _ _ _ => rfl) (by decide) (by decide) (z_nmI (fun I7 e8 => ?_))
    have hv := hv I7 e8
    refine z_iconst (v := 0) dX12_strike_19 (by decide) ?_
    refine z_istore_n (lv2 := [some (.ref 160), some (.int 0), none]) dX12_strike_20 (by decide) rfl rfl ?_
    refine z_iconst (v := 0) dX12_strike_21 (by decide) ?_
    refine z_istore_n (lv2 := [some (.ref 160), some (.int 0), some (.int 0)]) dX12_strike_22 (by decide) rfl rfl ?_
    exact hv
  · have hv := hv.2 q6
    refine z_iconst (v := (-1)) dX12_strike_12 (by decide) ?_
    exact z_ireturn dX12_strike_13 rfl rfl (Nat.le_refl _) (Nat.le_refl _) hv
theorem lp_X12_strike {d : Nat} {Q : zQt} {I0 : zI} {L : zL} {P : zP} (hP : zPk P) (hB : MB I0) (hO : MO I0) (hd : 1 ≤ d)
    (k : ∀ I, zFr [180] [] I0 I → (∀ w, ¬ w < vN I0 → I 180 w = I0 180 w) → (∀ w, w < vN I0 → I 180 w = bP (vPoss I0 w ∧ ¬ I0 183 w = 0)) → Q (some (.int (nI (cP (fun w => vPoss I0 w ∧ I0 183 w = 0) (vN I0))))) I L P 205) :
    ∀ n i I, i + n = vN I0 → zFr [180] [] I0 I → (∀ w, ¬ w < i → I 180 w = I0 180 w) → (∀ w, w < i → I 180 w = bP (vPoss I0 w ∧ ¬ I0 183 w = 0)) →
      gw_X12_strike (d + 1) Q 23 [some (.ref 160), some (.int (nI (cP (fun w => vPoss I0 w ∧ I0 183 w = 0) i))), some (.int (nI i))] [] I L P := by
  have hN := vN_le hB
  intro n
  induction n with
  | zero =>
    intro i I hi hf h1 h2
    have hi2 : i = vN I0 := by omega
    subst hi2
    have eN := vN_fr hf (by decide) (by decide)
    exact g_X12_strike_23 hP (by omega) ⟨MB_fr hf (by decide) (by decide) hB, fun _ => k I hf h1 h2, fun q => absurd (by rw [eN]; exact nI_le (Nat.le_refl _) (by omega)) q⟩
  | succ n ih =>
    intro i I hi hf h1 h2
    have eN := vN_fr hf (by decide) (by decide)
    have e183 : I 183 = I0 183 := hf.1 183 (by decide) (by decide)
    have cur : I 180 i = I0 180 i := h1 i (by omega)
    have step : ∀ (v : Int32) (m : Nat), v = bP (vPoss I0 i ∧ ¬ I0 183 i = 0) → m = cP (fun w => vPoss I0 w ∧ I0 183 w = 0) (i + 1) → ∀ I1, I1 = zuI I 180 (nI i).toNatClampNeg v → gw_X12_strike (d + 1) Q 23 [some (.ref 160), some (.int (nI m)), some (.int (nI i + 1))] [] I1 L P := by
      intro v m hv hm I1 e1
      rw [nI_cl (by omega)] at e1
      subst e1
      subst hm
      rw [nI_1]
      refine ih (i + 1) _ (by omega) (zFr_c hf (by decide) (by decide)) (fun w hw => ?_) (fun w hw => ?_)
      · rw [zuI_o (by omega)]; exact h1 w (by omega)
      · rcases Nat.lt_succ_iff_lt_or_eq.mp hw with h | h
        · rw [zuI_o (by omega)]; exact h2 w h
        · subst h; rw [zuI_v]; exact hv
    have z0 : ∀ m, (nI m + 0 : Int32) = nI m := fun m => by simp
    refine g_X12_strike_23 hP (by omega) ⟨MB_fr hf (by decide) (by decide) hB, fun q => absurd q (by rw [eN]; exact nI_ge (by omega) (by omega)), fun _ => ⟨nx_in (by omega) (by decide), fun q => ?_, fun q => ⟨nx_in (by omega) (by decide), fun q2 => ?_, fun q2 => ?_⟩⟩⟩
    · rw [nI_cl (by omega), cur] at q
      rw [z0]
      exact step 0 _ (bP_f (fun h => h.1 q)).symm (cP_f (f := fun w => vPoss I0 w ∧ I0 183 w = 0) (fun h => h.1 q)).symm
    · rw [nI_cl (by omega), cur] at q
      rw [nI_cl (by omega), e183] at q2
      rw [z0]
      exact step 1 _ (bP_t ⟨q, q2⟩).symm (cP_f (f := fun w => vPoss I0 w ∧ I0 183 w = 0) (fun h => q2 h.2)).symm
    · rw [nI_cl (by omega), cur] at q
      rw [nI_cl (by omega), e183] at q2
      rw [nI_1]
      exact step 0 _ (bP_f (fun h => h.2 q2)).symm (cP_t (f := fun w => vPoss I0 w ∧ I0 183 w = 0) ⟨q, q2⟩).symm
theorem sp_X12_strike {d : Nat} {I : zI} {L : zL} {P : zP} (hP : zPk P) (hB : MB I) (hO : MO I) (hT : MT I) (hd : 2 ≤ d) {K : Int32 → zI → zL → zP → Prop}
    (k0 : I 183 (vTw I) = 0 → K (-1) I L P)
    (k : ¬ I 183 (vTw I) = 0 → ∀ I', zFr [180] [46] I I' → I' 160 46 = 0 → (∀ w, ¬ w < vN I → I' 180 w = I 180 w) → (∀ w, w < vN I → I' 180 w = bP (vPoss I w ∧ ¬ I 183 w = 0)) → K (nI (cP (fun w => vPoss I w ∧ I 183 w = 0) (vN I))) I' L P) : zMi zm_X12_strike d [.ref 160] I L P K := by
  obtain ⟨d, rfl⟩ : ∃ e, d = e + 1 := ⟨d - 1, by omega⟩
  have hN := vN_le hB
  have ht := hT.1
  refine g_X12_strike hP (by omega) ⟨hB, hT, nx_in (by omega) (by decide), fun q I1 e1 => ?_, fun q => qi (k0 ?_)⟩
  · rw [nI_cl (by omega)] at q
    subst e1
    have f : zFr [180] [46] I (zuI I 160 46 0) := zFr_s (zFr_rf _ _ _) (by decide)
    have f' : zFr [] [46] I (zuI I 160 46 0) := zFr_s (zFr_rf _ _ _) (by decide)
    have eN := vN_fr f' (by decide) (by decide)
    have eO := vPoss_fr f' (show 180 ∉ [] by decide)
    have e180 := f'.1 180 (by decide) (by decide)
    have e183 := f'.1 183 (by decide) (by decide)
    have := lp_X12_strike (Q := fun v I' L' P' nx' => nx' = 205 ∧ ∃ r, v = some (.int r) ∧ K r I' L' P') (L := L) hP (MB_fr f' (by decide) (by decide) hB) (MO_fr f' (by decide) (by decide) (by decide) hO) (show 1 ≤ d by omega) (fun I2 a1 a2 a3 => qi (by
      rw [eN, eO, e183]
      refine k q I2 (zFr_tr f (zFr_wk a1 (by decide) (by decide))) (by rw [a1.2 46 (by decide), zuI_v]) (fun w hw => ?_) (fun w hw => ?_)
      · rw [a2 w (by rw [eN]; exact hw), e180]
      · rw [a3 w (by rw [eN]; exact hw), eO, e183])) _ 0 _ (Nat.zero_add _) (zFr_rf _ _ _) (fun _ _ => rfl) (fun w hw => absurd hw (Nat.not_lt_zero w))
    exact this
  · rw [nI_cl (by omega)] at q
    exact q
