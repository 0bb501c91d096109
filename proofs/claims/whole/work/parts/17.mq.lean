/-! ===== the model: what is known in common ===== -/
/-- the parts are laid -/
def vPt (I : zI) : Prop := sLb (vNp I) (vN I) (vPoss I) (vLike I) (I 186) ∧ ∀ a, a < vN I → vPoss I a → 0 ≤ I 186 a
/-- if they are said to be laid, they are -/
def MP (I : zI) : Prop := I 160 46 = 0 ∨ vPt I
theorem vPoss_fr {cs sl : List Nat} {I0 I : zI} (h : zFr cs sl I0 I) (h1 : 180 ∉ cs) : vPoss I = vPoss I0 := by funext w; unfold vPoss; rw [h.1 180 h1 (by decide)]
theorem vLike_fr' {cs sl : List Nat} {I0 I : zI} (h : zFr cs sl I0 I) (h1 : 28 ∉ sl) (h2 : 163 ∉ cs) (h3 : 168 ∉ cs) (h4 : 38 ∉ sl) (h5 : 182 ∉ cs) (h6 : 181 ∉ cs) : vLike I = vLike I0 := by funext p a b; exact vLike_fr h h1 h2 h3 h4 h5 h6 p a b
theorem vPt_fr {cs sl : List Nat} {I0 I : zI} (h : zFr cs sl I0 I) (h1 : 28 ∉ sl) (h2 : 163 ∉ cs) (h3 : 168 ∉ cs) (h4 : 38 ∉ sl) (h5 : 182 ∉ cs) (h6 : 181 ∉ cs) (h7 : 180 ∉ cs) (h8 : 186 ∉ cs) (hp : vPt I0) : vPt I := by
  unfold vPt
  rw [vNp_fr h h1 h2, vN_fr h h1 h2, vPoss_fr h h7, vLike_fr' h h1 h2 h3 h4 h5 h6, h.1 186 h8 (by decide)]
  exact hp
theorem vPt_iff {I : zI} (hE : ME I) (h : vPt I) {a b : Nat} (ha : a < vN I) (hb : b < vN I) (pa : vPoss I a) (pb : vPoss I b) : I 186 a = I 186 b ↔ vCo I a b :=
  sLb_iff (fun p a b => vLike_sy I p a b) (vN_le hE.1) h.1 ha hb pa pb (h.2 a ha pa) (h.2 b hb pb)
theorem vPt_at {I : zI} (h : vPt I) {a : Nat} (ha : a < vN I) (pa : vPoss I a) : ∃ r, r < vN I ∧ I 186 a = nI r := by
  rcases h.1.1 a ha with g | ⟨r, g1, g2, -⟩
  · have := h.2 a ha pa
    rw [g] at this; exact absurd this m1neg
  · exact ⟨r, g1, g2⟩
abbrev gw_X12_layParts (d : Nat) (Q : zQt) (pc : Nat) (lv : zV) (st : List Value) (I : zI) (L : zL) (P : zP) : Prop := zW zm_X12_layParts (zRm d 0 0) 0 0 Q pc lv st I L P 205 0 0
abbrev v_X12_layParts_38 (d : Nat) (Q : zQt) (x1 : Int32) (I : zI) (L : zL) (P : zP) : Prop :=
  MB I ∧
  (((nI (vN I)) ≤ x1 →
    Q none I L P 205
  ) ∧ (¬ (nI (vN I)) ≤ x1 →
    vp_in x1 256 ∧
    (((I 180 x1.toNatClampNeg) = 0 →
      gw_X12_layParts (d + 1) Q 38 [some (.ref 160), some (.int (x1 + 1))] [] I L P
    ) ∧ (¬ (I 180 x1.toNatClampNeg) = 0 →
      ((0 ≤ (I 186 x1.toNatClampNeg) →
        gw_X12_layParts (d + 1) Q 38 [some (.ref 160), some (.int (x1 + 1))] [] I L P
      ) ∧ (¬ 0 ≤ (I 186 x1.toNatClampNeg) →
        zMv zm_X12_layPart d [.ref 160, .int x1] I L P (fun I18 L19 P20 =>
          gw_X12_layParts (d + 1) Q 38 [some (.ref 160), some (.int (x1 + 1))] [] I18 L19 P20
        )
      ))
    ))
  ))
set_option maxRecDepth 20000 in
theorem g_X12_layParts_38 {d : Nat} {Q : zQt} {x1 : Int32} {I : zI} {L : zL} {P : zP} (hP : zPk P) (hd : 1 ≤ d) (hv : v_X12_layParts_38 d Q x1 I L P) : gw_X12_layParts (d + 1) Q 38 [some (.ref 160), some (.int x1)] [] I L P := by
  unfold v_X12_layParts_38 at hv
  refine z_iload_n dX12_layParts_38 rfl ?_
  refine z_aload_n dX12_layParts_39 rfl ?_
  obtain ⟨h11, hv⟩ := hv
  refine z_callV (As := []) (st := [.int x1]) dX12_layParts_40 zl_X12_346 zv_X12_worldMany (by decide) rfl zn_160 zo_160 rfl rfl (Nat.le_of_ble_eq_true rfl) ⟨Nat.le_refl _, Nat.le_refl _⟩ ⟨Nat.le_refl _, Nat.le_refl _⟩ (sp_X12_worldMany hP h11 (by omega) (K := fun r I' L' P' => nI (vN I) = r ∧ I = I' ∧ L = L' ∧ P = P') ⟨rfl, rfl, rfl, rfl⟩) (fun v1 I2 L2 P2 nx1 q13 => ?_)
  obtain ⟨rfl, r12, rfl, rfl, rfl, rfl, rfl⟩ := q13
  refine z_icmp_ge (tgt := 75) dX12_layParts_43 (by decide) (fun q14 => ?_) (fun q14 => ?_)
  · have hv := hv.1 q14
    exact z_return dX12_layParts_75 rfl (Nat.le_refl _) (Nat.le_refl _) hv
  · have hv := hv.2 q14
    refine z_aload_n dX12_layParts_46 rfl ?_
    refine z_getP dX12_layParts_47 zf_X12_74 zn_160 zo_160 (fun _ _ _ _ _ => rfl) (hP 160 35 180 zp_160_35) ?_
    refine z_iload_n dX12_layParts_50 rfl ?_
    obtain ⟨h15, hv⟩ := hv
    refine z_zaload dX12_layParts_51 zn_180 zh_180 h15 ?_
    refine z_if_eq (tgt := 69) dX12_layParts_52 (by decide) (fun q16 => ?_) (fun q16 => ?_)
    · have hv := hv.1 q16
      refine z_iinc (v2 := x1 + 1) (lv2 := [some (.ref 160), some (.int (x1 + 1))]) dX12_layParts_69 rfl (by rfl) (by decide) rfl rfl ?_
      refine z_goto (tgt := 38) dX12_layParts_72 (by decide) ?_
      exact hv
    · have hv := hv.2 q16
      refine z_aload_n dX12_layParts_55 rfl ?_
      refine z_getP dX12_layParts_56 zf_X12_92 zn_160 zo_160 (fun _ _ _ _ _ => rfl) (hP 160 44 186 zp_160_44) ?_
      refine z_iload_n dX12_layParts_59 rfl ?_
      refine z_iaload dX12_layParts_60 zn_186 zh_186 h15 ?_
      refine z_if_ge (tgt := 69) dX12_layParts_61 (by decide) (fun q17 => ?_) (fun q17 => ?_)
      · have hv := hv.1 q17
        refine z_iinc (v2 := x1 + 1) (lv2 := [some (.ref 160), some (.int (x1 + 1))]) dX12_layParts_69 rfl (by rfl) (by decide) rfl rfl ?_
        refine z_goto (tgt := 38) dX12_layParts_72 (by decide) ?_
        exact hv
      · have hv := hv.2 q17
        refine z_aload_n dX12_layParts_64 rfl ?_
        refine z_iload_n dX12_layParts_65 rfl ?_
        refine z_callV (As := [.int x1]) (st := []) dX12_layParts_66 zl_X12_377 zv_X12_layPart (by decide) rfl zn_160 zo_160 rfl rfl (Nat.le_of_ble_eq_true rfl) ⟨Nat.le_refl _, Nat.le_refl _⟩ ⟨Nat.le_refl _, Nat.le_refl _⟩ hv (fun v1 I18 L19 P20 nx1 q21 => ?_)
        obtain ⟨rfl, rfl, hv⟩ := q21
        refine z_iinc (v2 := x1 + 1) (lv2 := [some (.ref 160), some (.int (x1 + 1))]) dX12_layParts_69 rfl (by rfl) (by decide) rfl rfl ?_
        refine z_goto (tgt := 38) dX12_layParts_72 (by decide) ?_
        exact hv
abbrev v_X12_layParts_15 (d : Nat) (Q : zQt) (x1 : Int32) (I : zI) (L : zL) (P : zP) : Prop :=
  MB I ∧
  (((nI (vN I)) ≤ x1 →
    gw_X12_layParts (d + 1) Q 38 [some (.ref 160), some (.int 0)] [] I L P
  ) ∧ (¬ (nI (vN I)) ≤ x1 →
    vp_in x1 256 ∧
    ∀ I10 : zI, I10 = zuI I 186 x1.toNatClampNeg (-1) →
    gw_X12_layParts (d + 1) Q 15 [some (.ref 160), some (.int (x1 + 1))] [] I10 L P
  ))
set_option maxRecDepth 20000 in
theorem g_X12_layParts_15 {d : Nat} {Q : zQt} {x1 : Int32} {I : zI} {L : zL} {P : zP} (hP : zPk P) (hd : 1 ≤ d) (hv : v_X12_layParts_15 d Q x1 I L P) : gw_X12_layParts (d + 1) Q 15 [some (.ref 160), some (.int x1)] [] I L P := by
  unfold v_X12_layParts_15 at hv
  refine z_iload_n dX12_layParts_15 rfl ?_
  refine z_aload_n dX12_layParts_16 rfl ?_
  obtain ⟨h4, hv⟩ := hv
  refine z_callV (As := []) (st := [.int x1]) dX12_layParts_17 zl_X12_346 zv_X12_worldMany (by decide) rfl zn_160 zo_160 rfl rfl (Nat.le_of_ble_eq_true rfl) ⟨Nat.le_refl _, Nat.le_refl _⟩ ⟨Nat.le_refl _, Nat.le_refl _⟩ (sp_X12_worldMany hP h4 (by omega) (K := fun r I' L' P' => nI (vN I) = r ∧ I = I' ∧ L = L' ∧ P = P') ⟨rfl, rfl, rfl, rfl⟩) (fun v1 I2 L2 P2 nx1 q6 => ?_)
  obtain ⟨rfl, r5, rfl, rfl, rfl, rfl, rfl⟩ := q6
  refine z_icmp_ge (tgt := 36) dX12_layParts_20 (by decide) (fun q7 => ?_) (fun q7 => ?_)
  · have hv := hv.1 q7
    refine z_iconst (v := 0) dX12_layParts_36 (by decide) ?_
    refine z_istore_n (lv2 := [some (.ref 160), some (.int 0)]) dX12_layParts_37 (by decide) rfl rfl ?_
    exact hv
  · have hv := hv.2 q7
    refine z_aload_n dX12_layParts_23 rfl ?_
    refine z_getP dX12_layParts_24 zf_X12_92 zn_160 zo_160 (fun _ _ _ _ _ => rfl) (hP 160 44 186 zp_160_44) ?_
    refine z_iload_n dX12_layParts_27 rfl ?_
    refine z_iconst (v := (-1)) dX12_layParts_28 (by decide) ?_
    obtain ⟨h8, hv⟩ := hv
    refine z_iastore dX12_layParts_29 zn_186 zh_186 h8 (z_nmI (fun I10 e9 => ?_))
    have hv := hv I10 e9
    refine z_iinc (v2 := x1 + 1) (lv2 := [some (.ref 160), some (.int (x1 + 1))]) dX12_layParts_30 rfl (by rfl) (by decide) rfl rfl ?_
    refine z_goto (tgt := 15) dX12_layParts_33 (by decide) ?_
    exact hv
abbrev v_X12_layParts (d : Nat) (Q : zQt)  (I : zI) (L : zL) (P : zP) : Prop :=
  (((I 160 46) = 0 →
    ∀ I2 : zI, I2 = zuI I 160 46 1 →
    gw_X12_layParts (d + 1) Q 15 [some (.ref 160), some (.int 0)] [] I2 L P
  ) ∧ (¬ (I 160 46) = 0 →
    Q none I L P 205
  ))
set_option maxRecDepth 20000 in
theorem g_X12_layParts {d : Nat} {Q : zQt}  {I : zI} {L : zL} {P : zP} (hP : zPk P) (hd : 1 ≤ d) (hv : v_X12_layParts d Q  I L P) : zM zm_X12_layParts (d + 1) 0 0 [.ref 160] I L P 205 Q := by
  unfold v_X12_layParts at hv
  refine zM_of (lv0 := [some (.ref 160), none]) (by decide +kernel) (Nat.le_of_ble_eq_true rfl) rfl ?_
  refine z_aload_n dX12_layParts_0 rfl ?_
  refine z_getI dX12_layParts_1 zf_X12_349 zn_160 zo_160 (fun _ _ _ _ _ => rfl) ?_
  refine z_if_eq (tgt := 8) dX12_layParts_4 (by decide) (fun q1 => ?_) (fun q1 => ?_)
  · have hv := hv.1 q1
    refine z_aload_n dX12_layParts_8 rfl ?_
    refine z_iconst (v := 1) dX12_layParts_9 (by decide) ?_
    refine z_putI dX12_layParts_10 zf_X12_349 zn_160 zo_160 (Or.inl rfl) (fun _ _ _ _ _ => rfl) (by decide) (by decide) (z_nmI (fun I2 e3 => ?_))
    have hv := hv I2 e3
    refine z_iconst (v := 0) dX12_layParts_13 (by decide) ?_
    refine z_istore_n (lv2 := [some (.ref 160), some (.int 0)]) dX12_layParts_14 (by decide) rfl rfl ?_
    exact hv
  · have hv := hv.2 q1
    exact z_return dX12_layParts_7 rfl (Nat.le_refl _) (Nat.le_refl _) hv
theorem lp_X12_layParts_38 {d : Nat} {Q : zQt} {I0 : zI} {L : zL} {P : zP} (hP : zPk P) (hE : ME I0) (hd : 4 ≤ d)
    (k : ∀ I, zFr [184, 186] [] I0 I → vPt I → Q none I L P 205) :
    ∀ n i I, i + n = vN I0 → zFr [184, 186] [] I0 I → sLb (vNp I0) (vN I0) (vPoss I0) (vLike I0) (I 186) → (∀ a, a < i → vPoss I0 a → 0 ≤ I 186 a) →
      gw_X12_layParts (d + 1) Q 38 [some (.ref 160), some (.int (nI i))] [] I L P := by
  have hN := vN_le hE.1
  intro n
  induction n with
  | zero =>
    intro i I hi hF hb hl
    have hE2 := ME_fr hF (by decide) (by decide) (by decide) (by decide) (by decide) hE
    have eN := vN_fr hF (by decide) (by decide)
    refine g_X12_layParts_38 hP (by omega) ⟨hE2.1, fun _ => k I hF ?_, fun q => absurd (by rw [eN]; exact nI_le (by omega) (by omega)) q⟩
    unfold vPt
    rw [eN, vNp_fr hF (by decide) (by decide), vPoss_fr hF (by decide), vLike_fr' hF (by decide) (by decide) (by decide) (by decide) (by decide) (by decide)]
    exact ⟨hb, fun a ha pa => hl a (by omega) pa⟩
  | succ n ih =>
    intro i I hi hF hb hl
    have hE2 := ME_fr hF (by decide) (by decide) (by decide) (by decide) (by decide) hE
    have eN := vN_fr hF (by decide) (by decide)
    have eO := vPoss_fr hF (show 180 ∉ [184, 186] by decide)
    have e180 : I 180 = I0 180 := hF.1 180 (by decide) (by decide)
    refine g_X12_layParts_38 hP (by omega) ⟨hE2.1, fun q => absurd q (by rw [eN]; exact nI_ge (by omega) (by omega)), fun _ => ⟨nx_in (by omega) (by decide), fun q => ?_, fun q => ⟨fun q2 => ?_, fun q2 => ?_⟩⟩⟩
    · rw [nI_cl (by omega), e180] at q
      rw [nI_1]
      refine ih (i + 1) I (by omega) hF hb (fun a ha pa => ?_)
      rcases Nat.lt_succ_iff_lt_or_eq.mp ha with h | h
      · exact hl a h pa
      · subst h; exact absurd q pa
    · rw [nI_cl (by omega)] at q2
      rw [nI_1]
      refine ih (i + 1) I (by omega) hF hb (fun a ha pa => ?_)
      rcases Nat.lt_succ_iff_lt_or_eq.mp ha with h | h
      · exact hl a h pa
      · subst h; exact q2
    · rw [nI_cl (by omega)] at q q2
      have eP := vNp_fr hF (show 28 ∉ [] by decide) (show 163 ∉ [184, 186] by decide)
      have eL := vLike_fr' hF (show 28 ∉ [] by decide) (show 163 ∉ [184, 186] by decide) (by decide) (by decide) (by decide) (by decide)
      refine sp_X12_layPart hP hE2 (by rw [eN]; omega) (by rw [eN, eP, eO, eL]; exact hb) q2 q (by omega) (fun I2 a1 a2 a3 a4 => ?_)
      rw [nI_1]
      rw [eN, eP, eO, eL] at a2
      rw [eN] at a3
      refine ih (i + 1) I2 (by omega) (zFr_tr hF a1) a2 (fun a ha pa => ?_)
      rcases Nat.lt_succ_iff_lt_or_eq.mp ha with h | h
      · rw [a3 a (by omega) (hl a h pa)]; exact hl a h pa
      · subst h; exact a4
theorem lp_X12_layParts_15 {d : Nat} {Q : zQt} {I0 : zI} {L : zL} {P : zP} (hP : zPk P) (hE : ME I0) (hd : 4 ≤ d)
    (k : ∀ I, zFr [184, 186] [] I0 I → vPt I → Q none I L P 205) :
    ∀ n i I, i + n = vN I0 → zFr [184, 186] [] I0 I → (∀ a, a < i → I 186 a = -1) →
      gw_X12_layParts (d + 1) Q 15 [some (.ref 160), some (.int (nI i))] [] I L P := by
  have hN := vN_le hE.1
  intro n
  induction n with
  | zero =>
    intro i I hi hF hl
    have hE2 := ME_fr hF (by decide) (by decide) (by decide) (by decide) (by decide) hE
    have eN := vN_fr hF (by decide) (by decide)
    refine g_X12_layParts_15 hP (by omega) ⟨hE2.1, fun _ => ?_, fun q => absurd (by rw [eN]; exact nI_le (by omega) (by omega)) q⟩
    refine lp_X12_layParts_38 hP hE hd k (vN I0) 0 I (by omega) hF ⟨fun v hv => Or.inl (hl v (by omega)), fun v u hv hu hq => ?_⟩ (fun a ha => absurd ha (Nat.not_lt_zero a))
    rw [hl v (by omega)] at hq; exact absurd hq m1neg
  | succ n ih =>
    intro i I hi hF hl
    have hE2 := ME_fr hF (by decide) (by decide) (by decide) (by decide) (by decide) hE
    have eN := vN_fr hF (by decide) (by decide)
    refine g_X12_layParts_15 hP (by omega) ⟨hE2.1, fun q => absurd q (by rw [eN]; exact nI_ge (by omega) (by omega)), fun _ => ⟨nx_in (by omega) (by decide), fun I1 e1 => ?_⟩⟩
    rw [nI_cl (by omega)] at e1
    subst e1
    rw [nI_1]
    refine ih (i + 1) _ (by omega) (zFr_c hF (by decide) (by decide)) (fun a ha => ?_)
    rcases Nat.lt_succ_iff_lt_or_eq.mp ha with h | h
    · rw [zuI_o (by omega)]; exact hl a h
    · subst h; exact zuI_v _ _ _ _
theorem sp_X12_layParts {d : Nat} {I : zI} {L : zL} {P : zP} (hP : zPk P) (hE : ME I) (hM : MP I) (hd : 5 ≤ d) {K : zI → zL → zP → Prop}
    (k : ∀ I', zFr [184, 186] [46] I I' → vPt I' → K I' L P) : zMv zm_X12_layParts d [.ref 160] I L P K := by
  obtain ⟨d, rfl⟩ : ∃ e, d = e + 1 := ⟨d - 1, by omega⟩
  refine g_X12_layParts hP (by omega) ⟨fun q I1 e1 => ?_, fun q => qv (k I (zFr_rf _ _ _) (hM.elim (fun h => absurd h q) id))⟩
  subst e1
  have hF : zFr [184, 186] [46] I (zuI I 160 46 1) := zFr_s (zFr_rf _ _ _) (by decide)
  have hE2 := ME_fr hF (by decide) (by decide) (by decide) (by decide) (by decide) hE
  exact lp_X12_layParts_15 hP hE2 (by omega) (fun I2 a1 a2 => qv (k I2 (zFr_tr hF (zFr_wk a1 (by decide) (by decide))) a2)) _ 0 _ (Nat.zero_add _) (zFr_rf _ _ _) (fun a ha => absurd ha (Nat.not_lt_zero a))
abbrev gw_X12_commonOf (d : Nat) (Q : zQt) (pc : Nat) (lv : zV) (st : List Value) (I : zI) (L : zL) (P : zP) : Prop := zW zm_X12_commonOf (zRm d 0 0) 0 0 Q pc lv st I L P 205 0 0
abbrev v_X12_commonOf_77 (d : Nat) (Q : zQt) (p1 : Int32) (x2 : Int32) (I : zI) (L : zL) (P : zP) : Prop :=
  MB I ∧
  (((nI (vN I)) ≤ x2 →
    Q none I L P 205
  ) ∧ (¬ (nI (vN I)) ≤ x2 →
    vp_in x2 256 ∧
    (((I 180 x2.toNatClampNeg) = 0 →
      vp_in (p1 + x2) 12288 ∧
      ∀ I32 : zI, I32 = zuI I 183 (p1 + x2).toNatClampNeg 0 →
      gw_X12_commonOf (d + 1) Q 77 [some (.ref 160), some (.int p1), some (.int (x2 + 1))] [] I32 L P
    ) ∧ (¬ (I 180 x2.toNatClampNeg) = 0 →
      vp_in (I 186 x2.toNatClampNeg) 256 ∧
      ((¬ (I 187 (I 186 x2.toNatClampNeg).toNatClampNeg) = 0 →
        vp_in (p1 + x2) 12288 ∧
        ∀ I37 : zI, I37 = zuI I 183 (p1 + x2).toNatClampNeg 0 →
        gw_X12_commonOf (d + 1) Q 77 [some (.ref 160), some (.int p1), some (.int (x2 + 1))] [] I37 L P
      ) ∧ ((I 187 (I 186 x2.toNatClampNeg).toNatClampNeg) = 0 →
        vp_in (p1 + x2) 12288 ∧
        ∀ I40 : zI, I40 = zuI I 183 (p1 + x2).toNatClampNeg 1 →
        gw_X12_commonOf (d + 1) Q 77 [some (.ref 160), some (.int p1), some (.int (x2 + 1))] [] I40 L P
      ))
    ))
  ))
set_option maxRecDepth 20000 in
theorem g_X12_commonOf_77 {d : Nat} {Q : zQt} {p1 : Int32} {x2 : Int32} {I : zI} {L : zL} {P : zP} (hP : zPk P) (hd : 1 ≤ d) (hv : v_X12_commonOf_77 d Q p1 x2 I L P) : gw_X12_commonOf (d + 1) Q 77 [some (.ref 160), some (.int p1), some (.int x2)] [] I L P := by
  unfold v_X12_commonOf_77 at hv
  refine z_iload_n dX12_commonOf_77 rfl ?_
  refine z_aload_n dX12_commonOf_78 rfl ?_
  obtain ⟨h24, hv⟩ := hv
  refine z_callV (As := []) (st := [.int x2]) dX12_commonOf_79 zl_X12_346 zv_X12_worldMany (by decide) rfl zn_160 zo_160 rfl rfl (Nat.le_of_ble_eq_true rfl) ⟨Nat.le_refl _, Nat.le_refl _⟩ ⟨Nat.le_refl _, Nat.le_refl _⟩ (sp_X12_worldMany hP h24 (by omega) (K := fun r I' L' P' => nI (vN I) = r ∧ I = I' ∧ L = L' ∧ P = P') ⟨rfl, rfl, rfl, rfl⟩) (fun v1 I2 L2 P2 nx1 q26 => ?_)
  obtain ⟨rfl, r25, rfl, rfl, rfl, rfl, rfl⟩ := q26
  refine z_icmp_ge (tgt := 127) dX12_commonOf_82 (by decide) (fun q27 => ?_) (fun q27 => ?_)
  · have hv := hv.1 q27
    exact z_return dX12_commonOf_127 rfl (Nat.le_refl _) (Nat.le_refl _) hv
  · have hv := hv.2 q27
    refine z_aload_n dX12_commonOf_85 rfl ?_
    refine z_getP dX12_commonOf_86 zf_X12_83 zn_160 zo_160 (fun _ _ _ _ _ => rfl) (hP 160 41 183 zp_160_41) ?_
    refine z_iload_n dX12_commonOf_89 rfl ?_
    refine z_iload_n dX12_commonOf_90 rfl ?_
    refine z_iadd dX12_commonOf_91 ?_
    refine z_aload_n dX12_commonOf_92 rfl ?_
    refine z_getP dX12_commonOf_93 zf_X12_74 zn_160 zo_160 (fun _ _ _ _ _ => rfl) (hP 160 35 180 zp_160_35) ?_
    refine z_iload_n dX12_commonOf_96 rfl ?_
    obtain ⟨h28, hv⟩ := hv
    refine z_zaload dX12_commonOf_97 zn_180 zh_180 h28 ?_
    refine z_if_eq (tgt := 119) dX12_commonOf_98 (by decide) (fun q29 => ?_) (fun q29 => ?_)
    · have hv := hv.1 q29
      refine z_iconst (v := 0) dX12_commonOf_119 (by decide) ?_
      obtain ⟨h30, hv⟩ := hv
      refine z_iastore dX12_commonOf_120 zn_183 zh_183 h30 (z_nmI (fun I32 e31 => ?_))
      have hv := hv I32 e31
      refine z_iinc (v2 := x2 + 1) (lv2 := [some (.ref 160), some (.int p1), some (.int (x2 + 1))]) dX12_commonOf_121 rfl (by rfl) (by decide) rfl rfl ?_
      refine z_goto (tgt := 77) dX12_commonOf_124 (by decide) ?_
      exact hv
    · have hv := hv.2 q29
      refine z_aload_n dX12_commonOf_101 rfl ?_
      refine z_getP dX12_commonOf_102 zf_X12_95 zn_160 zo_160 (fun _ _ _ _ _ => rfl) (hP 160 45 187 zp_160_45) ?_
      refine z_aload_n dX12_commonOf_105 rfl ?_
      refine z_getP dX12_commonOf_106 zf_X12_92 zn_160 zo_160 (fun _ _ _ _ _ => rfl) (hP 160 44 186 zp_160_44) ?_
      refine z_iload_n dX12_commonOf_109 rfl ?_
      refine z_iaload dX12_commonOf_110 zn_186 zh_186 h28 ?_
      obtain ⟨h33, hv⟩ := hv
      refine z_zaload dX12_commonOf_111 zn_187 zh_187 h33 ?_
      refine z_if_ne (tgt := 119) dX12_commonOf_112 (by decide) (fun q34 => ?_) (fun q34 => ?_)
      · have hv := hv.1 q34
        refine z_iconst (v := 0) dX12_commonOf_119 (by decide) ?_
        obtain ⟨h35, hv⟩ := hv
        refine z_iastore dX12_commonOf_120 zn_183 zh_183 h35 (z_nmI (fun I37 e36 => ?_))
        have hv := hv I37 e36
        refine z_iinc (v2 := x2 + 1) (lv2 := [some (.ref 160), some (.int p1), some (.int (x2 + 1))]) dX12_commonOf_121 rfl (by rfl) (by decide) rfl rfl ?_
        refine z_goto (tgt := 77) dX12_commonOf_124 (by decide) ?_
        exact hv
      · have hv := hv.2 q34
        refine z_iconst (v := 1) dX12_commonOf_115 (by decide) ?_
        refine z_goto (tgt := 120) dX12_commonOf_116 (by decide) ?_
        obtain ⟨h38, hv⟩ := hv
        refine z_iastore dX12_commonOf_120 zn_183 zh_183 h38 (z_nmI (fun I40 e39 => ?_))
        have hv := hv I40 e39
        refine z_iinc (v2 := x2 + 1) (lv2 := [some (.ref 160), some (.int p1), some (.int (x2 + 1))]) dX12_commonOf_121 rfl (by rfl) (by decide) rfl rfl ?_
        refine z_goto (tgt := 77) dX12_commonOf_124 (by decide) ?_
        exact hv
abbrev v_X12_commonOf_29 (d : Nat) (Q : zQt) (p1 : Int32) (x2 : Int32) (I : zI) (L : zL) (P : zP) : Prop :=
  MB I ∧
  (((nI (vN I)) ≤ x2 →
    gw_X12_commonOf (d + 1) Q 77 [some (.ref 160), some (.int p1), some (.int 0)] [] I L P
  ) ∧ (¬ (nI (vN I)) ≤ x2 →
    vp_in x2 256 ∧
    (((I 180 x2.toNatClampNeg) = 0 →
      gw_X12_commonOf (d + 1) Q 29 [some (.ref 160), some (.int p1), some (.int (x2 + 1))] [] I L P
    ) ∧ (¬ (I 180 x2.toNatClampNeg) = 0 →
      vp_in (p1 + x2) 12288 ∧
      ((¬ (I 183 (p1 + x2).toNatClampNeg) = 0 →
        gw_X12_commonOf (d + 1) Q 29 [some (.ref 160), some (.int p1), some (.int (x2 + 1))] [] I L P
      ) ∧ ((I 183 (p1 + x2).toNatClampNeg) = 0 →
        vp_in (I 186 x2.toNatClampNeg) 256 ∧
        ∀ I23 : zI, I23 = zuI I 187 (I 186 x2.toNatClampNeg).toNatClampNeg 1 →
        gw_X12_commonOf (d + 1) Q 29 [some (.ref 160), some (.int p1), some (.int (x2 + 1))] [] I23 L P
      ))
    ))
  ))
set_option maxRecDepth 20000 in
theorem g_X12_commonOf_29 {d : Nat} {Q : zQt} {p1 : Int32} {x2 : Int32} {I : zI} {L : zL} {P : zP} (hP : zPk P) (hd : 1 ≤ d) (hv : v_X12_commonOf_29 d Q p1 x2 I L P) : gw_X12_commonOf (d + 1) Q 29 [some (.ref 160), some (.int p1), some (.int x2)] [] I L P := by
  unfold v_X12_commonOf_29 at hv
  refine z_iload_n dX12_commonOf_29 rfl ?_
  refine z_aload_n dX12_commonOf_30 rfl ?_
  obtain ⟨h13, hv⟩ := hv
  refine z_callV (As := []) (st := [.int x2]) dX12_commonOf_31 zl_X12_346 zv_X12_worldMany (by decide) rfl zn_160 zo_160 rfl rfl (Nat.le_of_ble_eq_true rfl) ⟨Nat.le_refl _, Nat.le_refl _⟩ ⟨Nat.le_refl _, Nat.le_refl _⟩ (sp_X12_worldMany hP h13 (by omega) (K := fun r I' L' P' => nI (vN I) = r ∧ I = I' ∧ L = L' ∧ P = P') ⟨rfl, rfl, rfl, rfl⟩) (fun v1 I2 L2 P2 nx1 q15 => ?_)
  obtain ⟨rfl, r14, rfl, rfl, rfl, rfl, rfl⟩ := q15
  refine z_icmp_ge (tgt := 75) dX12_commonOf_34 (by decide) (fun q16 => ?_) (fun q16 => ?_)
  · have hv := hv.1 q16
    refine z_iconst (v := 0) dX12_commonOf_75 (by decide) ?_
    refine z_istore_n (lv2 := [some (.ref 160), some (.int p1), some (.int 0)]) dX12_commonOf_76 (by decide) rfl rfl ?_
    exact hv
  · have hv := hv.2 q16
    refine z_aload_n dX12_commonOf_37 rfl ?_
    refine z_getP dX12_commonOf_38 zf_X12_74 zn_160 zo_160 (fun _ _ _ _ _ => rfl) (hP 160 35 180 zp_160_35) ?_
    refine z_iload_n dX12_commonOf_41 rfl ?_
    obtain ⟨h17, hv⟩ := hv
    refine z_zaload dX12_commonOf_42 zn_180 zh_180 h17 ?_
    refine z_if_eq (tgt := 69) dX12_commonOf_43 (by decide) (fun q18 => ?_) (fun q18 => ?_)
    · have hv := hv.1 q18
      refine z_iinc (v2 := x2 + 1) (lv2 := [some (.ref 160), some (.int p1), some (.int (x2 + 1))]) dX12_commonOf_69 rfl (by rfl) (by decide) rfl rfl ?_
      refine z_goto (tgt := 29) dX12_commonOf_72 (by decide) ?_
      exact hv
    · have hv := hv.2 q18
      refine z_aload_n dX12_commonOf_46 rfl ?_
      refine z_getP dX12_commonOf_47 zf_X12_83 zn_160 zo_160 (fun _ _ _ _ _ => rfl) (hP 160 41 183 zp_160_41) ?_
      refine z_iload_n dX12_commonOf_50 rfl ?_
      refine z_iload_n dX12_commonOf_51 rfl ?_
      refine z_iadd dX12_commonOf_52 ?_
      obtain ⟨h19, hv⟩ := hv
      refine z_iaload dX12_commonOf_53 zn_183 zh_183 h19 ?_
      refine z_if_ne (tgt := 69) dX12_commonOf_54 (by decide) (fun q20 => ?_) (fun q20 => ?_)
      · have hv := hv.1 q20
        refine z_iinc (v2 := x2 + 1) (lv2 := [some (.ref 160), some (.int p1), some (.int (x2 + 1))]) dX12_commonOf_69 rfl (by rfl) (by decide) rfl rfl ?_
        refine z_goto (tgt := 29) dX12_commonOf_72 (by decide) ?_
        exact hv
      · have hv := hv.2 q20
        refine z_aload_n dX12_commonOf_57 rfl ?_
        refine z_getP dX12_commonOf_58 zf_X12_95 zn_160 zo_160 (fun _ _ _ _ _ => rfl) (hP 160 45 187 zp_160_45) ?_
        refine z_aload_n dX12_commonOf_61 rfl ?_
        refine z_getP dX12_commonOf_62 zf_X12_92 zn_160 zo_160 (fun _ _ _ _ _ => rfl) (hP 160 44 186 zp_160_44) ?_
        refine z_iload_n dX12_commonOf_65 rfl ?_
        refine z_iaload dX12_commonOf_66 zn_186 zh_186 h17 ?_
        refine z_iconst (v := 1) dX12_commonOf_67 (by decide) ?_
        obtain ⟨h21, hv⟩ := hv
        refine z_zastore (w := 1) dX12_commonOf_68 zn_187 zh_187 h21 (by decide) (z_nmI (fun I23 e22 => ?_))
        have hv := hv I23 e22
        refine z_iinc (v2 := x2 + 1) (lv2 := [some (.ref 160), some (.int p1), some (.int (x2 + 1))]) dX12_commonOf_69 rfl (by rfl) (by decide) rfl rfl ?_
        refine z_goto (tgt := 29) dX12_commonOf_72 (by decide) ?_
        exact hv
abbrev v_X12_commonOf_6 (d : Nat) (Q : zQt) (p1 : Int32) (x2 : Int32) (I : zI) (L : zL) (P : zP) : Prop :=
  MB I ∧
  (((nI (vN I)) ≤ x2 →
    gw_X12_commonOf (d + 1) Q 29 [some (.ref 160), some (.int p1), some (.int 0)] [] I L P
  ) ∧ (¬ (nI (vN I)) ≤ x2 →
    vp_in x2 256 ∧
    ∀ I12 : zI, I12 = zuI I 187 x2.toNatClampNeg 0 →
    gw_X12_commonOf (d + 1) Q 6 [some (.ref 160), some (.int p1), some (.int (x2 + 1))] [] I12 L P
  ))
set_option maxRecDepth 20000 in
theorem g_X12_commonOf_6 {d : Nat} {Q : zQt} {p1 : Int32} {x2 : Int32} {I : zI} {L : zL} {P : zP} (hP : zPk P) (hd : 1 ≤ d) (hv : v_X12_commonOf_6 d Q p1 x2 I L P) : gw_X12_commonOf (d + 1) Q 6 [some (.ref 160), some (.int p1), some (.int x2)] [] I L P := by
  unfold v_X12_commonOf_6 at hv
  refine z_iload_n dX12_commonOf_6 rfl ?_
  refine z_aload_n dX12_commonOf_7 rfl ?_
  obtain ⟨h6, hv⟩ := hv
  refine z_callV (As := []) (st := [.int x2]) dX12_commonOf_8 zl_X12_346 zv_X12_worldMany (by decide) rfl zn_160 zo_160 rfl rfl (Nat.le_of_ble_eq_true rfl) ⟨Nat.le_refl _, Nat.le_refl _⟩ ⟨Nat.le_refl _, Nat.le_refl _⟩ (sp_X12_worldMany hP h6 (by omega) (K := fun r I' L' P' => nI (vN I) = r ∧ I = I' ∧ L = L' ∧ P = P') ⟨rfl, rfl, rfl, rfl⟩) (fun v1 I2 L2 P2 nx1 q8 => ?_)
  obtain ⟨rfl, r7, rfl, rfl, rfl, rfl, rfl⟩ := q8
  refine z_icmp_ge (tgt := 27) dX12_commonOf_11 (by decide) (fun q9 => ?_) (fun q9 => ?_)
  · have hv := hv.1 q9
    refine z_iconst (v := 0) dX12_commonOf_27 (by decide) ?_
    refine z_istore_n (lv2 := [some (.ref 160), some (.int p1), some (.int 0)]) dX12_commonOf_28 (by decide) rfl rfl ?_
    exact hv
  · have hv := hv.2 q9
    refine z_aload_n dX12_commonOf_14 rfl ?_
    refine z_getP dX12_commonOf_15 zf_X12_95 zn_160 zo_160 (fun _ _ _ _ _ => rfl) (hP 160 45 187 zp_160_45) ?_
    refine z_iload_n dX12_commonOf_18 rfl ?_
    refine z_iconst (v := 0) dX12_commonOf_19 (by decide) ?_
    obtain ⟨h10, hv⟩ := hv
    refine z_zastore (w := 0) dX12_commonOf_20 zn_187 zh_187 h10 (by decide) (z_nmI (fun I12 e11 => ?_))
    have hv := hv I12 e11
    refine z_iinc (v2 := x2 + 1) (lv2 := [some (.ref 160), some (.int p1), some (.int (x2 + 1))]) dX12_commonOf_21 rfl (by rfl) (by decide) rfl rfl ?_
    refine z_goto (tgt := 6) dX12_commonOf_24 (by decide) ?_
    exact hv
abbrev v_X12_commonOf (d : Nat) (Q : zQt) (p1 : Int32) (I : zI) (L : zL) (P : zP) : Prop :=
  zMv zm_X12_layParts d [.ref 160] I L P (fun I1 L2 P3 =>
    gw_X12_commonOf (d + 1) Q 6 [some (.ref 160), some (.int p1), some (.int 0)] [] I1 L2 P3
  )
set_option maxRecDepth 20000 in
theorem g_X12_commonOf {d : Nat} {Q : zQt} {p1 : Int32} {I : zI} {L : zL} {P : zP} (hP : zPk P) (hd : 1 ≤ d) (hv : v_X12_commonOf d Q p1 I L P) : zM zm_X12_commonOf (d + 1) 0 0 [.ref 160, .int p1] I L P 205 Q := by
  unfold v_X12_commonOf at hv
  refine zM_of (lv0 := [some (.ref 160), some (.int p1), none]) (by decide +kernel) (Nat.le_of_ble_eq_true rfl) rfl ?_
  refine z_aload_n dX12_commonOf_0 rfl ?_
  refine z_callV (As := []) (st := []) dX12_commonOf_1 zl_X12_381 zv_X12_layParts (by decide) rfl zn_160 zo_160 rfl rfl (Nat.le_of_ble_eq_true rfl) ⟨Nat.le_refl _, Nat.le_refl _⟩ ⟨Nat.le_refl _, Nat.le_refl _⟩ hv (fun v1 I1 L2 P3 nx1 q4 => ?_)
  obtain ⟨rfl, rfl, hv⟩ := q4
  refine z_iconst (v := 0) dX12_commonOf_4 (by decide) ?_
  refine z_istore_n (lv2 := [some (.ref 160), some (.int p1), some (.int 0)]) dX12_commonOf_5 (by decide) rfl rfl ?_
  exact hv
/-- so in all that hangs together with w -/
def sCm (np N : Nat) (po : Nat → Prop) (lk : Nat → Nat → Nat → Prop) (r : Nat → Int32) (w : Nat) : Prop := ∀ v, v < N → po v → sCo np N po lk w v → ¬ r v = 0
theorem lp_X12_commonOf_77 {d : Nat} {Q : zQt} {I0 : zI} {L : zL} {P : zP} {row : Nat} (hP : zPk P) (hE : ME I0) (hT : vPt I0) (hr : row + 256 ≤ 12288) (hd : 1 ≤ d)
    (k : ∀ I, zFr [183] [] I0 I → (∀ j, ¬ (row ≤ j ∧ j < row + vN I0) → I 183 j = I0 183 j) → (∀ w, w < vN I0 → I 183 (row + w) = bP (vPoss I0 w ∧ I0 187 (I0 186 w).toNatClampNeg = 0)) → Q none I L P 205) :
    ∀ n i I, i + n = vN I0 → zFr [183] [] I0 I → (∀ j, ¬ (row ≤ j ∧ j < row + i) → I 183 j = I0 183 j) → (∀ w, w < i → I 183 (row + w) = bP (vPoss I0 w ∧ I0 187 (I0 186 w).toNatClampNeg = 0)) →
      gw_X12_commonOf (d + 1) Q 77 [some (.ref 160), some (.int (nI row)), some (.int (nI i))] [] I L P := by
  have hN := vN_le hE.1
  intro n
  induction n with
  | zero =>
    intro i I hi hf h1 h2
    have hi2 : i = vN I0 := by omega
    subst hi2
    have eN := vN_fr hf (by decide) (by decide)
    refine g_X12_commonOf_77 hP (by omega) ⟨(ME_fr hf (by decide) (by decide) (by decide) (by decide) (by decide) hE).1, fun _ => k I hf h1 h2, fun q => absurd (by rw [eN]; exact nI_le (Nat.le_refl _) (by omega)) q⟩
  | succ n ih =>
    intro i I hi hf h1 h2
    have eN := vN_fr hf (by decide) (by decide)
    have er : nI row + nI i = nI (row + i) := nI_add _ _
    have e180 : I 180 = I0 180 := hf.1 180 (by decide) (by decide)
    have e186 : I 186 = I0 186 := hf.1 186 (by decide) (by decide)
    have e187 : I 187 = I0 187 := hf.1 187 (by decide) (by decide)
    have step : ∀ v : Int32, v = bP (vPoss I0 i ∧ I0 187 (I0 186 i).toNatClampNeg = 0) → ∀ I1, I1 = zuI I 183 (nI row + nI i).toNatClampNeg v → gw_X12_commonOf (d + 1) Q 77 [some (.ref 160), some (.int (nI row)), some (.int (nI i + 1))] [] I1 L P := by
      intro v hv I1 e1
      rw [er, nI_cl (by omega)] at e1
      subst e1
      rw [nI_1]
      refine ih (i + 1) _ (by omega) (zFr_c hf (by decide) (by decide)) (fun j hj => ?_) (fun w hw => ?_)
      · rw [zuI_o (by omega)]
        exact h1 j (by omega)
      · rcases Nat.lt_succ_iff_lt_or_eq.mp hw with h | h
        · rw [zuI_o (by omega)]; exact h2 w h
        · subst h; rw [zuI_v]; exact hv
    refine g_X12_commonOf_77 hP (by omega) ⟨(ME_fr hf (by decide) (by decide) (by decide) (by decide) (by decide) hE).1, fun q => absurd q (by rw [eN]; exact nI_ge (by omega) (by omega)), fun _ => ⟨nx_in (by omega) (by decide), fun q => ⟨by rw [er]; exact nx_in (by omega) (by decide), step 0 ?_⟩, fun q => ?_⟩⟩
    · rw [nI_cl (by omega), e180] at q
      exact (bP_f (fun h => h.1 q)).symm
    · rw [nI_cl (by omega), e180] at q
      obtain ⟨r, r1, r2⟩ := vPt_at hT (show i < vN I0 by omega) q
      refine ⟨by rw [nI_cl (by omega), e186, r2]; exact nx_in (by omega) (by decide), fun q2 => ⟨by rw [er]; exact nx_in (by omega) (by decide), step 0 ?_⟩, fun q2 => ⟨by rw [er]; exact nx_in (by omega) (by decide), step 1 ?_⟩⟩
      · rw [e186, e187, nI_cl (show i < 2 ^ 31 by omega)] at q2
        exact (bP_f (fun h => q2 h.2)).symm
      · rw [e186, e187, nI_cl (show i < 2 ^ 31 by omega)] at q2
        exact (bP_t ⟨q, q2⟩).symm
theorem lp_X12_commonOf_29 {d : Nat} {Q : zQt} {I0 : zI} {L : zL} {P : zP} {row : Nat} (hP : zPk P) (hE : ME I0) (hT : vPt I0) (hr : row + 256 ≤ 12288) (hd : 1 ≤ d)
    (k : ∀ I, zFr [187] [] I0 I → (∀ r, r < vN I0 → (I 187 r = 0 ↔ ¬ ∃ v, v < vN I0 ∧ vPoss I0 v ∧ I0 183 (row + v) = 0 ∧ I0 186 v = nI r)) → gw_X12_commonOf (d + 1) Q 77 [some (.ref 160), some (.int (nI row)), some (.int 0)] [] I L P) :
    ∀ n i I, i + n = vN I0 → zFr [187] [] I0 I → (∀ r, r < vN I0 → (I 187 r = 0 ↔ ¬ ∃ v, v < i ∧ vPoss I0 v ∧ I0 183 (row + v) = 0 ∧ I0 186 v = nI r)) →
      gw_X12_commonOf (d + 1) Q 29 [some (.ref 160), some (.int (nI row)), some (.int (nI i))] [] I L P := by
  have hN := vN_le hE.1
  intro n
  induction n with
  | zero =>
    intro i I hi hf h1
    have hi2 : i = vN I0 := by omega
    subst hi2
    have eN := vN_fr hf (by decide) (by decide)
    refine g_X12_commonOf_29 hP (by omega) ⟨(ME_fr hf (by decide) (by decide) (by decide) (by decide) (by decide) hE).1, fun _ => k I hf h1, fun q => absurd (by rw [eN]; exact nI_le (Nat.le_refl _) (by omega)) q⟩
  | succ n ih =>
    intro i I hi hf h1
    have eN := vN_fr hf (by decide) (by decide)
    have er : nI row + nI i = nI (row + i) := nI_add _ _
    have e180 : I 180 = I0 180 := hf.1 180 (by decide) (by decide)
    have e183 : I 183 = I0 183 := hf.1 183 (by decide) (by decide)
    have e186 : I 186 = I0 186 := hf.1 186 (by decide) (by decide)
    have skip : ¬ (vPoss I0 i ∧ I0 183 (row + i) = 0) → gw_X12_commonOf (d + 1) Q 29 [some (.ref 160), some (.int (nI row)), some (.int (nI i + 1))] [] I L P := by
      intro hc
      rw [nI_1]
      refine ih (i + 1) I (by omega) hf (fun r hr => (h1 r hr).trans (not_congr ⟨?_, ?_⟩))
      · rintro ⟨v, v1, v2⟩; exact ⟨v, by omega, v2⟩
      · rintro ⟨v, v1, v2, v3, v4⟩
        rcases Nat.lt_succ_iff_lt_or_eq.mp v1 with h | h
        · exact ⟨v, h, v2, v3, v4⟩
        · subst h; exact absurd ⟨v2, v3⟩ hc
    refine g_X12_commonOf_29 hP (by omega) ⟨(ME_fr hf (by decide) (by decide) (by decide) (by decide) (by decide) hE).1, fun q => absurd q (by rw [eN]; exact nI_ge (by omega) (by omega)), fun _ => ⟨nx_in (by omega) (by decide), fun q => skip ?_, fun q => ⟨by rw [er]; exact nx_in (by omega) (by decide), fun q2 => skip ?_, fun q2 => ?_⟩⟩⟩
    · rw [nI_cl (by omega), e180] at q
      exact fun h => h.1 q
    · rw [er, nI_cl (by omega), e183] at q2
      exact fun h => q2 h.2
    · rw [nI_cl (by omega), e180] at q
      rw [er, nI_cl (by omega), e183] at q2
      obtain ⟨r0, r1, r2⟩ := vPt_at hT (show i < vN I0 by omega) q
      refine ⟨by rw [nI_cl (by omega), e186, r2]; exact nx_in (by omega) (by decide), fun I1 e1 => ?_⟩
      rw [nI_cl (show i < 2 ^ 31 by omega), e186, r2, nI_cl (by omega)] at e1
      subst e1
      rw [nI_1]
      refine ih (i + 1) _ (by omega) (zFr_c hf (by decide) (by decide)) (fun r hr => ?_)
      by_cases hrr : r = r0
      · subst hrr
        rw [zuI_v]
        exact ⟨fun h => absurd h (by decide), fun h => absurd ⟨i, by omega, q, q2, r2⟩ h⟩
      · rw [zuI_o hrr]
        refine (h1 r hr).trans (not_congr ⟨?_, ?_⟩)
        · rintro ⟨v, v1, v2⟩; exact ⟨v, by omega, v2⟩
        · rintro ⟨v, v1, v2, v3, v4⟩
          rcases Nat.lt_succ_iff_lt_or_eq.mp v1 with h | h
          · exact ⟨v, h, v2, v3, v4⟩
          · subst h
            rw [r2] at v4
            exact absurd ((nI_eq (by omega) (by omega)).mp v4).symm hrr
theorem lp_X12_commonOf_6 {d : Nat} {Q : zQt} {I0 : zI} {L : zL} {P : zP} {row : Nat} (hP : zPk P) (hE : ME I0) (hd : 1 ≤ d)
    (k : ∀ I, zFr [187] [] I0 I → (∀ r, r < vN I0 → I 187 r = 0) → gw_X12_commonOf (d + 1) Q 29 [some (.ref 160), some (.int (nI row)), some (.int 0)] [] I L P) :
    ∀ n i I, i + n = vN I0 → zFr [187] [] I0 I → (∀ r, r < i → I 187 r = 0) →
      gw_X12_commonOf (d + 1) Q 6 [some (.ref 160), some (.int (nI row)), some (.int (nI i))] [] I L P := by
  have hN := vN_le hE.1
  intro n
  induction n with
  | zero =>
    intro i I hi hf h1
    have hi2 : i = vN I0 := by omega
    subst hi2
    have eN := vN_fr hf (by decide) (by decide)
    refine g_X12_commonOf_6 hP (by omega) ⟨(ME_fr hf (by decide) (by decide) (by decide) (by decide) (by decide) hE).1, fun _ => k I hf h1, fun q => absurd (by rw [eN]; exact nI_le (Nat.le_refl _) (by omega)) q⟩
  | succ n ih =>
    intro i I hi hf h1
    have eN := vN_fr hf (by decide) (by decide)
    refine g_X12_commonOf_6 hP (by omega) ⟨(ME_fr hf (by decide) (by decide) (by decide) (by decide) (by decide) hE).1, fun q => absurd q (by rw [eN]; exact nI_ge (by omega) (by omega)), fun _ => ⟨nx_in (by omega) (by decide), fun I1 e1 => ?_⟩⟩
    rw [nI_cl (by omega)] at e1
    subst e1
    rw [nI_1]
    refine ih (i + 1) _ (by omega) (zFr_c hf (by decide) (by decide)) (fun a ha => ?_)
    rcases Nat.lt_succ_iff_lt_or_eq.mp ha with h | h
    · rw [zuI_o (by omega)]; exact h1 a h
    · subst h; exact zuI_v _ _ _ _
theorem sp_X12_commonOf {d : Nat} {I : zI} {L : zL} {P : zP} {row : Nat} (hP : zPk P) (hE : ME I) (hM : MP I) (hr : row + 256 ≤ 12288) (hd : 6 ≤ d) {K : zI → zL → zP → Prop}
    (k : ∀ I', zFr [183, 184, 186, 187] [46] I I' → MP I' → (∀ j, ¬ (row ≤ j ∧ j < row + vN I) → I' 183 j = I 183 j) → (∀ w, w < vN I → I' 183 (row + w) = bP (vPoss I w ∧ sCm (vNp I) (vN I) (vPoss I) (vLike I) (vRow I row) w)) → K I' L P) : zMv zm_X12_commonOf d [.ref 160, .int (nI row)] I L P K := by
  obtain ⟨d, rfl⟩ : ∃ e, d = e + 1 := ⟨d - 1, by omega⟩
  have hN := vN_le hE.1
  refine g_X12_commonOf hP (by omega) (sp_X12_layParts hP hE hM (by omega) (fun I1 a1 a2 => ?_))
  have hE1 := ME_fr a1 (by decide) (by decide) (by decide) (by decide) (by decide) hE
  have n1 := vN_fr a1 (by decide) (by decide)
  have p1 := vNp_fr a1 (by decide) (by decide)
  have o1 := vPoss_fr a1 (show 180 ∉ [184, 186] by decide)
  have l1 := vLike_fr' a1 (by decide) (by decide) (by decide) (by decide) (by decide) (by decide)
  refine lp_X12_commonOf_6 hP hE1 (by omega) (fun I2 b1 b2 => ?_) (vN I1) 0 I1 (by omega) (zFr_rf _ _ _) (fun a ha => absurd ha (Nat.not_lt_zero a))
  have hE2 := ME_fr b1 (by decide) (by decide) (by decide) (by decide) (by decide) hE1
  have hT2 := vPt_fr b1 (by decide) (by decide) (by decide) (by decide) (by decide) (by decide) (by decide) (by decide) a2
  have n2 := vN_fr b1 (by decide) (by decide)
  have o2 := vPoss_fr b1 (show 180 ∉ [187] by decide)
  have r2 : I2 183 = I 183 := (b1.1 183 (by decide) (by decide)).trans (a1.1 183 (by decide) (by decide))
  have q2 : I2 186 = I1 186 := b1.1 186 (by decide) (by decide)
  refine lp_X12_commonOf_29 hP hE2 hT2 hr (by omega) (fun I3 c1 c2 => ?_) (vN I2) 0 I2 (by omega) (zFr_rf _ _ _) (fun r hr' => ⟨fun _ h => by obtain ⟨v, hv, -⟩ := h; exact absurd hv (Nat.not_lt_zero v), fun _ => b2 r (by omega)⟩)
  have hE3 := ME_fr c1 (by decide) (by decide) (by decide) (by decide) (by decide) hE2
  have hT3 := vPt_fr c1 (by decide) (by decide) (by decide) (by decide) (by decide) (by decide) (by decide) (by decide) hT2
  have n3 := vN_fr c1 (by decide) (by decide)
  have o3 := vPoss_fr c1 (show 180 ∉ [187] by decide)
  have q3 : I3 186 = I2 186 := c1.1 186 (by decide) (by decide)
  refine lp_X12_commonOf_77 hP hE3 hT3 hr (by omega) (fun I4 d1 d2 d3 => qv (k I4 ?_ (Or.inr (vPt_fr d1 (by decide) (by decide) (by decide) (by decide) (by decide) (by decide) (by decide) (by decide) hT3)) ?_ ?_)) (vN I3) 0 I3 (by omega) (zFr_rf _ _ _) (fun _ _ => rfl) (fun w hw => absurd hw (Nat.not_lt_zero w))
  · exact zFr_tr (zFr_tr (zFr_wk a1 (by decide) (by decide)) (zFr_wk b1 (by decide) (by decide))) (zFr_tr (zFr_wk c1 (by decide) (by decide)) (zFr_wk d1 (by decide) (by decide)))
  · intro j hj
    rw [d2 j (by rw [n3, n2, n1]; exact hj), c1.1 183 (by decide) (by decide), r2]
  · intro w hw
    rw [d3 w (by rw [n3, n2, n1]; exact hw), o3, o2, o1]
    refine bP_c (and_congr_right (fun pw => ?_))
    have pw1 : vPoss I1 w := by rw [o1]; exact pw
    obtain ⟨r, g1, g2⟩ := vPt_at a2 (show w < vN I1 by omega) pw1
    rw [q3, q2, g2, nI_cl (by omega)]
    rw [c2 r (by omega)]
    unfold sCm
    constructor
    · intro h v hv pv hc hz
      refine h ⟨v, by omega, by rw [o2, o1]; exact pv, by rw [r2]; exact hz, ?_⟩
      rw [q2, ← g2]
      refine ((vPt_iff hE1 a2 (by omega) (by omega) pw1 (by rw [o1]; exact pv)).mpr ?_).symm
      unfold vCo
      rw [p1, n1, o1, l1]
      exact hc
    · rintro h ⟨v, v1, v2, v3, v4⟩
      rw [o2, o1] at v2
      rw [r2] at v3
      refine h v (by omega) v2 ?_ v3
      rw [q2, ← g2] at v4
      have := (vPt_iff hE1 a2 (by omega) (show v < vN I1 by omega) pw1 (by rw [o1]; exact v2)).mp v4.symm
      unfold vCo at this
      rw [p1, n1, o1, l1] at this
      exact this
abbrev gw_X12_isCommon (d : Nat) (Q : zQt) (pc : Nat) (lv : zV) (st : List Value) (I : zI) (L : zL) (P : zP) : Prop := zW zm_X12_isCommon (zRm d 0 0) 0 0 Q pc lv st I L P 205 0 0
abbrev v_X12_isCommon_6 (d : Nat) (Q : zQt) (p1 : Int32) (x2 : Int32) (I : zI) (L : zL) (P : zP) : Prop :=
  MB I ∧
  (((nI (vN I)) ≤ x2 →
    Q (some (.int 1)) I L P 205
  ) ∧ (¬ (nI (vN I)) ≤ x2 →
    vp_in x2 256 ∧
    (((I 180 x2.toNatClampNeg) = 0 →
      gw_X12_isCommon (d + 1) Q 6 [some (.ref 160), some (.int p1), some (.int (x2 + 1))] [] I L P
    ) ∧ (¬ (I 180 x2.toNatClampNeg) = 0 →
      vp_in p1 256 ∧
      ((¬ (I 186 x2.toNatClampNeg) = (I 186 p1.toNatClampNeg) →
        gw_X12_isCommon (d + 1) Q 6 [some (.ref 160), some (.int p1), some (.int (x2 + 1))] [] I L P
      ) ∧ ((I 186 x2.toNatClampNeg) = (I 186 p1.toNatClampNeg) →
        vp_in x2 12288 ∧
        ((¬ (I 183 x2.toNatClampNeg) = 0 →
          gw_X12_isCommon (d + 1) Q 6 [some (.ref 160), some (.int p1), some (.int (x2 + 1))] [] I L P
        ) ∧ ((I 183 x2.toNatClampNeg) = 0 →
          Q (some (.int 0)) I L P 205
        ))
      ))
    ))
  ))
set_option maxRecDepth 20000 in
theorem g_X12_isCommon_6 {d : Nat} {Q : zQt} {p1 : Int32} {x2 : Int32} {I : zI} {L : zL} {P : zP} (hP : zPk P) (hd : 1 ≤ d) (hv : v_X12_isCommon_6 d Q p1 x2 I L P) : gw_X12_isCommon (d + 1) Q 6 [some (.ref 160), some (.int p1), some (.int x2)] [] I L P := by
  unfold v_X12_isCommon_6 at hv
  refine z_iload_n dX12_isCommon_6 rfl ?_
  refine z_aload_n dX12_isCommon_7 rfl ?_
  obtain ⟨h6, hv⟩ := hv
  refine z_callV (As := []) (st := [.int x2]) dX12_isCommon_8 zl_X12_346 zv_X12_worldMany (by decide) rfl zn_160 zo_160 rfl rfl (Nat.le_of_ble_eq_true rfl) ⟨Nat.le_refl _, Nat.le_refl _⟩ ⟨Nat.le_refl _, Nat.le_refl _⟩ (sp_X12_worldMany hP h6 (by omega) (K := fun r I' L' P' => nI (vN I) = r ∧ I = I' ∧ L = L' ∧ P = P') ⟨rfl, rfl, rfl, rfl⟩) (fun v1 I2 L2 P2 nx1 q8 => ?_)
  obtain ⟨rfl, r7, rfl, rfl, rfl, rfl, rfl⟩ := q8
  refine z_icmp_ge (tgt := 55) dX12_isCommon_11 (by decide) (fun q9 => ?_) (fun q9 => ?_)
  · have hv := hv.1 q9
    refine z_iconst (v := 1) dX12_isCommon_55 (by decide) ?_
    exact z_ireturn dX12_isCommon_56 rfl (by decide) (Nat.le_refl _) (Nat.le_refl _) hv
  · have hv := hv.2 q9
    refine z_aload_n dX12_isCommon_14 rfl ?_
    refine z_getP dX12_isCommon_15 zf_X12_74 zn_160 zo_160 (fun _ _ _ _ _ => rfl) (hP 160 35 180 zp_160_35) ?_
    refine z_iload_n dX12_isCommon_18 rfl ?_
    obtain ⟨h10, hv⟩ := hv
    refine z_zaload dX12_isCommon_19 zn_180 zh_180 h10 ?_
    refine z_if_eq (tgt := 49) dX12_isCommon_20 (by decide) (fun q11 => ?_) (fun q11 => ?_)
    · have hv := hv.1 q11
      refine z_iinc (v2 := x2 + 1) (lv2 := [some (.ref 160), some (.int p1), some (.int (x2 + 1))]) dX12_isCommon_49 rfl (by rfl) (by decide) rfl rfl ?_
      refine z_goto (tgt := 6) dX12_isCommon_52 (by decide) ?_
      exact hv
    · have hv := hv.2 q11
      refine z_aload_n dX12_isCommon_23 rfl ?_
      refine z_getP dX12_isCommon_24 zf_X12_92 zn_160 zo_160 (fun _ _ _ _ _ => rfl) (hP 160 44 186 zp_160_44) ?_
      refine z_iload_n dX12_isCommon_27 rfl ?_
      refine z_iaload dX12_isCommon_28 zn_186 zh_186 h10 ?_
      refine z_aload_n dX12_isCommon_29 rfl ?_
      refine z_getP dX12_isCommon_30 zf_X12_92 zn_160 zo_160 (fun _ _ _ _ _ => rfl) (hP 160 44 186 zp_160_44) ?_
      refine z_iload_n dX12_isCommon_33 rfl ?_
      obtain ⟨h12, hv⟩ := hv
      refine z_iaload dX12_isCommon_34 zn_186 zh_186 h12 ?_
      refine z_icmp_ne (tgt := 49) dX12_isCommon_35 (by decide) (fun q13 => ?_) (fun q13 => ?_)
      · have hv := hv.1 q13
        refine z_iinc (v2 := x2 + 1) (lv2 := [some (.ref 160), some (.int p1), some (.int (x2 + 1))]) dX12_isCommon_49 rfl (by rfl) (by decide) rfl rfl ?_
        refine z_goto (tgt := 6) dX12_isCommon_52 (by decide) ?_
        exact hv
      · have hv := hv.2 q13
        refine z_aload_n dX12_isCommon_38 rfl ?_
        refine z_getP dX12_isCommon_39 zf_X12_83 zn_160 zo_160 (fun _ _ _ _ _ => rfl) (hP 160 41 183 zp_160_41) ?_
        refine z_iload_n dX12_isCommon_42 rfl ?_
        obtain ⟨h14, hv⟩ := hv
        refine z_iaload dX12_isCommon_43 zn_183 zh_183 h14 ?_
        refine z_if_ne (tgt := 49) dX12_isCommon_44 (by decide) (fun q15 => ?_) (fun q15 => ?_)
        · have hv := hv.1 q15
          refine z_iinc (v2 := x2 + 1) (lv2 := [some (.ref 160), some (.int p1), some (.int (x2 + 1))]) dX12_isCommon_49 rfl (by rfl) (by decide) rfl rfl ?_
          refine z_goto (tgt := 6) dX12_isCommon_52 (by decide) ?_
          exact hv
        · have hv := hv.2 q15
          refine z_iconst (v := 0) dX12_isCommon_47 (by decide) ?_
          exact z_ireturn dX12_isCommon_48 rfl (by decide) (Nat.le_refl _) (Nat.le_refl _) hv
abbrev v_X12_isCommon (d : Nat) (Q : zQt) (p1 : Int32) (I : zI) (L : zL) (P : zP) : Prop :=
  zMv zm_X12_layParts d [.ref 160] I L P (fun I1 L2 P3 =>
    gw_X12_isCommon (d + 1) Q 6 [some (.ref 160), some (.int p1), some (.int 0)] [] I1 L2 P3
  )
set_option maxRecDepth 20000 in
theorem g_X12_isCommon {d : Nat} {Q : zQt} {p1 : Int32} {I : zI} {L : zL} {P : zP} (hP : zPk P) (hd : 1 ≤ d) (hv : v_X12_isCommon d Q p1 I L P) : zM zm_X12_isCommon (d + 1) 0 0 [.ref 160, .int p1] I L P 205 Q := by
  unfold v_X12_isCommon at hv
  refine zM_of (lv0 := [some (.ref 160), some (.int p1), none]) (by decide +kernel) (Nat.le_of_ble_eq_true rfl) rfl ?_
  refine z_aload_n dX12_isCommon_0 rfl ?_
  refine z_callV (As := []) (st := []) dX12_isCommon_1 zl_X12_381 zv_X12_layParts (by decide) rfl zn_160 zo_160 rfl rfl (Nat.le_of_ble_eq_true rfl) ⟨Nat.le_refl _, Nat.le_refl _⟩ ⟨Nat.le_refl _, Nat.le_refl _⟩ hv (fun v1 I1 L2 P3 nx1 q4 => ?_)
  obtain ⟨rfl, rfl, hv⟩ := q4
  refine z_iconst (v := 0) dX12_isCommon_4 (by decide) ?_
  refine z_istore_n (lv2 := [some (.ref 160), some (.int p1), some (.int 0)]) dX12_isCommon_5 (by decide) rfl rfl ?_
  exact hv
theorem lp_X12_isCommon {d : Nat} {Q : zQt} {I : zI} {L : zL} {P : zP} {t : Nat} (hP : zPk P) (hE : ME I) (ht : t < vN I) (hd : 1 ≤ d) (k : Q (some (.int (bP (∀ w, w < vN I → vPoss I w → I 186 w = I 186 t → ¬ I 183 w = 0)))) I L P 205) :
    ∀ n i, i + n = vN I → (∀ w, w < i → vPoss I w → I 186 w = I 186 t → ¬ I 183 w = 0) →
      gw_X12_isCommon (d + 1) Q 6 [some (.ref 160), some (.int (nI t)), some (.int (nI i))] [] I L P := by
  have hN := vN_le hE.1
  intro n
  induction n with
  | zero =>
    intro i hi hj
    refine g_X12_isCommon_6 hP (by omega) ⟨hE.1, fun _ => ?_, fun q => absurd (nI_le (by omega) (by omega)) q⟩
    rwa [bP_t (p := ∀ w, w < vN I → vPoss I w → I 186 w = I 186 t → ¬ I 183 w = 0) (fun w hw => hj w (by omega))] at k
  | succ n ih =>
    intro i hi hj
    have skip : ¬ (vPoss I i ∧ I 186 i = I 186 t ∧ I 183 i = 0) → gw_X12_isCommon (d + 1) Q 6 [some (.ref 160), some (.int (nI t)), some (.int (nI i + 1))] [] I L P := by
      intro hc
      rw [nI_1]
      refine ih (i + 1) (by omega) (fun w hw pw e hz => ?_)
      rcases Nat.lt_succ_iff_lt_or_eq.mp hw with h | h
      · exact hj w h pw e hz
      · subst h; exact hc ⟨pw, e, hz⟩
    refine g_X12_isCommon_6 hP (by omega) ⟨hE.1, fun q => absurd q (nI_ge (by omega) (by omega)), fun _ => ⟨nx_in (by omega) (by decide), fun q => skip ?_, fun q => ⟨nx_in (by omega) (by decide), fun q2 => skip ?_, fun q2 => ⟨nx_in (by omega) (by decide), fun q3 => skip ?_, fun q3 => ?_⟩⟩⟩⟩
    · rw [nI_cl (by omega)] at q
      exact fun h => h.1 q
    · rw [nI_cl (by omega), nI_cl (by omega)] at q2
      exact fun h => q2 h.2.1
    · rw [nI_cl (by omega)] at q3
      exact fun h => q3 h.2.2
    · rw [nI_cl (by omega)] at q q3
      rw [nI_cl (by omega), nI_cl (by omega)] at q2
      rwa [bP_f (p := ∀ w, w < vN I → vPoss I w → I 186 w = I 186 t → ¬ I 183 w = 0) (fun h => h i (by omega) q q2 q3)] at k
theorem sp_X12_isCommon {d : Nat} {I : zI} {L : zL} {P : zP} {t : Nat} (hP : zPk P) (hE : ME I) (hM : MP I) (ht : t < vN I) (pt : vPoss I t) (hd : 6 ≤ d) {K : Int32 → zI → zL → zP → Prop}
    (k : ∀ I', zFr [184, 186] [46] I I' → MP I' → K (bP (sCm (vNp I) (vN I) (vPoss I) (vLike I) (vRow I 0) t)) I' L P) : zMi zm_X12_isCommon d [.ref 160, .int (nI t)] I L P K := by
  obtain ⟨d, rfl⟩ : ∃ e, d = e + 1 := ⟨d - 1, by omega⟩
  refine g_X12_isCommon hP (by omega) (sp_X12_layParts hP hE hM (by omega) (fun I1 a1 a2 => ?_))
  have hE1 := ME_fr a1 (by decide) (by decide) (by decide) (by decide) (by decide) hE
  have n1 := vN_fr a1 (by decide) (by decide)
  have p1 := vNp_fr a1 (by decide) (by decide)
  have o1 := vPoss_fr a1 (show 180 ∉ [184, 186] by decide)
  have l1 := vLike_fr' a1 (by decide) (by decide) (by decide) (by decide) (by decide) (by decide)
  have r1 : I1 183 = I 183 := a1.1 183 (by decide) (by decide)
  have pt1 : vPoss I1 t := by rw [o1]; exact pt
  refine lp_X12_isCommon hP hE1 (by omega) (by omega) (qi ?_) (vN I1) 0 (by omega) (fun w hw => absurd hw (Nat.not_lt_zero w))
  have key : (∀ w, w < vN I1 → vPoss I1 w → I1 186 w = I1 186 t → ¬ I1 183 w = 0) ↔ sCm (vNp I) (vN I) (vPoss I) (vLike I) (vRow I 0) t := by
    unfold sCm vRow
    have ec : ∀ v, v < vN I1 → vPoss I1 v → (I1 186 v = I1 186 t ↔ sCo (vNp I) (vN I) (vPoss I) (vLike I) t v) := by
      intro v hv pv
      rw [eq_comm, vPt_iff hE1 a2 (by omega) hv pt1 pv]
      unfold vCo
      rw [p1, n1, o1, l1]
    constructor
    · intro h v hv pv hc
      rw [Nat.zero_add, ← r1]
      exact h v (by omega) (by rw [o1]; exact pv) ((ec v (by omega) (by rw [o1]; exact pv)).mpr hc)
    · intro h v hv pv hc
      have := h v (by omega) (by rw [← o1]; exact pv) ((ec v hv pv).mp hc)
      rw [Nat.zero_add, ← r1] at this
      exact this
  rw [bP_c key]
  exact k I1 a1 (Or.inr a2)
