/-! ===== the model: fewest, and the short public ones left ===== -/
theorem nn0 {a : Nat} (h : a < 2 ^ 31) : ¬ nI a < 0 := Int32.not_lt.mpr (nI_pos' h)
theorem rg_iff {v : Int32} {lo hi : Nat} (h1 : lo < 2 ^ 31) (h2 : hi + 1 < 2 ^ 31) : (¬ v < nI lo ∧ ¬ nI hi < v) ↔ ∃ k, lo ≤ k ∧ k ≤ hi ∧ v = nI k := by
  constructor
  · intro h
    rw [Int32.lt_iff_toInt_lt, Int32.lt_iff_toInt_lt, nI_toInt h1, nI_toInt (by omega)] at h
    obtain ⟨k, hk, rfl⟩ := vp_nI (p := v) (n := hi + 1) (vp_in_iff.mpr (by omega)) h2
    rw [nI_toInt (by omega)] at h
    exact ⟨k, by omega, by omega, rfl⟩
  · rintro ⟨k, a, b, rfl⟩
    rw [Int32.lt_iff_toInt_lt, Int32.lt_iff_toInt_lt, nI_toInt h1, nI_toInt (by omega), nI_toInt (by omega)]
    omega
theorem rg_lt {v : Int32} {n : Nat} (h : n < 2 ^ 31) (h1 : ¬ v < 0) (h2 : ¬ nI n ≤ v) : ∃ k, k < n ∧ v = nI k := by
  refine vp_nI (vp_in_iff.mpr ?_) h
  rw [Int32.lt_iff_toInt_lt] at h1
  rw [Int32.le_iff_toInt_le, nI_toInt h] at h2
  have h0 : (0 : Int32).toInt = 0 := by decide
  omega
theorem rSm_MSc {I I' : zI} (h : rSm I I') (hS : MSc I) : MSc I' := by
  obtain ⟨f, h1, h2, h3⟩ := h
  obtain ⟨hE, hT, hC, hG, hZ, hM, hpt⟩ := hS
  have eT := vTw_fr f (by decide) (by decide)
  have hN := vN_le hE.1
  have := hT.1
  refine ⟨ME_fr f (by decide) (by decide) (by decide) (by decide) (by decide) hE, MT_fr f (by decide) (by decide) (by decide) hT, MC_fr f (by decide) (by decide) (by decide) (by decide) (by decide) (by decide) (by decide) hC, ?_, ⟨fun w hw => ?_, fun j hj => ?_⟩, h2, ?_⟩
  · unfold MG vGn; rw [f.2 40 (by decide)]; exact hG
  · rw [h1 w hw]; exact hZ.1 w hw
  · rw [f.1 181 (by decide) (by decide)]; exact hZ.2 j hj
  · unfold vPoss; rw [eT, h1 _ (by omega)]; exact hpt
theorem rSm_poss {I I' : zI} (h : rSm I I') {w : Nat} (hw : w < 256) : vPoss I' w ↔ vPoss I w := by unfold vPoss; rw [h.2.1 w hw]
theorem rSm_gn {I I' : zI} (h : rSm I I') : vGn I' = vGn I := by unfold vGn; rw [h.1.2 40 (by decide)]
theorem rSm_rf {I I1 : zI} (hM : MP I) (h : zFr [199, 200, 201, 202, 203, 204] [] I I1) (ho : bOt I I1 3) : rSm I I1 :=
  ⟨zFr_wk h (by decide) (by decide), fun w _ => by rw [h.1 180 (by decide) (by decide)], MP_fr h (by decide) (by decide) (by decide) (by decide) (by decide) (by decide) (by decide) (by decide) (by decide) hM, ho⟩
theorem rSm_t {I I' : zI} (h : rSm I I') (hS : MSc I) : tB I' ∧ tSt I' I' (vPoss I) (vGn I) := by
  have hS' := rSm_MSc h hS
  obtain ⟨hE, hT, hC, hG, hZ, hM, hpt⟩ := hS'
  have hN := vN_le hE.1
  refine ⟨⟨hE, hT, hC⟩, zFr_rf _ _ _, hZ.1, fun w hw => rSm_poss h (by omega), ?_, hM, (rSm_poss h (by have := hT.1; omega)).mp hpt⟩
  rw [← rSm_gn h]
  exact ⟨hG.2, hG.1⟩
theorem aSy_c {I I' : zI} {said gn : Nat} (h1 : ∀ po c, aRw I' po gn c = aRw I po gn c) (h2 : vSy I' = vSy I) (h3 : vTw I' = vTw I) : ∀ m i po, aSy I' said gn m i po = aSy I said gn m i po
  | 0, _, _ => rfl
  | m + 1, i, po => by unfold aSy; rw [h1, h2, h3, aSy_c h1 h2 h3 m, aSy_c h1 h2 h3 m]
theorem aNt_c {I I' : zI} (h1 : ∀ po gn w, aGs I' po gn w = aGs I po gn w) (h3 : vTw I' = vTw I) : ∀ m acc po gn, aNt I' m acc po gn = aNt I m acc po gn
  | 0, _, _, _ => rfl
  | m + 1, acc, po, gn => by
    have e1 : aPo I' po gn = aPo I po gn := by funext w; unfold aPo; rw [h1, h1, h3]
    have e2 : aGn I' po gn = aGn I po gn := by unfold aGn; rw [h1, h3]
    unfold aNt
    rw [h1, h3, e1, e2, aNt_c h1 h3 m]
theorem rSm_gb {I I' : zI} (h : rSm I I') (said n : Nat) (po : Nat → Prop) (gn : Nat) : aGb I' said n po gn = aGb I said n po gn := by
  have f := h.1
  unfold aGb
  rw [vNs_fr f (by decide) (by decide), aSy_c (aRw_fr f (by decide) (by decide) (by decide) (by decide) (by decide) (by decide) · gn ·) (funext (vSy_fr f (by decide) (by decide) (by decide) (by decide) (by decide))) (vTw_fr f (by decide) (by decide))]
  cases aSy I said gn (vNs I) 0 po with
  | none => rfl
  | some po' =>
    show nI _ = nI _
    rw [aNt_c (aGs_fr f (by decide) (by decide) (by decide) (by decide) (by decide) (by decide) (by decide) (by decide)) (vTw_fr f (by decide) (by decide))]
abbrev gw_X12_fewest (d : Nat) (Q : zQt) (pc : Nat) (lv : zV) (st : List Value) (I : zI) (L : zL) (P : zP) : Prop := zW zm_X12_fewest (zRm d 0 0) 0 0 Q pc lv st I L P 205 0 0
abbrev v_X12_fewest_34 (d : Nat) (Q : zQt) (p1 : Int32) (p2 : Int32) (x3 : Int32) (x4 : Int32) (I : zI) (L : zL) (P : zP) : Prop :=
  vp_in (I 160 28) 2 ∧
  ((((1 : Int32) <<< ((I 165 (I 160 28).toNatClampNeg) &&& 31) : Int32) ≤ x4 →
    Q (some (.int x3)) I L P 205
  ) ∧ (¬ ((1 : Int32) <<< ((I 165 (I 160 28).toNatClampNeg) &&& 31) : Int32) ≤ x4 →
    ((x3 < 0 →
      zMi zm_X12_goBy d [.ref 160, .int x4, .int p2] I L P (fun r21 I17 L18 P19 =>
        ((¬ r21 = p1 →
          zMv zm_X12_bring d [.ref 160, .int 3] I17 L18 P19 (fun I23 L24 P25 =>
            gw_X12_fewest (d + 1) Q 34 [some (.ref 160), some (.int p1), some (.int p2), some (.int x3), some (.int (x4 + 1))] [] I23 L24 P25
          )
        ) ∧ (r21 = p1 →
          zMv zm_X12_bring d [.ref 160, .int 3] I17 L18 P19 (fun I28 L29 P30 =>
            gw_X12_fewest (d + 1) Q 34 [some (.ref 160), some (.int p1), some (.int p2), some (.int x4), some (.int (x4 + 1))] [] I28 L29 P30
          )
        ))
      )
    ) ∧ (¬ x3 < 0 →
      zMi zm_X12_bitsOf d [.int x4] I L P (fun r37 I33 L34 P35 =>
        zMi zm_X12_bitsOf d [.int x3] I33 L34 P35 (fun r42 I38 L39 P40 =>
          ((r37 < r42 →
            zMi zm_X12_goBy d [.ref 160, .int x4, .int p2] I38 L39 P40 (fun r48 I44 L45 P46 =>
              ((¬ r48 = p1 →
                zMv zm_X12_bring d [.ref 160, .int 3] I44 L45 P46 (fun I50 L51 P52 =>
                  gw_X12_fewest (d + 1) Q 34 [some (.ref 160), some (.int p1), some (.int p2), some (.int x3), some (.int (x4 + 1))] [] I50 L51 P52
                )
              ) ∧ (r48 = p1 →
                zMv zm_X12_bring d [.ref 160, .int 3] I44 L45 P46 (fun I55 L56 P57 =>
                  gw_X12_fewest (d + 1) Q 34 [some (.ref 160), some (.int p1), some (.int p2), some (.int x4), some (.int (x4 + 1))] [] I55 L56 P57
                )
              ))
            )
          ) ∧ (¬ r37 < r42 →
            gw_X12_fewest (d + 1) Q 34 [some (.ref 160), some (.int p1), some (.int p2), some (.int x3), some (.int (x4 + 1))] [] I38 L39 P40
          ))
        )
      )
    ))
  ))
set_option maxRecDepth 20000 in
theorem g_X12_fewest_34 {d : Nat} {Q : zQt} {p1 : Int32} {p2 : Int32} {x3 : Int32} {x4 : Int32} {I : zI} {L : zL} {P : zP} (hP : zPk P) (hd : 1 ≤ d) (hv : v_X12_fewest_34 d Q p1 p2 x3 x4 I L P) : gw_X12_fewest (d + 1) Q 34 [some (.ref 160), some (.int p1), some (.int p2), some (.int x3), some (.int x4)] [] I L P := by
  unfold v_X12_fewest_34 at hv
  refine z_iload dX12_fewest_34 rfl ?_
  refine z_iconst (v := 1) dX12_fewest_36 (by decide) ?_
  refine z_aload_n dX12_fewest_37 rfl ?_
  refine z_getP dX12_fewest_38 zf_X12_27 zn_160 zo_160 (fun _ _ _ _ _ => rfl) (hP 160 13 165 zp_160_13) ?_
  refine z_aload_n dX12_fewest_41 rfl ?_
  refine z_getI dX12_fewest_42 zf_X12_261 zn_160 zo_160 (fun _ _ _ _ _ => rfl) ?_
  obtain ⟨h14, hv⟩ := hv
  refine z_iaload dX12_fewest_45 zn_165 zh_165 h14 ?_
  refine z_ishl dX12_fewest_46 ?_
  refine z_icmp_ge (tgt := 94) dX12_fewest_47 (by decide) (fun q15 => ?_) (fun q15 => ?_)
  · have hv := hv.1 q15
    refine z_iload_n dX12_fewest_94 rfl ?_
    exact z_ireturn dX12_fewest_95 rfl rfl (Nat.le_refl _) (Nat.le_refl _) hv
  · have hv := hv.2 q15
    refine z_iload_n dX12_fewest_50 rfl ?_
    refine z_if_lt (tgt := 69) dX12_fewest_51 (by decide) (fun q16 => ?_) (fun q16 => ?_)
    · have hv := hv.1 q16
      refine z_aload_n dX12_fewest_69 rfl ?_
      refine z_iload dX12_fewest_70 rfl ?_
      refine z_iload_n dX12_fewest_72 rfl ?_
      refine z_callV (As := [.int x4, .int p2]) (st := []) dX12_fewest_73 zl_X12_434 zv_X12_goBy (by decide) rfl zn_160 zo_160 rfl rfl (Nat.le_of_ble_eq_true rfl) ⟨Nat.le_refl _, Nat.le_refl _⟩ ⟨Nat.le_refl _, Nat.le_refl _⟩ hv (fun v1 I17 L18 P19 nx1 q20 => ?_)
      obtain ⟨rfl, r21, rfl, hv⟩ := q20
      refine z_iload_n dX12_fewest_76 rfl ?_
      refine z_icmp_ne (tgt := 83) dX12_fewest_77 (by decide) (fun q22 => ?_) (fun q22 => ?_)
      · have hv := hv.1 q22
        refine z_aload_n dX12_fewest_83 rfl ?_
        refine z_iconst (v := 3) dX12_fewest_84 (by decide) ?_
        refine z_callV (As := [.int 3]) (st := []) dX12_fewest_85 zl_X12_431 zv_X12_bring (by decide) rfl zn_160 zo_160 rfl rfl (Nat.le_of_ble_eq_true rfl) ⟨Nat.le_refl _, Nat.le_refl _⟩ ⟨Nat.le_refl _, Nat.le_refl _⟩ hv (fun v1 I23 L24 P25 nx1 q26 => ?_)
        obtain ⟨rfl, rfl, hv⟩ := q26
        refine z_iinc (v2 := x4 + 1) (lv2 := [some (.ref 160), some (.int p1), some (.int p2), some (.int x3), some (.int (x4 + 1))]) dX12_fewest_88 rfl (by rfl) (by decide) rfl rfl ?_
        refine z_goto (tgt := 34) dX12_fewest_91 (by decide) ?_
        exact hv
      · have hv := hv.2 q22
        refine z_iload dX12_fewest_80 rfl ?_
        refine z_istore_n (lv2 := [some (.ref 160), some (.int p1), some (.int p2), some (.int x4), some (.int x4)]) dX12_fewest_82 (by decide) rfl rfl ?_
        refine z_aload_n dX12_fewest_83 rfl ?_
        refine z_iconst (v := 3) dX12_fewest_84 (by decide) ?_
        refine z_callV (As := [.int 3]) (st := []) dX12_fewest_85 zl_X12_431 zv_X12_bring (by decide) rfl zn_160 zo_160 rfl rfl (Nat.le_of_ble_eq_true rfl) ⟨Nat.le_refl _, Nat.le_refl _⟩ ⟨Nat.le_refl _, Nat.le_refl _⟩ hv (fun v1 I28 L29 P30 nx1 q31 => ?_)
        obtain ⟨rfl, rfl, hv⟩ := q31
        refine z_iinc (v2 := x4 + 1) (lv2 := [some (.ref 160), some (.int p1), some (.int p2), some (.int x4), some (.int (x4 + 1))]) dX12_fewest_88 rfl (by rfl) (by decide) rfl rfl ?_
        refine z_goto (tgt := 34) dX12_fewest_91 (by decide) ?_
        exact hv
    · have hv := hv.2 q16
      refine z_iload dX12_fewest_54 rfl ?_
      refine z_callS (As := [.int x4]) (st := []) dX12_fewest_56 zl_X12_384 zs_X12_bitsOf rfl rfl (Nat.le_of_ble_eq_true rfl) ⟨Nat.le_refl _, Nat.le_refl _⟩ ⟨Nat.le_refl _, Nat.le_refl _⟩ hv (fun v1 I33 L34 P35 nx1 q36 => ?_)
      obtain ⟨rfl, r37, rfl, hv⟩ := q36
      refine z_iload_n dX12_fewest_59 rfl ?_
      refine z_callS (As := [.int x3]) (st := [.int r37]) dX12_fewest_60 zl_X12_384 zs_X12_bitsOf rfl rfl (Nat.le_of_ble_eq_true rfl) ⟨Nat.le_refl _, Nat.le_refl _⟩ ⟨Nat.le_refl _, Nat.le_refl _⟩ hv (fun v1 I38 L39 P40 nx1 q41 => ?_)
      obtain ⟨rfl, r42, rfl, hv⟩ := q41
      refine z_icmp_lt (tgt := 69) dX12_fewest_63 (by decide) (fun q43 => ?_) (fun q43 => ?_)
      · have hv := hv.1 q43
        refine z_aload_n dX12_fewest_69 rfl ?_
        refine z_iload dX12_fewest_70 rfl ?_
        refine z_iload_n dX12_fewest_72 rfl ?_
        refine z_callV (As := [.int x4, .int p2]) (st := []) dX12_fewest_73 zl_X12_434 zv_X12_goBy (by decide) rfl zn_160 zo_160 rfl rfl (Nat.le_of_ble_eq_true rfl) ⟨Nat.le_refl _, Nat.le_refl _⟩ ⟨Nat.le_refl _, Nat.le_refl _⟩ hv (fun v1 I44 L45 P46 nx1 q47 => ?_)
        obtain ⟨rfl, r48, rfl, hv⟩ := q47
        refine z_iload_n dX12_fewest_76 rfl ?_
        refine z_icmp_ne (tgt := 83) dX12_fewest_77 (by decide) (fun q49 => ?_) (fun q49 => ?_)
        · have hv := hv.1 q49
          refine z_aload_n dX12_fewest_83 rfl ?_
          refine z_iconst (v := 3) dX12_fewest_84 (by decide) ?_
          refine z_callV (As := [.int 3]) (st := []) dX12_fewest_85 zl_X12_431 zv_X12_bring (by decide) rfl zn_160 zo_160 rfl rfl (Nat.le_of_ble_eq_true rfl) ⟨Nat.le_refl _, Nat.le_refl _⟩ ⟨Nat.le_refl _, Nat.le_refl _⟩ hv (fun v1 I50 L51 P52 nx1 q53 => ?_)
          obtain ⟨rfl, rfl, hv⟩ := q53
          refine z_iinc (v2 := x4 + 1) (lv2 := [some (.ref 160), some (.int p1), some (.int p2), some (.int x3), some (.int (x4 + 1))]) dX12_fewest_88 rfl (by rfl) (by decide) rfl rfl ?_
          refine z_goto (tgt := 34) dX12_fewest_91 (by decide) ?_
          exact hv
        · have hv := hv.2 q49
          refine z_iload dX12_fewest_80 rfl ?_
          refine z_istore_n (lv2 := [some (.ref 160), some (.int p1), some (.int p2), some (.int x4), some (.int x4)]) dX12_fewest_82 (by decide) rfl rfl ?_
          refine z_aload_n dX12_fewest_83 rfl ?_
          refine z_iconst (v := 3) dX12_fewest_84 (by decide) ?_
          refine z_callV (As := [.int 3]) (st := []) dX12_fewest_85 zl_X12_431 zv_X12_bring (by decide) rfl zn_160 zo_160 rfl rfl (Nat.le_of_ble_eq_true rfl) ⟨Nat.le_refl _, Nat.le_refl _⟩ ⟨Nat.le_refl _, Nat.le_refl _⟩ hv (fun v1 I55 L56 P57 nx1 q58 => ?_)
          obtain ⟨rfl, rfl, hv⟩ := q58
          refine z_iinc (v2 := x4 + 1) (lv2 := [some (.ref 160), some (.int p1), some (.int p2), some (.int x4), some (.int (x4 + 1))]) dX12_fewest_88 rfl (by rfl) (by decide) rfl rfl ?_
          refine z_goto (tgt := 34) dX12_fewest_91 (by decide) ?_
          exact hv
      · have hv := hv.2 q43
        refine z_goto (tgt := 88) dX12_fewest_66 (by decide) ?_
        refine z_iinc (v2 := x4 + 1) (lv2 := [some (.ref 160), some (.int p1), some (.int p2), some (.int x3), some (.int (x4 + 1))]) dX12_fewest_88 rfl (by rfl) (by decide) rfl rfl ?_
        refine z_goto (tgt := 34) dX12_fewest_91 (by decide) ?_
        exact hv
abbrev v_X12_fewest (d : Nat) (Q : zQt) (p1 : Int32) (p2 : Int32) (I : zI) (L : zL) (P : zP) : Prop :=
  ((p1 < 0 →
    Q (some (.int (-1))) I L P 205
  ) ∧ (¬ p1 < 0 →
    MB I ∧
    (((nI (vN I)) ≤ p1 →
      Q (some (.int (-1))) I L P 205
    ) ∧ (¬ (nI (vN I)) ≤ p1 →
      ((¬ (bP (¬ p2 < 1 ∧ ¬ 12 < p2)) = 0 →
        zMv zm_X12_keep d [.ref 160, .int 3] I L P (fun I9 L10 P11 =>
          gw_X12_fewest (d + 1) Q 34 [some (.ref 160), some (.int p1), some (.int p2), some (.int (-1)), some (.int 0)] [] I9 L10 P11
        )
      ) ∧ ((bP (¬ p2 < 1 ∧ ¬ 12 < p2)) = 0 →
        Q (some (.int (-1))) I L P 205
      ))
    ))
  ))
set_option maxRecDepth 20000 in
theorem g_X12_fewest {d : Nat} {Q : zQt} {p1 : Int32} {p2 : Int32} {I : zI} {L : zL} {P : zP} (hP : zPk P) (hd : 1 ≤ d) (hv : v_X12_fewest d Q p1 p2 I L P) : zM zm_X12_fewest (d + 1) 0 0 [.ref 160, .int p1, .int p2] I L P 205 Q := by
  unfold v_X12_fewest at hv
  refine zM_of (lv0 := [some (.ref 160), some (.int p1), some (.int p2), none, none]) (by decide +kernel) (Nat.le_of_ble_eq_true rfl) rfl ?_
  refine z_iload_n dX12_fewest_0 rfl ?_
  refine z_if_lt (tgt := 22) dX12_fewest_1 (by decide) (fun q1 => ?_) (fun q1 => ?_)
  · have hv := hv.1 q1
    refine z_iconst (v := (-1)) dX12_fewest_22 (by decide) ?_
    exact z_ireturn dX12_fewest_23 rfl rfl (Nat.le_refl _) (Nat.le_refl _) hv
  · have hv := hv.2 q1
    refine z_iload_n dX12_fewest_4 rfl ?_
    refine z_aload_n dX12_fewest_5 rfl ?_
    obtain ⟨h2, hv⟩ := hv
    refine z_callV (As := []) (st := [.int p1]) dX12_fewest_6 zl_X12_346 zv_X12_worldMany (by decide) rfl zn_160 zo_160 rfl rfl (Nat.le_of_ble_eq_true rfl) ⟨Nat.le_refl _, Nat.le_refl _⟩ ⟨Nat.le_refl _, Nat.le_refl _⟩ (sp_X12_worldMany hP h2 (by omega) (K := fun r I' L' P' => nI (vN I) = r ∧ I = I' ∧ L = L' ∧ P = P') ⟨rfl, rfl, rfl, rfl⟩) (fun v1 I2 L2 P2 nx1 q4 => ?_)
    obtain ⟨rfl, r3, rfl, rfl, rfl, rfl, rfl⟩ := q4
    refine z_icmp_ge (tgt := 22) dX12_fewest_9 (by decide) (fun q5 => ?_) (fun q5 => ?_)
    · have hv := hv.1 q5
      refine z_iconst (v := (-1)) dX12_fewest_22 (by decide) ?_
      exact z_ireturn dX12_fewest_23 rfl rfl (Nat.le_refl _) (Nat.le_refl _) hv
    · have hv := hv.2 q5
      refine z_iload_n dX12_fewest_12 rfl ?_
      refine z_iconst (v := 1) dX12_fewest_13 (by decide) ?_
      refine z_bipush (v := 12) dX12_fewest_14 (by decide) ?_
      refine z_callS (As := [.int p2, .int 1, .int 12]) (st := []) dX12_fewest_16 zl_X12_342 zs_X12_isIn rfl rfl (Nat.le_of_ble_eq_true rfl) ⟨Nat.le_refl _, Nat.le_refl _⟩ ⟨Nat.le_refl _, Nat.le_refl _⟩ (sp_X12_isIn hP (K := fun r I' L' P' => bP (¬ p2 < 1 ∧ ¬ 12 < p2) = r ∧ I = I' ∧ L = L' ∧ P = P') ⟨rfl, rfl, rfl, rfl⟩) (fun v1 I2 L2 P2 nx1 q7 => ?_)
      obtain ⟨rfl, r6, rfl, rfl, rfl, rfl, rfl⟩ := q7
      refine z_if_ne (tgt := 24) dX12_fewest_19 (by decide) (fun q8 => ?_) (fun q8 => ?_)
      · have hv := hv.1 q8
        refine z_iconst (v := (-1)) dX12_fewest_24 (by decide) ?_
        refine z_istore_n (lv2 := [some (.ref 160), some (.int p1), some (.int p2), some (.int (-1)), none]) dX12_fewest_25 (by decide) rfl rfl ?_
        refine z_aload_n dX12_fewest_26 rfl ?_
        refine z_iconst (v := 3) dX12_fewest_27 (by decide) ?_
        refine z_callV (As := [.int 3]) (st := []) dX12_fewest_28 zl_X12_428 zv_X12_keep (by decide) rfl zn_160 zo_160 rfl rfl (Nat.le_of_ble_eq_true rfl) ⟨Nat.le_refl _, Nat.le_refl _⟩ ⟨Nat.le_refl _, Nat.le_refl _⟩ hv (fun v1 I9 L10 P11 nx1 q12 => ?_)
        obtain ⟨rfl, rfl, hv⟩ := q12
        refine z_iconst (v := 0) dX12_fewest_31 (by decide) ?_
        refine z_istore (lv2 := [some (.ref 160), some (.int p1), some (.int p2), some (.int (-1)), some (.int 0)]) dX12_fewest_32 (by decide) rfl rfl ?_
        exact hv
      · have hv := hv.2 q8
        refine z_iconst (v := (-1)) dX12_fewest_22 (by decide) ?_
        exact z_ireturn dX12_fewest_23 rfl rfl (Nat.le_refl _) (Nat.le_refl _) hv
theorem lp_X12_fewest {d : Nat} {Q : zQt} {I0 : zI} {L : zL} {P : zP} {set n : Nat} (hP : zPk P) (hS : MSc I0) (hset : set < 256) (hn : n < 2 ^ 31) (hd : 9 ≤ d) {G : Nat → Prop} (hG : ∀ s, G s ↔ aGb I0 s n (vPoss I0) (vGn I0) = nI set)
    (k : ∀ I r, rSm I0 I → fBs G (2 ^ vNs I0) r → Q (some (.int r)) I L P 205) :
    ∀ m i I r, i + m = 2 ^ vNs I0 → rSm I0 I → bHd I 3 I0 → fBs G i r → gw_X12_fewest (d + 1) Q 34 [some (.ref 160), some (.int (nI set)), some (.int (nI n)), some (.int r), some (.int (nI i))] [] I L P := by
  have hZ := hS.2.2.2.2.1
  have hns := hS.2.2.1.1
  have hpw : 2 ^ vNs I0 ≤ 64 := Nat.pow_le_pow_right (by decide) (hns : vNs I0 ≤ 6)
  have pre : ∀ I, rSm I0 I → vp_in (I 160 28) 2 ∧ ((1 : Int32) <<< ((I 165 (I 160 28).toNatClampNeg) &&& 31) : Int32) = nI (2 ^ vNs I0) := by
    intro I hr
    have hE := (rSm_MSc hr hS).1
    refine ⟨by rw [hE.1.1.2]; exact nx_in hE.1.1.1 (by decide), ?_⟩
    have : I 165 (I 160 28).toNatClampNeg = nI (vNs I0) := by
      show I 165 (vB I) = _
      rw [vB_fr hr.1 (by decide), hr.1.1 165 (by decide) (by decide), hS.2.2.1.2.1]
    rw [this, show (1 : Int32) = nI 1 from rfl, nx_shl (by omega) (by omega), Nat.one_mul]
  intro m
  induction m with
  | zero =>
    intro i I r hi hr hh hb
    have : i = 2 ^ vNs I0 := by omega
    subst this
    obtain ⟨p1, p2⟩ := pre I hr
    refine g_X12_fewest_34 hP (by omega) ⟨p1, fun _ => k I r hr hb, fun q => absurd (by rw [p2]; exact nI_le (Nat.le_refl _) (by omega)) q⟩
  | succ m ih =>
    intro i I r hi hr hh hb
    obtain ⟨p1, p2⟩ := pre I hr
    obtain ⟨tb, ts⟩ := rSm_t hr hS
    have eg : aGb I i n (vPoss I0) (vGn I0) = aGb I0 i n (vPoss I0) (vGn I0) := rSm_gb hr i n _ _
    have go : ∀ (hnew : ∀ b, r = nI b → b < i → G b → popc i 31 < popc b 31), zMi zm_X12_goBy d [.ref 160, .int (nI i), .int (nI n)] I L P (fun r21 I17 L18 P19 =>
        ((¬ r21 = nI set →
          zMv zm_X12_bring d [.ref 160, .int 3] I17 L18 P19 (fun I23 L24 P25 =>
            gw_X12_fewest (d + 1) Q 34 [some (.ref 160), some (.int (nI set)), some (.int (nI n)), some (.int r), some (.int (nI i + 1))] [] I23 L24 P25
          )
        ) ∧ (r21 = nI set →
          zMv zm_X12_bring d [.ref 160, .int 3] I17 L18 P19 (fun I28 L29 P30 =>
            gw_X12_fewest (d + 1) Q 34 [some (.ref 160), some (.int (nI set)), some (.int (nI n)), some (.int (nI i)), some (.int (nI i + 1))] [] I28 L29 P30
          )
        ))
      ) := by
      intro hnew
      refine t_goBy hP tb ts hn (by omega) hd (fun I' po' gn' h' => ⟨fun q => ?_, fun q => ?_⟩)
      · rw [eg] at q
        refine t_endB hP hZ hr.1 hh hr.2.2.2 (zFr_wk h'.1 (by decide) (by decide)) (fun I2 hr2 hh2 _ => ?_)
        rw [nI_1]
        exact ih (i + 1) I2 r (by omega) hr2 hh2 (fBs_no hb (fun z => q ((hG i).mp z)))
      · rw [eg] at q
        refine t_endB hP hZ hr.1 hh hr.2.2.2 (zFr_wk h'.1 (by decide) (by decide)) (fun I2 hr2 hh2 _ => ?_)
        rw [nI_1]
        exact ih (i + 1) I2 (nI i) (by omega) hr2 hh2 (fBs_new hb ((hG i).mpr q) hnew)
    refine g_X12_fewest_34 hP (by omega) ⟨p1, fun q => absurd q (by rw [p2]; exact nI_ge (by omega) (by omega)), fun _ => ⟨fun q => go (fun b hb1 hb2 _ => absurd q (by rw [hb1]; exact nn0 (by omega))), fun q => ?_⟩⟩
    rcases hb with ⟨h1, h2⟩ | ⟨b, h1, h2, h3, h4⟩
    · subst h1; exact absurd (by decide) q
    · subst h2
      have pa := popc_le i 31
      have pb := popc_le b 31
      refine sp_X12_bitsOf hP (by omega) (sp_X12_bitsOf hP (by omega) ⟨fun q2 => go (fun b' e _ _ => ?_), fun q2 => ?_⟩)
      · have : b < b' ∨ b = b' ∨ b' < b := by omega
        have e' : b = b' := (nI_eq (by omega) (by omega)).mp e
        subst e'
        exact (nI_ltI (by omega) (by omega)).mp q2
      · rw [nI_1]
        refine ih (i + 1) I (nI b) (by omega) hr hh (fBs_skip h1 h3 h4 ?_)
        rw [nI_ltI (by omega) (by omega)] at q2
        omega
theorem sp_X12_fewest {d : Nat} {I : zI} {L : zL} {P : zP} {set n : Int32} (hP : zPk P) (hS : MSc I) (hd : 10 ≤ d) {K : Int32 → zI → zL → zP → Prop}
    (k0 : ¬ (∃ a b, a < vN I ∧ 1 ≤ b ∧ b ≤ 12 ∧ set = nI a ∧ n = nI b) → K (-1) I L P)
    (k : ∀ a b, a < vN I → 1 ≤ b → b ≤ 12 → set = nI a → n = nI b → ∀ I' r, rSm I I' → fBs (fun s => aGb I s b (vPoss I) (vGn I) = nI a) (2 ^ vNs I) r → K r I' L P) : zMi zm_X12_fewest d [.ref 160, .int set, .int n] I L P K := by
  obtain ⟨d, rfl⟩ : ∃ e, d = e + 1 := ⟨d - 1, by omega⟩
  have hE := hS.1
  have hN := vN_le hE.1
  refine g_X12_fewest hP (by omega) ⟨fun q => qi (k0 ?_), fun q0 => ⟨hE.1, fun q => qi (k0 ?_), fun q1 => ⟨fun q2 => ?_, fun q2 => qi (k0 ?_)⟩⟩⟩
  · rintro ⟨a, b, h1, h2, h3, rfl, rfl⟩
    exact absurd q (nn0 (by omega))
  · rintro ⟨a, b, h1, h2, h3, rfl, rfl⟩
    exact absurd q (nI_ge h1 (by omega))
  · rw [bP_n] at q2
    obtain ⟨a, ha, rfl⟩ := rg_lt (by omega) q0 q1
    obtain ⟨b, hb1, hb2, rfl⟩ := (rg_iff (lo := 1) (hi := 12) (by decide) (by decide)).mp q2
    refine sp_X12_keep (b := 3) hP (by decide) hS.2.2.2.2.1 (fun I1 a1 a2 a3 => ?_)
    exact lp_X12_fewest hP hS (by omega) (by omega) (by omega) (fun s => Iff.rfl) (fun I' r hr hb => qi (k a b ha hb1 hb2 rfl rfl I' r hr hb)) (2 ^ vNs I) 0 I1 (-1) (by omega) (rSm_rf hS.2.2.2.2.2.1 a1 a3) a2 (Or.inl ⟨rfl, fun s hs => absurd hs (Nat.not_lt_zero s)⟩)
  · rw [bP_0] at q2
    rintro ⟨a, b, h1, h2, h3, rfl, rfl⟩
    exact q2 ((rg_iff (lo := 1) (hi := 12) (by decide) (by decide)).mpr ⟨b, h2, h3, rfl⟩)
/-- a night of the scene as it is -/
theorem MSc_t {I : zI} (hS : MSc I) : tB I ∧ tSt I I (vPoss I) (vGn I) := by
  obtain ⟨hE, hT, hC, hG, hZ, hM, hpt⟩ := hS
  exact ⟨⟨hE, hT, hC⟩, zFr_rf _ _ _, hZ.1, fun _ _ => Iff.rfl, ⟨hG.2, hG.1⟩, hM, hpt⟩
theorem MSc_of {I I' : zI} {po : Nat → Prop} {gn : Nat} (hS : MSc I) (h : tSt I I' po gn) : MSc I' ∧ (∀ w, w < vN I → (vPoss I' w ↔ po w)) ∧ vGn I' = gn := by
  obtain ⟨hE, hT, hC, hG, hZ, hM, hpt⟩ := hS
  have hb : tB I := ⟨hE, hT, hC⟩
  refine ⟨⟨t_ME hb h, t_MT hb h, MC_fr h.1 (by decide) (by decide) (by decide) (by decide) (by decide) (by decide) (by decide) hC, (t_MG h).1, ⟨h.2.1, fun j hj => ?_⟩, h.2.2.2.2.1, ?_⟩, h.2.2.1, (t_MG h).2⟩
  · rw [h.1.1 181 (by decide) (by decide)]; exact hZ.2 j hj
  · rw [t_tw h]; exact (h.2.2.1 _ hT.1).mpr h.2.2.2.2.2
abbrev gw_X12_night (d : Nat) (Q : zQt) (pc : Nat) (lv : zV) (st : List Value) (I : zI) (L : zL) (P : zP) : Prop := zW zm_X12_night (zRm d 0 0) 0 0 Q pc lv st I L P 205 0 0
abbrev v_X12_night (d : Nat) (Q : zQt)  (I : zI) (L : zL) (P : zP) : Prop :=
  ((¬ (I 160 39) = 300 →
    zMi zm_X12_oneNight d [.ref 160] I L P (fun r6 I2 L3 P4 =>
      Q (some (.int r6)) I2 L3 P4 205
    )
  ) ∧ ((I 160 39) = 300 →
    Q (some (.int (-1))) I L P 205
  ))
set_option maxRecDepth 20000 in
theorem g_X12_night {d : Nat} {Q : zQt}  {I : zI} {L : zL} {P : zP} (hP : zPk P) (hv : v_X12_night d Q  I L P) : zM zm_X12_night (d + 1) 0 0 [.ref 160] I L P 205 Q := by
  unfold v_X12_night at hv
  refine zM_of (lv0 := [some (.ref 160)]) (by decide +kernel) (Nat.le_of_ble_eq_true rfl) rfl ?_
  refine z_aload_n dX12_night_0 rfl ?_
  refine z_getI dX12_night_1 zf_X12_356 zn_160 zo_160 (fun _ _ _ _ _ => rfl) ?_
  refine z_sipush (v := 300) dX12_night_4 (by decide) ?_
  refine z_icmp_ne (tgt := 14) dX12_night_7 (by decide) (fun q1 => ?_) (fun q1 => ?_)
  · have hv := hv.1 q1
    refine z_aload_n dX12_night_14 rfl ?_
    refine z_callV (As := []) (st := []) dX12_night_15 zl_X12_425 zv_X12_oneNight (by decide) rfl zn_160 zo_160 rfl rfl (Nat.le_of_ble_eq_true rfl) ⟨Nat.le_refl _, Nat.le_refl _⟩ ⟨Nat.le_refl _, Nat.le_refl _⟩ hv (fun v1 I2 L3 P4 nx1 q5 => ?_)
    obtain ⟨rfl, r6, rfl, hv⟩ := q5
    exact z_ireturn dX12_night_18 rfl rfl (Nat.le_refl _) (Nat.le_refl _) hv
  · have hv := hv.2 q1
    refine z_iconst (v := (-1)) dX12_night_10 (by decide) ?_
    refine z_goto (tgt := 18) dX12_night_11 (by decide) ?_
    exact z_ireturn dX12_night_18 rfl rfl (Nat.le_refl _) (Nat.le_refl _) hv
theorem sp_X12_night {d : Nat} {I : zI} {L : zL} {P : zP} (hP : zPk P) (hS : MSc I) (hd : 6 ≤ d) {K : Int32 → zI → zL → zP → Prop}
    (k0 : I 160 39 = 300 → K (-1) I L P)
    (k : ¬ I 160 39 = 300 → ∀ I', tSt I I' (aPo I (vPoss I) (vGn I)) (aGn I (vPoss I) (vGn I)) → I' 160 39 = I 160 39 + 1 → K (nI (aGs I (vPoss I) (vGn I) (vTw I))) I' L P) : zMi zm_X12_night d [.ref 160] I L P K := by
  obtain ⟨d, rfl⟩ : ∃ e, d = e + 1 := ⟨d - 1, by omega⟩
  obtain ⟨tb, ts⟩ := MSc_t hS
  exact g_X12_night hP ⟨fun q => t_night hP tb ts (by omega) (fun I' h1 _ h3 => qi (k q I' h1 h3)), fun q => qi (k0 q)⟩
theorem sp_X12_saying {d : Nat} {I : zI} {L : zL} {P : zP} {x : Int32} (hP : zPk P) (hS : MSc I) (hd : 8 ≤ d) {K : Int32 → zI → zL → zP → Prop}
    (k0 : (¬ ∃ i, i < vNs I ∧ x = nI i) → K (-1) I L P)
    (k1 : ∀ i, i < vNs I → x = nI i → aRw I (vPoss I) (vGn I) (vSy I i) (vTw I) = 0 → ∀ I', tSt I I' (vPoss I) (vGn I) → I' 160 39 = I 160 39 → K (-1) I' L P)
    (k : ∀ i, i < vNs I → x = nI i → ¬ aRw I (vPoss I) (vGn I) (vSy I i) (vTw I) = 0 → ∀ I', tSt I I' (fun w => vPoss I w ∧ ¬ aRw I (vPoss I) (vGn I) (vSy I i) w = 0) (vGn I) → I' 160 39 = I 160 39 → K (nI (cP (fun w => vPoss I w ∧ aRw I (vPoss I) (vGn I) (vSy I i) w = 0) (vN I))) I' L P) : zMi zm_X12_saying d [.ref 160, .int x] I L P K := by
  obtain ⟨tb, ts⟩ := MSc_t hS
  have hns := hS.2.2.1.1
  by_cases h : ∃ i, i < vNs I ∧ x = nI i
  · obtain ⟨i, hi, rfl⟩ := h
    exact t_saying hP tb ts hi hd (fun q I' h1 h2 => k1 i hi rfl q I' h1 (h2.2 39 (by decide))) (fun q I' h1 h2 _ => k i hi rfl q I' h1 (h2.2 39 (by decide)))
  · obtain ⟨d, rfl⟩ : ∃ e, d = e + 1 := ⟨d - 1, by omega⟩
    have hE := hS.1
    have e165 : I 165 (I 160 28).toNatClampNeg = nI (vNs I) := hS.2.2.1.2.1
    refine g_X12_saying hP ⟨by rw [hE.1.1.2]; exact nx_in hE.1.1.1 (by decide), fun q => ?_, fun q => qi (k0 h)⟩
    rw [e165, bP_c (isIn_iff (by omega)), bP_n] at q
    exact absurd (vp_nI q (by omega)) h
abbrev gw_X12_image (d : Nat) (Q : zQt) (pc : Nat) (lv : zV) (st : List Value) (I : zI) (L : zL) (P : zP) : Prop := zW zm_X12_image (zRm d 0 0) 0 0 Q pc lv st I L P 205 0 0
abbrev v_X12_image (d : Nat) (Q : zQt) (p1 : Int32) (I : zI) (L : zL) (P : zP) : Prop :=
  ((¬ (bP (¬ p1 < 0 ∧ ¬ 2 < p1)) = 0 →
    zMv zm_X12_keep d [.ref 160, .int p1] I L P (fun I4 L5 P6 =>
      Q (some (.int (I4 160 39))) I4 L5 P6 205
    )
  ) ∧ ((bP (¬ p1 < 0 ∧ ¬ 2 < p1)) = 0 →
    Q (some (.int (-1))) I L P 205
  ))
set_option maxRecDepth 20000 in
theorem g_X12_image {d : Nat} {Q : zQt} {p1 : Int32} {I : zI} {L : zL} {P : zP} (hP : zPk P) (hv : v_X12_image d Q p1 I L P) : zM zm_X12_image (d + 1) 0 0 [.ref 160, .int p1] I L P 205 Q := by
  unfold v_X12_image at hv
  refine zM_of (lv0 := [some (.ref 160), some (.int p1)]) (by decide +kernel) (Nat.le_of_ble_eq_true rfl) rfl ?_
  refine z_iload_n dX12_image_0 rfl ?_
  refine z_iconst (v := 0) dX12_image_1 (by decide) ?_
  refine z_iconst (v := 2) dX12_image_2 (by decide) ?_
  refine z_callS (As := [.int p1, .int 0, .int 2]) (st := []) dX12_image_3 zl_X12_342 zs_X12_isIn rfl rfl (Nat.le_of_ble_eq_true rfl) ⟨Nat.le_refl _, Nat.le_refl _⟩ ⟨Nat.le_refl _, Nat.le_refl _⟩ (sp_X12_isIn hP (K := fun r I' L' P' => bP (¬ p1 < 0 ∧ ¬ 2 < p1) = r ∧ I = I' ∧ L = L' ∧ P = P') ⟨rfl, rfl, rfl, rfl⟩) (fun v1 I2 L2 P2 nx1 q2 => ?_)
  obtain ⟨rfl, r1, rfl, rfl, rfl, rfl, rfl⟩ := q2
  refine z_if_ne (tgt := 11) dX12_image_6 (by decide) (fun q3 => ?_) (fun q3 => ?_)
  · have hv := hv.1 q3
    refine z_aload_n dX12_image_11 rfl ?_
    refine z_iload_n dX12_image_12 rfl ?_
    refine z_callV (As := [.int p1]) (st := []) dX12_image_13 zl_X12_428 zv_X12_keep (by decide) rfl zn_160 zo_160 rfl rfl (Nat.le_of_ble_eq_true rfl) ⟨Nat.le_refl _, Nat.le_refl _⟩ ⟨Nat.le_refl _, Nat.le_refl _⟩ hv (fun v1 I4 L5 P6 nx1 q7 => ?_)
    obtain ⟨rfl, rfl, hv⟩ := q7
    refine z_aload_n dX12_image_16 rfl ?_
    refine z_getI dX12_image_17 zf_X12_356 zn_160 zo_160 (fun _ _ _ _ _ => rfl) ?_
    exact z_ireturn dX12_image_20 rfl rfl (Nat.le_refl _) (Nat.le_refl _) hv
  · have hv := hv.2 q3
    refine z_iconst (v := (-1)) dX12_image_9 (by decide) ?_
    exact z_ireturn dX12_image_10 rfl rfl (Nat.le_refl _) (Nat.le_refl _) hv
theorem sp_X12_image {d : Nat} {I : zI} {L : zL} {P : zP} {x : Int32} (hP : zPk P) (hS : MSc I) (hd : 1 ≤ d) {K : Int32 → zI → zL → zP → Prop}
    (k0 : (¬ ∃ b, b < 3 ∧ x = nI b) → K (-1) I L P)
    (k : ∀ b, b < 3 → x = nI b → ∀ I', zFr [199, 200, 201, 202, 203, 204] [] I I' → bHd I' b I → bOt I I' b → K (I 160 39) I' L P) : zMi zm_X12_image d [.ref 160, .int x] I L P K := by
  obtain ⟨d, rfl⟩ : ∃ e, d = e + 1 := ⟨d - 1, by omega⟩
  refine g_X12_image hP ⟨fun q => ?_, fun q => qi (k0 ?_)⟩
  · obtain ⟨b, -, hb, rfl⟩ := (rg_iff (lo := 0) (hi := 2) (by decide) (by decide)).mp (bP_n.mp q)
    refine sp_X12_keep (b := b) hP (by omega) hS.2.2.2.2.1 (fun I' a1 a2 a3 => qi ?_)
    rw [a1.2 39 (by decide)]
    exact k b (by omega) rfl I' a1 a2 a3
  · rintro ⟨b, hb, rfl⟩
    exact bP_0.mp q ((rg_iff (lo := 0) (hi := 2) (by decide) (by decide)).mpr ⟨b, by omega, by omega, rfl⟩)
abbrev gw_X12_back (d : Nat) (Q : zQt) (pc : Nat) (lv : zV) (st : List Value) (I : zI) (L : zL) (P : zP) : Prop := zW zm_X12_back (zRm d 0 0) 0 0 Q pc lv st I L P 205 0 0
abbrev v_X12_back (d : Nat) (Q : zQt) (p1 : Int32) (I : zI) (L : zL) (P : zP) : Prop :=
  (((bP (¬ p1 < 0 ∧ ¬ 2 < p1)) = 0 →
    Q (some (.int (-1))) I L P 205
  ) ∧ (¬ (bP (¬ p1 < 0 ∧ ¬ 2 < p1)) = 0 →
    vp_in p1 4 ∧
    ((0 ≤ (I 199 p1.toNatClampNeg) →
      zMv zm_X12_bring d [.ref 160, .int p1] I L P (fun I6 L7 P8 =>
        Q (some (.int (I6 160 39))) I6 L7 P8 205
      )
    ) ∧ (¬ 0 ≤ (I 199 p1.toNatClampNeg) →
      Q (some (.int (-1))) I L P 205
    ))
  ))
set_option maxRecDepth 20000 in
theorem g_X12_back {d : Nat} {Q : zQt} {p1 : Int32} {I : zI} {L : zL} {P : zP} (hP : zPk P) (hv : v_X12_back d Q p1 I L P) : zM zm_X12_back (d + 1) 0 0 [.ref 160, .int p1] I L P 205 Q := by
  unfold v_X12_back at hv
  refine zM_of (lv0 := [some (.ref 160), some (.int p1)]) (by decide +kernel) (Nat.le_of_ble_eq_true rfl) rfl ?_
  refine z_iload_n dX12_back_0 rfl ?_
  refine z_iconst (v := 0) dX12_back_1 (by decide) ?_
  refine z_iconst (v := 2) dX12_back_2 (by decide) ?_
  refine z_callS (As := [.int p1, .int 0, .int 2]) (st := []) dX12_back_3 zl_X12_342 zs_X12_isIn rfl rfl (Nat.le_of_ble_eq_true rfl) ⟨Nat.le_refl _, Nat.le_refl _⟩ ⟨Nat.le_refl _, Nat.le_refl _⟩ (sp_X12_isIn hP (K := fun r I' L' P' => bP (¬ p1 < 0 ∧ ¬ 2 < p1) = r ∧ I = I' ∧ L = L' ∧ P = P') ⟨rfl, rfl, rfl, rfl⟩) (fun v1 I2 L2 P2 nx1 q2 => ?_)
  obtain ⟨rfl, r1, rfl, rfl, rfl, rfl, rfl⟩ := q2
  refine z_if_eq (tgt := 18) dX12_back_6 (by decide) (fun q3 => ?_) (fun q3 => ?_)
  · have hv := hv.1 q3
    refine z_iconst (v := (-1)) dX12_back_18 (by decide) ?_
    exact z_ireturn dX12_back_19 rfl rfl (Nat.le_refl _) (Nat.le_refl _) hv
  · have hv := hv.2 q3
    refine z_aload_n dX12_back_9 rfl ?_
    refine z_getP dX12_back_10 zf_X12_131 zn_160 zo_160 (fun _ _ _ _ _ => rfl) (hP 160 62 199 zp_160_62) ?_
    refine z_iload_n dX12_back_13 rfl ?_
    obtain ⟨h4, hv⟩ := hv
    refine z_iaload dX12_back_14 zn_199 zh_199 h4 ?_
    refine z_if_ge (tgt := 20) dX12_back_15 (by decide) (fun q5 => ?_) (fun q5 => ?_)
    · have hv := hv.1 q5
      refine z_aload_n dX12_back_20 rfl ?_
      refine z_iload_n dX12_back_21 rfl ?_
      refine z_callV (As := [.int p1]) (st := []) dX12_back_22 zl_X12_431 zv_X12_bring (by decide) rfl zn_160 zo_160 rfl rfl (Nat.le_of_ble_eq_true rfl) ⟨Nat.le_refl _, Nat.le_refl _⟩ ⟨Nat.le_refl _, Nat.le_refl _⟩ hv (fun v1 I6 L7 P8 nx1 q9 => ?_)
      obtain ⟨rfl, rfl, hv⟩ := q9
      refine z_aload_n dX12_back_25 rfl ?_
      refine z_getI dX12_back_26 zf_X12_356 zn_160 zo_160 (fun _ _ _ _ _ => rfl) ?_
      exact z_ireturn dX12_back_29 rfl rfl (Nat.le_refl _) (Nat.le_refl _) hv
    · have hv := hv.2 q5
      refine z_iconst (v := (-1)) dX12_back_18 (by decide) ?_
      exact z_ireturn dX12_back_19 rfl rfl (Nat.le_refl _) (Nat.le_refl _) hv
theorem sp_X12_back {d : Nat} {I : zI} {L : zL} {P : zP} {x : Int32} (hP : zPk P) (hd : 1 ≤ d) (hZ : ∀ b, b < 3 → 0 ≤ I 199 b → MZb I b) {K : Int32 → zI → zL → zP → Prop}
    (k0 : (¬ ∃ b, b < 3 ∧ x = nI b ∧ 0 ≤ I 199 b) → K (-1) I L P)
    (k : ∀ b, b < 3 → x = nI b → 0 ≤ I 199 b → ∀ I', zFr [180, 181, 182] [38, 39, 40, 46] I I' → bHd I b I' → I' 160 46 = 0 → K (I 199 b) I' L P) : zMi zm_X12_back d [.ref 160, .int x] I L P K := by
  obtain ⟨d, rfl⟩ : ∃ e, d = e + 1 := ⟨d - 1, by omega⟩
  refine g_X12_back hP ⟨fun q => qi (k0 ?_), fun q => ?_⟩
  · rintro ⟨b, hb, rfl, -⟩
    exact bP_0.mp q ((rg_iff (lo := 0) (hi := 2) (by decide) (by decide)).mpr ⟨b, by omega, by omega, rfl⟩)
  · obtain ⟨b, -, hb, rfl⟩ := (rg_iff (lo := 0) (hi := 2) (by decide) (by decide)).mp (bP_n.mp q)
    refine ⟨nx_in (by omega) (by decide), fun q2 => ?_, fun q2 => qi (k0 ?_)⟩
    · rw [nI_cl (by omega)] at q2
      refine sp_X12_bring (b := b) hP (by omega) (hZ b (by omega) q2) (fun I' a1 a2 a3 a4 => qi ?_)
      rw [← a2.1]
      exact k b (by omega) rfl q2 I' a1 a2 a3
    · rw [nI_cl (by omega)] at q2
      rintro ⟨b', hb', e, h⟩
      have : b = b' := (nI_eq (by omega) (by omega)).mp e
      subst this
      exact q2 h
abbrev gw_X12_about (d : Nat) (Q : zQt) (pc : Nat) (lv : zV) (st : List Value) (I : zI) (L : zL) (P : zP) : Prop := zW zm_X12_about (zRm d 0 0) 0 0 Q pc lv st I L P 205 0 0
abbrev v_X12_about (d : Nat) (Q : zQt) (p1 : Int32) (I : zI) (L : zL) (P : zP) : Prop :=
  (p1 = 0 →
    MB I ∧
    Q (some (.int (nI (vNp I)))) I L P 205
  ) ∧
  (p1 = 1 →
    vp_in (I 160 28) 2 ∧
    Q (some (.int (I 165 (I 160 28).toNatClampNeg))) I L P 205
  ) ∧
  (p1 = 2 →
    MB I ∧
    MT I ∧
    Q (some (.int (nI (vTw I)))) I L P 205
  ) ∧
  (p1 = 3 →
    Q (some (.int (I 160 39))) I L P 205
  ) ∧
  (p1 = 4 →
    Q (some (.int (I 160 38))) I L P 205
  ) ∧
  (p1 = 5 →
    Q (some (.int (I 160 59))) I L P 205
  ) ∧
  (p1 = 6 →
    Q (some (.int (I 160 60))) I L P 205
  ) ∧
  (p1 = 7 →
    Q (some (.int (I 160 2))) I L P 205
  ) ∧
  (p1 = 8 →
    vp_in (I 160 28) 3 ∧
    Q (some (.int (I 166 (I 160 28).toNatClampNeg))) I L P 205
  ) ∧
  (¬ p1 = 0 → ¬ p1 = 1 → ¬ p1 = 2 → ¬ p1 = 3 → ¬ p1 = 4 → ¬ p1 = 5 → ¬ p1 = 6 → ¬ p1 = 7 → ¬ p1 = 8 →
    Q (some (.int (-1))) I L P 205
  )
set_option maxRecDepth 20000 in
theorem g_X12_about {d : Nat} {Q : zQt} {p1 : Int32} {I : zI} {L : zL} {P : zP} (hP : zPk P) (hv : v_X12_about d Q p1 I L P) : zM zm_X12_about (d + 1) 0 0 [.ref 160, .int p1] I L P 205 Q := by
  unfold v_X12_about at hv
  refine zM_of (lv0 := [some (.ref 160), some (.int p1)]) (by decide +kernel) (Nat.le_of_ble_eq_true rfl) rfl ?_
  refine z_iload_n dX12_about_0 rfl ?_
  by_cases q10 : p1 = 0
  · have hv := hv.1 q10
    refine z_tableIn (off := 51) (tgt := 52) dX12_about_1 (by rw [q10]; decide) (by rw [q10]; decide) (by rw [q10]; decide) (by decide) ?_
    refine z_aload_n dX12_about_52 rfl ?_
    obtain ⟨h1, hv⟩ := hv
    refine z_callV (As := []) (st := []) dX12_about_53 zl_X12_339 zv_X12_manyOf (by decide) rfl zn_160 zo_160 rfl rfl (Nat.le_of_ble_eq_true rfl) ⟨Nat.le_refl _, Nat.le_refl _⟩ ⟨Nat.le_refl _, Nat.le_refl _⟩ (sp_X12_manyOf hP h1 (K := fun r I' L' P' => nI (vNp I) = r ∧ I = I' ∧ L = L' ∧ P = P') ⟨rfl, rfl, rfl, rfl⟩) (fun v1 I2 L2 P2 nx1 q3 => ?_)
    obtain ⟨rfl, r2, rfl, rfl, rfl, rfl, rfl⟩ := q3
    exact z_ireturn dX12_about_56 rfl rfl (Nat.le_refl _) (Nat.le_refl _) hv
  by_cases q11 : p1 = 1
  · have hv := hv.2.1 q11
    refine z_tableIn (off := 56) (tgt := 57) dX12_about_1 (by rw [q11]; decide) (by rw [q11]; decide) (by rw [q11]; decide) (by decide) ?_
    refine z_aload_n dX12_about_57 rfl ?_
    refine z_getP dX12_about_58 zf_X12_27 zn_160 zo_160 (fun _ _ _ _ _ => rfl) (hP 160 13 165 zp_160_13) ?_
    refine z_aload_n dX12_about_61 rfl ?_
    refine z_getI dX12_about_62 zf_X12_261 zn_160 zo_160 (fun _ _ _ _ _ => rfl) ?_
    obtain ⟨h4, hv⟩ := hv
    refine z_iaload dX12_about_65 zn_165 zh_165 h4 ?_
    exact z_ireturn dX12_about_66 rfl rfl (Nat.le_refl _) (Nat.le_refl _) hv
  by_cases q12 : p1 = 2
  · have hv := hv.2.2.1 q12
    refine z_tableIn (off := 66) (tgt := 67) dX12_about_1 (by rw [q12]; decide) (by rw [q12]; decide) (by rw [q12]; decide) (by decide) ?_
    refine z_aload_n dX12_about_67 rfl ?_
    obtain ⟨h5, hv⟩ := hv
    obtain ⟨h6, hv⟩ := hv
    refine z_callV (As := []) (st := []) dX12_about_68 zl_X12_410 zv_X12_theTrue (by decide) rfl zn_160 zo_160 rfl rfl (Nat.le_of_ble_eq_true rfl) ⟨Nat.le_refl _, Nat.le_refl _⟩ ⟨Nat.le_refl _, Nat.le_refl _⟩ (sp_X12_theTrue hP h5 h6 (K := fun r I' L' P' => nI (vTw I) = r ∧ I = I' ∧ L = L' ∧ P = P') ⟨rfl, rfl, rfl, rfl⟩) (fun v1 I2 L2 P2 nx1 q8 => ?_)
    obtain ⟨rfl, r7, rfl, rfl, rfl, rfl, rfl⟩ := q8
    exact z_ireturn dX12_about_71 rfl rfl (Nat.le_refl _) (Nat.le_refl _) hv
  by_cases q13 : p1 = 3
  · have hv := hv.2.2.2.1 q13
    refine z_tableIn (off := 71) (tgt := 72) dX12_about_1 (by rw [q13]; decide) (by rw [q13]; decide) (by rw [q13]; decide) (by decide) ?_
    refine z_aload_n dX12_about_72 rfl ?_
    refine z_getI dX12_about_73 zf_X12_356 zn_160 zo_160 (fun _ _ _ _ _ => rfl) ?_
    exact z_ireturn dX12_about_76 rfl rfl (Nat.le_refl _) (Nat.le_refl _) hv
  by_cases q14 : p1 = 4
  · have hv := hv.2.2.2.2.1 q14
    refine z_tableIn (off := 76) (tgt := 77) dX12_about_1 (by rw [q14]; decide) (by rw [q14]; decide) (by rw [q14]; decide) (by decide) ?_
    refine z_aload_n dX12_about_77 rfl ?_
    refine z_getI dX12_about_78 zf_X12_353 zn_160 zo_160 (fun _ _ _ _ _ => rfl) ?_
    exact z_ireturn dX12_about_81 rfl rfl (Nat.le_refl _) (Nat.le_refl _) hv
  by_cases q15 : p1 = 5
  · have hv := hv.2.2.2.2.2.1 q15
    refine z_tableIn (off := 81) (tgt := 82) dX12_about_1 (by rw [q15]; decide) (by rw [q15]; decide) (by rw [q15]; decide) (by decide) ?_
    refine z_aload_n dX12_about_82 rfl ?_
    refine z_getI dX12_about_83 zf_X12_267 zn_160 zo_160 (fun _ _ _ _ _ => rfl) ?_
    exact z_ireturn dX12_about_86 rfl rfl (Nat.le_refl _) (Nat.le_refl _) hv
  by_cases q16 : p1 = 6
  · have hv := hv.2.2.2.2.2.2.1 q16
    refine z_tableIn (off := 86) (tgt := 87) dX12_about_1 (by rw [q16]; decide) (by rw [q16]; decide) (by rw [q16]; decide) (by decide) ?_
    refine z_aload_n dX12_about_87 rfl ?_
    refine z_getI dX12_about_88 zf_X12_441 zn_160 zo_160 (fun _ _ _ _ _ => rfl) ?_
    exact z_ireturn dX12_about_91 rfl rfl (Nat.le_refl _) (Nat.le_refl _) hv
  by_cases q17 : p1 = 7
  · have hv := hv.2.2.2.2.2.2.2.1 q17
    refine z_tableIn (off := 91) (tgt := 92) dX12_about_1 (by rw [q17]; decide) (by rw [q17]; decide) (by rw [q17]; decide) (by decide) ?_
    refine z_aload_n dX12_about_92 rfl ?_
    refine z_getI dX12_about_93 zf_X12_255 zn_160 zo_160 (fun _ _ _ _ _ => rfl) ?_
    exact z_ireturn dX12_about_96 rfl rfl (Nat.le_refl _) (Nat.le_refl _) hv
  by_cases q18 : p1 = 8
  · have hv := hv.2.2.2.2.2.2.2.2.1 q18
    refine z_tableIn (off := 96) (tgt := 97) dX12_about_1 (by rw [q18]; decide) (by rw [q18]; decide) (by rw [q18]; decide) (by decide) ?_
    refine z_aload_n dX12_about_97 rfl ?_
    refine z_getP dX12_about_98 zf_X12_30 zn_160 zo_160 (fun _ _ _ _ _ => rfl) (hP 160 14 166 zp_160_14) ?_
    refine z_aload_n dX12_about_101 rfl ?_
    refine z_getI dX12_about_102 zf_X12_261 zn_160 zo_160 (fun _ _ _ _ _ => rfl) ?_
    obtain ⟨h9, hv⟩ := hv
    refine z_iaload dX12_about_105 zn_166 zh_166 h9 ?_
    exact z_ireturn dX12_about_106 rfl rfl (Nat.le_refl _) (Nat.le_refl _) hv
  have hv := hv.2.2.2.2.2.2.2.2.2 q10 q11 q12 q13 q14 q15 q16 q17 q18
  have tq10 := lv_neT q10 (show (0 : Int32).toInt = 0 by decide)
  have tq11 := lv_neT q11 (show (1 : Int32).toInt = 1 by decide)
  have tq12 := lv_neT q12 (show (2 : Int32).toInt = 2 by decide)
  have tq13 := lv_neT q13 (show (3 : Int32).toInt = 3 by decide)
  have tq14 := lv_neT q14 (show (4 : Int32).toInt = 4 by decide)
  have tq15 := lv_neT q15 (show (5 : Int32).toInt = 5 by decide)
  have tq16 := lv_neT q16 (show (6 : Int32).toInt = 6 by decide)
  have tq17 := lv_neT q17 (show (7 : Int32).toInt = 7 by decide)
  have tq18 := lv_neT q18 (show (8 : Int32).toInt = 8 by decide)
  refine z_tableOut (tgt := 107) dX12_about_1 (by omega) (by decide) ?_
  refine z_iconst (v := (-1)) dX12_about_107 (by decide) ?_
  exact z_ireturn dX12_about_108 rfl rfl (Nat.le_refl _) (Nat.le_refl _) hv
/-- what about answers -/
noncomputable def aAb (I : zI) (x : Int32) : Int32 := if x = 0 then nI (vNp I) else if x = 1 then nI (vNs I) else if x = 2 then nI (vTw I) else if x = 3 then I 160 39 else if x = 4 then I 160 38 else if x = 5 then I 160 59 else if x = 6 then I 160 60 else if x = 7 then I 160 2 else if x = 8 then I 166 (vB I) else -1
theorem sp_X12_about {d : Nat} {I : zI} {L : zL} {P : zP} {x : Int32} (hP : zPk P) (hS : MSc I) (hd : 2 ≤ d) {K : Int32 → zI → zL → zP → Prop} (k : K (aAb I x) I L P) : zMi zm_X12_about d [.ref 160, .int x] I L P K := by
  obtain ⟨d, rfl⟩ : ∃ e, d = e + 1 := ⟨d - 1, by omega⟩
  obtain ⟨hE, hT, hC, -⟩ := hS
  have hb : vp_in (I 160 28) 2 := by rw [hE.1.1.2]; exact nx_in hE.1.1.1 (by decide)
  have hb3 : vp_in (I 160 28) 3 := by rw [hE.1.1.2]; exact nx_in (by have := hE.1.1.1; omega) (by decide)
  refine g_X12_about hP ⟨fun q => ⟨hE.1, qi ?_⟩, fun q => ⟨hb, qi ?_⟩, fun q => ⟨hE.1, hT, qi ?_⟩, fun q => qi ?_, fun q => qi ?_, fun q => qi ?_, fun q => qi ?_, fun q => qi ?_, fun q => ⟨hb3, qi ?_⟩, fun q0 q1 q2 q3 q4 q5 q6 q7 q8 => qi ?_⟩
  · subst q; exact k
  · subst q; rw [show I 165 (I 160 28).toNatClampNeg = nI (vNs I) from hC.2.1]; exact k
  · subst q; exact k
  · subst q; exact k
  · subst q; exact k
  · subst q; exact k
  · subst q; exact k
  · subst q; exact k
  · subst q; exact k
  · unfold aAb at k; rw [if_neg q0, if_neg q1, if_neg q2, if_neg q3, if_neg q4, if_neg q5, if_neg q6, if_neg q7, if_neg q8] at k; exact k
