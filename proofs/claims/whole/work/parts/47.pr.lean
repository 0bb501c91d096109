/-! ===== the model: whisper ===== -/
abbrev gw_X12_whisper (d : Nat) (Q : zQt) (pc : Nat) (lv : zV) (st : List Value) (I : zI) (L : zL) (P : zP) : Prop := zW zm_X12_whisper (zRm d 0 0) 0 0 Q pc lv st I L P 205 0 0
abbrev v_X12_whisper_43 (d : Nat) (Q : zQt) (p1 : Int32) (x2 : Int32) (I : zI) (L : zL) (P : zP) : Prop :=
  MB I ∧
  (((nI (vN I)) ≤ x2 →
    vp_in (I 160 38) 8 ∧
    ∀ I25 : zI, I25 = zuI I 182 (I 160 38).toNatClampNeg p1 →
    ∀ I26 : zI, I26 = zuI I25 160 38 ((I25 160 38) + 1) →
    ∀ I28 : zI, I28 = zuI I26 160 46 0 →
    MB I28 ∧
    MT I28 ∧
    vp_in (nI (vTw I28)) 12288 ∧
    (((I28 183 (nI (vTw I28)).toNatClampNeg) = 0 →
      Q (some (.int 0)) I28 L P 205
    ) ∧ (¬ (I28 183 (nI (vTw I28)).toNatClampNeg) = 0 →
      Q (some (.int 1)) I28 L P 205
    ))
  ) ∧ (¬ (nI (vN I)) ≤ x2 →
    vp_in x2 12288 ∧
    (((I 183 x2.toNatClampNeg) = 0 →
      vp_in (((256 : Int32) * (I 160 38)) + x2) 2048 ∧
      ∀ I40 : zI, I40 = zuI I 181 (((256 : Int32) * (I 160 38)) + x2).toNatClampNeg 0 →
      gw_X12_whisper (d + 1) Q 43 [some (.ref 160), some (.int p1), some (.int (x2 + 1))] [] I40 L P
    ) ∧ (¬ (I 183 x2.toNatClampNeg) = 0 →
      vp_in (((256 : Int32) * (I 160 38)) + x2) 2048 ∧
      ∀ I43 : zI, I43 = zuI I 181 (((256 : Int32) * (I 160 38)) + x2).toNatClampNeg 1 →
      gw_X12_whisper (d + 1) Q 43 [some (.ref 160), some (.int p1), some (.int (x2 + 1))] [] I43 L P
    ))
  ))
set_option maxRecDepth 20000 in
theorem g_X12_whisper_43 {d : Nat} {Q : zQt} {p1 : Int32} {x2 : Int32} {I : zI} {L : zL} {P : zP} (hP : zPk P) (hd : 1 ≤ d) (hv : v_X12_whisper_43 d Q p1 x2 I L P) : gw_X12_whisper (d + 1) Q 43 [some (.ref 160), some (.int p1), some (.int x2)] [] I L P := by
  unfold v_X12_whisper_43 at hv
  refine z_iload_n dX12_whisper_43 rfl ?_
  refine z_aload_n dX12_whisper_44 rfl ?_
  obtain ⟨h19, hv⟩ := hv
  refine z_callV (As := []) (st := [.int x2]) dX12_whisper_45 zl_X12_346 zv_X12_worldMany (by decide) rfl zn_160 zo_160 rfl rfl (Nat.le_of_ble_eq_true rfl) ⟨Nat.le_refl _, Nat.le_refl _⟩ ⟨Nat.le_refl _, Nat.le_refl _⟩ (sp_X12_worldMany hP h19 (by omega) (K := fun r I' L' P' => nI (vN I) = r ∧ I = I' ∧ L = L' ∧ P = P') ⟨rfl, rfl, rfl, rfl⟩) (fun v1 I2 L2 P2 nx1 q21 => ?_)
  obtain ⟨rfl, r20, rfl, rfl, rfl, rfl, rfl⟩ := q21
  refine z_icmp_ge (tgt := 86) dX12_whisper_48 (by decide) (fun q22 => ?_) (fun q22 => ?_)
  · have hv := hv.1 q22
    refine z_aload_n dX12_whisper_86 rfl ?_
    refine z_getP dX12_whisper_87 zf_X12_80 zn_160 zo_160 (fun _ _ _ _ _ => rfl) (hP 160 37 182 zp_160_37) ?_
    refine z_aload_n dX12_whisper_90 rfl ?_
    refine z_getI dX12_whisper_91 zf_X12_353 zn_160 zo_160 (fun _ _ _ _ _ => rfl) ?_
    refine z_iload_n dX12_whisper_94 rfl ?_
    obtain ⟨h23, hv⟩ := hv
    refine z_iastore dX12_whisper_95 zn_182 zh_182 h23 (z_nmI (fun I25 e24 => ?_))
    have hv := hv I25 e24
    refine z_aload_n dX12_whisper_96 rfl ?_
    refine z_dup dX12_whisper_97 rfl ?_
    refine z_getI dX12_whisper_98 zf_X12_353 zn_160 zo_160 (fun _ _ _ _ _ => rfl) ?_
    refine z_iconst (v := 1) dX12_whisper_101 (by decide) ?_
    refine z_iadd dX12_whisper_102 ?_
    refine z_putI dX12_whisper_103 zf_X12_353 zn_160 zo_160 (Or.inl rfl) (fun _ _ _ _ _ => rfl) rfl rfl (z_nmI (fun I26 e27 => ?_))
    have hv := hv I26 e27
    refine z_aload_n dX12_whisper_106 rfl ?_
    refine z_iconst (v := 0) dX12_whisper_107 (by decide) ?_
    refine z_putI dX12_whisper_108 zf_X12_349 zn_160 zo_160 (Or.inl rfl) (fun _ _ _ _ _ => rfl) (by decide) (by decide) (z_nmI (fun I28 e29 => ?_))
    have hv := hv I28 e29
    refine z_aload_n dX12_whisper_111 rfl ?_
    refine z_getP dX12_whisper_112 zf_X12_83 zn_160 zo_160 (fun _ _ _ _ _ => rfl) (hP 160 41 183 zp_160_41) ?_
    refine z_aload_n dX12_whisper_115 rfl ?_
    obtain ⟨h30, hv⟩ := hv
    obtain ⟨h31, hv⟩ := hv
    refine z_callV (As := []) (st := [.ref 183]) dX12_whisper_116 zl_X12_410 zv_X12_theTrue (by decide) rfl zn_160 zo_160 rfl rfl (Nat.le_of_ble_eq_true rfl) ⟨Nat.le_refl _, Nat.le_refl _⟩ ⟨Nat.le_refl _, Nat.le_refl _⟩ (sp_X12_theTrue hP h30 h31 (K := fun r I' L' P' => nI (vTw I28) = r ∧ I28 = I' ∧ L = L' ∧ P = P') ⟨rfl, rfl, rfl, rfl⟩) (fun v1 I2 L2 P2 nx1 q33 => ?_)
    obtain ⟨rfl, r32, rfl, rfl, rfl, rfl, rfl⟩ := q33
    obtain ⟨h34, hv⟩ := hv
    refine z_iaload dX12_whisper_119 zn_183 zh_183 h34 ?_
    refine z_if_eq (tgt := 127) dX12_whisper_120 (by decide) (fun q35 => ?_) (fun q35 => ?_)
    · have hv := hv.1 q35
      refine z_iconst (v := 0) dX12_whisper_127 (by decide) ?_
      exact z_ireturn dX12_whisper_128 rfl rfl (Nat.le_refl _) (Nat.le_refl _) hv
    · have hv := hv.2 q35
      refine z_iconst (v := 1) dX12_whisper_123 (by decide) ?_
      refine z_goto (tgt := 128) dX12_whisper_124 (by decide) ?_
      exact z_ireturn dX12_whisper_128 rfl rfl (Nat.le_refl _) (Nat.le_refl _) hv
  · have hv := hv.2 q22
    refine z_aload_n dX12_whisper_51 rfl ?_
    refine z_getP dX12_whisper_52 zf_X12_77 zn_160 zo_160 (fun _ _ _ _ _ => rfl) (hP 160 36 181 zp_160_36) ?_
    refine z_sipush (v := 256) dX12_whisper_55 (by decide) ?_
    refine z_aload_n dX12_whisper_58 rfl ?_
    refine z_getI dX12_whisper_59 zf_X12_353 zn_160 zo_160 (fun _ _ _ _ _ => rfl) ?_
    refine z_imul dX12_whisper_62 ?_
    refine z_iload_n dX12_whisper_63 rfl ?_
    refine z_iadd dX12_whisper_64 ?_
    refine z_aload_n dX12_whisper_65 rfl ?_
    refine z_getP dX12_whisper_66 zf_X12_83 zn_160 zo_160 (fun _ _ _ _ _ => rfl) (hP 160 41 183 zp_160_41) ?_
    refine z_iload_n dX12_whisper_69 rfl ?_
    obtain ⟨h36, hv⟩ := hv
    refine z_iaload dX12_whisper_70 zn_183 zh_183 h36 ?_
    refine z_if_eq (tgt := 78) dX12_whisper_71 (by decide) (fun q37 => ?_) (fun q37 => ?_)
    · have hv := hv.1 q37
      refine z_iconst (v := 0) dX12_whisper_78 (by decide) ?_
      obtain ⟨h38, hv⟩ := hv
      refine z_zastore (w := 0) dX12_whisper_79 zn_181 zh_181 h38 (by decide) (z_nmI (fun I40 e39 => ?_))
      have hv := hv I40 e39
      refine z_iinc (v2 := x2 + 1) (lv2 := [some (.ref 160), some (.int p1), some (.int (x2 + 1))]) dX12_whisper_80 rfl (by rfl) (by decide) rfl rfl ?_
      refine z_goto (tgt := 43) dX12_whisper_83 (by decide) ?_
      exact hv
    · have hv := hv.2 q37
      refine z_iconst (v := 1) dX12_whisper_74 (by decide) ?_
      refine z_goto (tgt := 79) dX12_whisper_75 (by decide) ?_
      obtain ⟨h41, hv⟩ := hv
      refine z_zastore (w := 1) dX12_whisper_79 zn_181 zh_181 h41 (by decide) (z_nmI (fun I43 e42 => ?_))
      have hv := hv I43 e42
      refine z_iinc (v2 := x2 + 1) (lv2 := [some (.ref 160), some (.int p1), some (.int (x2 + 1))]) dX12_whisper_80 rfl (by rfl) (by decide) rfl rfl ?_
      refine z_goto (tgt := 43) dX12_whisper_83 (by decide) ?_
      exact hv
abbrev v_X12_whisper (d : Nat) (Q : zQt) (p1 : Int32) (I : zI) (L : zL) (P : zP) : Prop :=
  zMi zm_X12_readAlone d [.ref 160] I L P (fun r5 I1 L2 P3 =>
    ((r5 = 0 →
      Q (some (.int (-1))) I1 L2 P3 205
    ) ∧ (¬ r5 = 0 →
      ((p1 < 0 →
        Q (some (.int (-1))) I1 L2 P3 205
      ) ∧ (¬ p1 < 0 →
        zPk P3 ∧
        MB I1 ∧
        (((nI (vN I1)) ≤ p1 →
          Q (some (.int (-1))) I1 L2 P3 205
        ) ∧ (¬ (nI (vN I1)) ≤ p1 →
          ((¬ (I1 160 38) = 8 →
            zMv zm_X12_work d [.ref 160, .int 1400, .int (I1 160 32)] I1 L2 P3 (fun I14 L15 P16 =>
              gw_X12_whisper (d + 1) Q 43 [some (.ref 160), some (.int p1), some (.int 0)] [] I14 L15 P16
            )
          ) ∧ ((I1 160 38) = 8 →
            Q (some (.int (-1))) I1 L2 P3 205
          ))
        ))
      ))
    ))
  )
set_option maxRecDepth 20000 in
theorem g_X12_whisper {d : Nat} {Q : zQt} {p1 : Int32} {I : zI} {L : zL} {P : zP} (hP : zPk P) (hd : 1 ≤ d) (hv : v_X12_whisper d Q p1 I L P) : zM zm_X12_whisper (d + 1) 0 0 [.ref 160, .int p1] I L P 205 Q := by
  unfold v_X12_whisper at hv
  refine zM_of (lv0 := [some (.ref 160), some (.int p1), none]) (by decide +kernel) (Nat.le_of_ble_eq_true rfl) rfl ?_
  refine z_aload_n dX12_whisper_0 rfl ?_
  refine z_callV (As := []) (st := []) dX12_whisper_1 zl_X12_403 zv_X12_readAlone (by decide) rfl zn_160 zo_160 rfl rfl (Nat.le_of_ble_eq_true rfl) ⟨Nat.le_refl _, Nat.le_refl _⟩ ⟨Nat.le_refl _, Nat.le_refl _⟩ hv (fun v1 I1 L2 P3 nx1 q4 => ?_)
  obtain ⟨rfl, r5, rfl, hv⟩ := q4
  refine z_if_eq (tgt := 28) dX12_whisper_4 (by decide) (fun q6 => ?_) (fun q6 => ?_)
  · have hv := hv.1 q6
    refine z_iconst (v := (-1)) dX12_whisper_28 (by decide) ?_
    exact z_ireturn dX12_whisper_29 rfl rfl (Nat.le_refl _) (Nat.le_refl _) hv
  · have hv := hv.2 q6
    refine z_iload_n dX12_whisper_7 rfl ?_
    refine z_if_lt (tgt := 28) dX12_whisper_8 (by decide) (fun q7 => ?_) (fun q7 => ?_)
    · have hv := hv.1 q7
      refine z_iconst (v := (-1)) dX12_whisper_28 (by decide) ?_
      exact z_ireturn dX12_whisper_29 rfl rfl (Nat.le_refl _) (Nat.le_refl _) hv
    · have hv := hv.2 q7
      refine z_iload_n dX12_whisper_11 rfl ?_
      refine z_aload_n dX12_whisper_12 rfl ?_
      obtain ⟨h8, hv⟩ := hv
      obtain ⟨h9, hv⟩ := hv
      refine z_callV (As := []) (st := [.int p1]) dX12_whisper_13 zl_X12_346 zv_X12_worldMany (by decide) rfl zn_160 zo_160 rfl rfl (Nat.le_of_ble_eq_true rfl) ⟨Nat.le_refl _, Nat.le_refl _⟩ ⟨Nat.le_refl _, Nat.le_refl _⟩ (sp_X12_worldMany h8 h9 (by omega) (K := fun r I' L' P' => nI (vN I1) = r ∧ I1 = I' ∧ L2 = L' ∧ P3 = P') ⟨rfl, rfl, rfl, rfl⟩) (fun v1 I2 L2 P2 nx1 q11 => ?_)
      obtain ⟨rfl, r10, rfl, rfl, rfl, rfl, rfl⟩ := q11
      refine z_icmp_ge (tgt := 28) dX12_whisper_16 (by decide) (fun q12 => ?_) (fun q12 => ?_)
      · have hv := hv.1 q12
        refine z_iconst (v := (-1)) dX12_whisper_28 (by decide) ?_
        exact z_ireturn dX12_whisper_29 rfl rfl (Nat.le_refl _) (Nat.le_refl _) hv
      · have hv := hv.2 q12
        refine z_aload_n dX12_whisper_19 rfl ?_
        refine z_getI dX12_whisper_20 zf_X12_353 zn_160 zo_160 (fun _ _ _ _ _ => rfl) ?_
        refine z_bipush (v := 8) dX12_whisper_23 (by decide) ?_
        refine z_icmp_ne (tgt := 30) dX12_whisper_25 (by decide) (fun q13 => ?_) (fun q13 => ?_)
        · have hv := hv.1 q13
          refine z_aload_n dX12_whisper_30 rfl ?_
          refine z_sipush (v := 1400) dX12_whisper_31 (by decide) ?_
          refine z_aload_n dX12_whisper_34 rfl ?_
          refine z_getI dX12_whisper_35 zf_X12_246 zn_160 zo_160 (fun _ _ _ _ _ => rfl) ?_
          refine z_callV (As := [.int 1400, .int (I1 160 32)]) (st := []) dX12_whisper_38 zl_X12_407 zv_X12_work (by decide) rfl zn_160 zo_160 rfl rfl (Nat.le_of_ble_eq_true rfl) ⟨Nat.le_refl _, Nat.le_refl _⟩ ⟨Nat.le_refl _, Nat.le_refl _⟩ hv (fun v1 I14 L15 P16 nx1 q17 => ?_)
          obtain ⟨rfl, rfl, hv⟩ := q17
          refine z_iconst (v := 0) dX12_whisper_41 (by decide) ?_
          refine z_istore_n (lv2 := [some (.ref 160), some (.int p1), some (.int 0)]) dX12_whisper_42 (by decide) rfl rfl ?_
          exact hv
        · have hv := hv.2 q13
          refine z_iconst (v := (-1)) dX12_whisper_28 (by decide) ?_
          exact z_ireturn dX12_whisper_29 rfl rfl (Nat.le_refl _) (Nat.le_refl _) hv
/-- behind a whisper of the row r to the people x: k whispers were before -/
def wWh (I I' : zI) (k x : Nat) (r : Nat → Int32) : Prop := zFr [181, 182] [38, 46] I I' ∧ I' 160 38 = nI (k + 1) ∧ I' 160 46 = 0 ∧ I' 182 k = nI x ∧ (∀ j, j ≠ k → I' 182 j = I 182 j) ∧ (∀ w, w < vN I → I' 181 (256 * k + w) = bP (¬ r w = 0)) ∧ ∀ j, ¬ (256 * k ≤ j ∧ j < 256 * k + vN I) → I' 181 j = I 181 j
theorem lp_X12_whisper {d : Nat} {Q : zQt} {I0 : zI} {L : zL} {P : zP} {x : Nat} {r : Nat → Int32} (hP : zPk P) (hS : MSc I0) (hk : vNw I0 < 8) (hr : ∀ w, w < vN I0 → I0 183 w = r w) (hd : 1 ≤ d) (kk : ∀ I', wWh I0 I' (vNw I0) x r → Q (some (.int (bP (¬ r (vTw I0) = 0)))) I' L P 205) :
    ∀ m i I, i + m = vN I0 → zFr [181] [] I0 I → (∀ w, w < i → I 181 (256 * vNw I0 + w) = bP (¬ r w = 0)) → (∀ j, ¬ (256 * vNw I0 ≤ j ∧ j < 256 * vNw I0 + i) → I 181 j = I0 181 j) →
      gw_X12_whisper (d + 1) Q 43 [some (.ref 160), some (.int (nI x)), some (.int (nI i))] [] I L P := by
  have hN := vN_le hS.1.1
  have ht := hS.2.1.1
  have w38 : I0 160 38 = nI (vNw I0) := hS.1.2.2.2.1
  intro m
  induction m with
  | zero =>
    intro i I hi hf h1 h2
    have : i = vN I0 := by omega
    subst this
    have eN := vN_fr hf (by decide) (by decide)
    have e38 : I 160 38 = nI (vNw I0) := by rw [hf.2 38 (by simp)]; exact w38
    refine g_X12_whisper_43 hP (by omega) ⟨MB_fr hf (by decide) (by decide) hS.1.1, fun _ => ⟨by rw [e38]; exact nx_in hk (by decide), fun I1 e1 I2 e2 I3 e3 => ?_⟩, fun q => absurd (by rw [eN]; exact nI_le (Nat.le_refl _) (by omega)) q⟩
    rw [e38, nI_cl (by omega)] at e1
    have s38 : I1 160 38 = nI (vNw I0) := by rw [e1, zuI_ne (by decide)]; exact e38
    rw [s38, nI_1] at e2
    have f3 : zFr [181, 182] [38, 46] I0 I3 := by
      rw [e3, e2, e1]
      exact zFr_s (zFr_s (zFr_c (zFr_wk hf (by decide) (by simp)) (by decide) (by decide)) (by decide)) (by decide)
    have t38 : I3 160 38 = nI (vNw I0 + 1) := by rw [e3, zuI_o (by decide), e2, zuI_v]
    have t46 : I3 160 46 = 0 := by rw [e3, zuI_v]
    have t182 : I3 182 (vNw I0) = nI x := by rw [e3, zuI_ne (by decide), e2, zuI_ne (by decide), e1, zuI_v]
    have o182 : ∀ j, j ≠ vNw I0 → I3 182 j = I0 182 j := fun j hj => by rw [e3, zuI_ne (by decide), e2, zuI_ne (by decide), e1, zuI_o hj, hf.1 182 (by decide) (by decide)]
    have t181 : I3 181 = I 181 := by rw [e3, zuI_ne (by decide), e2, zuI_ne (by decide), e1, zuI_ne (by decide)]
    have eT := vTw_fr f3 (by decide) (by decide)
    have hw : wWh I0 I3 (vNw I0) x r := ⟨f3, t38, t46, t182, o182, fun w hw => by rw [t181]; exact h1 w hw, fun j hj => by rw [t181]; exact h2 j hj⟩
    have k := kk I3 hw
    refine ⟨MB_fr f3 (by decide) (by decide) hS.1.1, MT_fr f3 (by decide) (by decide) (by decide) hS.2.1, by rw [eT]; exact nx_in (by omega) (by decide), ?_⟩
    rw [eT, nI_cl (by omega), f3.1 183 (by decide) (by decide), hr _ ht]
    refine ⟨fun q => ?_, fun q => ?_⟩
    · rw [bP_f (fun z => z q)] at k; exact k
    · rw [bP_t q] at k; exact k
  | succ m ih =>
    intro i I hi hf h1 h2
    have eN := vN_fr hf (by decide) (by decide)
    have e38 : I 160 38 = nI (vNw I0) := by rw [hf.2 38 (by simp)]; exact w38
    have ei : ((256 : Int32) * (I 160 38)) + nI i = nI (256 * vNw I0 + i) := by rw [e38, show (256 : Int32) = nI 256 from rfl, pk_mul, nI_add]
    have next : ∀ v, v = bP (¬ r i = 0) → vp_in (((256 : Int32) * (I 160 38)) + nI i) 2048 ∧ ∀ I40 : zI, I40 = zuI I 181 (((256 : Int32) * (I 160 38)) + nI i).toNatClampNeg v → gw_X12_whisper (d + 1) Q 43 [some (.ref 160), some (.int (nI x)), some (.int (nI i + 1))] [] I40 L P := by
      intro v ev
      rw [ei]
      refine ⟨nx_in (by omega) (by decide), fun I1 e1 => ?_⟩
      rw [nI_cl (by omega)] at e1
      subst e1
      rw [nI_1]
      refine ih (i + 1) _ (by omega) (zFr_c hf (by decide) (by decide)) (fun w hw => ?_) (fun j hj => ?_)
      · rcases Nat.lt_succ_iff_lt_or_eq.mp hw with q | q
        · rw [zuI_o (by omega)]; exact h1 w q
        · subst q; rw [zuI_v]; exact ev
      · rw [zuI_o (by omega)]; exact h2 j (by omega)
    refine g_X12_whisper_43 hP (by omega) ⟨MB_fr hf (by decide) (by decide) hS.1.1, fun q => absurd q (by rw [eN]; exact nI_ge (by omega) (by omega)), fun _ => ⟨nx_in (by omega) (by decide), fun q => next 0 ?_, fun q => next 1 ?_⟩⟩
    · rw [nI_cl (by omega), hf.1 183 (by decide) (by decide), hr i (by omega)] at q
      exact (bP_f (fun z => z q)).symm
    · rw [nI_cl (by omega), hf.1 183 (by decide) (by decide), hr i (by omega)] at q
      exact (bP_t q).symm
theorem aFr_w {I I' : zI} {L L' : zL} (hS : MSc I) (h3 : aFr I L I' L') : wFr I L I' L' := ⟨zFr_wk h3.1 (by decide) (by decide), h3.2.1, h3.2.2.1, h3.2.2.2.1, h3.2.2.2.2, MP_fr h3.1 (by decide) (by decide) (by decide) (by decide) (by decide) (by decide) (by decide) (by decide) (by decide) hS.2.2.2.2.2.1⟩
theorem al_work {d u : Nat} {I I' : zI} {L L' : zL} {P : zP} {c : Cd} (hP : zPk P) (hS : MSc I) (hb : MCb I) (h3 : aFr I L I' L') (h4 : I' 160 4 = 0) (h5 : I' 160 5 = -1) (h6 : I' 160 32 = nI (1400 + c.length)) (h7 : vCd I' 1400 c.length = cMp c) (h8 : c.length ≤ 700) (h9 : cQ (vNp I) 0 0 u c) (hd : 7 ≤ d) {Kw : zI → zL → zP → Prop}
    (kw : ∀ I2, wFr I L I2 L' → I2 160 4 = 0 → I2 160 5 = -1 → (∀ w, w < vN I → I2 183 w = aRw I (vPoss I) (vGn I) (cMp c) w) → Kw I2 L' P) : zMv zm_X12_work d [.ref 160, .int 1400, .int (I' 160 32)] I' L' P Kw := by
  have f := h3.1
  have hw := aFr_w hS h3
  obtain ⟨hS', -⟩ := wFr_MSc hS hb hw
  have eN := vN_fr f (by decide) (by decide)
  have eP := vNp_fr f (by decide) (by decide)
  rw [h6]
  refine sp_X12_work (fr := 1400) hP hS'.1 (MZ_MO hS'.1.1 hS'.2.2.2.2.1) hS'.2.2.2.2.2.1 (by omega) ?_ hd (fun I2 a1 a2 a3 => kw I2 ⟨zFr_tr hw.1 (zFr_wk a1 (by decide) (by decide)), hw.2.1, ?_, fun k hk => ?_, fun k hk => ?_, a2⟩ ?_ ?_ (fun w hw' => ?_))
  · rw [h7, eP]
    obtain ⟨z1, z2⟩ := h9.2.1 0 (by decide)
    exact ⟨z1, z2⟩
  · rw [a1.2 2 (by decide)]; exact h3.2.2.1
  · rw [a1.1 166 (by decide) (by decide)]; exact h3.2.2.2.1 k hk
  · rw [a1.1 175 (by decide) (by decide), a1.1 176 (by decide) (by decide)]; exact h3.2.2.2.2 k hk
  · rw [a1.2 4 (by decide)]; exact h4
  · rw [a1.2 5 (by decide)]; exact h5
  · rw [a3 w (by omega), h7]
    unfold eVal aRw
    rw [eP, eN, vPoss_fr f (by decide), vLike_fr' f (by decide) (by decide) (by decide) (by decide) (by decide) (by decide), f.2 40 (by decide), hS.2.2.2.1.2]
theorem sp_X12_whisper {d : Nat} {I : zI} {L : zL} {P : zP} {x : Int32} (hP : zPk P) (hS : MSc I) (hb : MCb I) (hT : MTp I) (hd : 8 ≤ d) {K : Int32 → zI → zL → zP → Prop}
    (k0 : ∀ T n, tX I T n → ∀ q, aRd T n (nmB I L) = .inl q → (q.1 ≠ 0 ∧ q.1 < 100) → ∀ I' L', wFr I L I' L' → I' 160 4 = nI q.1 → I' 160 5 = nI q.2 → K (-1) I' L' P)
    (k1 : ∀ T n, tX I T n → ∀ e u c, aRd T n (nmB I L) = rO e u c → cQ (vNp I) 0 0 u c → ¬ ((∃ a, a < vN I ∧ x = nI a) ∧ vNw I < 8) → ∀ I' L', wFr I L I' L' → I' 160 4 = 0 → I' 160 5 = -1 → K (-1) I' L' P)
    (kw : ∀ T n, tX I T n → ∀ e u c, aRd T n (nmB I L) = rO e u c → cQ (vNp I) 0 0 u c → ∀ a, a < vN I → x = nI a → vNw I < 8 → ∀ I1 L', wFr I L I1 L' → I1 160 4 = 0 → I1 160 5 = -1 → ∀ I', wWh I1 I' (vNw I) a (aRw I (vPoss I) (vGn I) (cMp c)) → K (bP (¬ aRw I (vPoss I) (vGn I) (cMp c) (vTw I) = 0)) I' L' P) : zMi zm_X12_whisper d [.ref 160, .int x] I L P K := by
  obtain ⟨d, rfl⟩ : ∃ e, d = e + 1 := ⟨d - 1, by omega⟩
  have hN := vN_le hS.1.1
  have hw8 := hS.1.2.2.1
  refine g_X12_whisper (d := d) hP (by omega) ?_
  refine sp_X12_readAlone hP hS.1.1 hT (by omega) (fun T n hn hT' => ⟨fun q h1 h2 I' L' h3 h4 h5 => ⟨fun _ => qi (k0 T n ⟨hn, hT'⟩ q h1 h2 I' L' (aFr_w hS h3) h4 h5), fun z => absurd rfl z⟩, fun e u c h1 I' L' h3 h4 h5 h6 h7 h8 h9 => ⟨fun z => absurd z (by decide), fun _ => ?_⟩⟩)
  have hw := aFr_w hS h3
  obtain ⟨hS', -⟩ := wFr_MSc hS hb hw
  have eN := vN_fr hw.1 (by decide) (by decide)
  have e38 : I' 160 38 = nI (vNw I) := by rw [hw.1.2 38 (by decide)]; exact hS.1.2.2.2.1
  have no := k1 T n ⟨hn, hT'⟩ e u c h1 h9
  refine ⟨fun q => qi (no (fun z => ?_) I' L' hw h4 h5), fun q => ⟨hP, hS'.1.1, fun q2 => qi (no (fun z => ?_) I' L' hw h4 h5), fun q2 => ⟨fun q3 => ?_, fun q3 => qi (no (fun z => ?_) I' L' hw h4 h5)⟩⟩⟩
  · obtain ⟨⟨a, ha, rfl⟩, -⟩ := z
    exact absurd q (nn0 (by omega))
  · obtain ⟨⟨a, ha, rfl⟩, -⟩ := z
    rw [eN] at q2
    exact absurd q2 (nI_ge ha (by omega))
  · rw [eN] at q2
    obtain ⟨a, ha, rfl⟩ := rg_lt (by omega) q q2
    have hk : vNw I < 8 := by
      have : ¬ vNw I = 8 := fun z => q3 (by rw [e38, z]; rfl)
      omega
    refine al_work hP hS hb h3 h4 h5 h6 h7 h8 h9 (by omega) (fun I2 b1 b2 b3 b4 => ?_)
    obtain ⟨hS2, -⟩ := wFr_MSc hS hb b1
    have eN2 := vN_fr b1.1 (by decide) (by decide)
    have eW2 : vNw I2 = vNw I := by unfold vNw; rw [b1.1.2 38 (by decide)]
    have eT2 := vTw_fr b1.1 (by decide) (by decide)
    refine lp_X12_whisper hP hS2 (by omega) (r := aRw I (vPoss I) (vGn I) (cMp c)) (fun w hw => b4 w (by omega)) (by omega) (fun I3 c1 => ?_) (vN I2) 0 I2 (by omega) (zFr_rf _ _ _) (fun w hw => absurd hw (Nat.not_lt_zero w)) (fun _ _ => rfl)
    rw [eW2] at c1
    rw [eT2]
    exact qi (kw T n ⟨hn, hT'⟩ e u c h1 h9 a ha rfl hk I2 L' b1 b2 b3 I3 c1)
  · rw [e38, show (8 : Int32) = nI 8 from rfl, nI_eq (by omega) (by decide)] at q3
    omega
