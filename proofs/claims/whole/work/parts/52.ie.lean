/-! ===== the model: law ===== -/
section LAW
variable {rb : Nat} {I : zI} {L : zL} {A : Ai}
theorem iM_171 {x : Nat} (h : iM rb I L A) (hx : x ≤ 1) : iM rb (zuI I 171 rb (nI x)) L (aU A 6 x) := by
  have h3 := h.2.2.2.2.1.1
  have h0 := h.2.1.1
  have hf : zFr [171] [] I (zuI I 171 rb (nI x)) := zFr_c (zFr_rf _ _ _) (by decide) (by decide)
  have sv : (zuI I 171 rb (nI x)) 171 rb = nI x := zuI_v _ _ _ _
  generalize zuI I 171 rb (nI x) = I2 at hf sv
  have e : ∀ c, c ≠ 160 → c ≠ 171 → I2 c = I c := fun c h1 h2 => hf.1 c (by simp; exact h2) h1
  have o : ∀ j, j ≠ 6 → (aU A 6 x).1 j = A.1 j := fun j h1 => aU_o h1
  have o6 : (aU A 6 x).1 6 = x := aU_v _ _ _
  have cc : (aU A 6 x).2 = A.2 := rfl
  obtain ⟨m1, m2, m3, m4, m5, m6, m7, m8, m9, m10, m11⟩ := h
  unfold iM
  rw [cc, o6, o 0 (by omega), o 1 (by omega), o 2 (by omega), o 3 (by omega), o 4 (by omega), o 5 (by omega), o (30 + A.1 3) (by omega), hf.2 29 (by simp), hf.2 30 (by simp), hf.2 31 (by simp), hf.2 32 (by simp), e 163 (by decide) (by decide), e 167 (by decide) (by decide), e 164 (by decide) (by decide), e 165 (by decide) (by decide), e 166 (by decide) (by decide), e 172 (by decide) (by decide), e 168 (by decide) (by decide), e 173 (by decide) (by decide), e 169 (by decide) (by decide), e 170 (by decide) (by decide)]
  refine ⟨m1, m2, m3, m4, m5, m6, m7, ⟨hx, sv⟩, fun k hk => ?_, m10, fun i hi => ?_⟩
  · rw [o (10 + k) (by omega), o (20 + k) (by omega)]; exact m9 k hk
  · rw [o (30 + (i + 1)) (by omega), o (30 + i) (by omega), vCd_c (e 175 (by decide) (by decide)) (e 176 (by decide) (by decide))]; exact m11 i hi
theorem iM_172 {x : Nat} (h : iM rb I L A) (hx : x ≤ 1) : iM rb (zuI I 172 rb (nI x)) L (aU A 5 x) := by
  have h3 := h.2.2.2.2.1.1
  have h0 := h.2.1.1
  have hf : zFr [172] [] I (zuI I 172 rb (nI x)) := zFr_c (zFr_rf _ _ _) (by decide) (by decide)
  have sv : (zuI I 172 rb (nI x)) 172 rb = nI x := zuI_v _ _ _ _
  generalize zuI I 172 rb (nI x) = I2 at hf sv
  have e : ∀ c, c ≠ 160 → c ≠ 172 → I2 c = I c := fun c h1 h2 => hf.1 c (by simp; exact h2) h1
  have o : ∀ j, j ≠ 5 → (aU A 5 x).1 j = A.1 j := fun j h1 => aU_o h1
  have o6 : (aU A 5 x).1 5 = x := aU_v _ _ _
  have cc : (aU A 5 x).2 = A.2 := rfl
  obtain ⟨m1, m2, m3, m4, m5, m6, m7, m8, m9, m10, m11⟩ := h
  unfold iM
  rw [cc, o6, o 0 (by omega), o 1 (by omega), o 2 (by omega), o 3 (by omega), o 4 (by omega), o 6 (by omega), o (30 + A.1 3) (by omega), hf.2 29 (by simp), hf.2 30 (by simp), hf.2 31 (by simp), hf.2 32 (by simp), e 163 (by decide) (by decide), e 167 (by decide) (by decide), e 164 (by decide) (by decide), e 165 (by decide) (by decide), e 166 (by decide) (by decide), e 171 (by decide) (by decide), e 168 (by decide) (by decide), e 173 (by decide) (by decide), e 169 (by decide) (by decide), e 170 (by decide) (by decide)]
  refine ⟨m1, m2, m3, m4, m5, m6, ⟨hx, sv⟩, m8, fun k hk => ?_, m10, fun i hi => ?_⟩
  · rw [o (10 + k) (by omega), o (20 + k) (by omega)]; exact m9 k hk
  · rw [o (30 + (i + 1)) (by omega), o (30 + i) (by omega), vCd_c (e 175 (by decide) (by decide)) (e 176 (by decide) (by decide))]; exact m11 i hi
end LAW
abbrev gw_X12_readLaw (d : Nat) (Q : zQt) (pc : Nat) (lv : zV) (st : List Value) (I : zI) (L : zL) (P : zP) : Prop := zW zm_X12_readLaw (zRm d 0 0) 0 0 Q pc lv st I L P 205 0 0
abbrev v_X12_readLaw (d : Nat) (Q : zQt)  (I : zI) (L : zL) (P : zP) : Prop :=
  vp_in (I 160 29) 2 ∧
  (bP (I 160 8 = 3 ∧ L 160 10 = 7305070) = 0 ∨ bP (I 160 8 = 3 ∧ L 160 10 = 7305070) = 1) ∧
  ∀ I5 : zI, I5 = zuI I 171 (I 160 29).toNatClampNeg (bP (I 160 8 = 3 ∧ L 160 10 = 7305070)) →
  ((¬ (bP (I5 160 8 = 3 ∧ L 160 10 = 6840691)) = 0 →
    zMv zm_X12_must d [.ref 160, .int 1] I5 L P (fun I10 L11 P12 =>
      zPk P12 ∧
      vp_in (I10 160 29) 2 ∧
      ∀ I18 : zI, I18 = zuI I10 172 (I10 160 29).toNatClampNeg 1 →
      Q none I18 L11 P12 205
    )
  ) ∧ ((bP (I5 160 8 = 3 ∧ L 160 10 = 6840691)) = 0 →
    (((bP (I5 160 8 = 3 ∧ L 160 10 = 7305070)) = 0 →
      zMv zm_X12_must d [.ref 160, .int 0] I5 L P (fun I22 L23 P24 =>
        zPk P24 ∧
        vp_in (I22 160 29) 2 ∧
        ∀ I30 : zI, I30 = zuI I22 172 (I22 160 29).toNatClampNeg 1 →
        Q none I30 L23 P24 205
      )
    ) ∧ (¬ (bP (I5 160 8 = 3 ∧ L 160 10 = 7305070)) = 0 →
      zMv zm_X12_must d [.ref 160, .int 1] I5 L P (fun I31 L32 P33 =>
        zPk P33 ∧
        vp_in (I31 160 29) 2 ∧
        ∀ I39 : zI, I39 = zuI I31 172 (I31 160 29).toNatClampNeg 1 →
        Q none I39 L32 P33 205
      )
    ))
  ))
set_option maxRecDepth 20000 in
theorem g_X12_readLaw {d : Nat} {Q : zQt}  {I : zI} {L : zL} {P : zP} (hP : zPk P) (hv : v_X12_readLaw d Q  I L P) : zM zm_X12_readLaw (d + 1) 0 0 [.ref 160] I L P 205 Q := by
  unfold v_X12_readLaw at hv
  refine zM_of (lv0 := [some (.ref 160)]) (by decide +kernel) (Nat.le_of_ble_eq_true rfl) rfl ?_
  refine z_aload_n dX12_readLaw_0 rfl ?_
  refine z_getP dX12_readLaw_1 zf_X12_45 zn_160 zo_160 (fun _ _ _ _ _ => rfl) (hP 160 19 171 zp_160_19) ?_
  refine z_aload_n dX12_readLaw_4 rfl ?_
  refine z_getI dX12_readLaw_5 zf_X12_243 zn_160 zo_160 (fun _ _ _ _ _ => rfl) ?_
  refine z_aload_n dX12_readLaw_8 rfl ?_
  refine z_ldc2 (v := 7305070) dX12_readLaw_9 zj_X12_175 ?_
  refine z_callV (As := [.long 7305070]) (st := [.int (I 160 29), .ref 171]) dX12_readLaw_12 zl_X12_270 zv_X12_isWord (by decide) rfl zn_160 zo_160 rfl rfl (Nat.le_of_ble_eq_true rfl) ⟨Nat.le_refl _, Nat.le_refl _⟩ ⟨Nat.le_refl _, Nat.le_refl _⟩ (sp_X12_isWord hP (K := fun r I' L' P' => bP (I 160 8 = 3 ∧ L 160 10 = 7305070) = r ∧ I = I' ∧ L = L' ∧ P = P') ⟨rfl, rfl, rfl, rfl⟩) (fun v1 I2 L2 P2 nx1 q2 => ?_)
  obtain ⟨rfl, r1, rfl, rfl, rfl, rfl, rfl⟩ := q2
  obtain ⟨h3, hv⟩ := hv
  obtain ⟨h6, hv⟩ := hv
  refine z_zastore dX12_readLaw_15 zn_171 zh_171 h3 (zbn h6) (z_nmI (fun I5 e4 => ?_))
  have hv := hv I5 e4
  refine z_aload_n dX12_readLaw_16 rfl ?_
  refine z_aload_n dX12_readLaw_17 rfl ?_
  refine z_ldc2 (v := 6840691) dX12_readLaw_18 zj_X12_173 ?_
  refine z_callV (As := [.long 6840691]) (st := [.ref 160]) dX12_readLaw_21 zl_X12_270 zv_X12_isWord (by decide) rfl zn_160 zo_160 rfl rfl (Nat.le_of_ble_eq_true rfl) ⟨Nat.le_refl _, Nat.le_refl _⟩ ⟨Nat.le_refl _, Nat.le_refl _⟩ (sp_X12_isWord hP (K := fun r I' L' P' => bP (I5 160 8 = 3 ∧ L 160 10 = 6840691) = r ∧ I5 = I' ∧ L = L' ∧ P = P') ⟨rfl, rfl, rfl, rfl⟩) (fun v1 I2 L2 P2 nx1 q8 => ?_)
  obtain ⟨rfl, r7, rfl, rfl, rfl, rfl, rfl⟩ := q8
  refine z_if_ne (tgt := 37) dX12_readLaw_24 (by decide) (fun q9 => ?_) (fun q9 => ?_)
  · have hv := hv.1 q9
    refine z_iconst (v := 1) dX12_readLaw_37 (by decide) ?_
    refine z_goto (tgt := 42) dX12_readLaw_38 (by decide) ?_
    refine z_callV (As := [.int 1]) (st := []) dX12_readLaw_42 zl_X12_294 zv_X12_must (by decide) rfl zn_160 zo_160 rfl rfl (Nat.le_of_ble_eq_true rfl) ⟨Nat.le_refl _, Nat.le_refl _⟩ ⟨Nat.le_refl _, Nat.le_refl _⟩ hv (fun v1 I10 L11 P12 nx1 q13 => ?_)
    obtain ⟨rfl, rfl, hv⟩ := q13
    refine z_aload_n dX12_readLaw_45 rfl ?_
    obtain ⟨h15, hv⟩ := hv
    refine z_getP dX12_readLaw_46 zf_X12_49 zn_160 zo_160 (fun _ _ _ _ _ => rfl) (h15 160 20 172 zp_160_20) ?_
    refine z_aload_n dX12_readLaw_49 rfl ?_
    refine z_getI dX12_readLaw_50 zf_X12_243 zn_160 zo_160 (fun _ _ _ _ _ => rfl) ?_
    refine z_iconst (v := 1) dX12_readLaw_53 (by decide) ?_
    obtain ⟨h16, hv⟩ := hv
    refine z_zastore (w := 1) dX12_readLaw_54 zn_172 zh_172 h16 (by decide) (z_nmI (fun I18 e17 => ?_))
    have hv := hv I18 e17
    exact z_return dX12_readLaw_55 rfl (Nat.le_refl _) (Nat.le_refl _) hv
  · have hv := hv.2 q9
    refine z_aload_n dX12_readLaw_27 rfl ?_
    refine z_ldc2 (v := 7305070) dX12_readLaw_28 zj_X12_175 ?_
    refine z_callV (As := [.long 7305070]) (st := [.ref 160]) dX12_readLaw_31 zl_X12_270 zv_X12_isWord (by decide) rfl zn_160 zo_160 rfl rfl (Nat.le_of_ble_eq_true rfl) ⟨Nat.le_refl _, Nat.le_refl _⟩ ⟨Nat.le_refl _, Nat.le_refl _⟩ (sp_X12_isWord hP (K := fun r I' L' P' => bP (I5 160 8 = 3 ∧ L 160 10 = 7305070) = r ∧ I5 = I' ∧ L = L' ∧ P = P') ⟨rfl, rfl, rfl, rfl⟩) (fun v1 I2 L2 P2 nx1 q20 => ?_)
    obtain ⟨rfl, r19, rfl, rfl, rfl, rfl, rfl⟩ := q20
    refine z_if_eq (tgt := 41) dX12_readLaw_34 (by decide) (fun q21 => ?_) (fun q21 => ?_)
    · have hv := hv.1 q21
      refine z_iconst (v := 0) dX12_readLaw_41 (by decide) ?_
      refine z_callV (As := [.int 0]) (st := []) dX12_readLaw_42 zl_X12_294 zv_X12_must (by decide) rfl zn_160 zo_160 rfl rfl (Nat.le_of_ble_eq_true rfl) ⟨Nat.le_refl _, Nat.le_refl _⟩ ⟨Nat.le_refl _, Nat.le_refl _⟩ hv (fun v1 I22 L23 P24 nx1 q25 => ?_)
      obtain ⟨rfl, rfl, hv⟩ := q25
      refine z_aload_n dX12_readLaw_45 rfl ?_
      obtain ⟨h27, hv⟩ := hv
      refine z_getP dX12_readLaw_46 zf_X12_49 zn_160 zo_160 (fun _ _ _ _ _ => rfl) (h27 160 20 172 zp_160_20) ?_
      refine z_aload_n dX12_readLaw_49 rfl ?_
      refine z_getI dX12_readLaw_50 zf_X12_243 zn_160 zo_160 (fun _ _ _ _ _ => rfl) ?_
      refine z_iconst (v := 1) dX12_readLaw_53 (by decide) ?_
      obtain ⟨h28, hv⟩ := hv
      refine z_zastore (w := 1) dX12_readLaw_54 zn_172 zh_172 h28 (by decide) (z_nmI (fun I30 e29 => ?_))
      have hv := hv I30 e29
      exact z_return dX12_readLaw_55 rfl (Nat.le_refl _) (Nat.le_refl _) hv
    · have hv := hv.2 q21
      refine z_iconst (v := 1) dX12_readLaw_37 (by decide) ?_
      refine z_goto (tgt := 42) dX12_readLaw_38 (by decide) ?_
      refine z_callV (As := [.int 1]) (st := []) dX12_readLaw_42 zl_X12_294 zv_X12_must (by decide) rfl zn_160 zo_160 rfl rfl (Nat.le_of_ble_eq_true rfl) ⟨Nat.le_refl _, Nat.le_refl _⟩ ⟨Nat.le_refl _, Nat.le_refl _⟩ hv (fun v1 I31 L32 P33 nx1 q34 => ?_)
      obtain ⟨rfl, rfl, hv⟩ := q34
      refine z_aload_n dX12_readLaw_45 rfl ?_
      obtain ⟨h36, hv⟩ := hv
      refine z_getP dX12_readLaw_46 zf_X12_49 zn_160 zo_160 (fun _ _ _ _ _ => rfl) (h36 160 20 172 zp_160_20) ?_
      refine z_aload_n dX12_readLaw_49 rfl ?_
      refine z_getI dX12_readLaw_50 zf_X12_243 zn_160 zo_160 (fun _ _ _ _ _ => rfl) ?_
      refine z_iconst (v := 1) dX12_readLaw_53 (by decide) ?_
      obtain ⟨h37, hv⟩ := hv
      refine z_zastore (w := 1) dX12_readLaw_54 zn_172 zh_172 h37 (by decide) (z_nmI (fun I39 e38 => ?_))
      have hv := hv I39 e38
      exact z_return dX12_readLaw_55 rfl (Nat.le_refl _) (Nat.le_refl _) hv
theorem sp_X12_readLaw {d : Nat} {T : Nat → Int32} {n rb e : Nat} {I : zI} {L : zL} {P : zP} {A : Ai} (hP : zPk P) (hM : iM rb I L A) (hp : pS T n I L e) (h4 : I 160 4 = 0) (hd : 3 ≤ d) {K : zI → zL → zP → Prop}
    (kf : ¬ (tK T n e = 262 ∨ tK T n e = 263) → ∀ I' L', iFr rb I L I' L' → I' 160 4 = nI (mis T n e) → I' 160 5 = nI (tA T n e) → pSg I' (I' 160 6) → K I' L' P)
    (kk : (tK T n e = 262 ∨ tK T n e = 263) → ∀ I' L', iM rb I' L' (aU (aU A 6 (@ite _ (tK T n e = 263) (Classical.propDecidable _) 1 0)) 5 1) → pS T n I' L' (tE T n e) → I' 160 4 = 0 → I' 160 5 = I 160 5 → iFr rb I L I' L' → K I' L' P) : zMv zm_X12_readLaw d [.ref 160] I L P K := by
  obtain ⟨d, rfl⟩ : ∃ e, d = e + 1 := ⟨d - 1, by omega⟩
  have h29 : I 160 29 = nI rb := hM.1.1
  have hr : rb < 2 := hM.1.2
  have wo := pS_w hp (i := 7) (by decide) (x := 7305070) rfl
  have st : bP (I 160 8 = 3 ∧ L 160 10 = 7305070) = nI (@ite _ (tK T n e = 263) (Classical.propDecidable _) 1 0) := by
    rw [bP_c wo]
    by_cases z : tK T n e = 263
    · rw [if_pos z, bP_t z]; rfl
    · rw [if_neg z, bP_f z]; rfl
  refine g_X12_readLaw hP ⟨by rw [h29]; exact nx_in hr (by decide), bP_or _, fun I1 e1 => ?_⟩
  rw [h29, nI_cl (by omega), st] at e1
  have hM1 := iM_171 (x := @ite _ (tK T n e = 263) (Classical.propDecidable _) 1 0) hM (by split <;> omega)
  have hf1 : zFr [171] [] I I1 := by rw [e1]; exact zFr_c (zFr_rf _ _ _) (by decide) (by decide)
  have hr1 : iFr rb I L I1 L := by rw [e1]; exact iFr_c (iFr_rf _ _ _) (Or.inl ⟨by decide, rfl⟩) (by decide)
  rw [← e1] at hM1
  have hp1 : pS T n I1 L e := pS_fr hp hf1 (by decide) (by decide) (by decide) (by decide) (by decide) (by decide) rfl
  have h41 : I1 160 4 = 0 := by rw [hf1.2 4 (by simp)]; exact h4
  have h51 : I1 160 5 = I 160 5 := hf1.2 5 (by simp)
  have w6 := pS_w hp1 (i := 6) (by decide) (x := 6840691) rfl
  have w7 := pS_w hp1 (i := 7) (by decide) (x := 7305070) rfl
  have mu : ∀ b : Prop, (b ↔ (tK T n e = 262 ∨ tK T n e = 263)) → zMv zm_X12_must d [.ref 160, .int (bP b)] I1 L P (fun I10 L11 P12 => zPk P12 ∧ vp_in (I10 160 29) 2 ∧ ∀ I18 : zI, I18 = zuI I10 172 (I10 160 29).toNatClampNeg 1 → (fun v I' L' P' nx' => nx' = 205 ∧ v = none ∧ K I' L' P') (none : Option Value) I18 L11 P12 205) := by
    intro b hb
    refine sp_X12_must hP h41 hp1 (by omega) (fun z => ?_) (fun z I2 L2 f1 f2 f3 => ?_)
    · have v := pFt_v I1 (mis T n e) (tA T n e)
      have f := pFt_fr I1 (mis T n e) (tA T n e)
      have g29 : pFt I1 (mis T n e) (tA T n e) 160 29 = nI rb := by rw [f.2 29 (by decide)]; exact hM1.1.1
      rw [g29, nI_cl (by omega)]
      refine ⟨hP, nx_in hr (by decide), fun I3 e3 => qv (kf (fun y => z (hb.mpr y)) I3 L ?_ ?_ ?_ ?_)⟩
      · rw [e3]; exact iFr_c (iFr_ft hr1) (Or.inl ⟨by decide, rfl⟩) (by decide)
      · rw [e3, zuI_ne (by decide)]; exact v.1
      · rw [e3, zuI_ne (by decide)]; exact v.2
      · have := pS_p (pS_fr hp1 f (by decide) (by decide) (by decide) (by decide) (by decide) (by decide) rfl)
        unfold pSg at this ⊢; rw [e3, zuI_ne (by decide)]; exact this
    · have hM2 := iM_go hM1 f1 f2
      have g29 : I2 160 29 = nI rb := hM2.1.1
      rw [g29, nI_cl (by omega)]
      refine ⟨hP, nx_in hr (by decide), fun I3 e3 => qv ?_⟩
      have hM3 := iM_172 (x := 1) hM2 (by decide)
      have hf3 : zFr [172] [] I2 I3 := by rw [e3]; exact zFr_c (zFr_rf _ _ _) (by decide) (by decide)
      have hr3 : iFr rb I L I3 L2 := by rw [e3]; exact iFr_c (iFr_go hr1 f1 f2) (Or.inl ⟨by decide, rfl⟩) (by decide)
      have e3' : I3 = zuI I2 172 rb (nI 1) := e3
      rw [← e3'] at hM3
      exact kk (hb.mp z) I3 L2 hM3 (pS_fr f3 hf3 (by decide) (by decide) (by decide) (by decide) (by decide) (by decide) rfl) (by rw [hf3.2 4 (by simp), f1.2 4 (by decide)]; exact h41) (by rw [hf3.2 5 (by simp), f1.2 5 (by decide)]; exact h51) hr3
  refine ⟨fun z => ?_, fun z => ⟨fun z2 => ?_, fun z2 => ?_⟩⟩
  · have m := mu True ⟨fun _ => Or.inl (w6.mp (bP_n.mp z)), fun _ => trivial⟩
    rw [bP_t trivial] at m
    exact m
  · have m := mu False ⟨fun y => y.elim, fun y => y.elim (fun x => bP_0.mp z (w6.mpr x)) (fun x => bP_0.mp z2 (w7.mpr x))⟩
    rw [bP_f (fun y => y)] at m
    exact m
  · have m := mu True ⟨fun _ => Or.inr (w7.mp (bP_n.mp z2)), fun _ => trivial⟩
    rw [bP_t trivial] at m
    exact m
