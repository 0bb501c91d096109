/-! ===== the model: a formula alone ===== -/
abbrev aC : List Nat := [162, 166, 175, 176, 177, 178, 179]
abbrev aL : List Nat := [2, 3, 4, 5, 6, 7, 8, 9, 29, 30, 31, 32, 33, 34]
def nmB (I : zI) (L : zL) (v : Int64) : Option Nat := nfD (fun k => L 174 (8 * vB I + k)) v (vNp I) 0
/-- the text on the tape -/
def vTt (I : zI) (k : Nat) : Int32 := (I 161 k &&& 255 : Int32)
/-- a formula that is all the text -/
noncomputable def aRd (T : Nat → Int32) (n : Nat) (nm : Int64 → Option Nat) : Rs :=
  match fRd T n nm 30 0 0 with
  | .inl x => .inl x
  | .inr (e, u, c) => @ite _ (tK T n e = 275) (Classical.propDecidable _) (rO e u c) (rF (mis T n e) (tA T n e))
/-- all that stays when a formula is read alone -/
def aFr (I : zI) (L : zL) (I' : zI) (L' : zL) : Prop := zFr aC aL I I' ∧ zLn L L' ∧ I' 160 2 = 0 ∧ (∀ k, k ≠ 2 → I' 166 k = I 166 k) ∧ ∀ k, k < 1400 → I' 175 k = I 175 k ∧ I' 176 k = I 176 k
abbrev gw_X12_readAlone (d : Nat) (Q : zQt) (pc : Nat) (lv : zV) (st : List Value) (I : zI) (L : zL) (P : zP) : Prop := zW zm_X12_readAlone (zRm d 0 0) 0 0 Q pc lv st I L P 205 0 0
abbrev v_X12_readAlone (d : Nat) (Q : zQt)  (I : zI) (L : zL) (P : zP) : Prop :=
  zMv zm_X12_beginText d [.ref 160] I L P (fun I1 L2 P3 =>
    ∀ I6 : zI, I6 = zuI I1 160 29 (I1 160 28) →
    ∀ I8 : zI, I8 = zuI I6 160 30 2 →
    zPk P3 ∧
    ∀ I12 : zI, I12 = zuI I8 166 (2 : Int32).toNatClampNeg 0 →
    ∀ I13 : zI, I13 = zuI I12 160 31 30 →
    ∀ I15 : zI, I15 = zuI I13 160 32 1400 →
    zMv zm_X12_goOn d [.ref 160] I15 L2 P3 (fun I17 L18 P19 =>
      zMv zm_X12_f d [.ref 160] I17 L18 P19 (fun I22 L23 P24 =>
        zPk P24 ∧
        (((bP (I22 160 4 = 0)) = 0 →
          (bP (I22 160 4 = 0) = 0 ∨ bP (I22 160 4 = 0) = 1) ∧
          Q (some (.int (bP (I22 160 4 = 0)))) I22 L23 P24 205
        ) ∧ (¬ (bP (I22 160 4 = 0)) = 0 →
          (((I22 160 8) = 0 →
            (bP (I22 160 4 = 0) = 0 ∨ bP (I22 160 4 = 0) = 1) ∧
            Q (some (.int (bP (I22 160 4 = 0)))) I22 L23 P24 205
          ) ∧ (¬ (I22 160 8) = 0 →
            zMv zm_X12_misplaced d [.ref 160] I22 L23 P24 (fun I38 L39 P40 =>
              zPk P40 ∧
              (bP (I38 160 4 = 0) = 0 ∨ bP (I38 160 4 = 0) = 1) ∧
              Q (some (.int (bP (I38 160 4 = 0)))) I38 L39 P40 205
            )
          ))
        ))
      )
    )
  )
set_option maxRecDepth 20000 in
theorem g_X12_readAlone {d : Nat} {Q : zQt}  {I : zI} {L : zL} {P : zP} (hP : zPk P) (hv : v_X12_readAlone d Q  I L P) : zM zm_X12_readAlone (d + 1) 0 0 [.ref 160] I L P 205 Q := by
  unfold v_X12_readAlone at hv
  refine zM_of (lv0 := [some (.ref 160)]) (by decide +kernel) (Nat.le_of_ble_eq_true rfl) rfl ?_
  refine z_aload_n dX12_readAlone_0 rfl ?_
  refine z_callV (As := []) (st := []) dX12_readAlone_1 zl_X12_258 zv_X12_beginText (by decide) rfl zn_160 zo_160 rfl rfl (Nat.le_of_ble_eq_true rfl) ⟨Nat.le_refl _, Nat.le_refl _⟩ ⟨Nat.le_refl _, Nat.le_refl _⟩ hv (fun v1 I1 L2 P3 nx1 q4 => ?_)
  obtain ⟨rfl, rfl, hv⟩ := q4
  refine z_aload_n dX12_readAlone_4 rfl ?_
  refine z_aload_n dX12_readAlone_5 rfl ?_
  refine z_getI dX12_readAlone_6 zf_X12_261 zn_160 zo_160 (fun _ _ _ _ _ => rfl) ?_
  refine z_putI dX12_readAlone_9 zf_X12_243 zn_160 zo_160 (Or.inl rfl) (fun _ _ _ _ _ => rfl) rfl rfl (z_nmI (fun I6 e7 => ?_))
  have hv := hv I6 e7
  refine z_aload_n dX12_readAlone_12 rfl ?_
  refine z_iconst (v := 2) dX12_readAlone_13 (by decide) ?_
  refine z_putI dX12_readAlone_14 zf_X12_249 zn_160 zo_160 (Or.inl rfl) (fun _ _ _ _ _ => rfl) rfl rfl (z_nmI (fun I8 e9 => ?_))
  have hv := hv I8 e9
  refine z_aload_n dX12_readAlone_17 rfl ?_
  obtain ⟨h10, hv⟩ := hv
  refine z_getP dX12_readAlone_18 zf_X12_30 zn_160 zo_160 (fun _ _ _ _ _ => rfl) (h10 160 14 166 zp_160_14) ?_
  refine z_iconst (v := 2) dX12_readAlone_21 (by decide) ?_
  refine z_iconst (v := 0) dX12_readAlone_22 (by decide) ?_
  refine z_iastore dX12_readAlone_23 zn_166 zh_166 (by unfold vp_in; decide) (z_nmI (fun I12 e11 => ?_))
  have hv := hv I12 e11
  refine z_aload_n dX12_readAlone_24 rfl ?_
  refine z_bipush (v := 30) dX12_readAlone_25 (by decide) ?_
  refine z_putI dX12_readAlone_27 zf_X12_252 zn_160 zo_160 (Or.inl rfl) (fun _ _ _ _ _ => rfl) rfl rfl (z_nmI (fun I13 e14 => ?_))
  have hv := hv I13 e14
  refine z_aload_n dX12_readAlone_30 rfl ?_
  refine z_sipush (v := 1400) dX12_readAlone_31 (by decide) ?_
  refine z_putI dX12_readAlone_34 zf_X12_246 zn_160 zo_160 (Or.inl rfl) (fun _ _ _ _ _ => rfl) rfl rfl (z_nmI (fun I15 e16 => ?_))
  have hv := hv I15 e16
  refine z_aload_n dX12_readAlone_37 rfl ?_
  refine z_callV (As := []) (st := []) dX12_readAlone_38 zl_X12_237 zv_X12_goOn (by decide) rfl zn_160 zo_160 rfl rfl (Nat.le_of_ble_eq_true rfl) ⟨Nat.le_refl _, Nat.le_refl _⟩ ⟨Nat.le_refl _, Nat.le_refl _⟩ hv (fun v1 I17 L18 P19 nx1 q20 => ?_)
  obtain ⟨rfl, rfl, hv⟩ := q20
  refine z_aload_n dX12_readAlone_41 rfl ?_
  refine z_callV (As := []) (st := []) dX12_readAlone_42 zl_X12_308 zv_X12_f (by decide) rfl zn_160 zo_160 rfl rfl (Nat.le_of_ble_eq_true rfl) ⟨Nat.le_refl _, Nat.le_refl _⟩ ⟨Nat.le_refl _, Nat.le_refl _⟩ hv (fun v1 I22 L23 P24 nx1 q25 => ?_)
  obtain ⟨rfl, rfl, hv⟩ := q25
  refine z_aload_n dX12_readAlone_45 rfl ?_
  obtain ⟨h27, hv⟩ := hv
  refine z_callV (As := []) (st := []) dX12_readAlone_46 zl_X12_233 zv_X12_isGood (by decide) rfl zn_160 zo_160 rfl rfl (Nat.le_of_ble_eq_true rfl) ⟨Nat.le_refl _, Nat.le_refl _⟩ ⟨Nat.le_refl _, Nat.le_refl _⟩ (sp_X12_isGood h27 (K := fun r I' L' P' => bP (I22 160 4 = 0) = r ∧ I22 = I' ∧ L23 = L' ∧ P24 = P') ⟨rfl, rfl, rfl, rfl⟩) (fun v1 I2 L2 P2 nx1 q29 => ?_)
  obtain ⟨rfl, r28, rfl, rfl, rfl, rfl, rfl⟩ := q29
  refine z_if_eq (tgt := 63) dX12_readAlone_49 (by decide) (fun q30 => ?_) (fun q30 => ?_)
  · have hv := hv.1 q30
    refine z_aload_n dX12_readAlone_63 rfl ?_
    refine z_callV (As := []) (st := []) dX12_readAlone_64 zl_X12_233 zv_X12_isGood (by decide) rfl zn_160 zo_160 rfl rfl (Nat.le_of_ble_eq_true rfl) ⟨Nat.le_refl _, Nat.le_refl _⟩ ⟨Nat.le_refl _, Nat.le_refl _⟩ (sp_X12_isGood h27 (K := fun r I' L' P' => bP (I22 160 4 = 0) = r ∧ I22 = I' ∧ L23 = L' ∧ P24 = P') ⟨rfl, rfl, rfl, rfl⟩) (fun v1 I2 L2 P2 nx1 q32 => ?_)
    obtain ⟨rfl, r31, rfl, rfl, rfl, rfl, rfl⟩ := q32
    obtain ⟨h33, hv⟩ := hv
    exact z_ireturn dX12_readAlone_67 rfl (zbn h33) (Nat.le_refl _) (Nat.le_refl _) hv
  · have hv := hv.2 q30
    refine z_aload_n dX12_readAlone_52 rfl ?_
    refine z_getI dX12_readAlone_53 zf_X12_205 zn_160 zo_160 (fun _ _ _ _ _ => rfl) ?_
    refine z_if_eq (tgt := 63) dX12_readAlone_56 (by decide) (fun q34 => ?_) (fun q34 => ?_)
    · have hv := hv.1 q34
      refine z_aload_n dX12_readAlone_63 rfl ?_
      refine z_callV (As := []) (st := []) dX12_readAlone_64 zl_X12_233 zv_X12_isGood (by decide) rfl zn_160 zo_160 rfl rfl (Nat.le_of_ble_eq_true rfl) ⟨Nat.le_refl _, Nat.le_refl _⟩ ⟨Nat.le_refl _, Nat.le_refl _⟩ (sp_X12_isGood h27 (K := fun r I' L' P' => bP (I22 160 4 = 0) = r ∧ I22 = I' ∧ L23 = L' ∧ P24 = P') ⟨rfl, rfl, rfl, rfl⟩) (fun v1 I2 L2 P2 nx1 q36 => ?_)
      obtain ⟨rfl, r35, rfl, rfl, rfl, rfl, rfl⟩ := q36
      obtain ⟨h37, hv⟩ := hv
      exact z_ireturn dX12_readAlone_67 rfl (zbn h37) (Nat.le_refl _) (Nat.le_refl _) hv
    · have hv := hv.2 q34
      refine z_aload_n dX12_readAlone_59 rfl ?_
      refine z_callV (As := []) (st := []) dX12_readAlone_60 zl_X12_240 zv_X12_misplaced (by decide) rfl zn_160 zo_160 rfl rfl (Nat.le_of_ble_eq_true rfl) ⟨Nat.le_refl _, Nat.le_refl _⟩ ⟨Nat.le_refl _, Nat.le_refl _⟩ hv (fun v1 I38 L39 P40 nx1 q41 => ?_)
      obtain ⟨rfl, rfl, hv⟩ := q41
      refine z_aload_n dX12_readAlone_63 rfl ?_
      obtain ⟨h43, hv⟩ := hv
      refine z_callV (As := []) (st := []) dX12_readAlone_64 zl_X12_233 zv_X12_isGood (by decide) rfl zn_160 zo_160 rfl rfl (Nat.le_of_ble_eq_true rfl) ⟨Nat.le_refl _, Nat.le_refl _⟩ ⟨Nat.le_refl _, Nat.le_refl _⟩ (sp_X12_isGood h43 (K := fun r I' L' P' => bP (I38 160 4 = 0) = r ∧ I38 = I' ∧ L39 = L' ∧ P40 = P') ⟨rfl, rfl, rfl, rfl⟩) (fun v1 I2 L2 P2 nx1 q45 => ?_)
      obtain ⟨rfl, r44, rfl, rfl, rfl, rfl, rfl⟩ := q45
      obtain ⟨h46, hv⟩ := hv
      exact z_ireturn dX12_readAlone_67 rfl (zbn h46) (Nat.le_refl _) (Nat.le_refl _) hv
theorem sp_X12_readAlone {d : Nat} {I : zI} {L : zL} {P : zP} (hP : zPk P) (hB : MB I) (hT : MTp I) (hd : 6 ≤ d) {K : Int32 → zI → zL → zP → Prop}
    (kk : ∀ T n, n = vTp I → (∀ k, k < n → T k = vTt I k) → (∀ q, aRd T n (nmB I L) = .inl q → (q.1 ≠ 0 ∧ q.1 < 100) → ∀ I' L', aFr I L I' L' → I' 160 4 = nI q.1 → I' 160 5 = nI q.2 → K 0 I' L' P) ∧
      (∀ e u c, aRd T n (nmB I L) = rO e u c → ∀ I' L', aFr I L I' L' → I' 160 4 = 0 → I' 160 5 = -1 → I' 160 32 = nI (1400 + c.length) → vCd I' 1400 c.length = cMp c → c.length ≤ 700 → cQ (vNp I) 0 0 u c → K 1 I' L' P)) : zMi zm_X12_readAlone d [.ref 160] I L P K := by
  obtain ⟨d, rfl⟩ : ∃ e, d = e + 1 := ⟨d - 1, by omega⟩
  refine g_X12_readAlone hP (sp_X12_beginText hP hT (fun I1 a1 a2 a7 a4 a5 aX aS a162 I2 e2 I3 e3 => ⟨hP, fun I4 e4 I5 e5 I6 e6 => ?_⟩))
  have c2 : (2 : Int32).toNatClampNeg = 2 := by decide
  rw [c2] at e4
  have f : zFr [166] [29, 30, 31, 32] I1 I6 := by
    rw [e6, e5, e4, e3, e2]
    exact zFr_s (zFr_s (zFr_c (zFr_s (zFr_s (zFr_rf _ _ _) (by decide)) (by decide)) (by decide) (by decide)) (by decide)) (by decide)
  have s29 : I6 160 29 = I1 160 28 := by rw [e6, zuI_o (by decide), e5, zuI_o (by decide), e4, zuI_ne (by decide), e3, zuI_o (by decide), e2, zuI_v]
  have s30 : I6 160 30 = nI 2 := by rw [e6, zuI_o (by decide), e5, zuI_o (by decide), e4, zuI_ne (by decide), e3, zuI_v]; rfl
  have s31 : I6 160 31 = nI 30 := by rw [e6, zuI_o (by decide), e5, zuI_v]; rfl
  have s32 : I6 160 32 = nI 1400 := by rw [e6, zuI_v]; rfl
  have s166 : I6 166 2 = nI 0 := by rw [e6, zuI_ne (by decide), e5, zuI_ne (by decide), e4, zuI_v]; rfl
  have o166 : ∀ k, k ≠ 2 → I6 166 k = I1 166 k := fun k hk => by rw [e6, zuI_ne (by decide), e5, zuI_ne (by decide), e4, zuI_o hk, e3, zuI_ne (by decide), e2, zuI_ne (by decide)]
  clear e2 e3 e4 e5 e6
  have f6 : zFr aC aL I I6 := zFr_tr (zFr_wk a1 (by decide) (by decide)) (zFr_wk f (by decide) (by decide))
  have X6 : MX I6 := by unfold MX vSz; rw [f.2 3 (by decide)]; exact aX
  have S6 : vSz I6 = vTp I := by unfold vSz; rw [f.2 3 (by decide)]; exact aS
  have R6 : vR I6 = vB I := by unfold vR vB; rw [s29, a1.2 28 (by decide)]
  have P6 : vRp I6 = vNp I := by unfold vRp vNp; rw [R6, f6.1 163 (by decide) (by decide)]
  have M6 : MR I6 := by
    refine ⟨by rw [R6]; exact hB.1.1, ?_, by rw [P6]; exact hB.2.1, ?_⟩
    · rw [R6, s29, a1.2 28 (by decide)]; exact hB.1.2
    · rw [R6, P6, f6.1 163 (by decide) (by decide)]; exact hB.2.2
  have g4 : I6 160 4 = 0 := by rw [f.2 4 (by decide)]; exact a4
  have g5 : I6 160 5 = -1 := by rw [f.2 5 (by decide)]; exact a5
  have g7 : I6 160 7 = nI 0 := by rw [f.2 7 (by decide)]; exact a7
  have g2 : I6 160 2 = 0 := by rw [f.2 2 (by decide)]; exact a2
  have T6 : ∀ k, k < vTp I → vTx I6 k = vTt I k := by
    intro k hk
    unfold vTx vTt
    rw [f.1 162 (by decide) (by decide), a162 k hk]
  refine sp_X12_goOn (e := 0) hP X6 (zFr_rf _ _ _) (Nat.zero_le _) g7 (by omega) (fun I7 L7 h1 h2 h3 => ?_)
  have hp : pS (vTx I6) (vSz I6) I7 L7 0 := by
    refine ⟨⟨?_, ?_, ?_, Nat.zero_le _⟩, h3⟩
    · unfold vTx; rw [h1.1 162 (by decide) (by decide)]
    · unfold vSz; rw [h1.2 3 (by decide)]
    · unfold MX vSz; rw [h1.2 3 (by decide)]; exact X6
  obtain ⟨kF, kO⟩ := kk (vTx I6) (vSz I6) S6 (fun k hk => T6 k (by omega))
  have nmE : nmF I7 L7 = nmB I L := by
    funext v
    unfold nmF nmB
    have e1 : vRp I7 = vNp I := by unfold vRp vR; rw [h1.2 29 (by decide), h1.1 163 (by decide) (by decide)]; exact P6
    rw [e1]
    refine nfD_c (fun k _ _ => ?_)
    unfold vNm vR
    rw [h2 174 _ (fun z => absurd z.1 (by decide)), h1.2 29 (by decide)]
    show L 174 (8 * vR I6 + k) = _
    rw [R6]
  have hC : cX I7 2 30 1400 271 := by
    refine ⟨?_, by decide, by rw [h1.2 30 (by decide)]; exact s30, by rw [h1.2 31 (by decide)]; exact s31, by decide, by decide⟩
    unfold MR vRp vR
    rw [h1.2 29 (by decide), h1.1 163 (by decide) (by decide)]
    exact M6
  have hnm : ∀ v k, nmB I L v = some k → k < vNp I := fun v k h => by have := nfD_lt h; omega
  obtain ⟨r1, r2⟩ := fRd_e (T := vTx I6) (n := vSz I6) (nm := nmB I L) (lim := 30) (e := 0) (u := 0) (Nat.zero_le _)
  have top := desc_top (T := vTx I6) (n := vSz I6) (nm := nmB I L) (lim := 30) (Nat.zero_le _) r1
  have aF : ∀ I' L', mJ I7 L7 1400 271 2 I' L' → aFr I L I' L' := by
    intro I' L' hj
    refine ⟨zFr_tr (zFr_tr f6 (zFr_wk h1 (by decide) (by decide))) (zFr_wk hj.1 (by decide) (by decide)), zLn_tr h2 hj.2.1, ?_, fun k hk => ?_, fun k hk => ?_⟩
    · rw [hj.1.2 2 (by decide), h1.2 2 (by decide)]; exact g2
    · rw [hj.2.2.2 k hk, h1.1 166 (by decide) (by decide), o166 k hk, a1.1 166 (by decide) (by decide)]
    · obtain ⟨y1, y2⟩ := hj.2.2.1 k (by omega)
      rw [y1, y2, h1.1 175 (by decide) (by decide), h1.1 176 (by decide) (by decide), f.1 175 (by decide) (by decide), f.1 176 (by decide) (by decide), a1.1 175 (by decide) (by decide), a1.1 176 (by decide) (by decide)]
      exact ⟨rfl, rfl⟩
  have h32 : I7 160 32 = nI 1400 := by rw [h1.2 32 (by decide)]; exact s32
  have h166 : I7 166 2 = nI 0 := by rw [h1.1 166 (by decide) (by decide)]; exact s166
  have h4 : I7 160 4 = 0 := by rw [h1.2 4 (by decide)]; exact g4
  have h5 : I7 160 5 = -1 := by rw [h1.2 5 (by decide)]; exact g5
  have hq := (desc_q (T := vTx I6) (n := vSz I6) (lim := 30) hnm (2 * vSz I6 + 3)).1 0 0 0 0
  unfold aRd at kF kO
  revert top r1 kF kO
  match fRd (vTx I6) (vSz I6) (nmB I L) 30 0 0 with
  | .inl q =>
    intro kF kO r1 top
    refine sp_X12_f (u0 := 0) (lim := 30) (b := 1400) (R := 271) (ua := 2) hP hC rfl (by decide) h4 hp h32 h166 (by omega) (r := .inl q) (by rw [nmE]; exact top) (fun hk I' L' j1 j2 j3 _ => ?_)
    have hz : ¬ I' 160 4 = 0 := by rw [j2, nI_zero (by omega)]; exact hk.1
    refine ⟨hP, fun _ => ⟨bP_or _, ?_⟩, fun z => absurd (bP_n.mp z) hz⟩
    rw [bP_f hz]
    exact qi (kF q rfl hk I' L' (aF I' L' j1) j2 j3)
  | .inr (e, u, c) =>
    intro kF kO r1 top
    obtain ⟨t1, t2, t3⟩ := top
    by_cases hx : rkH (tK (vTx I6) (vSz I6) e) = 4
    · have hk : tK (vTx I6) (vSz I6) e ≠ 275 := fun z => by rw [z] at hx; exact absurd hx (by decide)
      refine sp_X12_f (u0 := 0) (lim := 30) (b := 1400) (R := 271) (ua := 2) hP hC rfl (by decide) h4 hp h32 h166 (by omega) (r := mBad (vTx I6) (vSz I6) e) (by rw [nmE]; exact t2 hx) (fun hk' I' L' j1 j2 j3 _ => ?_)
      have hz : ¬ I' 160 4 = 0 := by rw [j2, nI_zero (by omega)]; exact hk'.1
      refine ⟨hP, fun _ => ⟨bP_or _, ?_⟩, fun z => absurd (bP_n.mp z) hz⟩
      rw [bP_f hz]
      exact qi (kF (mis (vTx I6) (vSz I6) e, tA (vTx I6) (vSz I6) e) (if_neg hk) hk' I' L' (aF I' L' j1) j2 j3)
    · obtain ⟨t4, t5⟩ := t3 hx
      refine sp_X12_f (u0 := 0) (lim := 30) (b := 1400) (R := 271) (ua := 2) hP hC rfl (by decide) h4 hp h32 h166 (by omega) (r := mT false [] 0 e u (cMp c)) (by rw [nmE]; exact t5) (fun hv I' L' hm => ?_)
      have hg : I' 160 4 = 0 := hm.2.2.1.1
      have hk0 := (pS_k hm.2.1).1
      refine ⟨hP, fun z => absurd hg (bP_0.mp z), fun _ => ⟨fun z => ⟨bP_or _, ?_⟩, fun z => ?_⟩⟩
      · rw [hk0] at z
        rw [bP_t hg]
        obtain ⟨-, q1⟩ := hq e u c r1 (by decide) (by decide)
        have hl : (cMp c).length = c.length := List.length_map ..
        have := q1.1.2
        refine qi (kO e u c (if_pos z) I' L' (aF I' L' hm.1) hg (by rw [hm.2.2.1.2]; exact h5) ?_ ?_ (by omega) q1)
        · rw [hm.2.2.2.2.2.1.1, hl]
        · have := hm.2.2.2.2.2.1.2; rw [hl] at this; exact this
      · rw [hk0] at z
        have m := mis_nz (vTx I6) (vSz I6) e
        have v := pFt_v I' (mis (vTx I6) (vSz I6) e) (tA (vTx I6) (vSz I6) e)
        have hz : ¬ pFt I' (mis (vTx I6) (vSz I6) e) (tA (vTx I6) (vSz I6) e) 160 4 = 0 := by rw [v.1, nI_zero (by omega)]; exact m.1
        refine sp_X12_misplaced hP hg hm.2.1 (by omega) ⟨hP, bP_or _, ?_⟩
        rw [bP_f hz]
        exact qi (kF (mis (vTx I6) (vSz I6) e, tA (vTx I6) (vSz I6) e) (if_neg z) m _ L' (aF _ L' (mN_ft _ _ hm).1) v.1 v.2)
