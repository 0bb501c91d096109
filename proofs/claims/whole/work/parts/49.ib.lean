/-! ===== the model: one of the people ===== -/
section ISL
variable {rb : Nat} {I : zI} {L : zL} {A : Ai}
theorem iM_R (h : iM rb I L A) : vR I = rb ∧ vRp I = A.1 0 ∧ MR I := by
  obtain ⟨⟨h1, h2⟩, ⟨h3, h4⟩, -⟩ := h
  have e : vR I = rb := by unfold vR; rw [h1, nI_cl (by omega)]
  have e2 : vRp I = A.1 0 := by unfold vRp; rw [e, h4, nI_cl (by omega)]
  exact ⟨e, e2, by rw [e]; exact h2, by rw [e]; exact h1, by rw [e2]; exact h3, by rw [e, e2]; exact h4⟩
/-- who has that name -/
def aNm (A : Ai) (v : Int64) : Option Nat := nfD A.2.1 v (A.1 0) 0
theorem iM_nm (h : iM rb I L A) (v : Int64) : nfD (vNm I L) v (vRp I) 0 = aNm A v := by
  obtain ⟨e1, e2, -⟩ := iM_R h
  unfold aNm
  rw [e2]
  refine nfD_c (fun k _ hk => ?_)
  unfold vNm
  rw [e1]
  exact (h.2.2.2.2.2.2.2.2.1 k (by omega)).2.2.2.2
end ISL
theorem see_n : ∀ p, p < 8 → ((255 : Int32) &&& (((1 : Int32) <<< (nI p &&& 31) : Int32) ^^^ (-1) : Int32) : Int32) = nI (255 - 2 ^ p) := by decide +kernel
/-- the token behind a flag, if it stands there -/
noncomputable def skF (T : Nat → Int32) (n k e : Nat) : Nat := @ite _ (tK T n e = k) (Classical.propDecidable _) (tE T n e) e
/-- while one is read -/
def oS (T : Nat → Int32) (n rb np : Nat) (I0 : zI) (L0 : zL) (v : Int64) (I : zI) (L : zL) (e : Nat) : Prop :=
  pS T n I L e ∧ I 160 4 = 0 ∧ zFr [167, 168, 173] gS I0 I ∧ (∀ j, j ≠ rb → I 167 j = I0 167 j) ∧ (∀ j, j ≠ 8 * rb + np → I 168 j = I0 168 j ∧ I 173 j = I0 173 j) ∧ (∀ a j, ¬ (a = 160 ∧ j = 10) → ¬ (a = 174 ∧ j = 8 * rb + np) → L a j = L0 a j) ∧ L 174 (8 * rb + np) = v
theorem oS_go {T : Nat → Int32} {n rb np e e' : Nat} {I0 I I' : zI} {L0 L L' : zL} {v : Int64} (h : oS T n rb np I0 L0 v I L e) (hf : zFr [] gS I I') (hL : zLn L L') (hp : pS T n I' L' e') : oS T n rb np I0 L0 v I' L' e' := by
  obtain ⟨h1, h2, h3, h4, h5, h6, h7⟩ := h
  refine ⟨hp, by rw [hf.2 4 (by decide)]; exact h2, zFr_tr h3 (zFr_wk hf (by simp) (by decide)), fun j hj => ?_, fun j hj => ?_, fun a j p q => ?_, ?_⟩
  · rw [hf.1 167 (by simp) (by decide)]; exact h4 j hj
  · rw [hf.1 168 (by simp) (by decide), hf.1 173 (by simp) (by decide)]; exact h5 j hj
  · rw [hL a j p]; exact h6 a j p q
  · rw [hL 174 _ (fun z => absurd z.1 (by decide))]; exact h7
theorem oS_167 {T : Nat → Int32} {n rb np e : Nat} {I0 I : zI} {L0 L : zL} {v : Int64} {x : Int32} (h : oS T n rb np I0 L0 v I L e) : oS T n rb np I0 L0 v (zuI I 167 rb x) L e := by
  obtain ⟨h1, h2, h3, h4, h5, h6, h7⟩ := h
  have hf : zFr [167] [] I (zuI I 167 rb x) := zFr_c (zFr_rf _ _ _) (by decide) (by decide)
  refine ⟨pS_fr h1 hf (by decide) (by decide) (by decide) (by decide) (by decide) (by decide) rfl, by rw [hf.2 4 (by simp)]; exact h2, zFr_tr h3 (zFr_wk hf (by decide) (by simp)), fun j hj => ?_, fun j hj => ?_, h6, h7⟩
  · rw [zuI_o hj]; exact h4 j hj
  · rw [hf.1 168 (by decide) (by decide), hf.1 173 (by decide) (by decide)]; exact h5 j hj
theorem oS_168 {T : Nat → Int32} {n rb np e : Nat} {I0 I : zI} {L0 L : zL} {v : Int64} {x : Int32} (h : oS T n rb np I0 L0 v I L e) : oS T n rb np I0 L0 v (zuI I 168 (8 * rb + np) x) L e := by
  obtain ⟨h1, h2, h3, h4, h5, h6, h7⟩ := h
  have hf : zFr [168] [] I (zuI I 168 (8 * rb + np) x) := zFr_c (zFr_rf _ _ _) (by decide) (by decide)
  refine ⟨pS_fr h1 hf (by decide) (by decide) (by decide) (by decide) (by decide) (by decide) rfl, by rw [hf.2 4 (by simp)]; exact h2, zFr_tr h3 (zFr_wk hf (by decide) (by simp)), fun j hj => ?_, fun j hj => ?_, h6, h7⟩
  · rw [hf.1 167 (by decide) (by decide)]; exact h4 j hj
  · rw [zuI_o hj, hf.1 173 (by decide) (by decide)]; exact h5 j hj
theorem oS_173 {T : Nat → Int32} {n rb np e : Nat} {I0 I : zI} {L0 L : zL} {v : Int64} {x : Int32} (h : oS T n rb np I0 L0 v I L e) : oS T n rb np I0 L0 v (zuI I 173 (8 * rb + np) x) L e := by
  obtain ⟨h1, h2, h3, h4, h5, h6, h7⟩ := h
  have hf : zFr [173] [] I (zuI I 173 (8 * rb + np) x) := zFr_c (zFr_rf _ _ _) (by decide) (by decide)
  refine ⟨pS_fr h1 hf (by decide) (by decide) (by decide) (by decide) (by decide) (by decide) rfl, by rw [hf.2 4 (by simp)]; exact h2, zFr_tr h3 (zFr_wk hf (by decide) (by simp)), fun j hj => ?_, fun j hj => ?_, h6, h7⟩
  · rw [hf.1 167 (by decide) (by decide)]; exact h4 j hj
  · rw [zuI_o hj, hf.1 168 (by decide) (by decide)]; exact h5 j hj
abbrev gw_X12_readOne (d : Nat) (Q : zQt) (pc : Nat) (lv : zV) (st : List Value) (I : zI) (L : zL) (P : zP) : Prop := zW zm_X12_readOne (zRm d 0 0) 0 0 Q pc lv st I L P 205 0 0
abbrev v_X12_readOne_142 (d : Nat) (Q : zQt) (x1 : Int32) (t0 : Int32) (t1 : Int32) (I : zI) (L : zL) (P : zP) : Prop :=
  vp_in t1 16 ∧
  ∀ I95 : zI, I95 = zuI I 168 t1.toNatClampNeg t0 →
  zMi zm_X12_flag d [.ref 160, .long 495873784179] I95 L P (fun r100 I96 L97 P98 =>
    vp_in x1 16 ∧
    (r100 = 0 ∨ r100 = 1) ∧
    ∀ I103 : zI, I103 = zuI I96 173 x1.toNatClampNeg r100 →
    zPk P98 ∧
    vp_in (I103 160 29) 2 ∧
    ∀ I108 : zI, I108 = zuI I103 163 (I103 160 29).toNatClampNeg ((I103 163 (I103 160 29).toNatClampNeg) + 1) →
    Q none I108 L97 P98 205
  )
set_option maxRecDepth 20000 in
theorem g_X12_readOne_142 {d : Nat} {Q : zQt} {x1 : Int32} {t0 : Int32} {t1 : Int32} {I : zI} {L : zL} {P : zP} (hP : zPk P) (hv : v_X12_readOne_142 d Q x1 t0 t1 I L P) : gw_X12_readOne (d + 1) Q 142 [some (.ref 160), some (.int x1)] [.int t0, .int t1, .ref 168] I L P := by
  unfold v_X12_readOne_142 at hv
  obtain ⟨h93, hv⟩ := hv
  refine z_iastore dX12_readOne_142 zn_168 zh_168 h93 (z_nmI (fun I95 e94 => ?_))
  have hv := hv I95 e94
  refine z_aload_n dX12_readOne_143 rfl ?_
  refine z_getP dX12_readOne_144 zf_X12_52 zn_160 zo_160 (fun _ _ _ _ _ => rfl) (hP 160 21 173 zp_160_21) ?_
  refine z_iload_n dX12_readOne_147 rfl ?_
  refine z_aload_n dX12_readOne_148 rfl ?_
  refine z_ldc2 (v := 495873784179) dX12_readOne_149 zj_X12_167 ?_
  refine z_callV (As := [.long 495873784179]) (st := [.int x1, .ref 173]) dX12_readOne_152 zl_X12_302 zv_X12_flag (by decide) rfl zn_160 zo_160 rfl rfl (Nat.le_of_ble_eq_true rfl) ⟨Nat.le_refl _, Nat.le_refl _⟩ ⟨Nat.le_refl _, Nat.le_refl _⟩ hv (fun v1 I96 L97 P98 nx1 q99 => ?_)
  obtain ⟨rfl, r100, rfl, hv⟩ := q99
  obtain ⟨h101, hv⟩ := hv
  obtain ⟨h104, hv⟩ := hv
  refine z_zastore dX12_readOne_155 zn_173 zh_173 h101 (zbn h104) (z_nmI (fun I103 e102 => ?_))
  have hv := hv I103 e102
  refine z_aload_n dX12_readOne_156 rfl ?_
  obtain ⟨h105, hv⟩ := hv
  refine z_getP dX12_readOne_157 zf_X12_20 zn_160 zo_160 (fun _ _ _ _ _ => rfl) (h105 160 11 163 zp_160_11) ?_
  refine z_aload_n dX12_readOne_160 rfl ?_
  refine z_getI dX12_readOne_161 zf_X12_243 zn_160 zo_160 (fun _ _ _ _ _ => rfl) ?_
  refine z_dup2 dX12_readOne_164 rfl rfl ?_
  obtain ⟨h106, hv⟩ := hv
  refine z_iaload dX12_readOne_165 zn_163 zh_163 h106 ?_
  refine z_iconst (v := 1) dX12_readOne_166 (by decide) ?_
  refine z_iadd dX12_readOne_167 ?_
  refine z_iastore dX12_readOne_168 zn_163 zh_163 h106 (z_nmI (fun I108 e107 => ?_))
  have hv := hv I108 e107
  exact z_return dX12_readOne_169 rfl (Nat.le_refl _) (Nat.le_refl _) hv
abbrev v_X12_readOne_104 (d : Nat) (Q : zQt) (x1 : Int32) (I : zI) (L : zL) (P : zP) : Prop :=
  zMi zm_X12_flag d [.ref 160, .long 120299659095922] I L P (fun r89 I85 L86 P87 =>
    ((r89 = 0 →
      zPk P87 ∧
      vp_in (I85 160 29) 2 ∧
      gw_X12_readOne (d + 1) Q 142 [some (.ref 160), some (.int x1)] [.int ((255 : Int32) &&& (((1 : Int32) <<< ((I85 163 (I85 160 29).toNatClampNeg) &&& 31) : Int32) ^^^ (-1) : Int32) : Int32), .int x1, .ref 168] I85 L86 P87
    ) ∧ (¬ r89 = 0 →
      gw_X12_readOne (d + 1) Q 142 [some (.ref 160), some (.int x1)] [.int 255, .int x1, .ref 168] I85 L86 P87
    ))
  )
set_option maxRecDepth 20000 in
theorem g_X12_readOne_104 {d : Nat} {Q : zQt} {x1 : Int32} {I : zI} {L : zL} {P : zP} (hP : zPk P) (hv : v_X12_readOne_104 d Q x1 I L P) : gw_X12_readOne (d + 1) Q 104 [some (.ref 160), some (.int x1)] [] I L P := by
  unfold v_X12_readOne_104 at hv
  refine z_aload_n dX12_readOne_104 rfl ?_
  refine z_getP dX12_readOne_105 zf_X12_36 zn_160 zo_160 (fun _ _ _ _ _ => rfl) (hP 160 16 168 zp_160_16) ?_
  refine z_iload_n dX12_readOne_108 rfl ?_
  refine z_aload_n dX12_readOne_109 rfl ?_
  refine z_ldc2 (v := 120299659095922) dX12_readOne_110 zj_X12_165 ?_
  refine z_callV (As := [.long 120299659095922]) (st := [.int x1, .ref 168]) dX12_readOne_113 zl_X12_302 zv_X12_flag (by decide) rfl zn_160 zo_160 rfl rfl (Nat.le_of_ble_eq_true rfl) ⟨Nat.le_refl _, Nat.le_refl _⟩ ⟨Nat.le_refl _, Nat.le_refl _⟩ hv (fun v1 I85 L86 P87 nx1 q88 => ?_)
  obtain ⟨rfl, r89, rfl, hv⟩ := q88
  refine z_if_eq (tgt := 125) dX12_readOne_116 (by decide) (fun q90 => ?_) (fun q90 => ?_)
  · have hv := hv.1 q90
    refine z_sipush (v := 255) dX12_readOne_125 (by decide) ?_
    refine z_iconst (v := 1) dX12_readOne_128 (by decide) ?_
    refine z_aload_n dX12_readOne_129 rfl ?_
    obtain ⟨h91, hv⟩ := hv
    refine z_getP dX12_readOne_130 zf_X12_20 zn_160 zo_160 (fun _ _ _ _ _ => rfl) (h91 160 11 163 zp_160_11) ?_
    refine z_aload_n dX12_readOne_133 rfl ?_
    refine z_getI dX12_readOne_134 zf_X12_243 zn_160 zo_160 (fun _ _ _ _ _ => rfl) ?_
    obtain ⟨h92, hv⟩ := hv
    refine z_iaload dX12_readOne_137 zn_163 zh_163 h92 ?_
    refine z_ishl dX12_readOne_138 ?_
    refine z_iconst (v := (-1)) dX12_readOne_139 (by decide) ?_
    refine z_ixor dX12_readOne_140 ?_
    refine z_iand dX12_readOne_141 ?_
    exact hv
  · have hv := hv.2 q90
    refine z_sipush (v := 255) dX12_readOne_119 (by decide) ?_
    refine z_goto (tgt := 142) dX12_readOne_122 (by decide) ?_
    exact hv
abbrev v_X12_readOne (d : Nat) (Q : zQt)  (I : zI) (L : zL) (P : zP) : Prop :=
  vp_in (I 160 29) 2 ∧
  (((I 160 8) = 2 →
    zMi zm_X12_here d [.ref 160] I L P (fun r7 I3 L4 P5 =>
      ((r7 < 0 →
        zPk P5 ∧
        ((¬ (bP (I3 160 4 = 0)) = 0 →
          vp_in (((8 : Int32) * (I 160 29)) + (I 163 (I 160 29).toNatClampNeg)) 16 ∧
          ∀ L15 : zL, L15 = zuL L4 174 (((8 : Int32) * (I 160 29)) + (I 163 (I 160 29).toNatClampNeg)).toNatClampNeg (L4 160 10) →
          zMv zm_X12_goOn d [.ref 160] I3 L15 P5 (fun I16 L17 P18 =>
            zMi zm_X12_flag d [.ref 160, .long 120265298896228] I16 L17 P18 (fun r25 I21 L22 P23 =>
              ((r25 = 0 →
                gw_X12_readOne (d + 1) Q 104 [some (.ref 160), some (.int (((8 : Int32) * (I 160 29)) + (I 163 (I 160 29).toNatClampNeg)))] [] I21 L22 P23
              ) ∧ (¬ r25 = 0 →
                zPk P23 ∧
                vp_in (I21 160 29) 2 ∧
                ∀ I30 : zI, I30 = zuI I21 167 (I21 160 29).toNatClampNeg ((I21 167 (I21 160 29).toNatClampNeg) ||| ((1 : Int32) <<< ((I21 163 (I21 160 29).toNatClampNeg) &&& 31) : Int32) : Int32) →
                gw_X12_readOne (d + 1) Q 104 [some (.ref 160), some (.int (((8 : Int32) * (I 160 29)) + (I 163 (I 160 29).toNatClampNeg)))] [] I30 L22 P23
              ))
            )
          )
        ) ∧ ((bP (I3 160 4 = 0)) = 0 →
          Q none I3 L4 P5 205
        ))
      ) ∧ (¬ r7 < 0 →
        zMv zm_X12_fails d [.ref 160, .int 3, .int (I3 160 6)] I3 L4 P5 (fun I31 L32 P33 =>
          zPk P33 ∧
          ((¬ (bP (I31 160 4 = 0)) = 0 →
            vp_in (((8 : Int32) * (I 160 29)) + (I 163 (I 160 29).toNatClampNeg)) 16 ∧
            ∀ L42 : zL, L42 = zuL L32 174 (((8 : Int32) * (I 160 29)) + (I 163 (I 160 29).toNatClampNeg)).toNatClampNeg (L32 160 10) →
            zMv zm_X12_goOn d [.ref 160] I31 L42 P33 (fun I43 L44 P45 =>
              zMi zm_X12_flag d [.ref 160, .long 120265298896228] I43 L44 P45 (fun r52 I48 L49 P50 =>
                ((r52 = 0 →
                  gw_X12_readOne (d + 1) Q 104 [some (.ref 160), some (.int (((8 : Int32) * (I 160 29)) + (I 163 (I 160 29).toNatClampNeg)))] [] I48 L49 P50
                ) ∧ (¬ r52 = 0 →
                  zPk P50 ∧
                  vp_in (I48 160 29) 2 ∧
                  ∀ I57 : zI, I57 = zuI I48 167 (I48 160 29).toNatClampNeg ((I48 167 (I48 160 29).toNatClampNeg) ||| ((1 : Int32) <<< ((I48 163 (I48 160 29).toNatClampNeg) &&& 31) : Int32) : Int32) →
                  gw_X12_readOne (d + 1) Q 104 [some (.ref 160), some (.int (((8 : Int32) * (I 160 29)) + (I 163 (I 160 29).toNatClampNeg)))] [] I57 L49 P50
                ))
              )
            )
          ) ∧ ((bP (I31 160 4 = 0)) = 0 →
            Q none I31 L32 P33 205
          ))
        )
      ))
    )
  ) ∧ (¬ (I 160 8) = 2 →
    zMv zm_X12_misplaced d [.ref 160] I L P (fun I58 L59 P60 =>
      zPk P60 ∧
      ((¬ (bP (I58 160 4 = 0)) = 0 →
        vp_in (((8 : Int32) * (I 160 29)) + (I 163 (I 160 29).toNatClampNeg)) 16 ∧
        ∀ L69 : zL, L69 = zuL L59 174 (((8 : Int32) * (I 160 29)) + (I 163 (I 160 29).toNatClampNeg)).toNatClampNeg (L59 160 10) →
        zMv zm_X12_goOn d [.ref 160] I58 L69 P60 (fun I70 L71 P72 =>
          zMi zm_X12_flag d [.ref 160, .long 120265298896228] I70 L71 P72 (fun r79 I75 L76 P77 =>
            ((r79 = 0 →
              gw_X12_readOne (d + 1) Q 104 [some (.ref 160), some (.int (((8 : Int32) * (I 160 29)) + (I 163 (I 160 29).toNatClampNeg)))] [] I75 L76 P77
            ) ∧ (¬ r79 = 0 →
              zPk P77 ∧
              vp_in (I75 160 29) 2 ∧
              ∀ I84 : zI, I84 = zuI I75 167 (I75 160 29).toNatClampNeg ((I75 167 (I75 160 29).toNatClampNeg) ||| ((1 : Int32) <<< ((I75 163 (I75 160 29).toNatClampNeg) &&& 31) : Int32) : Int32) →
              gw_X12_readOne (d + 1) Q 104 [some (.ref 160), some (.int (((8 : Int32) * (I 160 29)) + (I 163 (I 160 29).toNatClampNeg)))] [] I84 L76 P77
            ))
          )
        )
      ) ∧ ((bP (I58 160 4 = 0)) = 0 →
        Q none I58 L59 P60 205
      ))
    )
  ))
set_option maxRecDepth 20000 in
theorem g_X12_readOne {d : Nat} {Q : zQt}  {I : zI} {L : zL} {P : zP} (hP : zPk P) (hv : v_X12_readOne d Q  I L P) : zM zm_X12_readOne (d + 1) 0 0 [.ref 160] I L P 205 Q := by
  unfold v_X12_readOne at hv
  refine zM_of (lv0 := [some (.ref 160), none]) (by decide +kernel) (Nat.le_of_ble_eq_true rfl) rfl ?_
  refine z_bipush (v := 8) dX12_readOne_0 (by decide) ?_
  refine z_aload_n dX12_readOne_2 rfl ?_
  refine z_getI dX12_readOne_3 zf_X12_243 zn_160 zo_160 (fun _ _ _ _ _ => rfl) ?_
  refine z_imul dX12_readOne_6 ?_
  refine z_aload_n dX12_readOne_7 rfl ?_
  refine z_getP dX12_readOne_8 zf_X12_20 zn_160 zo_160 (fun _ _ _ _ _ => rfl) (hP 160 11 163 zp_160_11) ?_
  refine z_aload_n dX12_readOne_11 rfl ?_
  refine z_getI dX12_readOne_12 zf_X12_243 zn_160 zo_160 (fun _ _ _ _ _ => rfl) ?_
  obtain ⟨h1, hv⟩ := hv
  refine z_iaload dX12_readOne_15 zn_163 zh_163 h1 ?_
  refine z_iadd dX12_readOne_16 ?_
  refine z_istore_n (lv2 := [some (.ref 160), some (.int (((8 : Int32) * (I 160 29)) + (I 163 (I 160 29).toNatClampNeg)))]) dX12_readOne_17 (by decide) rfl rfl ?_
  refine z_aload_n dX12_readOne_18 rfl ?_
  refine z_getI dX12_readOne_19 zf_X12_205 zn_160 zo_160 (fun _ _ _ _ _ => rfl) ?_
  refine z_iconst (v := 2) dX12_readOne_22 (by decide) ?_
  refine z_icmp_eq (tgt := 33) dX12_readOne_23 (by decide) (fun q2 => ?_) (fun q2 => ?_)
  · have hv := hv.1 q2
    refine z_aload_n dX12_readOne_33 rfl ?_
    refine z_callV (As := []) (st := []) dX12_readOne_34 zl_X12_298 zv_X12_here (by decide) rfl zn_160 zo_160 rfl rfl (Nat.le_of_ble_eq_true rfl) ⟨Nat.le_refl _, Nat.le_refl _⟩ ⟨Nat.le_refl _, Nat.le_refl _⟩ hv (fun v1 I3 L4 P5 nx1 q6 => ?_)
    obtain ⟨rfl, r7, rfl, hv⟩ := q6
    refine z_if_lt (tgt := 49) dX12_readOne_37 (by decide) (fun q8 => ?_) (fun q8 => ?_)
    · have hv := hv.1 q8
      refine z_aload_n dX12_readOne_49 rfl ?_
      obtain ⟨h9, hv⟩ := hv
      refine z_callV (As := []) (st := []) dX12_readOne_50 zl_X12_233 zv_X12_isGood (by decide) rfl zn_160 zo_160 rfl rfl (Nat.le_of_ble_eq_true rfl) ⟨Nat.le_refl _, Nat.le_refl _⟩ ⟨Nat.le_refl _, Nat.le_refl _⟩ (sp_X12_isGood h9 (K := fun r I' L' P' => bP (I3 160 4 = 0) = r ∧ I3 = I' ∧ L4 = L' ∧ P5 = P') ⟨rfl, rfl, rfl, rfl⟩) (fun v1 I2 L2 P2 nx1 q11 => ?_)
      obtain ⟨rfl, r10, rfl, rfl, rfl, rfl, rfl⟩ := q11
      refine z_if_ne (tgt := 57) dX12_readOne_53 (by decide) (fun q12 => ?_) (fun q12 => ?_)
      · have hv := hv.1 q12
        refine z_aload_n dX12_readOne_57 rfl ?_
        refine z_getP dX12_readOne_58 zf_X12_55 zn_160 zo_160 (fun _ _ _ _ _ => rfl) (h9 160 22 174 zp_160_22) ?_
        refine z_iload_n dX12_readOne_61 rfl ?_
        refine z_aload_n dX12_readOne_62 rfl ?_
        refine z_getL dX12_readOne_63 zf_X12_212 zn_160 zo_160 (fun _ _ _ _ _ => rfl) ?_
        obtain ⟨h13, hv⟩ := hv
        refine z_lastore dX12_readOne_66 zn_174 zh_174 h13 (z_nmL (fun L15 e14 => ?_))
        have hv := hv L15 e14
        refine z_aload_n dX12_readOne_67 rfl ?_
        refine z_callV (As := []) (st := []) dX12_readOne_68 zl_X12_237 zv_X12_goOn (by decide) rfl zn_160 zo_160 rfl rfl (Nat.le_of_ble_eq_true rfl) ⟨Nat.le_refl _, Nat.le_refl _⟩ ⟨Nat.le_refl _, Nat.le_refl _⟩ hv (fun v1 I16 L17 P18 nx1 q19 => ?_)
        obtain ⟨rfl, rfl, hv⟩ := q19
        refine z_aload_n dX12_readOne_71 rfl ?_
        refine z_ldc2 (v := 120265298896228) dX12_readOne_72 zj_X12_163 ?_
        refine z_callV (As := [.long 120265298896228]) (st := []) dX12_readOne_75 zl_X12_302 zv_X12_flag (by decide) rfl zn_160 zo_160 rfl rfl (Nat.le_of_ble_eq_true rfl) ⟨Nat.le_refl _, Nat.le_refl _⟩ ⟨Nat.le_refl _, Nat.le_refl _⟩ hv (fun v1 I21 L22 P23 nx1 q24 => ?_)
        obtain ⟨rfl, r25, rfl, hv⟩ := q24
        refine z_if_eq (tgt := 104) dX12_readOne_78 (by decide) (fun q26 => ?_) (fun q26 => ?_)
        · have hv := hv.1 q26
          exact hv
        · have hv := hv.2 q26
          refine z_aload_n dX12_readOne_81 rfl ?_
          obtain ⟨h27, hv⟩ := hv
          refine z_getP dX12_readOne_82 zf_X12_33 zn_160 zo_160 (fun _ _ _ _ _ => rfl) (h27 160 15 167 zp_160_15) ?_
          refine z_aload_n dX12_readOne_85 rfl ?_
          refine z_getI dX12_readOne_86 zf_X12_243 zn_160 zo_160 (fun _ _ _ _ _ => rfl) ?_
          refine z_dup2 dX12_readOne_89 rfl rfl ?_
          obtain ⟨h28, hv⟩ := hv
          refine z_iaload dX12_readOne_90 zn_167 zh_167 h28 ?_
          refine z_iconst (v := 1) dX12_readOne_91 (by decide) ?_
          refine z_aload_n dX12_readOne_92 rfl ?_
          refine z_getP dX12_readOne_93 zf_X12_20 zn_160 zo_160 (fun _ _ _ _ _ => rfl) (h27 160 11 163 zp_160_11) ?_
          refine z_aload_n dX12_readOne_96 rfl ?_
          refine z_getI dX12_readOne_97 zf_X12_243 zn_160 zo_160 (fun _ _ _ _ _ => rfl) ?_
          refine z_iaload dX12_readOne_100 zn_163 zh_163 h28 ?_
          refine z_ishl dX12_readOne_101 ?_
          refine z_ior dX12_readOne_102 ?_
          refine z_iastore dX12_readOne_103 zn_167 zh_167 h28 (z_nmI (fun I30 e29 => ?_))
          have hv := hv I30 e29
          exact hv
      · have hv := hv.2 q12
        exact z_return dX12_readOne_56 rfl (Nat.le_refl _) (Nat.le_refl _) hv
    · have hv := hv.2 q8
      refine z_aload_n dX12_readOne_40 rfl ?_
      refine z_iconst (v := 3) dX12_readOne_41 (by decide) ?_
      refine z_aload_n dX12_readOne_42 rfl ?_
      refine z_getI dX12_readOne_43 zf_X12_198 zn_160 zo_160 (fun _ _ _ _ _ => rfl) ?_
      refine z_callV (As := [.int 3, .int (I3 160 6)]) (st := []) dX12_readOne_46 zl_X12_229 zv_X12_fails (by decide) rfl zn_160 zo_160 rfl rfl (Nat.le_of_ble_eq_true rfl) ⟨Nat.le_refl _, Nat.le_refl _⟩ ⟨Nat.le_refl _, Nat.le_refl _⟩ hv (fun v1 I31 L32 P33 nx1 q34 => ?_)
      obtain ⟨rfl, rfl, hv⟩ := q34
      refine z_aload_n dX12_readOne_49 rfl ?_
      obtain ⟨h36, hv⟩ := hv
      refine z_callV (As := []) (st := []) dX12_readOne_50 zl_X12_233 zv_X12_isGood (by decide) rfl zn_160 zo_160 rfl rfl (Nat.le_of_ble_eq_true rfl) ⟨Nat.le_refl _, Nat.le_refl _⟩ ⟨Nat.le_refl _, Nat.le_refl _⟩ (sp_X12_isGood h36 (K := fun r I' L' P' => bP (I31 160 4 = 0) = r ∧ I31 = I' ∧ L32 = L' ∧ P33 = P') ⟨rfl, rfl, rfl, rfl⟩) (fun v1 I2 L2 P2 nx1 q38 => ?_)
      obtain ⟨rfl, r37, rfl, rfl, rfl, rfl, rfl⟩ := q38
      refine z_if_ne (tgt := 57) dX12_readOne_53 (by decide) (fun q39 => ?_) (fun q39 => ?_)
      · have hv := hv.1 q39
        refine z_aload_n dX12_readOne_57 rfl ?_
        refine z_getP dX12_readOne_58 zf_X12_55 zn_160 zo_160 (fun _ _ _ _ _ => rfl) (h36 160 22 174 zp_160_22) ?_
        refine z_iload_n dX12_readOne_61 rfl ?_
        refine z_aload_n dX12_readOne_62 rfl ?_
        refine z_getL dX12_readOne_63 zf_X12_212 zn_160 zo_160 (fun _ _ _ _ _ => rfl) ?_
        obtain ⟨h40, hv⟩ := hv
        refine z_lastore dX12_readOne_66 zn_174 zh_174 h40 (z_nmL (fun L42 e41 => ?_))
        have hv := hv L42 e41
        refine z_aload_n dX12_readOne_67 rfl ?_
        refine z_callV (As := []) (st := []) dX12_readOne_68 zl_X12_237 zv_X12_goOn (by decide) rfl zn_160 zo_160 rfl rfl (Nat.le_of_ble_eq_true rfl) ⟨Nat.le_refl _, Nat.le_refl _⟩ ⟨Nat.le_refl _, Nat.le_refl _⟩ hv (fun v1 I43 L44 P45 nx1 q46 => ?_)
        obtain ⟨rfl, rfl, hv⟩ := q46
        refine z_aload_n dX12_readOne_71 rfl ?_
        refine z_ldc2 (v := 120265298896228) dX12_readOne_72 zj_X12_163 ?_
        refine z_callV (As := [.long 120265298896228]) (st := []) dX12_readOne_75 zl_X12_302 zv_X12_flag (by decide) rfl zn_160 zo_160 rfl rfl (Nat.le_of_ble_eq_true rfl) ⟨Nat.le_refl _, Nat.le_refl _⟩ ⟨Nat.le_refl _, Nat.le_refl _⟩ hv (fun v1 I48 L49 P50 nx1 q51 => ?_)
        obtain ⟨rfl, r52, rfl, hv⟩ := q51
        refine z_if_eq (tgt := 104) dX12_readOne_78 (by decide) (fun q53 => ?_) (fun q53 => ?_)
        · have hv := hv.1 q53
          exact hv
        · have hv := hv.2 q53
          refine z_aload_n dX12_readOne_81 rfl ?_
          obtain ⟨h54, hv⟩ := hv
          refine z_getP dX12_readOne_82 zf_X12_33 zn_160 zo_160 (fun _ _ _ _ _ => rfl) (h54 160 15 167 zp_160_15) ?_
          refine z_aload_n dX12_readOne_85 rfl ?_
          refine z_getI dX12_readOne_86 zf_X12_243 zn_160 zo_160 (fun _ _ _ _ _ => rfl) ?_
          refine z_dup2 dX12_readOne_89 rfl rfl ?_
          obtain ⟨h55, hv⟩ := hv
          refine z_iaload dX12_readOne_90 zn_167 zh_167 h55 ?_
          refine z_iconst (v := 1) dX12_readOne_91 (by decide) ?_
          refine z_aload_n dX12_readOne_92 rfl ?_
          refine z_getP dX12_readOne_93 zf_X12_20 zn_160 zo_160 (fun _ _ _ _ _ => rfl) (h54 160 11 163 zp_160_11) ?_
          refine z_aload_n dX12_readOne_96 rfl ?_
          refine z_getI dX12_readOne_97 zf_X12_243 zn_160 zo_160 (fun _ _ _ _ _ => rfl) ?_
          refine z_iaload dX12_readOne_100 zn_163 zh_163 h55 ?_
          refine z_ishl dX12_readOne_101 ?_
          refine z_ior dX12_readOne_102 ?_
          refine z_iastore dX12_readOne_103 zn_167 zh_167 h55 (z_nmI (fun I57 e56 => ?_))
          have hv := hv I57 e56
          exact hv
      · have hv := hv.2 q39
        exact z_return dX12_readOne_56 rfl (Nat.le_refl _) (Nat.le_refl _) hv
  · have hv := hv.2 q2
    refine z_aload_n dX12_readOne_26 rfl ?_
    refine z_callV (As := []) (st := []) dX12_readOne_27 zl_X12_240 zv_X12_misplaced (by decide) rfl zn_160 zo_160 rfl rfl (Nat.le_of_ble_eq_true rfl) ⟨Nat.le_refl _, Nat.le_refl _⟩ ⟨Nat.le_refl _, Nat.le_refl _⟩ hv (fun v1 I58 L59 P60 nx1 q61 => ?_)
    obtain ⟨rfl, rfl, hv⟩ := q61
    refine z_goto (tgt := 49) dX12_readOne_30 (by decide) ?_
    refine z_aload_n dX12_readOne_49 rfl ?_
    obtain ⟨h63, hv⟩ := hv
    refine z_callV (As := []) (st := []) dX12_readOne_50 zl_X12_233 zv_X12_isGood (by decide) rfl zn_160 zo_160 rfl rfl (Nat.le_of_ble_eq_true rfl) ⟨Nat.le_refl _, Nat.le_refl _⟩ ⟨Nat.le_refl _, Nat.le_refl _⟩ (sp_X12_isGood h63 (K := fun r I' L' P' => bP (I58 160 4 = 0) = r ∧ I58 = I' ∧ L59 = L' ∧ P60 = P') ⟨rfl, rfl, rfl, rfl⟩) (fun v1 I2 L2 P2 nx1 q65 => ?_)
    obtain ⟨rfl, r64, rfl, rfl, rfl, rfl, rfl⟩ := q65
    refine z_if_ne (tgt := 57) dX12_readOne_53 (by decide) (fun q66 => ?_) (fun q66 => ?_)
    · have hv := hv.1 q66
      refine z_aload_n dX12_readOne_57 rfl ?_
      refine z_getP dX12_readOne_58 zf_X12_55 zn_160 zo_160 (fun _ _ _ _ _ => rfl) (h63 160 22 174 zp_160_22) ?_
      refine z_iload_n dX12_readOne_61 rfl ?_
      refine z_aload_n dX12_readOne_62 rfl ?_
      refine z_getL dX12_readOne_63 zf_X12_212 zn_160 zo_160 (fun _ _ _ _ _ => rfl) ?_
      obtain ⟨h67, hv⟩ := hv
      refine z_lastore dX12_readOne_66 zn_174 zh_174 h67 (z_nmL (fun L69 e68 => ?_))
      have hv := hv L69 e68
      refine z_aload_n dX12_readOne_67 rfl ?_
      refine z_callV (As := []) (st := []) dX12_readOne_68 zl_X12_237 zv_X12_goOn (by decide) rfl zn_160 zo_160 rfl rfl (Nat.le_of_ble_eq_true rfl) ⟨Nat.le_refl _, Nat.le_refl _⟩ ⟨Nat.le_refl _, Nat.le_refl _⟩ hv (fun v1 I70 L71 P72 nx1 q73 => ?_)
      obtain ⟨rfl, rfl, hv⟩ := q73
      refine z_aload_n dX12_readOne_71 rfl ?_
      refine z_ldc2 (v := 120265298896228) dX12_readOne_72 zj_X12_163 ?_
      refine z_callV (As := [.long 120265298896228]) (st := []) dX12_readOne_75 zl_X12_302 zv_X12_flag (by decide) rfl zn_160 zo_160 rfl rfl (Nat.le_of_ble_eq_true rfl) ⟨Nat.le_refl _, Nat.le_refl _⟩ ⟨Nat.le_refl _, Nat.le_refl _⟩ hv (fun v1 I75 L76 P77 nx1 q78 => ?_)
      obtain ⟨rfl, r79, rfl, hv⟩ := q78
      refine z_if_eq (tgt := 104) dX12_readOne_78 (by decide) (fun q80 => ?_) (fun q80 => ?_)
      · have hv := hv.1 q80
        exact hv
      · have hv := hv.2 q80
        refine z_aload_n dX12_readOne_81 rfl ?_
        obtain ⟨h81, hv⟩ := hv
        refine z_getP dX12_readOne_82 zf_X12_33 zn_160 zo_160 (fun _ _ _ _ _ => rfl) (h81 160 15 167 zp_160_15) ?_
        refine z_aload_n dX12_readOne_85 rfl ?_
        refine z_getI dX12_readOne_86 zf_X12_243 zn_160 zo_160 (fun _ _ _ _ _ => rfl) ?_
        refine z_dup2 dX12_readOne_89 rfl rfl ?_
        obtain ⟨h82, hv⟩ := hv
        refine z_iaload dX12_readOne_90 zn_167 zh_167 h82 ?_
        refine z_iconst (v := 1) dX12_readOne_91 (by decide) ?_
        refine z_aload_n dX12_readOne_92 rfl ?_
        refine z_getP dX12_readOne_93 zf_X12_20 zn_160 zo_160 (fun _ _ _ _ _ => rfl) (h81 160 11 163 zp_160_11) ?_
        refine z_aload_n dX12_readOne_96 rfl ?_
        refine z_getI dX12_readOne_97 zf_X12_243 zn_160 zo_160 (fun _ _ _ _ _ => rfl) ?_
        refine z_iaload dX12_readOne_100 zn_163 zh_163 h82 ?_
        refine z_ishl dX12_readOne_101 ?_
        refine z_ior dX12_readOne_102 ?_
        refine z_iastore dX12_readOne_103 zn_167 zh_167 h82 (z_nmI (fun I84 e83 => ?_))
        have hv := hv I84 e83
        exact hv
    · have hv := hv.2 q66
      exact z_return dX12_readOne_56 rfl (Nat.le_refl _) (Nat.le_refl _) hv
section RO
variable {d : Nat} {Q : zQt} {T : Nat → Int32} {n rb np : Nat} {I0 : zI} {L0 : zL} {P : zP} {v : Int64}
/-- from the flag mirror on; x is what the true world is by then -/
theorem lp_X12_readOne_142 {I : zI} {L : zL} {e : Nat} {s : Int32} (hP : zPk P) (hr : rb < 2) (hnp : np < 8) (h29 : I0 160 29 = nI rb) (h163 : I0 163 rb = nI np) (hd : 2 ≤ d) (h : oS T n rb np I0 L0 v I L e)
    (kk : ∀ I' L', oS T n rb np I0 L0 v I' L' (skF T n 259 e) → I' 167 rb = I 167 rb → I' 168 (8 * rb + np) = s → I' 173 (8 * rb + np) = bP (tK T n e = 259) → Q none (zuI I' 163 rb (nI (np + 1))) L' P 205) :
    gw_X12_readOne (d + 1) Q 142 [some (.ref 160), some (.int (nI (8 * rb + np)))] [.int s, .int (nI (8 * rb + np)), .ref 168] I L P := by
  have fin : ∀ I1 L1 e1 r, oS T n rb np I0 L0 v I1 L1 e1 → (r = 0 ∨ r = 1) → e1 = skF T n 259 e → r = bP (tK T n e = 259) → I1 167 rb = I 167 rb → I1 168 (8 * rb + np) = s →
      vp_in (nI (8 * rb + np)) 16 ∧ (r = 0 ∨ r = 1) ∧ ∀ I103 : zI, I103 = zuI I1 173 (nI (8 * rb + np)).toNatClampNeg r → zPk P ∧ vp_in (I103 160 29) 2 ∧ ∀ I108 : zI, I108 = zuI I103 163 (I103 160 29).toNatClampNeg ((I103 163 (I103 160 29).toNatClampNeg) + 1) → Q none I108 L1 P 205 := by
    intro I1 L1 e1 r h1 hr' he er e167 e168
    refine ⟨nx_in (by omega) (by decide), hr', fun I2 e2 => ?_⟩
    rw [nI_cl (by omega)] at e2
    have h2 := oS_173 (x := r) h1
    rw [← e2] at h2
    have f2 := h2.2.2.1
    have g29 : I2 160 29 = nI rb := by rw [f2.2 29 (by decide)]; exact h29
    have g163 : I2 163 rb = nI np := by rw [f2.1 163 (by decide) (by decide)]; exact h163
    rw [g29, nI_cl (by omega), g163, nI_1]
    refine ⟨hP, nx_in hr (by decide), fun I3 e3 => ?_⟩
    subst e3
    rw [he] at h2
    refine kk I2 L1 h2 ?_ ?_ ?_
    · rw [e2, zuI_ne (by decide)]; exact e167
    · rw [e2, zuI_ne (by decide)]; exact e168
    · rw [e2, zuI_v]; exact er
  refine g_X12_readOne_142 hP ⟨nx_in (by omega) (by decide), fun I1 e1 => ?_⟩
  rw [nI_cl (by omega)] at e1
  have h1 := oS_168 (x := s) h
  have e167 : I1 167 rb = I 167 rb := by rw [e1, zuI_ne (by decide)]
  have e168 : I1 168 (8 * rb + np) = s := by rw [e1, zuI_v]
  rw [← e1] at h1
  refine sp_X12_flag (i := 3) hP h1.2.1 h1.1 (by decide) rfl hd (fun z => ?_) (fun z I2 L2 f1 f2 f3 => ?_)
  · exact fin I1 L e 0 h1 (Or.inl rfl) (by unfold skF; rw [if_neg z]) (bP_f z).symm e167 e168
  · exact fin I2 L2 _ 1 (oS_go h1 f1 f2 f3) (Or.inr rfl) (by unfold skF; rw [if_pos z]) (bP_t z).symm (by rw [f1.1 167 (by simp) (by decide)]; exact e167) (by rw [f1.1 168 (by simp) (by decide)]; exact e168)
theorem lp_X12_readOne_104 {I : zI} {L : zL} {e : Nat} (hP : zPk P) (hr : rb < 2) (hnp : np < 8) (h29 : I0 160 29 = nI rb) (h163 : I0 163 rb = nI np) (hd : 2 ≤ d) (h : oS T n rb np I0 L0 v I L e)
    (kk : ∀ I' L', oS T n rb np I0 L0 v I' L' (skF T n 259 (skF T n 258 e)) → I' 167 rb = I 167 rb → I' 168 (8 * rb + np) = nI (@ite _ (tK T n e = 258) (Classical.propDecidable _) 255 (255 - 2 ^ np)) → I' 173 (8 * rb + np) = bP (tK T n (skF T n 258 e) = 259) → Q none (zuI I' 163 rb (nI (np + 1))) L' P 205) :
    gw_X12_readOne (d + 1) Q 104 [some (.ref 160), some (.int (nI (8 * rb + np)))] [] I L P := by
  refine g_X12_readOne_104 hP (sp_X12_flag (i := 2) hP h.2.1 h.1 (by decide) rfl hd (fun z => ⟨fun _ => ?_, fun q => absurd rfl q⟩) (fun z I2 L2 f1 f2 f3 => ⟨fun q => absurd q (by decide), fun _ => ?_⟩))
  · have f := h.2.2.1
    have g29 : I 160 29 = nI rb := by rw [f.2 29 (by decide)]; exact h29
    have g163 : I 163 rb = nI np := by rw [f.1 163 (by decide) (by decide)]; exact h163
    refine ⟨hP, by rw [g29]; exact nx_in hr (by decide), ?_⟩
    rw [g29, nI_cl (by omega), g163, see_n np hnp]
    have es : skF T n 258 e = e := by unfold skF; rw [if_neg z]
    have z' : ¬ tK T n e = 258 := z
    rw [es, if_neg z'] at kk
    exact lp_X12_readOne_142 hP hr hnp h29 h163 hd h kk
  · have es : skF T n 258 e = tE T n e := by unfold skF; rw [if_pos z]
    have z' : tK T n e = 258 := z
    rw [es, if_pos z'] at kk
    exact lp_X12_readOne_142 hP hr hnp h29 h163 hd (oS_go h f1 f2 f3) (fun I' L' a b c e => kk I' L' a (by rw [b, f1.1 167 (by simp) (by decide)]) c e)
end RO
