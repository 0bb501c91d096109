/-! ===== class and model: the tape ===== -/
section QE
variable {d : Nat} {I I' : zI} {L L' : zL} {P P' : zP} {t st : Nat} {b : Nat → Nat} {cd : Nat → Cd}
/-- only the tape is other -/
theorem Rl_tp (h : Rl I I L P t st b cd) (hf : ∀ a, ¬ (a = 1 ∨ a = 2 ∨ a = 160 ∨ a = 161) → I' a = I a) (h0 : ∀ k, k ≠ 2 → I' 160 k = I 160 k) (tp : MTp I' ∧ tpR I' (vTt I') (vTp I')) : Rl I' I' L P t st b cd := by
  have hS := h.2.1.1
  have f : zFr [1, 2, 161] [2] I I' := ⟨fun a p q => hf a (by simp only [List.mem_cons, List.not_mem_nil, or_false] at p; omega), fun k p => h0 k (by simp only [List.mem_cons, List.not_mem_nil, or_false] at p; omega)⟩
  have hE : mE I I' := ⟨zFr_wk f (by decide +kernel) (by decide), fun k _ => by rw [hf 166 (by decide)], fun k _ => by rw [hf 175 (by decide), hf 176 (by decide)]; exact ⟨rfl, rfl⟩⟩
  have hSe : mSe I I' := by
    unfold mSe
    rw [hf 180 (by decide), hf 181 (by decide), hf 182 (by decide), h0 38 (by decide), h0 39 (by decide), h0 40 (by decide)]
    exact mSe_rf I
  have ho : bOt I I' 3 := by
    intro c _
    rw [hf 199 (by decide), hf 200 (by decide), hf 201 (by decide), hf 202 (by decide), hf 203 (by decide), hf 204 (by decide)]
    exact ⟨rfl, rfl, rfl, fun _ _ => rfl, fun _ _ => rfl, fun _ _ => rfl⟩
  have hG : mG I I' := mG_f f (by decide) (by decide) (by decide) (by decide) (by decide) (by decide) (by decide)
  have hp : MP I' := MP_fr f (by decide) (by decide) (by decide) (by decide) (by decide) (by decide) (by decide) (by decide) (by decide) hS.2.2.2.2.2.1
  have ht := (Rl_t0 h).2.2
  have hil := ht
  unfold il at hil
  obtain ⟨g, hs⟩ := h.2.2.2.2.2.1
  refine Rl_mk h hE (mSe_MSc hE hSe hp hS h.2.1.2.1) tp ?_ ⟨mG_H hG h.2.1.2.2.2.1, by rw [h0 60 (by decide)]; exact h.2.1.2.2.2.2, sgR_c (mE_sg hE hG h.2.2.2.2.2.2.2.1) (fun a a1 a2 => hf a (by omega))⟩ ⟨g, rSc_m (rSc_c hs (fun a ha => hf a (by omega)) rfl) hE hSe hS⟩ (rBx_m (rBx_c ht h.2.2.2.2.2.2.1 (hf 89 (by decide)) (hf t (by omega)) (fun a a1 a2 => hf a (by omega)) (fun _ _ => rfl)) hE ho) (fun a a1 a2 => hf a (by omega)) (gK_c h.2.2.2.2.2.2.2.2.1 hS.2.2.1.1 (fun a a1 a2 => hf a (by omega))) (fun _ _ => rfl) h.1.1 ⟨rfl, rfl⟩
  rw [hf 17 (by decide), h0 4 (by decide), h0 5 (by decide)]
  exact h.2.2.2.2.1
abbrev gw_X11_end (d : Nat) (Q : zQt) (pc : Nat) (lv : zV) (st : List Value) (I : zI) (L : zL) (P : zP) : Prop := zW zm_X11_end (zRm d 0 0) 0 0 Q pc lv st I L P 205 0 0
abbrev v_X11_end (d : Nat) (Q : zQt) (p1 : Int32) (I : zI) (L : zL) (P : zP) : Prop :=
  ((p1 < 0 →
    Q (some (.int (-1))) I L P 205
  ) ∧ (¬ p1 < 0 →
    ((p1 ≤ (I 1 1) →
      ∀ I3 : zI, I3 = zuI I 1 1 p1 →
      Q (some (.int p1)) I3 L P 205
    ) ∧ (¬ p1 ≤ (I 1 1) →
      Q (some (.int (-1))) I L P 205
    ))
  ))
set_option maxRecDepth 20000 in
theorem g_X11_end {d : Nat} {Q : zQt} {p1 : Int32} {I : zI} {L : zL} {P : zP} (hP : zPk P) (hv : v_X11_end d Q p1 I L P) : zM zm_X11_end d 0 0 [.ref 0, .int p1] I L P 205 Q := by
  unfold v_X11_end at hv
  refine zM_of (lv0 := [some (.ref 0), some (.int p1)]) (by decide +kernel) (Nat.le_of_ble_eq_true rfl) rfl ?_
  refine z_iload_n dX11_end_0 rfl ?_
  refine z_if_lt (tgt := 15) dX11_end_1 (by decide) (fun q1 => ?_) (fun q1 => ?_)
  · have hv := hv.1 q1
    refine z_iconst (v := (-1)) dX11_end_15 (by decide) ?_
    exact z_ireturn dX11_end_16 rfl rfl (Nat.le_refl _) (Nat.le_refl _) hv
  · have hv := hv.2 q1
    refine z_iload_n dX11_end_4 rfl ?_
    refine z_aload_n dX11_end_5 rfl ?_
    refine z_getP dX11_end_6 zf_X11_10 zn_0 zo_0 (fun _ _ _ _ _ => rfl) (hP 0 0 1 zp_0_0) ?_
    refine z_getI dX11_end_9 zf_X11_103 zn_1 zo_1 (fun _ _ _ _ _ => rfl) ?_
    refine z_icmp_le (tgt := 17) dX11_end_12 (by decide) (fun q2 => ?_) (fun q2 => ?_)
    · have hv := hv.1 q2
      refine z_aload_n dX11_end_17 rfl ?_
      refine z_getP dX11_end_18 zf_X11_10 zn_0 zo_0 (fun _ _ _ _ _ => rfl) (hP 0 0 1 zp_0_0) ?_
      refine z_iload_n dX11_end_21 rfl ?_
      refine z_putI dX11_end_22 zf_X11_103 zn_1 zo_1 (Or.inl rfl) (fun _ _ _ _ _ => rfl) rfl rfl (z_nmI (fun I3 e4 => ?_))
      have hv := hv I3 e4
      refine z_iload_n dX11_end_25 rfl ?_
      exact z_ireturn dX11_end_26 rfl rfl (Nat.le_refl _) (Nat.le_refl _) hv
    · have hv := hv.2 q2
      refine z_iconst (v := (-1)) dX11_end_15 (by decide) ?_
      exact z_ireturn dX11_end_16 rfl rfl (Nat.le_refl _) (Nat.le_refl _) hv
theorem q_end {x : Int32} (h : Rl I I L P t st b cd) : zMi zm_X11_end d [.ref 0, .int x] I L P (fun r I1 L1 P1 => zPk P1 ∧ zMi zm_X12_end d [.ref 160, .int x] I1 L1 P1 (q2 r)) := by
  have hP := h.1.1
  have hT := h.2.1.2.2.1
  have tp := h.2.2.2.1
  have e2 : I 1 1 = I 160 2 := by rw [tp.2.1, hT.2.1]
  have no : ¬ (¬ x < 0 ∧ x ≤ I 160 2) → zMi zm_X12_end d [.ref 160, .int x] I L P (q2 (-1)) := fun z => sp_X12_end hP (fun _ => q2_s h) (fun a c => absurd ⟨a, c⟩ z)
  refine g_X11_end hP ⟨fun q => qj hP (no (fun z => z.1 q)), fun q => ⟨fun q2' I3 e3 => ?_, fun q2' => qj hP (no (fun z => q2' (by rw [e2]; exact z.2)))⟩⟩
  have em : eM I I3 := fun a ha => by rw [e3, zuI_ne (by omega)]
  rw [e2] at q2'
  refine qj hP (sp_X12_end hP (fun z => absurd ⟨q, by rw [em 160 (by decide)]; exact q2'⟩ z) (fun _ _ => ⟨rfl, hP, Rn_i (t := t) (st := st) (b := b) (cd := cd) ?_⟩))
  obtain ⟨k, hk, rfl⟩ : ∃ k, k ≤ vTp I ∧ x = nI k := by
    have l := hT.1
    rw [hT.2.1, Int32.le_iff_toInt_le, nI_toInt (by omega)] at q2'
    rw [Int32.lt_iff_toInt_lt] at q
    have z0 : (0 : Int32).toInt = 0 := by decide
    have : vp_in x 1601 := by rw [vp_in_iff]; omega
    obtain ⟨k, hk, rfl⟩ := vp_nI this (by decide)
    rw [nI_toInt (by omega)] at q2'
    exact ⟨k, by omega, rfl⟩
  have l := hT.1
  have v2 : (zuI I3 160 2 (nI k)) 160 2 = nI k := zuI_v _ _ _ _
  have vt : vTp (zuI I3 160 2 (nI k)) = k := by unfold vTp; rw [v2, nI_cl (by omega)]
  have o161 : (zuI I3 160 2 (nI k)) 161 = I 161 := by rw [zuI_ne (by decide), em 161 (by decide)]
  have o1 : (zuI I3 160 2 (nI k)) 1 1 = nI k := by rw [zuI_ne (by decide), e3, zuI_v]
  have o2 : (zuI I3 160 2 (nI k)) 2 = I 2 := by rw [zuI_ne (by decide), e3, zuI_ne (by decide)]
  refine Rl_tp h (fun a ha => ?_) (fun j hj => ?_) ⟨⟨?_, ?_, ?_⟩, ?_, ?_, ?_⟩
  · rw [zuI_ne (by omega), e3, zuI_ne (by omega)]
  · rw [zuI_o hj, em 160 (by decide)]
  · rw [vt]; omega
  · rw [vt]; exact v2
  · rw [o161]; exact hT.2.2
  · rw [vt]; omega
  · rw [vt]; exact o1
  · rw [vt, o2]
    intro j hj
    have : vTt (zuI I3 160 2 (nI k)) j = vTt I j := by unfold vTt; rw [o161]
    rw [this]
    exact tp.2.2 j (by omega)
abbrev gw_X8_put (d : Nat) (Q : zQt) (pc : Nat) (lv : zV) (st : List Value) (I : zI) (L : zL) (P : zP) : Prop := zW zm_X8_put (zRm d 0 0) 0 0 Q pc lv st I L P 205 0 0
abbrev v_X8_put_3 (d : Nat) (Q : zQt) (p1 : Int32) (x2 : Int32) (I : zI) (L : zL) (P : zP) : Prop :=
  ((x2 < 0 →
    Q none I L P 205
  ) ∧ (¬ x2 < 0 →
    ((1600 ≤ (I 1 1) →
      Q none I L P 205
    ) ∧ (¬ 1600 ≤ (I 1 1) →
      vp_in (I 1 1) 1600 ∧
      ∀ I5 : zI, I5 = zuI I 2 (I 1 1).toNatClampNeg (((p1 >>> (x2 &&& 31) : Int32) : Int32).toInt8.toInt32) →
      ∀ I6 : zI, I6 = zuI I5 1 1 ((I5 1 1) + 1) →
      gw_X8_put d Q 3 [some (.ref 1), some (.int p1), some (.int (x2 + (-8)))] [] I6 L P
    ))
  ))
set_option maxRecDepth 20000 in
theorem g_X8_put_3 {d : Nat} {Q : zQt} {p1 : Int32} {x2 : Int32} {I : zI} {L : zL} {P : zP} (hP : zPk P) (hv : v_X8_put_3 d Q p1 x2 I L P) : gw_X8_put d Q 3 [some (.ref 1), some (.int p1), some (.int x2)] [] I L P := by
  unfold v_X8_put_3 at hv
  refine z_iload_n dX8_put_3 rfl ?_
  refine z_if_lt (tgt := 46) dX8_put_4 (by decide) (fun q1 => ?_) (fun q1 => ?_)
  · have hv := hv.1 q1
    exact z_return dX8_put_46 rfl (Nat.le_refl _) (Nat.le_refl _) hv
  · have hv := hv.2 q1
    refine z_aload_n dX8_put_7 rfl ?_
    refine z_getI dX8_put_8 zf_X8_15 zn_1 zo_1 (fun _ _ _ _ _ => rfl) ?_
    refine z_sipush (v := 1600) dX8_put_11 (by decide) ?_
    refine z_icmp_ge (tgt := 46) dX8_put_14 (by decide) (fun q2 => ?_) (fun q2 => ?_)
    · have hv := hv.1 q2
      exact z_return dX8_put_46 rfl (Nat.le_refl _) (Nat.le_refl _) hv
    · have hv := hv.2 q2
      refine z_aload_n dX8_put_17 rfl ?_
      refine z_getP dX8_put_18 zf_X8_11 zn_1 zo_1 (fun _ _ _ _ _ => rfl) (hP 1 0 2 zp_1_0) ?_
      refine z_aload_n dX8_put_21 rfl ?_
      refine z_getI dX8_put_22 zf_X8_15 zn_1 zo_1 (fun _ _ _ _ _ => rfl) ?_
      refine z_iload_n dX8_put_25 rfl ?_
      refine z_iload_n dX8_put_26 rfl ?_
      refine z_ishr dX8_put_27 ?_
      refine z_i2b dX8_put_28 ?_
      obtain ⟨h3, hv⟩ := hv
      refine z_bastore dX8_put_29 zn_2 zh_2 h3 (pk_nb _) (z_nmI (fun I5 e4 => ?_))
      have hv := hv I5 e4
      refine z_aload_n dX8_put_30 rfl ?_
      refine z_dup dX8_put_31 rfl ?_
      refine z_getI dX8_put_32 zf_X8_15 zn_1 zo_1 (fun _ _ _ _ _ => rfl) ?_
      refine z_iconst (v := 1) dX8_put_35 (by decide) ?_
      refine z_iadd dX8_put_36 ?_
      refine z_putI dX8_put_37 zf_X8_15 zn_1 zo_1 (Or.inl rfl) (fun _ _ _ _ _ => rfl) rfl rfl (z_nmI (fun I6 e7 => ?_))
      have hv := hv I6 e7
      refine z_iinc (v2 := x2 + (-8)) (lv2 := [some (.ref 1), some (.int p1), some (.int (x2 + (-8)))]) dX8_put_40 rfl (by rfl) (by decide) rfl rfl ?_
      refine z_goto (tgt := 3) dX8_put_43 (by decide) ?_
      exact hv
abbrev v_X8_put (d : Nat) (Q : zQt) (p1 : Int32) (I : zI) (L : zL) (P : zP) : Prop :=
  gw_X8_put d Q 3 [some (.ref 1), some (.int p1), some (.int 24)] [] I L P
set_option maxRecDepth 20000 in
theorem g_X8_put {d : Nat} {Q : zQt} {p1 : Int32} {I : zI} {L : zL} {P : zP} (hP : zPk P) (hv : v_X8_put d Q p1 I L P) : zM zm_X8_put d 0 0 [.ref 1, .int p1] I L P 205 Q := by
  unfold v_X8_put at hv
  refine zM_of (lv0 := [some (.ref 1), some (.int p1), none]) (by decide +kernel) (Nat.le_of_ble_eq_true rfl) rfl ?_
  refine z_bipush (v := 24) dX8_put_0 (by decide) ?_
  refine z_istore_n (lv2 := [some (.ref 1), some (.int p1), some (.int 24)]) dX8_put_2 (by decide) rfl rfl ?_
  exact hv
def ptB (x : Int32) (i : Nat) : Int32 := (((x >>> (nI (24 - 8 * i) &&& 31) : Int32) : Int32).toInt8.toInt32)
theorem sp_X8_put {x : Int32} {m : Nat} (hP : zPk P) (hm : m + 4 ≤ 1600) (h1 : I 1 1 = nI m) {K : zI → zL → zP → Prop} (kk : ∀ I', cFr [1, 2] I I' → I' 1 1 = nI (m + 4) → (∀ i, i < 4 → I' 2 (m + i) = ptB x i) → (∀ j, ¬ (m ≤ j ∧ j < m + 4) → I' 2 j = I 2 j) → K I' L P) : zMv zm_X8_put d [.ref 1, .int x] I L P K := by
  have key : ∀ r i J, i + r = 4 → cFr [1, 2] I J → J 1 1 = nI (m + i) → (∀ k, k < i → J 2 (m + k) = ptB x k) → (∀ j, ¬ (m ≤ j ∧ j < m + i) → J 2 j = I 2 j) → gw_X8_put d (fun v I' L' P' nx' => nx' = 205 ∧ v = none ∧ K I' L' P') 3 [some (.ref 1), some (.int x), some (.int (24 - nI (8 * i)))] [] J L P := by
    intro r
    induction r with
    | zero =>
      intro i J hi hf j1 hlo hhi
      have : i = 4 := by omega
      subst this
      exact g_X8_put_3 hP ⟨fun _ => qv (kk J hf j1 hlo hhi), fun q => absurd (by decide) q⟩
    | succ r ih =>
      intro i J hi hf j1 hlo hhi
      have e24 : (24 : Int32) - nI (8 * i) = nI (24 - 8 * i) := by
        have : i = 0 ∨ i = 1 ∨ i = 2 ∨ i = 3 := by omega
        rcases this with rfl | rfl | rfl | rfl <;> decide
      have e8 : (24 : Int32) - nI (8 * i) + (-8) = 24 - nI (8 * (i + 1)) := by
        have : i = 0 ∨ i = 1 ∨ i = 2 ∨ i = 3 := by omega
        rcases this with rfl | rfl | rfl | rfl <;> decide
      refine g_X8_put_3 hP ⟨fun q => absurd q (by rw [e24]; exact nI_pos (by omega)), fun _ => ⟨fun q => absurd q (by rw [j1, show (1600 : Int32) = nI 1600 from rfl]; exact nI_ge (by omega) (by decide)), fun _ => ⟨by rw [j1]; exact nx_in (by omega) (by decide), fun I5 e5 I6 e6 => ?_⟩⟩⟩
      rw [j1, nI_cl (by omega)] at e5
      have f5 : I5 1 1 = nI (m + i) := by rw [e5, zuI_ne (by decide)]; exact j1
      rw [f5, nI_1] at e6
      rw [e8]
      refine ih (i + 1) I6 (by omega) (by rw [e6, e5]; exact cFr_c (cFr_c hf (by simp)) (by simp)) (by rw [e6, zuI_v]; rfl) (fun k hk => ?_) (fun j hj => ?_)
      · rw [e6, zuI_ne (by decide), e5]
        by_cases c : k = i
        · rw [c, zuI_v, e24]; rfl
        · rw [zuI_o (by omega)]; exact hlo k (by omega)
      · rw [e6, zuI_ne (by decide), e5, zuI_o (by omega)]
        exact hhi j (by omega)
  exact g_X8_put hP (key 4 0 I (by omega) (cFr_rf _ _) h1 (fun k hk => absurd hk (Nat.not_lt_zero k)) (fun _ _ => rfl))
abbrev gw_X8_take (d : Nat) (Q : zQt) (pc : Nat) (lv : zV) (st : List Value) (I : zI) (L : zL) (P : zP) : Prop := zW zm_X8_take (zRm d 0 0) 0 0 Q pc lv st I L P 205 0 0
abbrev v_X8_take (d : Nat) (Q : zQt) (p1 : Int32) (p2 : Int32) (p3 : Int32) (p4 : Int32) (p5 : Int32) (I : zI) (L : zL) (P : zP) : Prop :=
  ((((I 1 1) + 20) ≤ 1600 →
    zMv zm_X8_put d [.ref 1, .int p1] I L P (fun I2 L3 P4 =>
      zMv zm_X8_put d [.ref 1, .int p2] I2 L3 P4 (fun I7 L8 P9 =>
        zMv zm_X8_put d [.ref 1, .int p3] I7 L8 P9 (fun I12 L13 P14 =>
          zMv zm_X8_put d [.ref 1, .int p4] I12 L13 P14 (fun I17 L18 P19 =>
            zMv zm_X8_put d [.ref 1, .int p5] I17 L18 P19 (fun I22 L23 P24 =>
              Q (some (.int (I22 1 1))) I22 L23 P24 205
            )
          )
        )
      )
    )
  ) ∧ (¬ ((I 1 1) + 20) ≤ 1600 →
    Q (some (.int (-1))) I L P 205
  ))
set_option maxRecDepth 20000 in
theorem g_X8_take {d : Nat} {Q : zQt} {p1 : Int32} {p2 : Int32} {p3 : Int32} {p4 : Int32} {p5 : Int32} {I : zI} {L : zL} {P : zP} (hP : zPk P) (hv : v_X8_take d Q p1 p2 p3 p4 p5 I L P) : zM zm_X8_take (d + 1) 0 0 [.ref 1, .int p1, .int p2, .int p3, .int p4, .int p5] I L P 205 Q := by
  unfold v_X8_take at hv
  refine zM_of (lv0 := [some (.ref 1), some (.int p1), some (.int p2), some (.int p3), some (.int p4), some (.int p5)]) (by decide +kernel) (Nat.le_of_ble_eq_true rfl) rfl ?_
  refine z_aload_n dX8_take_0 rfl ?_
  refine z_getI dX8_take_1 zf_X8_15 zn_1 zo_1 (fun _ _ _ _ _ => rfl) ?_
  refine z_bipush (v := 20) dX8_take_4 (by decide) ?_
  refine z_iadd dX8_take_6 ?_
  refine z_sipush (v := 1600) dX8_take_7 (by decide) ?_
  refine z_icmp_le (tgt := 15) dX8_take_10 (by decide) (fun q1 => ?_) (fun q1 => ?_)
  · have hv := hv.1 q1
    refine z_aload_n dX8_take_15 rfl ?_
    refine z_iload_n dX8_take_16 rfl ?_
    refine z_callV (As := [.int p1]) (st := []) dX8_take_17 zl_X8_19 zv_X8_put (by decide) rfl zn_1 zo_1 rfl rfl (Nat.le_of_ble_eq_true rfl) ⟨Nat.le_refl _, Nat.le_refl _⟩ ⟨Nat.le_refl _, Nat.le_refl _⟩ hv (fun v1 I2 L3 P4 nx1 q5 => ?_)
    obtain ⟨rfl, rfl, hv⟩ := q5
    refine z_aload_n dX8_take_20 rfl ?_
    refine z_iload_n dX8_take_21 rfl ?_
    refine z_callV (As := [.int p2]) (st := []) dX8_take_22 zl_X8_19 zv_X8_put (by decide) rfl zn_1 zo_1 rfl rfl (Nat.le_of_ble_eq_true rfl) ⟨Nat.le_refl _, Nat.le_refl _⟩ ⟨Nat.le_refl _, Nat.le_refl _⟩ hv (fun v1 I7 L8 P9 nx1 q10 => ?_)
    obtain ⟨rfl, rfl, hv⟩ := q10
    refine z_aload_n dX8_take_25 rfl ?_
    refine z_iload_n dX8_take_26 rfl ?_
    refine z_callV (As := [.int p3]) (st := []) dX8_take_27 zl_X8_19 zv_X8_put (by decide) rfl zn_1 zo_1 rfl rfl (Nat.le_of_ble_eq_true rfl) ⟨Nat.le_refl _, Nat.le_refl _⟩ ⟨Nat.le_refl _, Nat.le_refl _⟩ hv (fun v1 I12 L13 P14 nx1 q15 => ?_)
    obtain ⟨rfl, rfl, hv⟩ := q15
    refine z_aload_n dX8_take_30 rfl ?_
    refine z_iload dX8_take_31 rfl ?_
    refine z_callV (As := [.int p4]) (st := []) dX8_take_33 zl_X8_19 zv_X8_put (by decide) rfl zn_1 zo_1 rfl rfl (Nat.le_of_ble_eq_true rfl) ⟨Nat.le_refl _, Nat.le_refl _⟩ ⟨Nat.le_refl _, Nat.le_refl _⟩ hv (fun v1 I17 L18 P19 nx1 q20 => ?_)
    obtain ⟨rfl, rfl, hv⟩ := q20
    refine z_aload_n dX8_take_36 rfl ?_
    refine z_iload dX8_take_37 rfl ?_
    refine z_callV (As := [.int p5]) (st := []) dX8_take_39 zl_X8_19 zv_X8_put (by decide) rfl zn_1 zo_1 rfl rfl (Nat.le_of_ble_eq_true rfl) ⟨Nat.le_refl _, Nat.le_refl _⟩ ⟨Nat.le_refl _, Nat.le_refl _⟩ hv (fun v1 I22 L23 P24 nx1 q25 => ?_)
    obtain ⟨rfl, rfl, hv⟩ := q25
    refine z_aload_n dX8_take_42 rfl ?_
    refine z_getI dX8_take_43 zf_X8_15 zn_1 zo_1 (fun _ _ _ _ _ => rfl) ?_
    exact z_ireturn dX8_take_46 rfl rfl (Nat.le_refl _) (Nat.le_refl _) hv
  · have hv := hv.2 q1
    refine z_iconst (v := (-1)) dX8_take_13 (by decide) ?_
    exact z_ireturn dX8_take_14 rfl rfl (Nat.le_refl _) (Nat.le_refl _) hv
abbrev gw_X11_feed (d : Nat) (Q : zQt) (pc : Nat) (lv : zV) (st : List Value) (I : zI) (L : zL) (P : zP) : Prop := zW zm_X11_feed (zRm d 0 0) 0 0 Q pc lv st I L P 205 0 0
abbrev v_X11_feed (d : Nat) (Q : zQt) (p1 : Int32) (p2 : Int32) (p3 : Int32) (p4 : Int32) (p5 : Int32) (I : zI) (L : zL) (P : zP) : Prop :=
  zMi zm_X8_take d [.ref 1, .int p1, .int p2, .int p3, .int p4, .int p5] I L P (fun r5 I1 L2 P3 =>
    Q (some (.int r5)) I1 L2 P3 205
  )
set_option maxRecDepth 20000 in
theorem g_X11_feed {d : Nat} {Q : zQt} {p1 : Int32} {p2 : Int32} {p3 : Int32} {p4 : Int32} {p5 : Int32} {I : zI} {L : zL} {P : zP} (hP : zPk P) (hv : v_X11_feed d Q p1 p2 p3 p4 p5 I L P) : zM zm_X11_feed (d + 1) 0 0 [.ref 0, .int p1, .int p2, .int p3, .int p4, .int p5] I L P 205 Q := by
  unfold v_X11_feed at hv
  refine zM_of (lv0 := [some (.ref 0), some (.int p1), some (.int p2), some (.int p3), some (.int p4), some (.int p5)]) (by decide +kernel) (Nat.le_of_ble_eq_true rfl) rfl ?_
  refine z_aload_n dX11_feed_0 rfl ?_
  refine z_getP dX11_feed_1 zf_X11_10 zn_0 zo_0 (fun _ _ _ _ _ => rfl) (hP 0 0 1 zp_0_0) ?_
  refine z_iload_n dX11_feed_4 rfl ?_
  refine z_iload_n dX11_feed_5 rfl ?_
  refine z_iload_n dX11_feed_6 rfl ?_
  refine z_iload dX11_feed_7 rfl ?_
  refine z_iload dX11_feed_9 rfl ?_
  refine z_callV (As := [.int p1, .int p2, .int p3, .int p4, .int p5]) (st := []) dX11_feed_11 zl_X11_99 zv_X8_take (by decide) rfl zn_1 zo_1 rfl rfl (Nat.le_of_ble_eq_true rfl) ⟨Nat.le_refl _, Nat.le_refl _⟩ ⟨Nat.le_refl _, Nat.le_refl _⟩ hv (fun v1 I1 L2 P3 nx1 q4 => ?_)
  obtain ⟨rfl, r5, rfl, hv⟩ := q4
  exact z_ireturn dX11_feed_14 rfl rfl (Nat.le_refl _) (Nat.le_refl _) hv
theorem q_feed {a1 a2 a3 a4 a5 : Int32} (h : Rl I I L P t st b cd) (hd : 2 ≤ d) : zMi zm_X11_feed d [.ref 0, .int a1, .int a2, .int a3, .int a4, .int a5] I L P (fun r I1 L1 P1 => zPk P1 ∧ zMi zm_X12_feed d [.ref 160, .int a1, .int a2, .int a3, .int a4, .int a5] I1 L1 P1 (q2 r)) := by
  obtain ⟨d, rfl⟩ : ∃ e, d = e + 2 := ⟨d - 2, by omega⟩
  have hP := h.1.1
  have hT := h.2.1.2.2.1
  have tp := h.2.2.2.1
  have l := hT.1
  have tk : ∀ {K : Int32 → zI → zL → zP → Prop}, (¬ vTp I + 20 ≤ 1600 → K (-1) I L P) → (vTp I + 20 ≤ 1600 → ∀ I', cFr [1, 2] I I' → I' 1 1 = nI (vTp I + 20) → (∀ k, k < 20 → I' 2 (vTp I + k) = fdB a1 a2 a3 a4 a5 k) → (∀ j, ¬ (vTp I ≤ j ∧ j < vTp I + 20) → I' 2 j = I 2 j) → K (nI (vTp I + 20)) I' L P) → zMi zm_X8_take (d + 1) [.ref 1, .int a1, .int a2, .int a3, .int a4, .int a5] I L P K := by
    intro K k0 kk
    have e1 : I 1 1 + 20 ≤ 1600 ↔ vTp I + 20 ≤ 1600 := by
      rw [tp.2.1, show (20 : Int32) = nI 20 from rfl, nI_add, show (1600 : Int32) = nI 1600 from rfl, nI_leI (by omega) (by decide)]
    refine g_X8_take hP ⟨fun q => ?_, fun q => qi (k0 (fun z => q (e1.mpr z)))⟩
    rw [e1] at q
    refine sp_X8_put hP (by omega) tp.2.1 (fun J1 c1 p1 b1 o1 => sp_X8_put hP (by omega) p1 (fun J2 c2 p2 b2 o2 => sp_X8_put hP (by omega) p2 (fun J3 c3 p3 b3 o3 => sp_X8_put hP (by omega) p3 (fun J4 c4 p4 b4 o4 => sp_X8_put hP (by omega) p4 (fun J5 c5 p5 b5 o5 => ?_)))))
    rw [p5]
    refine qi (kk q J5 (cFr_tr c1 (cFr_tr c2 (cFr_tr c3 (cFr_tr c4 c5)))) p5 (fun k hk => ?_) (fun j hj => ?_))
    · unfold fdB
      by_cases k4 : k < 4
      · rw [if_pos k4, o5 _ (by omega), o4 _ (by omega), o3 _ (by omega), o2 _ (by omega), b1 k k4, show k % 4 = k by omega]; rfl
      · rw [if_neg k4]
        by_cases k8 : k < 8
        · rw [if_pos k8, o5 _ (by omega), o4 _ (by omega), o3 _ (by omega), show vTp I + k = vTp I + 4 + (k - 4) by omega, b2 (k - 4) (by omega), show k % 4 = k - 4 by omega]; rfl
        · rw [if_neg k8]
          by_cases k12 : k < 12
          · rw [if_pos k12, o5 _ (by omega), o4 _ (by omega), show vTp I + k = vTp I + 4 + 4 + (k - 8) by omega, b3 (k - 8) (by omega), show k % 4 = k - 8 by omega]; rfl
          · rw [if_neg k12]
            by_cases k16 : k < 16
            · rw [if_pos k16, o5 _ (by omega), show vTp I + k = vTp I + 4 + 4 + 4 + (k - 12) by omega, b4 (k - 12) (by omega), show k % 4 = k - 12 by omega]; rfl
            · rw [if_neg k16, show vTp I + k = vTp I + 4 + 4 + 4 + 4 + (k - 16) by omega, b5 (k - 16) (by omega), show k % 4 = k - 16 by omega]; rfl
    · rw [o5 _ (by omega), o4 _ (by omega), o3 _ (by omega), o2 _ (by omega), o1 _ (by omega)]
  refine g_X11_feed hP (tk (fun z => qj hP (sp_X12_feed hP hT (fun _ => q2_s h) (fun y => absurd y z))) (fun q I1 c1 p1 b1 o1 => ?_))
  have em : eM I I1 := fun a ha => c1 a (by simp only [List.mem_cons, List.not_mem_nil, or_false]; omega)
  have vt1 : vTp I1 = vTp I := by unfold vTp; rw [em 160 (by decide)]
  have hT1 : MTp I1 := by unfold MTp; rw [vt1, em 160 (by decide), em 161 (by decide)]; exact hT
  refine qj hP (sp_X12_feed hP hT1 (fun y => absurd (by rw [vt1]; exact q) y) (fun _ I2 f2 s2 b2 o2 => ?_))
  rw [vt1] at s2 b2 o2 ⊢
  have vt : vTp I2 = vTp I + 20 := by
    show (I2 160 2).toNatClampNeg = _
    rw [s2, nI_cl (by omega)]
  refine ⟨rfl, hP, Rn_i (Rl_tp h (fun a ha => ?_) (fun j hj => ?_) ⟨⟨?_, ?_, ?_⟩, ?_, ?_, ?_⟩)⟩
  · rw [f2.1 a (by simp only [List.mem_cons, List.not_mem_nil, or_false]; omega) (by omega), c1 a (by simp only [List.mem_cons, List.not_mem_nil, or_false]; omega)]
  · rw [f2.2 j (by simp; exact hj), em 160 (by decide)]
  · rw [vt]; omega
  · rw [vt]; exact s2
  · intro k
    by_cases c : vTp I ≤ k ∧ k < vTp I + 20
    · rw [show k = vTp I + (k - vTp I) by omega, b2 (k - vTp I) (by omega)]
      exact zBy_8 _
    · rw [o2 k c, em 161 (by decide)]; exact hT.2.2 k
  · rw [vt]; omega
  · rw [vt, f2.1 1 (by decide) (by decide)]; exact p1
  · rw [vt]
    intro j hj
    unfold vTt
    rw [f2.1 2 (by decide) (by decide)]
    by_cases c : vTp I ≤ j
    · rw [show j = vTp I + (j - vTp I) by omega, b2 (j - vTp I) (by omega), b1 (j - vTp I) (by omega)]
    · rw [o2 j (by omega), o1 j (by omega), em 161 (by decide)]
      exact tp.2.2 j (by omega)
end QE
