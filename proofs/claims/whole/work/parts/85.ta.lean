/-! ===== the class: the tape, tokens ===== -/
/-- the tape's text -/
def tpR (I : zI) (T : Nat → Int32) (n : Nat) : Prop := n ≤ 1600 ∧ I 1 1 = nI n ∧ ∀ k, k < n → (I 2 k &&& 255 : Int32) = T k
theorem tpR_c {I I' : zI} {T : Nat → Int32} {n : Nat} (h : tpR I T n) (e1 : I' 1 = I 1) (e2 : I' 2 = I 2) : tpR I' T n := by unfold tpR; rw [e1, e2]; exact h
noncomputable def cAt (I : zI) (x : Int32) : Int32 := @ite _ (vp_in x (I 1 1).toNatClampNeg) (Classical.propDecidable _) (I 2 x.toNatClampNeg &&& 255 : Int32) (-1)
theorem cAt_in {I : zI} {T : Nat → Int32} {n k : Nat} (h : tpR I T n) (hk : k < n) : cAt I (nI k) = T k := by
  unfold cAt
  rw [h.2.1, nI_cl (by have := h.1; omega), if_pos (nx_in hk (by have := h.1; omega)), nI_cl (by have := h.1; omega)]
  exact h.2.2 k hk
theorem cAt_out {I : zI} {T : Nat → Int32} {n k : Nat} (h : tpR I T n) (hk : ¬ k < n) (hk2 : k < 2 ^ 31) : cAt I (nI k) = -1 := by
  unfold cAt
  rw [h.2.1, nI_cl (by have := h.1; omega), if_neg (fun z => hk ?_)]
  obtain ⟨j, hj, e⟩ := vp_in_of z (by have := h.1; omega)
  rw [nI_eq hk2 (by have := h.1; omega)] at e
  omega
theorem T_rg {I : zI} {T : Nat → Int32} {n k : Nat} (h : tpR I T n) (hk : k < n) : ∃ f, f < 256 ∧ T k = nI f := by
  rw [← h.2.2 k hk]
  obtain ⟨j, hj, e⟩ := pk_andE (I 2 k) (m := 255) 8 (by decide)
  exact ⟨j, hj, e⟩
abbrev gw_X8_at (d : Nat) (Q : zQt) (pc : Nat) (lv : zV) (st : List Value) (I : zI) (L : zL) (P : zP) : Prop := zW zm_X8_at (zRm d 0 0) 0 0 Q pc lv st I L P 205 0 0
abbrev v_X8_at (d : Nat) (Q : zQt) (p1 : Int32) (I : zI) (L : zL) (P : zP) : Prop :=
  ((p1 < 0 →
    Q (some (.int (-1))) I L P 205
  ) ∧ (¬ p1 < 0 →
    (((I 1 1) ≤ p1 →
      Q (some (.int (-1))) I L P 205
    ) ∧ (¬ (I 1 1) ≤ p1 →
      vp_in p1 1600 ∧
      Q (some (.int ((I 2 p1.toNatClampNeg) &&& 255 : Int32))) I L P 205
    ))
  ))
set_option maxRecDepth 20000 in
theorem g_X8_at {d : Nat} {Q : zQt} {p1 : Int32} {I : zI} {L : zL} {P : zP} (hP : zPk P) (hv : v_X8_at d Q p1 I L P) : zM zm_X8_at d 0 0 [.ref 1, .int p1] I L P 205 Q := by
  unfold v_X8_at at hv
  refine zM_of (lv0 := [some (.ref 1), some (.int p1)]) (by decide +kernel) (Nat.le_of_ble_eq_true rfl) rfl ?_
  refine z_iload_n dX8_at_0 rfl ?_
  refine z_if_lt (tgt := 25) dX8_at_1 (by decide) (fun q1 => ?_) (fun q1 => ?_)
  · have hv := hv.1 q1
    refine z_iconst (v := (-1)) dX8_at_25 (by decide) ?_
    exact z_ireturn dX8_at_26 rfl rfl (Nat.le_refl _) (Nat.le_refl _) hv
  · have hv := hv.2 q1
    refine z_iload_n dX8_at_4 rfl ?_
    refine z_aload_n dX8_at_5 rfl ?_
    refine z_getI dX8_at_6 zf_X8_15 zn_1 zo_1 (fun _ _ _ _ _ => rfl) ?_
    refine z_icmp_ge (tgt := 25) dX8_at_9 (by decide) (fun q2 => ?_) (fun q2 => ?_)
    · have hv := hv.1 q2
      refine z_iconst (v := (-1)) dX8_at_25 (by decide) ?_
      exact z_ireturn dX8_at_26 rfl rfl (Nat.le_refl _) (Nat.le_refl _) hv
    · have hv := hv.2 q2
      refine z_aload_n dX8_at_12 rfl ?_
      refine z_getP dX8_at_13 zf_X8_11 zn_1 zo_1 (fun _ _ _ _ _ => rfl) (hP 1 0 2 zp_1_0) ?_
      refine z_iload_n dX8_at_16 rfl ?_
      obtain ⟨h3, hv⟩ := hv
      refine z_baload dX8_at_17 zn_2 zh_2 h3 ?_
      refine z_sipush (v := 255) dX8_at_18 (by decide) ?_
      refine z_iand dX8_at_21 ?_
      refine z_goto (tgt := 26) dX8_at_22 (by decide) ?_
      exact z_ireturn dX8_at_26 rfl rfl (Nat.le_refl _) (Nat.le_refl _) hv
theorem sp_X8_at {d : Nat} {I : zI} {L : zL} {P : zP} {x : Int32} (hP : zPk P) (h : vp_in (I 1 1) 1601) {K : Int32 → zI → zL → zP → Prop} (kk : K (cAt I x) I L P) : zMi zm_X8_at d [.ref 1, .int x] I L P K := by
  obtain ⟨n, hn, e⟩ := vp_in_of h (by decide)
  unfold cAt at kk
  rw [e, nI_cl (by omega)] at kk
  have w := pin (x := x) (n := n) (by omega)
  refine g_X8_at hP ⟨fun q => qi ?_, fun q => ⟨fun q2 => qi ?_, fun q2 => ⟨?_, qi ?_⟩⟩⟩
  · rwa [if_neg (fun z => (w.mpr z).1 q)] at kk
  · rw [e] at q2
    rwa [if_neg (fun z => (w.mpr z).2 q2)] at kk
  · rw [e] at q2
    obtain ⟨j, hj, rfl⟩ := vp_in_of (w.mp ⟨q, q2⟩) (by omega)
    exact nx_in (by omega) (by decide)
  · rw [e] at q2
    rwa [if_pos (w.mp ⟨q, q2⟩)] at kk
abbrev gw_X9_isLetter (d : Nat) (Q : zQt) (pc : Nat) (lv : zV) (st : List Value) (I : zI) (L : zL) (P : zP) : Prop := zW zm_X9_isLetter (zRm d 0 0) 0 0 Q pc lv st I L P 205 0 0
abbrev v_X9_isLetter (d : Nat) (Q : zQt) (p1 : Int32) (I : zI) (L : zL) (P : zP) : Prop :=
  ((p1 < 97 →
    Q (some (.int 0)) I L P 205
  ) ∧ (¬ p1 < 97 →
    ((122 < p1 →
      Q (some (.int 0)) I L P 205
    ) ∧ (¬ 122 < p1 →
      Q (some (.int 1)) I L P 205
    ))
  ))
set_option maxRecDepth 20000 in
theorem g_X9_isLetter {d : Nat} {Q : zQt} {p1 : Int32} {I : zI} {L : zL} {P : zP} (hP : zPk P) (hv : v_X9_isLetter d Q p1 I L P) : zM zm_X9_isLetter d 0 0 [.int p1] I L P 205 Q := by
  unfold v_X9_isLetter at hv
  refine zM_of (lv0 := [some (.int p1)]) (by decide +kernel) (Nat.le_of_ble_eq_true rfl) rfl ?_
  refine z_iload_n dX9_isLetter_0 rfl ?_
  refine z_bipush (v := 97) dX9_isLetter_1 (by decide) ?_
  refine z_icmp_lt (tgt := 16) dX9_isLetter_3 (by decide) (fun q1 => ?_) (fun q1 => ?_)
  · have hv := hv.1 q1
    refine z_iconst (v := 0) dX9_isLetter_16 (by decide) ?_
    exact z_ireturn dX9_isLetter_17 rfl (by decide) (Nat.le_refl _) (Nat.le_refl _) hv
  · have hv := hv.2 q1
    refine z_iload_n dX9_isLetter_6 rfl ?_
    refine z_bipush (v := 122) dX9_isLetter_7 (by decide) ?_
    refine z_icmp_gt (tgt := 16) dX9_isLetter_9 (by decide) (fun q2 => ?_) (fun q2 => ?_)
    · have hv := hv.1 q2
      refine z_iconst (v := 0) dX9_isLetter_16 (by decide) ?_
      exact z_ireturn dX9_isLetter_17 rfl (by decide) (Nat.le_refl _) (Nat.le_refl _) hv
    · have hv := hv.2 q2
      refine z_iconst (v := 1) dX9_isLetter_12 (by decide) ?_
      refine z_goto (tgt := 17) dX9_isLetter_13 (by decide) ?_
      exact z_ireturn dX9_isLetter_17 rfl (by decide) (Nat.le_refl _) (Nat.le_refl _) hv
theorem sp_X9_isLetter {d : Nat} {I : zI} {L : zL} {P : zP} {x : Int32} (hP : zPk P) {K : Int32 → zI → zL → zP → Prop} (k : K (bP (isLt x)) I L P) : zMi zm_X9_isLetter d [.int x] I L P K := by
  refine g_X9_isLetter hP ⟨fun q => qi ?_, fun q => ⟨fun q2 => qi ?_, fun q2 => qi ?_⟩⟩
  · rwa [bP_f (fun z : isLt x => z.1 q)] at k
  · rwa [bP_f (fun z : isLt x => z.2 q2)] at k
  · rwa [bP_t (show isLt x from ⟨q, q2⟩)] at k
abbrev gw_X9_isDigit (d : Nat) (Q : zQt) (pc : Nat) (lv : zV) (st : List Value) (I : zI) (L : zL) (P : zP) : Prop := zW zm_X9_isDigit (zRm d 0 0) 0 0 Q pc lv st I L P 205 0 0
abbrev v_X9_isDigit (d : Nat) (Q : zQt) (p1 : Int32) (I : zI) (L : zL) (P : zP) : Prop :=
  ((p1 < 48 →
    Q (some (.int 0)) I L P 205
  ) ∧ (¬ p1 < 48 →
    ((57 < p1 →
      Q (some (.int 0)) I L P 205
    ) ∧ (¬ 57 < p1 →
      Q (some (.int 1)) I L P 205
    ))
  ))
set_option maxRecDepth 20000 in
theorem g_X9_isDigit {d : Nat} {Q : zQt} {p1 : Int32} {I : zI} {L : zL} {P : zP} (hP : zPk P) (hv : v_X9_isDigit d Q p1 I L P) : zM zm_X9_isDigit d 0 0 [.int p1] I L P 205 Q := by
  unfold v_X9_isDigit at hv
  refine zM_of (lv0 := [some (.int p1)]) (by decide +kernel) (Nat.le_of_ble_eq_true rfl) rfl ?_
  refine z_iload_n dX9_isDigit_0 rfl ?_
  refine z_bipush (v := 48) dX9_isDigit_1 (by decide) ?_
  refine z_icmp_lt (tgt := 16) dX9_isDigit_3 (by decide) (fun q1 => ?_) (fun q1 => ?_)
  · have hv := hv.1 q1
    refine z_iconst (v := 0) dX9_isDigit_16 (by decide) ?_
    exact z_ireturn dX9_isDigit_17 rfl (by decide) (Nat.le_refl _) (Nat.le_refl _) hv
  · have hv := hv.2 q1
    refine z_iload_n dX9_isDigit_6 rfl ?_
    refine z_bipush (v := 57) dX9_isDigit_7 (by decide) ?_
    refine z_icmp_gt (tgt := 16) dX9_isDigit_9 (by decide) (fun q2 => ?_) (fun q2 => ?_)
    · have hv := hv.1 q2
      refine z_iconst (v := 0) dX9_isDigit_16 (by decide) ?_
      exact z_ireturn dX9_isDigit_17 rfl (by decide) (Nat.le_refl _) (Nat.le_refl _) hv
    · have hv := hv.2 q2
      refine z_iconst (v := 1) dX9_isDigit_12 (by decide) ?_
      refine z_goto (tgt := 17) dX9_isDigit_13 (by decide) ?_
      exact z_ireturn dX9_isDigit_17 rfl (by decide) (Nat.le_refl _) (Nat.le_refl _) hv
theorem sp_X9_isDigit {d : Nat} {I : zI} {L : zL} {P : zP} {x : Int32} (hP : zPk P) {K : Int32 → zI → zL → zP → Prop} (k : K (bP (isDg x)) I L P) : zMi zm_X9_isDigit d [.int x] I L P K := by
  refine g_X9_isDigit hP ⟨fun q => qi ?_, fun q => ⟨fun q2 => qi ?_, fun q2 => qi ?_⟩⟩
  · rwa [bP_f (fun z : isDg x => z.1 q)] at k
  · rwa [bP_f (fun z : isDg x => z.2 q2)] at k
  · rwa [bP_t (show isDg x from ⟨q, q2⟩)] at k
/-- only the place in the text has moved -/
def kFr (I0 I : zI) : Prop := cFr [18] I0 I ∧ ∀ k, k ≠ 6 → I 18 k = I0 18 k
theorem kFr_rf (I : zI) : kFr I I := ⟨cFr_rf _ _, fun _ _ => rfl⟩
theorem kFr_s {I0 I : zI} {v : Int32} (h : kFr I0 I) : kFr I0 (zuI I 18 6 v) := ⟨cFr_c h.1 (by simp), fun k hk => by rw [zuI_o hk]; exact h.2 k hk⟩
theorem kFr_tr {I0 I1 I2 : zI} (h : kFr I0 I1) (h2 : kFr I1 I2) : kFr I0 I2 := ⟨cFr_tr h.1 h2.1, fun k hk => (h2.2 k hk).trans (h.2 k hk)⟩
theorem tpR_k {I I' : zI} {T : Nat → Int32} {n : Nat} (h : tpR I T n) (hf : kFr I I') : tpR I' T n := tpR_c h (hf.1 1 (by decide)) (hf.1 2 (by decide))
theorem tpR_v {I : zI} {T : Nat → Int32} {n : Nat} (h : tpR I T n) : vp_in (I 1 1) 1601 := by rw [h.2.1]; exact nx_in (by have := h.1; omega) (by decide)
abbrev gw_X9_skipBlanks (d : Nat) (Q : zQt) (pc : Nat) (lv : zV) (st : List Value) (I : zI) (L : zL) (P : zP) : Prop := zW zm_X9_skipBlanks (zRm d 0 0) 0 0 Q pc lv st I L P 205 0 0
abbrev v_X9_skipBlanks_0 (d : Nat) (Q : zQt)  (I : zI) (L : zL) (P : zP) : Prop :=
  (((I 1 1) ≤ (I 18 6) →
    Q none I L P 205
  ) ∧ (¬ (I 1 1) ≤ (I 18 6) →
    vp_in (I 1 1) 1601 ∧
    (((cAt I (I 18 6)) = 32 →
      ∀ I6 : zI, I6 = zuI I 18 6 ((I 18 6) + 1) →
      gw_X9_skipBlanks (d + 1) Q 0 [some (.ref 18)] [] I6 L P
    ) ∧ (¬ (cAt I (I 18 6)) = 32 →
      ((¬ (cAt I (I 18 6)) = 10 →
        Q none I L P 205
      ) ∧ ((cAt I (I 18 6)) = 10 →
        ∀ I11 : zI, I11 = zuI I 18 6 ((I 18 6) + 1) →
        gw_X9_skipBlanks (d + 1) Q 0 [some (.ref 18)] [] I11 L P
      ))
    ))
  ))
set_option maxRecDepth 20000 in
theorem g_X9_skipBlanks_0 {d : Nat} {Q : zQt}  {I : zI} {L : zL} {P : zP} (hP : zPk P) (hv : v_X9_skipBlanks_0 d Q  I L P) : gw_X9_skipBlanks (d + 1) Q 0 [some (.ref 18)] [] I L P := by
  unfold v_X9_skipBlanks_0 at hv
  refine z_aload_n dX9_skipBlanks_0 rfl ?_
  refine z_getI dX9_skipBlanks_1 zf_X9_33 zn_18 zo_18 (fun _ _ _ _ _ => rfl) ?_
  refine z_aload_n dX9_skipBlanks_4 rfl ?_
  refine z_getP dX9_skipBlanks_5 zf_X9_36 zn_18 zo_18 (fun _ _ _ _ _ => rfl) (hP 18 0 1 zp_18_0) ?_
  refine z_getI dX9_skipBlanks_8 zf_X9_58 zn_1 zo_1 (fun _ _ _ _ _ => rfl) ?_
  refine z_icmp_ge (tgt := 59) dX9_skipBlanks_11 (by decide) (fun q1 => ?_) (fun q1 => ?_)
  · have hv := hv.1 q1
    exact z_return dX9_skipBlanks_59 rfl (Nat.le_refl _) (Nat.le_refl _) hv
  · have hv := hv.2 q1
    refine z_aload_n dX9_skipBlanks_14 rfl ?_
    refine z_getP dX9_skipBlanks_15 zf_X9_36 zn_18 zo_18 (fun _ _ _ _ _ => rfl) (hP 18 0 1 zp_18_0) ?_
    refine z_aload_n dX9_skipBlanks_18 rfl ?_
    refine z_getI dX9_skipBlanks_19 zf_X9_33 zn_18 zo_18 (fun _ _ _ _ _ => rfl) ?_
    obtain ⟨h2, hv⟩ := hv
    refine z_callV (As := [.int (I 18 6)]) (st := []) dX9_skipBlanks_22 zl_X9_60 zv_X8_at (by decide) rfl zn_1 zo_1 rfl rfl (Nat.le_of_ble_eq_true rfl) ⟨Nat.le_refl _, Nat.le_refl _⟩ ⟨Nat.le_refl _, Nat.le_refl _⟩ (sp_X8_at hP h2 (K := fun r I' L' P' => cAt I (I 18 6) = r ∧ I = I' ∧ L = L' ∧ P = P') ⟨rfl, rfl, rfl, rfl⟩) (fun v1 I2 L2 P2 nx1 q4 => ?_)
    obtain ⟨rfl, r3, rfl, rfl, rfl, rfl, rfl⟩ := q4
    refine z_bipush (v := 32) dX9_skipBlanks_25 (by decide) ?_
    refine z_icmp_eq (tgt := 46) dX9_skipBlanks_27 (by decide) (fun q5 => ?_) (fun q5 => ?_)
    · have hv := hv.1 q5
      refine z_aload_n dX9_skipBlanks_46 rfl ?_
      refine z_dup dX9_skipBlanks_47 rfl ?_
      refine z_getI dX9_skipBlanks_48 zf_X9_33 zn_18 zo_18 (fun _ _ _ _ _ => rfl) ?_
      refine z_iconst (v := 1) dX9_skipBlanks_51 (by decide) ?_
      refine z_iadd dX9_skipBlanks_52 ?_
      refine z_putI dX9_skipBlanks_53 zf_X9_33 zn_18 zo_18 (Or.inl rfl) (fun _ _ _ _ _ => rfl) rfl rfl (z_nmI (fun I6 e7 => ?_))
      have hv := hv I6 e7
      refine z_goto (tgt := 0) dX9_skipBlanks_56 (by decide) ?_
      exact hv
    · have hv := hv.2 q5
      refine z_aload_n dX9_skipBlanks_30 rfl ?_
      refine z_getP dX9_skipBlanks_31 zf_X9_36 zn_18 zo_18 (fun _ _ _ _ _ => rfl) (hP 18 0 1 zp_18_0) ?_
      refine z_aload_n dX9_skipBlanks_34 rfl ?_
      refine z_getI dX9_skipBlanks_35 zf_X9_33 zn_18 zo_18 (fun _ _ _ _ _ => rfl) ?_
      refine z_callV (As := [.int (I 18 6)]) (st := []) dX9_skipBlanks_38 zl_X9_60 zv_X8_at (by decide) rfl zn_1 zo_1 rfl rfl (Nat.le_of_ble_eq_true rfl) ⟨Nat.le_refl _, Nat.le_refl _⟩ ⟨Nat.le_refl _, Nat.le_refl _⟩ (sp_X8_at hP h2 (K := fun r I' L' P' => cAt I (I 18 6) = r ∧ I = I' ∧ L = L' ∧ P = P') ⟨rfl, rfl, rfl, rfl⟩) (fun v1 I2 L2 P2 nx1 q9 => ?_)
      obtain ⟨rfl, r8, rfl, rfl, rfl, rfl, rfl⟩ := q9
      refine z_bipush (v := 10) dX9_skipBlanks_41 (by decide) ?_
      refine z_icmp_ne (tgt := 59) dX9_skipBlanks_43 (by decide) (fun q10 => ?_) (fun q10 => ?_)
      · have hv := hv.1 q10
        exact z_return dX9_skipBlanks_59 rfl (Nat.le_refl _) (Nat.le_refl _) hv
      · have hv := hv.2 q10
        refine z_aload_n dX9_skipBlanks_46 rfl ?_
        refine z_dup dX9_skipBlanks_47 rfl ?_
        refine z_getI dX9_skipBlanks_48 zf_X9_33 zn_18 zo_18 (fun _ _ _ _ _ => rfl) ?_
        refine z_iconst (v := 1) dX9_skipBlanks_51 (by decide) ?_
        refine z_iadd dX9_skipBlanks_52 ?_
        refine z_putI dX9_skipBlanks_53 zf_X9_33 zn_18 zo_18 (Or.inl rfl) (fun _ _ _ _ _ => rfl) rfl rfl (z_nmI (fun I11 e12 => ?_))
        have hv := hv I11 e12
        refine z_goto (tgt := 0) dX9_skipBlanks_56 (by decide) ?_
        exact hv
abbrev v_X9_skipBlanks (d : Nat) (Q : zQt)  (I : zI) (L : zL) (P : zP) : Prop :=
  gw_X9_skipBlanks (d + 1) Q 0 [some (.ref 18)] [] I L P
set_option maxRecDepth 20000 in
theorem g_X9_skipBlanks {d : Nat} {Q : zQt}  {I : zI} {L : zL} {P : zP} (hP : zPk P) (hv : v_X9_skipBlanks d Q  I L P) : zM zm_X9_skipBlanks (d + 1) 0 0 [.ref 18] I L P 205 Q := by
  unfold v_X9_skipBlanks at hv
  refine zM_of (lv0 := [some (.ref 18)]) (by decide +kernel) (Nat.le_of_ble_eq_true rfl) rfl ?_
  exact hv
section TK
variable {d : Nat} {Q : zQt} {I0 : zI} {L : zL} {P : zP} {T : Nat → Int32} {n : Nat}
theorem lp_X9_skipBlanks (hP : zPk P) (hT : tpR I0 T n) {e : Nat} (kk : ∀ I, kFr I0 I → I 18 6 = nI (tA T n e) → Q none I L P 205) :
    ∀ m a I, n - a = m → a ≤ n → kFr I0 I → I 18 6 = nI a → rn (fun k => isBl (T k)) n a = tA T n e → gw_X9_skipBlanks (d + 1) Q 0 [some (.ref 18)] [] I L P := by
  intro m
  induction m with
  | zero =>
    intro a I hm ha hf h6 hr
    have h1 := tpR_k hT hf
    have hn := hT.1
    refine g_X9_skipBlanks_0 hP ⟨fun _ => kk I hf ?_, fun q => absurd (by rw [h1.2.1, h6]; exact nI_le (by omega) (by omega)) q⟩
    rw [h6, ← hr, rn_0 (fun z => by omega)]
  | succ m ih =>
    intro a I hm ha hf h6 hr
    have h1 := tpR_k hT hf
    have hn := hT.1
    have ha2 : a < n := by omega
    refine g_X9_skipBlanks_0 hP ⟨fun q => absurd q (by rw [h1.2.1, h6]; exact nI_ge ha2 (by omega)), fun _ => ⟨tpR_v h1, ?_⟩⟩
    rw [h6, cAt_in h1 ha2]
    have on : isBl (T a) → ∀ I1 : zI, I1 = zuI I 18 6 (nI a + 1) → gw_X9_skipBlanks (d + 1) Q 0 [some (.ref 18)] [] I1 L P := by
      intro hb I1 e1
      subst e1
      refine ih (a + 1) _ (by omega) (by omega) (kFr_s hf) (by rw [zuI_v, nI_1]) ?_
      rw [← hr, rn_s ha2 hb]
    refine ⟨fun q => on (Or.inl q), fun q => ⟨fun q2 => kk I hf ?_, fun q2 => on (Or.inr q2)⟩⟩
    rw [h6, ← hr, rn_0 (fun z => z.2.elim q q2)]
theorem sp_X9_skipBlanks {e : Nat} (hP : zPk P) (hT : tpR I0 T n) (he : e ≤ n) (h6 : I0 18 6 = nI e) (hd : 1 ≤ d) {K : zI → zL → zP → Prop} (kk : ∀ I, kFr I0 I → I 18 6 = nI (tA T n e) → K I L P) : zMv zm_X9_skipBlanks d [.ref 18] I0 L P K := by
  obtain ⟨d, rfl⟩ : ∃ e, d = e + 1 := ⟨d - 1, by omega⟩
  exact g_X9_skipBlanks hP (lp_X9_skipBlanks hP hT (fun I a b => qv (kk I a b)) (n - e) e I0 rfl he (kFr_rf _) h6 rfl)
abbrev gw_X9_takeWord (d : Nat) (Q : zQt) (pc : Nat) (lv : zV) (st : List Value) (I : zI) (L : zL) (P : zP) : Prop := zW zm_X9_takeWord (zRm d 0 0) 0 0 Q pc lv st I L P 205 0 0
abbrev v_X9_takeWord_97 (d : Nat) (Q : zQt) (x2 : Int64) (x4 : Int32) (I : zI) (L : zL) (P : zP) : Prop :=
  ((17 ≤ x4 →
    Q (some (.int 273)) I L P 205
  ) ∧ (¬ 17 ≤ x4 →
    vp_in x4 17 ∧
    ((¬ (lg_cmp (L 19 x4.toNatClampNeg) x2) = 0 →
      gw_X9_takeWord (d + 1) Q 97 [some (.ref 18), none, some (.long x2), none, some (.int (x4 + 1))] [] I L P
    ) ∧ ((lg_cmp (L 19 x4.toNatClampNeg) x2) = 0 →
      Q (some (.int ((256 : Int32) + x4))) I L P 205
    ))
  ))
set_option maxRecDepth 20000 in
theorem g_X9_takeWord_97 {d : Nat} {Q : zQt} {x2 : Int64} {x4 : Int32} {I : zI} {L : zL} {P : zP} (hP : zPk P) (hv : v_X9_takeWord_97 d Q x2 x4 I L P) : gw_X9_takeWord (d + 1) Q 97 [some (.ref 18), none, some (.long x2), none, some (.int x4)] [] I L P := by
  unfold v_X9_takeWord_97 at hv
  refine z_iload dX9_takeWord_97 rfl ?_
  refine z_bipush (v := 17) dX9_takeWord_99 (by decide) ?_
  refine z_icmp_ge (tgt := 129) dX9_takeWord_101 (by decide) (fun q20 => ?_) (fun q20 => ?_)
  · have hv := hv.1 q20
    refine z_sipush (v := 273) dX9_takeWord_129 (by decide) ?_
    exact z_ireturn dX9_takeWord_132 rfl rfl (Nat.le_refl _) (Nat.le_refl _) hv
  · have hv := hv.2 q20
    refine z_aload_n dX9_takeWord_104 rfl ?_
    refine z_getP dX9_takeWord_105 zf_X9_11 zn_18 zo_18 (fun _ _ _ _ _ => rfl) (hP 18 1 19 zp_18_1) ?_
    refine z_iload dX9_takeWord_108 rfl ?_
    obtain ⟨h21, hv⟩ := hv
    refine z_laload dX9_takeWord_110 zn_19 zh_19 h21 ?_
    refine z_lload_n dX9_takeWord_111 rfl ?_
    refine z_lcmp dX9_takeWord_112 ?_
    refine z_if_ne (tgt := 123) dX9_takeWord_113 (by decide) (fun q22 => ?_) (fun q22 => ?_)
    · have hv := hv.1 q22
      refine z_iinc (v2 := x4 + 1) (lv2 := [some (.ref 18), none, some (.long x2), none, some (.int (x4 + 1))]) dX9_takeWord_123 rfl (by rfl) (by decide) rfl rfl ?_
      refine z_goto (tgt := 97) dX9_takeWord_126 (by decide) ?_
      exact hv
    · have hv := hv.2 q22
      refine z_sipush (v := 256) dX9_takeWord_116 (by decide) ?_
      refine z_iload dX9_takeWord_119 rfl ?_
      refine z_iadd dX9_takeWord_121 ?_
      exact z_ireturn dX9_takeWord_122 rfl rfl (Nat.le_refl _) (Nat.le_refl _) hv
abbrev v_X9_takeWord_7 (d : Nat) (Q : zQt) (x1 : Int32) (x2 : Int64) (I : zI) (L : zL) (P : zP) : Prop :=
  (((I 1 1) ≤ (I 18 6) →
    ((((I 18 6) - x1) ≤ 8 →
      vp_in (I 18 5) 1601 ∧
      ∀ L5 : zL, L5 = zuL L 22 (I 18 5).toNatClampNeg x2 →
      gw_X9_takeWord (d + 1) Q 97 [some (.ref 18), none, some (.long x2), none, some (.int 0)] [] I L5 P
    ) ∧ (¬ ((I 18 6) - x1) ≤ 8 →
      Q (some (.int 276)) I L P 205
    ))
  ) ∧ (¬ (I 1 1) ≤ (I 18 6) →
    vp_in (I 1 1) 1601 ∧
    (((bP (isLt (cAt I (I 18 6)))) = 0 →
      ((((I 18 6) - x1) ≤ 8 →
        vp_in (I 18 5) 1601 ∧
        ∀ L15 : zL, L15 = zuL L 22 (I 18 5).toNatClampNeg x2 →
        gw_X9_takeWord (d + 1) Q 97 [some (.ref 18), none, some (.long x2), none, some (.int 0)] [] I L15 P
      ) ∧ (¬ ((I 18 6) - x1) ≤ 8 →
        Q (some (.int 276)) I L P 205
      ))
    ) ∧ (¬ (bP (isLt (cAt I (I 18 6)))) = 0 →
      ∀ I18 : zI, I18 = zuI I 18 6 ((I 18 6) + 1) →
      gw_X9_takeWord (d + 1) Q 7 [some (.ref 18), some (.int x1), some (.long (((x2 : Int64) <<< ((8 : Int32).toInt64 &&& 63) : Int64) ||| (((cAt I (I 18 6)) : Int32).toInt64) : Int64)), none, none] [] I18 L P
    ))
  ))
set_option maxRecDepth 20000 in
theorem g_X9_takeWord_7 {d : Nat} {Q : zQt} {x1 : Int32} {x2 : Int64} {I : zI} {L : zL} {P : zP} (hP : zPk P) (hv : v_X9_takeWord_7 d Q x1 x2 I L P) : gw_X9_takeWord (d + 1) Q 7 [some (.ref 18), some (.int x1), some (.long x2), none, none] [] I L P := by
  unfold v_X9_takeWord_7 at hv
  refine z_aload_n dX9_takeWord_7 rfl ?_
  refine z_getI dX9_takeWord_8 zf_X9_33 zn_18 zo_18 (fun _ _ _ _ _ => rfl) ?_
  refine z_aload_n dX9_takeWord_11 rfl ?_
  refine z_getP dX9_takeWord_12 zf_X9_36 zn_18 zo_18 (fun _ _ _ _ _ => rfl) (hP 18 0 1 zp_18_0) ?_
  refine z_getI dX9_takeWord_15 zf_X9_58 zn_1 zo_1 (fun _ _ _ _ _ => rfl) ?_
  refine z_icmp_ge (tgt := 69) dX9_takeWord_18 (by decide) (fun q1 => ?_) (fun q1 => ?_)
  · have hv := hv.1 q1
    refine z_aload_n dX9_takeWord_69 rfl ?_
    refine z_getI dX9_takeWord_70 zf_X9_33 zn_18 zo_18 (fun _ _ _ _ _ => rfl) ?_
    refine z_iload_n dX9_takeWord_73 rfl ?_
    refine z_isub dX9_takeWord_74 ?_
    refine z_bipush (v := 8) dX9_takeWord_75 (by decide) ?_
    refine z_icmp_le (tgt := 84) dX9_takeWord_77 (by decide) (fun q2 => ?_) (fun q2 => ?_)
    · have hv := hv.1 q2
      refine z_aload_n dX9_takeWord_84 rfl ?_
      refine z_getP dX9_takeWord_85 zf_X9_26 zn_18 zo_18 (fun _ _ _ _ _ => rfl) (hP 18 4 22 zp_18_4) ?_
      refine z_aload_n dX9_takeWord_88 rfl ?_
      refine z_getI dX9_takeWord_89 zf_X9_29 zn_18 zo_18 (fun _ _ _ _ _ => rfl) ?_
      refine z_lload_n dX9_takeWord_92 rfl ?_
      obtain ⟨h3, hv⟩ := hv
      refine z_lastore dX9_takeWord_93 zn_22 zh_22 h3 (z_nmL (fun L5 e4 => ?_))
      have hv := hv L5 e4
      refine z_iconst (v := 0) dX9_takeWord_94 (by decide) ?_
      refine z_istore (lv2 := [some (.ref 18), some (.int x1), some (.long x2), none, some (.int 0)]) dX9_takeWord_95 (by decide) rfl rfl ?_
      exact z_sub (by exact ⟨rfl, ⟨rfl, ⟨rfl, trivial⟩⟩⟩) hv
    · have hv := hv.2 q2
      refine z_sipush (v := 276) dX9_takeWord_80 (by decide) ?_
      exact z_ireturn dX9_takeWord_83 rfl rfl (Nat.le_refl _) (Nat.le_refl _) hv
  · have hv := hv.2 q1
    refine z_aload_n dX9_takeWord_21 rfl ?_
    refine z_getP dX9_takeWord_22 zf_X9_36 zn_18 zo_18 (fun _ _ _ _ _ => rfl) (hP 18 0 1 zp_18_0) ?_
    refine z_aload_n dX9_takeWord_25 rfl ?_
    refine z_getI dX9_takeWord_26 zf_X9_33 zn_18 zo_18 (fun _ _ _ _ _ => rfl) ?_
    obtain ⟨h6, hv⟩ := hv
    refine z_callV (As := [.int (I 18 6)]) (st := []) dX9_takeWord_29 zl_X9_60 zv_X8_at (by decide) rfl zn_1 zo_1 rfl rfl (Nat.le_of_ble_eq_true rfl) ⟨Nat.le_refl _, Nat.le_refl _⟩ ⟨Nat.le_refl _, Nat.le_refl _⟩ (sp_X8_at hP h6 (K := fun r I' L' P' => cAt I (I 18 6) = r ∧ I = I' ∧ L = L' ∧ P = P') ⟨rfl, rfl, rfl, rfl⟩) (fun v1 I2 L2 P2 nx1 q8 => ?_)
    obtain ⟨rfl, r7, rfl, rfl, rfl, rfl, rfl⟩ := q8
    refine z_callS (As := [.int (cAt I (I 18 6))]) (st := []) dX9_takeWord_32 zl_X9_63 zs_X9_isLetter rfl rfl (Nat.le_of_ble_eq_true rfl) ⟨Nat.le_refl _, Nat.le_refl _⟩ ⟨Nat.le_refl _, Nat.le_refl _⟩ (sp_X9_isLetter hP (K := fun r I' L' P' => bP (isLt (cAt I (I 18 6))) = r ∧ I = I' ∧ L = L' ∧ P = P') ⟨rfl, rfl, rfl, rfl⟩) (fun v1 I2 L2 P2 nx1 q10 => ?_)
    obtain ⟨rfl, r9, rfl, rfl, rfl, rfl, rfl⟩ := q10
    refine z_if_eq (tgt := 69) dX9_takeWord_35 (by decide) (fun q11 => ?_) (fun q11 => ?_)
    · have hv := hv.1 q11
      refine z_aload_n dX9_takeWord_69 rfl ?_
      refine z_getI dX9_takeWord_70 zf_X9_33 zn_18 zo_18 (fun _ _ _ _ _ => rfl) ?_
      refine z_iload_n dX9_takeWord_73 rfl ?_
      refine z_isub dX9_takeWord_74 ?_
      refine z_bipush (v := 8) dX9_takeWord_75 (by decide) ?_
      refine z_icmp_le (tgt := 84) dX9_takeWord_77 (by decide) (fun q12 => ?_) (fun q12 => ?_)
      · have hv := hv.1 q12
        refine z_aload_n dX9_takeWord_84 rfl ?_
        refine z_getP dX9_takeWord_85 zf_X9_26 zn_18 zo_18 (fun _ _ _ _ _ => rfl) (hP 18 4 22 zp_18_4) ?_
        refine z_aload_n dX9_takeWord_88 rfl ?_
        refine z_getI dX9_takeWord_89 zf_X9_29 zn_18 zo_18 (fun _ _ _ _ _ => rfl) ?_
        refine z_lload_n dX9_takeWord_92 rfl ?_
        obtain ⟨h13, hv⟩ := hv
        refine z_lastore dX9_takeWord_93 zn_22 zh_22 h13 (z_nmL (fun L15 e14 => ?_))
        have hv := hv L15 e14
        refine z_iconst (v := 0) dX9_takeWord_94 (by decide) ?_
        refine z_istore (lv2 := [some (.ref 18), some (.int x1), some (.long x2), none, some (.int 0)]) dX9_takeWord_95 (by decide) rfl rfl ?_
        exact z_sub (by exact ⟨rfl, ⟨rfl, ⟨rfl, trivial⟩⟩⟩) hv
      · have hv := hv.2 q12
        refine z_sipush (v := 276) dX9_takeWord_80 (by decide) ?_
        exact z_ireturn dX9_takeWord_83 rfl rfl (Nat.le_refl _) (Nat.le_refl _) hv
    · have hv := hv.2 q11
      refine z_lload_n dX9_takeWord_38 rfl ?_
      refine z_bipush (v := 8) dX9_takeWord_39 (by decide) ?_
      refine z_lshl dX9_takeWord_41 ?_
      refine z_aload_n dX9_takeWord_42 rfl ?_
      refine z_getP dX9_takeWord_43 zf_X9_36 zn_18 zo_18 (fun _ _ _ _ _ => rfl) (hP 18 0 1 zp_18_0) ?_
      refine z_aload_n dX9_takeWord_46 rfl ?_
      refine z_getI dX9_takeWord_47 zf_X9_33 zn_18 zo_18 (fun _ _ _ _ _ => rfl) ?_
      refine z_callV (As := [.int (I 18 6)]) (st := [.long ((x2 : Int64) <<< ((8 : Int32).toInt64 &&& 63) : Int64)]) dX9_takeWord_50 zl_X9_60 zv_X8_at (by decide) rfl zn_1 zo_1 rfl rfl (Nat.le_of_ble_eq_true rfl) ⟨Nat.le_refl _, Nat.le_refl _⟩ ⟨Nat.le_refl _, Nat.le_refl _⟩ (sp_X8_at hP h6 (K := fun r I' L' P' => cAt I (I 18 6) = r ∧ I = I' ∧ L = L' ∧ P = P') ⟨rfl, rfl, rfl, rfl⟩) (fun v1 I2 L2 P2 nx1 q17 => ?_)
      obtain ⟨rfl, r16, rfl, rfl, rfl, rfl, rfl⟩ := q17
      refine z_i2l dX9_takeWord_53 ?_
      refine z_lor dX9_takeWord_54 ?_
      refine z_lstore_n (lv2 := [some (.ref 18), some (.int x1), some (.long (((x2 : Int64) <<< ((8 : Int32).toInt64 &&& 63) : Int64) ||| (((cAt I (I 18 6)) : Int32).toInt64) : Int64)), none, none]) dX9_takeWord_55 (by decide) rfl rfl ?_
      refine z_aload_n dX9_takeWord_56 rfl ?_
      refine z_dup dX9_takeWord_57 rfl ?_
      refine z_getI dX9_takeWord_58 zf_X9_33 zn_18 zo_18 (fun _ _ _ _ _ => rfl) ?_
      refine z_iconst (v := 1) dX9_takeWord_61 (by decide) ?_
      refine z_iadd dX9_takeWord_62 ?_
      refine z_putI dX9_takeWord_63 zf_X9_33 zn_18 zo_18 (Or.inl rfl) (fun _ _ _ _ _ => rfl) rfl rfl (z_nmI (fun I18 e19 => ?_))
      have hv := hv I18 e19
      refine z_goto (tgt := 7) dX9_takeWord_66 (by decide) ?_
      exact hv
abbrev v_X9_takeWord (d : Nat) (Q : zQt)  (I : zI) (L : zL) (P : zP) : Prop :=
  gw_X9_takeWord (d + 1) Q 7 [some (.ref 18), some (.int (I 18 6)), some (.long 0), none, none] [] I L P
set_option maxRecDepth 20000 in
theorem g_X9_takeWord {d : Nat} {Q : zQt}  {I : zI} {L : zL} {P : zP} (hP : zPk P) (hv : v_X9_takeWord d Q  I L P) : zM zm_X9_takeWord (d + 1) 0 0 [.ref 18] I L P 205 Q := by
  unfold v_X9_takeWord at hv
  refine zM_of (lv0 := [some (.ref 18), none, none, none, none]) (by decide +kernel) (Nat.le_of_ble_eq_true rfl) rfl ?_
  refine z_aload_n dX9_takeWord_0 rfl ?_
  refine z_getI dX9_takeWord_1 zf_X9_33 zn_18 zo_18 (fun _ _ _ _ _ => rfl) ?_
  refine z_istore_n (lv2 := [some (.ref 18), some (.int (I 18 6)), none, none, none]) dX9_takeWord_4 (by decide) rfl rfl ?_
  refine z_lconst (v := 0) dX9_takeWord_5 (by decide) ?_
  refine z_lstore_n (lv2 := [some (.ref 18), some (.int (I 18 6)), some (.long 0), none, none]) dX9_takeWord_6 (by decide) rfl rfl ?_
  exact hv
/-- the class's words -/
def wdR (L : zL) : Prop := ∀ i (h : i < 17), L 19 i = wdL[i]'h
theorem lp_X9_takeWord_97 {I : zI} {v : Int64} (hP : zPk P) (hw : wdR L) (kk : Q (some (.int (nI (wIx v)))) I L P 205) :
    ∀ m i, i + m = 17 → (∀ j (h : j < 17), j < i → ¬ wdL[j]'h = v) → gw_X9_takeWord (d + 1) Q 97 [some (.ref 18), none, some (.long v), none, some (.int (nI i))] [] I L P := by
  intro m
  induction m with
  | zero =>
    intro i hi h1
    have : i = 17 := by omega
    subst this
    refine g_X9_takeWord_97 hP ⟨fun _ => ?_, fun q => absurd (by decide) q⟩
    have : ¬ v ∈ wdL := by
      intro z
      obtain ⟨j, hj, e⟩ := List.getElem_of_mem z
      exact h1 j hj hj e
    rw [wIx_f this] at kk
    exact kk
  | succ m ih =>
    intro i hi h1
    have hi2 : i < 17 := by omega
    refine g_X9_takeWord_97 hP ⟨fun q => absurd q (by rw [show (17 : Int32) = nI 17 from rfl]; exact nI_ge hi2 (by decide)), fun _ => ⟨nx_in hi2 (by decide), fun q => ?_, fun q => ?_⟩⟩
    · rw [nI_cl (by omega), hw i hi2, lg_cmp_eq] at q
      rw [nI_1]
      refine ih (i + 1) (by omega) (fun j hj hji => ?_)
      rcases Nat.lt_succ_iff_lt_or_eq.mp hji with z | z
      · exact h1 j hj z
      · subst z; exact q
    · rw [nI_cl (by omega), hw i hi2, lg_cmp_eq] at q
      have hm : v ∈ wdL := by rw [← q]; exact List.getElem_mem _
      have ei : wdL.idxOf v = i := by
        have hlt : wdL.idxOf v < 17 := List.idxOf_lt_length_of_mem hm
        have hge : wdL[wdL.idxOf v]'hlt = v := List.getElem_idxOf hlt
        by_cases c : wdL.idxOf v < i
        · exact absurd hge (h1 _ hlt c)
        · by_cases c2 : i < wdL.idxOf v
          · exfalso
            have := List.not_of_lt_findIdx (p := (· == v)) (xs := wdL) (i := i) c2
            simp [q] at this
          · omega
      rw [show (256 : Int32) = nI 256 from rfl, nI_add]
      unfold wIx at kk
      rw [if_pos hm, ei] at kk
      exact kk
end TK
