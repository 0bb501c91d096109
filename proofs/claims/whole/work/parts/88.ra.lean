/-! ===== the class: the reader's steps ===== -/
section RD
variable {d : Nat} {I : zI} {L : zL} {P : zP} {T : Nat → Int32} {n e : Nat}
/-- all is well, and the token at e stands here -/
def rG (T : Nat → Int32) (n : Nat) (I : zI) (L : zL) (e : Nat) : Prop := ∃ c i, tkR T n I L c ∧ i ≤ c ∧ eS T n i = e ∧ I 17 7 = nI i ∧ I 17 8 = nI (tK T n e) ∧ I 17 0 = 0 ∧ I 17 1 = -1
/-- a fault was met -/
def rB (k p : Nat) (I : zI) : Prop := (k ≠ 0 ∧ k < 100) ∧ I 17 0 = nI k ∧ I 17 1 = nI p ∧ I 17 8 = 277
def rF0 (I0 I : zI) : Prop := cFr [17] I0 I ∧ I 17 5 = I0 17 5 ∧ I 17 6 = I0 17 6
theorem rF0_rf (I : zI) : rF0 I I := ⟨cFr_rf _ _, rfl, rfl⟩
theorem rF0_tr {I0 I1 I2 : zI} (h : rF0 I0 I1) (h2 : rF0 I1 I2) : rF0 I0 I2 := ⟨cFr_tr h.1 h2.1, h2.2.1.trans h.2.1, h2.2.2.trans h.2.2⟩
theorem rG_e {I : zI} (h : rG T n I L e) : e ≤ n := by obtain ⟨c, i, -, -, rfl, -⟩ := h; exact eS_le i
theorem rG_0 {I : zI} (h : rG T n I L e) : I 17 0 = 0 := by obtain ⟨c, i, -, -, -, -, -, h, -⟩ := h; exact h
theorem rG_k {I : zI} (h : rG T n I L e) : I 17 8 = nI (tK T n e) := by obtain ⟨c, i, -, -, -, -, h, -⟩ := h; exact h
theorem rG_w {I : zI} {w : Nat} (h : rG T n I L e) (hw : w < 2 ^ 31) : I 17 8 = nI w ↔ tK T n e = w := by
  have := tK_lt (T := T) (n := n) e
  rw [rG_k h, nI_eq (by omega) hw]
theorem rB_n {k p : Nat} {I : zI} (h : rB k p I) : ¬ I 17 0 = 0 := by rw [h.2.1, nI_zero (by have := h.1; omega)]; exact h.1.1
theorem rB_w {k p w : Nat} {I : zI} (h : rB k p I) (hw : w < 277) : ¬ I 17 8 = nI w := by
  rw [h.2.2.2, show (277 : Int32) = nI 277 from rfl, nI_eq (by decide) (by omega)]; omega
/-- what stays of a state when other cells change -/
theorem rG_c {I I' : zI} {L' : zL} (h : rG T n I L e) (e17 : ∀ k, k ≠ 6 → I' 17 k = I 17 k) (e18 : I' 18 = I 18) (e20 : I' 20 = I 20) (e21 : I' 21 = I 21) (eL : L' 22 = L 22) : rG T n I' L' e := by
  obtain ⟨c, i, h1, h2, h3, h4, h5, h6, h7⟩ := h
  exact ⟨c, i, tkR_c h1 (by rw [e18]) e20 e21 eL, h2, h3, by rw [e17 7 (by decide)]; exact h4, by rw [e17 8 (by decide)]; exact h5, by rw [e17 0 (by decide)]; exact h6, by rw [e17 1 (by decide)]; exact h7⟩
noncomputable def fk (T : Nat → Int32) (n e k : Nat) : Nat := @ite _ (tK T n e = 276) (Classical.propDecidable _) 1 k
abbrev gw_X5_fail (d : Nat) (Q : zQt) (pc : Nat) (lv : zV) (st : List Value) (I : zI) (L : zL) (P : zP) : Prop := zW zm_X5_fail (zRm d 0 0) 0 0 Q pc lv st I L P 205 0 0
abbrev v_X5_fail (d : Nat) (Q : zQt) (p1 : Int32) (I : zI) (L : zL) (P : zP) : Prop :=
  ((¬ (I 17 0) = 0 →
    Q none I L P 205
  ) ∧ ((I 17 0) = 0 →
    ((¬ (I 17 8) = 276 →
      ∀ I3 : zI, I3 = zuI I 17 0 p1 →
      zMi zm_X9_placeOf d [.ref 18, .int (I3 17 7)] I3 L P (fun r9 I5 L6 P7 =>
        ∀ I10 : zI, I10 = zuI I5 17 1 r9 →
        ∀ I12 : zI, I12 = zuI I10 17 8 277 →
        Q none I12 L6 P7 205
      )
    ) ∧ ((I 17 8) = 276 →
      ∀ I14 : zI, I14 = zuI I 17 0 1 →
      zMi zm_X9_placeOf d [.ref 18, .int (I14 17 7)] I14 L P (fun r20 I16 L17 P18 =>
        ∀ I21 : zI, I21 = zuI I16 17 1 r20 →
        ∀ I23 : zI, I23 = zuI I21 17 8 277 →
        Q none I23 L17 P18 205
      )
    ))
  ))
set_option maxRecDepth 20000 in
theorem g_X5_fail {d : Nat} {Q : zQt} {p1 : Int32} {I : zI} {L : zL} {P : zP} (hP : zPk P) (hv : v_X5_fail d Q p1 I L P) : zM zm_X5_fail (d + 1) 0 0 [.ref 17, .int p1] I L P 205 Q := by
  unfold v_X5_fail at hv
  refine zM_of (lv0 := [some (.ref 17), some (.int p1)]) (by decide +kernel) (Nat.le_of_ble_eq_true rfl) rfl ?_
  refine z_aload_n dX5_fail_0 rfl ?_
  refine z_getI dX5_fail_1 zf_X5_9 zn_17 zo_17 (fun _ _ _ _ _ => rfl) ?_
  refine z_if_ne (tgt := 48) dX5_fail_4 (by decide) (fun q1 => ?_) (fun q1 => ?_)
  · have hv := hv.1 q1
    exact z_return dX5_fail_48 rfl (Nat.le_refl _) (Nat.le_refl _) hv
  · have hv := hv.2 q1
    refine z_aload_n dX5_fail_7 rfl ?_
    refine z_aload_n dX5_fail_8 rfl ?_
    refine z_getI dX5_fail_9 zf_X5_29 zn_17 zo_17 (fun _ _ _ _ _ => rfl) ?_
    refine z_sipush (v := 276) dX5_fail_12 (by decide) ?_
    refine z_icmp_ne (tgt := 22) dX5_fail_15 (by decide) (fun q2 => ?_) (fun q2 => ?_)
    · have hv := hv.1 q2
      refine z_iload_n dX5_fail_22 rfl ?_
      refine z_putI dX5_fail_23 zf_X5_9 zn_17 zo_17 (Or.inl rfl) (fun _ _ _ _ _ => rfl) rfl rfl (z_nmI (fun I3 e4 => ?_))
      have hv := hv I3 e4
      refine z_aload_n dX5_fail_26 rfl ?_
      refine z_aload_n dX5_fail_27 rfl ?_
      refine z_getP dX5_fail_28 zf_X5_37 zn_17 zo_17 (fun _ _ _ _ _ => rfl) (hP 17 2 18 zp_17_2) ?_
      refine z_aload_n dX5_fail_31 rfl ?_
      refine z_getI dX5_fail_32 zf_X5_24 zn_17 zo_17 (fun _ _ _ _ _ => rfl) ?_
      refine z_callV (As := [.int (I3 17 7)]) (st := [.ref 17]) dX5_fail_35 zl_X5_180 zv_X9_placeOf (by decide) rfl zn_18 zo_18 rfl rfl (Nat.le_of_ble_eq_true rfl) ⟨Nat.le_refl _, Nat.le_refl _⟩ ⟨Nat.le_refl _, Nat.le_refl _⟩ hv (fun v1 I5 L6 P7 nx1 q8 => ?_)
      obtain ⟨rfl, r9, rfl, hv⟩ := q8
      refine z_putI dX5_fail_38 zf_X5_15 zn_17 zo_17 (Or.inl rfl) (fun _ _ _ _ _ => rfl) rfl rfl (z_nmI (fun I10 e11 => ?_))
      have hv := hv I10 e11
      refine z_aload_n dX5_fail_41 rfl ?_
      refine z_sipush (v := 277) dX5_fail_42 (by decide) ?_
      refine z_putI dX5_fail_45 zf_X5_29 zn_17 zo_17 (Or.inl rfl) (fun _ _ _ _ _ => rfl) rfl rfl (z_nmI (fun I12 e13 => ?_))
      have hv := hv I12 e13
      exact z_return dX5_fail_48 rfl (Nat.le_refl _) (Nat.le_refl _) hv
    · have hv := hv.2 q2
      refine z_iconst (v := 1) dX5_fail_18 (by decide) ?_
      refine z_goto (tgt := 23) dX5_fail_19 (by decide) ?_
      refine z_putI dX5_fail_23 zf_X5_9 zn_17 zo_17 (Or.inl rfl) (fun _ _ _ _ _ => rfl) rfl rfl (z_nmI (fun I14 e15 => ?_))
      have hv := hv I14 e15
      refine z_aload_n dX5_fail_26 rfl ?_
      refine z_aload_n dX5_fail_27 rfl ?_
      refine z_getP dX5_fail_28 zf_X5_37 zn_17 zo_17 (fun _ _ _ _ _ => rfl) (hP 17 2 18 zp_17_2) ?_
      refine z_aload_n dX5_fail_31 rfl ?_
      refine z_getI dX5_fail_32 zf_X5_24 zn_17 zo_17 (fun _ _ _ _ _ => rfl) ?_
      refine z_callV (As := [.int (I14 17 7)]) (st := [.ref 17]) dX5_fail_35 zl_X5_180 zv_X9_placeOf (by decide) rfl zn_18 zo_18 rfl rfl (Nat.le_of_ble_eq_true rfl) ⟨Nat.le_refl _, Nat.le_refl _⟩ ⟨Nat.le_refl _, Nat.le_refl _⟩ hv (fun v1 I16 L17 P18 nx1 q19 => ?_)
      obtain ⟨rfl, r20, rfl, hv⟩ := q19
      refine z_putI dX5_fail_38 zf_X5_15 zn_17 zo_17 (Or.inl rfl) (fun _ _ _ _ _ => rfl) rfl rfl (z_nmI (fun I21 e22 => ?_))
      have hv := hv I21 e22
      refine z_aload_n dX5_fail_41 rfl ?_
      refine z_sipush (v := 277) dX5_fail_42 (by decide) ?_
      refine z_putI dX5_fail_45 zf_X5_29 zn_17 zo_17 (Or.inl rfl) (fun _ _ _ _ _ => rfl) rfl rfl (z_nmI (fun I23 e24 => ?_))
      have hv := hv I23 e24
      exact z_return dX5_fail_48 rfl (Nat.le_refl _) (Nat.le_refl _) hv
theorem sp_X5_fail {k : Nat} (hP : zPk P) (h : rG T n I L e) (hk : k ≠ 0 ∧ k < 100) (hd : 1 ≤ d) {K : zI → zL → zP → Prop} (kk : ∀ I', rF0 I I' → rB (fk T n e k) (tA T n e) I' → K I' L P) : zMv zm_X5_fail d [.ref 17, .int (nI k)] I L P K := by
  obtain ⟨d, rfl⟩ : ∃ e, d = e + 1 := ⟨d - 1, by omega⟩
  have h0 := rG_0 h
  have h8 := rG_w h (w := 276) (by decide)
  obtain ⟨c, i, t1, t2, t3, t4, t5, t6, t7⟩ := h
  have go : ∀ k', (k' ≠ 0 ∧ k' < 100) → fk T n e k = k' → ∀ I1 : zI, I1 = zuI I 17 0 (nI k') → zMi zm_X9_placeOf d [.ref 18, .int (I1 17 7)] I1 L P (fun r9 I5 L6 P7 => ∀ I10 : zI, I10 = zuI I5 17 1 r9 → ∀ I12 : zI, I12 = zuI I10 17 8 277 → (205 : Nat) = 205 ∧ (none : Option Value) = none ∧ K I12 L6 P7) := by
    intro k' hk' ek I1 e1
    have e7 : I1 17 7 = nI i := by rw [e1, zuI_o (by decide)]; exact t4
    rw [e7]
    refine sp_X9_placeOf (T := T) (n := n) (c := c) hP (tkR_c t1 (by rw [e1, zuI_ne (by decide)]) (by rw [e1, zuI_ne (by decide)]) (by rw [e1, zuI_ne (by decide)]) rfl) t2 (fun I2 e2 I3 e3 => qv (kk I3 ⟨?_, ?_, ?_⟩ ⟨?_, ?_, ?_, ?_⟩))
    · rw [e3, e2, e1]; exact cFr_c (cFr_c (cFr_c (cFr_rf _ _) (by simp)) (by simp)) (by simp)
    · rw [e3, zuI_o (by decide), e2, zuI_o (by decide), e1, zuI_o (by decide)]
    · rw [e3, zuI_o (by decide), e2, zuI_o (by decide), e1, zuI_o (by decide)]
    · rw [ek]; exact hk'
    · rw [e3, zuI_o (by decide), e2, zuI_o (by decide), e1, zuI_v, ek]
    · rw [e3, zuI_o (by decide), e2, zuI_v, t3]
    · rw [e3, zuI_v]
  refine g_X5_fail hP ⟨fun q => absurd h0 q, fun _ => ⟨fun q I1 e1 => ?_, fun q I1 e1 => ?_⟩⟩
  · exact go k hk (by unfold fk; rw [if_neg (fun z => q (h8.mpr z))]) I1 e1
  · exact go 1 (by decide) (by unfold fk; rw [if_pos (h8.mp q)]) I1 e1
theorem sp_X5_failB {k p : Nat} {x : Int32} (hP : zPk P) (h : rB k p I) (hd : 1 ≤ d) {K : zI → zL → zP → Prop} (kk : K I L P) : zMv zm_X5_fail d [.ref 17, .int x] I L P K := by
  obtain ⟨d, rfl⟩ : ∃ e, d = e + 1 := ⟨d - 1, by omega⟩
  exact g_X5_fail hP ⟨fun _ => qv kk, fun q => absurd q (rB_n h)⟩
abbrev gw_X5_advance (d : Nat) (Q : zQt) (pc : Nat) (lv : zV) (st : List Value) (I : zI) (L : zL) (P : zP) : Prop := zW zm_X5_advance (zRm d 0 0) 0 0 Q pc lv st I L P 205 0 0
abbrev v_X5_advance (d : Nat) (Q : zQt)  (I : zI) (L : zL) (P : zP) : Prop :=
  ((¬ (I 17 0) = 0 →
    Q none I L P 205
  ) ∧ ((I 17 0) = 0 →
    ∀ I2 : zI, I2 = zuI I 17 7 ((I 17 7) + 1) →
    zMi zm_X9_kindOf d [.ref 18, .int (I2 17 7)] I2 L P (fun r8 I4 L5 P6 =>
      ∀ I9 : zI, I9 = zuI I4 17 8 r8 →
      Q none I9 L5 P6 205
    )
  ))
set_option maxRecDepth 20000 in
theorem g_X5_advance {d : Nat} {Q : zQt}  {I : zI} {L : zL} {P : zP} (hP : zPk P) (hv : v_X5_advance d Q  I L P) : zM zm_X5_advance (d + 1) 0 0 [.ref 17] I L P 205 Q := by
  unfold v_X5_advance at hv
  refine zM_of (lv0 := [some (.ref 17)]) (by decide +kernel) (Nat.le_of_ble_eq_true rfl) rfl ?_
  refine z_aload_n dX5_advance_0 rfl ?_
  refine z_getI dX5_advance_1 zf_X5_9 zn_17 zo_17 (fun _ _ _ _ _ => rfl) ?_
  refine z_if_ne (tgt := 32) dX5_advance_4 (by decide) (fun q1 => ?_) (fun q1 => ?_)
  · have hv := hv.1 q1
    exact z_return dX5_advance_32 rfl (Nat.le_refl _) (Nat.le_refl _) hv
  · have hv := hv.2 q1
    refine z_aload_n dX5_advance_7 rfl ?_
    refine z_dup dX5_advance_8 rfl ?_
    refine z_getI dX5_advance_9 zf_X5_24 zn_17 zo_17 (fun _ _ _ _ _ => rfl) ?_
    refine z_iconst (v := 1) dX5_advance_12 (by decide) ?_
    refine z_iadd dX5_advance_13 ?_
    refine z_putI dX5_advance_14 zf_X5_24 zn_17 zo_17 (Or.inl rfl) (fun _ _ _ _ _ => rfl) rfl rfl (z_nmI (fun I2 e3 => ?_))
    have hv := hv I2 e3
    refine z_aload_n dX5_advance_17 rfl ?_
    refine z_aload_n dX5_advance_18 rfl ?_
    refine z_getP dX5_advance_19 zf_X5_37 zn_17 zo_17 (fun _ _ _ _ _ => rfl) (hP 17 2 18 zp_17_2) ?_
    refine z_aload_n dX5_advance_22 rfl ?_
    refine z_getI dX5_advance_23 zf_X5_24 zn_17 zo_17 (fun _ _ _ _ _ => rfl) ?_
    refine z_callV (As := [.int (I2 17 7)]) (st := [.ref 17]) dX5_advance_26 zl_X5_93 zv_X9_kindOf (by decide) rfl zn_18 zo_18 rfl rfl (Nat.le_of_ble_eq_true rfl) ⟨Nat.le_refl _, Nat.le_refl _⟩ ⟨Nat.le_refl _, Nat.le_refl _⟩ hv (fun v1 I4 L5 P6 nx1 q7 => ?_)
    obtain ⟨rfl, r8, rfl, hv⟩ := q7
    refine z_putI dX5_advance_29 zf_X5_29 zn_17 zo_17 (Or.inl rfl) (fun _ _ _ _ _ => rfl) rfl rfl (z_nmI (fun I9 e10 => ?_))
    have hv := hv I9 e10
    exact z_return dX5_advance_32 rfl (Nat.le_refl _) (Nat.le_refl _) hv
theorem sp_X5_advance (hP : zPk P) (h : rG T n I L e) (hk : tK T n e ≠ 275 ∧ tK T n e ≠ 276) (hd : 1 ≤ d) {K : zI → zL → zP → Prop} (kk : ∀ I', rF0 I I' → rG T n I' L (tE T n e) → K I' L P) : zMv zm_X5_advance d [.ref 17] I L P K := by
  obtain ⟨d, rfl⟩ : ∃ e, d = e + 1 := ⟨d - 1, by omega⟩
  have h0 := rG_0 h
  obtain ⟨c, i, t1, t2, t3, t4, t5, t6, t7⟩ := h
  have hic : i < c := by
    rcases Nat.lt_or_ge i c with z | z
    · exact z
    · have : i = c := by omega
      subst this
      rcases t1.2.2.2 with y | y
      · rw [t3] at y; exact absurd y hk.1
      · rw [t3] at y; exact absurd y hk.2
  refine g_X5_advance hP ⟨fun q => absurd h0 q, fun _ I1 e1 => ?_⟩
  have e7 : I1 17 7 = nI (i + 1) := by rw [e1, zuI_v, t4, nI_1]
  have r1 : tkR T n I1 L c := tkR_c t1 (by rw [e1, zuI_ne (by decide)]) (by rw [e1, zuI_ne (by decide)]) (by rw [e1, zuI_ne (by decide)]) rfl
  rw [e7]
  have es : eS T n (i + 1) = tE T n e := by rw [← t3]; rfl
  refine sp_X9_kindOf (T := T) (n := n) (c := c) hP r1 (by omega) (fun I2 e2 => qv (kk I2 ⟨?_, ?_, ?_⟩ ⟨c, i + 1, ?_, by omega, es, ?_, ?_, ?_, ?_⟩))
  · rw [e2, e1]; exact cFr_c (cFr_c (cFr_rf _ _) (by simp)) (by simp)
  · rw [e2, zuI_o (by decide), e1, zuI_o (by decide)]
  · rw [e2, zuI_o (by decide), e1, zuI_o (by decide)]
  · exact tkR_c r1 (by rw [e2, zuI_ne (by decide)]) (by rw [e2, zuI_ne (by decide)]) (by rw [e2, zuI_ne (by decide)]) rfl
  · rw [e2, zuI_o (by decide)]; exact e7
  · rw [e2, zuI_v, es]
  · rw [e2, zuI_o (by decide), e1, zuI_o (by decide)]; exact t6
  · rw [e2, zuI_o (by decide), e1, zuI_o (by decide)]; exact t7
theorem sp_X5_advanceB {k p : Nat} (hP : zPk P) (h : rB k p I) (hd : 1 ≤ d) {K : zI → zL → zP → Prop} (kk : K I L P) : zMv zm_X5_advance d [.ref 17] I L P K := by
  obtain ⟨d, rfl⟩ : ∃ e, d = e + 1 := ⟨d - 1, by omega⟩
  exact g_X5_advance hP ⟨fun _ => qv kk, fun q => absurd q (rB_n h)⟩
abbrev gw_X5_accept (d : Nat) (Q : zQt) (pc : Nat) (lv : zV) (st : List Value) (I : zI) (L : zL) (P : zP) : Prop := zW zm_X5_accept (zRm d 0 0) 0 0 Q pc lv st I L P 205 0 0
abbrev v_X5_accept (d : Nat) (Q : zQt) (p1 : Int32) (I : zI) (L : zL) (P : zP) : Prop :=
  ((¬ (I 17 8) = p1 →
    (((0 : Int32) = 0 →
      Q (some (.int 0)) I L P 205
    ) ∧ (¬ (0 : Int32) = 0 →
      zMv zm_X5_advance d [.ref 17] I L P (fun I3 L4 P5 =>
        Q (some (.int 0)) I3 L4 P5 205
      )
    ))
  ) ∧ ((I 17 8) = p1 →
    (((1 : Int32) = 0 →
      Q (some (.int 1)) I L P 205
    ) ∧ (¬ (1 : Int32) = 0 →
      zMv zm_X5_advance d [.ref 17] I L P (fun I9 L10 P11 =>
        Q (some (.int 1)) I9 L10 P11 205
      )
    ))
  ))
set_option maxRecDepth 20000 in
theorem g_X5_accept {d : Nat} {Q : zQt} {p1 : Int32} {I : zI} {L : zL} {P : zP} (hP : zPk P) (hv : v_X5_accept d Q p1 I L P) : zM zm_X5_accept (d + 1) 0 0 [.ref 17, .int p1] I L P 205 Q := by
  unfold v_X5_accept at hv
  refine zM_of (lv0 := [some (.ref 17), some (.int p1), none]) (by decide +kernel) (Nat.le_of_ble_eq_true rfl) rfl ?_
  refine z_aload_n dX5_accept_0 rfl ?_
  refine z_getI dX5_accept_1 zf_X5_29 zn_17 zo_17 (fun _ _ _ _ _ => rfl) ?_
  refine z_iload_n dX5_accept_4 rfl ?_
  refine z_icmp_ne (tgt := 12) dX5_accept_5 (by decide) (fun q1 => ?_) (fun q1 => ?_)
  · have hv := hv.1 q1
    refine z_iconst (v := 0) dX5_accept_12 (by decide) ?_
    refine z_istore_n (lv2 := [some (.ref 17), some (.int p1), some (.int 0)]) dX5_accept_13 (by decide) rfl rfl ?_
    refine z_iload_n dX5_accept_14 rfl ?_
    refine z_if_eq (tgt := 22) dX5_accept_15 (by decide) (fun q2 => ?_) (fun q2 => ?_)
    · have hv := hv.1 q2
      refine z_iload_n dX5_accept_22 rfl ?_
      exact z_ireturn dX5_accept_23 rfl (by decide) (Nat.le_refl _) (Nat.le_refl _) hv
    · have hv := hv.2 q2
      refine z_aload_n dX5_accept_18 rfl ?_
      refine z_callV (As := []) (st := []) dX5_accept_19 zl_X5_101 zv_X5_advance (by decide) rfl zn_17 zo_17 rfl rfl (Nat.le_of_ble_eq_true rfl) ⟨Nat.le_refl _, Nat.le_refl _⟩ ⟨Nat.le_refl _, Nat.le_refl _⟩ hv (fun v1 I3 L4 P5 nx1 q6 => ?_)
      obtain ⟨rfl, rfl, hv⟩ := q6
      refine z_iload_n dX5_accept_22 rfl ?_
      exact z_ireturn dX5_accept_23 rfl (by decide) (Nat.le_refl _) (Nat.le_refl _) hv
  · have hv := hv.2 q1
    refine z_iconst (v := 1) dX5_accept_8 (by decide) ?_
    refine z_goto (tgt := 13) dX5_accept_9 (by decide) ?_
    refine z_istore_n (lv2 := [some (.ref 17), some (.int p1), some (.int 1)]) dX5_accept_13 (by decide) rfl rfl ?_
    refine z_iload_n dX5_accept_14 rfl ?_
    refine z_if_eq (tgt := 22) dX5_accept_15 (by decide) (fun q8 => ?_) (fun q8 => ?_)
    · have hv := hv.1 q8
      refine z_iload_n dX5_accept_22 rfl ?_
      exact z_ireturn dX5_accept_23 rfl (by decide) (Nat.le_refl _) (Nat.le_refl _) hv
    · have hv := hv.2 q8
      refine z_aload_n dX5_accept_18 rfl ?_
      refine z_callV (As := []) (st := []) dX5_accept_19 zl_X5_101 zv_X5_advance (by decide) rfl zn_17 zo_17 rfl rfl (Nat.le_of_ble_eq_true rfl) ⟨Nat.le_refl _, Nat.le_refl _⟩ ⟨Nat.le_refl _, Nat.le_refl _⟩ hv (fun v1 I9 L10 P11 nx1 q12 => ?_)
      obtain ⟨rfl, rfl, hv⟩ := q12
      refine z_iload_n dX5_accept_22 rfl ?_
      exact z_ireturn dX5_accept_23 rfl (by decide) (Nat.le_refl _) (Nat.le_refl _) hv
theorem sp_X5_accept {w : Nat} (hP : zPk P) (h : rG T n I L e) (hw : w < 275) (hd : 2 ≤ d) {K : Int32 → zI → zL → zP → Prop} (k0 : ¬ tK T n e = w → K 0 I L P) (kk : tK T n e = w → ∀ I', rF0 I I' → rG T n I' L (tE T n e) → K 1 I' L P) : zMi zm_X5_accept d [.ref 17, .int (nI w)] I L P K := by
  obtain ⟨d, rfl⟩ : ∃ e, d = e + 1 := ⟨d - 1, by omega⟩
  have h8 := rG_w h (w := w) (by omega)
  refine g_X5_accept hP ⟨fun q => ⟨fun _ => qi (k0 (fun z => q (h8.mpr z))), fun z => absurd rfl z⟩, fun q => ⟨fun z => absurd z (by decide), fun _ => ?_⟩⟩
  rw [h8] at q
  exact sp_X5_advance hP h (by omega) (by omega) (fun I' a b => qi (kk q I' a b))
theorem sp_X5_acceptB {w k p : Nat} (hP : zPk P) (h : rB k p I) (hw : w < 275) (hd : 2 ≤ d) {K : Int32 → zI → zL → zP → Prop} (kk : K 0 I L P) : zMi zm_X5_accept d [.ref 17, .int (nI w)] I L P K := by
  obtain ⟨d, rfl⟩ : ∃ e, d = e + 1 := ⟨d - 1, by omega⟩
  exact g_X5_accept hP ⟨fun _ => ⟨fun _ => qi kk, fun z => absurd rfl z⟩, fun q => absurd q (rB_w h (by omega))⟩
abbrev gw_X5_expect (d : Nat) (Q : zQt) (pc : Nat) (lv : zV) (st : List Value) (I : zI) (L : zL) (P : zP) : Prop := zW zm_X5_expect (zRm d 0 0) 0 0 Q pc lv st I L P 205 0 0
abbrev v_X5_expect (d : Nat) (Q : zQt) (p1 : Int32) (I : zI) (L : zL) (P : zP) : Prop :=
  ((¬ (I 17 8) = p1 →
    zMv zm_X5_fail d [.ref 17, .int 2] I L P (fun I2 L3 P4 =>
      Q none I2 L3 P4 205
    )
  ) ∧ ((I 17 8) = p1 →
    zMv zm_X5_advance d [.ref 17] I L P (fun I7 L8 P9 =>
      Q none I7 L8 P9 205
    )
  ))
set_option maxRecDepth 20000 in
theorem g_X5_expect {d : Nat} {Q : zQt} {p1 : Int32} {I : zI} {L : zL} {P : zP} (hP : zPk P) (hv : v_X5_expect d Q p1 I L P) : zM zm_X5_expect (d + 1) 0 0 [.ref 17, .int p1] I L P 205 Q := by
  unfold v_X5_expect at hv
  refine zM_of (lv0 := [some (.ref 17), some (.int p1)]) (by decide +kernel) (Nat.le_of_ble_eq_true rfl) rfl ?_
  refine z_aload_n dX5_expect_0 rfl ?_
  refine z_getI dX5_expect_1 zf_X5_29 zn_17 zo_17 (fun _ _ _ _ _ => rfl) ?_
  refine z_iload_n dX5_expect_4 rfl ?_
  refine z_icmp_ne (tgt := 15) dX5_expect_5 (by decide) (fun q1 => ?_) (fun q1 => ?_)
  · have hv := hv.1 q1
    refine z_aload_n dX5_expect_15 rfl ?_
    refine z_iconst (v := 2) dX5_expect_16 (by decide) ?_
    refine z_callV (As := [.int 2]) (st := []) dX5_expect_17 zl_X5_73 zv_X5_fail (by decide) rfl zn_17 zo_17 rfl rfl (Nat.le_of_ble_eq_true rfl) ⟨Nat.le_refl _, Nat.le_refl _⟩ ⟨Nat.le_refl _, Nat.le_refl _⟩ hv (fun v1 I2 L3 P4 nx1 q5 => ?_)
    obtain ⟨rfl, rfl, hv⟩ := q5
    exact z_return dX5_expect_20 rfl (Nat.le_refl _) (Nat.le_refl _) hv
  · have hv := hv.2 q1
    refine z_aload_n dX5_expect_8 rfl ?_
    refine z_callV (As := []) (st := []) dX5_expect_9 zl_X5_101 zv_X5_advance (by decide) rfl zn_17 zo_17 rfl rfl (Nat.le_of_ble_eq_true rfl) ⟨Nat.le_refl _, Nat.le_refl _⟩ ⟨Nat.le_refl _, Nat.le_refl _⟩ hv (fun v1 I7 L8 P9 nx1 q10 => ?_)
    obtain ⟨rfl, rfl, hv⟩ := q10
    refine z_goto (tgt := 20) dX5_expect_12 (by decide) ?_
    exact z_return dX5_expect_20 rfl (Nat.le_refl _) (Nat.le_refl _) hv
theorem fk_mis (e : Nat) : fk T n e 2 = mis T n e := rfl
theorem sp_X5_expect {w : Nat} (hP : zPk P) (h : rG T n I L e) (hw : w < 275) (hd : 2 ≤ d) {K : zI → zL → zP → Prop} (k0 : ¬ tK T n e = w → ∀ I', rF0 I I' → rB (mis T n e) (tA T n e) I' → K I' L P) (kk : tK T n e = w → ∀ I', rF0 I I' → rG T n I' L (tE T n e) → K I' L P) : zMv zm_X5_expect d [.ref 17, .int (nI w)] I L P K := by
  obtain ⟨d, rfl⟩ : ∃ e, d = e + 1 := ⟨d - 1, by omega⟩
  have h8 := rG_w h (w := w) (by omega)
  refine g_X5_expect hP ⟨fun q => sp_X5_fail (k := 2) hP h (by decide) (by omega) (fun I' a b => qv (k0 (fun z => q (h8.mpr z)) I' a b)), fun q => ?_⟩
  rw [h8] at q
  exact sp_X5_advance hP h (by omega) (by omega) (fun I' a b => qv (kk q I' a b))
theorem sp_X5_expectB {w k p : Nat} (hP : zPk P) (h : rB k p I) (hw : w < 275) (hd : 2 ≤ d) {K : zI → zL → zP → Prop} (kk : K I L P) : zMv zm_X5_expect d [.ref 17, .int (nI w)] I L P K := by
  obtain ⟨d, rfl⟩ : ∃ e, d = e + 1 := ⟨d - 1, by omega⟩
  exact g_X5_expect hP ⟨fun _ => sp_X5_failB hP h (by omega) (qv kk), fun q => absurd q (rB_w h (by omega))⟩
abbrev gw_X2_find (d : Nat) (Q : zQt) (pc : Nat) (lv : zV) (st : List Value) (I : zI) (L : zL) (P : zP) : Prop := zW zm_X2_find (zRm d 0 0) 0 0 Q pc lv st I L P 205 0 0
abbrev v_X2_find_2 (d : Nat) (Q : zQt) (a : Nat) (p1 : Int64) (x3 : Int32) (I : zI) (L : zL) (P : zP) : Prop :=
  (a < 205 ∧ (zsh a).1 = 2) ∧
  (((I a 0) ≤ x3 →
    Q (some (.int (-1))) I L P 205
  ) ∧ (¬ (I a 0) ≤ x3 →
    ∃ b3 : Nat, P a 8 = some b3 ∧
    ∃ n6, (b3 < 205 ∧ zsh b3 = (101, n6)) ∧
    vp_in x3 n6 ∧
    ((¬ (lg_cmp (L b3 x3.toNatClampNeg) p1) = 0 →
      gw_X2_find d Q 2 [some (.ref a), some (.long p1), none, some (.int (x3 + 1))] [] I L P
    ) ∧ ((lg_cmp (L b3 x3.toNatClampNeg) p1) = 0 →
      Q (some (.int x3)) I L P 205
    ))
  ))
set_option maxRecDepth 20000 in
theorem g_X2_find_2 {d : Nat} {Q : zQt} {a : Nat} {p1 : Int64} {x3 : Int32} {I : zI} {L : zL} {P : zP} (hP : zPk P) (hv : v_X2_find_2 d Q a p1 x3 I L P) : gw_X2_find d Q 2 [some (.ref a), some (.long p1), none, some (.int x3)] [] I L P := by
  unfold v_X2_find_2 at hv
  refine z_iload_n dX2_find_2 rfl ?_
  refine z_aload_n dX2_find_3 rfl ?_
  obtain ⟨h1, hv⟩ := hv
  refine z_getI dX2_find_4 zf_X2_29 h1.1 h1.2 (fun _ _ _ _ _ => rfl) ?_
  refine z_icmp_ge (tgt := 29) dX2_find_7 (by decide) (fun q2 => ?_) (fun q2 => ?_)
  · have hv := hv.1 q2
    refine z_iconst (v := (-1)) dX2_find_29 (by decide) ?_
    exact z_ireturn dX2_find_30 rfl rfl (Nat.le_refl _) (Nat.le_refl _) hv
  · have hv := hv.2 q2
    refine z_aload_n dX2_find_10 rfl ?_
    obtain ⟨b3, h4, hv⟩ := hv
    refine z_getP dX2_find_11 zf_X2_11 h1.1 h1.2 (fun _ _ _ _ _ => rfl) h4 ?_
    refine z_iload_n dX2_find_14 rfl ?_
    obtain ⟨n6, h5, hv⟩ := hv
    obtain ⟨h7, hv⟩ := hv
    refine z_laload dX2_find_15 h5.1 h5.2 h7 ?_
    refine z_lload_n dX2_find_16 rfl ?_
    refine z_lcmp dX2_find_17 ?_
    refine z_if_ne (tgt := 23) dX2_find_18 (by decide) (fun q8 => ?_) (fun q8 => ?_)
    · have hv := hv.1 q8
      refine z_iinc (v2 := x3 + 1) (lv2 := [some (.ref a), some (.long p1), none, some (.int (x3 + 1))]) dX2_find_23 rfl (by rfl) (by decide) rfl rfl ?_
      refine z_goto (tgt := 2) dX2_find_26 (by decide) ?_
      exact hv
    · have hv := hv.2 q8
      refine z_iload_n dX2_find_21 rfl ?_
      exact z_ireturn dX2_find_22 rfl rfl (Nat.le_refl _) (Nat.le_refl _) hv
abbrev v_X2_find (d : Nat) (Q : zQt) (a : Nat) (p1 : Int64) (I : zI) (L : zL) (P : zP) : Prop :=
  gw_X2_find d Q 2 [some (.ref a), some (.long p1), none, some (.int 0)] [] I L P
set_option maxRecDepth 20000 in
theorem g_X2_find {d : Nat} {Q : zQt} {a : Nat} {p1 : Int64} {I : zI} {L : zL} {P : zP} (hP : zPk P) (hv : v_X2_find d Q a p1 I L P) : zM zm_X2_find d 0 0 [.ref a, .long p1] I L P 205 Q := by
  unfold v_X2_find at hv
  refine zM_of (lv0 := [some (.ref a), some (.long p1), none, none]) (by decide +kernel) (Nat.le_of_ble_eq_true rfl) rfl ?_
  refine z_iconst (v := 0) dX2_find_0 (by decide) ?_
  refine z_istore_n (lv2 := [some (.ref a), some (.long p1), none, some (.int 0)]) dX2_find_1 (by decide) rfl rfl ?_
  exact hv
theorem sp_X2_find {t np : Nat} {x : Int64} (hP : zPk P) (hH : iH t np I) {K : Int32 → zI → zL → zP → Prop} (kk : K (oI (nfD (L (t + 1)) x np 0)) I L P) : zMi zm_X2_find d [.ref t, .long x] I L P K := by
  obtain ⟨b1, b2, -⟩ := il_P hH.1 hP
  have hnp := hH.2.1
  have key : ∀ m i, i + m = np → nfD (L (t + 1)) x m i = nfD (L (t + 1)) x np 0 → gw_X2_find d (fun v I' L' P' nx' => nx' = 205 ∧ ∃ r, v = some (.int r) ∧ K r I' L' P') 2 [some (.ref t), some (.long x), none, some (.int (nI i))] [] I L P := by
    intro m
    induction m with
    | zero =>
      intro i hi hr
      refine g_X2_find_2 hP ⟨b1, fun _ => ?_, fun q => absurd (by rw [hH.2.2]; exact nI_le (by omega) (by omega)) q⟩
      rw [← hr] at kk
      exact qi kk
    | succ m ih =>
      intro i hi hr
      refine g_X2_find_2 hP ⟨b1, fun q => absurd q (by rw [hH.2.2]; exact nI_ge (by omega) (by omega)), fun _ => ⟨t + 1, b2.1, 8, b2.2, nx_in (by omega) (by decide), fun q => ?_, fun q => ?_⟩⟩
      · rw [nI_cl (by omega), lg_cmp_eq] at q
        rw [nI_1]
        refine ih (i + 1) (by omega) ?_
        rw [← hr]
        exact (if_neg q).symm
      · rw [nI_cl (by omega), lg_cmp_eq] at q
        have : nfD (L (t + 1)) x np 0 = some i := by rw [← hr]; exact if_pos q
        rw [this] at kk
        exact qi kk
  exact g_X2_find hP (key np 0 (by omega) rfl)
abbrev gw_X5_readName (d : Nat) (Q : zQt) (pc : Nat) (lv : zV) (st : List Value) (I : zI) (L : zL) (P : zP) : Prop := zW zm_X5_readName (zRm d 0 0) 0 0 Q pc lv st I L P 205 0 0
abbrev v_X5_readName (d : Nat) (Q : zQt)  (I : zI) (L : zL) (P : zP) : Prop :=
  (((I 17 8) = 273 →
    ∃ b2 : Nat, P 17 3 = some b2 ∧
    zMl zm_X9_valueOf d [.ref 18, .int (I 17 7)] I L P (fun r8 I4 L5 P6 =>
      (b2 < 205 ∧ (zsh b2).1 = 2) ∧
      zMi zm_X2_find d [.ref b2, .long r8] I4 L5 P6 (fun r14 I10 L11 P12 =>
        ((¬ r14 = (-1) →
          Q (some (.int r14)) I10 L11 P12 205
        ) ∧ (r14 = (-1) →
          zMv zm_X5_fail d [.ref 17, .int 4] I10 L11 P12 (fun I16 L17 P18 =>
            Q (some (.int r14)) I16 L17 P18 205
          )
        ))
      )
    )
  ) ∧ (¬ (I 17 8) = 273 →
    zMv zm_X5_fail d [.ref 17, .int 2] I L P (fun I21 L22 P23 =>
      Q (some (.int (-1))) I21 L22 P23 205
    )
  ))
set_option maxRecDepth 20000 in
theorem g_X5_readName {d : Nat} {Q : zQt}  {I : zI} {L : zL} {P : zP} (hP : zPk P) (hv : v_X5_readName d Q  I L P) : zM zm_X5_readName (d + 1) 0 0 [.ref 17] I L P 205 Q := by
  unfold v_X5_readName at hv
  refine zM_of (lv0 := [some (.ref 17), none]) (by decide +kernel) (Nat.le_of_ble_eq_true rfl) rfl ?_
  refine z_aload_n dX5_readName_0 rfl ?_
  refine z_getI dX5_readName_1 zf_X5_29 zn_17 zo_17 (fun _ _ _ _ _ => rfl) ?_
  refine z_sipush (v := 273) dX5_readName_4 (by decide) ?_
  refine z_icmp_eq (tgt := 17) dX5_readName_7 (by decide) (fun q1 => ?_) (fun q1 => ?_)
  · have hv := hv.1 q1
    refine z_aload_n dX5_readName_17 rfl ?_
    obtain ⟨b2, h3, hv⟩ := hv
    refine z_getP dX5_readName_18 zf_X5_41 zn_17 zo_17 (fun _ _ _ _ _ => rfl) h3 ?_
    refine z_aload_n dX5_readName_21 rfl ?_
    refine z_getP dX5_readName_22 zf_X5_37 zn_17 zo_17 (fun _ _ _ _ _ => rfl) (hP 17 2 18 zp_17_2) ?_
    refine z_aload_n dX5_readName_25 rfl ?_
    refine z_getI dX5_readName_26 zf_X5_24 zn_17 zo_17 (fun _ _ _ _ _ => rfl) ?_
    refine z_callV (As := [.int (I 17 7)]) (st := [.ref b2]) dX5_readName_29 zl_X5_104 zv_X9_valueOf (by decide) rfl zn_18 zo_18 rfl rfl (Nat.le_of_ble_eq_true rfl) ⟨Nat.le_refl _, Nat.le_refl _⟩ ⟨Nat.le_refl _, Nat.le_refl _⟩ hv (fun v1 I4 L5 P6 nx1 q7 => ?_)
    obtain ⟨rfl, r8, rfl, hv⟩ := q7
    obtain ⟨h9, hv⟩ := hv
    refine z_callV (As := [.long r8]) (st := []) dX5_readName_32 zl_X5_111 zv_X2_find (by decide) rfl h9.1 h9.2 rfl rfl (Nat.le_of_ble_eq_true rfl) ⟨Nat.le_refl _, Nat.le_refl _⟩ ⟨Nat.le_refl _, Nat.le_refl _⟩ hv (fun v1 I10 L11 P12 nx1 q13 => ?_)
    obtain ⟨rfl, r14, rfl, hv⟩ := q13
    refine z_istore_n (lv2 := [some (.ref 17), some (.int r14)]) dX5_readName_35 (by decide) rfl rfl ?_
    refine z_iload_n dX5_readName_36 rfl ?_
    refine z_iconst (v := (-1)) dX5_readName_37 (by decide) ?_
    refine z_icmp_ne (tgt := 46) dX5_readName_38 (by decide) (fun q15 => ?_) (fun q15 => ?_)
    · have hv := hv.1 q15
      refine z_iload_n dX5_readName_46 rfl ?_
      exact z_ireturn dX5_readName_47 rfl rfl (Nat.le_refl _) (Nat.le_refl _) hv
    · have hv := hv.2 q15
      refine z_aload_n dX5_readName_41 rfl ?_
      refine z_iconst (v := 4) dX5_readName_42 (by decide) ?_
      refine z_callV (As := [.int 4]) (st := []) dX5_readName_43 zl_X5_73 zv_X5_fail (by decide) rfl zn_17 zo_17 rfl rfl (Nat.le_of_ble_eq_true rfl) ⟨Nat.le_refl _, Nat.le_refl _⟩ ⟨Nat.le_refl _, Nat.le_refl _⟩ hv (fun v1 I16 L17 P18 nx1 q19 => ?_)
      obtain ⟨rfl, rfl, hv⟩ := q19
      refine z_iload_n dX5_readName_46 rfl ?_
      exact z_ireturn dX5_readName_47 rfl rfl (Nat.le_refl _) (Nat.le_refl _) hv
  · have hv := hv.2 q1
    refine z_aload_n dX5_readName_10 rfl ?_
    refine z_iconst (v := 2) dX5_readName_11 (by decide) ?_
    refine z_callV (As := [.int 2]) (st := []) dX5_readName_12 zl_X5_73 zv_X5_fail (by decide) rfl zn_17 zo_17 rfl rfl (Nat.le_of_ble_eq_true rfl) ⟨Nat.le_refl _, Nat.le_refl _⟩ ⟨Nat.le_refl _, Nat.le_refl _⟩ hv (fun v1 I21 L22 P23 nx1 q24 => ?_)
    obtain ⟨rfl, rfl, hv⟩ := q24
    refine z_iconst (v := (-1)) dX5_readName_15 (by decide) ?_
    exact z_ireturn dX5_readName_16 rfl rfl (Nat.le_refl _) (Nat.le_refl _) hv
theorem sp_X5_readName {t np : Nat} (hP : zPk P) (h : rG T n I L e) (ht : P 17 3 = some t) (hH : iH t np I) (hd : 2 ≤ d) {K : Int32 → zI → zL → zP → Prop}
    (k0 : ¬ tK T n e = 273 → ∀ I', rF0 I I' → rB (mis T n e) (tA T n e) I' → K (-1) I' L P)
    (k1 : tK T n e = 273 → nfD (L (t + 1)) (tV T n e) np 0 = none → ∀ I', rF0 I I' → rB 4 (tA T n e) I' → K (-1) I' L P)
    (kk : tK T n e = 273 → ∀ k, nfD (L (t + 1)) (tV T n e) np 0 = some k → k < np → K (nI k) I L P) : zMi zm_X5_readName d [.ref 17] I L P K := by
  obtain ⟨d, rfl⟩ : ∃ e, d = e + 1 := ⟨d - 1, by omega⟩
  have h8 := rG_w h (w := 273) (by decide)
  have hr := h
  obtain ⟨c, i, t1, t2, t3, t4, t5, t6, t7⟩ := h
  refine g_X5_readName hP ⟨fun q => ⟨t, ht, ?_⟩, fun q => sp_X5_fail (k := 2) hP hr (by decide) (by omega) (fun I' a b => qi (k0 (fun z => q (h8.mpr z)) I' a b))⟩
  have q := h8.mp q
  rw [t4]
  refine sp_X9_valueOf (T := T) (n := n) (c := c) hP t1 t2 ⟨(il_P hH.1 hP).1, ?_⟩
  have ev : L 22 i = tV T n e := by
    have := (t1.2.1 i (by omega)).2.2.1
    rw [t3, q] at this
    exact this (by decide) (by decide)
  rw [ev]
  refine sp_X2_find hP hH ?_
  cases ho : nfD (L (t + 1)) (tV T n e) np 0 with
  | none => exact ⟨fun z => absurd rfl z, fun _ => sp_X5_fail (k := 4) hP hr (by decide) (by omega) (fun I' a b => qi (k1 q ho I' a (by unfold fk at b; rw [if_neg (by omega)] at b; exact b)))⟩
  | some k =>
    have hlt := (nfD_lt ho).2
    have hnp := hH.2.1
    refine ⟨fun _ => qi (kk q k ho (by omega)), fun z => ?_⟩
    have z : nI k = -1 := z
    have := congrArg Int32.toInt z
    rw [nI_toInt (by omega)] at this
    have h1 : (-1 : Int32).toInt = -1 := by decide
    omega
theorem sp_X5_readNameB {k p : Nat} (hP : zPk P) (h : rB k p I) (hd : 2 ≤ d) {K : Int32 → zI → zL → zP → Prop} (kk : K (-1) I L P) : zMi zm_X5_readName d [.ref 17] I L P K := by
  obtain ⟨d, rfl⟩ : ∃ e, d = e + 1 := ⟨d - 1, by omega⟩
  exact g_X5_readName hP ⟨fun q => absurd q (rB_w (w := 273) h (by decide)), fun _ => sp_X5_failB hP h (by omega) (qi kk)⟩
end RD
