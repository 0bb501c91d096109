/-! ===== class and model: calls that tell ===== -/
def Rn (I : zI) (L : zL) (P : zP) : Prop := ∃ t st b cd, Rl I I L P t st b cd
section QA
variable {d : Nat} {I : zI} {L : zL} {P : zP} {t st : Nat} {b : Nat → Nat} {cd : Nat → Cd}
/-- what comes of a call of both -/
abbrev q2 (r : Int32) : Int32 → zI → zL → zP → Prop := fun r' I' L' P' => r' = r ∧ zPk P' ∧ Rn I' L' P'
theorem qj {y : zY} {dd : Nat} {av : List Value} {r : Int32} {I' : zI} {L' : zL} {P' : zP} (hP : zPk P') (h : zMi y dd av I' L' P' (q2 r)) : (205 : Nat) = 205 ∧ ∃ r', some (Value.int r) = some (.int r') ∧ (zPk P' ∧ zMi y dd av I' L' P' (q2 r')) := ⟨rfl, r, rfl, hP, h⟩
theorem Rn_i (h : Rl I I L P t st b cd) : Rn I L P := ⟨t, st, b, cd, h⟩
theorem q2_s {r : Int32} (h : Rl I I L P t st b cd) : q2 r r I L P := ⟨rfl, h.1.1, Rn_i h⟩
/-- the class worked beside what counts, and the heap is one -/
theorem Rl_q {I' : zI} {L' : zL} {P' : zP} (h : Rl I I L P t st b cd) (hf : ∀ a, kC a ∨ 160 ≤ a → I' a = I a) (h17 : I' 17 0 = I 17 0 ∧ I' 17 1 = I 17 1) (hg : gK I I') (hL : ∀ x, (x = 6 ∨ x = 12 ∨ x = 19 ∨ x = 174) → L' x = L x) (hP : zPk P') (hp : ∀ a k, (a = 0 ∨ a = 73 ∨ a = 121 ∨ a = 134 ∨ a = 147) → P' a k = P a k) : Rl I' I' L' P' t st b cd :=
  Rl_same (Rl_cl h (fun a ha => hf a (Or.inl ha)) h17 hg hL hP hp) (fun a ha => hf a (Or.inr ha))
theorem Rl_t0 (h : Rl I I L P t st b cd) : I t 0 = nI (vNp I) ∧ vNp I ≤ 8 ∧ il t := ⟨h.2.2.1.1.1.2.2, h.2.2.1.1.1.2.1, h.2.2.1.1.1.1⟩
theorem gK_c {M I I' : zI} (h : gK M I) (hs : vNs M ≤ 6) (e : ∀ a, 96 ≤ a → a ≤ 119 → I' a = I a) : gK M I' := by
  intro z1 z2 i hi
  rw [e 96 (by omega) (by omega)] at z1
  exact gN_c (h z1 z2 i hi) (e _ (by omega) (by omega))
abbrev gw_X11_fault (d : Nat) (Q : zQt) (pc : Nat) (lv : zV) (st : List Value) (I : zI) (L : zL) (P : zP) : Prop := zW zm_X11_fault (zRm d 0 0) 0 0 Q pc lv st I L P 205 0 0
abbrev v_X11_fault (d : Nat) (Q : zQt) (p1 : Int32) (I : zI) (L : zL) (P : zP) : Prop :=
  ((¬ p1 = 0 →
    ((¬ p1 = 1 →
      Q (some (.int (-1))) I L P 205
    ) ∧ (p1 = 1 →
      Q (some (.int (I 17 1))) I L P 205
    ))
  ) ∧ (p1 = 0 →
    Q (some (.int (I 17 0))) I L P 205
  ))
set_option maxRecDepth 20000 in
theorem g_X11_fault {d : Nat} {Q : zQt} {p1 : Int32} {I : zI} {L : zL} {P : zP} (hP : zPk P) (hv : v_X11_fault d Q p1 I L P) : zM zm_X11_fault d 0 0 [.ref 0, .int p1] I L P 205 Q := by
  unfold v_X11_fault at hv
  refine zM_of (lv0 := [some (.ref 0), some (.int p1)]) (by decide +kernel) (Nat.le_of_ble_eq_true rfl) rfl ?_
  refine z_iload_n dX11_fault_0 rfl ?_
  refine z_if_ne (tgt := 12) dX11_fault_1 (by decide) (fun q1 => ?_) (fun q1 => ?_)
  · have hv := hv.1 q1
    refine z_iload_n dX11_fault_12 rfl ?_
    refine z_iconst (v := 1) dX11_fault_13 (by decide) ?_
    refine z_icmp_ne (tgt := 27) dX11_fault_14 (by decide) (fun q2 => ?_) (fun q2 => ?_)
    · have hv := hv.1 q2
      refine z_iconst (v := (-1)) dX11_fault_27 (by decide) ?_
      exact z_ireturn dX11_fault_28 rfl rfl (Nat.le_refl _) (Nat.le_refl _) hv
    · have hv := hv.2 q2
      refine z_aload_n dX11_fault_17 rfl ?_
      refine z_getP dX11_fault_18 zf_X11_38 zn_0 zo_0 (fun _ _ _ _ _ => rfl) (hP 0 4 17 zp_0_4) ?_
      refine z_getI dX11_fault_21 zf_X11_124 zn_17 zo_17 (fun _ _ _ _ _ => rfl) ?_
      refine z_goto (tgt := 28) dX11_fault_24 (by decide) ?_
      exact z_ireturn dX11_fault_28 rfl rfl (Nat.le_refl _) (Nat.le_refl _) hv
  · have hv := hv.2 q1
    refine z_aload_n dX11_fault_4 rfl ?_
    refine z_getP dX11_fault_5 zf_X11_38 zn_0 zo_0 (fun _ _ _ _ _ => rfl) (hP 0 4 17 zp_0_4) ?_
    refine z_getI dX11_fault_8 zf_X11_121 zn_17 zo_17 (fun _ _ _ _ _ => rfl) ?_
    exact z_ireturn dX11_fault_11 rfl rfl (Nat.le_refl _) (Nat.le_refl _) hv
theorem q_fault {w : Int32} (h : Rl I I L P t st b cd) : zMi zm_X11_fault d [.ref 0, .int w] I L P (fun r I1 L1 P1 => zPk P1 ∧ zMi zm_X12_fault d [.ref 160, .int w] I1 L1 P1 (q2 r)) := by
  have hP := h.1.1
  have e := h.2.2.2.2.1
  refine g_X11_fault hP ⟨fun q => ⟨fun q2 => qj hP (sp_X12_fault hP ?_), fun q2 => qj hP (sp_X12_fault hP ?_)⟩, fun q => qj hP (sp_X12_fault hP ?_)⟩
  · rw [if_neg q, if_neg q2]; exact q2_s h
  · rw [if_neg q, if_pos q2, e.2]; exact q2_s h
  · rw [if_pos q, e.1]; exact q2_s h
abbrev gw_X11_worlds (d : Nat) (Q : zQt) (pc : Nat) (lv : zV) (st : List Value) (I : zI) (L : zL) (P : zP) : Prop := zW zm_X11_worlds (zRm d 0 0) 0 0 Q pc lv st I L P 205 0 0
abbrev v_X11_worlds (d : Nat) (Q : zQt)  (I : zI) (L : zL) (P : zP) : Prop :=
  Q (some (.int (I 73 3))) I L P 205
set_option maxRecDepth 20000 in
theorem g_X11_worlds {d : Nat} {Q : zQt}  {I : zI} {L : zL} {P : zP} (hP : zPk P) (hv : v_X11_worlds d Q  I L P) : zM zm_X11_worlds d 0 0 [.ref 0] I L P 205 Q := by
  unfold v_X11_worlds at hv
  refine zM_of (lv0 := [some (.ref 0)]) (by decide +kernel) (Nat.le_of_ble_eq_true rfl) rfl ?_
  refine z_aload_n dX11_worlds_0 rfl ?_
  refine z_getP dX11_worlds_1 zf_X11_57 zn_0 zo_0 (fun _ _ _ _ _ => rfl) (hP 0 6 73 zp_0_6) ?_
  refine z_getI dX11_worlds_4 zf_X11_135 zn_73 zo_73 (fun _ _ _ _ _ => rfl) ?_
  exact z_ireturn dX11_worlds_7 rfl rfl (Nat.le_refl _) (Nat.le_refl _) hv
theorem q_worlds (h : Rl I I L P t st b cd) (hd : 2 ≤ d) : zMi zm_X11_worlds d [.ref 0] I L P (fun r I1 L1 P1 => zPk P1 ∧ zMi zm_X12_worlds d [.ref 160] I1 L1 P1 (q2 r)) := by
  have hP := h.1.1
  obtain ⟨g, hs, -⟩ := h.2.2.2.2.2.1
  refine g_X11_worlds hP (qj hP (sp_X12_worlds hP h.2.1.1.1.1 hd ?_))
  have := hs.1.2.1.1
  rw [lP_len] at this
  rw [this]
  exact q2_s h
abbrev gw_X11_gone (d : Nat) (Q : zQt) (pc : Nat) (lv : zV) (st : List Value) (I : zI) (L : zL) (P : zP) : Prop := zW zm_X11_gone (zRm d 0 0) 0 0 Q pc lv st I L P 205 0 0
abbrev v_X11_gone (d : Nat) (Q : zQt)  (I : zI) (L : zL) (P : zP) : Prop :=
  Q (some (.int (I 73 4))) I L P 205
set_option maxRecDepth 20000 in
theorem g_X11_gone {d : Nat} {Q : zQt}  {I : zI} {L : zL} {P : zP} (hP : zPk P) (hv : v_X11_gone d Q  I L P) : zM zm_X11_gone d 0 0 [.ref 0] I L P 205 Q := by
  unfold v_X11_gone at hv
  refine zM_of (lv0 := [some (.ref 0)]) (by decide +kernel) (Nat.le_of_ble_eq_true rfl) rfl ?_
  refine z_aload_n dX11_gone_0 rfl ?_
  refine z_getP dX11_gone_1 zf_X11_57 zn_0 zo_0 (fun _ _ _ _ _ => rfl) (hP 0 6 73 zp_0_6) ?_
  refine z_getI dX11_gone_4 zf_X11_196 zn_73 zo_73 (fun _ _ _ _ _ => rfl) ?_
  exact z_ireturn dX11_gone_7 rfl rfl (Nat.le_refl _) (Nat.le_refl _) hv
theorem q_gone (h : Rl I I L P t st b cd) : zMi zm_X11_gone d [.ref 0] I L P (fun r I1 L1 P1 => zPk P1 ∧ zMi zm_X12_gone d [.ref 160] I1 L1 P1 (q2 r)) := by
  have hP := h.1.1
  obtain ⟨g, hs, -⟩ := h.2.2.2.2.2.1
  refine g_X11_gone hP (qj hP (sp_X12_gone hP ?_))
  have e1 := hs.2.2.1.1
  have e2 := h.2.1.1.2.2.2.1.2
  rw [e1, e2]
  exact q2_s h
abbrev gw_X11_sees (d : Nat) (Q : zQt) (pc : Nat) (lv : zV) (st : List Value) (I : zI) (L : zL) (P : zP) : Prop := zW zm_X11_sees (zRm d 0 0) 0 0 Q pc lv st I L P 205 0 0
abbrev v_X11_sees (d : Nat) (Q : zQt) (p1 : Int32) (I : zI) (L : zL) (P : zP) : Prop :=
  ∃ b1 : Nat, P 0 2 = some b1 ∧
  (b1 < 205 ∧ (zsh b1).1 = 2) ∧
  il b1 ∧
  vp_in (I b1 0) 9 ∧
  (((bP (vp_in p1 (I b1 0).toNatClampNeg)) = 0 →
    Q (some (.int (-1))) I L P 205
  ) ∧ (¬ (bP (vp_in p1 (I b1 0).toNatClampNeg)) = 0 →
    ∃ b9 : Nat, P b1 9 = some b9 ∧
    ∃ n12, (b9 < 205 ∧ zsh b9 = (100, n12)) ∧
    vp_in p1 n12 ∧
    Q (some (.int (I b9 p1.toNatClampNeg))) I L P 205
  ))
set_option maxRecDepth 20000 in
theorem g_X11_sees {d : Nat} {Q : zQt} {p1 : Int32} {I : zI} {L : zL} {P : zP} (hP : zPk P) (hv : v_X11_sees d Q p1 I L P) : zM zm_X11_sees (d + 1) 0 0 [.ref 0, .int p1] I L P 205 Q := by
  unfold v_X11_sees at hv
  refine zM_of (lv0 := [some (.ref 0), some (.int p1)]) (by decide +kernel) (Nat.le_of_ble_eq_true rfl) rfl ?_
  refine z_aload_n dX11_sees_0 rfl ?_
  obtain ⟨b1, h2, hv⟩ := hv
  refine z_getP dX11_sees_1 zf_X11_26 zn_0 zo_0 (fun _ _ _ _ _ => rfl) h2 ?_
  refine z_iload_n dX11_sees_4 rfl ?_
  obtain ⟨h3, hv⟩ := hv
  obtain ⟨h4, hv⟩ := hv
  obtain ⟨h5, hv⟩ := hv
  refine z_callV (As := [.int p1]) (st := []) dX11_sees_5 zl_X11_127 zv_X2_isPerson (by decide) rfl h3.1 h3.2 rfl rfl (Nat.le_of_ble_eq_true rfl) ⟨Nat.le_refl _, Nat.le_refl _⟩ ⟨Nat.le_refl _, Nat.le_refl _⟩ (sp_X2_isPerson hP h4 h5 (K := fun r I' L' P' => bP (vp_in p1 (I b1 0).toNatClampNeg) = r ∧ I = I' ∧ L = L' ∧ P = P') ⟨rfl, rfl, rfl, rfl⟩) (fun v1 I2 L2 P2 nx1 q7 => ?_)
  obtain ⟨rfl, r6, rfl, rfl, rfl, rfl, rfl⟩ := q7
  refine z_if_eq (tgt := 23) dX11_sees_8 (by decide) (fun q8 => ?_) (fun q8 => ?_)
  · have hv := hv.1 q8
    refine z_iconst (v := (-1)) dX11_sees_23 (by decide) ?_
    exact z_ireturn dX11_sees_24 rfl rfl (Nat.le_refl _) (Nat.le_refl _) hv
  · have hv := hv.2 q8
    refine z_aload_n dX11_sees_11 rfl ?_
    refine z_getP dX11_sees_12 zf_X11_26 zn_0 zo_0 (fun _ _ _ _ _ => rfl) h2 ?_
    obtain ⟨b9, h10, hv⟩ := hv
    refine z_getP dX11_sees_15 zf_X11_131 h3.1 h3.2 (fun _ _ _ _ _ => rfl) h10 ?_
    refine z_iload_n dX11_sees_18 rfl ?_
    obtain ⟨n12, h11, hv⟩ := hv
    obtain ⟨h13, hv⟩ := hv
    refine z_iaload dX11_sees_19 h11.1 h11.2 h13 ?_
    refine z_goto (tgt := 24) dX11_sees_20 (by decide) ?_
    exact z_ireturn dX11_sees_24 rfl rfl (Nat.le_refl _) (Nat.le_refl _) hv
theorem q_sees {x : Int32} (h : Rl I I L P t st b cd) (hd : 3 ≤ d) : zMi zm_X11_sees d [.ref 0, .int x] I L P (fun r I1 L1 P1 => zPk P1 ∧ zMi zm_X12_sees d [.ref 160, .int x] I1 L1 P1 (q2 r)) := by
  obtain ⟨d, rfl⟩ : ∃ e, d = e + 1 := ⟨d - 1, by omega⟩
  have hP := h.1.1
  obtain ⟨e0, h8, hi⟩ := Rl_t0 h
  obtain ⟨b1, b2, b3, -⟩ := il_P hi hP
  have hE := h.2.1.1.1
  refine g_X11_sees hP ⟨t, h.1.2.1, b1, hi, by rw [e0]; exact nx_in (by omega) (by decide), fun q => qj hP (sp_X12_sees hP hE.1 hE.2.1 (by omega) (fun _ => q2_s h) (fun v hv ev => ?_)), fun q => ⟨t + 2, b3.1, 8, b3.2, ?_, qj hP (sp_X12_sees hP hE.1 hE.2.1 (by omega) (fun z => ?_) (fun v hv ev => ?_))⟩⟩
  · rw [e0, nI_cl (by omega), bP_0] at q
    exact absurd (by rw [ev]; exact nx_in hv (by omega)) q
  · rw [e0, nI_cl (by omega), bP_n] at q
    obtain ⟨k, hk, rfl⟩ := vp_nI q (by omega)
    exact nx_in (by omega) (by decide)
  · rw [e0, nI_cl (by omega), bP_n] at q
    exact absurd q z
  · rw [ev, nI_cl (by omega), h.2.2.1.1.2.2.2.2.1 v hv]
    exact q2_s h
abbrev gw_X11_possible (d : Nat) (Q : zQt) (pc : Nat) (lv : zV) (st : List Value) (I : zI) (L : zL) (P : zP) : Prop := zW zm_X11_possible (zRm d 0 0) 0 0 Q pc lv st I L P 205 0 0
abbrev v_X11_possible (d : Nat) (Q : zQt) (p1 : Int32) (I : zI) (L : zL) (P : zP) : Prop :=
  ∃ b1 : Nat, P 0 2 = some b1 ∧
  (b1 < 205 ∧ (zsh b1).1 = 2) ∧
  il b1 ∧
  vp_in (I b1 0) 9 ∧
  ((¬ (bP (vp_in p1 (2 ^ (I b1 0).toNatClampNeg))) = 0 →
    zMi zm_X6_contains d [.ref 73, .int p1] I L P (fun r13 I9 L10 P11 =>
      ((r13 = 0 →
        Q (some (.int 0)) I9 L10 P11 205
      ) ∧ (¬ r13 = 0 →
        Q (some (.int 1)) I9 L10 P11 205
      ))
    )
  ) ∧ ((bP (vp_in p1 (2 ^ (I b1 0).toNatClampNeg))) = 0 →
    Q (some (.int (-1))) I L P 205
  ))
set_option maxRecDepth 20000 in
theorem g_X11_possible {d : Nat} {Q : zQt} {p1 : Int32} {I : zI} {L : zL} {P : zP} (hP : zPk P) (hd : 1 ≤ d) (hv : v_X11_possible d Q p1 I L P) : zM zm_X11_possible (d + 1) 0 0 [.ref 0, .int p1] I L P 205 Q := by
  unfold v_X11_possible at hv
  refine zM_of (lv0 := [some (.ref 0), some (.int p1)]) (by decide +kernel) (Nat.le_of_ble_eq_true rfl) rfl ?_
  refine z_aload_n dX11_possible_0 rfl ?_
  obtain ⟨b1, h2, hv⟩ := hv
  refine z_getP dX11_possible_1 zf_X11_26 zn_0 zo_0 (fun _ _ _ _ _ => rfl) h2 ?_
  refine z_iload_n dX11_possible_4 rfl ?_
  obtain ⟨h3, hv⟩ := hv
  obtain ⟨h4, hv⟩ := hv
  obtain ⟨h5, hv⟩ := hv
  refine z_callV (As := [.int p1]) (st := []) dX11_possible_5 zl_X11_136 zv_X2_isWorld (by decide) rfl h3.1 h3.2 rfl rfl (Nat.le_of_ble_eq_true rfl) ⟨Nat.le_refl _, Nat.le_refl _⟩ ⟨Nat.le_refl _, Nat.le_refl _⟩ (sp_X2_isWorld hP h4 h5 (by omega) (K := fun r I' L' P' => bP (vp_in p1 (2 ^ (I b1 0).toNatClampNeg)) = r ∧ I = I' ∧ L = L' ∧ P = P') ⟨rfl, rfl, rfl, rfl⟩) (fun v1 I2 L2 P2 nx1 q7 => ?_)
  obtain ⟨rfl, r6, rfl, rfl, rfl, rfl, rfl⟩ := q7
  refine z_if_ne (tgt := 13) dX11_possible_8 (by decide) (fun q8 => ?_) (fun q8 => ?_)
  · have hv := hv.1 q8
    refine z_aload_n dX11_possible_13 rfl ?_
    refine z_getP dX11_possible_14 zf_X11_57 zn_0 zo_0 (fun _ _ _ _ _ => rfl) (hP 0 6 73 zp_0_6) ?_
    refine z_iload_n dX11_possible_17 rfl ?_
    refine z_callV (As := [.int p1]) (st := []) dX11_possible_18 zl_X11_139 zv_X6_contains (by decide) rfl zn_73 zo_73 rfl rfl (Nat.le_of_ble_eq_true rfl) ⟨Nat.le_refl _, Nat.le_refl _⟩ ⟨Nat.le_refl _, Nat.le_refl _⟩ hv (fun v1 I9 L10 P11 nx1 q12 => ?_)
    obtain ⟨rfl, r13, rfl, hv⟩ := q12
    refine z_if_eq (tgt := 28) dX11_possible_21 (by decide) (fun q14 => ?_) (fun q14 => ?_)
    · have hv := hv.1 q14
      refine z_iconst (v := 0) dX11_possible_28 (by decide) ?_
      exact z_ireturn dX11_possible_29 rfl rfl (Nat.le_refl _) (Nat.le_refl _) hv
    · have hv := hv.2 q14
      refine z_iconst (v := 1) dX11_possible_24 (by decide) ?_
      refine z_goto (tgt := 29) dX11_possible_25 (by decide) ?_
      exact z_ireturn dX11_possible_29 rfl rfl (Nat.le_refl _) (Nat.le_refl _) hv
  · have hv := hv.2 q8
    refine z_iconst (v := (-1)) dX11_possible_11 (by decide) ?_
    exact z_ireturn dX11_possible_12 rfl rfl (Nat.le_refl _) (Nat.le_refl _) hv
theorem q_possible {x : Int32} (h : Rl I I L P t st b cd) (hd : 3 ≤ d) : zMi zm_X11_possible d [.ref 0, .int x] I L P (fun r I1 L1 P1 => zPk P1 ∧ zMi zm_X12_possible d [.ref 160, .int x] I1 L1 P1 (q2 r)) := by
  obtain ⟨d, rfl⟩ : ∃ e, d = e + 1 := ⟨d - 1, by omega⟩
  have hP := h.1.1
  obtain ⟨e0, h8, hi⟩ := Rl_t0 h
  obtain ⟨b1, -⟩ := il_P hi hP
  have hE := h.2.1.1.1
  have hN := vN_le hE.1
  obtain ⟨g, hs, -⟩ := h.2.2.2.2.2.1
  have eN : 2 ^ vNp I = vN I := rfl
  refine g_X11_possible hP (by omega) ⟨t, h.1.2.1, b1, hi, by rw [e0]; exact nx_in (by omega) (by decide), fun q => ?_, fun q => qj hP (sp_X12_possible hP hE.1 (by omega) (fun _ => q2_s h) (fun v hv ev => ?_))⟩
  · rw [e0, nI_cl (by omega), bP_n, eN] at q
    obtain ⟨w, hw, rfl⟩ := vp_nI q (by omega)
    have key : (∃ y ∈ lP (vPoss I) (vN I), nI y = nI w) ↔ vPoss I w := by
      constructor
      · rintro ⟨y, hy, e⟩
        have := (lP_mem.mp hy)
        rw [← (nI_eq (by omega) (by omega)).mp e]
        exact this.2
      · intro z
        exact ⟨w, lP_mem.mpr ⟨hw, z⟩, rfl⟩
    have mdl : ∀ r, r = bP (vPoss I w) → zMi zm_X12_possible (d + 1) [.ref 160, .int (nI w)] I L P (q2 r) := by
      intro r hr
      refine sp_X12_possible hP hE.1 (by omega) (fun z => absurd (nx_in hw (by omega)) z) (fun v hv ev => ?_)
      rw [← (nI_eq (by omega) (by omega)).mp ev, ← hr]
      exact q2_s h
    refine sp_X6_contains hP (Or.inl ⟨rfl, rfl, rfl⟩) hs.1.2.1 ⟨fun z => qj hP (mdl 0 ?_), fun z => qj hP (mdl 1 ?_)⟩
    · rw [bP_0, key] at z
      rw [bP_f z]
    · rw [bP_n, key] at z
      rw [bP_t z]
  · rw [e0, nI_cl (by omega), bP_0] at q
    exact absurd (by rw [ev, eN]; exact nx_in hv (by omega)) q
end QA
